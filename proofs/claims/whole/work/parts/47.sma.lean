def WF : ax_W := ([(2, 3)], [(1, 1)])
def XF : ax_W := ([(143, 144)], [(142, 1)])
def WT : ax_W := ([(2, 3), (143, 144)], [(1, 1), (142, 1)])
def WR : ax_W := ([(140, 141)], [])
def XR : ax_W := ([(144, 145)], [])
def WRR : ax_W := ([(140, 141), (144, 145)], [])
def WSE : ax_W := ([], [(0, 16)])
def XSE : ax_W := ([], [(142, 84)])
def WSS : ax_W := ([], [(0, 16), (142, 84)])
def WL : ax_W := ([], [(1, 1)])
def XL : ax_W := ([], [(142, 1)])
def OP (L : Nat) (X : Nat → Int) (n t j j' : Nat) (as as' : List ax_V) (M : ax_M) : Prop := ax_Ev L X SH 40 j as M (R1 t (fun x M1 => ax_Ev L X SH 40 j' as' M1 (R1 t (fun y M2 => y = x ∧ Rel (n + 1) M2))))
theorem andle {x : Int} {b : Nat} (hb : b < 2147483648) : 0 ≤ (Int32.ofInt x &&& Int32.ofInt (b : Int)).toInt ∧ (Int32.ofInt x &&& Int32.ofInt (b : Int)).toInt ≤ (b : Int) := by
  have e : (Int32.ofInt x &&& Int32.ofInt (b : Int)).toInt = (((Int32.ofInt x).toBitVec.toNat &&& b : Nat) : Int) := by
    show (Int32.ofInt x &&& Int32.ofInt (b : Int)).toBitVec.toInt = _
    rw [Int32.toBitVec_and, bvN]
    have h1 : ((Int32.ofInt x).toBitVec &&& BitVec.ofNat 32 b).toNat = (Int32.ofInt x).toBitVec.toNat &&& b := by
      rw [BitVec.toNat_and, BitVec.toNat_ofNat, Nat.mod_eq_of_lt (by omega)]
    have h2 : (Int32.ofInt x).toBitVec.toNat &&& b ≤ b := Nat.and_le_right
    rw [BitVec.toInt_eq_toNat_of_lt (by rw [h1]; omega), h1]
  have h2 : (Int32.ofInt x).toBitVec.toNat &&& b ≤ b := Nat.and_le_right
  rw [e]; omega
section GRE
variable {M M1 : ax_M} {h n m : Nat} {W : ax_W}
theorem GG.re (hG : GG n h M) (hh : h = 9 ∨ h = 27) (hS : Sb W M M1) (k1 : hokb W = true) (k2 : sokb W = true ∨ SW M1) (k3 : rokb W = true ∨ PW M1 h) (k4 : (sokb W && rokb W) = true ∨ RV M1 h M1) (k5 : (ccs W kT && ccf W kTf) = true ∨ GT M1) (k6 : (ccs W kN = true ∧ n ≤ m) ∨ GN m M1) (k7 : cf W 177 = true ∨ GM h M1) (k8 : kH W = true ∨ GH h M1) (k9 : (ccs W kS && ccf W kSf) = true ∨ GS h M1) (k10 : (ccs W kX && ccf W kXf) = true ∨ GX h M1) : GG m h M1 := by
  have hwh : hok W h := hokB k1 hh
  obtain ⟨a1, a2, a3, a4, a5, a6, a7, a8, a9, a10⟩ := hG
  refine ⟨a1.sbb hS hwh, ?_, ?_, ?_, ?_, ?_, ?_, ?_, ?_, ?_⟩
  · rcases k2 with z | z
    · exact a2.sb hS (sokB z)
    · exact z
  · rcases k3 with z | z
    · exact a3.sb hS hwh (rokB z)
    · exact z
  · rcases k4 with z | z
    · rw [Bool.and_eq_true] at z; exact a4.sbs hS hwh (sokB z.1) (rokB z.2)
    · exact z
  · rcases k5 with z | z
    · rw [Bool.and_eq_true] at z; exact a5.sb hS z.1 z.2
    · exact z
  · rcases k6 with z | z
    · exact (a6.sb hS z.1).up z.2
    · exact z
  · rcases k7 with z | z
    · exact a7.sb hS hwh z
    · exact z
  · rcases k8 with z | z
    · exact a8.sb hS hwh z
    · exact z
  · rcases k9 with z | z
    · rw [Bool.and_eq_true] at z; exact a9.sb hS hwh z.1 z.2
    · exact z
  · rcases k10 with z | z
    · rw [Bool.and_eq_true] at z; exact a10.sb hS hwh z.1 z.2
    · exact z
end GRE
section SMA
variable {L : Nat} {X : Nat → Int} {M V : ax_M} {h n : Nat}
theorem OP.ro {t j j' d d' : Nat} {as as' : List ax_V} {F : Int} (hR : Rel n M) (hc : ax_Ev L X SH d j as M (R1 t (fun x M' => x = F ∧ M' = M))) (hr : ax_Ev L X SH d' j' as' M (R1 t (fun x M' => x = F ∧ M' = M))) (hd : d ≤ 40) (hd' : d' ≤ 40) : OP L X n t j j' as as' M := by
  refine (hc.mono hd).imp (fun r M' hp => ?_)
  obtain ⟨x, e, hx, rfl⟩ := hp
  refine ⟨x, e, (hr.mono hd').imp (fun r' M'' hp => ?_)⟩
  obtain ⟨y, e', hy, rfl⟩ := hp
  obtain ⟨h, hh, hF, hG⟩ := hR
  exact ⟨y, e', hy.trans hx.symm, h, hh, hF, hG.up (by omega)⟩
theorem OP.sc {t j j' d d' : Nat} {as as' : List ax_V} {F : Int} {W W' : ax_W} (hR : Rel n M) (g1 : gok W = true) (g2 : gok W' = true) (w1 : wok W = true) (w2 : wok W' = true) (hc : ax_Ev L X SH d j as M (R1 t (fun x M' => x = F ∧ Sb W M M'))) (hr : ∀ M1, Sb W M M1 → ax_Ev L X SH d' j' as' M1 (R1 t (fun x M' => x = F ∧ Sb W' M1 M'))) (hd : d ≤ 40) (hd' : d' ≤ 40) : OP L X n t j j' as as' M := by
  refine (hc.mono hd).imp (fun r M' hp => ?_)
  obtain ⟨x, e, hx, hS⟩ := hp
  refine ⟨x, e, ((hr _ hS).mono hd').imp (fun r' M'' hp => ?_)⟩
  obtain ⟨y, e', hy, hS'⟩ := hp
  obtain ⟨h, hh, hF, hG⟩ := hR
  exact ⟨y, e', hy.trans hx.symm, h, hh, hS'.fix w2 (hS.fix w1 hF), ((hG.sb hh hS g1).sb hh hS' g2).up (by omega)⟩
theorem OP.tw {t j j' d d' : Nat} {as as' : List ax_V} {P : Int → ax_M → Prop} {Q : Int → ax_M → Int → ax_M → Prop} (hc : ax_Ev L X SH d j as M (R1 t P)) (hr : ∀ x M1, P x M1 → ax_Ev L X SH d' j' as' M1 (R1 t (Q x M1))) (hf : ∀ x M1 y M2, P x M1 → Q x M1 y M2 → y = x ∧ Rel (n + 1) M2) (hd : d ≤ 40) (hd' : d' ≤ 40) : OP L X n t j j' as as' M := by
  refine (hc.mono hd).imp (fun r M' hp => ?_)
  obtain ⟨x, e, hx⟩ := hp
  refine ⟨x, e, ((hr _ _ hx).mono hd').imp (fun r' M'' hp => ?_)⟩
  obtain ⟨y, e', hy⟩ := hp
  exact ⟨y, e', hf _ _ _ _ hx hy⟩
theorem m138 (hF : Fix M) {k : Nat} (hk : k < 6) (hb : 0 ≤ M 140 k ∧ M 140 k ≤ 1000000) : ax_Ev L X SH 0 138 [(2, 0), (0, (k : Int))] M (R1 0 (fun x M' => x = -1 ∧ M' = ax_up M 140 k (M 140 k + 1))) := by
  show ax_G L X SH 0 138 0 [(2, 0), (0, (k : Int))] [] M _
  have hC := at138
  have hw : wok WR = true := by decide +kernel
  have hS : Sb WR M M := Sb.refl
  refine g3 hC rfl rfl ?_
  refine g19 hC rfl rfl (Nat.le_of_ble_eq_true rfl) rfl ((hS.fix hw hF).g rfl) ?_
  refine g3 hC rfl rfl ?_
  refine g17 hC rfl (by decide) ?_
  refine r21 (k) hC rfl (by omega) sh140 (Or.inl rfl) (by omega) rfl ?_
  refine g0 hC rfl ?_
  refine g6a hC rfl ⟨by omega, by omega⟩ ?_
  refine r22s (k) hC rfl (by omega) sh140 (by omega) rfl hS rfl (fun hS => ?_)
  refine g0 hC rfl ?_
  refine ret1 hC rfl rfl ?_
  exact ⟨rfl, rfl⟩
theorem m139 (hF : Fix M) {k : Nat} (hk : k < 6) (hb : 0 ≤ M 140 k ∧ M 140 k ≤ 1000000) : ax_Ev L X SH 0 139 [(2, 0), (0, (k : Int))] M (R1 0 (fun x M' => x = 0 ∧ M' = ax_up M 140 k (M 140 k + 1))) := by
  show ax_G L X SH 0 139 0 [(2, 0), (0, (k : Int))] [] M _
  have hC := at139
  have hw : wok WR = true := by decide +kernel
  have hS : Sb WR M M := Sb.refl
  refine g3 hC rfl rfl ?_
  refine g19 hC rfl rfl (Nat.le_of_ble_eq_true rfl) rfl ((hS.fix hw hF).g rfl) ?_
  refine g3 hC rfl rfl ?_
  refine g17 hC rfl (by decide) ?_
  refine r21 (k) hC rfl (by omega) sh140 (Or.inl rfl) (by omega) rfl ?_
  refine g0 hC rfl ?_
  refine g6a hC rfl ⟨by omega, by omega⟩ ?_
  refine r22s (k) hC rfl (by omega) sh140 (by omega) rfl hS rfl (fun hS => ?_)
  refine g0 hC rfl ?_
  refine ret3 hC rfl ⟨by omega, by omega⟩ ?_
  exact ⟨rfl, rfl⟩
theorem GN.inc {M M2 : ax_M} {k : Nat} (hG : GN n M) (h1 : ∀ q, q < 6 → M2 140 q = (if q = k then M 140 q + 1 else M 140 q)) (h2 : ∀ q, q < 6 → M2 144 q = (if q = k then M 144 q + 1 else M 144 q)) : GN (n + 1) M2 := by
  intro q hq
  have := hG q hq
  rw [h1 q hq, h2 q hq]
  split <;> refine ⟨by omega, by omega, by omega⟩
theorem relInc {M M2 : ax_M} {k : Nat} (hR : Rel n M) (h1 : M2 = ax_up (ax_up M 140 k (M 140 k + 1)) 144 k (M 144 k + 1)) : Rel (n + 1) M2 := by
  obtain ⟨h, hh, hF, hG⟩ := hR
  have hS : Sb WRR M M2 := by rw [h1]; exact (Sb.refl.up rfl).up rfl
  refine ⟨h, hh, hS.fix (by decide +kernel) hF, hG.re hh hS rfl (Or.inl rfl) (Or.inl rfl) (Or.inl rfl) (Or.inl rfl) (Or.inr (hG.2.2.2.2.2.1.inc (k := k) (fun q hq => ?_) (fun q hq => ?_))) (Or.inl rfl) (Or.inl rfl) (Or.inl rfl) (Or.inl rfl)⟩
  · rw [h1, ax_up_ne (by decide), ax_upf]; unfold up; split
    · rename_i e; rw [e]
    · rfl
  · rw [h1, ax_upf, ax_up_ne (by decide)]; unfold up; split
    · rename_i e; rw [e]
    · rfl
def byt (a s : Int) : Int := (Int32.ofInt ((Int32.ofInt a >>> (Int32.ofInt s &&& 31)).toInt) &&& Int32.ofInt 255).toInt
theorem byt_b {a s : Int} : 0 ≤ byt a s ∧ byt a s ≤ 255 := andle (b := 255) (by decide)
def fd (w : Nat → Int) (n0 k : Nat) (f : Nat → Int) : Nat → Int := fun i => if n0 ≤ i ∧ i < n0 + k then byt (w ((i - n0) / 4)) (((24 - 8 * ((i - n0) % 4) : Nat)) : Int) else f i
theorem fd_s {w : Nat → Int} {n0 k : Nat} {f : Nat → Int} : fd w n0 (k + 1) f = up (fd w n0 k f) (n0 + k) (byt (w (k / 4)) (((24 - 8 * (k % 4) : Nat)) : Int)) := by
  funext i
  unfold fd up
  by_cases z : i = n0 + k
  · rw [if_pos (by omega), if_pos z, z, Nat.add_sub_cancel_left]
  · rw [if_neg z]
    dsimp only
    by_cases y : n0 ≤ i ∧ i < n0 + k
    · rw [if_pos (show n0 ≤ i ∧ i < n0 + (k + 1) by omega), if_pos y]
    · rw [if_neg (show ¬ (n0 ≤ i ∧ i < n0 + (k + 1)) by omega), if_neg y]
theorem m87 (hF : Fix M) {w : Nat → Int} {n0 q : Nat} {f : Nat → Int} {a : Int} (ha : a = w q) (hq : n0 + 4 * q + 4 ≤ 1600) (hl : M 1 1 = ((n0 + 4 * q : Nat) : Int)) (hb : M 2 = fd w n0 (4 * q) f) : ax_Ev L X SH 0 87 [(2, 1), (0, a)] M (R0 (fun M' => Sb WF M M' ∧ M' 1 1 = ((n0 + 4 * (q + 1) : Nat) : Int) ∧ M' 2 = fd w n0 (4 * (q + 1)) f)) := by
  show ax_G L X SH 0 87 0 [(2, 1), (0, a), (3, 0)] [] M _
  have hC := at87
  have hw : wok WF = true := by decide +kernel
  have hS : Sb WF M M := Sb.refl
  have l1 : ∀ (m k : Nat), k + m = 4 → ∀ ll M1, (ll = [(2, 1), (0, a), (0, 24 - 8 * (k : Int))] ∧ Sb WF M M1 ∧ M1 1 1 = ((n0 + 4 * q + k : Nat) : Int) ∧ M1 2 = fd w n0 (4 * q + k) f) → ax_G L X SH 0 87 2 ll [] M1 (R0 (fun M' => Sb WF M M' ∧ M' 1 1 = ((n0 + 4 * (q + 1) : Nat) : Int) ∧ M' 2 = fd w n0 (4 * (q + 1)) f)) := by
    refine lp ?_ ?_
    · rintro ll M1 ⟨rfl, hS, h1, h2⟩
      refine g3 hC rfl rfl ?_
      refine g12l hC rfl (fun h3 => ?_) (fun h3 => (by omega))
      refine ret0 hC rfl ?_
      exact ⟨hS, h1, h2⟩
    · rintro k hk ll M1 ⟨rfl, hS, h1, h2⟩ hnext
      refine g3 hC rfl rfl ?_
      refine g12l hC rfl (fun h3 => (by omega)) (fun h3 => ?_)
      refine g3 hC rfl rfl ?_
      refine g19 hC rfl rfl (Nat.le_of_ble_eq_true rfl) rfl h1 ?_
      refine g3 hC rfl rfl ?_
      refine g19 hC rfl rfl (Nat.le_of_ble_eq_true rfl) rfl ((hS.fix hw hF).g rfl) ?_
      refine g23 hC rfl rfl ?_
      refine g13g hC rfl (fun h9 => (by omega)) (fun h9 => ?_)
      refine g3 hC rfl rfl ?_
      refine g19 hC rfl rfl (Nat.le_of_ble_eq_true rfl) rfl ((hS.fix hw hF).g rfl) ?_
      refine g3 hC rfl rfl ?_
      refine g19 hC rfl rfl (Nat.le_of_ble_eq_true rfl) rfl h1 ?_
      refine g3 hC rfl rfl ?_
      refine g3 hC rfl rfl ?_
      refine g6 hC rfl rfl ?_
      refine g0 hC rfl ?_
      refine g6 hC rfl rfl ?_
      refine r22s ((n0 + 4 * q + k)) hC rfl (by omega) rfl (by omega) rfl hS rfl (fun hS => ?_)
      refine g3 hC rfl rfl ?_
      refine g16 hC rfl (by decide) ?_
      refine g19 hC rfl rfl (Nat.le_of_ble_eq_true rfl) rfl ((ax_up2n (by decide)).trans h1) ?_
      refine g0 hC rfl ?_
      refine g6a hC rfl ⟨by omega, by omega⟩ ?_
      refine g20s hC rfl rfl (Nat.le_of_ble_eq_true rfl) rfl hS rfl (fun hS => ?_)
      refine n2 hC rfl rfl ⟨by omega, by omega⟩ ?_
      refine g14 hC rfl ?_
      refine hnext _ _ ⟨?_, hS, ?_, ?_⟩
      · rw [show (24 - 8 * (k : Int)) + -8 = 24 - 8 * ((k + 1 : Nat) : Int) by omega]
      · rw [ax_up_at]; omega
      · rw [ax_up_ne (by decide), ax_upf, h2, show 4 * q + (k + 1) = (4 * q + k) + 1 by omega, fd_s, show n0 + (4 * q + k) = n0 + 4 * q + k by omega, show (4 * q + k) / 4 = q by omega, show (4 * q + k) % 4 = k by omega, ha, show (24 - 8 * (k : Int)) = ((24 - 8 * k : Nat) : Int) by omega]
        rfl
  refine g0 hC rfl ?_
  refine s2 hC rfl rfl rfl ?_
  exact l1 4 0 rfl _ _ ⟨rfl, hS, hl, hb⟩
def wsel (a b c d e : Int) (q : Nat) : Int := if q = 0 then a else if q = 1 then b else if q = 2 then c else if q = 3 then d else e
theorem m100 (hR : Rel n M) (hn : n ≤ 1000) {a b c d e : Int} : ax_Ev L X SH 1 100 [(2, 0), (0, a), (0, b), (0, c), (0, d), (0, e)] M (R1 0 (fun x M' => (1580 < M 1 1 ∧ x = -1 ∧ M' = ax_up M 140 0 (M 140 0 + 1)) ∨ (M 1 1 ≤ 1580 ∧ x = M 1 1 + 20 ∧ Sb WF M M' ∧ M' 1 1 = M 1 1 + 20 ∧ M' 2 = fd (wsel a b c d e) (M 1 1).toNat 20 (M 2)))) := by
  show ax_G L X SH 1 100 0 [(2, 0), (0, a), (0, b), (0, c), (0, d), (0, e)] [] M _
  obtain ⟨h, hh, hF, hG⟩ := hR
  have hG0 := hG
  obtain ⟨hW, hSW, hPW, hRV, hGT, hGN, hGM, hGH, hGS, hGX⟩ := hG
  have hV : HV M h M := HV.refl
  have hH3 : M 0 3 = (h : Int) := hGX.1.1
  have hC := at100
  have hw : wok WF = true := by decide +kernel
  have hS : Sb WF M M := Sb.refl
  have hN := hGN 0 (by decide)
  have ht := hGT.1
  obtain ⟨n0, hn0⟩ : ∃ n0 : Nat, M 1 1 = (n0 : Int) := ⟨(M 1 1).toNat, by omega⟩
  have e0 : (M 1 1).toNat = n0 := by omega
  rw [e0]
  have f0 : M 2 = fd (wsel a b c d e) n0 0 (M 2) := by
    funext i; unfold fd; rw [if_neg (by omega)]
  have p0 : M 1 1 = ((n0 + 4 * 0 : Nat) : Int) := hn0
  refine g3 hC rfl rfl ?_
  refine g19 hC rfl rfl (Nat.le_of_ble_eq_true rfl) rfl ((hS.fix hw hF).g rfl) ?_
  refine g19 hC rfl rfl (Nat.le_of_ble_eq_true rfl) rfl hn0 ?_
  refine g0 hC rfl ?_
  refine g6a hC rfl ⟨by omega, by omega⟩ ?_
  refine g0 hC rfl ?_
  refine g13s hC rfl (fun h6 => ?_) (fun h6 => ?_)
  ·
    refine g3 hC rfl rfl ?_
    refine g19 hC rfl rfl (Nat.le_of_ble_eq_true rfl) rfl ((hS.fix hw hF).g rfl) ?_
    refine g3 hC rfl rfl ?_
    refine c0 hC rfl rfl rfl (Nat.le_of_ble_eq_true rfl) (Nat.le_of_ble_eq_true rfl) rfl (m87 hF (w := wsel a b c d e) (q := 0) rfl (by omega) p0 f0) (Nat.le_of_ble_eq_true rfl) (fun M2 hr => ?_)
    obtain ⟨hr, p1, f1⟩ := hr; have hS := hS.then hr rfl
    refine g3 hC rfl rfl ?_
    refine g19 hC rfl rfl (Nat.le_of_ble_eq_true rfl) rfl ((hS.fix hw hF).g rfl) ?_
    refine g3 hC rfl rfl ?_
    refine c0 hC rfl rfl rfl (Nat.le_of_ble_eq_true rfl) (Nat.le_of_ble_eq_true rfl) rfl (m87 (hS.fix hw hF) (w := wsel a b c d e) (q := 1) rfl (by omega) p1 f1) (Nat.le_of_ble_eq_true rfl) (fun M3 hr => ?_)
    obtain ⟨hr, p2, f2⟩ := hr; have hS := hS.then hr rfl
    refine g3 hC rfl rfl ?_
    refine g19 hC rfl rfl (Nat.le_of_ble_eq_true rfl) rfl ((hS.fix hw hF).g rfl) ?_
    refine g3 hC rfl rfl ?_
    refine c0 hC rfl rfl rfl (Nat.le_of_ble_eq_true rfl) (Nat.le_of_ble_eq_true rfl) rfl (m87 (hS.fix hw hF) (w := wsel a b c d e) (q := 2) rfl (by omega) p2 f2) (Nat.le_of_ble_eq_true rfl) (fun M4 hr => ?_)
    obtain ⟨hr, p3, f3⟩ := hr; have hS := hS.then hr rfl
    refine g3 hC rfl rfl ?_
    refine g19 hC rfl rfl (Nat.le_of_ble_eq_true rfl) rfl ((hS.fix hw hF).g rfl) ?_
    refine g3 hC rfl rfl ?_
    refine c0 hC rfl rfl rfl (Nat.le_of_ble_eq_true rfl) (Nat.le_of_ble_eq_true rfl) rfl (m87 (hS.fix hw hF) (w := wsel a b c d e) (q := 3) rfl (by omega) p3 f3) (Nat.le_of_ble_eq_true rfl) (fun M5 hr => ?_)
    obtain ⟨hr, p4, f4⟩ := hr; have hS := hS.then hr rfl
    refine g3 hC rfl rfl ?_
    refine g19 hC rfl rfl (Nat.le_of_ble_eq_true rfl) rfl ((hS.fix hw hF).g rfl) ?_
    refine g3 hC rfl rfl ?_
    refine c0 hC rfl rfl rfl (Nat.le_of_ble_eq_true rfl) (Nat.le_of_ble_eq_true rfl) rfl (m87 (hS.fix hw hF) (w := wsel a b c d e) (q := 4) rfl (by omega) p4 f4) (Nat.le_of_ble_eq_true rfl) (fun M6 hr => ?_)
    obtain ⟨hr, p5, f5⟩ := hr; have hS := hS.then hr rfl
    refine g3 hC rfl rfl ?_
    refine g19 hC rfl rfl (Nat.le_of_ble_eq_true rfl) rfl ((hS.fix hw hF).g rfl) ?_
    refine g19 hC rfl rfl (Nat.le_of_ble_eq_true rfl) rfl p5 ?_
    refine ret1 hC rfl rfl ?_
    right
    refine ⟨by omega, by omega, hS, by omega, f5⟩
  ·
    refine g3 hC rfl rfl ?_
    refine g0 hC rfl ?_
    refine c1 hC rfl rfl rfl (Nat.le_of_ble_eq_true rfl) (Nat.le_of_ble_eq_true rfl) rfl (m138 (k := 0) hF (by decide) ⟨hN.2.1, by omega⟩) (Nat.le_of_ble_eq_true rfl) (fun x M2 hr => ?_)
    obtain ⟨rfl, hr⟩ := hr
    refine ret1 hC rfl rfl ?_
    left
    exact ⟨by omega, rfl, hr⟩
theorem m154 (hF : Fix M) (h1 : 0 ≤ M 142 1 ∧ M 142 1 ≤ 1600) (h2 : 0 ≤ M 144 0 ∧ M 144 0 ≤ 1000000) {a b c d e : Int} : ax_Ev L X SH 1 154 [(2, 142), (0, a), (0, b), (0, c), (0, d), (0, e)] M (R1 0 (fun x M' => (1580 < M 142 1 ∧ x = -1 ∧ M' = ax_up M 144 0 (M 144 0 + 1)) ∨ (M 142 1 ≤ 1580 ∧ x = M 142 1 + 20 ∧ Sb XF M M' ∧ M' 142 1 = M 142 1 + 20 ∧ M' 143 = fd (wsel a b c d e) (M 142 1).toNat 20 (M 143)))) := by
  show ax_G L X SH 1 154 0 [(2, 142), (0, a), (0, b), (0, c), (0, d), (0, e), (3, 0), (3, 0)] [] M _
  have hC := at154
  have hw : wok XF = true := by decide +kernel
  have hS : Sb XF M M := Sb.refl
  obtain ⟨n0, hn0⟩ : ∃ n0 : Nat, M 142 1 = (n0 : Int) := ⟨(M 142 1).toNat, by omega⟩
  have e0 : (M 142 1).toNat = n0 := by omega
  rw [e0]
  have l1 : n0 ≤ 1580 → ∀ (m k : Nat), k + m = 20 → ∀ ll M1, (∃ v, ll = [(2, 142), (0, a), (0, b), (0, c), (0, d), (0, e), (0, (k : Int)), v] ∧ Sb XF M M1 ∧ M1 142 1 = ((n0 + k : Nat) : Int) ∧ M1 143 = fd (wsel a b c d e) n0 k (M 143)) → ax_G L X SH 1 154 18 ll [] M1 (R1 0 (fun x M' => (1580 < M 142 1 ∧ x = -1 ∧ M' = ax_up M 144 0 (M 144 0 + 1)) ∨ (M 142 1 ≤ 1580 ∧ x = M 142 1 + 20 ∧ Sb XF M M' ∧ M' 142 1 = M 142 1 + 20 ∧ M' 143 = fd (wsel a b c d e) n0 20 (M 143)))) := by
    intro h0
    refine lp ?_ ?_
    · rintro ll M1 ⟨v, rfl, hS, q1, q2⟩
      refine g3 hC rfl rfl ?_
      refine g0 hC rfl ?_
      refine g13g hC rfl (fun h20 => ?_) (fun h20 => (by omega))
      refine g3 hC rfl rfl ?_
      refine g19 hC rfl sh142 (flt12 rfl) ft12_1 q1 ?_
      refine ret1 hC rfl rfl ?_
      right
      exact ⟨by omega, by omega, hS, by omega, q2⟩
    · rintro k hk ll M1 ⟨v, rfl, hS, q1, q2⟩ hnext
      have nxD : ∀ w M2, w = wsel a b c d e (k / 4) → Sb XF M M2 → M2 = ax_up (ax_up M1 143 (n0 + k) (byt w (8 * (3 - ((k % 4 : Nat) : Int))))) 142 1 (((n0 + k : Nat) : Int) + 1) → ax_G L X SH 1 154 18 [(2, 142), (0, a), (0, b), (0, c), (0, d), (0, e), (0, (k : Int) + 1), (0, w)] [] M2 (R1 0 (fun x M' => (1580 < M 142 1 ∧ x = -1 ∧ M' = ax_up M 144 0 (M 144 0 + 1)) ∨ (M 142 1 ≤ 1580 ∧ x = M 142 1 + 20 ∧ Sb XF M M' ∧ M' 142 1 = M 142 1 + 20 ∧ M' 143 = fd (wsel a b c d e) n0 20 (M 143)))) := by
        intro w M2 hw2 hS e
        refine hnext _ _ ⟨_, rfl, hS, ?_, ?_⟩
        · rw [e, ax_up_at]; omega
        · rw [e, ax_up_ne (by decide), ax_upf, q2, fd_s, hw2, show (8 * (3 - ((k % 4 : Nat) : Int))) = ((24 - 8 * (k % 4) : Nat) : Int) by omega]
      refine g3 hC rfl rfl ?_
      refine g0 hC rfl ?_
      refine g13g hC rfl (fun h20 => (by omega)) (fun h20 => ?_)
      refine g3 hC rfl rfl ?_
      refine g0 hC rfl ?_
      refine g13g hC rfl (fun h23 => ?_) (fun h23 => ?_)
      ·
        refine g3 hC rfl rfl ?_
        refine g0 hC rfl ?_
        refine g13g hC rfl (fun h28 => ?_) (fun h28 => ?_)
        ·
          refine g3 hC rfl rfl ?_
          refine g0 hC rfl ?_
          refine g13g hC rfl (fun h33 => ?_) (fun h33 => ?_)
          ·
            refine g3 hC rfl rfl ?_
            refine g0 hC rfl ?_
            refine g13g hC rfl (fun h38 => ?_) (fun h38 => ?_)
            ·
              refine g3 hC rfl rfl ?_
              refine s7 hC rfl rfl rfl ?_
              refine g3 hC rfl rfl ?_
              refine g19 hC rfl sh142 (flt12 rfl) ft12_0 ((hS.fix hw hF).g fx_142_0) ?_
              refine g3 hC rfl rfl ?_
              refine g19 hC rfl sh142 (flt12 rfl) ft12_1 q1 ?_
              refine g3 hC rfl rfl ?_
              refine g0 hC rfl ?_
              refine g0 hC rfl ?_
              refine g3 hC rfl rfl ?_
              refine g0 hC rfl ?_
              refine g6rN (a := k) (b := 4) hC rfl rfl rfl (by decide) (by omega) ?_
              refine g6s hC rfl ⟨by omega, by omega⟩ ?_
              refine g6m hC rfl ⟨by omega, by omega⟩ ?_
              refine g6 hC rfl rfl ?_
              refine g0 hC rfl ?_
              refine g6 hC rfl rfl ?_
              refine r22s ((n0 + k)) hC rfl (by omega) sh143 (by omega) rfl hS rfl (fun hS => ?_)
              refine g3 hC rfl rfl ?_
              refine g16 hC rfl (by decide) ?_
              refine g19 hC rfl sh142 (flt12 rfl) ft12_1 ((ax_up2n (by decide)).trans q1) ?_
              refine g0 hC rfl ?_
              refine g6a hC rfl ⟨by omega, by omega⟩ ?_
              refine g20s hC rfl sh142 (flt12 rfl) (by rw [fy12_1]; rfl) hS rfl (fun hS => ?_)
              refine n6 hC rfl rfl ⟨by omega, by omega⟩ ?_
              refine g14 hC rfl ?_
              exact nxD _ _ (by unfold wsel; rw [if_neg (by omega), if_neg (by omega), if_neg (by omega), if_neg (by omega)]) hS rfl
            ·
              refine g3 hC rfl rfl ?_
              refine g14 hC rfl ?_
              refine s7 hC rfl rfl rfl ?_
              refine g3 hC rfl rfl ?_
              refine g19 hC rfl sh142 (flt12 rfl) ft12_0 ((hS.fix hw hF).g fx_142_0) ?_
              refine g3 hC rfl rfl ?_
              refine g19 hC rfl sh142 (flt12 rfl) ft12_1 q1 ?_
              refine g3 hC rfl rfl ?_
              refine g0 hC rfl ?_
              refine g0 hC rfl ?_
              refine g3 hC rfl rfl ?_
              refine g0 hC rfl ?_
              refine g6rN (a := k) (b := 4) hC rfl rfl rfl (by decide) (by omega) ?_
              refine g6s hC rfl ⟨by omega, by omega⟩ ?_
              refine g6m hC rfl ⟨by omega, by omega⟩ ?_
              refine g6 hC rfl rfl ?_
              refine g0 hC rfl ?_
              refine g6 hC rfl rfl ?_
              refine r22s ((n0 + k)) hC rfl (by omega) sh143 (by omega) rfl hS rfl (fun hS => ?_)
              refine g3 hC rfl rfl ?_
              refine g16 hC rfl (by decide) ?_
              refine g19 hC rfl sh142 (flt12 rfl) ft12_1 ((ax_up2n (by decide)).trans q1) ?_
              refine g0 hC rfl ?_
              refine g6a hC rfl ⟨by omega, by omega⟩ ?_
              refine g20s hC rfl sh142 (flt12 rfl) (by rw [fy12_1]; rfl) hS rfl (fun hS => ?_)
              refine n6 hC rfl rfl ⟨by omega, by omega⟩ ?_
              refine g14 hC rfl ?_
              exact nxD _ _ (by unfold wsel; rw [if_neg (by omega), if_neg (by omega), if_neg (by omega), if_pos (by omega)]) hS rfl
          ·
            refine g3 hC rfl rfl ?_
            refine g14 hC rfl ?_
            refine s7 hC rfl rfl rfl ?_
            refine g3 hC rfl rfl ?_
            refine g19 hC rfl sh142 (flt12 rfl) ft12_0 ((hS.fix hw hF).g fx_142_0) ?_
            refine g3 hC rfl rfl ?_
            refine g19 hC rfl sh142 (flt12 rfl) ft12_1 q1 ?_
            refine g3 hC rfl rfl ?_
            refine g0 hC rfl ?_
            refine g0 hC rfl ?_
            refine g3 hC rfl rfl ?_
            refine g0 hC rfl ?_
            refine g6rN (a := k) (b := 4) hC rfl rfl rfl (by decide) (by omega) ?_
            refine g6s hC rfl ⟨by omega, by omega⟩ ?_
            refine g6m hC rfl ⟨by omega, by omega⟩ ?_
            refine g6 hC rfl rfl ?_
            refine g0 hC rfl ?_
            refine g6 hC rfl rfl ?_
            refine r22s ((n0 + k)) hC rfl (by omega) sh143 (by omega) rfl hS rfl (fun hS => ?_)
            refine g3 hC rfl rfl ?_
            refine g16 hC rfl (by decide) ?_
            refine g19 hC rfl sh142 (flt12 rfl) ft12_1 ((ax_up2n (by decide)).trans q1) ?_
            refine g0 hC rfl ?_
            refine g6a hC rfl ⟨by omega, by omega⟩ ?_
            refine g20s hC rfl sh142 (flt12 rfl) (by rw [fy12_1]; rfl) hS rfl (fun hS => ?_)
            refine n6 hC rfl rfl ⟨by omega, by omega⟩ ?_
            refine g14 hC rfl ?_
            exact nxD _ _ (by unfold wsel; rw [if_neg (by omega), if_neg (by omega), if_pos (by omega)]) hS rfl
        ·
          refine g3 hC rfl rfl ?_
          refine g14 hC rfl ?_
          refine s7 hC rfl rfl rfl ?_
          refine g3 hC rfl rfl ?_
          refine g19 hC rfl sh142 (flt12 rfl) ft12_0 ((hS.fix hw hF).g fx_142_0) ?_
          refine g3 hC rfl rfl ?_
          refine g19 hC rfl sh142 (flt12 rfl) ft12_1 q1 ?_
          refine g3 hC rfl rfl ?_
          refine g0 hC rfl ?_
          refine g0 hC rfl ?_
          refine g3 hC rfl rfl ?_
          refine g0 hC rfl ?_
          refine g6rN (a := k) (b := 4) hC rfl rfl rfl (by decide) (by omega) ?_
          refine g6s hC rfl ⟨by omega, by omega⟩ ?_
          refine g6m hC rfl ⟨by omega, by omega⟩ ?_
          refine g6 hC rfl rfl ?_
          refine g0 hC rfl ?_
          refine g6 hC rfl rfl ?_
          refine r22s ((n0 + k)) hC rfl (by omega) sh143 (by omega) rfl hS rfl (fun hS => ?_)
          refine g3 hC rfl rfl ?_
          refine g16 hC rfl (by decide) ?_
          refine g19 hC rfl sh142 (flt12 rfl) ft12_1 ((ax_up2n (by decide)).trans q1) ?_
          refine g0 hC rfl ?_
          refine g6a hC rfl ⟨by omega, by omega⟩ ?_
          refine g20s hC rfl sh142 (flt12 rfl) (by rw [fy12_1]; rfl) hS rfl (fun hS => ?_)
          refine n6 hC rfl rfl ⟨by omega, by omega⟩ ?_
          refine g14 hC rfl ?_
          exact nxD _ _ (by unfold wsel; rw [if_neg (by omega), if_pos (by omega)]) hS rfl
      ·
        refine g3 hC rfl rfl ?_
        refine g14 hC rfl ?_
        refine s7 hC rfl rfl rfl ?_
        refine g3 hC rfl rfl ?_
        refine g19 hC rfl sh142 (flt12 rfl) ft12_0 ((hS.fix hw hF).g fx_142_0) ?_
        refine g3 hC rfl rfl ?_
        refine g19 hC rfl sh142 (flt12 rfl) ft12_1 q1 ?_
        refine g3 hC rfl rfl ?_
        refine g0 hC rfl ?_
        refine g0 hC rfl ?_
        refine g3 hC rfl rfl ?_
        refine g0 hC rfl ?_
        refine g6rN (a := k) (b := 4) hC rfl rfl rfl (by decide) (by omega) ?_
        refine g6s hC rfl ⟨by omega, by omega⟩ ?_
        refine g6m hC rfl ⟨by omega, by omega⟩ ?_
        refine g6 hC rfl rfl ?_
        refine g0 hC rfl ?_
        refine g6 hC rfl rfl ?_
        refine r22s ((n0 + k)) hC rfl (by omega) sh143 (by omega) rfl hS rfl (fun hS => ?_)
        refine g3 hC rfl rfl ?_
        refine g16 hC rfl (by decide) ?_
        refine g19 hC rfl sh142 (flt12 rfl) ft12_1 ((ax_up2n (by decide)).trans q1) ?_
        refine g0 hC rfl ?_
        refine g6a hC rfl ⟨by omega, by omega⟩ ?_
        refine g20s hC rfl sh142 (flt12 rfl) (by rw [fy12_1]; rfl) hS rfl (fun hS => ?_)
        refine n6 hC rfl rfl ⟨by omega, by omega⟩ ?_
        refine g14 hC rfl ?_
        exact nxD _ _ (by unfold wsel; rw [if_pos (by omega)]) hS rfl
  refine g3 hC rfl rfl ?_
  refine g19 hC rfl sh142 (flt12 rfl) ft12_1 hn0 ?_
  refine g0 hC rfl ?_
  refine g6a hC rfl ⟨by omega, by omega⟩ ?_
  refine g0 hC rfl ?_
  refine g13s hC rfl (fun h5 => ?_) (fun h5 => ?_)
  ·
    refine g0 hC rfl ?_
    refine s6 hC rfl rfl rfl ?_
    exact l1 (by omega) 20 0 rfl _ _ ⟨_, rfl, hS, hn0, by funext i; unfold fd; rw [if_neg (by omega)]⟩
  ·
    refine g3 hC rfl rfl ?_
    refine g19 hC rfl sh142 (flt12 rfl) ft12_9 ((hS.fix hw hF).g fx_142_9) ?_
    refine g0 hC rfl ?_
    refine g17 hC rfl (by decide) ?_
    refine r21 (0) hC rfl (by omega) sh144 (Or.inl rfl) (by omega) rfl ?_
    refine g0 hC rfl ?_
    refine g6a hC rfl ⟨by omega, by omega⟩ ?_
    refine r22 (0) hC rfl (by omega) sh144 (by omega) rfl ?_
    refine g0 hC rfl ?_
    refine ret1 hC rfl rfl ?_
    left
    exact ⟨by omega, rfl, rfl⟩
end SMA
