theorem bvN64 {a : Nat} : (Int64.ofInt (a : Int)).toBitVec = BitVec.ofNat 64 a := by
  rw [Int64.toBitVec_ofInt, BitVec.ofInt_natCast]
theorem bvI64 {c : Nat} (h : c < 9223372036854775808) : (BitVec.ofNat 64 c).toInt = (c : Int) := by
  rw [BitVec.toInt_eq_toNat_of_lt (by rw [BitVec.toNat_ofNat]; omega), BitVec.toNat_ofNat]
  omega
theorem andL {a b : Nat} (h : a < 9223372036854775808) : (Int64.ofInt (a : Int) &&& Int64.ofInt (b : Int)).toInt = ((a &&& b : Nat) : Int) := by
  show (Int64.ofInt (a : Int) &&& Int64.ofInt (b : Int)).toBitVec.toInt = _
  rw [Int64.toBitVec_and, bvN64, bvN64, ← BitVec.ofNat_and, bvI64 (Nat.lt_of_le_of_lt Nat.and_le_left h)]
def lcg (s : Nat) : Nat := (1103515245 * s + 12345) % 2147483648
theorem lcg_b {s : Nat} : lcg s < 2147483648 := Nat.mod_lt _ (by decide)
def chS (h : Nat) (x : ax_M × Nat × Nat) : ax_M × Nat × Nat :=
  if 0 < nS x.1 h then
    (if ((lcg x.2.1 / 64 % 100 : Nat) : Int) < x.1 h 19 then (nxD x.1 h ((lcg (lcg x.2.1) / 64 % nS x.1 h : Nat) : Int), lcg (lcg x.2.1), x.2.2 + 1) else (nxD x.1 h (-1), lcg x.2.1, x.2.2))
  else (nxD x.1 h (-1), x.2.1, x.2.2)
def chN (V : ax_M) (h sd k : Nat) : ax_M × Nat × Nat := it (fun _ x => chS h x) k (V, sd, 0)
section CHA
variable {L : Nat} {X : Nat → Int} {M V : ax_M} {h n : Nat} {S : List ax_H} {d j i : Nat} {ll st : List ax_V} {P : List ax_V → ax_M → Prop} {C : List ax_O}
theorem g7dN {a b q : Nat} {w x y : Int} (hC : ∀ i, ax_at j i = C[i]?) (hc : C[i]? = some (7, 3, q, w)) (hx : x = (a : Int)) (hy : y = (b : Int)) (hb : 0 < b) (ha : a < 9223372036854775808) (k : ax_G L X S d j (i + 1) ll ((1, ((a / b : Nat) : Int)) :: st) M P) : ax_G L X S d j i ll ((1, y) :: (1, x) :: st) M P := by
  subst hx; subst hy
  have e : a / b ≤ a := Nat.div_le_self a b
  refine g7d hC hc ⟨by omega, ?_⟩ ?_
  · rw [tdivN]; generalize a / b = t at e; exact ⟨by omega, by omega⟩
  · rw [tdivN]; exact k
theorem g7rN {a b q : Nat} {w x y : Int} (hC : ∀ i, ax_at j i = C[i]?) (hc : C[i]? = some (7, 4, q, w)) (hx : x = (a : Int)) (hy : y = (b : Int)) (hb : 0 < b) (ha : a < 9223372036854775808) (k : ax_G L X S d j (i + 1) ll ((1, ((a % b : Nat) : Int)) :: st) M P) : ax_G L X S d j i ll ((1, y) :: (1, x) :: st) M P := by
  subst hx; subst hy
  have e : a / b ≤ a := Nat.div_le_self a b
  refine g7r hC hc ⟨by omega, ?_⟩ ?_
  · rw [tdivN]; generalize a / b = t at e; exact ⟨by omega, by omega⟩
  · rw [tmodN]; exact k
theorem chN_s {sd k : Nat} : chN V h sd (k + 1) = chS h (chN V h sd k) := rfl
theorem chS_ok (hh : h = 9 ∨ h = 27) {x : ax_M × Nat × Nat} (h1 : HW x.1 h ∧ SW x.1 ∧ PW x.1 h) (h2 : x.2.1 < 2147483648) : (HW (chS h x).1 h ∧ SW (chS h x).1 ∧ PW (chS h x).1 h) ∧ (chS h x).2.1 < 2147483648 ∧ (chS h x).2.2 ≤ x.2.2 + 1 ∧ (chS h x).1 45 0 = min 999 (x.1 45 0 + 1) ∧ ∀ q, (chS h x).1 47 q = x.1 47 q := by
  have nn : ∀ sm, (HW (nxD x.1 h sm) h ∧ SW (nxD x.1 h sm) ∧ PW (nxD x.1 h sm) h) := fun sm => ⟨nxHW hh h1.1, nxSW h1.2.1, nxPW hh h1.2.2⟩
  have n45 : ∀ sm, nxD x.1 h sm 45 0 = min 999 (x.1 45 0 + 1) := fun sm => nx_45
  have n7 : ∀ sm q, nxD x.1 h sm 47 q = x.1 47 q := fun sm q => nx_ne (by decide) (by decide)
  unfold chS
  split
  · split
    · exact ⟨nn _, lcg_b, by dsimp only; omega, n45 ((lcg (lcg x.2.1) / 64 % nS x.1 h : Nat) : Int), n7 ((lcg (lcg x.2.1) / 64 % nS x.1 h : Nat) : Int)⟩
    · exact ⟨nn _, lcg_b, by dsimp only; omega, n45 (-1), n7 (-1)⟩
  · exact ⟨nn _, h2, by dsimp only; omega, n45 (-1), n7 (-1)⟩
theorem chN_ok (hh : h = 9 ∨ h = 27) (hW : HW V h) (hSW : SW V) (hPW : PW V h) {sd : Nat} (hsd : sd < 2147483648) : ∀ k : Nat, (HW (chN V h sd k).1 h ∧ SW (chN V h sd k).1 ∧ PW (chN V h sd k).1 h) ∧ (chN V h sd k).2.1 < 2147483648 ∧ (chN V h sd k).2.2 ≤ k ∧ (V 45 0 + k ≤ 999 → (chN V h sd k).1 45 0 = V 45 0 + k) ∧ ∀ q, (chN V h sd k).1 47 q = V 47 q := by
  intro k
  induction k with
  | zero => exact ⟨⟨hW, hSW, hPW⟩, hsd, Nat.le_refl 0, fun _ => by show V 45 0 = V 45 0 + ((0 : Nat) : Int); omega, fun _ => rfl⟩
  | succ k ih =>
    obtain ⟨a1, a2, a3, a4, a5⟩ := ih
    obtain ⟨b1, b2, b3, b4, b5⟩ := chS_ok hh a1 a2
    rw [chN_s]
    refine ⟨b1, b2, by omega, fun hk => ?_, fun q => (b5 q).trans (a5 q)⟩
    rw [b4, a4 (by omega)]; omega
theorem m147 (hF : Fix M) {s m : Nat} (hs : M 0 16 = (s : Int)) (hsb : s < 2147483648) (hm : 0 < m) (hm2 : m ≤ 100) : ax_Ev L X SH 0 147 [(2, 0), (0, (m : Int))] M (R1 0 (fun x M' => x = ((lcg s / 64 % m : Nat) : Int) ∧ M' = ax_up M 0 16 ((lcg s : Nat) : Int))) := by
  show ax_G L X SH 0 147 0 [(2, 0), (0, (m : Int)), (3, 0), (3, 0)] [] M _
  have hC := at147
  have hw : wok WSE = true := by decide +kernel
  have hS : Sb WSE M M := Sb.refl
  have hl := lcg_b (s := s)
  have el : (Int64.ofInt ((1103515245 * s + 12345 : Nat) : Int) &&& Int64.ofInt ((2147483647 : Nat) : Int)).toInt = ((lcg s : Nat) : Int) := by
    rw [andL (by omega)]
    have := Nat.and_two_pow_sub_one_eq_mod (1103515245 * s + 12345) 31
    simp only [Nat.reducePow, Nat.reduceSub] at this
    rw [this]; rfl
  have ec : (1103515245 : Int) * (s : Int) + 12345 = ((1103515245 * s + 12345 : Nat) : Int) := by omega
  have hd : lcg s / 64 ≤ lcg s := Nat.div_le_self _ _
  have hmod : lcg s / 64 % m < m := Nat.mod_lt _ hm
  refine g1 hC rfl ?_
  refine g3 hC rfl rfl ?_
  refine g19 hC rfl rfl (Nat.le_of_ble_eq_true rfl) rfl hs ?_
  refine g9 hC rfl ?_
  refine g7m hC rfl ⟨by omega, by omega⟩ ?_
  refine g1 hC rfl ?_
  refine g7a hC rfl ⟨by omega, by omega⟩ ?_
  refine g1 hC rfl ?_
  rw [ec]
  refine g7 hC rfl (congrArg some el) ?_
  refine sl2 hC rfl rfl ?_
  refine g3 hC rfl rfl ?_
  refine g3 hC rfl rfl ?_
  refine g10 hC rfl ⟨by omega, by omega⟩ ?_
  refine g20s hC rfl rfl (Nat.le_of_ble_eq_true rfl) rfl hS rfl (fun hS => ?_)
  refine g3 hC rfl rfl ?_
  refine g12s hC rfl (fun h15 => (by omega)) (fun h15 => ?_)
  refine g3 hC rfl rfl ?_
  refine g1 hC rfl ?_
  refine g7dN (a := lcg s) (b := 64) hC rfl rfl rfl (by decide) (by omega) ?_
  refine g3 hC rfl rfl ?_
  refine g9 hC rfl ?_
  refine g7rN (a := lcg s / 64) (b := m) hC rfl rfl rfl hm (by omega) ?_
  refine g10 hC rfl ⟨by omega, by omega⟩ ?_
  refine g14 hC rfl ?_
  refine ret1 hC rfl rfl ?_
  exact ⟨rfl, rfl⟩
theorem m261 (hF : Fix M) {s m : Nat} (hs : M 142 84 = (s : Int)) (hsb : s < 2147483648) (hm : 0 < m) (hm2 : m ≤ 100) : ax_Ev L X SH 0 261 [(2, 142), (0, (m : Int))] M (R1 0 (fun x M' => x = ((lcg s / 64 % m : Nat) : Int) ∧ M' = ax_up M 142 84 ((lcg s : Nat) : Int))) := by
  show ax_G L X SH 0 261 0 [(2, 142), (0, (m : Int))] [] M _
  have hC := at261
  have hw : wok XSE = true := by decide +kernel
  have hS : Sb XSE M M := Sb.refl
  have hl := lcg_b (s := s)
  have ec : (1103515245 : Int) * (s : Int) + 12345 = ((1103515245 * s + 12345 : Nat) : Int) := by omega
  have hd : lcg s / 64 ≤ lcg s := Nat.div_le_self _ _
  have hmod : lcg s / 64 % m < m := Nat.mod_lt _ hm
  refine g3 hC rfl rfl ?_
  refine g1 hC rfl ?_
  refine g3 hC rfl rfl ?_
  refine g19 hC rfl sh142 (flt12 rfl) ft12_84 hs ?_
  refine g7m hC rfl ⟨by omega, by omega⟩ ?_
  refine g1 hC rfl ?_
  refine g7a hC rfl ⟨by omega, by omega⟩ ?_
  refine g1 hC rfl ?_
  refine g7rN (a := 1103515245 * s + 12345) (b := 2147483648) hC rfl ec rfl (by decide) (by omega) ?_
  refine g20s hC rfl sh142 (flt12 rfl) (by rw [fy12_84]; rfl) hS rfl (fun hS => ?_)
  refine g3 hC rfl rfl ?_
  refine g19 hC rfl sh142 (flt12 rfl) ft12_84 ax_up_at ?_
  refine g1 hC rfl ?_
  refine g7dN (a := lcg s) (b := 64) hC rfl rfl rfl (by decide) (by omega) ?_
  refine g3 hC rfl rfl ?_
  refine g9 hC rfl ?_
  refine g7rN (a := lcg s / 64) (b := m) hC rfl rfl rfl hm (by omega) ?_
  refine g10 hC rfl ⟨by omega, by omega⟩ ?_
  refine ret1 hC rfl rfl ?_
  exact ⟨rfl, rfl⟩
theorem m130 (hF : Fix M) (hh : h = 9 ∨ h = 27) (hG : GG n h M) (hn : n ≤ 1000) {a : Int} : ax_Ev L X SH 9 130 [(2, 0), (0, a)] M (R1 0 (fun x M' => (¬ ((1 ≤ a ∧ a ≤ 30) ∧ M 45 0 + a ≤ 999) ∧ x = -1 ∧ M' = ax_up M 140 3 (M 140 3 + 1)) ∨ (((1 ≤ a ∧ a ≤ 30) ∧ M 45 0 + a ≤ 999) ∧ x = ((chN M h (M 0 16).toNat a.toNat).2.2 : Int) ∧ ∃ Ma, Sb WA M Ma ∧ ((∀ b, b ≠ 51 + hR M → b ≠ 49 → Ma b = M b) ∧ (∀ i, i < 44 → Ma (51 + hR M) i = CS M i) ∧ Ma 49 1 = (((hR M + 1) % 20 : Nat) : Int) ∧ Ma 49 2 = ((min 20 (hN M + 1) : Nat) : Int)) ∧ Sb WHs Ma M' ∧ HV (chN M h (M 0 16).toNat a.toNat).1 h M' ∧ M' 0 16 = ((chN M h (M 0 16).toNat a.toNat).2.1 : Int)))) := by
  show ax_G L X SH 9 130 0 [(2, 0), (0, a), (3, 0), (3, 0), (3, 0)] [] M _
  have hC := at130
  have hw : wok WA = true := by decide +kernel
  have hS : Sb WA M M := Sb.refl
  have hV : HV M h M := HV.refl
  have hH3 : M 0 3 = (h : Int) := hG.2.2.2.2.2.2.2.2.2.1.1
  have hsd := hG.2.2.2.2.2.2.2.2.2.2.1
  have hW := hG.1
  have hs1 := hG.2.1.1
  have hN3 := hG.2.2.2.2.2.1 3 (by decide)
  have hgh := hG.2.2.2.2.2.2.2.1
  by_cases z : (1 ≤ a ∧ a ≤ 30) ∧ M 45 0 + a ≤ 999
  · obtain ⟨N, rfl⟩ : ∃ k : Nat, a = (k : Int) := ⟨a.toNat, by omega⟩
    obtain ⟨sd, hsd0⟩ : ∃ sd : Nat, M 0 16 = (sd : Int) := ⟨(M 0 16).toNat, by omega⟩
    have esd : (M 0 16).toNat = sd := by omega
    rw [esd]
    have hsdb : sd < 2147483648 := by omega
    have l0 : ∀ Ma : ax_M, Sb WA M Ma → ((∀ b, b ≠ 51 + hR M → b ≠ 49 → Ma b = M b) ∧ (∀ i, i < 44 → Ma (51 + hR M) i = CS M i) ∧ Ma 49 1 = (((hR M + 1) % 20 : Nat) : Int) ∧ Ma 49 2 = ((min 20 (hN M + 1) : Nat) : Int)) → ∀ (m k : Nat), k + m = N → ∀ ll M1, (∃ v, ll = [(2, 0), (0, (N : Int)), (0, ((chN M h sd k).2.2 : Int)), (0, (k : Int)), v] ∧ Sb WHs Ma M1 ∧ HV (chN M h sd k).1 h M1 ∧ M1 0 16 = ((chN M h sd k).2.1 : Int)) → ax_G L X SH 9 130 20 ll [] M1 (R1 0 (fun x M' => (¬ ((1 ≤ (N : Int) ∧ (N : Int) ≤ 30) ∧ M 45 0 + (N : Int) ≤ 999) ∧ x = -1 ∧ M' = ax_up M 140 3 (M 140 3 + 1)) ∨ (((1 ≤ (N : Int) ∧ (N : Int) ≤ 30) ∧ M 45 0 + (N : Int) ≤ 999) ∧ x = ((chN M h sd N).2.2 : Int) ∧ ∃ Ma, Sb WA M Ma ∧ ((∀ b, b ≠ 51 + hR M → b ≠ 49 → Ma b = M b) ∧ (∀ i, i < 44 → Ma (51 + hR M) i = CS M i) ∧ Ma 49 1 = (((hR M + 1) % 20 : Nat) : Int) ∧ Ma 49 2 = ((min 20 (hN M + 1) : Nat) : Int)) ∧ Sb WHs Ma M' ∧ HV (chN M h sd N).1 h M' ∧ M' 0 16 = ((chN M h sd N).2.1 : Int)))) := by
      intro Ma hSa hfa
      have hFa := hSa.fix hw hF
      have hH3a : Ma 0 3 = (h : Int) := (hSa 0 3 rfl).trans hH3
      have hw : wok WHs = true := by decide +kernel
      have hF := hFa
      refine lp ?_ ?_
      · rintro ll M1 ⟨v, rfl, hS, hV1, hsd1⟩
        refine g3 hC rfl rfl ?_
        refine g3 hC rfl rfl ?_
        refine g13g hC rfl (fun h22 => ?_) (fun h22 => (by omega))
        refine g3 hC rfl rfl ?_
        refine ret1 hC rfl rfl ?_
        exact Or.inr ⟨z, rfl, Ma, hSa, hfa, hS, hV1, hsd1⟩
      · rintro k hk ll M1 ⟨v, rfl, hS, hV1, hsd1⟩ hnext
        obtain ⟨⟨o1, o2, o3⟩, o4, o5, o6, o7⟩ := chN_ok hh hW hG.2.1 hG.2.2.1 hsdb k
        generalize hc : chN M h sd k = c at *
        have hb := o1.1.2.1.2
        have hs : c.1 h 1 = (nS c.1 h : Int) := o1.1.2.1.1
        have hsm := o1.2.2.2.2.2.2
        have hH3 := hH3a
        have hVh : ∀ M1, HV c.1 h M1 → M1 h 1 = (nS c.1 h : Int) := fun M1 hv => (hv.1 0 1 (by decide) (by decide) (by decide)).trans hs
        have hVs : ∀ M1, HV c.1 h M1 → M1 h 19 = c.1 h 19 := fun M1 hv => hv.1 0 19 (by decide) (by decide) (by decide)
        have hwh : hok WD h := hokB (by decide +kernel) hh
        have hso : sok WD := sokB (by decide +kernel)
        have hVu : ∀ M1 x, HV c.1 h M1 → HV c.1 h (ax_up M1 0 16 x) := by
          intro M1 x hv
          refine ⟨fun i k h1 h2 h3 => ?_, fun k => ?_⟩
          · rw [ax_up2n (by omega)]; exact hv.1 i k h1 h2 h3
          · rw [ax_up2n (by decide), ax_up2n (by decide), ax_up2n (by decide), ax_up2n (by decide)]; exact hv.2 k
        have fin : ∀ (sm : Int) (s2 k2 : Nat) M2, chS h c = (nxD c.1 h sm, s2, k2) → Sb WHs Ma M2 → HV c.1 h M2 → M2 0 16 = (s2 : Int) → ax_G L X SH 9 130 46 [(2, 0), (0, (N : Int)), (0, (k2 : Int)), (0, (k : Int)), (0, sm)] [] M2 (R1 0 (fun x M' => (¬ ((1 ≤ (N : Int) ∧ (N : Int) ≤ 30) ∧ M 45 0 + (N : Int) ≤ 999) ∧ x = -1 ∧ M' = ax_up M 140 3 (M 140 3 + 1)) ∨ (((1 ≤ (N : Int) ∧ (N : Int) ≤ 30) ∧ M 45 0 + (N : Int) ≤ 999) ∧ x = ((chN M h sd N).2.2 : Int) ∧ ∃ Ma, Sb WA M Ma ∧ ((∀ b, b ≠ 51 + hR M → b ≠ 49 → Ma b = M b) ∧ (∀ i, i < 44 → Ma (51 + hR M) i = CS M i) ∧ Ma 49 1 = (((hR M + 1) % 20 : Nat) : Int) ∧ Ma 49 2 = ((min 20 (hN M + 1) : Nat) : Int)) ∧ Sb WHs Ma M' ∧ HV (chN M h sd N).1 h M' ∧ M' 0 16 = ((chN M h sd N).2.1 : Int)))) := by
          intro sm s2 k2 M2 ec hS hV2 hs2
          refine g3 hC rfl rfl ?_
          refine g19 hC rfl rfl (Nat.le_of_ble_eq_true rfl) rfl ((hS.fix hw hF).g rfl) ?_
          refine g3 hC rfl rfl ?_
          refine g19 hC rfl rfl (Nat.le_of_ble_eq_true rfl) rfl ((hS _ _ rfl).trans hH3) ?_
          refine g3 hC rfl rfl ?_
          refine g19 hC rfl rfl (Nat.le_of_ble_eq_true rfl) rfl ((hS.fix hw hF).g rfl) ?_
          refine g3 hC rfl rfl ?_
          refine g0 hC rfl ?_
          refine c0 hC rfl rfl rfl (Nat.le_of_ble_eq_true rfl) (Nat.le_of_ble_eq_true rfl) rfl (m4 (hS.fix hw hF) hh hV2 o1 o2 o3) (Nat.le_of_ble_eq_true rfl) (fun M4 hr => ?_)
          obtain ⟨hr0, hrr⟩ := hr; have hS := hS.then hr0 rfl; have hV3 := hV2.sb hr0 hwh hso
          refine g3 hC rfl rfl ?_
          refine g19 hC rfl rfl (Nat.le_of_ble_eq_true rfl) rfl ((hS.fix hw hF).g rfl) ?_
          refine g3 hC rfl rfl ?_
          refine g19 hC rfl rfl (Nat.le_of_ble_eq_true rfl) rfl ((hS _ _ rfl).trans hH3) ?_
          refine g3 hC rfl rfl ?_
          refine g19 hC rfl rfl (Nat.le_of_ble_eq_true rfl) rfl ((hS.fix hw hF).g rfl) ?_
          refine c1 hC rfl rfl rfl (Nat.le_of_ble_eq_true rfl) (Nat.le_of_ble_eq_true rfl) rfl (m70 (hS.fix hw hF) hh hV3 o1 o2 hrr.2.2.2.2) (Nat.le_of_ble_eq_true rfl) (fun x M4 hr => ?_)
          obtain ⟨-, hr1, hV5⟩ := hr; have hS := hS.then hr1 rfl
          refine g18 hC rfl (by decide) ?_
          refine n3 hC rfl rfl ⟨by omega, by omega⟩ ?_
          refine g14 hC rfl ?_
          refine hnext _ _ ⟨(0, sm), ?_, hS, ?_, ?_⟩
          · rw [chN_s, hc, ec]; rfl
          · rw [chN_s, hc, ec]; exact hV5
          · rw [chN_s, hc, ec, hr1 0 16 rfl, hr0 0 16 rfl]; exact hs2
        refine g3 hC rfl rfl ?_
        refine g3 hC rfl rfl ?_
        refine g13g hC rfl (fun h22 => (by omega)) (fun h22 => ?_)
        refine g3 hC rfl rfl ?_
        refine g0 hC rfl ?_
        refine g13g hC rfl (fun h25 => (by omega)) (fun h25 => ?_)
        refine g0 hC rfl ?_
        refine s4 hC rfl rfl rfl ?_
        refine g3 hC rfl rfl ?_
        refine g19 hC rfl rfl (Nat.le_of_ble_eq_true rfl) rfl ((hS _ _ rfl).trans hH3) ?_
        refine g19 hC rfl (shH hh) (Nat.le_of_ble_eq_true rfl) rfl (hVh _ hV1) ?_
        refine g12s hC rfl (fun h31 => ?_) (fun h31 => ?_)
        ·
          refine fin _ _ _ _ ?_ hS hV1 hsd1
          unfold chS; rw [if_neg (by omega)]
        ·
          refine g3 hC rfl rfl ?_
          refine g0 hC rfl ?_
          refine c1 hC rfl rfl rfl (Nat.le_of_ble_eq_true rfl) (Nat.le_of_ble_eq_true rfl) rfl (m147 (m := 100) (hS.fix hw hF) hsd1 o4 (by decide) (by decide)) (Nat.le_of_ble_eq_true rfl) (fun x M2 hr => ?_)
          obtain ⟨rfl, hr⟩ := hr; replace hr := hr.symm; subst hr; have hS := hS.up (a := 0) (k := 16) (x := ((lcg c.2.1 : Nat) : Int)) rfl
          refine g3 hC rfl rfl ?_
          refine g19 hC rfl rfl (Nat.le_of_ble_eq_true rfl) rfl ((hS _ _ rfl).trans hH3) ?_
          refine g19 hC rfl (shH hh) (Nat.le_of_ble_eq_true rfl) rfl (hVs _ (hVu _ _ hV1)) ?_
          refine g13g hC rfl (fun h38 => ?_) (fun h38 => ?_)
          ·
            refine fin _ _ _ _ ?_ hS (hVu _ _ hV1) ax_up_at
            unfold chS; rw [if_pos (by omega), if_neg (by omega)]
          ·
            refine g3 hC rfl rfl ?_
            refine g3 hC rfl rfl ?_
            refine g19 hC rfl rfl (Nat.le_of_ble_eq_true rfl) rfl ((hS _ _ rfl).trans hH3) ?_
            refine g19 hC rfl (shH hh) (Nat.le_of_ble_eq_true rfl) rfl (hVh _ (hVu _ _ hV1)) ?_
            refine c1 hC rfl rfl rfl (Nat.le_of_ble_eq_true rfl) (Nat.le_of_ble_eq_true rfl) rfl (m147 (m := nS c.1 h) (hS.fix hw hF) ax_up_at lcg_b (by omega) (by omega)) (Nat.le_of_ble_eq_true rfl) (fun x M2 hr => ?_)
            obtain ⟨rfl, hr⟩ := hr; replace hr := hr.symm; subst hr; have hS := hS.up (a := 0) (k := 16) (x := ((lcg (lcg c.2.1) : Nat) : Int)) rfl
            refine s4 hC rfl rfl rfl ?_
            refine n2 hC rfl rfl ⟨by omega, by omega⟩ ?_
            refine fin _ (lcg (lcg c.2.1)) (c.2.2 + 1) _ ?_ hS (hVu _ _ (hVu _ _ hV1)) ax_up_at
            unfold chS; rw [if_pos (by omega), if_pos (by omega)]
    refine g3 hC rfl rfl ?_
    refine g0 hC rfl ?_
    refine g13l hC rfl (fun h2 => (by omega)) (fun h2 => ?_)
    refine g3 hC rfl rfl ?_
    refine g3 hC rfl rfl ?_
    refine c1 hC rfl rfl rfl (Nat.le_of_ble_eq_true rfl) (Nat.le_of_ble_eq_true rfl) rfl (m145 hF hs1 (by omega)) (Nat.le_of_ble_eq_true rfl) (fun x M2 hr => ?_)
    obtain ⟨rfl, hr⟩ := hr; replace hr := hr.symm; subst hr; rw [if_pos ⟨z.1.2, z.2⟩]
    refine g12n hC rfl (fun h6 => ?_) (fun h6 => (by omega))
    refine g3 hC rfl rfl ?_
    refine g19 hC rfl rfl (Nat.le_of_ble_eq_true rfl) rfl ((hS.fix hw hF).g rfl) ?_
    refine g3 hC rfl rfl ?_
    refine g19 hC rfl rfl (Nat.le_of_ble_eq_true rfl) rfl ((hS.fix hw hF).g rfl) ?_
    refine c0 hC rfl rfl rfl (Nat.le_of_ble_eq_true rfl) (Nat.le_of_ble_eq_true rfl) rfl (m31 hF ⟨hgh.1.1, hgh.1.2.1⟩ ⟨hgh.2.1.1, hgh.2.1.2.1⟩) (Nat.le_of_ble_eq_true rfl) (fun M2 hr => ?_)
    obtain ⟨hr0, hra⟩ := hr; have hS := hS.then hr0 rfl
    refine g0 hC rfl ?_
    refine s2 hC rfl rfl rfl ?_
    refine g0 hC rfl ?_
    refine s3 hC rfl rfl rfl ?_
    exact l0 _ hr0 hra N 0 (Nat.zero_add _) _ _ ⟨_, rfl, Sb.refl, hV.sb hS (hokB (by decide +kernel) hh) (sokB (by decide +kernel)), (hr0 0 16 rfl).trans hsd0⟩
  · by_cases y : 1 ≤ a
    · skip
      refine g3 hC rfl rfl ?_
      refine g0 hC rfl ?_
      refine g13l hC rfl (fun h2 => (by omega)) (fun h2 => ?_)
      refine g3 hC rfl rfl ?_
      refine g3 hC rfl rfl ?_
      refine c1 hC rfl rfl rfl (Nat.le_of_ble_eq_true rfl) (Nat.le_of_ble_eq_true rfl) rfl (m145 hF hs1 (by omega)) (Nat.le_of_ble_eq_true rfl) (fun x M2 hr => ?_)
      obtain ⟨rfl, hr⟩ := hr; replace hr := hr.symm; subst hr; rw [if_neg (by omega)]
      refine g12n hC rfl (fun h6 => (by omega)) (fun h6 => ?_)
      refine g3 hC rfl rfl ?_
      refine g0 hC rfl ?_
      refine c1 hC rfl rfl rfl (Nat.le_of_ble_eq_true rfl) (Nat.le_of_ble_eq_true rfl) rfl (m138 (k := 3) hF (by decide) ⟨hN3.2.1, by omega⟩) (Nat.le_of_ble_eq_true rfl) (fun x M2 hr => ?_)
      obtain ⟨rfl, hr⟩ := hr
      refine ret1 hC rfl rfl ?_
      exact Or.inl ⟨z, rfl, hr⟩
    · skip
      refine g3 hC rfl rfl ?_
      refine g0 hC rfl ?_
      refine g13l hC rfl (fun h2 => ?_) (fun h2 => (by omega))
      refine g3 hC rfl rfl ?_
      refine g0 hC rfl ?_
      refine c1 hC rfl rfl rfl (Nat.le_of_ble_eq_true rfl) (Nat.le_of_ble_eq_true rfl) rfl (m138 (k := 3) hF (by decide) ⟨hN3.2.1, by omega⟩) (Nat.le_of_ble_eq_true rfl) (fun x M2 hr => ?_)
      obtain ⟨rfl, hr⟩ := hr
      refine ret1 hC rfl rfl ?_
      exact Or.inl ⟨z, rfl, hr⟩
theorem m262 (hF : Fix M) (hh : h = 9 ∨ h = 27) (hV : RV V h M) (hW : HW V h) (hSW : SW V) (hPW : PW V h) (hsm : M 142 69 = -1) (hwd : M 142 70 = -1) {sd : Nat} (hsd0 : M 142 84 = (sd : Int)) (hsdb : sd < 2147483648) (hN3 : 0 ≤ M 144 3 ∧ M 144 3 ≤ 1000000) {r q : Nat} (hr1 : M 142 83 = (r : Int) ∧ r < 20) (hn1 : M 142 82 = (q : Int) ∧ q ≤ 20) {a : Int} : ax_Ev L X SH 9 262 [(2, 142), (0, a)] M (R1 0 (fun x M' => (¬ ((1 ≤ a ∧ a ≤ 30) ∧ V 45 0 + a ≤ 999) ∧ x = -1 ∧ M' = ax_up M 144 3 (M 144 3 + 1)) ∨ (((1 ≤ a ∧ a ≤ 30) ∧ V 45 0 + a ≤ 999) ∧ x = ((chN V h sd a.toNat).2.2 : Int) ∧ ∃ Ma, Sb XK M Ma ∧ ((∀ k, Ma 203 k = if 44 * ((r + 1) % 20) ≤ k ∧ k < 44 * ((r + 1) % 20) + 44 then M 185 (k - 44 * ((r + 1) % 20)) else M 203 k) ∧ Ma 142 83 = (((r + 1) % 20 : Nat) : Int) ∧ Ma 142 82 = ((min 20 (q + 1) : Nat) : Int)) ∧ Sb XEs Ma M' ∧ RV (chN V h sd a.toNat).1 h M' ∧ M' 142 84 = ((chN V h sd a.toNat).2.1 : Int) ∧ M' 142 69 = -1))) := by
  show ax_G L X SH 9 262 0 [(2, 142), (0, a), (3, 0), (3, 0)] [] M _
  have hC := at262
  have hw : wok XK = true := by decide +kernel
  have hS : Sb XK M M := Sb.refl
  have hs1 := hSW.1
  have e0 : M 185 0 = V 45 0 := hV.2.2.2.2.1.1
  by_cases z : (1 ≤ a ∧ a ≤ 30) ∧ V 45 0 + a ≤ 999
  · obtain ⟨N, rfl⟩ : ∃ k : Nat, a = (k : Int) := ⟨a.toNat, by omega⟩
    rw [show ((N : Int)).toNat = N from rfl]
    have l0 : ∀ Ma : ax_M, Sb XK M Ma → ((∀ k, Ma 203 k = if 44 * ((r + 1) % 20) ≤ k ∧ k < 44 * ((r + 1) % 20) + 44 then M 185 (k - 44 * ((r + 1) % 20)) else M 203 k) ∧ Ma 142 83 = (((r + 1) % 20 : Nat) : Int) ∧ Ma 142 82 = ((min 20 (q + 1) : Nat) : Int)) → ∀ (m k : Nat), k + m = N → ∀ ll M1, (ll = [(2, 142), (0, (N : Int)), (0, ((chN V h sd k).2.2 : Int)), (0, (k : Int))] ∧ Sb XEs Ma M1 ∧ RV (chN V h sd k).1 h M1 ∧ M1 142 84 = ((chN V h sd k).2.1 : Int) ∧ M1 142 69 = -1) → ax_G L X SH 9 262 16 ll [] M1 (R1 0 (fun x M' => (¬ ((1 ≤ (N : Int) ∧ (N : Int) ≤ 30) ∧ V 45 0 + (N : Int) ≤ 999) ∧ x = -1 ∧ M' = ax_up M 144 3 (M 144 3 + 1)) ∨ (((1 ≤ (N : Int) ∧ (N : Int) ≤ 30) ∧ V 45 0 + (N : Int) ≤ 999) ∧ x = ((chN V h sd N).2.2 : Int) ∧ ∃ Ma, Sb XK M Ma ∧ ((∀ k, Ma 203 k = if 44 * ((r + 1) % 20) ≤ k ∧ k < 44 * ((r + 1) % 20) + 44 then M 185 (k - 44 * ((r + 1) % 20)) else M 203 k) ∧ Ma 142 83 = (((r + 1) % 20 : Nat) : Int) ∧ Ma 142 82 = ((min 20 (q + 1) : Nat) : Int)) ∧ Sb XEs Ma M' ∧ RV (chN V h sd N).1 h M' ∧ M' 142 84 = ((chN V h sd N).2.1 : Int) ∧ M' 142 69 = -1))) := by
      intro Ma hSa hfa
      have hFa := hSa.fix hw hF
      have hwda : Ma 142 70 = -1 := (hSa 142 70 rfl).trans hwd
      have hw : wok XEs = true := by decide +kernel
      have hF := hFa
      refine lp ?_ ?_
      · rintro ll M1 ⟨rfl, hS, hV1, hsd1, h69⟩
        refine g3 hC rfl rfl ?_
        refine g3 hC rfl rfl ?_
        refine g13g hC rfl (fun h18 => ?_) (fun h18 => (by omega))
        refine g3 hC rfl rfl ?_
        refine ret1 hC rfl rfl ?_
        exact Or.inr ⟨z, rfl, Ma, hSa, hfa, hS, hV1, hsd1, h69⟩
      · rintro k hk ll M1 ⟨rfl, hS, hV1, hsd1, h69⟩ hnext
        obtain ⟨⟨o1, o2, o3⟩, o4, o5, o6, o7⟩ := chN_ok hh hW hSW hPW hsdb k
        have o6' := o6 (by omega)
        generalize hc : chN V h sd k = c at *
        have hb := o1.1.2.1.2
        have hsmk := o1.2.2.2.2.2.2
        have hVu : ∀ M1 p x, p = 84 ∨ p = 69 → RV c.1 h M1 → RV c.1 h (ax_up M1 142 p x) := by
          intro M1 p x _ hv
          obtain ⟨a1, a2, a3, a4, a5, a6⟩ := hv
          unfold RV
          rw [ax_up_ne (show 176 ≠ 142 by decide), ax_up_ne (show 178 ≠ 142 by decide), ax_up_ne (show 180 ≠ 142 by decide), ax_up_ne (show 181 ≠ 142 by decide), ax_up_ne (show 185 ≠ 142 by decide), ax_up_ne (show 182 ≠ 142 by decide), ax_up_ne (show 183 ≠ 142 by decide), ax_up_ne (show 184 ≠ 142 by decide)]
          exact ⟨a1, a2, a3, a4, a5, a6⟩
        have fin : ∀ (sm : Int) (s2 k2 : Nat) M2, chS h c = (nxD c.1 h sm, s2, k2) → Sb XEs Ma M2 → RV c.1 h M2 → M2 142 84 = (s2 : Int) → M2 142 69 = sm → ax_G L X SH 9 262 37 [(2, 142), (0, (N : Int)), (0, (k2 : Int)), (0, (k : Int))] [] M2 (R1 0 (fun x M' => (¬ ((1 ≤ (N : Int) ∧ (N : Int) ≤ 30) ∧ V 45 0 + (N : Int) ≤ 999) ∧ x = -1 ∧ M' = ax_up M 144 3 (M 144 3 + 1)) ∨ (((1 ≤ (N : Int) ∧ (N : Int) ≤ 30) ∧ V 45 0 + (N : Int) ≤ 999) ∧ x = ((chN V h sd N).2.2 : Int) ∧ ∃ Ma, Sb XK M Ma ∧ ((∀ k, Ma 203 k = if 44 * ((r + 1) % 20) ≤ k ∧ k < 44 * ((r + 1) % 20) + 44 then M 185 (k - 44 * ((r + 1) % 20)) else M 203 k) ∧ Ma 142 83 = (((r + 1) % 20 : Nat) : Int) ∧ Ma 142 82 = ((min 20 (q + 1) : Nat) : Int)) ∧ Sb XEs Ma M' ∧ RV (chN V h sd N).1 h M' ∧ M' 142 84 = ((chN V h sd N).2.1 : Int) ∧ M' 142 69 = -1))) := by
          intro sm s2 k2 M2 ec hS hV2 hs2 hsm2
          have hVw : ∀ M1 x, RV (nxD c.1 h sm) h M1 → RV (nxD c.1 h sm) h (ax_up M1 142 69 x) := by
            intro M1 x hv
            obtain ⟨a1, a2, a3, a4, a5, a6⟩ := hv
            unfold RV
            rw [ax_up_ne (show 176 ≠ 142 by decide), ax_up_ne (show 178 ≠ 142 by decide), ax_up_ne (show 180 ≠ 142 by decide), ax_up_ne (show 181 ≠ 142 by decide), ax_up_ne (show 185 ≠ 142 by decide), ax_up_ne (show 182 ≠ 142 by decide), ax_up_ne (show 183 ≠ 142 by decide), ax_up_ne (show 184 ≠ 142 by decide)]
            exact ⟨a1, a2, a3, a4, a5, a6⟩
          refine g3 hC rfl rfl ?_
          refine c1 hC rfl rfl rfl (Nat.le_of_ble_eq_true rfl) (Nat.le_of_ble_eq_true rfl) (mayR k211 rfl) (m211 (hS.fix hw hF) hh hV2 o1 o2 o3 hsm2 ((hS 142 70 rfl).trans hwda) (by omega)) (Nat.le_of_ble_eq_true rfl) (fun x M4 hr => ?_)
          obtain ⟨-, hr0, hV5⟩ := hr; have hS := hS.then hr0 rfl
          refine g18 hC rfl (by decide) ?_
          refine g3 hC rfl rfl ?_
          refine g0 hC rfl ?_
          refine g20s hC rfl sh142 (flt12 rfl) (by rw [fy12_69]; rfl) hS rfl (fun hS => ?_)
          refine n3 hC rfl rfl ⟨by omega, by omega⟩ ?_
          refine g14 hC rfl ?_
          refine hnext _ _ ⟨?_, hS, ?_, ?_, ax_up_at⟩
          · rw [chN_s, hc, ec]; rfl
          · rw [chN_s, hc, ec]; exact hVw _ _ hV5
          · rw [chN_s, hc, ec, ax_up_of (by decide), hr0 142 84 rfl]; exact hs2
        have e5 : ∀ M1, RV c.1 h M1 → M1 181 5 = c.1 h 19 := fun M1 hv => hv.2.2.2.1.2.2
        refine g3 hC rfl rfl ?_
        refine g3 hC rfl rfl ?_
        refine g13g hC rfl (fun h18 => (by omega)) (fun h18 => ?_)
        refine g3 hC rfl rfl ?_
        refine c1 hC rfl rfl rfl (Nat.le_of_ble_eq_true rfl) (Nat.le_of_ble_eq_true rfl) (mayR k184 rfl) (m184 (hS.fix hw hF) hV1 o1) (Nat.le_of_ble_eq_true rfl) (fun x M2 hr => ?_)
        obtain ⟨rfl, hr⟩ := hr; replace hr := hr.symm; subst hr
        refine g12s hC rfl (fun h21 => ?_) (fun h21 => ?_)
        ·
          refine fin (-1) _ _ _ ?_ hS hV1 hsd1 h69
          unfold chS; rw [if_neg (by omega)]
        ·
          refine g3 hC rfl rfl ?_
          refine g0 hC rfl ?_
          refine c1 hC rfl rfl rfl (Nat.le_of_ble_eq_true rfl) (Nat.le_of_ble_eq_true rfl) (mayR k261 rfl) (m261 (m := 100) (hS.fix hw hF) hsd1 o4 (by decide) (by decide)) (Nat.le_of_ble_eq_true rfl) (fun x M2 hr => ?_)
          obtain ⟨rfl, hr⟩ := hr; replace hr := hr.symm; subst hr; have hS := hS.up (a := 142) (k := 84) (x := ((lcg c.2.1 : Nat) : Int)) rfl
          refine g3 hC rfl rfl ?_
          refine g19 hC rfl sh142 (flt12 rfl) ft12_47 ((hS.fix hw hF).g fx_142_47) ?_
          refine g0 hC rfl ?_
          refine r21 (5) hC rfl (by omega) sh181 (Or.inl rfl) (by omega) (e5 _ (hVu _ 84 _ (Or.inl rfl) hV1)) ?_
          refine g13g hC rfl (fun h29 => ?_) (fun h29 => ?_)
          ·
            refine fin (-1) _ _ _ ?_ hS (hVu _ 84 _ (Or.inl rfl) hV1) ax_up_at ((up2 (by decide)).trans h69)
            unfold chS; rw [if_pos (by omega), if_neg (by omega)]
          ·
            refine g3 hC rfl rfl ?_
            refine g3 hC rfl rfl ?_
            refine g3 hC rfl rfl ?_
            refine c1 hC rfl rfl rfl (Nat.le_of_ble_eq_true rfl) (Nat.le_of_ble_eq_true rfl) (mayR k184 rfl) (m184 (hS.fix hw hF) (hVu _ 84 _ (Or.inl rfl) hV1) o1) (Nat.le_of_ble_eq_true rfl) (fun x M2 hr => ?_)
            obtain ⟨rfl, hr⟩ := hr; replace hr := hr.symm; subst hr
            refine c1 hC rfl rfl rfl (Nat.le_of_ble_eq_true rfl) (Nat.le_of_ble_eq_true rfl) (mayR k261 rfl) (m261 (m := nS c.1 h) (hS.fix hw hF) ax_up_at lcg_b (by omega) (by omega)) (Nat.le_of_ble_eq_true rfl) (fun x M2 hr => ?_)
            obtain ⟨rfl, hr⟩ := hr; replace hr := hr.symm; subst hr; have hS := hS.up (a := 142) (k := 84) (x := ((lcg (lcg c.2.1) : Nat) : Int)) rfl
            refine g20s hC rfl sh142 (flt12 rfl) (by rw [fy12_69]; rfl) hS rfl (fun hS => ?_)
            refine n2 hC rfl rfl ⟨by omega, by omega⟩ ?_
            refine fin _ (lcg (lcg c.2.1)) (c.2.2 + 1) _ ?_ hS (hVu _ 69 _ (Or.inr rfl) (hVu _ 84 _ (Or.inl rfl) (hVu _ 84 _ (Or.inl rfl) hV1))) ((up2 (by decide)).trans ax_up_at) ax_up_at
            unfold chS; rw [if_pos (by omega), if_pos (by omega)]
    refine g3 hC rfl rfl ?_
    refine g3 hC rfl rfl ?_
    refine g0 hC rfl ?_
    refine g0 hC rfl ?_
    refine c1 hC rfl rfl rfl (Nat.le_of_ble_eq_true rfl) (Nat.le_of_ble_eq_true rfl) (mayR k215 rfl) (m215 hF (by rw [e0]; exact hs1) (by decide) (by decide)) (Nat.le_of_ble_eq_true rfl) (fun x M2 hr => ?_)
    obtain ⟨rfl, hr⟩ := hr; replace hr := hr.symm; subst hr; rw [e0, if_pos z]
    refine g12n hC rfl (fun h5 => ?_) (fun h5 => (by omega))
    refine g3 hC rfl rfl ?_
    refine c0 hC rfl rfl rfl (Nat.le_of_ble_eq_true rfl) (Nat.le_of_ble_eq_true rfl) (mayR k254 rfl) (m254 hF hr1 hn1) (Nat.le_of_ble_eq_true rfl) (fun M2 hr => ?_)
    obtain ⟨hr0, hra⟩ := hr; have hS := hS.then hr0 rfl
    refine g0 hC rfl ?_
    refine s2 hC rfl rfl rfl ?_
    refine g0 hC rfl ?_
    refine s3 hC rfl rfl rfl ?_
    exact l0 _ hr0 hra N 0 (Nat.zero_add _) _ _ ⟨rfl, Sb.refl, hV.sb hS (rokB (by decide +kernel)), (hr0 142 84 rfl).trans hsd0, (hr0 142 69 rfl).trans hsm⟩
  · skip
    refine g3 hC rfl rfl ?_
    refine g3 hC rfl rfl ?_
    refine g0 hC rfl ?_
    refine g0 hC rfl ?_
    refine c1 hC rfl rfl rfl (Nat.le_of_ble_eq_true rfl) (Nat.le_of_ble_eq_true rfl) (mayR k215 rfl) (m215 hF (by rw [e0]; exact hs1) (by decide) (by decide)) (Nat.le_of_ble_eq_true rfl) (fun x M2 hr => ?_)
    obtain ⟨rfl, hr⟩ := hr; replace hr := hr.symm; subst hr; rw [e0, if_neg z]
    refine g12n hC rfl (fun h5 => (by omega)) (fun h5 => ?_)
    refine g3 hC rfl rfl ?_
    refine g0 hC rfl ?_
    refine c1 hC rfl rfl rfl (Nat.le_of_ble_eq_true rfl) (Nat.le_of_ble_eq_true rfl) (mayR k247 rfl) (m247 (k := 3) hF (by decide) hN3) (Nat.le_of_ble_eq_true rfl) (fun x M2 hr => ?_)
    obtain ⟨rfl, hr⟩ := hr
    refine ret1 hC rfl rfl ?_
    exact Or.inl ⟨z, rfl, hr⟩
theorem op30 (hR0 : Rel n M) (hn : n ≤ 1000) {a : Int} : OP L X n 0 130 262 [(2, 0), (0, a)] [(2, 142), (0, a)] M := by
  have hR := hR0
  obtain ⟨h, hh, hF, hG⟩ := hR
  have hG0 := hG
  obtain ⟨hW, hSW, hPW, hRV, hGT, hGN, hGM, hGH, hGS, hGX⟩ := hG
  have hV : HV M h M := HV.refl
  have hH3 : M 0 3 = (h : Int) := hGX.1.1
  have hN3 := hGN 3 (by decide)
  obtain ⟨⟨b1, b2, b3⟩, ⟨b4, b5, b6⟩, b7, b8⟩ := hGH
  have hsd := hGX.2.1
  have hsd2 : M 142 84 = (((M 0 16).toNat : Nat) : Int) := by omega
  refine OP.tw (d' := 9) (m130 hF hh hG0 hn) (Q := fun x M1 y M2 => (¬ ((1 ≤ a ∧ a ≤ 30) ∧ M 45 0 + a ≤ 999) ∧ y = -1 ∧ M2 = ax_up M1 144 3 (M1 144 3 + 1)) ∨ (((1 ≤ a ∧ a ≤ 30) ∧ M 45 0 + a ≤ 999) ∧ y = ((chN M h (M 0 16).toNat a.toNat).2.2 : Int) ∧ ∃ Ma, Sb XK M1 Ma ∧ ((∀ k, Ma 203 k = if 44 * ((Jvm.Pilot.CFireDrillLaw_law_r2865_e29a64.hR M + 1) % 20) ≤ k ∧ k < 44 * ((Jvm.Pilot.CFireDrillLaw_law_r2865_e29a64.hR M + 1) % 20) + 44 then M1 185 (k - 44 * ((Jvm.Pilot.CFireDrillLaw_law_r2865_e29a64.hR M + 1) % 20)) else M1 203 k) ∧ Ma 142 83 = (((Jvm.Pilot.CFireDrillLaw_law_r2865_e29a64.hR M + 1) % 20 : Nat) : Int) ∧ Ma 142 82 = ((min 20 (hN M + 1) : Nat) : Int)) ∧ Sb XEs Ma M2 ∧ RV (chN M h (M 0 16).toNat a.toNat).1 h M2 ∧ M2 142 84 = ((chN M h (M 0 16).toNat a.toNat).2.1 : Int) ∧ M2 142 69 = -1)) (fun x M1 hx => ?_) (fun x M1 y M2 hx hy => ?_) (by decide) (by decide)
  · rcases hx with ⟨-, -, rfl⟩ | ⟨-, -, Ma, hs, -, hs2, -⟩
    · have hs : Sb WR M (ax_up M 140 3 (M 140 3 + 1)) := Sb.refl.up rfl
      exact m262 (hs.fix (by decide +kernel) hF) hh (hRV.sb hs (rokB (by decide +kernel))) hW hSW hPW hGX.2.2.1.1 hGX.2.2.1.2 hsd2 (by omega) (by rw [hs 144 3 rfl]; omega) ⟨b3, b2⟩ ⟨b6, b5⟩
    · have hs : Sb WCH M M1 := (hs.mono rfl).then hs2 rfl
      exact m262 (hs.fix (by decide +kernel) hF) hh (hRV.sb hs (rokB (by decide +kernel))) hW hSW hPW ((hs 142 69 rfl).trans hGX.2.2.1.1) ((hs 142 70 rfl).trans hGX.2.2.1.2) ((hs 142 84 rfl).trans hsd2) (by omega) (by rw [hs 144 3 rfl]; omega) ⟨(hs 142 83 rfl).trans b3, b2⟩ ⟨(hs 142 82 rfl).trans b6, b5⟩
  · rcases hx with ⟨x1, rfl, rfl⟩ | ⟨x1, rfl, Ma, hsa, ⟨f1, f2, f3, f4⟩, hsh, hV2, hsd3⟩
    · rcases hy with ⟨-, y2, y3⟩ | ⟨y1, -⟩
      · rw [ax_up_ne (show (144 : Nat) ≠ 140 by decide)] at y3
        exact ⟨y2, relInc hR0 y3⟩
      · exact absurd y1 x1
    · rcases hy with ⟨y1, -⟩ | ⟨-, y2, Mb, hsb, ⟨e1, e2, e3⟩, hse, hR2, hsd4, h69⟩
      · exact absurd x1 y1
      · have o := chN_ok hh hW hSW hPW (sd := (M 0 16).toNat) (by omega) a.toNat
        have hs3 : M2 0 16 = ((chN M h (M 0 16).toNat a.toNat).2.1 : Int) := by rw [hse 0 16 rfl, hsb 0 16 rfl]; exact hsd3
        exact ⟨y2, drills_rel (W := WH) (N := 0) hF hh hG0 hsa f1 f2 f3 f4 hsh hsb e1 e2 e3 hse hV2 hR2 o.1.2.1 o.2.2.2.2 h69 (by rw [hsd4, hs3]; omega)⟩
end CHA
