def XCP : ax_W := ([(187, 195), (197, 200), (230, 231)], [(142, 53), (142, 56), (142, 57), (142, 58), (142, 59), (142, 67), (142, 116)])
def X243 : ax_W := ([(199, 200)], [])
section CPP
variable {can : Nat → Nat → Bool} {w : Nat → Nat → Int} {n : Nat}
def stF (can : Nat → Nat → Bool) (w : Nat → Nat → Int) (n rem m k : Nat) (A : OT) : OT := if m.testBit (n - rem + k) && can (n - (rem + 1)) (n - rem + k) then chs A (w (n - (rem + 1)) (n - rem + k) + (Om can w n rem (clr m (n - rem + k))).1, (n - (rem + 1), n - rem + k) :: (Om can w n rem (clr m (n - rem + k))).2) else A
theorem Om_s (rem m : Nat) : Om can w n (rem + 1) m = if m.testBit (n - (rem + 1)) then it (stF can w n rem m) rem (Om can w n rem m) else Om can w n rem m := rfl
theorem it_cg {α : Type} {f g : Nat → α → α} {x y : α} (hxy : x = y) : ∀ n, (∀ k z, k < n → f k z = g k z) → it f n x = it g n y := by
  intro n
  induction n with
  | zero => intro _; exact hxy
  | succ n ih =>
    intro hf
    show f n (it f n x) = g n (it g n y)
    rw [ih (fun k z hk => hf k z (by omega)), hf n _ (by omega)]
theorem OmA (hn : n ≤ 8) : ∀ rem m m', rem ≤ n → m < 256 → m' < 256 → (∀ q, n - rem ≤ q → q < n → m.testBit q = m'.testBit q) → Om can w n rem m = Om can w n rem m' := by
  intro rem
  induction rem with
  | zero => intros; rfl
  | succ rem ih =>
    intro m m' hr h1 h2 hq
    rw [Om_s, Om_s, hq (n - (rem + 1)) (Nat.le_refl _) (by omega)]
    have y0 := ih m m' (by omega) h1 h2 (fun q a b => hq q (by omega) b)
    have y1 : it (stF can w n rem m) rem (Om can w n rem m) = it (stF can w n rem m') rem (Om can w n rem m') := by
      refine it_cg y0 rem (fun k z hk => ?_)
      unfold stF
      have y2 : Om can w n rem (clr m (n - rem + k)) = Om can w n rem (clr m' (n - rem + k)) := by
        refine ih _ _ (by omega) (clr_t _ (by omega) 0 (by decide) m h1).2 (clr_t _ (by omega) 0 (by decide) m' h2).2 (fun q a b => ?_)
        rw [(clr_t _ (by omega) q (by omega) m h1).1, (clr_t _ (by omega) q (by omega) m' h2).1, hq q (by omega) b]
      rw [hq (n - rem + k) (by omega) (by omega), y2]
    rw [y0, ← y0, y1]
    rw [y0]
theorem OmB {m : Nat} : ∀ j rem, rem + j = n → (∀ q, q < j → m.testBit q = false) → Om can w n n m = Om can w n rem m := by
  intro j
  induction j with
  | zero => intro rem h1 _; rw [show rem = n by omega]
  | succ j ih =>
    intro rem h1 h2
    rw [ih (rem + 1) (by omega) (fun q hq => h2 q (by omega)), Om_s, h2 (n - (rem + 1)) (by omega)]; rfl
theorem Om0 : ∀ rem, Om can w n rem 0 = (0, []) := by
  intro rem
  induction rem with
  | zero => rfl
  | succ rem ih => rw [Om_s, Nat.zero_testBit, ih]; rfl
def gp (can : Nat → Nat → Bool) (G c k : Nat) : Bool := G.testBit (c + 1 + k) && can c (c + 1 + k)
def gB (can : Nat → Nat → Bool) (w : Nat → Nat → Int) (n G c k : Nat) : OT := (w c (c + 1 + k) + (Om can w n n (clr G (c + 1 + k))).1, (c, c + 1 + k) :: (Om can w n n (clr G (c + 1 + k))).2)
def gI (can : Nat → Nat → Bool) (w : Nat → Nat → Int) (n G c m : Nat) (A : OT) : OT := it (fun k A => if gp can G c k then chs A (gB can w n G c k) else A) m A
def fsb (F c : Nat) : Prop := c < 8 ∧ F.testBit c = true ∧ ∀ q, q < c → F.testBit q = false
theorem OmF (hn : n ≤ 8) {F c : Nat} (hF : F < 256) (hc : c < n) (hf : fsb F c) : Om can w n n F = gI can w n (clr F c) c (n - 1 - c) (Om can w n n (clr F c)) := by
  have k1 := clr_t c (by omega)
  have z0 : (clr F c) < 256 := (k1 0 (by decide) F hF).2
  have zb : ∀ q, q < 8 → (clr F c).testBit q = (F.testBit q && !(q == c)) := fun q hq => (k1 q hq F hF).1
  have zl : ∀ q, q < c + 1 → (clr F c).testBit q = false := by
    intro q hq
    rw [zb q (by omega)]
    by_cases y : q = c
    · rw [y]; simp
    · rw [hf.2.2 q (by omega)]; rfl
  have e1 : Om can w n n F = Om can w n (n - 1 - c + 1) F := OmB c (n - 1 - c + 1) (by omega) hf.2.2
  have e2 : n - (n - 1 - c + 1) = c := by omega
  have e3 : n - (n - 1 - c) = c + 1 := by omega
  rw [e1, Om_s, e2, hf.2.1, if_pos rfl]
  have e4 : Om can w n (n - 1 - c) F = Om can w n n (clr F c) := by
    rw [OmB (c + 1) (n - 1 - c) (by omega) zl]
    refine OmA hn _ _ _ (by omega) hF z0 (fun q a b => ?_)
    rw [zb q (by omega), show (q == c) = false from beq_false_of_ne (by omega)]; simp
  refine it_cg e4 _ (fun k A hk => ?_)
  unfold stF gp gB
  rw [e2, e3]
  have k2 := clr_t (c + 1 + k) (by omega)
  have e5 : (clr F c).testBit (c + 1 + k) = F.testBit (c + 1 + k) := by
    rw [zb _ (by omega), show (c + 1 + k == c) = false from beq_false_of_ne (by omega)]; simp
  have e6 : Om can w n (n - 1 - c) (clr F (c + 1 + k)) = Om can w n n (clr (clr F c) (c + 1 + k)) := by
    rw [OmB (m := clr (clr F c) (c + 1 + k)) (c + 1) (n - 1 - c) (by omega) (fun q hq => by rw [(k2 q (by omega) _ z0).1, zl q hq]; rfl)]
    refine OmA hn _ _ _ (by omega) (k2 0 (by decide) F hF).2 (k2 0 (by decide) _ z0).2 (fun q a b => ?_)
    rw [(k2 q (by omega) _ z0).1, (k2 q (by omega) F hF).1, zb q (by omega), show (q == c) = false from beq_false_of_ne (by omega)]; simp
  rw [e5, e6]
theorem fsE {p : Nat → Bool} {B : Nat → OT} {A0 : OT} : ∀ m, A0.1 ≤ (it (fun k A => if p k then chs A (B k) else A) m A0).1 ∧ (∀ k, k < m → p k = true → (B k).1 ≤ (it (fun k A => if p k then chs A (B k) else A) m A0).1) ∧ (it (fun k A => if p k then chs A (B k) else A) m A0 = A0 ∨ (A0.1 < (it (fun k A => if p k then chs A (B k) else A) m A0).1 ∧ ∃ k, k < m ∧ p k = true ∧ it (fun k A => if p k then chs A (B k) else A) m A0 = B k ∧ ∀ k', k' < k → p k' = true → (B k').1 < (it (fun k A => if p k then chs A (B k) else A) m A0).1)) := by
  intro m
  induction m with
  | zero => exact ⟨Int.le_refl _, fun k hk => absurd hk (Nat.not_lt_zero k), Or.inl rfl⟩
  | succ m ih =>
    have e : it (fun k A => if p k then chs A (B k) else A) (m + 1) A0 = if p m then chs (it (fun k A => if p k then chs A (B k) else A) m A0) (B m) else it (fun k A => if p k then chs A (B k) else A) m A0 := rfl
    rw [e]
    generalize it (fun k A => if p k then chs A (B k) else A) m A0 = R at ih ⊢
    obtain ⟨i1, i2, i3⟩ := ih
    by_cases z : p m = true
    · rw [if_pos z]
      unfold chs
      by_cases y : R.1 < (B m).1
      · rw [if_pos y]
        refine ⟨by omega, fun k hk hp => ?_, Or.inr ⟨by omega, m, by omega, z, rfl, fun k' hk' hp => ?_⟩⟩
        · by_cases u : k = m
          · rw [u]; exact Int.le_refl _
          · have := i2 k (by omega) hp; omega
        · have := i2 k' hk' hp; omega
      · rw [if_neg y]
        refine ⟨i1, fun k hk hp => ?_, ?_⟩
        · by_cases u : k = m
          · rw [u]; omega
          · exact i2 k (by omega) hp
        · rcases i3 with u | ⟨u, k, k1, k2⟩
          · exact Or.inl u
          · exact Or.inr ⟨u, k, by omega, k2⟩
    · rw [if_neg z]
      refine ⟨i1, fun k hk hp => ?_, ?_⟩
      · by_cases u : k = m
        · rw [u] at hp; exact absurd hp z
        · exact i2 k (by omega) hp
      · rcases i3 with u | ⟨u, k, k1, k2⟩
        · exact Or.inl u
        · exact Or.inr ⟨u, k, by omega, k2⟩
theorem fsb_ex : ∀ F, F < 256 → 0 < F → ∃ c, c < 8 ∧ F.testBit c = true ∧ ∀ q, q < c → F.testBit q = false := by decide +kernel
theorem clr_l : ∀ e, e < 8 → ∀ F, F < 256 → clr F e ≤ F ∧ (F.testBit e = true → clr F e < F) := by decide +kernel
theorem bitI : ∀ e, e < 8 → ∀ F, F < 256 → (Int32.ofInt ((Int32.ofInt ((F : Nat) : Int) >>> (Int32.ofInt ((e : Nat) : Int) &&& 31)).toInt) &&& Int32.ofInt 1).toInt = if F.testBit e then 1 else 0 := by decide +kernel
theorem clrI : ∀ e, e < 8 → ∀ F, F < 256 → (Int32.ofInt ((F : Nat) : Int) &&& Int32.ofInt ((Int32.ofInt ((Int32.ofInt 1 <<< (Int32.ofInt ((e : Nat) : Int) &&& 31)).toInt) ^^^ Int32.ofInt (-1)).toInt)).toInt = ((clr F e : Nat) : Int) := by decide +kernel
theorem fullB : ∀ n, n < 9 → 1 <<< n ≤ 256 ∧ 0 < 1 <<< n ∧ (∀ q, q < n → (1 <<< n - 1).testBit q = true) ∧ ∀ F, F < 256 → F < 1 <<< n → ∀ c, c < 8 → F.testBit c = true → c < n := by decide +kernel
end CPP
section CPC
variable {L : Nat} {X : Nat → Int} {M V : ax_M} {h n : Nat}
theorem m121 (hF : Fix M) (hh : h = 9 ∨ h = 27) (hG : GG n h M) : ax_Ev L X SH 11 121 [(2, 0)] M (R1 1 (fun x M' => x = (OV M h (mt M h (-1) (-1))).1 ∧ Sb W121 M M')) := by
  show ax_G L X SH 11 121 0 [(2, 0)] [] M _
  have hC := at121
  have hw : wok W121 = true := by decide +kernel
  have hS : Sb W121 M M := Sb.refl
  have hV : HV M h M := HV.refl
  have hW := hG.1
  have hH3 : M 0 3 = (h : Int) := hG.2.2.2.2.2.2.2.2.2.1.1
  have hwd : hok WD h := hokB (by decide +kernel) hh
  have hso : sok WD := sokB (by decide +kernel)
  refine g3 hC rfl rfl ?_
  refine c0 hC rfl rfl rfl (Nat.le_of_ble_eq_true rfl) (Nat.le_of_ble_eq_true rfl) rfl (m143 hF hh hV hW hG.2.1 hG.2.2.1 hH3) (Nat.le_of_ble_eq_true rfl) (fun M2 hr => ?_)
  obtain ⟨hr0, hrr⟩ := hr; have hS := hS.then hr0 rfl
  refine g3 hC rfl rfl ?_
  refine g19 hC rfl rfl (Nat.le_of_ble_eq_true rfl) rfl ((hS.fix hw hF).g rfl) ?_
  refine g3 hC rfl rfl ?_
  refine g19 hC rfl rfl (Nat.le_of_ble_eq_true rfl) rfl ((hS _ _ rfl).trans hH3) ?_
  refine g3 hC rfl rfl ?_
  refine g19 hC rfl rfl (Nat.le_of_ble_eq_true rfl) rfl ((hS.fix hw hF).g rfl) ?_
  refine g3 hC rfl rfl ?_
  refine g19 hC rfl rfl (Nat.le_of_ble_eq_true rfl) rfl ((hS.fix hw hF).g rfl) ?_
  refine c0 hC rfl rfl rfl (Nat.le_of_ble_eq_true rfl) (Nat.le_of_ble_eq_true rfl) rfl (m1 (hr0.fix wWD hF) hh (hV.sb hr0 hwd hso) hW hG.2.1 hG.2.2.1 (mm := mt M h (-1) (-1)) (fun _ _ => mt_b) hrr.2.2.2.2) (Nat.le_of_ble_eq_true rfl) (fun M2 hr => ?_)
  obtain ⟨hr1, hr2, hr3⟩ := hr; have hS := hS.then hr1 rfl
  refine g3 hC rfl rfl ?_
  refine g19 hC rfl rfl (Nat.le_of_ble_eq_true rfl) rfl ((hS.fix hw hF).g rfl) ?_
  refine g19 hC rfl sh110 (Nat.le_of_ble_eq_true rfl) rfl hr2 ?_
  refine ret1 hC rfl rfl ?_
  exact ⟨rfl, hS⟩
def mateV (V : ax_M) (h : Nat) (mm : Nat → Nat → Int) (a : Int) : Int := if 0 ≤ a ∧ a < (nC V h : Int) then appl (fun _ => -1) (OV V h mm).2 a.toNat else -1
theorem m122 (hF : Fix M) (hh : h = 9 ∨ h = 27) (hG : GG n h M) {a : Int} : ax_Ev L X SH 11 122 [(2, 0), (0, a)] M (R1 0 (fun x M' => x = mateV M h (mt M h (-1) (-1)) a ∧ Sb W121 M M')) := by
  show ax_G L X SH 11 122 0 [(2, 0), (0, a)] [] M _
  have hC := at122
  have hw : wok W121 = true := by decide +kernel
  have hwh : hok W121 h := hokB (by decide +kernel) hh
  have hS : Sb W121 M M := Sb.refl
  have hV : HV M h M := HV.refl
  have hW := hG.1
  have hb := hW.1.2.2.2.2
  have hH3 : M 0 3 = (h : Int) := hG.2.2.2.2.2.2.2.2.2.1.1
  have hwd : hok WD h := hokB (by decide +kernel) hh
  have hso : sok WD := sokB (by decide +kernel)
  by_cases z2 : 0 ≤ a ∧ a < (nC M h : Int)
  · obtain ⟨k, rfl⟩ : ∃ k : Nat, a = (k : Int) := ⟨a.toNat, by omega⟩
    have e : mateV M h (mt M h (-1) (-1)) (k : Int) = appl (fun _ => -1) (OV M h (mt M h (-1) (-1))).2 k := if_pos z2
    rw [e]
    refine g3 hC rfl rfl ?_
    refine g3 hC rfl rfl ?_
    refine g19 hC rfl rfl (Nat.le_of_ble_eq_true rfl) rfl ((hS _ _ rfl).trans hH3) ?_
    refine g19 hC rfl (shH hh) (Nat.le_of_ble_eq_true rfl) rfl (rd3 hS hwh hV hW) ?_
    refine c1 hC rfl rfl rfl (Nat.le_of_ble_eq_true rfl) (Nat.le_of_ble_eq_true rfl) rfl (m140) (Nat.le_of_ble_eq_true rfl) (fun x M2 hr => ?_)
    obtain ⟨rfl, hr⟩ := hr; replace hr := hr.symm; subst hr; rw [if_pos z2]
    refine g12n hC rfl (fun h5 => ?_) (fun h5 => (by omega))
    refine g3 hC rfl rfl ?_
    refine c0 hC rfl rfl rfl (Nat.le_of_ble_eq_true rfl) (Nat.le_of_ble_eq_true rfl) rfl (m143 hF hh hV hW hG.2.1 hG.2.2.1 hH3) (Nat.le_of_ble_eq_true rfl) (fun M2 hr => ?_)
    obtain ⟨hr0, hrr⟩ := hr; have hS := hS.then hr0 rfl
    refine g3 hC rfl rfl ?_
    refine g19 hC rfl rfl (Nat.le_of_ble_eq_true rfl) rfl ((hS.fix hw hF).g rfl) ?_
    refine g3 hC rfl rfl ?_
    refine g19 hC rfl rfl (Nat.le_of_ble_eq_true rfl) rfl ((hS _ _ rfl).trans hH3) ?_
    refine g3 hC rfl rfl ?_
    refine g19 hC rfl rfl (Nat.le_of_ble_eq_true rfl) rfl ((hS.fix hw hF).g rfl) ?_
    refine g3 hC rfl rfl ?_
    refine g19 hC rfl rfl (Nat.le_of_ble_eq_true rfl) rfl ((hS.fix hw hF).g rfl) ?_
    refine c0 hC rfl rfl rfl (Nat.le_of_ble_eq_true rfl) (Nat.le_of_ble_eq_true rfl) rfl (m1 (hr0.fix wWD hF) hh (hV.sb hr0 hwd hso) hW hG.2.1 hG.2.2.1 (mm := mt M h (-1) (-1)) (fun _ _ => mt_b) hrr.2.2.2.2) (Nat.le_of_ble_eq_true rfl) (fun M2 hr => ?_)
    obtain ⟨hr1, hr2, hr3⟩ := hr; have hS := hS.then hr1 rfl
    refine g3 hC rfl rfl ?_
    refine g19 hC rfl rfl (Nat.le_of_ble_eq_true rfl) rfl ((hS.fix hw hF).g rfl) ?_
    refine g19 hC rfl sh110 (Nat.le_of_ble_eq_true rfl) rfl ((hS.fix hw hF).g fx_110_0) ?_
    refine g3 hC rfl rfl ?_
    refine r21 (k) hC rfl rfl sh111 (Or.inl rfl) (by omega) (hr3 k (by omega)) ?_
    refine ret1 hC rfl rfl ?_
    exact ⟨rfl, hS⟩
  · have e : mateV M h (mt M h (-1) (-1)) a = -1 := if_neg z2
    rw [e]
    refine g3 hC rfl rfl ?_
    refine g3 hC rfl rfl ?_
    refine g19 hC rfl rfl (Nat.le_of_ble_eq_true rfl) rfl ((hS _ _ rfl).trans hH3) ?_
    refine g19 hC rfl (shH hh) (Nat.le_of_ble_eq_true rfl) rfl (rd3 hS hwh hV hW) ?_
    refine c1 hC rfl rfl rfl (Nat.le_of_ble_eq_true rfl) (Nat.le_of_ble_eq_true rfl) rfl (m140) (Nat.le_of_ble_eq_true rfl) (fun x M2 hr => ?_)
    obtain ⟨rfl, hr⟩ := hr; replace hr := hr.symm; subst hr; rw [if_neg z2]
    refine g12n hC rfl (fun h5 => (by omega)) (fun h5 => ?_)
    refine g0 hC rfl ?_
    refine ret1 hC rfl rfl ?_
    exact ⟨rfl, hS⟩
theorem m240 {F c : Nat} (hF : F < 256) (hf : fsb F c) : ax_Ev L X SH 0 240 [(0, (F : Int))] M (R1 0 (fun x M' => x = (c : Int) ∧ M' = M)) := by
  show ax_G L X SH 0 240 0 [(0, (F : Int)), (3, 0)] [] M _
  have hC := at240
  have l1 : ∀ (m k : Nat), k + m = c → ∀ ll M1, (ll = [(0, (F : Int)), (0, (k : Int))] ∧ M1 = M) → ax_G L X SH 0 240 2 ll [] M1 (R1 0 (fun x M' => x = (c : Int) ∧ M' = M)) := by
    have hc8 := hf.1
    refine lp ?_ ?_
    · rintro ll M1 ⟨rfl, rfl⟩
      refine g3 hC rfl rfl ?_
      refine g3 hC rfl rfl ?_
      refine g6 hC rfl rfl ?_
      refine g0 hC rfl ?_
      refine g6 hC rfl (congrArg some ((bitI c (by omega) F hF).trans (if_pos hf.2.1))) ?_
      refine g12n hC rfl (fun h7 => ?_) (fun h7 => (by omega))
      refine g3 hC rfl rfl ?_
      refine ret1 hC rfl rfl ?_
      exact ⟨rfl, rfl⟩
    · rintro k hk ll M1 ⟨rfl, rfl⟩ hnext
      have hz : ¬ F.testBit k = true := by rw [hf.2.2 k hk]; decide
      refine g3 hC rfl rfl ?_
      refine g3 hC rfl rfl ?_
      refine g6 hC rfl rfl ?_
      refine g0 hC rfl ?_
      refine g6 hC rfl (congrArg some ((bitI k (by omega) F hF).trans (if_neg hz))) ?_
      refine g12n hC rfl (fun h7 => (by omega)) (fun h7 => ?_)
      refine n1 hC rfl rfl ⟨by omega, by omega⟩ ?_
      refine g14 hC rfl ?_
      exact hnext _ _ ⟨rfl, rfl⟩
  refine g0 hC rfl ?_
  refine s1 hC rfl rfl rfl ?_
  exact l1 c 0 (Nat.zero_add _) _ _ ⟨rfl, rfl⟩
theorem m241 (hF : Fix M) {mm : Nat → Nat → Int} (hm : ∀ a b, a < 8 → b < 8 → M 193 (8 * a + b) = mm a b) {a b : Nat} (ha : a < 8) (hb : b < 8) : ax_Ev L X SH 0 241 [(2, 142), (0, (a : Int)), (0, (b : Int))] M (R1 0 (fun x M' => x = (if canV mm a b then 1 else 0) ∧ M' = M)) := by
  show ax_G L X SH 0 241 0 [(2, 142), (0, (a : Int)), (0, (b : Int))] [] M _
  have hC := at241
  have hw := wX0
  have hS : Sb X0 M M := Sb.refl
  refine g3 hC rfl rfl ?_
  refine g19 hC rfl sh142 (flt12 rfl) ft12_66 ((hS.fix hw hF).g fx_142_66) ?_
  refine g0 hC rfl ?_
  refine g3 hC rfl rfl ?_
  refine g6m hC rfl ⟨by omega, by omega⟩ ?_
  refine g3 hC rfl rfl ?_
  refine g6a hC rfl ⟨by omega, by omega⟩ ?_
  refine r21 (8 * a + b) hC rfl (by omega) sh193 (Or.inl rfl) (by omega) (hm a b ha hb) ?_
  refine g12s hC rfl (fun h8 => ?_) (fun h8 => ?_)
  ·
    refine g0 hC rfl ?_
    refine ret3 hC rfl ⟨by omega, by omega⟩ ?_
    exact ⟨by rw [show canV mm a b = false from decide_eq_false (by omega)]; rfl, rfl⟩
  ·
    refine g0 hC rfl ?_
    refine g14 hC rfl ?_
    refine ret3 hC rfl ⟨by omega, by omega⟩ ?_
    exact ⟨by rw [show canV mm a b = true from decide_eq_true (by omega)]; rfl, rfl⟩
end CPC
