section ONO
variable {L : Nat} {X : Nat → Int} {M V : ax_M} {h n : Nat} {f g : Nat → Int}
theorem sp_b (hW : HW V h) {a b : Nat} (hab : a < b) (hb : b < nC V h) : sp V h a b + 1 < lst V h := by
  have h4 := hW.1.2.2.2.2
  obtain ⟨q1, q2, q3, q4⟩ := lst_b hW
  have := cnt_sp (nC V h) (by omega) a (by omega) b hb hab
  unfold sp; omega
theorem on_cg (hW : HW V h) (hfg : ∀ i, i < 1600 → f i = g i) : onV V h f = onV V h g := by
  have h2 := hW.1.2.1.2; have h3 := hW.1.2.2.1.2; have h4 := hW.1.2.2.2.2
  obtain ⟨q1, q2, q3, q4⟩ := lst_b hW
  funext a k
  unfold onV
  rw [hfg 0 (by decide), hfg 1 (by decide)]
  by_cases z1 : a = 45 ∧ k = 0
  · rw [if_pos z1, if_pos z1]
  rw [if_neg z1, if_neg z1]
  by_cases z2 : a = 46 ∧ k < nQ V h
  · rw [if_pos z2, if_pos z2, hfg _ (by omega)]
  rw [if_neg z2, if_neg z2]
  by_cases z3 : a = 47 ∧ k < nS V h
  · rw [if_pos z3, if_pos z3, hfg _ (by omega)]
  rw [if_neg z3, if_neg z3]
  by_cases z4 : a = 48 ∧ k < 28 ∧ prB k < nC V h
  · have := sp_b hW (pO_pr k z4.2.1).1 z4.2.2
    rw [if_pos z4, if_pos z4, hfg _ (by omega), hfg _ (by omega)]
  · rw [if_neg z4, if_neg z4]
theorem im_cg (hW : HW V h) (hfg : ∀ i, i < 1600 → f i = g i) {len : Int} : isIm V h f len → isIm V h g len := by
  have h2 := hW.1.2.1.2; have h3 := hW.1.2.2.1.2
  obtain ⟨q1, q2, q3, q4⟩ := lst_b hW
  rintro ⟨i1, i2, i3, i4, i5, i6⟩
  refine ⟨i1, ?_, ?_, fun i a b => ?_, fun i a b => ?_, fun j hj => ?_⟩
  · rw [← hfg _ (by omega), ← chk_c _ (fun k hk => hfg k (by omega))]; exact i2
  · rw [← hfg _ (by decide), ← hfg _ (by decide)]; exact i3
  · rw [← hfg _ (by omega)]; exact i4 i a b
  · rw [← hfg _ (by omega)]; exact i5 i a b
  · rw [← hfg _ (by omega), ← hfg _ (by omega)]; exact i6 j hj
theorem m297 (hF : Fix M) {k : Nat} (hk : k + 1 < 1600) (hB : bB (M 143)) : ax_Ev L X SH 0 297 [(2, 142), (0, (k : Int))] M (R1 0 (fun x M' => x = 256 * M 143 k + M 143 (k + 1) ∧ M' = M)) := by
  show ax_G L X SH 0 297 0 [(2, 142), (0, (k : Int))] [] M _
  have hC := at297
  have hw := wX0
  have hS : Sb X0 M M := Sb.refl
  have b0 := hB k (by omega)
  have b1 := hB (k + 1) (by omega)
  refine g0 hC rfl ?_
  refine g3 hC rfl rfl ?_
  refine g19 hC rfl sh142 (flt12 rfl) ft12_0 ((hS.fix hw hF).g fx_142_0) ?_
  refine g3 hC rfl rfl ?_
  refine r21 (k) hC rfl (by omega) sh143 (Or.inl rfl) (by omega) (hS 143 (k) rfl) ?_
  refine g6m hC rfl ⟨by omega, by omega⟩ ?_
  refine g3 hC rfl rfl ?_
  refine g19 hC rfl sh142 (flt12 rfl) ft12_0 ((hS.fix hw hF).g fx_142_0) ?_
  refine g3 hC rfl rfl ?_
  refine g0 hC rfl ?_
  refine g6a hC rfl ⟨by omega, by omega⟩ ?_
  refine r21 ((k + 1)) hC rfl (by omega) sh143 (Or.inl rfl) (by omega) (hS 143 ((k + 1)) rfl) ?_
  refine g6a hC rfl ⟨by omega, by omega⟩ ?_
  refine ret1 hC rfl rfl ?_
  exact ⟨rfl, rfl⟩
theorem m298 (hF : Fix M) (hV : RV V h M) (hW : HW V h) (hB : bB (M 143)) {len : Int} (hlen : 0 ≤ len ∧ len ≤ 1600) : ax_Ev L X SH 1 298 [(2, 142), (0, len)] M (R1 0 (fun x M' => ((x = 1 ∧ isIm V h (M 143) len) ∨ (x = 0 ∧ ¬ isIm V h (M 143) len)) ∧ M' = M)) := by
  show ax_G L X SH 1 298 0 [(2, 142), (0, len), (3, 0), (3, 0), (3, 0)] [] M _
  obtain ⟨P, hP⟩ : ∃ P, P = fun (x : Int) M' => ((x = 1 ∧ isIm V h (M 143) len) ∨ (x = 0 ∧ ¬ isIm V h (M 143) len)) ∧ M' = M := ⟨_, rfl⟩
  rw [← hP]
  have hC := at298
  have hw := wX0
  have hwr := rX0
  have hS : Sb X0 M M := Sb.refl
  have h2 := hW.1.2.1.2; have h3 := hW.1.2.2.1.2; have h4 := hW.1.2.2.2.2
  obtain ⟨q1, q2, q3, q4⟩ := lst_b hW
  have ec := ecC hW
  have hck := chk_b (f := M 143) (lst V h)
  have l3 : len = ((lst V h + 1 : Nat) : Int) → M 143 (lst V h) = (chk (M 143) (lst V h) : Int) → 256 * M 143 0 + M 143 1 ≤ 999 → (∀ i, 2 ≤ i → i < 2 + nQ V h → M 143 i ≤ 20) → (∀ i, 2 + nQ V h ≤ i → i < pa V h → M 143 i ≤ 1) → ∀ (m j : Nat), j + m = cntP (nC V h) (nC V h) → ∀ ll M1, (ll = [(2, 142), (0, len), (0, ((2 + nQ V h : Nat) : Int)), (0, (pa V h : Int)), (0, ((pa V h + 2 * j : Nat) : Int))] ∧ M1 = M ∧ ∀ j', j' < j → 256 * M 143 (pa V h + 2 * j') + M 143 (pa V h + 2 * j' + 1) ≤ 9999) → ax_G L X SH 1 298 75 ll [] M1 (R1 0 P) := by
    intro e1 e2 e3 e4 e5
    refine lp ?_ ?_
    · rintro ll M1 ⟨rfl, rfl, h1⟩
      refine g3 hC rfl rfl ?_
      refine g3 hC rfl rfl ?_
      refine g0 hC rfl ?_
      refine g6s hC rfl ⟨by omega, by omega⟩ ?_
      refine g13g hC rfl (fun h79 => ?_) (fun h79 => (by omega))
      refine g0 hC rfl ?_
      refine ret3 hC rfl ⟨by omega, by omega⟩ ?_
      rw [hP]
      exact ⟨Or.inl ⟨rfl, e1, e2, e3, e4, e5, h1⟩, rfl⟩
    · rintro j hj ll M1 ⟨rfl, rfl, h1⟩ hnext
      have ej : ((pa V h + 2 * j : Nat) : Int) + 2 = ((pa V h + 2 * (j + 1) : Nat) : Int) := by omega
      refine g3 hC rfl rfl ?_
      refine g3 hC rfl rfl ?_
      refine g0 hC rfl ?_
      refine g6s hC rfl ⟨by omega, by omega⟩ ?_
      refine g13g hC rfl (fun h79 => (by omega)) (fun h79 => ?_)
      refine g3 hC rfl rfl ?_
      refine g3 hC rfl rfl ?_
      refine c1 hC rfl rfl rfl (Nat.le_of_ble_eq_true rfl) (Nat.le_of_ble_eq_true rfl) (mayR k297 rfl) (m297 hF (by omega) hB) (Nat.le_of_ble_eq_true rfl) (fun x M2 hr => ?_)
      obtain ⟨rfl, hr⟩ := hr
      replace hr := hr.symm
      subst hr
      refine g0 hC rfl ?_
      refine g13s hC rfl (fun h84 => ?_) (fun h84 => ?_)
      ·
        refine n4 hC rfl rfl ⟨by omega, by omega⟩ ?_
        refine g14 hC rfl ?_
        refine hnext _ _ ⟨by rw [ej], rfl, fun j' hj' => ?_⟩
        by_cases w : j' = j
        · rw [w]; omega
        · exact h1 j' (by omega)
      ·
        refine g0 hC rfl ?_
        refine ret3 hC rfl ⟨by omega, by omega⟩ ?_
        rw [hP]
        exact ⟨Or.inr ⟨rfl, fun w => by have := w.2.2.2.2.2 j hj; omega⟩, rfl⟩
  have l2 : len = ((lst V h + 1 : Nat) : Int) → M 143 (lst V h) = (chk (M 143) (lst V h) : Int) → 256 * M 143 0 + M 143 1 ≤ 999 → (∀ i, 2 ≤ i → i < 2 + nQ V h → M 143 i ≤ 20) → ∀ (m j : Nat), j + m = nS V h → ∀ ll M1, (ll = [(2, 142), (0, len), (0, ((2 + nQ V h : Nat) : Int)), (0, (pa V h : Int)), (0, ((2 + nQ V h + j : Nat) : Int))] ∧ M1 = M ∧ (∀ i, 2 + nQ V h ≤ i → i < 2 + nQ V h + j → M 143 i ≤ 1)) → ax_G L X SH 1 298 60 ll [] M1 (R1 0 P) := by
    intro e1 e2 e3 e4
    refine lp ?_ ?_
    · rintro ll M1 ⟨rfl, rfl, h1⟩
      refine g3 hC rfl rfl ?_
      refine g3 hC rfl rfl ?_
      refine g13g hC rfl (fun h62 => ?_) (fun h62 => (by omega))
      refine g3 hC rfl rfl ?_
      refine s4 hC rfl rfl rfl ?_
      exact l3 e1 e2 e3 e4 h1 (cntP (nC V h) (nC V h)) 0 (Nat.zero_add _) _ _ ⟨rfl, rfl, fun j' hj' => absurd hj' (Nat.not_lt_zero _)⟩
    · rintro j hj ll M1 ⟨rfl, rfl, h1⟩ hnext
      refine g3 hC rfl rfl ?_
      refine g3 hC rfl rfl ?_
      refine g13g hC rfl (fun h62 => (by omega)) (fun h62 => ?_)
      refine g3 hC rfl rfl ?_
      refine g19 hC rfl sh142 (flt12 rfl) ft12_0 ((hS.fix hw hF).g fx_142_0) ?_
      refine g3 hC rfl rfl ?_
      refine r21 ((2+nQ V h+j)) hC rfl (by omega) sh143 (Or.inl rfl) (by omega) (hS 143 ((2+nQ V h+j)) rfl) ?_
      refine g0 hC rfl ?_
      refine g13s hC rfl (fun h68 => ?_) (fun h68 => ?_)
      ·
        refine n4 hC rfl rfl ⟨by omega, by omega⟩ ?_
        refine g14 hC rfl ?_
        refine hnext _ _ ⟨rfl, rfl, fun i a b => ?_⟩
        by_cases w : i = 2 + nQ V h + j
        · rw [w]; omega
        · exact h1 i a (by omega)
      ·
        refine g0 hC rfl ?_
        refine ret3 hC rfl ⟨by omega, by omega⟩ ?_
        rw [hP]
        exact ⟨Or.inr ⟨rfl, fun w => by have := w.2.2.2.2.1 (2 + nQ V h + j) (by omega) (by omega); omega⟩, rfl⟩
  have l1 : len = ((lst V h + 1 : Nat) : Int) → M 143 (lst V h) = (chk (M 143) (lst V h) : Int) → 256 * M 143 0 + M 143 1 ≤ 999 → ∀ (m j : Nat), j + m = nQ V h → ∀ ll M1, (ll = [(2, 142), (0, len), (0, ((2 + nQ V h : Nat) : Int)), (0, (pa V h : Int)), (0, ((2 + j : Nat) : Int))] ∧ M1 = M ∧ (∀ i, 2 ≤ i → i < 2 + j → M 143 i ≤ 20)) → ax_G L X SH 1 298 45 ll [] M1 (R1 0 P) := by
    intro e1 e2 e3
    refine lp ?_ ?_
    · rintro ll M1 ⟨rfl, rfl, h1⟩
      refine g3 hC rfl rfl ?_
      refine g3 hC rfl rfl ?_
      refine g13g hC rfl (fun h47 => ?_) (fun h47 => (by omega))
      refine g3 hC rfl rfl ?_
      refine s4 hC rfl rfl rfl ?_
      exact l2 e1 e2 e3 h1 (nS V h) 0 (Nat.zero_add _) _ _ ⟨rfl, rfl, fun i a b => by omega⟩
    · rintro j hj ll M1 ⟨rfl, rfl, h1⟩ hnext
      refine g3 hC rfl rfl ?_
      refine g3 hC rfl rfl ?_
      refine g13g hC rfl (fun h47 => (by omega)) (fun h47 => ?_)
      refine g3 hC rfl rfl ?_
      refine g19 hC rfl sh142 (flt12 rfl) ft12_0 ((hS.fix hw hF).g fx_142_0) ?_
      refine g3 hC rfl rfl ?_
      refine r21 ((2+j)) hC rfl (by omega) sh143 (Or.inl rfl) (by omega) (hS 143 ((2+j)) rfl) ?_
      refine g0 hC rfl ?_
      refine g13s hC rfl (fun h53 => ?_) (fun h53 => ?_)
      ·
        refine n4 hC rfl rfl ⟨by omega, by omega⟩ ?_
        refine g14 hC rfl ?_
        refine hnext _ _ ⟨rfl, rfl, fun i a b => ?_⟩
        by_cases w : i = 2 + j
        · rw [w]; omega
        · exact h1 i a (by omega)
      ·
        refine g0 hC rfl ?_
        refine ret3 hC rfl ⟨by omega, by omega⟩ ?_
        rw [hP]
        exact ⟨Or.inr ⟨rfl, fun w => by have := w.2.2.2.1 (2 + j) (by omega) (by omega); omega⟩, rfl⟩
  have el : len = ((lst V h + 1 : Nat) : Int) → len - 1 = (lst V h : Int) := fun z => by omega
  refine g0 hC rfl ?_
  refine g3 hC rfl rfl ?_
  refine c1 hC rfl rfl rfl (Nat.le_of_ble_eq_true rfl) (Nat.le_of_ble_eq_true rfl) (mayR k185 rfl) (m185 hF hV hW) (Nat.le_of_ble_eq_true rfl) (fun x M2 hr => ?_)
  obtain ⟨rfl, hr⟩ := hr
  replace hr := hr.symm
  subst hr
  refine g6a hC rfl ⟨by omega, by omega⟩ ?_
  refine s2 hC rfl rfl rfl ?_
  refine g3 hC rfl rfl ?_
  refine g3 hC rfl rfl ?_
  refine c1 hC rfl rfl rfl (Nat.le_of_ble_eq_true rfl) (Nat.le_of_ble_eq_true rfl) (mayR k184 rfl) (m184 hF hV hW) (Nat.le_of_ble_eq_true rfl) (fun x M2 hr => ?_)
  obtain ⟨rfl, hr⟩ := hr
  replace hr := hr.symm
  subst hr
  refine g6a hC rfl ⟨by omega, by omega⟩ ?_
  refine s3 hC rfl rfl rfl ?_
  refine g3 hC rfl rfl ?_
  refine g3 hC rfl rfl ?_
  refine g3 hC rfl rfl ?_
  refine c1 hC rfl rfl rfl (Nat.le_of_ble_eq_true rfl) (Nat.le_of_ble_eq_true rfl) (mayR k186 rfl) (m186 hF hV hW) (Nat.le_of_ble_eq_true rfl) (fun x M2 hr => ?_)
  obtain ⟨rfl, hr⟩ := hr
  replace hr := hr.symm
  subst hr
  refine g3 hC rfl rfl ?_
  refine c1 hC rfl rfl rfl (Nat.le_of_ble_eq_true rfl) (Nat.le_of_ble_eq_true rfl) (mayR k186 rfl) (m186 hF hV hW) (Nat.le_of_ble_eq_true rfl) (fun x M2 hr => ?_)
  obtain ⟨rfl, hr⟩ := hr
  replace hr := hr.symm
  subst hr
  refine g0 hC rfl ?_
  refine g6s hC rfl ⟨by omega, by omega⟩ ?_
  refine g6m hC rfl (by rw [ec]; exact ⟨by omega, by omega⟩) ?_
  rw [ec]
  refine g6a hC rfl ⟨by omega, by omega⟩ ?_
  refine g0 hC rfl ?_
  refine g6a hC rfl ⟨by omega, by omega⟩ ?_
  refine g13n hC rfl (fun h22 => ?_) (fun h22 => ?_)
  ·
    refine g0 hC rfl ?_
    refine ret3 hC rfl ⟨by omega, by omega⟩ ?_
    rw [hP]
    exact ⟨Or.inr ⟨rfl, fun w => h22 (by rw [w.1]; omega)⟩, rfl⟩
  ·
    refine g3 hC rfl rfl ?_
    refine g19 hC rfl sh142 (flt12 rfl) ft12_0 ((hS.fix hw hF).g fx_142_0) ?_
    refine g3 hC rfl rfl ?_
    refine g0 hC rfl ?_
    refine g6s hC rfl ⟨by omega, by omega⟩ ?_
    rw [el (by omega)]
    refine r21 (lst V h) hC rfl rfl sh143 (Or.inl rfl) (by omega) rfl ?_
    refine g3 hC rfl rfl ?_
    refine g19 hC rfl sh142 (flt12 rfl) ft12_0 ((hS.fix hw hF).g fx_142_0) ?_
    refine g3 hC rfl rfl ?_
    refine g0 hC rfl ?_
    refine g6s hC rfl ⟨by omega, by omega⟩ ?_
    rw [el (by omega)]
    refine c1 hC rfl rfl rfl (Nat.le_of_ble_eq_true rfl) (Nat.le_of_ble_eq_true rfl) (mayS k292 rfl) (m292 (c := 143) (len := 1600) (n := lst V h) sh143 (by omega) (by omega) (fun k hk => hB k (by omega))) (Nat.le_of_ble_eq_true rfl) (fun x M2 hr => ?_)
    obtain ⟨rfl, hr⟩ := hr; replace hr := hr.symm; subst hr
    refine g13n hC rfl (fun h35 => ?_) (fun h35 => ?_)
    ·
      refine g0 hC rfl ?_
      refine ret3 hC rfl ⟨by omega, by omega⟩ ?_
      rw [hP]
      exact ⟨Or.inr ⟨rfl, fun w => h35 w.2.1⟩, rfl⟩
    ·
      refine g3 hC rfl rfl ?_
      refine g0 hC rfl ?_
      refine c1 hC rfl rfl rfl (Nat.le_of_ble_eq_true rfl) (Nat.le_of_ble_eq_true rfl) (mayR k297 rfl) (m297 (k := 0) hF (by decide) hB) (Nat.le_of_ble_eq_true rfl) (fun x M2 hr => ?_)
      obtain ⟨rfl, hr⟩ := hr; replace hr := hr.symm; subst hr
      refine g0 hC rfl ?_
      refine g13s hC rfl (fun h40 => ?_) (fun h40 => ?_)
      ·
        refine g0 hC rfl ?_
        refine s4 hC rfl rfl rfl ?_
        refine l1 (by omega) (by omega) h40 (nQ V h) 0 (Nat.zero_add _) _ _ ⟨?_, rfl, fun i a b => by omega⟩
        rw [show ((2 + nQ V h : Nat) : Int) = 2 + (nQ V h : Int) by omega, show ((pa V h : Nat) : Int) = 2 + (nQ V h : Int) + (nS V h : Int) by omega]; rfl
      ·
        refine g0 hC rfl ?_
        refine ret3 hC rfl ⟨by omega, by omega⟩ ?_
        rw [hP]
        exact ⟨Or.inr ⟨rfl, fun w => h40 w.2.2.1⟩, rfl⟩
theorem m299 (hF : Fix M) (hh : h = 9 ∨ h = 27) (hV : RV V h M) (hW : HW V h) (hB : bB (M 143)) (hlen : 0 ≤ M 142 1 ∧ M 142 1 ≤ 1600) (hN5 : 0 ≤ M 144 5 ∧ M 144 5 ≤ 1000000) : ax_Ev L X SH 3 299 [(2, 142)] M (R1 0 (fun x M' => (¬ isIm V h (M 143) (M 142 1) ∧ x = 0 ∧ M' = ax_up (ax_up M 142 1 0) 144 5 (M 144 5 + 1)) ∨ (isIm V h (M 143) (M 142 1) ∧ x = 1 ∧ Sb X299 M M' ∧ M' 142 1 = 0 ∧ M' 142 82 = 0 ∧ (∀ k, M' 144 k = M 144 k) ∧ RV (onV V h (M 143)) h M'))) := by
  show ax_G L X SH 3 299 0 [(2, 142), (3, 0), (3, 0), (3, 0), (3, 0)] [] M _
  obtain ⟨P, hP⟩ : ∃ P, P = fun (x : Int) M' => (¬ isIm V h (M 143) (M 142 1) ∧ x = 0 ∧ M' = ax_up (ax_up M 142 1 0) 144 5 (M 144 5 + 1)) ∨ (isIm V h (M 143) (M 142 1) ∧ x = 1 ∧ Sb X299 M M' ∧ M' 142 1 = 0 ∧ M' 142 82 = 0 ∧ (∀ k, M' 144 k = M 144 k) ∧ RV (onV V h (M 143)) h M') := ⟨_, rfl⟩
  rw [← hP]
  have hC := at299
  have hw : wok X299 = true := by decide +kernel
  have hS : Sb X299 M M := Sb.refl
  have h2 := hW.1.2.1.2; have h3 := hW.1.2.2.1.2; have h4 := hW.1.2.2.2.2
  obtain ⟨q1, q2, q3, q4⟩ := lst_b hW
  have hcnt : ∀ M1, Sb X299 M M1 → (M1 176 4 = V h 0 ∧ M1 176 7 = V h 1 ∧ M1 176 5 = V h 2 ∧ M1 176 6 = V h 3) := by
    intro M1 hS
    rw [hS 176 4 rfl, hS 176 7 rfl, hS 176 5 rfl, hS 176 6 rfl]
    exact hV.1
  have h186 : ∀ M1, Sb X299 M M1 → ax_Ev L X SH 0 186 [(2, 142)] M1 (R1 0 (fun x M' => x = (nC V h : Int) ∧ M' = M1)) := by
    intro M1 hS
    show ax_G L X SH 0 186 0 [(2, 142)] [] M1 _
    have hC := at186
    have h6 : M1 176 6 = (nC V h : Int) := ((hcnt M1 hS).2.2.2).trans hW.1.2.2.2.1
    refine g3 hC rfl rfl ?_
    refine g19 hC rfl sh142 (flt12 rfl) ft12_42 ((hS.fix hw hF).g fx_142_42) ?_
    refine g0 hC rfl ?_
    refine r21 (6) hC rfl (by omega) sh176 (Or.inl rfl) (by omega) h6 ?_
    refine ret1 hC rfl rfl ?_
    exact ⟨rfl, rfl⟩
  have h185 : ∀ M1, Sb X299 M M1 → ax_Ev L X SH 0 185 [(2, 142)] M1 (R1 0 (fun x M' => x = (nQ V h : Int) ∧ M' = M1)) := by
    intro M1 hS
    show ax_G L X SH 0 185 0 [(2, 142)] [] M1 _
    have hC := at185
    have h6 : M1 176 5 = (nQ V h : Int) := ((hcnt M1 hS).2.2.1).trans hW.1.2.2.1.1
    refine g3 hC rfl rfl ?_
    refine g19 hC rfl sh142 (flt12 rfl) ft12_42 ((hS.fix hw hF).g fx_142_42) ?_
    refine g0 hC rfl ?_
    refine r21 (5) hC rfl (by omega) sh176 (Or.inl rfl) (by omega) h6 ?_
    refine ret1 hC rfl rfl ?_
    exact ⟨rfl, rfl⟩
  have h184 : ∀ M1, Sb X299 M M1 → ax_Ev L X SH 0 184 [(2, 142)] M1 (R1 0 (fun x M' => x = (nS V h : Int) ∧ M' = M1)) := by
    intro M1 hS
    show ax_G L X SH 0 184 0 [(2, 142)] [] M1 _
    have hC := at184
    have h6 : M1 176 7 = (nS V h : Int) := ((hcnt M1 hS).2.1).trans hW.1.2.1.1
    refine g3 hC rfl rfl ?_
    refine g19 hC rfl sh142 (flt12 rfl) ft12_42 ((hS.fix hw hF).g fx_142_42) ?_
    refine g0 hC rfl ?_
    refine r21 (7) hC rfl (by omega) sh176 (Or.inl rfl) (by omega) h6 ?_
    refine ret1 hC rfl rfl ?_
    exact ⟨rfl, rfl⟩
  have h297 : ∀ M1, Sb X299 M M1 → ∀ k : Nat, k + 1 < 1600 → ax_Ev L X SH 0 297 [(2, 142), (0, (k : Int))] M1 (R1 0 (fun x M' => x = 256 * M 143 k + M 143 (k + 1) ∧ M' = M1)) := by
    intro M1 hS k hk
    have e : ∀ i, M1 143 i = M 143 i := fun i => hS 143 i rfl
    have := m297 (L := L) (X := X) (M := M1) (k := k) (hS.fix hw hF) hk (fun i hi => by rw [e]; exact hB i hi)
    rw [e, e] at this
    exact this
  have l3 : isIm V h (M 143) (M 142 1) → ∀ (m a : Nat), a + m = nC V h → ∀ ll M1, (∃ l1 v, ll = [(2, 142), (0, l1), (0, ((pa V h + 2 * cntP (nC V h) a : Nat) : Int)), (0, (a : Int)), v] ∧ Sb X299 M M1 ∧ M1 142 1 = 0 ∧ (∀ k, M1 144 k = M 144 k) ∧ M1 185 0 = onV V h (M 143) 45 0 ∧ (∀ k, k < 5 → M1 185 (1 + k) = onV V h (M 143) 46 k) ∧ (∀ k, k < 10 → M1 185 (6 + k) = onV V h (M 143) 47 k) ∧ ∀ x y, x < y → y < 8 → M1 185 (16 + pA x y) = if x < a then onV V h (M 143) 48 (pO x y) else V 48 (pO x y)) → ax_G L X SH 3 299 81 ll [] M1 (R1 0 P) := by
    intro him
    refine lp ?_ ?_
    · rintro ll M1 ⟨l1, v, rfl, hS, e1, e144, e5, e6, e7, e8⟩
      refine g3 hC rfl rfl ?_
      refine g3 hC rfl rfl ?_
      refine c1 hC rfl rfl rfl (Nat.le_of_ble_eq_true rfl) (Nat.le_of_ble_eq_true rfl) (mayR k186 rfl) (h186 _ hS) (Nat.le_of_ble_eq_true rfl) (fun x M2 hr => ?_)
      obtain ⟨rfl, hr⟩ := hr
      replace hr := hr.symm
      subst hr
      refine g13g hC rfl (fun h84 => ?_) (fun h84 => (by omega))
      refine g3 hC rfl rfl ?_
      refine g0 hC rfl ?_
      refine g20s hC rfl sh142 (flt12 rfl) (by rw [fy12_82]; rfl) hS rfl (fun hS => ?_)
      refine g0 hC rfl ?_
      refine ret3 hC rfl ⟨by omega, by omega⟩ ?_
      rw [hP]
      refine Or.inr ⟨him, rfl, hS, e1, ax_up_at, e144, ?_⟩
      obtain ⟨n1, n2, n3, n4⟩ := nREq (W := W72) (M := V) (M1 := onV V h (M 143)) (h := h) on_sb (hokB (by decide +kernel) hh)
      have nn : ∀ i k, i < 18 → onV V h (M 143) (h + i) k = V (h + i) k := fun i k hi => on_ne (by omega) (by omega) (by omega) (by omega)
      have n0 : ∀ k, onV V h (M 143) h k = V h k := fun k => on_ne (by omega) (by omega) (by omega) (by omega)
      have o : ∀ c q, 176 ≤ c → c < 185 → ax_up M1 142 82 0 c q = M c q := fun c q h1 h2 => hS c q (wbo 176 185 rfl h1 h2)
      refine ⟨?_, fun s hs => ?_, fun c hc => ?_, ?_, ⟨e5, e6, e7, fun x y hxy hy => ?_⟩, ?_⟩
      · rw [n0, n0, n0, n0]; exact hcnt _ hS
      · rw [n2] at hs; rw [nn 4 s (by decide), nn 5 s (by decide), nn 6 s (by decide), o _ _ (by decide) (by decide), o _ _ (by decide) (by decide), o _ _ (by decide) (by decide)]; exact hV.2.1 s hs
      · rw [n4] at hc; rw [nn 8 c (by decide), nn 9 c (by decide), nn 10 c (by decide), nn 11 c (by decide), o _ _ (by decide) (by decide), o _ _ (by decide) (by decide), o _ _ (by decide) (by decide), o _ _ (by decide) (by decide)]; exact hV.2.2.1 c hc
      · rw [n0, n0, n0, o _ _ (by decide) (by decide), o _ _ (by decide) (by decide), o _ _ (by decide) (by decide)]; exact hV.2.2.2.1
      · show M1 185 (16 + pA x y) = _
        rw [e8 x y hxy hy]
        by_cases z : x < nC V h
        · rw [if_pos z]
        · have hpr := pr_pO y hy x hxy
          rw [if_neg z, on_48, hpr.2, if_neg (by omega)]
      · have h6 := hV.2.2.2.2.2
        rw [on_ne (by decide) (by decide) (by decide) (by decide), on_ne (by decide) (by decide) (by decide) (by decide), on_ne (by decide) (by decide) (by decide) (by decide), on_ne (by decide) (by decide) (by decide) (by decide), o 182 _ (by decide) (by decide), o 182 _ (by decide) (by decide), o 183 _ (by decide) (by decide), o 183 _ (by decide) (by decide)]
        refine ⟨h6.1, h6.2.1, h6.2.2.1, h6.2.2.2.1, fun k hk => ?_⟩
        rw [on_ne (by decide) (by decide) (by decide) (by decide), o 184 _ (by decide) (by decide)]; exact h6.2.2.2.2 k hk
    · rintro a ha ll M1 ⟨l1, v, rfl, hS, e1, e144, e5, e6, e7, e8⟩ hnext
      have ecs : cntP (nC V h) (a + 1) = cntP (nC V h) a + (nC V h - 1 - a) := rfl
      have hmono : cntP (nC V h) a + (nC V h - 1 - a) ≤ cntP (nC V h) (nC V h) := by
        have : ∀ c, c < 9 → ∀ a, a < c → cntP c a + (c - 1 - a) ≤ cntP c c := by decide +kernel
        exact this _ (by omega) a ha
      have l2 : ∀ (m k : Nat), k + m = nC V h - 1 - a → ∀ ll M1, (ll = [(2, 142), (0, l1), (0, ((pa V h + 2 * (cntP (nC V h) a + k) : Nat) : Int)), (0, (a : Int)), (0, ((a + 1 + k : Nat) : Int))] ∧ Sb X299 M M1 ∧ M1 142 1 = 0 ∧ (∀ k, M1 144 k = M 144 k) ∧ M1 185 0 = onV V h (M 143) 45 0 ∧ (∀ k, k < 5 → M1 185 (1 + k) = onV V h (M 143) 46 k) ∧ (∀ k, k < 10 → M1 185 (6 + k) = onV V h (M 143) 47 k) ∧ ∀ x y, x < y → y < 8 → M1 185 (16 + pA x y) = if x < a ∨ (x = a ∧ y < a + 1 + k) then onV V h (M 143) 48 (pO x y) else V 48 (pO x y)) → ax_G L X SH 3 299 89 ll [] M1 (R1 0 P) := by
        refine lp ?_ ?_
        · rintro ll M1 ⟨rfl, hS, e1, e144, e5, e6, e7, e8⟩
          refine g3 hC rfl rfl ?_
          refine g3 hC rfl rfl ?_
          refine c1 hC rfl rfl rfl (Nat.le_of_ble_eq_true rfl) (Nat.le_of_ble_eq_true rfl) (mayR k186 rfl) (h186 _ hS) (Nat.le_of_ble_eq_true rfl) (fun x M2 hr => ?_)
          obtain ⟨rfl, hr⟩ := hr
          replace hr := hr.symm
          subst hr
          refine g13g hC rfl (fun h92 => ?_) (fun h92 => (by omega))
          refine n3 hC rfl rfl ⟨by omega, by omega⟩ ?_
          refine g14 hC rfl ?_
          refine hnext _ _ ⟨_, _, by rw [ecs]; rfl, hS, e1, e144, e5, e6, e7, fun x y hxy hy => ?_⟩
          rw [e8 x y hxy hy]
          by_cases z : x < a ∨ (x = a ∧ y < a + 1 + (nC V h - 1 - a))
          · rw [if_pos z, if_pos (by omega)]
          · rw [if_neg z]
            by_cases y' : x < a + 1
            · have hpr := pr_pO y hy x hxy
              rw [if_pos y', on_48, hpr.2, if_neg (by omega)]
            · rw [if_neg y']
        · rintro k hk ll M1 ⟨rfl, hS, e1, e144, e5, e6, e7, e8⟩ hnx
          have ea : pB a (a + 1 + k) = pA a (a + 1 + k) := by unfold pB; rw [if_pos (by omega)]
          have hlt := pO_lt (a := a) (b := a + 1 + k) (by omega) (by omega)
          have hla := pA_lt (a := a) (b := a + 1 + k) (by omega) (by omega)
          have hpr := pr_pO (a + 1 + k) (by omega) a (by omega)
          have ej : ((pa V h + 2 * (cntP (nC V h) a + k) : Nat) : Int) + 2 = ((pa V h + 2 * (cntP (nC V h) a + (k + 1)) : Nat) : Int) := by omega
          have hval : onV V h (M 143) 48 (pO a (a + 1 + k)) = 256 * M 143 (pa V h + 2 * (cntP (nC V h) a + k)) + M 143 (pa V h + 2 * (cntP (nC V h) a + k) + 1) := by
            rw [on_48, hpr.1, hpr.2, if_pos ⟨hlt, by omega⟩]
            have : sp V h a (a + 1 + k) = pa V h + 2 * (cntP (nC V h) a + k) := by unfold sp; congr 3; omega
            rw [this]
          refine g3 hC rfl rfl ?_
          refine g3 hC rfl rfl ?_
          refine c1 hC rfl rfl rfl (Nat.le_of_ble_eq_true rfl) (Nat.le_of_ble_eq_true rfl) (mayR k186 rfl) (h186 _ hS) (Nat.le_of_ble_eq_true rfl) (fun x M2 hr => ?_)
          obtain ⟨rfl, hr⟩ := hr
          replace hr := hr.symm
          subst hr
          refine g13g hC rfl (fun h92 => (by omega)) (fun h92 => ?_)
          refine g3 hC rfl rfl ?_
          refine g19 hC rfl sh142 (flt12 rfl) ft12_54 ((hS.fix hw hF).g fx_142_54) ?_
          refine g3 hC rfl rfl ?_
          refine g3 hC rfl rfl ?_
          refine c1 hC rfl rfl rfl (Nat.le_of_ble_eq_true rfl) (Nat.le_of_ble_eq_true rfl) (mayS k193 rfl) (m193 (by omega) (by omega) (by omega)) (Nat.le_of_ble_eq_true rfl) (fun x M2 hr => ?_)
          obtain ⟨rfl, hr⟩ := hr; replace hr := hr.symm; subst hr; rw [ea]
          refine g3 hC rfl rfl ?_
          refine g3 hC rfl rfl ?_
          refine c1 hC rfl rfl rfl (Nat.le_of_ble_eq_true rfl) (Nat.le_of_ble_eq_true rfl) (mayR k297 rfl) (h297 _ hS _ (by omega)) (Nat.le_of_ble_eq_true rfl) (fun x M2 hr => ?_)
          obtain ⟨rfl, hr⟩ := hr
          replace hr := hr.symm
          subst hr
          refine r22s (16 + pA a (a + 1 + k)) hC rfl rfl sh185 (by omega) rfl hS rfl (fun hS => ?_)
          refine n2 hC rfl rfl ⟨by omega, by omega⟩ ?_
          refine n4 hC rfl rfl ⟨by omega, by omega⟩ ?_
          refine g14 hC rfl ?_
          refine hnx _ _ ⟨by rw [ej]; rfl, hS, e1, e144, ?_, fun k hk => ?_, fun k hk => ?_, fun x y hxy hy => ?_⟩
          · rw [ax_up_of (by omega)]; exact e5
          · rw [ax_up_of (by omega)]; exact e6 k hk
          · rw [ax_up_of (by omega)]; exact e7 k hk
          · rw [ax_upf]; unfold up
            by_cases z : x = a ∧ y = a + 1 + k
            · rw [if_pos (by rw [z.1, z.2]), if_pos (by omega), z.1, z.2, hval]
            · rw [if_neg (fun w => z (pA_inj y hy x hxy (a + 1 + k) (by omega) a (by omega) (by omega))), e8 x y hxy hy]
              by_cases w : x < a ∨ (x = a ∧ y < a + 1 + k)
              · rw [if_pos w, if_pos (by omega)]
              · rw [if_neg w, if_neg (by omega)]
      refine g3 hC rfl rfl ?_
      refine g3 hC rfl rfl ?_
      refine c1 hC rfl rfl rfl (Nat.le_of_ble_eq_true rfl) (Nat.le_of_ble_eq_true rfl) (mayR k186 rfl) (h186 _ hS) (Nat.le_of_ble_eq_true rfl) (fun x M2 hr => ?_)
      obtain ⟨rfl, hr⟩ := hr
      replace hr := hr.symm
      subst hr
      refine g13g hC rfl (fun h84 => (by omega)) (fun h84 => ?_)
      refine g3 hC rfl rfl ?_
      refine g0 hC rfl ?_
      refine g6a hC rfl ⟨by omega, by omega⟩ ?_
      refine s4 hC rfl rfl rfl ?_
      refine l2 (nC V h - 1 - a) 0 (Nat.zero_add _) _ _ ⟨rfl, hS, e1, e144, e5, e6, e7, fun x y hxy hy => ?_⟩
      rw [e8 x y hxy hy]
      by_cases z : x < a
      · rw [if_pos z, if_pos (Or.inl z)]
      · rw [if_neg z, if_neg (by omega)]
  have l2 : isIm V h (M 143) (M 142 1) → ∀ (m k : Nat), k + m = nS V h → ∀ ll M1, (∃ l1 v, ll = [(2, 142), (0, l1), (0, ((2 + nQ V h : Nat) : Int)), (0, (k : Int)), v] ∧ Sb X299 M M1 ∧ M1 142 1 = 0 ∧ (∀ k, M1 144 k = M 144 k) ∧ M1 185 0 = onV V h (M 143) 45 0 ∧ (∀ k, k < 5 → M1 185 (1 + k) = onV V h (M 143) 46 k) ∧ (∀ i, i < 10 → M1 185 (6 + i) = if i < k then M 143 (2 + nQ V h + i) else V 47 i) ∧ ∀ x y, x < y → y < 8 → M1 185 (16 + pA x y) = V 48 (pO x y)) → ax_G L X SH 3 299 56 ll [] M1 (R1 0 P) := by
    intro him
    refine lp ?_ ?_
    · rintro ll M1 ⟨l1, v, rfl, hS, e1, e144, e5, e6, e7, e8⟩
      refine g3 hC rfl rfl ?_
      refine g3 hC rfl rfl ?_
      refine c1 hC rfl rfl rfl (Nat.le_of_ble_eq_true rfl) (Nat.le_of_ble_eq_true rfl) (mayR k184 rfl) (h184 _ hS) (Nat.le_of_ble_eq_true rfl) (fun x M2 hr => ?_)
      obtain ⟨rfl, hr⟩ := hr
      replace hr := hr.symm
      subst hr
      refine g13g hC rfl (fun h59 => ?_) (fun h59 => (by omega))
      refine g3 hC rfl rfl ?_
      refine g3 hC rfl rfl ?_
      refine c1 hC rfl rfl rfl (Nat.le_of_ble_eq_true rfl) (Nat.le_of_ble_eq_true rfl) (mayR k184 rfl) (h184 _ hS) (Nat.le_of_ble_eq_true rfl) (fun x M2 hr => ?_)
      obtain ⟨rfl, hr⟩ := hr
      replace hr := hr.symm
      subst hr
      refine g6a hC rfl ⟨by omega, by omega⟩ ?_
      refine s2 hC rfl rfl rfl ?_
      refine g0 hC rfl ?_
      refine s3 hC rfl rfl rfl ?_
      exact l3 him (nC V h) 0 (Nat.zero_add _) _ _ ⟨_, _, rfl, hS, e1, e144, e5, e6, fun i hi => by rw [e7 i hi, on_47], fun x y hxy hy => by rw [e8 x y hxy hy, if_neg (by omega)]⟩
    · rintro k hk ll M1 ⟨l1, v, rfl, hS, e1, e144, e5, e6, e7, e8⟩ hnext
      refine g3 hC rfl rfl ?_
      refine g3 hC rfl rfl ?_
      refine c1 hC rfl rfl rfl (Nat.le_of_ble_eq_true rfl) (Nat.le_of_ble_eq_true rfl) (mayR k184 rfl) (h184 _ hS) (Nat.le_of_ble_eq_true rfl) (fun x M2 hr => ?_)
      obtain ⟨rfl, hr⟩ := hr
      replace hr := hr.symm
      subst hr
      refine g13g hC rfl (fun h59 => (by omega)) (fun h59 => ?_)
      refine g3 hC rfl rfl ?_
      refine g19 hC rfl sh142 (flt12 rfl) ft12_54 ((hS.fix hw hF).g fx_142_54) ?_
      refine g0 hC rfl ?_
      refine g3 hC rfl rfl ?_
      refine g6a hC rfl ⟨by omega, by omega⟩ ?_
      refine g3 hC rfl rfl ?_
      refine g19 hC rfl sh142 (flt12 rfl) ft12_0 ((hS.fix hw hF).g fx_142_0) ?_
      refine g3 hC rfl rfl ?_
      refine g3 hC rfl rfl ?_
      refine g6a hC rfl ⟨by omega, by omega⟩ ?_
      refine r21 (((2+nQ V h) + k)) hC rfl (by omega) sh143 (Or.inl rfl) (by omega) (hS 143 (((2+nQ V h) + k)) rfl) ?_
      refine r22s ((6 + k)) hC rfl (by omega) sh185 (by omega) rfl hS rfl (fun hS => ?_)
      refine n3 hC rfl rfl ⟨by omega, by omega⟩ ?_
      refine g14 hC rfl ?_
      refine hnext _ _ ⟨l1, v, rfl, hS, e1, e144, ?_, fun i hi => ?_, fun i hi => ?_, fun x y hxy hy => ?_⟩
      · rw [ax_up_of (by omega)]; exact e5
      · rw [ax_up_of (by omega)]; exact e6 i hi
      · rw [ax_upf]; unfold up
        by_cases z : i = k
        · rw [if_pos (by omega), if_pos (by omega), z]
        · rw [if_neg (by omega), e7 i hi]
          by_cases y : i < k
          · rw [if_pos y, if_pos (by omega)]
          · rw [if_neg y, if_neg (by omega)]
      · rw [ax_up_of (by omega)]; exact e8 x y hxy hy
  have l1 : isIm V h (M 143) (M 142 1) → ∀ (m k : Nat), k + m = nQ V h → ∀ ll M1, (∃ l1 v, ll = [(2, 142), (0, l1), (0, 2), (0, (k : Int)), v] ∧ Sb X299 M M1 ∧ M1 142 1 = 0 ∧ (∀ k, M1 144 k = M 144 k) ∧ M1 185 0 = onV V h (M 143) 45 0 ∧ (∀ i, i < 5 → M1 185 (1 + i) = if i < k then M 143 (2 + i) else V 46 i) ∧ (∀ i, i < 10 → M1 185 (6 + i) = V 47 i) ∧ ∀ x y, x < y → y < 8 → M1 185 (16 + pA x y) = V 48 (pO x y)) → ax_G L X SH 3 299 31 ll [] M1 (R1 0 P) := by
    intro him
    refine lp ?_ ?_
    · rintro ll M1 ⟨l1, v, rfl, hS, e1, e144, e5, e6, e7, e8⟩
      refine g3 hC rfl rfl ?_
      refine g3 hC rfl rfl ?_
      refine c1 hC rfl rfl rfl (Nat.le_of_ble_eq_true rfl) (Nat.le_of_ble_eq_true rfl) (mayR k185 rfl) (h185 _ hS) (Nat.le_of_ble_eq_true rfl) (fun x M2 hr => ?_)
      obtain ⟨rfl, hr⟩ := hr
      replace hr := hr.symm
      subst hr
      refine g13g hC rfl (fun h34 => ?_) (fun h34 => (by omega))
      refine g3 hC rfl rfl ?_
      refine g3 hC rfl rfl ?_
      refine c1 hC rfl rfl rfl (Nat.le_of_ble_eq_true rfl) (Nat.le_of_ble_eq_true rfl) (mayR k185 rfl) (h185 _ hS) (Nat.le_of_ble_eq_true rfl) (fun x M2 hr => ?_)
      obtain ⟨rfl, hr⟩ := hr
      replace hr := hr.symm
      subst hr
      refine g6a hC rfl ⟨by omega, by omega⟩ ?_
      refine s2 hC rfl rfl rfl ?_
      refine g0 hC rfl ?_
      refine s3 hC rfl rfl rfl ?_
      exact l2 him (nS V h) 0 (Nat.zero_add _) _ _ ⟨_, _, rfl, hS, e1, e144, e5, fun i hi => by rw [e6 i hi, on_46], fun i hi => by rw [e7 i hi, if_neg (by omega)], e8⟩
    · rintro k hk ll M1 ⟨l1, v, rfl, hS, e1, e144, e5, e6, e7, e8⟩ hnext
      refine g3 hC rfl rfl ?_
      refine g3 hC rfl rfl ?_
      refine c1 hC rfl rfl rfl (Nat.le_of_ble_eq_true rfl) (Nat.le_of_ble_eq_true rfl) (mayR k185 rfl) (h185 _ hS) (Nat.le_of_ble_eq_true rfl) (fun x M2 hr => ?_)
      obtain ⟨rfl, hr⟩ := hr
      replace hr := hr.symm
      subst hr
      refine g13g hC rfl (fun h34 => (by omega)) (fun h34 => ?_)
      refine g3 hC rfl rfl ?_
      refine g19 hC rfl sh142 (flt12 rfl) ft12_54 ((hS.fix hw hF).g fx_142_54) ?_
      refine g0 hC rfl ?_
      refine g3 hC rfl rfl ?_
      refine g6a hC rfl ⟨by omega, by omega⟩ ?_
      refine g3 hC rfl rfl ?_
      refine g19 hC rfl sh142 (flt12 rfl) ft12_0 ((hS.fix hw hF).g fx_142_0) ?_
      refine g3 hC rfl rfl ?_
      refine g3 hC rfl rfl ?_
      refine g6a hC rfl ⟨by omega, by omega⟩ ?_
      refine r21 ((2 + k)) hC rfl (by omega) sh143 (Or.inl rfl) (by omega) (hS 143 ((2 + k)) rfl) ?_
      refine r22s ((1 + k)) hC rfl (by omega) sh185 (by omega) rfl hS rfl (fun hS => ?_)
      refine n3 hC rfl rfl ⟨by omega, by omega⟩ ?_
      refine g14 hC rfl ?_
      refine hnext _ _ ⟨l1, v, rfl, hS, e1, e144, ?_, fun i hi => ?_, fun i hi => ?_, fun x y hxy hy => ?_⟩
      · rw [ax_up_of (by omega)]; exact e5
      · rw [ax_upf]; unfold up
        by_cases z : i = k
        · rw [if_pos (by omega), if_pos (by omega), z]
        · rw [if_neg (by omega), e6 i hi]
          by_cases y : i < k
          · rw [if_pos y, if_pos (by omega)]
          · rw [if_neg y, if_neg (by omega)]
      · rw [ax_up_of (by omega)]; exact e7 i hi
      · rw [ax_up_of (by omega)]; exact e8 x y hxy hy
  have hV1 : RV V h (ax_up M 142 1 0) := hV
  refine g3 hC rfl rfl ?_
  refine g19 hC rfl sh142 (flt12 rfl) ft12_1 (rfl : M 142 1 = M 142 1) ?_
  refine s1 hC rfl rfl rfl ?_
  refine g3 hC rfl rfl ?_
  refine g0 hC rfl ?_
  refine g20s hC rfl sh142 (flt12 rfl) (by rw [fy12_1]; rfl) hS rfl (fun hS => ?_)
  refine g3 hC rfl rfl ?_
  refine g3 hC rfl rfl ?_
  refine c1 hC rfl rfl rfl (Nat.le_of_ble_eq_true rfl) (Nat.le_of_ble_eq_true rfl) (mayR k298 rfl) (m298 (hS.fix hw hF) hV1 hW (show bB (ax_up M 142 1 0 143) from hB) hlen) (Nat.le_of_ble_eq_true rfl) (fun x M2 hr => ?_)
  obtain ⟨hx, hr⟩ := hr; replace hr := hr.symm; subst hr; rw [show ax_up M 142 1 0 143 = M 143 from ax_up_ne (by decide)] at hx
  refine g12n hC rfl (fun h9 => ?_) (fun h9 => ?_)
  ·
    refine g3 hC rfl rfl ?_
    refine g19 hC rfl sh142 (flt12 rfl) ft12_54 ((hS.fix hw hF).g fx_142_54) ?_
    refine g0 hC rfl ?_
    refine g3 hC rfl rfl ?_
    refine g0 hC rfl ?_
    refine c1 hC rfl rfl rfl (Nat.le_of_ble_eq_true rfl) (Nat.le_of_ble_eq_true rfl) (mayR k297 rfl) (h297 _ hS 0 (by decide)) (Nat.le_of_ble_eq_true rfl) (fun x M2 hr => ?_)
    obtain ⟨rfl, hr⟩ := hr
    replace hr := hr.symm
    subst hr
    refine r22s (0) hC rfl (by omega) sh185 (by omega) rfl hS rfl (fun hS => ?_)
    refine g0 hC rfl ?_
    refine s2 hC rfl rfl rfl ?_
    refine g0 hC rfl ?_
    refine s3 hC rfl rfl rfl ?_
    have him : isIm V h (M 143) (M 142 1) := by
      rcases hx with z | z
      · exact z.2
      · exact absurd z.1 (by omega)
    refine l1 him (nQ V h) 0 (Nat.zero_add _) _ _ ⟨_, _, rfl, hS, ?_, fun k => rfl, ?_, fun i hi => ?_, fun i hi => ?_, fun x y hxy hy => ?_⟩
    · rw [ax_up2n (by decide), ax_up_at]
    · rw [ax_up_at, on_45]
    · rw [ax_up_of (by omega), if_neg (by omega)]; exact hV.2.2.2.2.1.2.1 i hi
    · rw [ax_up_of (by omega)]; exact hV.2.2.2.2.1.2.2.1 i hi
    · rw [ax_up_of (by omega)]; exact hV.2.2.2.2.1.2.2.2 x y hxy hy
  ·
    refine g3 hC rfl rfl ?_
    refine g19 hC rfl sh142 (flt12 rfl) ft12_9 ((hS.fix hw hF).g fx_142_9) ?_
    refine g0 hC rfl ?_
    refine g17 hC rfl (by decide) ?_
    refine r21 (5) hC rfl (by omega) sh144 (Or.inl rfl) (by omega) (ax_up2n (by decide)) ?_
    refine g0 hC rfl ?_
    refine g6a hC rfl ⟨by omega, by omega⟩ ?_
    refine r22 (5) hC rfl (by omega) sh144 (by omega) rfl ?_
    refine g0 hC rfl ?_
    refine ret3 hC rfl ⟨by omega, by omega⟩ ?_
    rw [hP]
    refine Or.inl ⟨?_, rfl, rfl⟩
    rcases hx with z | z
    · exact absurd z.1 (by omega)
    · exact z.2
end ONO
