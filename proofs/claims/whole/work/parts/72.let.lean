def ltr (c : Int) (k : Nat) : Int := ((c.toNat / 2 ^ (5 * k) % 32 : Nat) : Int)
theorem nc_b {f : Nat → Nat} : ∀ n, (∀ i, i < n → 1 ≤ f i ∧ f i ≤ 26) → nc f n < 2 ^ (5 * n) := by
  intro n
  induction n with
  | zero => intro _; exact Nat.one_pos
  | succ n ih =>
    intro h
    have e : nc f (n + 1) = nc f n + f n * 2 ^ (5 * n) := rfl
    have h1 := ih (fun i hi => h i (by omega))
    have h2 := h n (by omega)
    have e2 : 2 ^ (5 * (n + 1)) = 32 * 2 ^ (5 * n) := by rw [show 5 * (n + 1) = 5 * n + 5 by omega, Nat.pow_add]; omega
    have h3 : f n * 2 ^ (5 * n) ≤ 26 * 2 ^ (5 * n) := Nat.mul_le_mul_right _ h2.2
    rw [e, e2]; omega
theorem nc_d {f : Nat → Nat} {k : Nat} : ∀ n, (∀ i, i < n → 1 ≤ f i ∧ f i ≤ 26) → nc f n / 2 ^ (5 * k) % 32 = if k < n then f k else 0 := by
  intro n
  induction n with
  | zero => intro _; rw [if_neg (by omega)]; show 0 / 2 ^ (5 * k) % 32 = 0; rw [Nat.zero_div]
  | succ n ih =>
    intro h
    have e : nc f (n + 1) = nc f n + f n * 2 ^ (5 * n) := rfl
    have h1 := ih (fun i hi => h i (by omega))
    have hb := nc_b n (fun i hi => h i (by omega))
    have h2 := h n (by omega)
    have hpos : 0 < 2 ^ (5 * k) := Nat.two_pow_pos _
    rw [e]
    by_cases z : k < n
    · rw [if_pos (by omega)]
      rw [if_pos z] at h1
      have e3 : f n * 2 ^ (5 * n) = (f n * 2 ^ (5 * (n - k - 1)) * 32) * 2 ^ (5 * k) := by
        have : 5 * n = 5 * (n - k - 1) + 5 + 5 * k := by omega
        rw [this, Nat.pow_add, Nat.pow_add]
        simp only [Nat.reducePow]
        rw [Nat.mul_assoc, Nat.mul_assoc, Nat.mul_assoc]
      rw [e3, Nat.add_mul_div_right _ _ hpos, Nat.add_mul_mod_self_right, h1]
    · by_cases y : k = n
      · rw [if_pos (by omega), y, Nat.add_mul_div_right _ _ (Nat.two_pow_pos _), Nat.div_eq_of_lt hb]
        omega
      · rw [if_neg (by omega)]
        have e4 : nc f n + f n * 2 ^ (5 * n) < 2 ^ (5 * k) := by
          have := nc_b (n + 1) h
          rw [e] at this
          exact Nat.lt_of_lt_of_le this (Nat.pow_le_pow_right (by decide) (by omega))
        rw [Nat.div_eq_of_lt e4]
theorem nr_b {f : Nat → Nat} : ∀ n, n ≤ 6 → (∀ i, i < n → 1 ≤ f i ∧ f i ≤ 26) → nr f n < 400000000 ∧ (0 < n → 0 < nr f n) := by
  intro n
  have key : ∀ n, (∀ i, i < n → 1 ≤ f i ∧ f i ≤ 26) → nr f n < 27 ^ n := by
    intro n
    induction n with
    | zero => intro _; exact Nat.one_pos
    | succ n ih =>
      intro h
      have e : nr f (n + 1) = 27 * nr f n + f n := rfl
      have h1 := ih (fun i hi => h i (by omega))
      have h2 := h n (by omega)
      rw [e, Nat.pow_succ]; omega
  intro hn h
  have h1 := key n h
  have h2 : 27 ^ n ≤ 27 ^ 6 := Nat.pow_le_pow_right (by decide) hn
  have h3 : (27 : Nat) ^ 6 = 387420489 := by decide
  refine ⟨by omega, fun h0 => ?_⟩
  obtain ⟨m, rfl⟩ : ∃ m, n = m + 1 := ⟨n - 1, by omega⟩
  have e : nr f (m + 1) = 27 * nr f m + f m := rfl
  have := h m (by omega)
  omega
section LET
variable {L : Nat} {X : Nat → Int} {M V : ax_M} {h n : Nat}
theorem m142 {c k : Nat} (hc : c < 2147483648) (hk : k < 6) : ax_Ev L X SH 0 142 [(0, (c : Int)), (0, (k : Int))] M (R1 0 (fun x M' => x = ltr (c : Int) k ∧ M' = M)) := by
  show ax_G L X SH 0 142 0 [(0, (c : Int)), (0, (k : Int))] [] M _
  have hC := at142
  have hs : c >>> (5 * k) < 2147483648 := by
    rw [Nat.shiftRight_eq_div_pow]; exact Nat.lt_of_le_of_lt (Nat.div_le_self _ _) hc
  have e5 : (5 : Int) * (k : Int) = ((5 * k : Nat) : Int) := by omega
  refine g3 hC rfl rfl ?_
  refine g0 hC rfl ?_
  refine g3 hC rfl rfl ?_
  refine g6m hC rfl ⟨by omega, by omega⟩ ?_
  rw [e5]
  refine g6 hC rfl (congrArg some (shrN (a := c) (k := 5 * k) hc (by omega))) ?_
  refine g0 hC rfl ?_
  refine g6 hC rfl (congrArg some (andN (a := c >>> (5 * k)) (b := 31) hs)) ?_
  refine ret1 hC rfl rfl ?_
  refine ⟨?_, rfl⟩
  have := Nat.and_two_pow_sub_one_eq_mod (c >>> (5 * k)) 5
  simp only [Nat.reducePow, Nat.reduceSub] at this
  rw [this, Nat.shiftRight_eq_div_pow]; rfl
def nm0 (M : ax_M) (h : Nat) (kind : Int) : Nat := if kind = 0 then nR M h else if kind = 1 then nQ M h else nC M h
def nmC (M : ax_M) (h : Nat) (kind : Int) (w : Nat) : Int := if kind = 0 then M (h + 1) w else if kind = 1 then M (h + 2) w else M (h + 3) w
def letV (M : ax_M) (h : Nat) (a b c : Int) : Int := if (0 ≤ c ∧ c < 6) ∧ (0 ≤ a ∧ a ≤ 2) ∧ 0 ≤ b ∧ b < (nm0 M h a : Int) then ltr (nmC M h a b.toNat) c.toNat else -1
theorem NM_b {c r : Int} (h : NM c r) : 0 ≤ c ∧ c < 2147483648 := by
  obtain ⟨n, f, h1, h2, h3, rfl, -⟩ := h
  have := nc_b n h3
  have : 2 ^ (5 * n) ≤ 2 ^ 30 := Nat.pow_le_pow_right (by decide) (by omega)
  omega
theorem m105 (hF : Fix M) (hh : h = 9 ∨ h = 27) (hG : GG n h M) {a b c : Int} : ax_Ev L X SH 1 105 [(2, 0), (0, a), (0, b), (0, c)] M (R1 0 (fun x M' => x = letV M h a b c ∧ M' = M)) := by
  show ax_G L X SH 1 105 0 [(2, 0), (0, a), (0, b), (0, c)] [] M _
  have hC := at105
  have hw := wX0
  have hwh : hok X0 h := hokB (by decide +kernel) hh
  have hS : Sb X0 M M := Sb.refl
  have hV : HV M h M := HV.refl
  have hH3 : M 0 3 = (h : Int) := hG.2.2.2.2.2.2.2.2.2.1.1
  have hW := hG.1
  have hGM := hG.2.2.2.2.2.2.1
  have h1 := hW.1.1.2; have h3 := hW.1.2.2.1.2; have h4 := hW.1.2.2.2.2
  by_cases zc : 0 ≤ c ∧ c < 6
  · obtain ⟨k, rfl⟩ : ∃ k : Nat, c = (k : Int) := ⟨c.toNat, by omega⟩
    have e0 : nm0 M h 0 = nR M h := if_pos rfl
    have f0 : ∀ w, nmC M h 0 w = M (h + 1) w := fun w => if_pos rfl
    have k0 : ax_G L X SH 1 105 9 [(2, 0), (0, a), (0, b), (0, (k : Int))] [] M (R1 0 (fun x M' => x = letV M h 0 b (k : Int) ∧ M' = M)) := by
      by_cases zb : 0 ≤ b ∧ b < (nR M h : Int)
      · obtain ⟨w, rfl⟩ : ∃ k : Nat, b = (k : Int) := ⟨b.toNat, by omega⟩
        obtain ⟨c0, hc0⟩ : ∃ c0 : Nat, M (h + 1) w = (c0 : Int) := ⟨(M (h + 1) w).toNat, by have := NM_b (hGM.1 w (by omega)); omega⟩
        have hcb := NM_b (hGM.1 w (by omega))
        rw [hc0] at hcb
        have hv : letV M h 0 (w : Int) (k : Int) = ltr (c0 : Int) k := by
          unfold letV; rw [if_pos ⟨zc, by decide, by rw [e0]; exact zb⟩, f0]; show ltr (M (h + 1) w) k = _; rw [hc0]
        rw [hv]
        refine g3 hC rfl rfl ?_
        refine g3 hC rfl rfl ?_
        refine g19 hC rfl rfl (Nat.le_of_ble_eq_true rfl) rfl ((hS _ _ rfl).trans hH3) ?_
        refine g19 hC rfl (shH hh) (Nat.le_of_ble_eq_true rfl) rfl (rd0 hS hwh hV hW) ?_
        refine c1 hC rfl rfl rfl (Nat.le_of_ble_eq_true rfl) (Nat.le_of_ble_eq_true rfl) rfl (m140) (Nat.le_of_ble_eq_true rfl) (fun x M2 hr => ?_)
        obtain ⟨rfl, hr⟩ := hr; replace hr := hr.symm; subst hr; rw [if_pos zb]
        refine g12e hC rfl (fun h14 => (by omega)) (fun h14 => ?_)
        refine g3 hC rfl rfl ?_
        refine g19 hC rfl rfl (Nat.le_of_ble_eq_true rfl) rfl ((hS _ _ rfl).trans hH3) ?_
        refine g19 hC rfl (shH hh) (Nat.le_of_ble_eq_true rfl) rfl ((hS.fix hw hF).h (v := 1) hh rfl rfl) ?_
        refine g3 hC rfl rfl ?_
        refine r21 (w) hC rfl (by omega) (shA (v := 1) hh rfl rfl) (Or.inl rfl) (by omega) hc0 ?_
        refine g3 hC rfl rfl ?_
        refine c1 hC rfl rfl rfl (Nat.le_of_ble_eq_true rfl) (Nat.le_of_ble_eq_true rfl) rfl (m142 (by omega) (by omega)) (Nat.le_of_ble_eq_true rfl) (fun x M2 hr => ?_)
        obtain ⟨rfl, hr⟩ := hr
        replace hr := hr.symm
        subst hr
        refine g14 hC rfl ?_
        refine ret1 hC rfl rfl ?_
        exact ⟨rfl, rfl⟩
      · have hv : letV M h 0 b (k : Int) = -1 := by unfold letV; rw [if_neg (fun z => zb (by rw [← e0]; exact z.2.2))]
        rw [hv]
        refine g3 hC rfl rfl ?_
        refine g3 hC rfl rfl ?_
        refine g19 hC rfl rfl (Nat.le_of_ble_eq_true rfl) rfl ((hS _ _ rfl).trans hH3) ?_
        refine g19 hC rfl (shH hh) (Nat.le_of_ble_eq_true rfl) rfl (rd0 hS hwh hV hW) ?_
        refine c1 hC rfl rfl rfl (Nat.le_of_ble_eq_true rfl) (Nat.le_of_ble_eq_true rfl) rfl (m140) (Nat.le_of_ble_eq_true rfl) (fun x M2 hr => ?_)
        obtain ⟨rfl, hr⟩ := hr; replace hr := hr.symm; subst hr; rw [if_neg zb]
        refine g12e hC rfl (fun h14 => ?_) (fun h14 => (by omega))
        refine g0 hC rfl ?_
        refine ret1 hC rfl rfl ?_
        exact ⟨rfl, rfl⟩
    have e1 : nm0 M h 1 = nQ M h := show (if (1 : Int) = 0 then _ else if (1 : Int) = 1 then _ else _) = _ from (if_neg (by decide)).trans (if_pos rfl)
    have f1 : ∀ w, nmC M h 1 w = M (h + 2) w := fun w => show (if (1 : Int) = 0 then _ else if (1 : Int) = 1 then _ else _) = _ from (if_neg (by decide)).trans (if_pos rfl)
    have k1 : ax_G L X SH 1 105 25 [(2, 0), (0, a), (0, b), (0, (k : Int))] [] M (R1 0 (fun x M' => x = letV M h 1 b (k : Int) ∧ M' = M)) := by
      by_cases zb : 0 ≤ b ∧ b < (nQ M h : Int)
      · obtain ⟨w, rfl⟩ : ∃ k : Nat, b = (k : Int) := ⟨b.toNat, by omega⟩
        obtain ⟨c0, hc0⟩ : ∃ c0 : Nat, M (h + 2) w = (c0 : Int) := ⟨(M (h + 2) w).toNat, by have := NM_b (hGM.2.1 w (by omega)); omega⟩
        have hcb := NM_b (hGM.2.1 w (by omega))
        rw [hc0] at hcb
        have hv : letV M h 1 (w : Int) (k : Int) = ltr (c0 : Int) k := by
          unfold letV; rw [if_pos ⟨zc, by decide, by rw [e1]; exact zb⟩, f1]; show ltr (M (h + 2) w) k = _; rw [hc0]
        rw [hv]
        refine g3 hC rfl rfl ?_
        refine g3 hC rfl rfl ?_
        refine g19 hC rfl rfl (Nat.le_of_ble_eq_true rfl) rfl ((hS _ _ rfl).trans hH3) ?_
        refine g19 hC rfl (shH hh) (Nat.le_of_ble_eq_true rfl) rfl (rd2 hS hwh hV hW) ?_
        refine c1 hC rfl rfl rfl (Nat.le_of_ble_eq_true rfl) (Nat.le_of_ble_eq_true rfl) rfl (m140) (Nat.le_of_ble_eq_true rfl) (fun x M2 hr => ?_)
        obtain ⟨rfl, hr⟩ := hr; replace hr := hr.symm; subst hr; rw [if_pos zb]
        refine g12e hC rfl (fun h30 => (by omega)) (fun h30 => ?_)
        refine g3 hC rfl rfl ?_
        refine g19 hC rfl rfl (Nat.le_of_ble_eq_true rfl) rfl ((hS _ _ rfl).trans hH3) ?_
        refine g19 hC rfl (shH hh) (Nat.le_of_ble_eq_true rfl) rfl ((hS.fix hw hF).h (v := 2) hh rfl rfl) ?_
        refine g3 hC rfl rfl ?_
        refine r21 (w) hC rfl (by omega) (shA (v := 2) hh rfl rfl) (Or.inl rfl) (by omega) hc0 ?_
        refine g3 hC rfl rfl ?_
        refine c1 hC rfl rfl rfl (Nat.le_of_ble_eq_true rfl) (Nat.le_of_ble_eq_true rfl) rfl (m142 (by omega) (by omega)) (Nat.le_of_ble_eq_true rfl) (fun x M2 hr => ?_)
        obtain ⟨rfl, hr⟩ := hr
        replace hr := hr.symm
        subst hr
        refine g14 hC rfl ?_
        refine ret1 hC rfl rfl ?_
        exact ⟨rfl, rfl⟩
      · have hv : letV M h 1 b (k : Int) = -1 := by unfold letV; rw [if_neg (fun z => zb (by rw [← e1]; exact z.2.2))]
        rw [hv]
        refine g3 hC rfl rfl ?_
        refine g3 hC rfl rfl ?_
        refine g19 hC rfl rfl (Nat.le_of_ble_eq_true rfl) rfl ((hS _ _ rfl).trans hH3) ?_
        refine g19 hC rfl (shH hh) (Nat.le_of_ble_eq_true rfl) rfl (rd2 hS hwh hV hW) ?_
        refine c1 hC rfl rfl rfl (Nat.le_of_ble_eq_true rfl) (Nat.le_of_ble_eq_true rfl) rfl (m140) (Nat.le_of_ble_eq_true rfl) (fun x M2 hr => ?_)
        obtain ⟨rfl, hr⟩ := hr; replace hr := hr.symm; subst hr; rw [if_neg zb]
        refine g12e hC rfl (fun h30 => ?_) (fun h30 => (by omega))
        refine g0 hC rfl ?_
        refine ret1 hC rfl rfl ?_
        exact ⟨rfl, rfl⟩
    have e2 : nm0 M h 2 = nC M h := (if_neg (by decide)).trans (if_neg (by decide))
    have f2 : ∀ w, nmC M h 2 w = M (h + 3) w := fun w => (if_neg (by decide)).trans (if_neg (by decide))
    have k2 : ax_G L X SH 1 105 41 [(2, 0), (0, a), (0, b), (0, (k : Int))] [] M (R1 0 (fun x M' => x = letV M h 2 b (k : Int) ∧ M' = M)) := by
      by_cases zb : 0 ≤ b ∧ b < (nC M h : Int)
      · obtain ⟨w, rfl⟩ : ∃ k : Nat, b = (k : Int) := ⟨b.toNat, by omega⟩
        obtain ⟨c0, hc0⟩ : ∃ c0 : Nat, M (h + 3) w = (c0 : Int) := ⟨(M (h + 3) w).toNat, by have := NM_b (hGM.2.2 w (by omega)); omega⟩
        have hcb := NM_b (hGM.2.2 w (by omega))
        rw [hc0] at hcb
        have hv : letV M h 2 (w : Int) (k : Int) = ltr (c0 : Int) k := by
          unfold letV; rw [if_pos ⟨zc, by decide, by rw [e2]; exact zb⟩, f2]; show ltr (M (h + 3) w) k = _; rw [hc0]
        rw [hv]
        refine g3 hC rfl rfl ?_
        refine g3 hC rfl rfl ?_
        refine g19 hC rfl rfl (Nat.le_of_ble_eq_true rfl) rfl ((hS _ _ rfl).trans hH3) ?_
        refine g19 hC rfl (shH hh) (Nat.le_of_ble_eq_true rfl) rfl (rd3 hS hwh hV hW) ?_
        refine c1 hC rfl rfl rfl (Nat.le_of_ble_eq_true rfl) (Nat.le_of_ble_eq_true rfl) rfl (m140) (Nat.le_of_ble_eq_true rfl) (fun x M2 hr => ?_)
        obtain ⟨rfl, hr⟩ := hr; replace hr := hr.symm; subst hr; rw [if_pos zb]
        refine g12e hC rfl (fun h46 => (by omega)) (fun h46 => ?_)
        refine g3 hC rfl rfl ?_
        refine g19 hC rfl rfl (Nat.le_of_ble_eq_true rfl) rfl ((hS _ _ rfl).trans hH3) ?_
        refine g19 hC rfl (shH hh) (Nat.le_of_ble_eq_true rfl) rfl ((hS.fix hw hF).h (v := 3) hh rfl rfl) ?_
        refine g3 hC rfl rfl ?_
        refine r21 (w) hC rfl (by omega) (shA (v := 3) hh rfl rfl) (Or.inl rfl) (by omega) hc0 ?_
        refine g3 hC rfl rfl ?_
        refine c1 hC rfl rfl rfl (Nat.le_of_ble_eq_true rfl) (Nat.le_of_ble_eq_true rfl) rfl (m142 (by omega) (by omega)) (Nat.le_of_ble_eq_true rfl) (fun x M2 hr => ?_)
        obtain ⟨rfl, hr⟩ := hr
        replace hr := hr.symm
        subst hr
        refine g14 hC rfl ?_
        refine ret1 hC rfl rfl ?_
        exact ⟨rfl, rfl⟩
      · have hv : letV M h 2 b (k : Int) = -1 := by unfold letV; rw [if_neg (fun z => zb (by rw [← e2]; exact z.2.2))]
        rw [hv]
        refine g3 hC rfl rfl ?_
        refine g3 hC rfl rfl ?_
        refine g19 hC rfl rfl (Nat.le_of_ble_eq_true rfl) rfl ((hS _ _ rfl).trans hH3) ?_
        refine g19 hC rfl (shH hh) (Nat.le_of_ble_eq_true rfl) rfl (rd3 hS hwh hV hW) ?_
        refine c1 hC rfl rfl rfl (Nat.le_of_ble_eq_true rfl) (Nat.le_of_ble_eq_true rfl) rfl (m140) (Nat.le_of_ble_eq_true rfl) (fun x M2 hr => ?_)
        obtain ⟨rfl, hr⟩ := hr; replace hr := hr.symm; subst hr; rw [if_neg zb]
        refine g12e hC rfl (fun h46 => ?_) (fun h46 => (by omega))
        refine g0 hC rfl ?_
        refine ret1 hC rfl rfl ?_
        exact ⟨rfl, rfl⟩
    refine g3 hC rfl rfl ?_
    refine g12l hC rfl (fun h1 => (by omega)) (fun h1 => ?_)
    refine g3 hC rfl rfl ?_
    refine g0 hC rfl ?_
    refine g13l hC rfl (fun h4 => ?_) (fun h4 => (by omega))
    refine g3 hC rfl rfl ?_
    by_cases k8_0 : a = 0
    ·
      refine g15k (key := 0) (i' := 9) hC rfl rfl k8_0 rfl ?_
      subst k8_0; exact k0
    by_cases k8_1 : a = 1
    ·
      refine g15k (key := 1) (i' := 25) hC rfl rfl k8_1 rfl ?_
      subst k8_1; exact k1
    by_cases k8_2 : a = 2
    ·
      refine g15k (key := 2) (i' := 41) hC rfl rfl k8_2 rfl ?_
      subst k8_2; exact k2
    refine g15d (i' := 57) hC rfl rfl (by show ¬ ((0 : Int) ≤ _ ∧ _ ≤ (2 : Int)); omega) rfl ?_
    refine g0 hC rfl ?_
    refine ret1 hC rfl rfl ?_
    refine ⟨?_, rfl⟩
    unfold letV; rw [if_neg (by omega)]
  · have hv : letV M h a b c = -1 := by unfold letV; rw [if_neg (fun z => zc z.1)]
    rw [hv]
    refine g3 hC rfl rfl ?_
    refine g12l hC rfl (fun h1 => ?_) (fun h1 => ?_)
    ·
      refine g0 hC rfl ?_
      refine ret1 hC rfl rfl ?_
      exact ⟨rfl, rfl⟩
    ·
      refine g3 hC rfl rfl ?_
      refine g0 hC rfl ?_
      refine g13l hC rfl (fun h4 => (by omega)) (fun h4 => ?_)
      refine g0 hC rfl ?_
      refine ret1 hC rfl rfl ?_
      exact ⟨rfl, rfl⟩
theorem m218 (hF : Fix M) (hG : GG n h M) {a b c : Int} : ax_Ev L X SH 1 218 [(2, 142), (0, a), (0, b), (0, c)] M (R1 0 (fun x M' => x = letV M h a b c ∧ M' = M)) := by
  show ax_G L X SH 1 218 0 [(2, 142), (0, a), (0, b), (0, c), (3, 0), (3, 0), (3, 0), (3, 0), (3, 0)] [] M _
  have hC := at218
  have hw := wX0
  have hwr := rX0
  have hS : Sb X0 M M := Sb.refl
  have hV := hG.2.2.2.1
  have hW := hG.1
  have hGM := hG.2.2.2.2.2.2.1
  have h1 := hW.1.1.2; have h3 := hW.1.2.2.1.2; have h4 := hW.1.2.2.2.2
  by_cases za : 0 ≤ a ∧ a ≤ 2
  · obtain ⟨q, rfl⟩ : ∃ q : Nat, a = (q : Int) := ⟨a.toNat, by omega⟩
    have hm : M 176 (4 + q) = (nm0 M h (q : Int) : Int) := by
      have : q = 0 ∨ q = 1 ∨ q = 2 := by omega
      rcases this with rfl | rfl | rfl
      · exact rm4 hS hwr hV hW
      · exact rm5 hS hwr hV hW
      · exact rm6 hS hwr hV hW
    have hn8 : nm0 M h (q : Int) ≤ 8 := by unfold nm0; split <;> (try split) <;> omega
    by_cases zb : 0 ≤ b ∧ b < (nm0 M h (q : Int) : Int)
    · obtain ⟨w, rfl⟩ : ∃ w : Nat, b = (w : Int) := ⟨b.toNat, by omega⟩
      by_cases zc : 0 ≤ c ∧ c < 6
      · obtain ⟨k, rfl⟩ : ∃ k : Nat, c = (k : Int) := ⟨c.toNat, by omega⟩
        have hnm : NM (nmC M h (q : Int) w) (M 177 (24 + 8 * q + w)) := by
          have : q = 0 ∨ q = 1 ∨ q = 2 := by omega
          rcases this with rfl | rfl | rfl
          · exact hGM.1 w (by have : ((w : Nat) : Int) < (nR M h : Int) := zb.2; omega)
          · exact hGM.2.1 w (by have : ((w : Nat) : Int) < (nQ M h : Int) := zb.2; omega)
          · exact hGM.2.2 w (by have : ((w : Nat) : Int) < (nC M h : Int) := zb.2; omega)
        have hv : letV M h (q : Int) (w : Int) (k : Int) = ltr (nmC M h (q : Int) w) k := by unfold letV; rw [if_pos ⟨zc, za, zb⟩]; rfl
        rw [hv]
        obtain ⟨n0, f, n1, n2, n3, ec, er⟩ := hnm
        have hl : ltr (nmC M h (q : Int) w) k = (if k < n0 then (f k : Int) else 0) := by
          rw [ec]; unfold ltr
          rw [Int.toNat_natCast, nc_d n0 n3]
          split <;> rfl
        rw [hl]
        have hnb := fun m (hm : m ≤ n0) => nr_b (f := f) m (by omega) (fun i hi => n3 i (by omega))
        have hdiv : ∀ m, m < n0 → nr f (m + 1) / 27 = nr f m ∧ nr f (m + 1) % 27 = f m := by
          intro m hm
          have e : nr f (m + 1) = 27 * nr f m + f m := rfl
          have := n3 m hm
          rw [e]; omega
        have l2 : k < n0 → ∀ v8, ∀ (m j : Nat), j + m = n0 - 1 - k → ∀ ll M1, (ll = [(2, 142), (0, (q : Int)), (0, (w : Int)), (0, (k : Int)), (1, (nr f (n0 - j) : Int)), (3, 0), (0, (n0 : Int)), (0, ((n0 - 1 - j : Nat) : Int)), v8] ∧ M1 = M) → ax_G L X SH 1 218 62 ll [] M1 (R1 0 (fun x M' => x = (if k < n0 then (f k : Int) else 0) ∧ M' = M)) := by
          intro hk v8
          refine lp ?_ ?_
          · rintro ll M1 ⟨rfl, rfl⟩
            have hd := hdiv k hk
            have hb := hnb (k + 1) (by omega)
            have e1 : n0 - (n0 - 1 - k) = k + 1 := by omega
            rw [e1]
            have fk := n3 k hk
            refine g3 hC rfl rfl ?_
            refine g3 hC rfl rfl ?_
            refine g13s hC rfl (fun h64 => ?_) (fun h64 => (by omega))
            refine g3 hC rfl rfl ?_
            refine g1 hC rfl ?_
            refine g7rN (a := nr f (k + 1)) (b := 27) hC rfl rfl rfl (by decide) (by omega) ?_
            refine g10 hC rfl ⟨by omega, by omega⟩ ?_
            refine ret1 hC rfl rfl ?_
            exact ⟨by rw [hd.2, if_pos hk], rfl⟩
          · rintro j hj ll M1 ⟨rfl, rfl⟩ hnext
            have e1 : n0 - j = (n0 - (j + 1)) + 1 := by omega
            have hd := hdiv (n0 - (j + 1)) (by omega)
            have hb := hnb (n0 - j) (by omega)
            refine g3 hC rfl rfl ?_
            refine g3 hC rfl rfl ?_
            refine g13s hC rfl (fun h64 => (by omega)) (fun h64 => ?_)
            refine g3 hC rfl rfl ?_
            refine g1 hC rfl ?_
            refine g7dN (a := nr f (n0 - j)) (b := 27) hC rfl rfl rfl (by decide) (by omega) ?_
            refine sl4 hC rfl rfl ?_
            refine n7 hC rfl rfl ⟨by omega, by omega⟩ ?_
            refine g14 hC rfl ?_
            refine hnext _ _ ⟨?_, rfl⟩
            rw [show nr f (n0 - j) / 27 = nr f (n0 - (j + 1)) by rw [e1]; exact hd.1, show ((n0 - 1 - j : Nat) : Int) + -1 = ((n0 - 1 - (j + 1) : Nat) : Int) by omega]
        have l1 : ∀ (m j : Nat), j + m = n0 → ∀ ll M1, (ll = [(2, 142), (0, (q : Int)), (0, (w : Int)), (0, (k : Int)), (1, (nr f n0 : Int)), (3, 0), (0, (j : Int)), (1, (nr f (n0 - j) : Int)), (3, 0)] ∧ M1 = M) → ax_G L X SH 1 218 43 ll [] M1 (R1 0 (fun x M' => x = (if k < n0 then (f k : Int) else 0) ∧ M' = M)) := by
          refine lp ?_ ?_
          · rintro ll M1 ⟨rfl, rfl⟩
            have e0 : nr f (n0 - n0) = 0 := by rw [Nat.sub_self]; rfl
            rw [e0]
            have hc0 := @cmp0 ((0 : Nat) : Int) 0
            refine g3 hC rfl rfl ?_
            refine g1 hC rfl ?_
            refine g11 hC rfl ?_
            refine g12s hC rfl (fun h46 => ?_) (fun h46 => (by omega))
            refine g3 hC rfl rfl ?_
            refine g3 hC rfl rfl ?_
            refine g13l hC rfl (fun h55 => ?_) (fun h55 => ?_)
            ·
              refine g3 hC rfl rfl ?_
              refine g0 hC rfl ?_
              refine g6s hC rfl ⟨by omega, by omega⟩ ?_
              refine s7 hC rfl rfl rfl ?_
              exact l2 (by omega) _ (n0 - 1 - k) 0 (Nat.zero_add _) _ _ ⟨by rw [Nat.sub_zero, Nat.sub_zero, show (n0 : Int) - 1 = ((n0 - 1 : Nat) : Int) by omega], rfl⟩
            ·
              refine g0 hC rfl ?_
              refine ret1 hC rfl rfl ?_
              exact ⟨by rw [if_neg (by omega)], rfl⟩
          · rintro j hj ll M1 ⟨rfl, rfl⟩ hnext
            have e1 : n0 - j = (n0 - (j + 1)) + 1 := by omega
            have hd := hdiv (n0 - (j + 1)) (by omega)
            have hb := hnb (n0 - j) (by omega)
            have hp := hb.2 (by omega)
            have hc0 := @cmp0 ((nr f (n0 - j) : Nat) : Int) 0
            refine g3 hC rfl rfl ?_
            refine g1 hC rfl ?_
            refine g11 hC rfl ?_
            refine g12s hC rfl (fun h46 => (by omega)) (fun h46 => ?_)
            refine n6 hC rfl rfl ⟨by omega, by omega⟩ ?_
            refine g3 hC rfl rfl ?_
            refine g1 hC rfl ?_
            refine g7dN (a := nr f (n0 - j)) (b := 27) hC rfl rfl rfl (by decide) (by omega) ?_
            refine sl7 hC rfl rfl ?_
            refine g14 hC rfl ?_
            refine hnext _ _ ⟨?_, rfl⟩
            rw [show nr f (n0 - j) / 27 = nr f (n0 - (j + 1)) by rw [e1]; exact hd.1]; rfl
        refine g3 hC rfl rfl ?_
        refine g9 hC rfl ?_
        refine g1 hC rfl ?_
        refine g1 hC rfl ?_
        refine c1 hC rfl rfl rfl (Nat.le_of_ble_eq_true rfl) (Nat.le_of_ble_eq_true rfl) (mayS k153 rfl) (m153) (Nat.le_of_ble_eq_true rfl) (fun x M2 hr => ?_)
        obtain ⟨rfl, hr⟩ := hr; replace hr := hr.symm; subst hr; rw [if_pos (by omega)]
        refine g12e hC rfl (fun h5 => (by omega)) (fun h5 => ?_)
        refine g3 hC rfl rfl ?_
        refine g9 hC rfl ?_
        refine g1 hC rfl ?_
        refine g3 hC rfl rfl ?_
        refine g19 hC rfl sh142 (flt12 rfl) ft12_42 ((hS.fix hw hF).g fx_142_42) ?_
        refine g0 hC rfl ?_
        refine g3 hC rfl rfl ?_
        refine g6a hC rfl ⟨by omega, by omega⟩ ?_
        refine r21 (4 + q) hC rfl (by omega) sh176 (Or.inl rfl) (by omega) hm ?_
        refine g0 hC rfl ?_
        refine g6s hC rfl ⟨by omega, by omega⟩ ?_
        refine g9 hC rfl ?_
        refine c1 hC rfl rfl rfl (Nat.le_of_ble_eq_true rfl) (Nat.le_of_ble_eq_true rfl) (mayS k153 rfl) (m153) (Nat.le_of_ble_eq_true rfl) (fun x M2 hr => ?_)
        obtain ⟨rfl, hr⟩ := hr; replace hr := hr.symm; subst hr; rw [if_pos (by omega)]
        refine g12e hC rfl (fun h19 => (by omega)) (fun h19 => ?_)
        refine g3 hC rfl rfl ?_
        refine g9 hC rfl ?_
        refine g1 hC rfl ?_
        refine g1 hC rfl ?_
        refine c1 hC rfl rfl rfl (Nat.le_of_ble_eq_true rfl) (Nat.le_of_ble_eq_true rfl) (mayS k153 rfl) (m153) (Nat.le_of_ble_eq_true rfl) (fun x M2 hr => ?_)
        obtain ⟨rfl, hr⟩ := hr; replace hr := hr.symm; subst hr; rw [if_pos (by omega)]
        refine g12n hC rfl (fun h25 => ?_) (fun h25 => (by omega))
        refine g3 hC rfl rfl ?_
        refine g19 hC rfl sh142 (flt12 rfl) ft12_43 ((hS.fix hw hF).g fx_142_43) ?_
        refine g0 hC rfl ?_
        refine g0 hC rfl ?_
        refine g3 hC rfl rfl ?_
        refine g6m hC rfl ⟨by omega, by omega⟩ ?_
        refine g6a hC rfl ⟨by omega, by omega⟩ ?_
        refine g3 hC rfl rfl ?_
        refine g6a hC rfl ⟨by omega, by omega⟩ ?_
        refine r21 (24 + 8 * q + w) hC rfl (by omega) sh177 (Or.inl rfl) (by omega) er ?_
        refine sl4 hC rfl rfl ?_
        refine g0 hC rfl ?_
        refine s6 hC rfl rfl rfl ?_
        refine g3 hC rfl rfl ?_
        refine sl7 hC rfl rfl ?_
        exact l1 n0 0 (Nat.zero_add _) _ _ ⟨by rw [Nat.sub_zero]; rfl, rfl⟩
      · have hv : letV M h (q : Int) (w : Int) c = -1 := by unfold letV; rw [if_neg (fun z => zc z.1)]
        rw [hv]
        refine g3 hC rfl rfl ?_
        refine g9 hC rfl ?_
        refine g1 hC rfl ?_
        refine g1 hC rfl ?_
        refine c1 hC rfl rfl rfl (Nat.le_of_ble_eq_true rfl) (Nat.le_of_ble_eq_true rfl) (mayS k153 rfl) m153 (Nat.le_of_ble_eq_true rfl) (fun x M2 hr => ?_)
        obtain ⟨rfl, hr⟩ := hr; replace hr := hr.symm; subst hr; rw [if_pos (by omega)]
        refine g12e hC rfl (fun h5 => (by omega)) (fun h5 => ?_)
        refine g3 hC rfl rfl ?_
        refine g9 hC rfl ?_
        refine g1 hC rfl ?_
        refine g3 hC rfl rfl ?_
        refine g19 hC rfl sh142 (flt12 rfl) ft12_42 ((hS.fix hw hF).g fx_142_42) ?_
        refine g0 hC rfl ?_
        refine g3 hC rfl rfl ?_
        refine g6a hC rfl ⟨by omega, by omega⟩ ?_
        refine r21 (4 + q) hC rfl (by omega) sh176 (Or.inl rfl) (by omega) hm ?_
        refine g0 hC rfl ?_
        refine g6s hC rfl ⟨by omega, by omega⟩ ?_
        refine g9 hC rfl ?_
        refine c1 hC rfl rfl rfl (Nat.le_of_ble_eq_true rfl) (Nat.le_of_ble_eq_true rfl) (mayS k153 rfl) m153 (Nat.le_of_ble_eq_true rfl) (fun x M2 hr => ?_)
        obtain ⟨rfl, hr⟩ := hr; replace hr := hr.symm; subst hr; rw [if_pos (by omega)]
        refine g12e hC rfl (fun h19 => (by omega)) (fun h19 => ?_)
        refine g3 hC rfl rfl ?_
        refine g9 hC rfl ?_
        refine g1 hC rfl ?_
        refine g1 hC rfl ?_
        refine c1 hC rfl rfl rfl (Nat.le_of_ble_eq_true rfl) (Nat.le_of_ble_eq_true rfl) (mayS k153 rfl) m153 (Nat.le_of_ble_eq_true rfl) (fun x M2 hr => ?_)
        obtain ⟨rfl, hr⟩ := hr; replace hr := hr.symm; subst hr; rw [if_neg (by omega)]
        refine g12n hC rfl (fun h25 => (by omega)) (fun h25 => ?_)
        refine g0 hC rfl ?_
        refine ret1 hC rfl rfl ?_
        exact ⟨rfl, rfl⟩
    · have hv : letV M h (q : Int) b c = -1 := by unfold letV; rw [if_neg (fun z => zb z.2.2)]
      rw [hv]
      refine g3 hC rfl rfl ?_
      refine g9 hC rfl ?_
      refine g1 hC rfl ?_
      refine g1 hC rfl ?_
      refine c1 hC rfl rfl rfl (Nat.le_of_ble_eq_true rfl) (Nat.le_of_ble_eq_true rfl) (mayS k153 rfl) m153 (Nat.le_of_ble_eq_true rfl) (fun x M2 hr => ?_)
      obtain ⟨rfl, hr⟩ := hr; replace hr := hr.symm; subst hr; rw [if_pos (by omega)]
      refine g12e hC rfl (fun h5 => (by omega)) (fun h5 => ?_)
      refine g3 hC rfl rfl ?_
      refine g9 hC rfl ?_
      refine g1 hC rfl ?_
      refine g3 hC rfl rfl ?_
      refine g19 hC rfl sh142 (flt12 rfl) ft12_42 ((hS.fix hw hF).g fx_142_42) ?_
      refine g0 hC rfl ?_
      refine g3 hC rfl rfl ?_
      refine g6a hC rfl ⟨by omega, by omega⟩ ?_
      refine r21 (4 + q) hC rfl (by omega) sh176 (Or.inl rfl) (by omega) hm ?_
      refine g0 hC rfl ?_
      refine g6s hC rfl ⟨by omega, by omega⟩ ?_
      refine g9 hC rfl ?_
      refine c1 hC rfl rfl rfl (Nat.le_of_ble_eq_true rfl) (Nat.le_of_ble_eq_true rfl) (mayS k153 rfl) m153 (Nat.le_of_ble_eq_true rfl) (fun x M2 hr => ?_)
      obtain ⟨rfl, hr⟩ := hr; replace hr := hr.symm; subst hr; rw [if_neg (by omega)]
      refine g12e hC rfl (fun h19 => ?_) (fun h19 => (by omega))
      refine g0 hC rfl ?_
      refine ret1 hC rfl rfl ?_
      exact ⟨rfl, rfl⟩
  · have hv : letV M h a b c = -1 := by unfold letV; rw [if_neg (fun z => za z.2.1)]
    rw [hv]
    refine g3 hC rfl rfl ?_
    refine g9 hC rfl ?_
    refine g1 hC rfl ?_
    refine g1 hC rfl ?_
    refine c1 hC rfl rfl rfl (Nat.le_of_ble_eq_true rfl) (Nat.le_of_ble_eq_true rfl) (mayS k153 rfl) (m153) (Nat.le_of_ble_eq_true rfl) (fun x M2 hr => ?_)
    obtain ⟨rfl, hr⟩ := hr; replace hr := hr.symm; subst hr; rw [if_neg (by omega)]
    refine g12e hC rfl (fun h5 => ?_) (fun h5 => (by omega))
    refine g0 hC rfl ?_
    refine ret1 hC rfl rfl ?_
    exact ⟨rfl, rfl⟩
theorem op5 (hR : Rel n M) {a b c : Int} : OP L X n 0 105 218 [(2, 0), (0, a), (0, b), (0, c)] [(2, 142), (0, a), (0, b), (0, c)] M := by
  have hR0 := hR
  obtain ⟨h, hh, hF, hG⟩ := hR
  have hG0 := hG
  obtain ⟨hW, hSW, hPW, hRV, hGT, hGN, hGM, hGH, hGS, hGX⟩ := hG
  have hV : HV M h M := HV.refl
  have hH3 : M 0 3 = (h : Int) := hGX.1.1
  exact OP.ro hR0 (m105 hF hh hG0) (m218 hF hG0) (by decide) (by decide)
end LET
