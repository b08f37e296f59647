section PEV
variable {L : Nat} {X : Nat → Int} {M : ax_M}
def jc (e a b : Int) : Int := if e = -11 then max a b else if e = -10 then min a b else if e = -9 then (Int32.ofInt a ||| Int32.ofInt b).toInt else if e = -8 then (Int32.ofInt a &&& Int32.ofInt b).toInt else if e = -7 then (if a = b then 1 else 0) else if e = -6 then (if b < a then 1 else 0) else if e = -5 then (if a < b then 1 else 0) else if e = -4 then (if b = 0 then 0 else a.fdiv b) else if e = -3 then clip (a * b) else if e = -2 then clip (a - b) else if e = -1 then clip (a + b) else 0
theorem m63 {x : Int} (hx : -2000000000000 ≤ x ∧ x ≤ 2000000000000) : ax_Ev L X SH 0 63 [(1, x)] M (R1 0 (fun y M' => y = clip x ∧ M' = M)) := by
  show ax_G L X SH 0 63 0 [(1, x), (3, 0)] [] M _
  have hC := at63
  have hc := @cmp0 x 1000000
  have hc2 := @cmp0 x (-1000000)
  refine g3 hC rfl rfl ?_
  refine g1 hC rfl ?_
  refine g11 hC rfl ?_
  refine g12s hC rfl (fun h3 => ?_) (fun h3 => ?_)
  ·
    refine g3 hC rfl rfl ?_
    refine g1 hC rfl ?_
    refine g11 hC rfl ?_
    refine g12g hC rfl (fun h9 => ?_) (fun h9 => ?_)
    ·
      refine g3 hC rfl rfl ?_
      refine g10 hC rfl ⟨by omega, by omega⟩ ?_
      refine ret1 hC rfl rfl ?_
      refine ⟨?_, rfl⟩
      unfold clip
      repeat' split
      all_goals omega
    ·
      refine g0 hC rfl ?_
      refine g14 hC rfl ?_
      refine ret1 hC rfl rfl ?_
      refine ⟨?_, rfl⟩
      unfold clip
      repeat' split
      all_goals omega
  ·
    refine g0 hC rfl ?_
    refine ret1 hC rfl rfl ?_
    refine ⟨?_, rfl⟩
    unfold clip
    repeat' split
    all_goals omega
theorem m62 {e a b : Int} (ha : -1000000 ≤ a ∧ a ≤ 1000000) (hb : -1000000 ≤ b ∧ b ≤ 1000000) : ax_Ev L X SH 1 62 [(0, e), (0, a), (0, b)] M (R1 0 (fun y M' => y = jc e a b ∧ M' = M)) := by
  show ax_G L X SH 1 62 0 [(0, e), (0, a), (0, b)] [] M _
  have hC := at62
  have hp : -1000000000000 ≤ a * b ∧ a * b ≤ 1000000000000 := by
    have h1 : (a * b).natAbs ≤ 1000000 * 1000000 := by rw [Int.natAbs_mul]; exact Nat.mul_le_mul (by omega) (by omega)
    omega
  refine g3 hC rfl rfl ?_
  by_cases k1_0 : e = -11
  ·
    refine g15k (key := -11) (i' := 64) hC rfl rfl k1_0 rfl ?_
    refine g3 hC rfl rfl ?_
    refine g3 hC rfl rfl ?_
    refine c1 hC rfl rfl rfl (Nat.le_of_ble_eq_true rfl) (Nat.le_of_ble_eq_true rfl) rfl (m304) (Nat.le_of_ble_eq_true rfl) (fun x M2 hr => ?_)
    obtain ⟨rfl, hr⟩ := hr
    replace hr := hr.symm
    subst hr
    refine ret1 hC rfl rfl ?_
    exact ⟨by unfold jc; rw [if_pos ‹_›], rfl⟩
  by_cases k1_1 : e = -10
  ·
    refine g15k (key := -10) (i' := 60) hC rfl rfl k1_1 rfl ?_
    refine g3 hC rfl rfl ?_
    refine g3 hC rfl rfl ?_
    refine c1 hC rfl rfl rfl (Nat.le_of_ble_eq_true rfl) (Nat.le_of_ble_eq_true rfl) rfl (m306) (Nat.le_of_ble_eq_true rfl) (fun x M2 hr => ?_)
    obtain ⟨rfl, hr⟩ := hr
    replace hr := hr.symm
    subst hr
    refine ret1 hC rfl rfl ?_
    subst k1_1; exact ⟨by simp [jc], rfl⟩
  by_cases k1_2 : e = -9
  ·
    refine g15k (key := -9) (i' := 56) hC rfl rfl k1_2 rfl ?_
    refine g3 hC rfl rfl ?_
    refine g3 hC rfl rfl ?_
    refine g6 hC rfl rfl ?_
    refine ret1 hC rfl rfl ?_
    subst k1_2; exact ⟨by simp [jc], rfl⟩
  by_cases k1_3 : e = -8
  ·
    refine g15k (key := -8) (i' := 52) hC rfl rfl k1_3 rfl ?_
    refine g3 hC rfl rfl ?_
    refine g3 hC rfl rfl ?_
    refine g6 hC rfl rfl ?_
    refine ret1 hC rfl rfl ?_
    subst k1_3; exact ⟨by simp [jc], rfl⟩
  by_cases k1_4 : e = -7
  ·
    refine g15k (key := -7) (i' := 45) hC rfl rfl k1_4 rfl ?_
    refine g3 hC rfl rfl ?_
    refine g3 hC rfl rfl ?_
    refine g13n hC rfl (fun h47 => ?_) (fun h47 => ?_)
    ·
      refine g0 hC rfl ?_
      refine ret1 hC rfl rfl ?_
      subst k1_4; exact ⟨by simp [jc]; omega, rfl⟩
    ·
      refine g0 hC rfl ?_
      refine g14 hC rfl ?_
      refine ret1 hC rfl rfl ?_
      subst k1_4; exact ⟨by simp [jc]; omega, rfl⟩
  by_cases k1_5 : e = -6
  ·
    refine g15k (key := -6) (i' := 38) hC rfl rfl k1_5 rfl ?_
    refine g3 hC rfl rfl ?_
    refine g3 hC rfl rfl ?_
    refine g13s hC rfl (fun h40 => ?_) (fun h40 => ?_)
    ·
      refine g0 hC rfl ?_
      refine ret1 hC rfl rfl ?_
      subst k1_5; exact ⟨by simp [jc]; omega, rfl⟩
    ·
      refine g0 hC rfl ?_
      refine g14 hC rfl ?_
      refine ret1 hC rfl rfl ?_
      subst k1_5; exact ⟨by simp [jc]; omega, rfl⟩
  by_cases k1_6 : e = -5
  ·
    refine g15k (key := -5) (i' := 31) hC rfl rfl k1_6 rfl ?_
    refine g3 hC rfl rfl ?_
    refine g3 hC rfl rfl ?_
    refine g13g hC rfl (fun h33 => ?_) (fun h33 => ?_)
    ·
      refine g0 hC rfl ?_
      refine ret1 hC rfl rfl ?_
      subst k1_6; exact ⟨by simp [jc]; omega, rfl⟩
    ·
      refine g0 hC rfl ?_
      refine g14 hC rfl ?_
      refine ret1 hC rfl rfl ?_
      subst k1_6; exact ⟨by simp [jc]; omega, rfl⟩
  by_cases k1_7 : e = -4
  ·
    refine g15k (key := -4) (i' := 23) hC rfl rfl k1_7 rfl ?_
    refine g3 hC rfl rfl ?_
    refine g12n hC rfl (fun h24 => ?_) (fun h24 => ?_)
    ·
      refine g3 hC rfl rfl ?_
      refine g3 hC rfl rfl ?_
      refine c1 hC rfl rfl rfl (Nat.le_of_ble_eq_true rfl) (Nat.le_of_ble_eq_true rfl) rfl (m302 ⟨by omega, by omega⟩ ⟨by omega, by omega⟩ (by omega)) (Nat.le_of_ble_eq_true rfl) (fun x M2 hr => ?_)
      obtain ⟨rfl, hr⟩ := hr
      replace hr := hr.symm
      subst hr
      refine ret1 hC rfl rfl ?_
      subst k1_7; exact ⟨by simp [jc]; omega, rfl⟩
    ·
      refine g0 hC rfl ?_
      refine g14 hC rfl ?_
      refine ret1 hC rfl rfl ?_
      subst k1_7; exact ⟨by simp [jc]; omega, rfl⟩
  by_cases k1_8 : e = -3
  ·
    refine g15k (key := -3) (i' := 16) hC rfl rfl k1_8 rfl ?_
    refine g3 hC rfl rfl ?_
    refine g9 hC rfl ?_
    refine g3 hC rfl rfl ?_
    refine g9 hC rfl ?_
    refine g7m hC rfl ⟨by omega, by omega⟩ ?_
    refine c1 hC rfl rfl rfl (Nat.le_of_ble_eq_true rfl) (Nat.le_of_ble_eq_true rfl) rfl (m63 ⟨by omega, by omega⟩) (Nat.le_of_ble_eq_true rfl) (fun x M2 hr => ?_)
    obtain ⟨rfl, hr⟩ := hr
    replace hr := hr.symm
    subst hr
    refine ret1 hC rfl rfl ?_
    subst k1_8; exact ⟨by simp [jc], rfl⟩
  by_cases k1_9 : e = -2
  ·
    refine g15k (key := -2) (i' := 9) hC rfl rfl k1_9 rfl ?_
    refine g3 hC rfl rfl ?_
    refine g9 hC rfl ?_
    refine g3 hC rfl rfl ?_
    refine g9 hC rfl ?_
    refine g7s hC rfl ⟨by omega, by omega⟩ ?_
    refine c1 hC rfl rfl rfl (Nat.le_of_ble_eq_true rfl) (Nat.le_of_ble_eq_true rfl) rfl (m63 ⟨by omega, by omega⟩) (Nat.le_of_ble_eq_true rfl) (fun x M2 hr => ?_)
    obtain ⟨rfl, hr⟩ := hr
    replace hr := hr.symm
    subst hr
    refine ret1 hC rfl rfl ?_
    subst k1_9; exact ⟨by simp [jc], rfl⟩
  by_cases k1_10 : e = -1
  ·
    refine g15k (key := -1) (i' := 2) hC rfl rfl k1_10 rfl ?_
    refine g3 hC rfl rfl ?_
    refine g9 hC rfl ?_
    refine g3 hC rfl rfl ?_
    refine g9 hC rfl ?_
    refine g7a hC rfl ⟨by omega, by omega⟩ ?_
    refine c1 hC rfl rfl rfl (Nat.le_of_ble_eq_true rfl) (Nat.le_of_ble_eq_true rfl) rfl (m63 ⟨by omega, by omega⟩) (Nat.le_of_ble_eq_true rfl) (fun x M2 hr => ?_)
    obtain ⟨rfl, hr⟩ := hr
    replace hr := hr.symm
    subst hr
    refine ret1 hC rfl rfl ?_
    subst k1_10; exact ⟨by simp [jc], rfl⟩
  refine g15d (i' := 68) hC rfl rfl (by show ¬ ((-11 : Int) ≤ _ ∧ _ ≤ (-1 : Int)); omega) rfl ?_
  refine g0 hC rfl ?_
  refine ret1 hC rfl rfl ?_
  refine ⟨?_, rfl⟩
  unfold jc
  rw [if_neg ‹_›, if_neg ‹_›, if_neg ‹_›, if_neg ‹_›, if_neg ‹_›, if_neg ‹_›, if_neg ‹_›, if_neg ‹_›, if_neg ‹_›, if_neg ‹_›, if_neg ‹_›]
theorem jc_cs {kind : Nat} {v a b : Int} (h1 : 1 ≤ v) (h2 : v ≤ 11) (ha : 10 ≤ v → a = 0 ∨ a = 1) (hb : 10 ≤ v → b = 0 ∨ b = 1) : jc (cs kind v) a b = jn v a b := by
  have hv : v = 1 ∨ v = 2 ∨ v = 3 ∨ v = 4 ∨ v = 5 ∨ v = 6 ∨ v = 7 ∨ v = 8 ∨ v = 9 ∨ v = 10 ∨ v = 11 := by omega
  rcases hv with rfl | rfl | rfl | rfl | rfl | rfl | rfl | rfl | rfl | rfl | rfl
  all_goals try (simp [jc, cs, jn]; done)
  · rcases ha (by omega) with rfl | rfl <;> rcases hb (by omega) with rfl | rfl <;> simp [jc, cs, jn]
  · rcases ha (by omega) with rfl | rfl <;> rcases hb (by omega) with rfl | rfl <;> simp [jc, cs, jn]
theorem m61 {a n : Nat} {x : Int} (ha : SH[a]? = some (1, 0, n)) : ax_Ev L X SH 0 61 [(2, (a : Int)), (0, x)] M (R1 0 (fun y M' => y = (if 0 ≤ x ∧ x < n then M a x.toNat else 0) ∧ M' = M)) := by
  show ax_G L X SH 0 61 0 [(2, (a : Int)), (0, x)] [] M _
  have hC := at61
  refine g3 hC rfl rfl ?_
  refine g12l hC rfl (fun h1 => ?_) (fun h1 => ?_)
  ·
    refine g0 hC rfl ?_
    refine ret1 hC rfl rfl ?_
    exact ⟨(if_neg (by omega)).symm, rfl⟩
  ·
    refine g3 hC rfl rfl ?_
    refine g3 hC rfl rfl ?_
    refine g23 hC rfl ha ?_
    refine g13g hC rfl (fun h5 => ?_) (fun h5 => ?_)
    ·
      refine g0 hC rfl ?_
      refine ret1 hC rfl rfl ?_
      exact ⟨(if_neg (by omega)).symm, rfl⟩
    ·
      refine g3 hC rfl rfl ?_
      refine g3 hC rfl rfl ?_
      refine r21 (x.toNat) hC rfl (by omega) ha (Or.inl rfl) (by omega) rfl ?_
      refine g14 hC rfl ?_
      refine ret1 hC rfl rfl ?_
      exact ⟨(if_pos (by omega)).symm, rfl⟩
end PEV
