section SML
variable {L : Nat} {X : Nat → Int} {M : ax_M}
theorem m303 {x : Int} (hx : ax_i x) (hx1 : -2147483648 < x) : ax_Ev L X SH 0 303 [(0, x)] M (R1 0 (fun y M' => y = (if 0 ≤ x then x else -x) ∧ M' = M)) := by
  show ax_G L X SH 0 303 0 [(0, x)] [] M _
  have hC := at303
  have := hx.1; have := hx.2
  refine g3 hC rfl rfl ?_
  refine g12g hC rfl (fun h1 => ?_) (fun h1 => ?_)
  ·
    refine g3 hC rfl rfl ?_
    refine ret1 hC rfl rfl ?_
    refine ⟨?_, rfl⟩
    split <;> omega
  ·
    refine g3 hC rfl rfl ?_
    refine g8 hC rfl ⟨by omega, by omega⟩ ?_
    refine g14 hC rfl ?_
    refine ret1 hC rfl rfl ?_
    refine ⟨?_, rfl⟩
    split <;> omega
theorem m304 {x y : Int} : ax_Ev L X SH 0 304 [(0, x), (0, y)] M (R1 0 (fun z M' => z = max x y ∧ M' = M)) := by
  show ax_G L X SH 0 304 0 [(0, x), (0, y)] [] M _
  have hC := at304
  refine g3 hC rfl rfl ?_
  refine g3 hC rfl rfl ?_
  refine g13l hC rfl (fun h2 => ?_) (fun h2 => ?_)
  ·
    refine g3 hC rfl rfl ?_
    refine ret1 hC rfl rfl ?_
    exact ⟨by omega, rfl⟩
  ·
    refine g3 hC rfl rfl ?_
    refine g14 hC rfl ?_
    refine ret1 hC rfl rfl ?_
    exact ⟨by omega, rfl⟩
theorem m306 {x y : Int} : ax_Ev L X SH 0 306 [(0, x), (0, y)] M (R1 0 (fun z M' => z = min x y ∧ M' = M)) := by
  show ax_G L X SH 0 306 0 [(0, x), (0, y)] [] M _
  have hC := at306
  refine g3 hC rfl rfl ?_
  refine g3 hC rfl rfl ?_
  refine g13t hC rfl (fun h2 => ?_) (fun h2 => ?_)
  ·
    refine g3 hC rfl rfl ?_
    refine ret1 hC rfl rfl ?_
    exact ⟨by omega, rfl⟩
  ·
    refine g3 hC rfl rfl ?_
    refine g14 hC rfl ?_
    refine ret1 hC rfl rfl ?_
    exact ⟨by omega, rfl⟩
theorem cmp0 {x y : Int} : (ax_cmp x y < 0 ↔ x < y) ∧ (ax_cmp x y ≤ 0 ↔ x ≤ y) ∧ (0 < ax_cmp x y ↔ y < x) ∧ (0 ≤ ax_cmp x y ↔ y ≤ x) ∧ (ax_cmp x y = 0 ↔ x = y) := by
  unfold ax_cmp
  split
  · refine ⟨?_, ?_, ?_, ?_, ?_⟩ <;> constructor <;> intro _ <;> omega
  · split
    · refine ⟨?_, ?_, ?_, ?_, ?_⟩ <;> constructor <;> intro _ <;> omega
    · refine ⟨?_, ?_, ?_, ?_, ?_⟩ <;> constructor <;> intro _ <;> omega
theorem m305 {x y : Int} : ax_Ev L X SH 0 305 [(1, x), (1, y)] M (R1 1 (fun z M' => z = max x y ∧ M' = M)) := by
  show ax_G L X SH 0 305 0 [(1, x), (3, 0), (1, y), (3, 0)] [] M _
  have hC := at305
  have hc := @cmp0 x y
  refine g3 hC rfl rfl ?_
  refine g3 hC rfl rfl ?_
  refine g11 hC rfl ?_
  refine g12l hC rfl (fun h3 => ?_) (fun h3 => ?_)
  ·
    refine g3 hC rfl rfl ?_
    refine ret1 hC rfl rfl ?_
    exact ⟨by omega, rfl⟩
  ·
    refine g3 hC rfl rfl ?_
    refine g14 hC rfl ?_
    refine ret1 hC rfl rfl ?_
    exact ⟨by omega, rfl⟩
theorem m307 {x y : Int} : ax_Ev L X SH 0 307 [(1, x), (1, y)] M (R1 1 (fun z M' => z = min x y ∧ M' = M)) := by
  show ax_G L X SH 0 307 0 [(1, x), (3, 0), (1, y), (3, 0)] [] M _
  have hC := at307
  have hc := @cmp0 x y
  refine g3 hC rfl rfl ?_
  refine g3 hC rfl rfl ?_
  refine g11 hC rfl ?_
  refine g12t hC rfl (fun h3 => ?_) (fun h3 => ?_)
  ·
    refine g3 hC rfl rfl ?_
    refine ret1 hC rfl rfl ?_
    exact ⟨by omega, rfl⟩
  ·
    refine g3 hC rfl rfl ?_
    refine g14 hC rfl ?_
    refine ret1 hC rfl rfl ?_
    exact ⟨by omega, rfl⟩
theorem m302 {x y : Int} (hx : -1000000 ≤ x ∧ x ≤ 1000000) (hy : -1000000 ≤ y ∧ y ≤ 1000000) (h0 : y ≠ 0) : ax_Ev L X SH 0 302 [(0, x), (0, y)] M (R1 0 (fun z M' => z = x.fdiv y ∧ M' = M)) := by
  show ax_G L X SH 0 302 0 [(0, x), (0, y), (3, 0)] [] M _
  have hC := at302
  have hb : -1000000 ≤ x.tdiv y ∧ x.tdiv y ≤ 1000000 := by
    have h1 : (x.tdiv y).natAbs ≤ x.natAbs := by rw [Int.natAbs_tdiv]; exact Nat.div_le_self _ _
    omega
  have hm : x.tdiv y * y + x.tmod y = x := by rw [Int.mul_comm]; exact Int.mul_tdiv_add_tmod x y
  have hn : (x.tmod y).natAbs < y.natAbs := by rw [Int.natAbs_tmod]; exact Nat.mod_lt _ (by omega)
  have hs : 0 ≤ x → 0 ≤ x.tmod y := fun h => Int.tmod_nonneg y h
  have hs2 : x < 0 → x.tmod y ≤ 0 := fun h => by
    have := Int.tmod_nonneg (a := -x) y (by omega)
    rw [Int.neg_tmod] at this
    omega
  have hpb : -2000000 ≤ x.tdiv y * y ∧ x.tdiv y * y ≤ 2000000 := by omega
  have hxn := @xneg x y (by constructor <;> omega) (by constructor <;> omega)
  have key : x.fdiv y = if x.tmod y ≠ 0 ∧ ¬ (x < 0 ↔ y < 0) then x.tdiv y - 1 else x.tdiv y := by
    have he := Int.fdiv_eq_tdiv (a := x) (b := y)
    rw [he]
    have hd : y ∣ x ↔ x.tmod y = 0 := by rw [Int.dvd_iff_tmod_eq_zero]
    by_cases h1 : x.tmod y = 0
    · rw [if_pos (hd.mpr h1), if_neg (fun z => z.1 h1)]; omega
    · rw [if_neg (fun z => h1 (hd.mp z))]
      by_cases h2 : 0 ≤ x <;> by_cases h3 : 0 ≤ y
      · rw [if_pos h2, if_pos h3, if_neg (fun z => z.2 (by omega))]; omega
      · rw [if_pos h2, if_neg h3, if_pos ⟨h1, by omega⟩]
      · rw [if_neg h2, if_pos h3, if_pos ⟨h1, by omega⟩, Int.sign_eq_one_of_pos (by omega)]
      · rw [if_neg h2, if_neg h3, if_neg (fun z => z.2 (by omega)), Int.sign_eq_neg_one_of_neg (by omega)]; omega
  refine g3 hC rfl rfl ?_
  refine g3 hC rfl rfl ?_
  refine g6d hC rfl ⟨h0, ⟨by omega, by omega⟩⟩ ?_
  refine s2 hC rfl rfl rfl ?_
  refine g3 hC rfl rfl ?_
  refine g3 hC rfl rfl ?_
  refine g6 hC rfl rfl ?_
  refine g12g hC rfl (fun h7 => ?_) (fun h7 => ?_)
  ·
    refine g3 hC rfl rfl ?_
    refine ret1 hC rfl rfl ?_
    refine ⟨?_, rfl⟩
    rw [key]
    generalize x.tdiv y * y = q at *
    split <;> omega
  ·
    refine g3 hC rfl rfl ?_
    refine g3 hC rfl rfl ?_
    refine g6m hC rfl ⟨by omega, by omega⟩ ?_
    refine g3 hC rfl rfl ?_
    refine g13e hC rfl (fun h12 => ?_) (fun h12 => ?_)
    ·
      refine g3 hC rfl rfl ?_
      refine ret1 hC rfl rfl ?_
      refine ⟨?_, rfl⟩
      rw [key]
      generalize x.tdiv y * y = q at *
      split <;> omega
    ·
      refine g3 hC rfl rfl ?_
      refine g0 hC rfl ?_
      refine g6s hC rfl ⟨by omega, by omega⟩ ?_
      refine ret1 hC rfl rfl ?_
      refine ⟨?_, rfl⟩
      rw [key]
      generalize x.tdiv y * y = q at *
      split <;> omega
theorem m140 {n c : Int} : ax_Ev L X SH 0 140 [(0, n), (0, c)] M (R1 0 (fun z M' => z = (if 0 ≤ n ∧ n < c then 1 else 0) ∧ M' = M)) := by
  show ax_G L X SH 0 140 0 [(0, n), (0, c)] [] M _
  have hC := at140
  refine g3 hC rfl rfl ?_
  refine g12l hC rfl (fun h1 => ?_) (fun h1 => ?_)
  ·
    refine g0 hC rfl ?_
    refine ret3 hC rfl ⟨by omega, by omega⟩ ?_
    refine ⟨?_, rfl⟩
    split <;> omega
  ·
    refine g3 hC rfl rfl ?_
    refine g3 hC rfl rfl ?_
    refine g13g hC rfl (fun h4 => ?_) (fun h4 => ?_)
    ·
      refine g0 hC rfl ?_
      refine ret3 hC rfl ⟨by omega, by omega⟩ ?_
      refine ⟨?_, rfl⟩
      split <;> omega
    ·
      refine g0 hC rfl ?_
      refine g14 hC rfl ?_
      refine ret3 hC rfl ⟨by omega, by omega⟩ ?_
      refine ⟨?_, rfl⟩
      split <;> omega
theorem m153 {v l m : Int} : ax_Ev L X SH 0 153 [(1, v), (1, l), (1, m)] M (R1 0 (fun z M' => z = (if l ≤ v ∧ v ≤ m then 1 else 0) ∧ M' = M)) := by
  show ax_G L X SH 0 153 0 [(1, v), (3, 0), (1, l), (3, 0), (1, m), (3, 0)] [] M _
  have hC := at153
  have hc := @cmp0 v l
  have hc2 := @cmp0 v m
  refine g3 hC rfl rfl ?_
  refine g3 hC rfl rfl ?_
  refine g11 hC rfl ?_
  refine g12l hC rfl (fun h3 => ?_) (fun h3 => ?_)
  ·
    refine g0 hC rfl ?_
    refine ret3 hC rfl ⟨by omega, by omega⟩ ?_
    refine ⟨?_, rfl⟩
    split <;> omega
  ·
    refine g3 hC rfl rfl ?_
    refine g3 hC rfl rfl ?_
    refine g11 hC rfl ?_
    refine g12t hC rfl (fun h7 => ?_) (fun h7 => ?_)
    ·
      refine g0 hC rfl ?_
      refine ret3 hC rfl ⟨by omega, by omega⟩ ?_
      refine ⟨?_, rfl⟩
      split <;> omega
    ·
      refine g0 hC rfl ?_
      refine g14 hC rfl ?_
      refine ret3 hC rfl ⟨by omega, by omega⟩ ?_
      refine ⟨?_, rfl⟩
      split <;> omega
theorem m157 {c : Int} : ax_Ev L X SH 0 157 [(0, c)] M (R1 0 (fun z M' => z = (if 97 ≤ c ∧ c ≤ 122 then 1 else 0) ∧ M' = M)) := by
  show ax_G L X SH 0 157 0 [(0, c)] [] M _
  have hC := at157
  refine g3 hC rfl rfl ?_
  refine g0 hC rfl ?_
  refine g13l hC rfl (fun h2 => ?_) (fun h2 => ?_)
  ·
    refine g0 hC rfl ?_
    refine ret3 hC rfl ⟨by omega, by omega⟩ ?_
    refine ⟨?_, rfl⟩
    split <;> omega
  ·
    refine g3 hC rfl rfl ?_
    refine g0 hC rfl ?_
    refine g13t hC rfl (fun h5 => ?_) (fun h5 => ?_)
    ·
      refine g0 hC rfl ?_
      refine ret3 hC rfl ⟨by omega, by omega⟩ ?_
      refine ⟨?_, rfl⟩
      split <;> omega
    ·
      refine g0 hC rfl ?_
      refine g14 hC rfl ?_
      refine ret3 hC rfl ⟨by omega, by omega⟩ ?_
      refine ⟨?_, rfl⟩
      split <;> omega
theorem m158 {c : Int} : ax_Ev L X SH 0 158 [(0, c)] M (R1 0 (fun z M' => z = (if 48 ≤ c ∧ c ≤ 57 then 1 else 0) ∧ M' = M)) := by
  show ax_G L X SH 0 158 0 [(0, c)] [] M _
  have hC := at158
  refine g3 hC rfl rfl ?_
  refine g0 hC rfl ?_
  refine g13l hC rfl (fun h2 => ?_) (fun h2 => ?_)
  ·
    refine g0 hC rfl ?_
    refine ret3 hC rfl ⟨by omega, by omega⟩ ?_
    refine ⟨?_, rfl⟩
    split <;> omega
  ·
    refine g3 hC rfl rfl ?_
    refine g0 hC rfl ?_
    refine g13t hC rfl (fun h5 => ?_) (fun h5 => ?_)
    ·
      refine g0 hC rfl ?_
      refine ret3 hC rfl ⟨by omega, by omega⟩ ?_
      refine ⟨?_, rfl⟩
      split <;> omega
    ·
      refine g0 hC rfl ?_
      refine g14 hC rfl ?_
      refine ret3 hC rfl ⟨by omega, by omega⟩ ?_
      refine ⟨?_, rfl⟩
      split <;> omega
end SML
