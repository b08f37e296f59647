def CHo (h : Nat) (s : HS) (M : ax_M) : Prop := CHn h s M ∧ CHt h s.2.1 M ∧ (∀ k, k < s.2.2.1.1 → M (h + 7) k = (s.2.2.1.2 k).2) ∧ (∀ k, k < s.2.2.2.1.1 → M (h + 8) k = ((s.2.2.2.1.2 k).2.1 : Int) ∧ M (h + 9) k = ((s.2.2.2.1.2 k).2.2.1 : Int) ∧ M (h + 10) k = (s.2.2.2.1.2 k).2.2.2.1 ∧ M (h + 11) k = (s.2.2.2.1.2 k).2.2.2.2) ∧ (PC M (h + 12) 0 (s.2.2.2.2.1.getD []) ∧ PC M (h + 15) 1 (s.2.2.2.2.2.1.getD [46])) ∧ M h 17 = s.2.2.2.2.2.2.1 ∧ M h 18 = s.2.2.2.2.2.2.2.1 ∧ M h 19 = s.2.2.2.2.2.2.2.2
def TO (c : Nat) (s : HS) (M : ax_M) : Prop := (M 8 0 = (s.1.1 : Int) ∧ M 8 1 = (s.2.1.1 : Int) ∧ M 8 2 = (s.2.2.1.1 : Int) ∧ M 8 3 = (s.2.2.2.1.1 : Int)) ∧ (M 8 4 = (if s.2.2.2.2.1.isSome = true then 1 else 0) ∧ M 8 5 = (if s.2.2.2.2.2.1.isSome = true then 1 else 0)) ∧ ∀ k, k < 9 → 0 ≤ M 8 k ∧ M 8 k ≤ (c : Int)
def WHo (h : Nat) : ax_W := ([(8, 9), (h + 1, h + 12), (h + 13, h + 14), (h + 16, h + 17)], [(1, 2), (1, 3), (1, 4), (1, 5), (1, 6), (1, 7), (1, 8), (1, 9), (6, 1), (6, 2), (6, 3), (h, 0), (h, 1), (h, 2), (h, 3), (h, 17), (h, 18), (h, 19), (h + 12, 1), (h + 15, 1)])
section CHO
variable {L : Nat} {X : Nat → Int} {M M' M1 : ax_M} {h n c k : Nat} {s : HS} {T : Nat → Int} {q : PS} {W : ax_W}
theorem wHo (hh : h = 9 ∨ h = 27) : wok (WHo h) = true := by rcases hh with rfl | rfl <;> decide +kernel
theorem wHn (hh : h = 9 ∨ h = 27) : wle WNS (WHo h) = true := by rcases hh with rfl | rfl <;> rfl
theorem CHo.sb (hC : CHo h s M) (hS : Sb W M M1) (hwh : hok W h) : CHo h s M1 := by
  have e : ∀ i k, i < 18 → i ≠ 14 → i ≠ 17 → M1 (h + i) k = M (h + i) k := fun i k a b c => hS _ _ (hwh i k a b c)
  have e0 : ∀ k, M1 h k = M h k := fun k => e 0 k (by decide) (by decide) (by decide)
  obtain ⟨⟨⟨⟨a1, b1⟩, ⟨a2, b2⟩, ⟨a3, b3⟩, a4, b4⟩, n1', n2', n3'⟩, t, p7, c8, ⟨q1, q2⟩, h17, h18, h19⟩ := hC
  refine ⟨⟨⟨⟨(e0 0).trans a1, b1⟩, ⟨(e0 1).trans a2, b2⟩, ⟨(e0 2).trans a3, b3⟩, (e0 3).trans a4, b4⟩, fun k hk => (e 1 k (by decide) (by decide) (by decide)).trans (n1' k hk), fun k hk => (e 2 k (by decide) (by decide) (by decide)).trans (n2' k hk), fun k hk => (e 3 k (by decide) (by decide) (by decide)).trans (n3' k hk)⟩, fun k hk => ⟨(e 4 k (by decide) (by decide) (by decide)).trans (t k hk).1, (e 5 k (by decide) (by decide) (by decide)).trans (t k hk).2.1, (e 6 k (by decide) (by decide) (by decide)).trans (t k hk).2.2⟩, fun k hk => (e 7 k (by decide) (by decide) (by decide)).trans (p7 k hk), fun k hk => ⟨(e 8 k (by decide) (by decide) (by decide)).trans (c8 k hk).1, (e 9 k (by decide) (by decide) (by decide)).trans (c8 k hk).2.1, (e 10 k (by decide) (by decide) (by decide)).trans (c8 k hk).2.2.1, (e 11 k (by decide) (by decide) (by decide)).trans (c8 k hk).2.2.2⟩, ⟨⟨(e 12 1 (by decide) (by decide) (by decide)).trans q1.1, fun i hi => (e 13 i (by decide) (by decide) (by decide)).trans (q1.2 i hi)⟩, (e 15 1 (by decide) (by decide) (by decide)).trans q2.1, fun i hi => (e 16 i (by decide) (by decide) (by decide)).trans (q2.2 i hi)⟩, (e0 17).trans h17, (e0 18).trans h18, (e0 19).trans h19⟩
theorem CHo.nu (hC : CHo h s M) (hh : h = 9 ∨ h = 27) (hS : Sb WNS M M1) : CHo h s M1 := hC.sb hS (hokB (by decide +kernel) hh)
theorem CHo.room (hC : CHo h s M) (hlt : s.1.1 < 8) {m : Nm} : CHo h (vadd s.1 m, s.2) (ax_up (ax_up M (h + 1) s.1.1 (ncm m : Int)) h 0 ((s.1.1 : Int) + 1)) := by
  obtain ⟨M', hM⟩ : ∃ M', M' = ax_up (ax_up M (h + 1) s.1.1 (ncm m : Int)) h 0 ((s.1.1 : Int) + 1) := ⟨_, rfl⟩
  rw [← hM]
  have e : ∀ i k, 2 ≤ i → M' (h + i) k = M (h + i) k := fun i k hi => by rw [hM, ax_up2n (by omega), ax_up2n (by omega)]
  have e0 : ∀ k, k ≠ 0 → M' h k = M h k := fun k hk => by rw [hM, ax_up_of hk, ax_up2n (by omega)]
  have e1 : ∀ k, M' (h + 1) k = if k = s.1.1 then (ncm m : Int) else M (h + 1) k := fun k => by
    rw [hM, ax_up2n (by omega)]
    by_cases z : k = s.1.1
    · rw [if_pos z, z, ax_up_at]
    · rw [if_neg z, ax_up_of z]
  obtain ⟨⟨⟨⟨a1, b1⟩, ⟨a2, b2⟩, ⟨a3, b3⟩, a4, b4⟩, n1', n2', n3'⟩, t, p7, c8, ⟨q1, q2⟩, h17, h18, h19⟩ := hC
  refine ⟨⟨⟨⟨by rw [hM, ax_up_at]; rfl, hlt⟩, ⟨(e0 1 (by decide)).trans a2, b2⟩, ⟨(e0 2 (by decide)).trans a3, b3⟩, (e0 3 (by decide)).trans a4, b4⟩, ?_, fun k hk => (e 2 k (by decide)).trans (n2' k hk), fun k hk => (e 3 k (by decide)).trans (n3' k hk)⟩, fun k hk => ⟨(e 4 k (by decide)).trans (t k hk).1, (e 5 k (by decide)).trans (t k hk).2.1, (e 6 k (by decide)).trans (t k hk).2.2⟩, fun k hk => (e 7 k (by decide)).trans (p7 k hk), fun k hk => ⟨(e 8 k (by decide)).trans (c8 k hk).1, (e 9 k (by decide)).trans (c8 k hk).2.1, (e 10 k (by decide)).trans (c8 k hk).2.2.1, (e 11 k (by decide)).trans (c8 k hk).2.2.2⟩, ⟨⟨(e 12 1 (by decide)).trans q1.1, fun i hi => (e 13 i (by decide)).trans (q1.2 i hi)⟩, (e 15 1 (by decide)).trans q2.1, fun i hi => (e 16 i (by decide)).trans (q2.2 i hi)⟩, (e0 17 (by decide)).trans h17, (e0 18 (by decide)).trans h18, (e0 19 (by decide)).trans h19⟩
  refine vadd_all (P := fun k x => M' (h + 1) k = (ncm x : Int)) (fun k hk => ?_) ?_
  · rw [e1, if_neg (by omega)]; exact n1' k hk
  · rw [e1, if_pos rfl]
theorem CHo.sect (hC : CHo h s M) (hlt : s.2.2.1.1 < 5) {m : Nm} {x : Int} : CHo h (s.1, s.2.1, vadd s.2.2.1 (m, x), s.2.2.2) (ax_up (ax_up (ax_up M (h + 2) s.2.2.1.1 (ncm m : Int)) (h + 7) s.2.2.1.1 x) h 2 ((s.2.2.1.1 : Int) + 1)) := by
  obtain ⟨M', hM⟩ : ∃ M', M' = ax_up (ax_up (ax_up M (h + 2) s.2.2.1.1 (ncm m : Int)) (h + 7) s.2.2.1.1 x) h 2 ((s.2.2.1.1 : Int) + 1) := ⟨_, rfl⟩
  rw [← hM]
  have e : ∀ i k, i ≠ 0 → i ≠ 2 → i ≠ 7 → M' (h + i) k = M (h + i) k := fun i k h1 h2 h3 => by rw [hM, ax_up2n (by omega), ax_up2n (by omega), ax_up2n (by omega)]
  have e0 : ∀ k, k ≠ 2 → M' h k = M h k := fun k hk => by rw [hM, ax_up_of hk, ax_up2n (by omega), ax_up2n (by omega)]
  have e1 : ∀ k, M' (h + 2) k = if k = s.2.2.1.1 then (ncm m : Int) else M (h + 2) k := fun k => by
    rw [hM, ax_up2n (by omega), ax_up2n (by omega)]
    by_cases z : k = s.2.2.1.1
    · rw [if_pos z, z, ax_up_at]
    · rw [if_neg z, ax_up_of z]
  have e7 : ∀ k, M' (h + 7) k = if k = s.2.2.1.1 then x else M (h + 7) k := fun k => by
    rw [hM, ax_up2n (by omega)]
    by_cases z : k = s.2.2.1.1
    · rw [if_pos z, z, ax_up_at]
    · rw [if_neg z, ax_up_of z, ax_up2n (by omega)]
  obtain ⟨⟨⟨⟨a1, b1⟩, ⟨a2, b2⟩, ⟨a3, b3⟩, a4, b4⟩, n1', n2', n3'⟩, t, p7, c8, ⟨q1, q2⟩, h17, h18, h19⟩ := hC
  refine ⟨⟨⟨⟨(e0 0 (by decide)).trans a1, b1⟩, ⟨(e0 1 (by decide)).trans a2, b2⟩, ⟨by rw [hM, ax_up_at]; rfl, hlt⟩, (e0 3 (by decide)).trans a4, b4⟩, fun k hk => (e 1 k (by decide) (by decide) (by decide)).trans (n1' k hk), ?_, fun k hk => (e 3 k (by decide) (by decide) (by decide)).trans (n3' k hk)⟩, fun k hk => ⟨(e 4 k (by decide) (by decide) (by decide)).trans (t k hk).1, (e 5 k (by decide) (by decide) (by decide)).trans (t k hk).2.1, (e 6 k (by decide) (by decide) (by decide)).trans (t k hk).2.2⟩, ?_, fun k hk => ⟨(e 8 k (by decide) (by decide) (by decide)).trans (c8 k hk).1, (e 9 k (by decide) (by decide) (by decide)).trans (c8 k hk).2.1, (e 10 k (by decide) (by decide) (by decide)).trans (c8 k hk).2.2.1, (e 11 k (by decide) (by decide) (by decide)).trans (c8 k hk).2.2.2⟩, ⟨⟨(e 12 1 (by decide) (by decide) (by decide)).trans q1.1, fun i hi => (e 13 i (by decide) (by decide) (by decide)).trans (q1.2 i hi)⟩, (e 15 1 (by decide) (by decide) (by decide)).trans q2.1, fun i hi => (e 16 i (by decide) (by decide) (by decide)).trans (q2.2 i hi)⟩, (e0 17 (by decide)).trans h17, (e0 18 (by decide)).trans h18, (e0 19 (by decide)).trans h19⟩
  · refine vadd_all (P := fun k (y : Nm × Int) => M' (h + 2) k = (ncm y.1 : Int)) (fun k hk => ?_) ?_
    · rw [e1, if_neg (by omega)]; exact n2' k hk
    · rw [e1, if_pos rfl]
  · refine vadd_all (P := fun k (y : Nm × Int) => M' (h + 7) k = y.2) (fun k hk => ?_) ?_
    · rw [e7, if_neg (by omega)]; exact p7 k hk
    · rw [e7, if_pos rfl]
theorem CHo.stair (hC : CHo h s M) (hlt : s.2.1.1 < 10) {a b : Nat} {x : Int} : CHo h (s.1, vadd s.2.1 (a, b, x), s.2.2) (ax_up (ax_up (ax_up (ax_up M (h + 4) s.2.1.1 (a : Int)) (h + 5) s.2.1.1 (b : Int)) (h + 6) s.2.1.1 x) h 1 ((s.2.1.1 : Int) + 1)) := by
  obtain ⟨M', hM⟩ : ∃ M', M' = ax_up (ax_up (ax_up (ax_up M (h + 4) s.2.1.1 (a : Int)) (h + 5) s.2.1.1 (b : Int)) (h + 6) s.2.1.1 x) h 1 ((s.2.1.1 : Int) + 1) := ⟨_, rfl⟩
  rw [← hM]
  have e : ∀ i k, i ≠ 0 → i ≠ 4 → i ≠ 5 → i ≠ 6 → M' (h + i) k = M (h + i) k := fun i k h1 h2 h3 h4 => by rw [hM, ax_up2n (by omega), ax_up2n (by omega), ax_up2n (by omega), ax_up2n (by omega)]
  have e0 : ∀ k, k ≠ 1 → M' h k = M h k := fun k hk => by rw [hM, ax_up_of hk, ax_up2n (by omega), ax_up2n (by omega), ax_up2n (by omega)]
  have e4 : ∀ k, M' (h + 4) k = if k = s.2.1.1 then (a : Int) else M (h + 4) k := fun k => by
    rw [hM, ax_up2n (by omega), ax_up2n (by omega), ax_up2n (by omega)]
    by_cases z : k = s.2.1.1
    · rw [if_pos z, z, ax_up_at]
    · rw [if_neg z, ax_up_of z]
  have e5 : ∀ k, M' (h + 5) k = if k = s.2.1.1 then (b : Int) else M (h + 5) k := fun k => by
    rw [hM, ax_up2n (by omega), ax_up2n (by omega)]
    by_cases z : k = s.2.1.1
    · rw [if_pos z, z, ax_up_at]
    · rw [if_neg z, ax_up_of z, ax_up2n (by omega)]
  have e6 : ∀ k, M' (h + 6) k = if k = s.2.1.1 then x else M (h + 6) k := fun k => by
    rw [hM, ax_up2n (by omega)]
    by_cases z : k = s.2.1.1
    · rw [if_pos z, z, ax_up_at]
    · rw [if_neg z, ax_up_of z, ax_up2n (by omega), ax_up2n (by omega)]
  obtain ⟨⟨⟨⟨a1, b1⟩, ⟨a2, b2⟩, ⟨a3, b3⟩, a4, b4⟩, n1', n2', n3'⟩, t, p7, c8, ⟨q1, q2⟩, h17, h18, h19⟩ := hC
  refine ⟨⟨⟨⟨(e0 0 (by decide)).trans a1, b1⟩, ⟨by rw [hM, ax_up_at]; rfl, hlt⟩, ⟨(e0 2 (by decide)).trans a3, b3⟩, (e0 3 (by decide)).trans a4, b4⟩, fun k hk => (e 1 k (by decide) (by decide) (by decide) (by decide)).trans (n1' k hk), fun k hk => (e 2 k (by decide) (by decide) (by decide) (by decide)).trans (n2' k hk), fun k hk => (e 3 k (by decide) (by decide) (by decide) (by decide)).trans (n3' k hk)⟩, ?_, fun k hk => (e 7 k (by decide) (by decide) (by decide) (by decide)).trans (p7 k hk), fun k hk => ⟨(e 8 k (by decide) (by decide) (by decide) (by decide)).trans (c8 k hk).1, (e 9 k (by decide) (by decide) (by decide) (by decide)).trans (c8 k hk).2.1, (e 10 k (by decide) (by decide) (by decide) (by decide)).trans (c8 k hk).2.2.1, (e 11 k (by decide) (by decide) (by decide) (by decide)).trans (c8 k hk).2.2.2⟩, ⟨⟨(e 12 1 (by decide) (by decide) (by decide) (by decide)).trans q1.1, fun i hi => (e 13 i (by decide) (by decide) (by decide) (by decide)).trans (q1.2 i hi)⟩, (e 15 1 (by decide) (by decide) (by decide) (by decide)).trans q2.1, fun i hi => (e 16 i (by decide) (by decide) (by decide) (by decide)).trans (q2.2 i hi)⟩, (e0 17 (by decide)).trans h17, (e0 18 (by decide)).trans h18, (e0 19 (by decide)).trans h19⟩
  refine vadd_all (P := fun k (y : Nat × Nat × Int) => M' (h + 4) k = (y.1 : Int) ∧ M' (h + 5) k = (y.2.1 : Int) ∧ M' (h + 6) k = y.2.2) (fun k hk => ?_) ?_
  · rw [e4, e5, e6, if_neg (by omega), if_neg (by omega), if_neg (by omega)]; exact t k hk
  · rw [e4, e5, e6, if_pos rfl, if_pos rfl, if_pos rfl]; exact ⟨rfl, rfl, rfl⟩
theorem CHo.clerk (hC : CHo h s M) (hlt : s.2.2.2.1.1 < 8) {m : Nm} {a b : Nat} {x y : Int} (e0 : ∀ k, k ≠ 3 → M' h k = M h k) (e03 : M' h 3 = (s.2.2.2.1.1 : Int) + 1) (e : ∀ i k, 0 < i → i < 18 → i ≠ 14 → i ≠ 17 → i ≠ 3 → i ≠ 8 → i ≠ 9 → i ≠ 10 → i ≠ 11 → M' (h + i) k = M (h + i) k) (e3 : ∀ k, M' (h + 3) k = if k = s.2.2.2.1.1 then (ncm m : Int) else M (h + 3) k) (e8 : ∀ k, M' (h + 8) k = if k = s.2.2.2.1.1 then (a : Int) else M (h + 8) k) (e9 : ∀ k, M' (h + 9) k = if k = s.2.2.2.1.1 then (b : Int) else M (h + 9) k) (e10 : ∀ k, M' (h + 10) k = if k = s.2.2.2.1.1 then x else M (h + 10) k) (e11 : ∀ k, M' (h + 11) k = if k = s.2.2.2.1.1 then y else M (h + 11) k) : CHo h (s.1, s.2.1, s.2.2.1, vadd s.2.2.2.1 (m, a, b, x, y), s.2.2.2.2) M' := by
  have e' : ∀ i k, 0 < i ∧ i < 18 ∧ i ≠ 14 ∧ i ≠ 17 ∧ i ≠ 3 ∧ i ≠ 8 ∧ i ≠ 9 ∧ i ≠ 10 ∧ i ≠ 11 → M' (h + i) k = M (h + i) k := fun i k z => e i k z.1 z.2.1 z.2.2.1 z.2.2.2.1 z.2.2.2.2.1 z.2.2.2.2.2.1 z.2.2.2.2.2.2.1 z.2.2.2.2.2.2.2.1 z.2.2.2.2.2.2.2.2
  obtain ⟨⟨⟨⟨a1, b1⟩, ⟨a2, b2⟩, ⟨a3, b3⟩, a4, b4⟩, n1', n2', n3'⟩, t, p7, c8, ⟨q1, q2⟩, h17, h18, h19⟩ := hC
  refine ⟨⟨⟨⟨(e0 0 (by decide)).trans a1, b1⟩, ⟨(e0 1 (by decide)).trans a2, b2⟩, ⟨(e0 2 (by decide)).trans a3, b3⟩, e03, hlt⟩, fun k hk => (e' 1 k (by decide)).trans (n1' k hk), fun k hk => (e' 2 k (by decide)).trans (n2' k hk), ?_⟩, fun k hk => ⟨(e' 4 k (by decide)).trans (t k hk).1, (e' 5 k (by decide)).trans (t k hk).2.1, (e' 6 k (by decide)).trans (t k hk).2.2⟩, fun k hk => (e' 7 k (by decide)).trans (p7 k hk), ?_, ⟨⟨(e' 12 1 (by decide)).trans q1.1, fun i hi => (e' 13 i (by decide)).trans (q1.2 i hi)⟩, (e' 15 1 (by decide)).trans q2.1, fun i hi => (e' 16 i (by decide)).trans (q2.2 i hi)⟩, (e0 17 (by decide)).trans h17, (e0 18 (by decide)).trans h18, (e0 19 (by decide)).trans h19⟩
  · refine vadd_all (P := fun k (z : Nm × Nat × Nat × Int × Int) => M' (h + 3) k = (ncm z.1 : Int)) (fun k hk => ?_) ?_
    · rw [e3, if_neg (by omega)]; exact n3' k hk
    · rw [e3, if_pos rfl]
  · refine vadd_all (P := fun k (z : Nm × Nat × Nat × Int × Int) => M' (h + 8) k = (z.2.1 : Int) ∧ M' (h + 9) k = (z.2.2.1 : Int) ∧ M' (h + 10) k = z.2.2.2.1 ∧ M' (h + 11) k = z.2.2.2.2) (fun k hk => ?_) ?_
    · rw [e8, e9, e10, e11, if_neg (by omega), if_neg (by omega), if_neg (by omega), if_neg (by omega)]; exact c8 k hk
    · rw [e8, e9, e10, e11, if_pos rfl, if_pos rfl, if_pos rfl, if_pos rfl]; exact ⟨rfl, rfl, rfl, rfl⟩
theorem CHo.pr (hC : CHo h s M) (e : ∀ i k, i < 12 → M' (h + i) k = M (h + i) k) {t d : Option (List Int)} (p12 : PC M' (h + 12) 0 (t.getD [])) (p15 : PC M' (h + 15) 1 (d.getD [46])) : CHo h (s.1, s.2.1, s.2.2.1, s.2.2.2.1, t, d, s.2.2.2.2.2.2) M' := by
  have e0 : ∀ k, M' h k = M h k := fun k => e 0 k (by decide)
  obtain ⟨⟨⟨⟨a1, b1⟩, ⟨a2, b2⟩, ⟨a3, b3⟩, a4, b4⟩, n1', n2', n3'⟩, t, p7, c8, -, h17, h18, h19⟩ := hC
  exact ⟨⟨⟨⟨(e0 0).trans a1, b1⟩, ⟨(e0 1).trans a2, b2⟩, ⟨(e0 2).trans a3, b3⟩, (e0 3).trans a4, b4⟩, fun k hk => (e 1 k (by decide)).trans (n1' k hk), fun k hk => (e 2 k (by decide)).trans (n2' k hk), fun k hk => (e 3 k (by decide)).trans (n3' k hk)⟩, fun k hk => ⟨(e 4 k (by decide)).trans (t k hk).1, (e 5 k (by decide)).trans (t k hk).2.1, (e 6 k (by decide)).trans (t k hk).2.2⟩, fun k hk => (e 7 k (by decide)).trans (p7 k hk), fun k hk => ⟨(e 8 k (by decide)).trans (c8 k hk).1, (e 9 k (by decide)).trans (c8 k hk).2.1, (e 10 k (by decide)).trans (c8 k hk).2.2.1, (e 11 k (by decide)).trans (c8 k hk).2.2.2⟩, ⟨p12, p15⟩, (e0 17).trans h17, (e0 18).trans h18, (e0 19).trans h19⟩
theorem CHo.st (hC : CHo h s M) {i : Nat} (hi : i = 17 ∨ i = 18 ∨ i = 19) {v a b c' : Int} (h1 : a = if i = 17 then v else s.2.2.2.2.2.2.1) (h2 : b = if i = 18 then v else s.2.2.2.2.2.2.2.1) (h3 : c' = if i = 19 then v else s.2.2.2.2.2.2.2.2) : CHo h (s.1, s.2.1, s.2.2.1, s.2.2.2.1, s.2.2.2.2.1, s.2.2.2.2.2.1, a, b, c') (ax_up M h i v) := by
  have e : ∀ j k, 0 < j → ax_up M h i v (h + j) k = M (h + j) k := fun j k hj => ax_up2n (by omega)
  have e0 : ∀ k, k ≠ i → ax_up M h i v h k = M h k := fun k hk => ax_up_of hk
  have ei : ∀ k, ax_up M h i v h k = if i = k then v else M h k := fun k => by
    by_cases z : i = k
    · rw [if_pos z, z, ax_up_at]
    · rw [if_neg z, ax_up_of (fun y => z y.symm)]
  obtain ⟨⟨⟨⟨a1, b1⟩, ⟨a2, b2⟩, ⟨a3, b3⟩, a4, b4⟩, n1', n2', n3'⟩, t, p7, c8, ⟨q1, q2⟩, h17, h18, h19⟩ := hC
  refine ⟨⟨⟨⟨(e0 0 (by omega)).trans a1, b1⟩, ⟨(e0 1 (by omega)).trans a2, b2⟩, ⟨(e0 2 (by omega)).trans a3, b3⟩, (e0 3 (by omega)).trans a4, b4⟩, fun k hk => (e 1 k (by decide)).trans (n1' k hk), fun k hk => (e 2 k (by decide)).trans (n2' k hk), fun k hk => (e 3 k (by decide)).trans (n3' k hk)⟩, fun k hk => ⟨(e 4 k (by decide)).trans (t k hk).1, (e 5 k (by decide)).trans (t k hk).2.1, (e 6 k (by decide)).trans (t k hk).2.2⟩, fun k hk => (e 7 k (by decide)).trans (p7 k hk), fun k hk => ⟨(e 8 k (by decide)).trans (c8 k hk).1, (e 9 k (by decide)).trans (c8 k hk).2.1, (e 10 k (by decide)).trans (c8 k hk).2.2.1, (e 11 k (by decide)).trans (c8 k hk).2.2.2⟩, ⟨⟨(e 12 1 (by decide)).trans q1.1, fun i hi => (e 13 i (by decide)).trans (q1.2 i hi)⟩, (e 15 1 (by decide)).trans q2.1, fun i hi => (e 16 i (by decide)).trans (q2.2 i hi)⟩, ?_, ?_, ?_⟩
  · rw [ei, h17]; exact h1.symm
  · rw [ei, h18]; exact h2.symm
  · rw [ei, h19]; exact h3.symm
theorem wfo_c {a : Nat} (u : wb WFO a k = true) : (a = 1 ∧ (k = 2 ∨ k = 3 ∨ k = 4 ∨ k = 6 ∨ k = 8 ∨ k = 9)) ∨ ∃ p', isP p' ∧ (a = p' + 1 ∨ (a = p' ∧ k = 1)) := by
  unfold wb WFO at u
  simp only [List.any_cons, List.any_nil, Bool.or_false, Bool.or_eq_true, Bool.and_eq_true] at u
  rcases u with (u | u | u | u | u) | (u | u | u | u | u | u | u | u | u | u | u)
  · exact Or.inr ⟨3, by simp [isP], Or.inl (by have := Nat.le_of_ble_eq_true u.1; have := Nat.le_of_ble_eq_true u.2; omega)⟩
  · exact Or.inr ⟨21, by simp [isP], Or.inl (by have := Nat.le_of_ble_eq_true u.1; have := Nat.le_of_ble_eq_true u.2; omega)⟩
  · exact Or.inr ⟨24, by simp [isP], Or.inl (by have := Nat.le_of_ble_eq_true u.1; have := Nat.le_of_ble_eq_true u.2; omega)⟩
  · exact Or.inr ⟨39, by simp [isP], Or.inl (by have := Nat.le_of_ble_eq_true u.1; have := Nat.le_of_ble_eq_true u.2; omega)⟩
  · exact Or.inr ⟨42, by simp [isP], Or.inl (by have := Nat.le_of_ble_eq_true u.1; have := Nat.le_of_ble_eq_true u.2; omega)⟩
  all_goals have ua := Nat.eq_of_beq_eq_true u.1
  all_goals have ub := Nat.eq_of_beq_eq_true u.2
  · exact Or.inl ⟨by omega, by omega⟩
  · exact Or.inl ⟨by omega, by omega⟩
  · exact Or.inl ⟨by omega, by omega⟩
  · exact Or.inl ⟨by omega, by omega⟩
  · exact Or.inl ⟨by omega, by omega⟩
  · exact Or.inl ⟨by omega, by omega⟩
  · exact Or.inr ⟨3, by simp [isP], Or.inr ⟨by omega, by omega⟩⟩
  · exact Or.inr ⟨21, by simp [isP], Or.inr ⟨by omega, by omega⟩⟩
  · exact Or.inr ⟨24, by simp [isP], Or.inr ⟨by omega, by omega⟩⟩
  · exact Or.inr ⟨39, by simp [isP], Or.inr ⟨by omega, by omega⟩⟩
  · exact Or.inr ⟨42, by simp [isP], Or.inr ⟨by omega, by omega⟩⟩
theorem OPr.sb {p : Nat} (hS : Sb WFO M M') (ho : OPr p M M') (h1 : ∀ k, (k = 2 ∨ k = 3 ∨ k = 4 ∨ k = 6 ∨ k = 8 ∨ k = 9) → wb W 1 k = true) (h2 : ∀ k, wb W (p + 1) k = true) (h3 : wb W p 1 = true) : Sb W M M' := by
  intro a k hk
  cases u : wb WFO a k with
  | false => exact hS a k u
  | true =>
    rcases wfo_c u with ⟨rfl, z⟩ | ⟨p', hp', rfl | ⟨rfl, rfl⟩⟩
    · rw [h1 k z] at hk; cases hk
    · by_cases z : p' = p
      · subst z; rw [h2] at hk; cases hk
      · exact (ho p' hp' z).2 k
    · by_cases z : a = p
      · subst z; rw [h3] at hk; cases hk
      · exact (ho a hp' z).1
theorem sbp12 (hh : h = 9 ∨ h = 27) (hS : Sb WFO M M') (ho : OPr (h + 12) M M') : Sb (WHo h) M M' := by
  refine OPr.sb hS ho (fun k z => ?_) (fun k => ?_) ?_
  · rcases hh with rfl | rfl <;> rcases z with rfl | rfl | rfl | rfl | rfl | rfl <;> rfl
  · rcases hh with rfl | rfl <;> rfl
  · rcases hh with rfl | rfl <;> rfl
theorem sbp15 (hh : h = 9 ∨ h = 27) (hS : Sb WFO M M') (ho : OPr (h + 15) M M') : Sb (WHo h) M M' := by
  refine OPr.sb hS ho (fun k z => ?_) (fun k => ?_) ?_
  · rcases hh with rfl | rfl <;> rcases z with rfl | rfl | rfl | rfl | rfl | rfl <;> rfl
  · rcases hh with rfl | rfl <;> rfl
  · rcases hh with rfl | rfl <;> rfl
theorem wfoh (hh : h = 9 ∨ h = 27) {i : Nat} (hi : i < 12) : wb WFO (h + i) k = false := by
  rcases hh with rfl | rfl
  · exact wbo 9 21 rfl (by omega) (by omega)
  · exact wbo 27 39 rfl (by omega) (by omega)
theorem g21m {S : List ax_H} {d j i : Nat} {ll st : List ax_V} {P : List ax_V → ax_M → Prop} {C : List ax_O} {g : Nat} {w : Int} (hC : ∀ i, ax_at j i = C[i]?) (h : C[i]? = some (21, 0, g, w)) (hk : k < 9) (kk : ax_G L X S d j (i + 1) ll ((0, ax_mo.getD k 0) :: st) M P) : ax_G L X S d j i ll ((0, (k : Int)) :: (2, -3) :: st) M P := by
  refine ax_gs ((hC i).trans h) (fun q => (by cases q)) (fun q => (by cases q)) ?_ kk
  have e : ax_ald L X S M 0 (-3) (k : Int) = some (0, ax_mo.getD k 0) := by
    unfold ax_ald
    rw [if_neg (by decide), if_neg (by decide), if_pos rfl, if_pos ⟨rfl, by omega, by omega⟩, Int.toNat_natCast]
  show (match ax_ald L X S M 0 (-3) (k : Int) with | some v => some (i + 1, ll, v :: st, S, M) | none => none) = _
  rw [e]
theorem m34 (hF : Fix M) (hh : h = 9 ∨ h = 27) : ax_Ev L X SH 1 34 [(2, (h : Int))] M (R0 (fun M' => Sb (WHo h) M M' ∧ CHo h hs0 M' ∧ (∀ k, M' 1 k = M 1 k) ∧ (∀ k, M' 2 k = M 2 k))) := by
  show ax_G L X SH 1 34 0 [(2, (h : Int))] [] M _
  have hC := at34
  have hw := wHo hh
  have hS : Sb (WHo h) M M := Sb.refl
  have u0 : wb (WHo h) h 0 = true := by rcases hh with rfl | rfl <;> rfl
  have u1 : wb (WHo h) h 1 = true := by rcases hh with rfl | rfl <;> rfl
  have u2 : wb (WHo h) h 2 = true := by rcases hh with rfl | rfl <;> rfl
  have u3 : wb (WHo h) h 3 = true := by rcases hh with rfl | rfl <;> rfl
  have u12 : wb (WHo h) (h + 12) 1 = true := by rcases hh with rfl | rfl <;> rfl
  have u15 : wb (WHo h) (h + 15) 1 = true := by rcases hh with rfl | rfl <;> rfl
  have u17 : wb (WHo h) h 17 = true := by rcases hh with rfl | rfl <;> rfl
  have u18 : wb (WHo h) h 18 = true := by rcases hh with rfl | rfl <;> rfl
  have u19 : wb (WHo h) h 19 = true := by rcases hh with rfl | rfl <;> rfl
  obtain ⟨Ma, hMa⟩ : ∃ Ma, Ma = ax_up (ax_up (ax_up (ax_up (ax_up (ax_up M h 0 0) h 1 0) h 2 0) h 3 0) (h + 12) 1 0) (h + 15) 1 0 := ⟨_, rfl⟩
  have hSa : Sb (WHo h) M Ma := by rw [hMa]; exact (((((hS.up u0).up u1).up u2).up u3).up u12).up u15
  have hFa := hSa.fix hw hF
  have pc0 : PC Ma (h + 15) 1 [] := ⟨by rw [hMa, ax_up_at]; rfl, fun i hi => absurd hi (Nat.not_lt_zero i)⟩
  have c59 := m59 (L := L) (X := X) hFa (isP15 hh) pc0 (by decide) (v := 46) (x := -104) (by decide)
  refine g3 hC rfl rfl ?_
  refine g0 hC rfl ?_
  refine g20 hC rfl (shH hh) (Nat.le_of_ble_eq_true rfl) rfl ?_
  refine g3 hC rfl rfl ?_
  refine g0 hC rfl ?_
  refine g20 hC rfl (shH hh) (Nat.le_of_ble_eq_true rfl) rfl ?_
  refine g3 hC rfl rfl ?_
  refine g0 hC rfl ?_
  refine g20 hC rfl (shH hh) (Nat.le_of_ble_eq_true rfl) rfl ?_
  refine g3 hC rfl rfl ?_
  refine g0 hC rfl ?_
  refine g20 hC rfl (shH hh) (Nat.le_of_ble_eq_true rfl) rfl ?_
  refine g3 hC rfl rfl ?_
  refine g19 hC rfl (shH hh) (Nat.le_of_ble_eq_true rfl) rfl (((((hS.up u0).up u1).up u2).up u3).fix hw hF |>.h (v := 12) hh rfl rfl) ?_
  refine g0 hC rfl ?_
  refine g20 hC rfl (shPg (isP12 hh)) (Nat.le_of_ble_eq_true rfl) rfl ?_
  refine g3 hC rfl rfl ?_
  refine g19 hC rfl (shH hh) (Nat.le_of_ble_eq_true rfl) rfl ((((((hS.up u0).up u1).up u2).up u3).up u12).fix hw hF |>.h (v := 15) hh rfl rfl) ?_
  refine g0 hC rfl ?_
  refine g20 hC rfl (shPg (isP15 hh)) (Nat.le_of_ble_eq_true rfl) rfl ?_
  refine g3 hC rfl rfl ?_
  rw [← hMa]; refine g19 hC rfl (shH hh) (Nat.le_of_ble_eq_true rfl) rfl (hFa.h (v := 15) hh rfl rfl) ?_
  refine g0 hC rfl ?_
  refine c0 hC rfl rfl rfl (Nat.le_of_ble_eq_true rfl) (Nat.le_of_ble_eq_true rfl) (mayP (isP15 hh) rfl rfl rfl rfl rfl) c59 (Nat.le_of_ble_eq_true rfl) (fun Mb hr => ?_)
  obtain ⟨b1, b2, b3, b4, b5⟩ := hr
  have hSb : Sb (WHo h) M Mb := hSa.trans (sbp15 hh b1 b2)
  have f0 : ∀ k, Mb h k = Ma h k := fun k => b1 _ _ (wfoh (i := 0) hh (by decide))
  have a0 : Ma h 0 = 0 := by rw [hMa, ax_up2n (by omega), ax_up2n (by omega), ax_up_of (by decide), ax_up_of (by decide), ax_up_of (by decide), ax_up_at]
  have a1 : Ma h 1 = 0 := by rw [hMa, ax_up2n (by omega), ax_up2n (by omega), ax_up_of (by decide), ax_up_of (by decide), ax_up_at]
  have a2 : Ma h 2 = 0 := by rw [hMa, ax_up2n (by omega), ax_up2n (by omega), ax_up_of (by decide), ax_up_at]
  have a3 : Ma h 3 = 0 := by rw [hMa, ax_up2n (by omega), ax_up2n (by omega), ax_up_at]
  have a12 : Ma (h + 12) 1 = 0 := by rw [hMa, ax_up2n (by omega), ax_up_at]
  have b12 : Mb (h + 12) 1 = 0 := ((b2 (h + 12) (isP12 hh) (by omega)).1).trans a12
  refine g3 hC rfl rfl ?_
  refine g0 hC rfl ?_
  refine g20 hC rfl (shH hh) (Nat.le_of_ble_eq_true rfl) rfl ?_
  refine g3 hC rfl rfl ?_
  refine g0 hC rfl ?_
  refine g20 hC rfl (shH hh) (Nat.le_of_ble_eq_true rfl) rfl ?_
  refine g3 hC rfl rfl ?_
  refine g0 hC rfl ?_
  refine g20 hC rfl (shH hh) (Nat.le_of_ble_eq_true rfl) rfl ?_
  refine ret0 hC rfl ⟨((hSb.up u17).up u18).up u19, ?_, fun k => ?_, fun k => ?_⟩
  · obtain ⟨Mc, hMc⟩ : ∃ Mc, Mc = ax_up (ax_up (ax_up Mb h 17 3) h 18 2) h 19 0 := ⟨_, rfl⟩
    rw [← hMc]
    have ci : ∀ i k, 0 < i → Mc (h + i) k = Mb (h + i) k := fun i k hi => by rw [hMc, ax_up2n (by omega), ax_up2n (by omega), ax_up2n (by omega)]
    have c0' : ∀ k, k < 17 → Mc h k = Mb h k := fun k hk => by rw [hMc, ax_up_of (by omega), ax_up_of (by omega), ax_up_of (by omega)]
    refine ⟨⟨⟨⟨(c0' 0 (by decide)).trans ((f0 0).trans a0), by decide⟩, ⟨(c0' 1 (by decide)).trans ((f0 1).trans a1), by decide⟩, ⟨(c0' 2 (by decide)).trans ((f0 2).trans a2), by decide⟩, (c0' 3 (by decide)).trans ((f0 3).trans a3), by decide⟩, fun k hk => absurd hk (Nat.not_lt_zero k), fun k hk => absurd hk (Nat.not_lt_zero k), fun k hk => absurd hk (Nat.not_lt_zero k)⟩, fun k hk => absurd hk (Nat.not_lt_zero k), fun k hk => absurd hk (Nat.not_lt_zero k), fun k hk => absurd hk (Nat.not_lt_zero k), ⟨⟨(ci 12 1 (by decide)).trans b12, fun i hi => absurd hi (Nat.not_lt_zero i)⟩, (ci 15 1 (by decide)).trans b3.1, fun i hi => (ci 16 i (by decide)).trans (b3.2 i hi)⟩, ?_, ?_, ?_⟩
    · rw [hMc, ax_up_of (by decide), ax_up_of (by decide), ax_up_at]; rfl
    · rw [hMc, ax_up_of (by decide), ax_up_at]; rfl
    · rw [hMc, ax_up_at]; rfl
  · rw [ax_up2n (by omega), ax_up2n (by omega), ax_up2n (by omega), b4, hMa, ax_up2n (by omega), ax_up2n (by omega), ax_up2n (by omega), ax_up2n (by omega), ax_up2n (by omega), ax_up2n (by omega)]
  · rw [ax_up2n (by omega), ax_up2n (by omega), ax_up2n (by omega), b5, hMa, ax_up2n (by omega), ax_up2n (by omega), ax_up2n (by omega), ax_up2n (by omega), ax_up2n (by omega), ax_up2n (by omega)]
end CHO
