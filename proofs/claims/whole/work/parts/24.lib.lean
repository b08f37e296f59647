section AXL
variable {L : Nat} {X : Nat → Int} {S : List ax_H} {d j i : Nat} {ll st : List ax_V} {M : ax_M} {P : List ax_V → ax_M → Prop} {C : List ax_O}
theorem s0 {r : List ax_V} {u : ax_V} {t : Nat} {w x : Int} (hC : ∀ i, ax_at j i = C[i]?) (h : C[i]? = some (4, t, 0, w)) (ht : (t == 1) = false) (k : ax_G L X S d j (i + 1) ((t, x) :: r) st M P) : ax_G L X S d j i (u :: r) ((t, x) :: st) M P := by
  have ht1 : ¬ t = 1 := by intro e; rw [e] at ht; cases ht
  refine g4 hC h ?_ ?_ k
  · rw [if_neg ht1]; simp only [List.length_cons]; omega
  · unfold ax_set; dsimp only; rw [if_neg ht1]; rfl
theorem sl0 {r : List ax_V} {u u2 : ax_V} {w x : Int} (hC : ∀ i, ax_at j i = C[i]?) (h : C[i]? = some (4, 1, 0, w)) (k : ax_G L X S d j (i + 1) ((1, x) :: (3, 0) :: r) st M P) : ax_G L X S d j i (u :: u2 :: r) ((1, x) :: st) M P := by
  refine g4 hC h ?_ ?_ k
  · rw [if_pos rfl]; simp only [List.length_cons]; omega
  · unfold ax_set; dsimp only; rw [if_pos rfl]; rfl
theorem n0 {r : List ax_V} {b : Nat} {w x : Int} (hC : ∀ i, ax_at j i = C[i]?) (h : C[i]? = some (5, 0, b, w)) (hi : ax_i (x + w)) (k : ax_G L X S d j (i + 1) ((0, x + w) :: r) st M P) : ax_G L X S d j i ((0, x) :: r) st M P := by
  refine g5 hC h (x := x) rfl hi ?_ k
  unfold ax_set; dsimp only; rw [if_neg (by decide)]; rfl
theorem s1 {l0 : ax_V} {r : List ax_V} {u : ax_V} {t : Nat} {w x : Int} (hC : ∀ i, ax_at j i = C[i]?) (h : C[i]? = some (4, t, 1, w)) (ht : (t == 1) = false) (hp : (l0.1 == 1) = false) (k : ax_G L X S d j (i + 1) (l0 :: (t, x) :: r) st M P) : ax_G L X S d j i (l0 :: u :: r) ((t, x) :: st) M P := by
  have ht1 : ¬ t = 1 := by intro e; rw [e] at ht; cases ht
  refine g4 hC h ?_ ?_ k
  · rw [if_neg ht1]; simp only [List.length_cons]; omega
  · obtain ⟨p1, p2⟩ := l0
    have hp1 : ¬ p1 = 1 := by intro e; rw [e] at hp; cases hp
    have e : ∀ (q : Option ax_V) (y : List ax_V), q = some (p1, p2) → (match q with | some (1, _) => y.set 0 (3, 0) | _ => y) = y := by
      intro q y hq; subst hq
      split
      · rename_i e; injection e with e; injection e with e1 e2; exact absurd e1 hp1
      · rfl
    unfold ax_set; dsimp only; rw [if_neg ht1]; exact e _ _ rfl
theorem sl1 {l0 : ax_V} {r : List ax_V} {u u2 : ax_V} {w x : Int} (hC : ∀ i, ax_at j i = C[i]?) (h : C[i]? = some (4, 1, 1, w)) (hp : (l0.1 == 1) = false) (k : ax_G L X S d j (i + 1) (l0 :: (1, x) :: (3, 0) :: r) st M P) : ax_G L X S d j i (l0 :: u :: u2 :: r) ((1, x) :: st) M P := by
  refine g4 hC h ?_ ?_ k
  · rw [if_pos rfl]; simp only [List.length_cons]; omega
  · obtain ⟨p1, p2⟩ := l0
    have hp1 : ¬ p1 = 1 := by intro e; rw [e] at hp; cases hp
    have e : ∀ (q : Option ax_V) (y : List ax_V), q = some (p1, p2) → (match q with | some (1, _) => y.set 0 (3, 0) | _ => y) = y := by
      intro q y hq; subst hq
      split
      · rename_i e; injection e with e; injection e with e1 e2; exact absurd e1 hp1
      · rfl
    unfold ax_set; dsimp only; rw [if_pos rfl]; exact e _ _ rfl
theorem n1 {l0 : ax_V} {r : List ax_V} {b : Nat} {w x : Int} (hC : ∀ i, ax_at j i = C[i]?) (h : C[i]? = some (5, 1, b, w)) (hp : (l0.1 == 1) = false) (hi : ax_i (x + w)) (k : ax_G L X S d j (i + 1) (l0 :: (0, x + w) :: r) st M P) : ax_G L X S d j i (l0 :: (0, x) :: r) st M P := by
  refine g5 hC h (x := x) rfl hi ?_ k
  obtain ⟨p1, p2⟩ := l0
  have hp1 : ¬ p1 = 1 := by intro e; rw [e] at hp; cases hp
  have e : ∀ (q : Option ax_V) (y : List ax_V), q = some (p1, p2) → (match q with | some (1, _) => y.set 0 (3, 0) | _ => y) = y := by
    intro q y hq; subst hq
    split
    · rename_i e; injection e with e; injection e with e1 e2; exact absurd e1 hp1
    · rfl
  unfold ax_set; dsimp only; rw [if_neg (by decide)]; exact e _ _ rfl
theorem s2 {l0 l1 : ax_V} {r : List ax_V} {u : ax_V} {t : Nat} {w x : Int} (hC : ∀ i, ax_at j i = C[i]?) (h : C[i]? = some (4, t, 2, w)) (ht : (t == 1) = false) (hp : (l1.1 == 1) = false) (k : ax_G L X S d j (i + 1) (l0 :: l1 :: (t, x) :: r) st M P) : ax_G L X S d j i (l0 :: l1 :: u :: r) ((t, x) :: st) M P := by
  have ht1 : ¬ t = 1 := by intro e; rw [e] at ht; cases ht
  refine g4 hC h ?_ ?_ k
  · rw [if_neg ht1]; simp only [List.length_cons]; omega
  · obtain ⟨p1, p2⟩ := l1
    have hp1 : ¬ p1 = 1 := by intro e; rw [e] at hp; cases hp
    have e : ∀ (q : Option ax_V) (y : List ax_V), q = some (p1, p2) → (match q with | some (1, _) => y.set 1 (3, 0) | _ => y) = y := by
      intro q y hq; subst hq
      split
      · rename_i e; injection e with e; injection e with e1 e2; exact absurd e1 hp1
      · rfl
    unfold ax_set; dsimp only; rw [if_neg ht1]; exact e _ _ rfl
theorem sl2 {l0 l1 : ax_V} {r : List ax_V} {u u2 : ax_V} {w x : Int} (hC : ∀ i, ax_at j i = C[i]?) (h : C[i]? = some (4, 1, 2, w)) (hp : (l1.1 == 1) = false) (k : ax_G L X S d j (i + 1) (l0 :: l1 :: (1, x) :: (3, 0) :: r) st M P) : ax_G L X S d j i (l0 :: l1 :: u :: u2 :: r) ((1, x) :: st) M P := by
  refine g4 hC h ?_ ?_ k
  · rw [if_pos rfl]; simp only [List.length_cons]; omega
  · obtain ⟨p1, p2⟩ := l1
    have hp1 : ¬ p1 = 1 := by intro e; rw [e] at hp; cases hp
    have e : ∀ (q : Option ax_V) (y : List ax_V), q = some (p1, p2) → (match q with | some (1, _) => y.set 1 (3, 0) | _ => y) = y := by
      intro q y hq; subst hq
      split
      · rename_i e; injection e with e; injection e with e1 e2; exact absurd e1 hp1
      · rfl
    unfold ax_set; dsimp only; rw [if_pos rfl]; exact e _ _ rfl
theorem n2 {l0 l1 : ax_V} {r : List ax_V} {b : Nat} {w x : Int} (hC : ∀ i, ax_at j i = C[i]?) (h : C[i]? = some (5, 2, b, w)) (hp : (l1.1 == 1) = false) (hi : ax_i (x + w)) (k : ax_G L X S d j (i + 1) (l0 :: l1 :: (0, x + w) :: r) st M P) : ax_G L X S d j i (l0 :: l1 :: (0, x) :: r) st M P := by
  refine g5 hC h (x := x) rfl hi ?_ k
  obtain ⟨p1, p2⟩ := l1
  have hp1 : ¬ p1 = 1 := by intro e; rw [e] at hp; cases hp
  have e : ∀ (q : Option ax_V) (y : List ax_V), q = some (p1, p2) → (match q with | some (1, _) => y.set 1 (3, 0) | _ => y) = y := by
    intro q y hq; subst hq
    split
    · rename_i e; injection e with e; injection e with e1 e2; exact absurd e1 hp1
    · rfl
  unfold ax_set; dsimp only; rw [if_neg (by decide)]; exact e _ _ rfl
theorem s3 {l0 l1 l2 : ax_V} {r : List ax_V} {u : ax_V} {t : Nat} {w x : Int} (hC : ∀ i, ax_at j i = C[i]?) (h : C[i]? = some (4, t, 3, w)) (ht : (t == 1) = false) (hp : (l2.1 == 1) = false) (k : ax_G L X S d j (i + 1) (l0 :: l1 :: l2 :: (t, x) :: r) st M P) : ax_G L X S d j i (l0 :: l1 :: l2 :: u :: r) ((t, x) :: st) M P := by
  have ht1 : ¬ t = 1 := by intro e; rw [e] at ht; cases ht
  refine g4 hC h ?_ ?_ k
  · rw [if_neg ht1]; simp only [List.length_cons]; omega
  · obtain ⟨p1, p2⟩ := l2
    have hp1 : ¬ p1 = 1 := by intro e; rw [e] at hp; cases hp
    have e : ∀ (q : Option ax_V) (y : List ax_V), q = some (p1, p2) → (match q with | some (1, _) => y.set 2 (3, 0) | _ => y) = y := by
      intro q y hq; subst hq
      split
      · rename_i e; injection e with e; injection e with e1 e2; exact absurd e1 hp1
      · rfl
    unfold ax_set; dsimp only; rw [if_neg ht1]; exact e _ _ rfl
theorem sl3 {l0 l1 l2 : ax_V} {r : List ax_V} {u u2 : ax_V} {w x : Int} (hC : ∀ i, ax_at j i = C[i]?) (h : C[i]? = some (4, 1, 3, w)) (hp : (l2.1 == 1) = false) (k : ax_G L X S d j (i + 1) (l0 :: l1 :: l2 :: (1, x) :: (3, 0) :: r) st M P) : ax_G L X S d j i (l0 :: l1 :: l2 :: u :: u2 :: r) ((1, x) :: st) M P := by
  refine g4 hC h ?_ ?_ k
  · rw [if_pos rfl]; simp only [List.length_cons]; omega
  · obtain ⟨p1, p2⟩ := l2
    have hp1 : ¬ p1 = 1 := by intro e; rw [e] at hp; cases hp
    have e : ∀ (q : Option ax_V) (y : List ax_V), q = some (p1, p2) → (match q with | some (1, _) => y.set 2 (3, 0) | _ => y) = y := by
      intro q y hq; subst hq
      split
      · rename_i e; injection e with e; injection e with e1 e2; exact absurd e1 hp1
      · rfl
    unfold ax_set; dsimp only; rw [if_pos rfl]; exact e _ _ rfl
theorem n3 {l0 l1 l2 : ax_V} {r : List ax_V} {b : Nat} {w x : Int} (hC : ∀ i, ax_at j i = C[i]?) (h : C[i]? = some (5, 3, b, w)) (hp : (l2.1 == 1) = false) (hi : ax_i (x + w)) (k : ax_G L X S d j (i + 1) (l0 :: l1 :: l2 :: (0, x + w) :: r) st M P) : ax_G L X S d j i (l0 :: l1 :: l2 :: (0, x) :: r) st M P := by
  refine g5 hC h (x := x) rfl hi ?_ k
  obtain ⟨p1, p2⟩ := l2
  have hp1 : ¬ p1 = 1 := by intro e; rw [e] at hp; cases hp
  have e : ∀ (q : Option ax_V) (y : List ax_V), q = some (p1, p2) → (match q with | some (1, _) => y.set 2 (3, 0) | _ => y) = y := by
    intro q y hq; subst hq
    split
    · rename_i e; injection e with e; injection e with e1 e2; exact absurd e1 hp1
    · rfl
  unfold ax_set; dsimp only; rw [if_neg (by decide)]; exact e _ _ rfl
theorem s4 {l0 l1 l2 l3 : ax_V} {r : List ax_V} {u : ax_V} {t : Nat} {w x : Int} (hC : ∀ i, ax_at j i = C[i]?) (h : C[i]? = some (4, t, 4, w)) (ht : (t == 1) = false) (hp : (l3.1 == 1) = false) (k : ax_G L X S d j (i + 1) (l0 :: l1 :: l2 :: l3 :: (t, x) :: r) st M P) : ax_G L X S d j i (l0 :: l1 :: l2 :: l3 :: u :: r) ((t, x) :: st) M P := by
  have ht1 : ¬ t = 1 := by intro e; rw [e] at ht; cases ht
  refine g4 hC h ?_ ?_ k
  · rw [if_neg ht1]; simp only [List.length_cons]; omega
  · obtain ⟨p1, p2⟩ := l3
    have hp1 : ¬ p1 = 1 := by intro e; rw [e] at hp; cases hp
    have e : ∀ (q : Option ax_V) (y : List ax_V), q = some (p1, p2) → (match q with | some (1, _) => y.set 3 (3, 0) | _ => y) = y := by
      intro q y hq; subst hq
      split
      · rename_i e; injection e with e; injection e with e1 e2; exact absurd e1 hp1
      · rfl
    unfold ax_set; dsimp only; rw [if_neg ht1]; exact e _ _ rfl
theorem sl4 {l0 l1 l2 l3 : ax_V} {r : List ax_V} {u u2 : ax_V} {w x : Int} (hC : ∀ i, ax_at j i = C[i]?) (h : C[i]? = some (4, 1, 4, w)) (hp : (l3.1 == 1) = false) (k : ax_G L X S d j (i + 1) (l0 :: l1 :: l2 :: l3 :: (1, x) :: (3, 0) :: r) st M P) : ax_G L X S d j i (l0 :: l1 :: l2 :: l3 :: u :: u2 :: r) ((1, x) :: st) M P := by
  refine g4 hC h ?_ ?_ k
  · rw [if_pos rfl]; simp only [List.length_cons]; omega
  · obtain ⟨p1, p2⟩ := l3
    have hp1 : ¬ p1 = 1 := by intro e; rw [e] at hp; cases hp
    have e : ∀ (q : Option ax_V) (y : List ax_V), q = some (p1, p2) → (match q with | some (1, _) => y.set 3 (3, 0) | _ => y) = y := by
      intro q y hq; subst hq
      split
      · rename_i e; injection e with e; injection e with e1 e2; exact absurd e1 hp1
      · rfl
    unfold ax_set; dsimp only; rw [if_pos rfl]; exact e _ _ rfl
theorem n4 {l0 l1 l2 l3 : ax_V} {r : List ax_V} {b : Nat} {w x : Int} (hC : ∀ i, ax_at j i = C[i]?) (h : C[i]? = some (5, 4, b, w)) (hp : (l3.1 == 1) = false) (hi : ax_i (x + w)) (k : ax_G L X S d j (i + 1) (l0 :: l1 :: l2 :: l3 :: (0, x + w) :: r) st M P) : ax_G L X S d j i (l0 :: l1 :: l2 :: l3 :: (0, x) :: r) st M P := by
  refine g5 hC h (x := x) rfl hi ?_ k
  obtain ⟨p1, p2⟩ := l3
  have hp1 : ¬ p1 = 1 := by intro e; rw [e] at hp; cases hp
  have e : ∀ (q : Option ax_V) (y : List ax_V), q = some (p1, p2) → (match q with | some (1, _) => y.set 3 (3, 0) | _ => y) = y := by
    intro q y hq; subst hq
    split
    · rename_i e; injection e with e; injection e with e1 e2; exact absurd e1 hp1
    · rfl
  unfold ax_set; dsimp only; rw [if_neg (by decide)]; exact e _ _ rfl
theorem s5 {l0 l1 l2 l3 l4 : ax_V} {r : List ax_V} {u : ax_V} {t : Nat} {w x : Int} (hC : ∀ i, ax_at j i = C[i]?) (h : C[i]? = some (4, t, 5, w)) (ht : (t == 1) = false) (hp : (l4.1 == 1) = false) (k : ax_G L X S d j (i + 1) (l0 :: l1 :: l2 :: l3 :: l4 :: (t, x) :: r) st M P) : ax_G L X S d j i (l0 :: l1 :: l2 :: l3 :: l4 :: u :: r) ((t, x) :: st) M P := by
  have ht1 : ¬ t = 1 := by intro e; rw [e] at ht; cases ht
  refine g4 hC h ?_ ?_ k
  · rw [if_neg ht1]; simp only [List.length_cons]; omega
  · obtain ⟨p1, p2⟩ := l4
    have hp1 : ¬ p1 = 1 := by intro e; rw [e] at hp; cases hp
    have e : ∀ (q : Option ax_V) (y : List ax_V), q = some (p1, p2) → (match q with | some (1, _) => y.set 4 (3, 0) | _ => y) = y := by
      intro q y hq; subst hq
      split
      · rename_i e; injection e with e; injection e with e1 e2; exact absurd e1 hp1
      · rfl
    unfold ax_set; dsimp only; rw [if_neg ht1]; exact e _ _ rfl
theorem sl5 {l0 l1 l2 l3 l4 : ax_V} {r : List ax_V} {u u2 : ax_V} {w x : Int} (hC : ∀ i, ax_at j i = C[i]?) (h : C[i]? = some (4, 1, 5, w)) (hp : (l4.1 == 1) = false) (k : ax_G L X S d j (i + 1) (l0 :: l1 :: l2 :: l3 :: l4 :: (1, x) :: (3, 0) :: r) st M P) : ax_G L X S d j i (l0 :: l1 :: l2 :: l3 :: l4 :: u :: u2 :: r) ((1, x) :: st) M P := by
  refine g4 hC h ?_ ?_ k
  · rw [if_pos rfl]; simp only [List.length_cons]; omega
  · obtain ⟨p1, p2⟩ := l4
    have hp1 : ¬ p1 = 1 := by intro e; rw [e] at hp; cases hp
    have e : ∀ (q : Option ax_V) (y : List ax_V), q = some (p1, p2) → (match q with | some (1, _) => y.set 4 (3, 0) | _ => y) = y := by
      intro q y hq; subst hq
      split
      · rename_i e; injection e with e; injection e with e1 e2; exact absurd e1 hp1
      · rfl
    unfold ax_set; dsimp only; rw [if_pos rfl]; exact e _ _ rfl
theorem n5 {l0 l1 l2 l3 l4 : ax_V} {r : List ax_V} {b : Nat} {w x : Int} (hC : ∀ i, ax_at j i = C[i]?) (h : C[i]? = some (5, 5, b, w)) (hp : (l4.1 == 1) = false) (hi : ax_i (x + w)) (k : ax_G L X S d j (i + 1) (l0 :: l1 :: l2 :: l3 :: l4 :: (0, x + w) :: r) st M P) : ax_G L X S d j i (l0 :: l1 :: l2 :: l3 :: l4 :: (0, x) :: r) st M P := by
  refine g5 hC h (x := x) rfl hi ?_ k
  obtain ⟨p1, p2⟩ := l4
  have hp1 : ¬ p1 = 1 := by intro e; rw [e] at hp; cases hp
  have e : ∀ (q : Option ax_V) (y : List ax_V), q = some (p1, p2) → (match q with | some (1, _) => y.set 4 (3, 0) | _ => y) = y := by
    intro q y hq; subst hq
    split
    · rename_i e; injection e with e; injection e with e1 e2; exact absurd e1 hp1
    · rfl
  unfold ax_set; dsimp only; rw [if_neg (by decide)]; exact e _ _ rfl
theorem s6 {l0 l1 l2 l3 l4 l5 : ax_V} {r : List ax_V} {u : ax_V} {t : Nat} {w x : Int} (hC : ∀ i, ax_at j i = C[i]?) (h : C[i]? = some (4, t, 6, w)) (ht : (t == 1) = false) (hp : (l5.1 == 1) = false) (k : ax_G L X S d j (i + 1) (l0 :: l1 :: l2 :: l3 :: l4 :: l5 :: (t, x) :: r) st M P) : ax_G L X S d j i (l0 :: l1 :: l2 :: l3 :: l4 :: l5 :: u :: r) ((t, x) :: st) M P := by
  have ht1 : ¬ t = 1 := by intro e; rw [e] at ht; cases ht
  refine g4 hC h ?_ ?_ k
  · rw [if_neg ht1]; simp only [List.length_cons]; omega
  · obtain ⟨p1, p2⟩ := l5
    have hp1 : ¬ p1 = 1 := by intro e; rw [e] at hp; cases hp
    have e : ∀ (q : Option ax_V) (y : List ax_V), q = some (p1, p2) → (match q with | some (1, _) => y.set 5 (3, 0) | _ => y) = y := by
      intro q y hq; subst hq
      split
      · rename_i e; injection e with e; injection e with e1 e2; exact absurd e1 hp1
      · rfl
    unfold ax_set; dsimp only; rw [if_neg ht1]; exact e _ _ rfl
theorem sl6 {l0 l1 l2 l3 l4 l5 : ax_V} {r : List ax_V} {u u2 : ax_V} {w x : Int} (hC : ∀ i, ax_at j i = C[i]?) (h : C[i]? = some (4, 1, 6, w)) (hp : (l5.1 == 1) = false) (k : ax_G L X S d j (i + 1) (l0 :: l1 :: l2 :: l3 :: l4 :: l5 :: (1, x) :: (3, 0) :: r) st M P) : ax_G L X S d j i (l0 :: l1 :: l2 :: l3 :: l4 :: l5 :: u :: u2 :: r) ((1, x) :: st) M P := by
  refine g4 hC h ?_ ?_ k
  · rw [if_pos rfl]; simp only [List.length_cons]; omega
  · obtain ⟨p1, p2⟩ := l5
    have hp1 : ¬ p1 = 1 := by intro e; rw [e] at hp; cases hp
    have e : ∀ (q : Option ax_V) (y : List ax_V), q = some (p1, p2) → (match q with | some (1, _) => y.set 5 (3, 0) | _ => y) = y := by
      intro q y hq; subst hq
      split
      · rename_i e; injection e with e; injection e with e1 e2; exact absurd e1 hp1
      · rfl
    unfold ax_set; dsimp only; rw [if_pos rfl]; exact e _ _ rfl
theorem n6 {l0 l1 l2 l3 l4 l5 : ax_V} {r : List ax_V} {b : Nat} {w x : Int} (hC : ∀ i, ax_at j i = C[i]?) (h : C[i]? = some (5, 6, b, w)) (hp : (l5.1 == 1) = false) (hi : ax_i (x + w)) (k : ax_G L X S d j (i + 1) (l0 :: l1 :: l2 :: l3 :: l4 :: l5 :: (0, x + w) :: r) st M P) : ax_G L X S d j i (l0 :: l1 :: l2 :: l3 :: l4 :: l5 :: (0, x) :: r) st M P := by
  refine g5 hC h (x := x) rfl hi ?_ k
  obtain ⟨p1, p2⟩ := l5
  have hp1 : ¬ p1 = 1 := by intro e; rw [e] at hp; cases hp
  have e : ∀ (q : Option ax_V) (y : List ax_V), q = some (p1, p2) → (match q with | some (1, _) => y.set 5 (3, 0) | _ => y) = y := by
    intro q y hq; subst hq
    split
    · rename_i e; injection e with e; injection e with e1 e2; exact absurd e1 hp1
    · rfl
  unfold ax_set; dsimp only; rw [if_neg (by decide)]; exact e _ _ rfl
theorem s7 {l0 l1 l2 l3 l4 l5 l6 : ax_V} {r : List ax_V} {u : ax_V} {t : Nat} {w x : Int} (hC : ∀ i, ax_at j i = C[i]?) (h : C[i]? = some (4, t, 7, w)) (ht : (t == 1) = false) (hp : (l6.1 == 1) = false) (k : ax_G L X S d j (i + 1) (l0 :: l1 :: l2 :: l3 :: l4 :: l5 :: l6 :: (t, x) :: r) st M P) : ax_G L X S d j i (l0 :: l1 :: l2 :: l3 :: l4 :: l5 :: l6 :: u :: r) ((t, x) :: st) M P := by
  have ht1 : ¬ t = 1 := by intro e; rw [e] at ht; cases ht
  refine g4 hC h ?_ ?_ k
  · rw [if_neg ht1]; simp only [List.length_cons]; omega
  · obtain ⟨p1, p2⟩ := l6
    have hp1 : ¬ p1 = 1 := by intro e; rw [e] at hp; cases hp
    have e : ∀ (q : Option ax_V) (y : List ax_V), q = some (p1, p2) → (match q with | some (1, _) => y.set 6 (3, 0) | _ => y) = y := by
      intro q y hq; subst hq
      split
      · rename_i e; injection e with e; injection e with e1 e2; exact absurd e1 hp1
      · rfl
    unfold ax_set; dsimp only; rw [if_neg ht1]; exact e _ _ rfl
theorem sl7 {l0 l1 l2 l3 l4 l5 l6 : ax_V} {r : List ax_V} {u u2 : ax_V} {w x : Int} (hC : ∀ i, ax_at j i = C[i]?) (h : C[i]? = some (4, 1, 7, w)) (hp : (l6.1 == 1) = false) (k : ax_G L X S d j (i + 1) (l0 :: l1 :: l2 :: l3 :: l4 :: l5 :: l6 :: (1, x) :: (3, 0) :: r) st M P) : ax_G L X S d j i (l0 :: l1 :: l2 :: l3 :: l4 :: l5 :: l6 :: u :: u2 :: r) ((1, x) :: st) M P := by
  refine g4 hC h ?_ ?_ k
  · rw [if_pos rfl]; simp only [List.length_cons]; omega
  · obtain ⟨p1, p2⟩ := l6
    have hp1 : ¬ p1 = 1 := by intro e; rw [e] at hp; cases hp
    have e : ∀ (q : Option ax_V) (y : List ax_V), q = some (p1, p2) → (match q with | some (1, _) => y.set 6 (3, 0) | _ => y) = y := by
      intro q y hq; subst hq
      split
      · rename_i e; injection e with e; injection e with e1 e2; exact absurd e1 hp1
      · rfl
    unfold ax_set; dsimp only; rw [if_pos rfl]; exact e _ _ rfl
theorem n7 {l0 l1 l2 l3 l4 l5 l6 : ax_V} {r : List ax_V} {b : Nat} {w x : Int} (hC : ∀ i, ax_at j i = C[i]?) (h : C[i]? = some (5, 7, b, w)) (hp : (l6.1 == 1) = false) (hi : ax_i (x + w)) (k : ax_G L X S d j (i + 1) (l0 :: l1 :: l2 :: l3 :: l4 :: l5 :: l6 :: (0, x + w) :: r) st M P) : ax_G L X S d j i (l0 :: l1 :: l2 :: l3 :: l4 :: l5 :: l6 :: (0, x) :: r) st M P := by
  refine g5 hC h (x := x) rfl hi ?_ k
  obtain ⟨p1, p2⟩ := l6
  have hp1 : ¬ p1 = 1 := by intro e; rw [e] at hp; cases hp
  have e : ∀ (q : Option ax_V) (y : List ax_V), q = some (p1, p2) → (match q with | some (1, _) => y.set 6 (3, 0) | _ => y) = y := by
    intro q y hq; subst hq
    split
    · rename_i e; injection e with e; injection e with e1 e2; exact absurd e1 hp1
    · rfl
  unfold ax_set; dsimp only; rw [if_neg (by decide)]; exact e _ _ rfl
theorem s8 {l0 l1 l2 l3 l4 l5 l6 l7 : ax_V} {r : List ax_V} {u : ax_V} {t : Nat} {w x : Int} (hC : ∀ i, ax_at j i = C[i]?) (h : C[i]? = some (4, t, 8, w)) (ht : (t == 1) = false) (hp : (l7.1 == 1) = false) (k : ax_G L X S d j (i + 1) (l0 :: l1 :: l2 :: l3 :: l4 :: l5 :: l6 :: l7 :: (t, x) :: r) st M P) : ax_G L X S d j i (l0 :: l1 :: l2 :: l3 :: l4 :: l5 :: l6 :: l7 :: u :: r) ((t, x) :: st) M P := by
  have ht1 : ¬ t = 1 := by intro e; rw [e] at ht; cases ht
  refine g4 hC h ?_ ?_ k
  · rw [if_neg ht1]; simp only [List.length_cons]; omega
  · obtain ⟨p1, p2⟩ := l7
    have hp1 : ¬ p1 = 1 := by intro e; rw [e] at hp; cases hp
    have e : ∀ (q : Option ax_V) (y : List ax_V), q = some (p1, p2) → (match q with | some (1, _) => y.set 7 (3, 0) | _ => y) = y := by
      intro q y hq; subst hq
      split
      · rename_i e; injection e with e; injection e with e1 e2; exact absurd e1 hp1
      · rfl
    unfold ax_set; dsimp only; rw [if_neg ht1]; exact e _ _ rfl
theorem sl8 {l0 l1 l2 l3 l4 l5 l6 l7 : ax_V} {r : List ax_V} {u u2 : ax_V} {w x : Int} (hC : ∀ i, ax_at j i = C[i]?) (h : C[i]? = some (4, 1, 8, w)) (hp : (l7.1 == 1) = false) (k : ax_G L X S d j (i + 1) (l0 :: l1 :: l2 :: l3 :: l4 :: l5 :: l6 :: l7 :: (1, x) :: (3, 0) :: r) st M P) : ax_G L X S d j i (l0 :: l1 :: l2 :: l3 :: l4 :: l5 :: l6 :: l7 :: u :: u2 :: r) ((1, x) :: st) M P := by
  refine g4 hC h ?_ ?_ k
  · rw [if_pos rfl]; simp only [List.length_cons]; omega
  · obtain ⟨p1, p2⟩ := l7
    have hp1 : ¬ p1 = 1 := by intro e; rw [e] at hp; cases hp
    have e : ∀ (q : Option ax_V) (y : List ax_V), q = some (p1, p2) → (match q with | some (1, _) => y.set 7 (3, 0) | _ => y) = y := by
      intro q y hq; subst hq
      split
      · rename_i e; injection e with e; injection e with e1 e2; exact absurd e1 hp1
      · rfl
    unfold ax_set; dsimp only; rw [if_pos rfl]; exact e _ _ rfl
theorem n8 {l0 l1 l2 l3 l4 l5 l6 l7 : ax_V} {r : List ax_V} {b : Nat} {w x : Int} (hC : ∀ i, ax_at j i = C[i]?) (h : C[i]? = some (5, 8, b, w)) (hp : (l7.1 == 1) = false) (hi : ax_i (x + w)) (k : ax_G L X S d j (i + 1) (l0 :: l1 :: l2 :: l3 :: l4 :: l5 :: l6 :: l7 :: (0, x + w) :: r) st M P) : ax_G L X S d j i (l0 :: l1 :: l2 :: l3 :: l4 :: l5 :: l6 :: l7 :: (0, x) :: r) st M P := by
  refine g5 hC h (x := x) rfl hi ?_ k
  obtain ⟨p1, p2⟩ := l7
  have hp1 : ¬ p1 = 1 := by intro e; rw [e] at hp; cases hp
  have e : ∀ (q : Option ax_V) (y : List ax_V), q = some (p1, p2) → (match q with | some (1, _) => y.set 7 (3, 0) | _ => y) = y := by
    intro q y hq; subst hq
    split
    · rename_i e; injection e with e; injection e with e1 e2; exact absurd e1 hp1
    · rfl
  unfold ax_set; dsimp only; rw [if_neg (by decide)]; exact e _ _ rfl
theorem s9 {l0 l1 l2 l3 l4 l5 l6 l7 l8 : ax_V} {r : List ax_V} {u : ax_V} {t : Nat} {w x : Int} (hC : ∀ i, ax_at j i = C[i]?) (h : C[i]? = some (4, t, 9, w)) (ht : (t == 1) = false) (hp : (l8.1 == 1) = false) (k : ax_G L X S d j (i + 1) (l0 :: l1 :: l2 :: l3 :: l4 :: l5 :: l6 :: l7 :: l8 :: (t, x) :: r) st M P) : ax_G L X S d j i (l0 :: l1 :: l2 :: l3 :: l4 :: l5 :: l6 :: l7 :: l8 :: u :: r) ((t, x) :: st) M P := by
  have ht1 : ¬ t = 1 := by intro e; rw [e] at ht; cases ht
  refine g4 hC h ?_ ?_ k
  · rw [if_neg ht1]; simp only [List.length_cons]; omega
  · obtain ⟨p1, p2⟩ := l8
    have hp1 : ¬ p1 = 1 := by intro e; rw [e] at hp; cases hp
    have e : ∀ (q : Option ax_V) (y : List ax_V), q = some (p1, p2) → (match q with | some (1, _) => y.set 8 (3, 0) | _ => y) = y := by
      intro q y hq; subst hq
      split
      · rename_i e; injection e with e; injection e with e1 e2; exact absurd e1 hp1
      · rfl
    unfold ax_set; dsimp only; rw [if_neg ht1]; exact e _ _ rfl
theorem sl9 {l0 l1 l2 l3 l4 l5 l6 l7 l8 : ax_V} {r : List ax_V} {u u2 : ax_V} {w x : Int} (hC : ∀ i, ax_at j i = C[i]?) (h : C[i]? = some (4, 1, 9, w)) (hp : (l8.1 == 1) = false) (k : ax_G L X S d j (i + 1) (l0 :: l1 :: l2 :: l3 :: l4 :: l5 :: l6 :: l7 :: l8 :: (1, x) :: (3, 0) :: r) st M P) : ax_G L X S d j i (l0 :: l1 :: l2 :: l3 :: l4 :: l5 :: l6 :: l7 :: l8 :: u :: u2 :: r) ((1, x) :: st) M P := by
  refine g4 hC h ?_ ?_ k
  · rw [if_pos rfl]; simp only [List.length_cons]; omega
  · obtain ⟨p1, p2⟩ := l8
    have hp1 : ¬ p1 = 1 := by intro e; rw [e] at hp; cases hp
    have e : ∀ (q : Option ax_V) (y : List ax_V), q = some (p1, p2) → (match q with | some (1, _) => y.set 8 (3, 0) | _ => y) = y := by
      intro q y hq; subst hq
      split
      · rename_i e; injection e with e; injection e with e1 e2; exact absurd e1 hp1
      · rfl
    unfold ax_set; dsimp only; rw [if_pos rfl]; exact e _ _ rfl
theorem n9 {l0 l1 l2 l3 l4 l5 l6 l7 l8 : ax_V} {r : List ax_V} {b : Nat} {w x : Int} (hC : ∀ i, ax_at j i = C[i]?) (h : C[i]? = some (5, 9, b, w)) (hp : (l8.1 == 1) = false) (hi : ax_i (x + w)) (k : ax_G L X S d j (i + 1) (l0 :: l1 :: l2 :: l3 :: l4 :: l5 :: l6 :: l7 :: l8 :: (0, x + w) :: r) st M P) : ax_G L X S d j i (l0 :: l1 :: l2 :: l3 :: l4 :: l5 :: l6 :: l7 :: l8 :: (0, x) :: r) st M P := by
  refine g5 hC h (x := x) rfl hi ?_ k
  obtain ⟨p1, p2⟩ := l8
  have hp1 : ¬ p1 = 1 := by intro e; rw [e] at hp; cases hp
  have e : ∀ (q : Option ax_V) (y : List ax_V), q = some (p1, p2) → (match q with | some (1, _) => y.set 8 (3, 0) | _ => y) = y := by
    intro q y hq; subst hq
    split
    · rename_i e; injection e with e; injection e with e1 e2; exact absurd e1 hp1
    · rfl
  unfold ax_set; dsimp only; rw [if_neg (by decide)]; exact e _ _ rfl
theorem s10 {l0 l1 l2 l3 l4 l5 l6 l7 l8 l9 : ax_V} {r : List ax_V} {u : ax_V} {t : Nat} {w x : Int} (hC : ∀ i, ax_at j i = C[i]?) (h : C[i]? = some (4, t, 10, w)) (ht : (t == 1) = false) (hp : (l9.1 == 1) = false) (k : ax_G L X S d j (i + 1) (l0 :: l1 :: l2 :: l3 :: l4 :: l5 :: l6 :: l7 :: l8 :: l9 :: (t, x) :: r) st M P) : ax_G L X S d j i (l0 :: l1 :: l2 :: l3 :: l4 :: l5 :: l6 :: l7 :: l8 :: l9 :: u :: r) ((t, x) :: st) M P := by
  have ht1 : ¬ t = 1 := by intro e; rw [e] at ht; cases ht
  refine g4 hC h ?_ ?_ k
  · rw [if_neg ht1]; simp only [List.length_cons]; omega
  · obtain ⟨p1, p2⟩ := l9
    have hp1 : ¬ p1 = 1 := by intro e; rw [e] at hp; cases hp
    have e : ∀ (q : Option ax_V) (y : List ax_V), q = some (p1, p2) → (match q with | some (1, _) => y.set 9 (3, 0) | _ => y) = y := by
      intro q y hq; subst hq
      split
      · rename_i e; injection e with e; injection e with e1 e2; exact absurd e1 hp1
      · rfl
    unfold ax_set; dsimp only; rw [if_neg ht1]; exact e _ _ rfl
theorem sl10 {l0 l1 l2 l3 l4 l5 l6 l7 l8 l9 : ax_V} {r : List ax_V} {u u2 : ax_V} {w x : Int} (hC : ∀ i, ax_at j i = C[i]?) (h : C[i]? = some (4, 1, 10, w)) (hp : (l9.1 == 1) = false) (k : ax_G L X S d j (i + 1) (l0 :: l1 :: l2 :: l3 :: l4 :: l5 :: l6 :: l7 :: l8 :: l9 :: (1, x) :: (3, 0) :: r) st M P) : ax_G L X S d j i (l0 :: l1 :: l2 :: l3 :: l4 :: l5 :: l6 :: l7 :: l8 :: l9 :: u :: u2 :: r) ((1, x) :: st) M P := by
  refine g4 hC h ?_ ?_ k
  · rw [if_pos rfl]; simp only [List.length_cons]; omega
  · obtain ⟨p1, p2⟩ := l9
    have hp1 : ¬ p1 = 1 := by intro e; rw [e] at hp; cases hp
    have e : ∀ (q : Option ax_V) (y : List ax_V), q = some (p1, p2) → (match q with | some (1, _) => y.set 9 (3, 0) | _ => y) = y := by
      intro q y hq; subst hq
      split
      · rename_i e; injection e with e; injection e with e1 e2; exact absurd e1 hp1
      · rfl
    unfold ax_set; dsimp only; rw [if_pos rfl]; exact e _ _ rfl
theorem n10 {l0 l1 l2 l3 l4 l5 l6 l7 l8 l9 : ax_V} {r : List ax_V} {b : Nat} {w x : Int} (hC : ∀ i, ax_at j i = C[i]?) (h : C[i]? = some (5, 10, b, w)) (hp : (l9.1 == 1) = false) (hi : ax_i (x + w)) (k : ax_G L X S d j (i + 1) (l0 :: l1 :: l2 :: l3 :: l4 :: l5 :: l6 :: l7 :: l8 :: l9 :: (0, x + w) :: r) st M P) : ax_G L X S d j i (l0 :: l1 :: l2 :: l3 :: l4 :: l5 :: l6 :: l7 :: l8 :: l9 :: (0, x) :: r) st M P := by
  refine g5 hC h (x := x) rfl hi ?_ k
  obtain ⟨p1, p2⟩ := l9
  have hp1 : ¬ p1 = 1 := by intro e; rw [e] at hp; cases hp
  have e : ∀ (q : Option ax_V) (y : List ax_V), q = some (p1, p2) → (match q with | some (1, _) => y.set 9 (3, 0) | _ => y) = y := by
    intro q y hq; subst hq
    split
    · rename_i e; injection e with e; injection e with e1 e2; exact absurd e1 hp1
    · rfl
  unfold ax_set; dsimp only; rw [if_neg (by decide)]; exact e _ _ rfl
theorem r21 (q : Nat) {f g a n : Nat} {w x y : Int} {t : Nat} (hC : ∀ i, ax_at j i = C[i]?) (h : C[i]? = some (21, f, g, w)) (hx : x = (q : Int)) (ha : S[a]? = some (1, t, n)) (ht : t = f ∨ (f = 4 ∧ t = 5)) (hq : q < n) (hy : M a q = y) (k : ax_G L X S d j (i + 1) ll ((ax_et f, y) :: st) M P) : ax_G L X S d j i ll ((0, x) :: (2, (a : Int)) :: st) M P := by
  subst hx
  exact g21 hC h ha ht hq hy k
theorem r22 (q : Nat) {f g a n : Nat} {w x y : Int} {t : Nat} (hC : ∀ i, ax_at j i = C[i]?) (h : C[i]? = some (22, f, g, w)) (hx : x = (q : Int)) (ha : S[a]? = some (1, f, n)) (hq : q < n) (hs : ax_es f (t, y) = true) (k : ax_G L X S d j (i + 1) ll st (ax_up M a q y) P) : ax_G L X S d j i ll ((t, y) :: (0, x) :: (2, (a : Int)) :: st) M P := by
  subst hx
  exact g22 hC h ha hq hs k
theorem vl {t : Nat} {x y : Int} (e : x = y) (k : ax_G L X S d j i ll ((t, y) :: st) M P) : ax_G L X S d j i ll ((t, x) :: st) M P := by
  subst e
  exact k
theorem lp {Inv : Nat → List ax_V → ax_M → Prop} {n : Nat} (he : ∀ ll M, Inv n ll M → ax_G L X S d j i ll st M P) (hs : ∀ k, k < n → ∀ ll M, Inv k ll M → (∀ ll' M', Inv (k + 1) ll' M' → ax_G L X S d j i ll' st M' P) → ax_G L X S d j i ll st M P) : ∀ (m k : Nat), k + m = n → ∀ ll M, Inv k ll M → ax_G L X S d j i ll st M P := by
  intro m
  induction m with
  | zero => intro k e ll M h; exact he ll M (by rw [← e]; exact h)
  | succ m ih => intro k e ll M h; exact hs k (by omega) ll M h (fun ll' M' h' => ih (k + 1) (by omega) ll' M' h')
end AXL
abbrev ax_W : Type := List (Nat × Nat) × List (Nat × Nat)
def wb (W : ax_W) (a k : Nat) : Bool := W.1.any (fun e => Nat.ble e.1 a && Nat.ble (a + 1) e.2) || W.2.any (fun e => Nat.beq e.1 a && Nat.beq e.2 k)
def Sb (W : ax_W) (V M : ax_M) : Prop := ∀ a k, wb W a k = false → M a k = V a k
def wle (W W' : ax_W) : Bool := W.1.all (fun e => W'.1.any (fun f => Nat.ble f.1 e.1 && Nat.ble e.2 f.2)) && W.2.all (fun e => wb W' e.1 e.2)
theorem wle_use {W W' : ax_W} (h : wle W W' = true) {a k : Nat} (hw : wb W a k = true) : wb W' a k = true := by
  unfold wle at h
  rw [Bool.and_eq_true] at h
  unfold wb at hw
  rw [Bool.or_eq_true] at hw
  rcases hw with hw | hw
  · obtain ⟨e, he, h1⟩ := List.any_eq_true.mp hw
    obtain ⟨f, hf, h2⟩ := List.any_eq_true.mp (List.all_eq_true.mp h.1 e he)
    rw [Bool.and_eq_true] at h1 h2
    have a1 := Nat.le_of_ble_eq_true h1.1
    have a2 := Nat.le_of_ble_eq_true h1.2
    have a3 := Nat.le_of_ble_eq_true h2.1
    have a4 := Nat.le_of_ble_eq_true h2.2
    unfold wb
    rw [Bool.or_eq_true]
    refine Or.inl (List.any_eq_true.mpr ⟨f, hf, ?_⟩)
    rw [Bool.and_eq_true]
    exact ⟨Nat.ble_eq_true_of_le (by omega), Nat.ble_eq_true_of_le (by omega)⟩
  · obtain ⟨e, he, h1⟩ := List.any_eq_true.mp hw
    rw [Bool.and_eq_true] at h1
    have b1 := Nat.eq_of_beq_eq_true h1.1
    have b2 := Nat.eq_of_beq_eq_true h1.2
    have h2 := List.all_eq_true.mp h.2 e he
    rw [b1, b2] at h2
    exact h2
theorem Sb.refl {W : ax_W} {M : ax_M} : Sb W M M := fun _ _ _ => rfl
theorem Sb.trans {W : ax_W} {V M M' : ax_M} (h : Sb W V M) (h' : Sb W M M') : Sb W V M' := fun a k q => (h' a k q).trans (h a k q)
theorem Sb.mono {W W' : ax_W} {V M : ax_M} (h : Sb W V M) (hw : wle W W' = true) : Sb W' V M := fun a k q => h a k (by
  cases e : wb W a k with
  | false => rfl
  | true => rw [wle_use hw e] at q; cases q)
theorem Sb.then {W W' : ax_W} {V M M' : ax_M} (h : Sb W V M) (h' : Sb W' M M') (hw : wle W' W = true) : Sb W V M' := h.trans (h'.mono hw)
theorem Sb.up {W : ax_W} {V M : ax_M} (h : Sb W V M) {a k : Nat} {x : Int} (hw : wb W a k = true) : Sb W V (ax_up M a k x) := fun b q e => by
  unfold ax_up
  rw [if_neg (fun z => by rw [z.1, z.2, hw] at e; cases e)]
  exact h b q e
theorem Sb.cpy {W : ax_W} {V M : ax_M} (h : Sb W V M) {a sp b dp n : Nat} (hw : ∀ k, wb W b k = true) : Sb W V (ax_cpy M a sp b dp n) := fun c q e => by
  unfold ax_cpy
  rw [if_neg (fun z => by rw [z.1, hw q] at e; cases e)]
  exact h c q e
def wok (W : ax_W) : Bool := ax_fx.all (fun e => !(wb W e.1 e.2.1)) && ax_fr.all (fun e => (List.range e.2.1).all (fun k => !(wb W e.1 k)))
theorem Sb.fix {W : ax_W} {V M : ax_M} (h : Sb W V M) (hw : wok W = true) (hF : Fix V) : Fix M := by
  unfold wok at hw
  rw [Bool.and_eq_true] at hw
  refine ⟨fun e he => ?_, fun e he k hk => ?_⟩
  · have h1 := List.all_eq_true.mp hw.1 e he
    rw [h e.1 e.2.1 (by simpa using h1)]
    exact hF.1 e he
  · have h1 := List.all_eq_true.mp (List.all_eq_true.mp hw.2 e he) k (List.mem_range.mpr hk)
    rw [h e.1 k (by simpa using h1)]
    exact hF.2 e he k hk
theorem up1 {M : ax_M} {a k : Nat} {x : Int} : ax_up M a k x a k = x := ax_up_at
theorem up2 {M : ax_M} {a k b q : Nat} {x : Int} (h : ¬ (b = a ∧ q = k)) : ax_up M a k x b q = M b q := by
  unfold ax_up
  rw [if_neg h]
theorem upe {M : ax_M} {a k b q : Nat} {x : Int} : ax_up M a k x b q = if b = a ∧ q = k then x else M b q := rfl
theorem cpe {M : ax_M} {a sp b dp n c k : Nat} : ax_cpy M a sp b dp n c k = if c = b ∧ dp ≤ k ∧ k < dp + n then M a (sp + (k - dp)) else M c k := rfl
theorem shH {h : Nat} (hh : h = 9 ∨ h = 27) : SH[h]? = some (0, 4, ax_fl 4) := by rcases hh with rfl | rfl <;> rfl
theorem Fix.h {M : ax_M} (hF : Fix M) {h k v : Nat} (hh : h = 9 ∨ h = 27) (h1 : ax_fw ax_fx 9 k = some (9 + v)) (h2 : ax_fw ax_fx 27 k = some (27 + v)) : M h k = ((h + v : Nat) : Int) := by
  rcases hh with rfl | rfl
  · exact hF.g h1
  · exact hF.g h2
theorem shA {h v t n : Nat} (hh : h = 9 ∨ h = 27) (h1 : SH[9 + v]? = some (1, t, n)) (h2 : SH[27 + v]? = some (1, t, n)) : SH[h + v]? = some (1, t, n) := by
  rcases hh with rfl | rfl
  · exact h1
  · exact h2
theorem shP {h v c n : Nat} (hh : h = 9 ∨ h = 27) (h1 : SH[9 + v]? = some (0, c, n)) (h2 : SH[27 + v]? = some (0, c, n)) : SH[h + v]? = some (0, c, n) := by
  rcases hh with rfl | rfl
  · exact h1
  · exact h2
theorem wbh {W : ax_W} {h v k : Nat} {b : Bool} (hh : h = 9 ∨ h = 27) (h1 : wb W (9 + v) k = b) (h2 : wb W (27 + v) k = b) : wb W (h + v) k = b := by
  rcases hh with rfl | rfl
  · exact h1
  · exact h2
