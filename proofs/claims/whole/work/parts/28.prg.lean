def clip (x : Int) : Int := if 1000000 < x then 1000000 else if x < -1000000 then -1000000 else x
theorem clip_b {x : Int} : -1000000 ≤ clip x ∧ clip x ≤ 1000000 := by unfold clip; split <;> (try split) <;> omega
def jn (v a b : Int) : Int := if v = 1 then clip (a + b) else if v = 2 then clip (a - b) else if v = 3 then clip (a * b) else if v = 4 then (if b = 0 then 0 else a.fdiv b) else if v = 5 then min a b else if v = 6 then max a b else if v = 7 then (if a < b then 1 else 0) else if v = 8 then (if b < a then 1 else 0) else if v = 9 then (if a = b then 1 else 0) else if v = 10 then a * b else if 0 < a + b then 1 else 0
def e1 (lf : Nat → Int) (mt : Int → Int) (v : Int) (x : (Nat → Int) × Nat) : (Nat → Int) × Nat :=
  if 1000 ≤ v then (up x.1 x.2 (v - 1000), x.2 + 1)
  else if 60 ≤ v then (up x.1 (x.2 - 1) (mt (x.1 (x.2 - 1))), x.2)
  else if 40 ≤ v then (up x.1 x.2 (lf (v - 40).toNat), x.2 + 1)
  else if v = 13 then (up x.1 x.2 1, x.2 + 1)
  else if v = 12 then (up x.1 (x.2 - 1) (1 - x.1 (x.2 - 1)), x.2)
  else (up x.1 (x.2 - 2) (jn v (x.1 (x.2 - 2)) (x.1 (x.2 - 1))), x.2 - 1)
def ev (lf : Nat → Int) (mt : Int → Int) (c : Nat → Int) (n : Nat) : (Nat → Int) × Nat := it (fun k => e1 lf mt (c k)) n (fun _ => 0, 0)
def pval (lf : Nat → Int) (mt : Int → Int) (c : Nat → Int) (n : Nat) : Int := (ev lf mt c n).1 0
def upB (f : Nat → Bool) (k : Nat) (x : Bool) : Nat → Bool := fun q => if q = k then x else f q
def tok (v : Int) (x : (Nat → Bool) × Nat) : Prop :=
  if 1000 ≤ v then v ≤ 10999 ∧ x.2 < 64
  else if 60 ≤ v then v = 60 ∧ 1 ≤ x.2 ∧ x.1 (x.2 - 1) = false
  else if 40 ≤ v then v ≤ 50 ∧ x.2 < 64
  else if v = 13 then x.2 < 64
  else if v = 12 then 1 ≤ x.2 ∧ x.1 (x.2 - 1) = true
  else 1 ≤ v ∧ v ≤ 11 ∧ 2 ≤ x.2 ∧ x.1 (x.2 - 1) = decide (10 ≤ v) ∧ x.1 (x.2 - 2) = decide (10 ≤ v)
def tst (v : Int) (x : (Nat → Bool) × Nat) : (Nat → Bool) × Nat :=
  if 1000 ≤ v then (upB x.1 x.2 false, x.2 + 1)
  else if 60 ≤ v then x
  else if 40 ≤ v then (upB x.1 x.2 false, x.2 + 1)
  else if v = 13 then (upB x.1 x.2 true, x.2 + 1)
  else if v = 12 then x
  else (upB x.1 (x.2 - 2) (decide (7 ≤ v)), x.2 - 1)
def tys (c : Nat → Int) (n : Nat) : (Nat → Bool) × Nat := it (fun k => tst (c k)) n (fun _ => false, 0)
def Typed (c : Nat → Int) (n : Nat) (b : Bool) : Prop := (∀ k, k < n → tok (c k) (tys c k)) ∧ (tys c n).2 = 1 ∧ (tys c n).1 0 = b
def vok (x : (Nat → Bool) × Nat) (y : (Nat → Int) × Nat) : Prop := y.2 = x.2 ∧ ∀ i, i < x.2 → (x.1 i = true → y.1 i = 0 ∨ y.1 i = 1) ∧ (x.1 i = false → -1000000 ≤ y.1 i ∧ y.1 i ≤ 1000000)
theorem fdiv_b {a b : Int} (ha : -1000000 ≤ a ∧ a ≤ 1000000) (hb : b ≠ 0) : -1000000 ≤ a.fdiv b ∧ a.fdiv b ≤ 1000000 := by
  rcases Int.lt_or_gt_of_ne hb with h | h
  · have e : a.fdiv b = (-a).fdiv (-b) := by rw [Int.neg_fdiv_neg]
    rw [e, Int.fdiv_eq_ediv_of_nonneg _ (by omega)]
    exact ⟨(Int.le_ediv_iff_mul_le (by omega)).mpr (by omega), Int.ediv_le_of_le_mul (by omega) (by omega)⟩
  · rw [Int.fdiv_eq_ediv_of_nonneg _ (by omega)]
    exact ⟨(Int.le_ediv_iff_mul_le (by omega)).mpr (by omega), Int.ediv_le_of_le_mul (by omega) (by omega)⟩
theorem jn_b {v a b : Int} (h1 : 1 ≤ v) (h2 : v ≤ 11) (ha : 10 ≤ v → a = 0 ∨ a = 1) (hb : 10 ≤ v → b = 0 ∨ b = 1) (ha2 : ¬ 10 ≤ v → -1000000 ≤ a ∧ a ≤ 1000000) (hb2 : ¬ 10 ≤ v → -1000000 ≤ b ∧ b ≤ 1000000) : (7 ≤ v → jn v a b = 0 ∨ jn v a b = 1) ∧ (¬ 7 ≤ v → -1000000 ≤ jn v a b ∧ jn v a b ≤ 1000000) := by
  unfold jn
  by_cases q1 : v = 1
  · rw [if_pos q1]; exact ⟨fun h => by omega, fun _ => clip_b⟩
  rw [if_neg q1]
  by_cases q2 : v = 2
  · rw [if_pos q2]; exact ⟨fun h => by omega, fun _ => clip_b⟩
  rw [if_neg q2]
  by_cases q3 : v = 3
  · rw [if_pos q3]; exact ⟨fun h => by omega, fun _ => clip_b⟩
  rw [if_neg q3]
  by_cases q4 : v = 4
  · rw [if_pos q4]
    refine ⟨fun h => by omega, fun _ => ?_⟩
    by_cases q : b = 0
    · rw [if_pos q]; decide
    · rw [if_neg q]; exact fdiv_b (ha2 (by omega)) q
  rw [if_neg q4]
  by_cases q5 : v = 5
  · rw [if_pos q5]; have := ha2 (by omega); have := hb2 (by omega); exact ⟨fun h => by omega, fun _ => by omega⟩
  rw [if_neg q5]
  by_cases q6 : v = 6
  · rw [if_pos q6]; have := ha2 (by omega); have := hb2 (by omega); exact ⟨fun h => by omega, fun _ => by omega⟩
  rw [if_neg q6]
  refine ⟨fun _ => ?_, fun h => by omega⟩
  by_cases q7 : v = 7
  · rw [if_pos q7]; split <;> simp
  rw [if_neg q7]
  by_cases q8 : v = 8
  · rw [if_pos q8]; split <;> simp
  rw [if_neg q8]
  by_cases q9 : v = 9
  · rw [if_pos q9]; split <;> simp
  rw [if_neg q9]
  by_cases q10 : v = 10
  · rw [if_pos q10]
    rcases ha (by omega) with rfl | rfl <;> rcases hb (by omega) with rfl | rfl <;> simp
  rw [if_neg q10]
  split <;> simp
theorem vok_e1 {lf : Nat → Int} {mt : Int → Int} (hl : ∀ i, -1000000 ≤ lf i ∧ lf i ≤ 1000000) (hm : ∀ i, -1000000 ≤ mt i ∧ mt i ≤ 1000000) {v : Int} {x : (Nat → Bool) × Nat} {y : (Nat → Int) × Nat} (ht : tok v x) (h : vok x y) : vok (tst v x) (e1 lf mt v y) := by
  obtain ⟨τ, t⟩ := x
  obtain ⟨s, t'⟩ := y
  obtain ⟨e, h⟩ := h
  dsimp only at e h
  subst e
  have push : ∀ (z : Int) (b : Bool), (b = true → z = 0 ∨ z = 1) → (b = false → -1000000 ≤ z ∧ z ≤ 1000000) → vok (upB τ t' b, t' + 1) (up s t' z, t' + 1) := by
    intro z b hz hz2
    refine ⟨rfl, fun i hi => ?_⟩
    dsimp only [upB, up]
    by_cases hit : i = t'
    · simp only [if_pos hit]; exact ⟨hz, hz2⟩
    · simp only [if_neg hit]; exact h i (by dsimp only at hi; omega)
  have put : ∀ (z : Int) (k : Nat), k < t' → (τ k = true → z = 0 ∨ z = 1) → (τ k = false → -1000000 ≤ z ∧ z ≤ 1000000) → vok (τ, t') (up s k z, t') := by
    intro z k hk hz hz2
    refine ⟨rfl, fun i hi => ?_⟩
    dsimp only [up]
    by_cases hit : i = k
    · simp only [if_pos hit]; rw [hit]; exact ⟨hz, hz2⟩
    · simp only [if_neg hit]; exact h i hi
  unfold tst e1
  unfold tok at ht
  dsimp only at ht ⊢
  by_cases h1 : 1000 ≤ v
  · rw [if_pos h1] at ht ⊢; rw [if_pos h1]
    exact push _ _ (fun h => by cases h) (fun _ => by omega)
  rw [if_neg h1] at ht ⊢; rw [if_neg h1]
  by_cases h2 : 60 ≤ v
  · rw [if_pos h2] at ht ⊢; rw [if_pos h2]
    exact put _ _ (by omega) (fun h => by rw [ht.2.2] at h; cases h) (fun _ => hm _)
  rw [if_neg h2] at ht ⊢; rw [if_neg h2]
  by_cases h3 : 40 ≤ v
  · rw [if_pos h3] at ht ⊢; rw [if_pos h3]
    exact push _ _ (fun h => by cases h) (fun _ => hl _)
  rw [if_neg h3] at ht ⊢; rw [if_neg h3]
  by_cases h4 : v = 13
  · rw [if_pos h4] at ht ⊢; rw [if_pos h4]
    exact push _ _ (fun _ => Or.inr rfl) (fun h => by cases h)
  rw [if_neg h4] at ht ⊢; rw [if_neg h4]
  by_cases h5 : v = 12
  · rw [if_pos h5] at ht ⊢; rw [if_pos h5]
    have := (h (t' - 1) (by omega)).1 ht.2
    exact put _ _ (by omega) (fun _ => by omega) (fun h => by rw [ht.2] at h; cases h)
  rw [if_neg h5] at ht ⊢; rw [if_neg h5]
  obtain ⟨a1, a2, a3, a4, a5⟩ := ht
  have k1 := h (t' - 1) (by omega)
  have k2 := h (t' - 2) (by omega)
  rw [a4] at k1
  rw [a5] at k2
  have hj := jn_b (v := v) (a := s (t' - 2)) (b := s (t' - 1)) a1 a2 (fun q => k2.1 (decide_eq_true q)) (fun q => k1.1 (decide_eq_true q)) (fun q => k2.2 (decide_eq_false q)) (fun q => k1.2 (decide_eq_false q))
  refine ⟨rfl, fun i hi => ?_⟩
  dsimp only [upB, up]
  by_cases hit : i = t' - 2
  · simp only [if_pos hit]
    exact ⟨fun q => hj.1 (of_decide_eq_true q), fun q => hj.2 (of_decide_eq_false q)⟩
  · simp only [if_neg hit]; exact h i (by dsimp only at hi; omega)
theorem vok_ev {lf : Nat → Int} {mt : Int → Int} (hl : ∀ i, -1000000 ≤ lf i ∧ lf i ≤ 1000000) (hm : ∀ i, -1000000 ≤ mt i ∧ mt i ≤ 1000000) {c : Nat → Int} {n : Nat} (h : ∀ k, k < n → tok (c k) (tys c k)) : ∀ k, k ≤ n → vok (tys c k) (ev lf mt c k) := by
  intro k
  induction k with
  | zero => intro _; exact ⟨rfl, fun i hi => absurd hi (Nat.not_lt_zero i)⟩
  | succ k ih => intro hk; exact vok_e1 hl hm (h k (by omega)) (ih (by omega))
theorem tys_le {c : Nat → Int} {n : Nat} (h : ∀ k, k < n → tok (c k) (tys c k)) : ∀ k, k ≤ n → (tys c k).2 ≤ 64 := by
  intro k
  induction k with
  | zero => intro _; exact Nat.zero_le _
  | succ k ih =>
    intro hk
    have h1 := ih (by omega)
    have h2 := h k (by omega)
    show (tst (c k) (tys c k)).2 ≤ 64
    generalize tys c k = x at *
    unfold tok at h2
    unfold tst
    by_cases q1 : 1000 ≤ c k
    · rw [if_pos q1] at h2 ⊢; dsimp only; omega
    rw [if_neg q1] at h2 ⊢
    by_cases q2 : 60 ≤ c k
    · rw [if_pos q2]; exact h1
    rw [if_neg q2] at h2 ⊢
    by_cases q3 : 40 ≤ c k
    · rw [if_pos q3] at h2 ⊢; dsimp only; omega
    rw [if_neg q3] at h2 ⊢
    by_cases q4 : c k = 13
    · rw [if_pos q4] at h2 ⊢; dsimp only; omega
    rw [if_neg q4] at h2 ⊢
    by_cases q5 : c k = 12
    · rw [if_pos q5]; exact h1
    rw [if_neg q5] at h2 ⊢
    dsimp only
    omega
def ci (kind : Nat) (i : Int) : Int := if i < 3 then i else if kind = 0 then i else if kind = 1 then i - 2 else i - 4
def cs (kind : Nat) (v : Int) : Int := if 1000 ≤ v then v - 1000 else if 60 ≤ v then -13 else if 40 ≤ v then -100 - ci kind (v - 40) else if v = 13 then 1 else if v = 12 then -12 else if v = 5 then -10 else if v = 6 then -11 else if v ≤ 4 then -v else 2 - v
