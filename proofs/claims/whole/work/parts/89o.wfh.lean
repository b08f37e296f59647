def nmOk (m : Nm) : Prop := 1 ≤ m.2 ∧ m.2 ≤ 6 ∧ lts m.1 m.2
def WfH (l : Nat) (s : HS) : Prop :=
  (s.1.1 ≤ 8 ∧ s.2.1.1 ≤ 10 ∧ s.2.2.1.1 ≤ 5 ∧ s.2.2.2.1.1 ≤ 8) ∧
  (∀ k, k < s.1.1 → nmOk (s.1.2 k)) ∧
  ((∀ k, k < s.2.1.1 → (s.2.1.2 k).1 < s.1.1 ∧ (s.2.1.2 k).2.1 < s.1.1 ∧ (s.2.1.2 k).1 ≠ (s.2.1.2 k).2.1 ∧ 1 ≤ (s.2.1.2 k).2.2 ∧ (s.2.1.2 k).2.2 ≤ 4) ∧ ∀ k k', k < s.2.1.1 → k' < s.2.1.1 → k ≠ k' → ¬ ((s.2.1.2 k).1 = (s.2.1.2 k').1 ∧ (s.2.1.2 k).2.1 = (s.2.1.2 k').2.1) ∧ ¬ ((s.2.1.2 k).1 = (s.2.1.2 k').2.1 ∧ (s.2.1.2 k).2.1 = (s.2.1.2 k').1)) ∧
  (∀ k, k < s.2.2.1.1 → nmOk (s.2.2.1.2 k).1 ∧ 0 ≤ (s.2.2.1.2 k).2 ∧ (s.2.2.1.2 k).2 ≤ 20) ∧
  (∀ k, k < s.2.2.2.1.1 → nmOk (s.2.2.2.1.2 k).1 ∧ (s.2.2.2.1.2 k).2.1 < s.1.1 ∧ (s.2.2.2.1.2 k).2.2.1 < s.2.2.1.1 ∧ (1 ≤ (s.2.2.2.1.2 k).2.2.2.1 ∧ (s.2.2.2.1.2 k).2.2.2.1 ≤ 3) ∧ 0 ≤ (s.2.2.2.1.2 k).2.2.2.2 ∧ (s.2.2.2.1.2 k).2.2.2.2 ≤ 9) ∧
  ((∀ c, s.2.2.2.2.1 = some c → Psh c true 24 ∧ lalL 0 c) ∧ (∀ c, s.2.2.2.2.2.1 = some c → Psh c false 21 ∧ lalL 1 c) ∧ (s.2.2.2.2.1.getD []).length + (s.2.2.2.2.2.1.getD []).length ≤ l) ∧
  (0 ≤ s.2.2.2.2.2.2.1 ∧ s.2.2.2.2.2.2.1 ≤ 20) ∧ (1 ≤ s.2.2.2.2.2.2.2.1 ∧ s.2.2.2.2.2.2.2.1 ≤ 9) ∧ 0 ≤ s.2.2.2.2.2.2.2.2 ∧ s.2.2.2.2.2.2.2.2 ≤ 100
theorem WfH.mono {l l' : Nat} {s : HS} (h : WfH l s) (hl : l ≤ l') : WfH l' s := ⟨h.1, h.2.1, h.2.2.1, h.2.2.2.1, h.2.2.2.2.1, ⟨h.2.2.2.2.2.1.1, h.2.2.2.2.2.1.2.1, Nat.le_trans h.2.2.2.2.2.1.2.2 hl⟩, h.2.2.2.2.2.2⟩
theorem WfH.z : WfH 0 hs0 := ⟨⟨by decide, by decide, by decide, by decide⟩, fun k hk => absurd hk (Nat.not_lt_zero k), ⟨fun k hk => absurd hk (Nat.not_lt_zero k), fun k k' hk => absurd hk (Nat.not_lt_zero k)⟩, fun k hk => absurd hk (Nat.not_lt_zero k), fun k hk => absurd hk (Nat.not_lt_zero k), ⟨fun c h => (by cases h), fun c h => (by cases h), Nat.le_refl 0⟩, ⟨by decide, by decide⟩, ⟨by decide, by decide⟩, by decide, by decide⟩
theorem vadd_all {α : Type} {P : Nat → α → Prop} {v : Vc α} {x : α} (h : ∀ k, k < v.1 → P k (v.2 k)) (hx : P v.1 x) : ∀ k, k < (vadd v x).1 → P k ((vadd v x).2 k) := by
  intro k hk
  have hk1 : k < v.1 + 1 := hk
  show P k (if k = v.1 then x else v.2 k)
  by_cases z : k = v.1
  · rw [if_pos z, z]; exact hx
  · rw [if_neg z]; exact h k (by omega)
theorem hasS_no {v : Vc (Nat × Nat × Int)} {a b : Nat} (h : ¬ hasS v a b = true) : ∀ k, k < v.1 → ¬ ((v.2 k).1 = a ∧ (v.2 k).2.1 = b) ∧ ¬ ((v.2 k).1 = b ∧ (v.2 k).2.1 = a) := by
  intro k hk
  constructor
  · intro z
    refine h (List.any_eq_true.mpr ⟨k, List.mem_range.mpr hk, ?_⟩)
    rw [Bool.or_eq_true, Bool.and_eq_true, Bool.and_eq_true, beq_iff_eq, beq_iff_eq, beq_iff_eq, beq_iff_eq]
    exact Or.inl z
  · intro z
    refine h (List.any_eq_true.mpr ⟨k, List.mem_range.mpr hk, ?_⟩)
    rw [Bool.or_eq_true, Bool.and_eq_true, Bool.and_eq_true, beq_iff_eq, beq_iff_eq, beq_iff_eq, beq_iff_eq]
    exact Or.inr z
section WFH
variable {T : Nat → Int} {n : Nat} {q : PS} {s : HS}
theorem nx_ge (h : q.1 ≤ n) : q.1 ≤ (nx T n q).1 := by
  have h1 := (af_b (T := T) h).1
  have h2 : af T n q ≤ rn isBb T n (af T n q) := rn_ge
  show q.1 ≤ rn isBb T n (af T n q)
  omega
theorem nmQ_ok (hqn : q.1 ≤ n) (h : naR T n q = none) : nmOk (nmQ T n q) := by
  unfold naR at h
  split at h
  · cases h
  · rename_i hk
    split at h
    · cases h
    · rename_i h6
      have hk1 : kd T n q = 1 := Classical.not_not.mp hk
      have ha := af_b (T := T) hqn
      have hlt := (kd_1 hk1).2.1
      refine ⟨?_, ?_, fun i hi => ?_⟩
      · show 1 ≤ af T n q - q.1
        have := ha.2.2 hlt
        omega
      · show af T n q - q.1 ≤ 6
        omega
      · have := naL_b hk1 i hi
        exact ⟨this.1, this.2.1⟩
theorem wrdN_r {w : List Int} {k : PS → SRs} {r : PS × HS} (h : wrdN T n w q k = .inr r) : isW T n q w = true ∧ k (nx T n q) = .inr r := by
  unfold wrdN tryR wdR at h
  by_cases z : isW T n q w = true
  · rw [if_pos z] at h; exact ⟨z, h⟩
  · rw [if_neg z] at h; cases h
theorem numN_r {lo hi : Int} {k : Int → PS → SRs} {r : PS × HS} (h : numN T n lo hi q k = .inr r) : (lo ≤ nuV T n q ∧ nuV T n q ≤ hi) ∧ k (nuV T n q) (nx T n q) = .inr r := by
  unfold numN tryR at h
  cases e : nuR T n q lo hi with
  | some x => rw [e] at h; cases h
  | none => rw [e] at h; exact ⟨nuR_b e, h⟩
theorem setN_r {w : List Int} {lo hi : Int} {k : Int → PS → SRs} {r : PS × HS} (h : setN T n w lo hi q k = .inr r) : (lo ≤ nuV T n (nx T n q) ∧ nuV T n (nx T n q) ≤ hi) ∧ k (nuV T n (nx T n q)) (nx T n (nx T n q)) = .inr r := numN_r (wrdN_r h).2
theorem newN_r {k : Nm → PS → SRs} {r : PS × HS} (h : newN T n s q k = .inr r) : naR T n q = none ∧ nmd s (nmQ T n q) = false ∧ k (nmQ T n q) (nx T n q) = .inr r := by
  unfold newN tryR at h
  cases e : naR T n q with
  | some x => rw [e] at h; cases h
  | none =>
    rw [e] at h
    dsimp only at h
    cases z : nmd s (nmQ T n q) with
    | true => rw [z, if_pos rfl] at h; cases h
    | false => rw [z, if_neg Bool.false_ne_true] at h; exact ⟨rfl, rfl, h⟩
theorem oldN_r {f : Nat → Nm} {c : Nat} {k : Nat → PS → SRs} {r : PS × HS} (h : oldN T n f c q k = .inr r) : ∃ i, i < c ∧ k i (nx T n q) = .inr r := by
  unfold oldN tryR at h
  cases e : naR T n q with
  | some x => rw [e] at h; cases h
  | none =>
    rw [e] at h
    dsimp only at h
    cases z : fdN f (nmQ T n q) c with
    | none => rw [z] at h; cases h
    | some i => rw [z] at h; exact ⟨i, (fdN_some c z).1, h⟩
theorem room_ok {p : Int} {q' : PS} {s' : HS} (hqn : q.1 ≤ n) (hW : WfH q.1 s) (h : roomF T n s p q = .inr (q', s')) : WfH q'.1 s' ∧ q'.1 ≤ n := by
  unfold roomF at h
  split at h
  · cases h
  rename_i hne
  obtain ⟨e1, -, e2⟩ := newN_r h
  cases e2
  have w0 := nx_ge (T := T) hqn
  have hW := hW.mono w0
  have b := hW.1.1
  refine ⟨⟨⟨by show s.1.1 + 1 ≤ 8; omega, hW.1.2⟩, vadd_all (P := fun _ m => nmOk m) hW.2.1 (nmQ_ok hqn e1), ⟨fun k hk => ?_, hW.2.2.1.2⟩, hW.2.2.2.1, fun k hk => ?_, hW.2.2.2.2.2⟩, (wq_nx hqn).1⟩
  · obtain ⟨a1, a2, a3⟩ := hW.2.2.1.1 k hk
    exact ⟨Nat.lt_succ_of_lt a1, Nat.lt_succ_of_lt a2, a3⟩
  · obtain ⟨a1, a2, a3⟩ := hW.2.2.2.2.1 k hk
    exact ⟨a1, Nat.lt_succ_of_lt a2, a3⟩
theorem sect_ok {p : Int} {q' : PS} {s' : HS} (hqn : q.1 ≤ n) (hW : WfH q.1 s) (h : sectF T n s p q = .inr (q', s')) : WfH q'.1 s' ∧ q'.1 ≤ n := by
  unfold sectF at h
  split at h
  · cases h
  rename_i hne
  obtain ⟨e1, -, e2⟩ := newN_r h
  obtain ⟨e3, e4⟩ := setN_r e2
  cases e4
  have w0 := nx_ge (T := T) hqn
  have v1 := (wq_nx (T := T) hqn).1
  have w1 := nx_ge (T := T) v1
  have v2 := (wq_nx (T := T) v1).1
  have w2 := nx_ge (T := T) v2
  have hW := hW.mono (Nat.le_trans w0 (Nat.le_trans w1 w2))
  have b := hW.1.2.2.1
  refine ⟨⟨⟨hW.1.1, hW.1.2.1, by show s.2.2.1.1 + 1 ≤ 5; omega, hW.1.2.2.2⟩, hW.2.1, hW.2.2.1, vadd_all (P := fun _ (m : Nm × Int) => nmOk m.1 ∧ 0 ≤ m.2 ∧ m.2 ≤ 20) hW.2.2.2.1 ⟨nmQ_ok hqn e1, e3⟩, fun k hk => ?_, hW.2.2.2.2.2⟩, (wq_nx v2).1⟩
  obtain ⟨a1, a2, a3, a4⟩ := hW.2.2.2.2.1 k hk
  exact ⟨a1, a2, Nat.lt_succ_of_lt a3, a4⟩
theorem stair_ok {p : Int} {q' : PS} {s' : HS} (hqn : q.1 ≤ n) (hW : WfH q.1 s) (h : stairF T n s p q = .inr (q', s')) : WfH q'.1 s' ∧ q'.1 ≤ n := by
  unfold stairF at h
  split at h
  · cases h
  rename_i hne
  obtain ⟨a, ha, h⟩ := oldN_r h
  obtain ⟨-, h⟩ := wrdN_r h
  obtain ⟨b, hb, h⟩ := oldN_r h
  split at h
  · cases h
  rename_i hz
  rw [Bool.or_eq_true] at hz
  have hz1 : a ≠ b := fun z => hz (Or.inl (beq_iff_eq.mpr z))
  have hz2 := hasS_no (fun z => hz (Or.inr z))
  obtain ⟨e3, e4⟩ := setN_r h
  cases e4
  have w0 := nx_ge (T := T) hqn
  have v1 := (wq_nx (T := T) hqn).1
  have w1 := nx_ge (T := T) v1
  have v2 := (wq_nx (T := T) v1).1
  have w2 := nx_ge (T := T) v2
  have v3 := (wq_nx (T := T) v2).1
  have w3 := nx_ge (T := T) v3
  have v4 := (wq_nx (T := T) v3).1
  have w4 := nx_ge (T := T) v4
  have hW := hW.mono (Nat.le_trans w0 (Nat.le_trans w1 (Nat.le_trans w2 (Nat.le_trans w3 w4))))
  have bb := hW.1.2.1
  refine ⟨⟨⟨hW.1.1, by show s.2.1.1 + 1 ≤ 10; omega, hW.1.2.2⟩, hW.2.1, ⟨vadd_all (P := fun _ (m : Nat × Nat × Int) => m.1 < s.1.1 ∧ m.2.1 < s.1.1 ∧ m.1 ≠ m.2.1 ∧ 1 ≤ m.2.2 ∧ m.2.2 ≤ 4) hW.2.2.1.1 ⟨ha, hb, hz1, e3⟩, fun k k' hk hk' hne' => ?_⟩, hW.2.2.2⟩, (wq_nx v4).1⟩
  have hk1 : k < s.2.1.1 + 1 := hk
  have hk2 : k' < s.2.1.1 + 1 := hk'
  show ¬ ((if k = s.2.1.1 then (a, b, nuV T n (nx T n (nx T n (nx T n (nx T n q))))) else s.2.1.2 k).1 = (if k' = s.2.1.1 then (a, b, nuV T n (nx T n (nx T n (nx T n (nx T n q))))) else s.2.1.2 k').1 ∧ (if k = s.2.1.1 then (a, b, nuV T n (nx T n (nx T n (nx T n (nx T n q))))) else s.2.1.2 k).2.1 = (if k' = s.2.1.1 then (a, b, nuV T n (nx T n (nx T n (nx T n (nx T n q))))) else s.2.1.2 k').2.1) ∧ ¬ ((if k = s.2.1.1 then (a, b, nuV T n (nx T n (nx T n (nx T n (nx T n q))))) else s.2.1.2 k).1 = (if k' = s.2.1.1 then (a, b, nuV T n (nx T n (nx T n (nx T n (nx T n q))))) else s.2.1.2 k').2.1 ∧ (if k = s.2.1.1 then (a, b, nuV T n (nx T n (nx T n (nx T n (nx T n q))))) else s.2.1.2 k).2.1 = (if k' = s.2.1.1 then (a, b, nuV T n (nx T n (nx T n (nx T n (nx T n q))))) else s.2.1.2 k').1)
  by_cases z : k = s.2.1.1
  · have z2 : ¬ k' = s.2.1.1 := by omega
    rw [if_pos z, if_neg z2]
    have := hz2 k' (by omega)
    exact ⟨fun y => this.1 ⟨y.1.symm, y.2.symm⟩, fun y => this.2 ⟨y.2.symm, y.1.symm⟩⟩
  · rw [if_neg z]
    by_cases z2 : k' = s.2.1.1
    · rw [if_pos z2]
      have := hz2 k (by omega)
      exact ⟨fun y => this.1 ⟨y.1, y.2⟩, fun y => this.2 ⟨y.1, y.2⟩⟩
    · rw [if_neg z2]
      exact hW.2.2.1.2 k k' (by omega) (by omega) hne'
theorem clerk_ok {p : Int} {q' : PS} {s' : HS} (hqn : q.1 ≤ n) (hW : WfH q.1 s) (h : clerkF T n s p q = .inr (q', s')) : WfH q'.1 s' ∧ q'.1 ≤ n := by
  unfold clerkF at h
  split at h
  · cases h
  rename_i hne
  obtain ⟨e1, -, h⟩ := newN_r h
  obtain ⟨-, h⟩ := wrdN_r h
  obtain ⟨r, hr, h⟩ := oldN_r h
  obtain ⟨-, h⟩ := wrdN_r h
  obtain ⟨c, hc, h⟩ := oldN_r h
  obtain ⟨e2, h⟩ := setN_r h
  obtain ⟨e3, h⟩ := setN_r h
  cases h
  have w0 := nx_ge (T := T) hqn
  have v1 := (wq_nx (T := T) hqn).1
  have w1 := nx_ge (T := T) v1
  have v2 := (wq_nx (T := T) v1).1
  have w2 := nx_ge (T := T) v2
  have v3 := (wq_nx (T := T) v2).1
  have w3 := nx_ge (T := T) v3
  have v4 := (wq_nx (T := T) v3).1
  have w4 := nx_ge (T := T) v4
  have v5 := (wq_nx (T := T) v4).1
  have w5 := nx_ge (T := T) v5
  have v6 := (wq_nx (T := T) v5).1
  have w6 := nx_ge (T := T) v6
  have v7 := (wq_nx (T := T) v6).1
  have w7 := nx_ge (T := T) v7
  have v8 := (wq_nx (T := T) v7).1
  have w8 := nx_ge (T := T) v8
  have hW := hW.mono (Nat.le_trans w0 (Nat.le_trans w1 (Nat.le_trans w2 (Nat.le_trans w3 (Nat.le_trans w4 (Nat.le_trans w5 (Nat.le_trans w6 (Nat.le_trans w7 w8))))))))
  have bb := hW.1.2.2.2
  refine ⟨⟨⟨hW.1.1, hW.1.2.1, hW.1.2.2.1, by show s.2.2.2.1.1 + 1 ≤ 8; omega⟩, hW.2.1, hW.2.2.1, hW.2.2.2.1, vadd_all (P := fun _ (m : Nm × Nat × Nat × Int × Int) => nmOk m.1 ∧ m.2.1 < s.1.1 ∧ m.2.2.1 < s.2.2.1.1 ∧ (1 ≤ m.2.2.2.1 ∧ m.2.2.2.1 ≤ 3) ∧ 0 ≤ m.2.2.2.2 ∧ m.2.2.2.2 ≤ 9) hW.2.2.2.2.1 ⟨nmQ_ok hqn e1, hr, hc, e2, e3⟩, hW.2.2.2.2.2⟩, (wq_nx v8).1⟩
theorem turn_ok {p : Int} {q' : PS} {s' : HS} (hqn : q.1 ≤ n) (hW : WfH q.1 s) (h : turnF T n s p q = .inr (q', s')) : WfH q'.1 s' ∧ q'.1 ≤ n := by
  unfold turnF at h
  split at h
  · cases h
  rename_i hne
  cases e : tsL T n 0 6 q with
  | inl x => rw [e] at h; cases h
  | inr x =>
    obtain ⟨q1, c⟩ := x
    rw [e] at h
    cases h
    obtain ⟨y1, y2, y3⟩ := good_ts (k := 0) (r := 6) q hqn q' c e
    have hwl := wl_ts (T := T) (n := n) (k := 0) (by decide) 6 q q' c e
    have hl := hW.2.2.2.2.2.1.2.2
    have hn0 : s.2.2.2.2.1 = none := by
      cases e2 : s.2.2.2.2.1 with
      | none => rfl
      | some y => rw [e2] at hne; exact absurd rfl hne
    rw [hn0] at hl
    have hl : (0 : Nat) + (s.2.2.2.2.2.1.getD []).length ≤ q.1 := hl
    refine ⟨⟨hW.1, hW.2.1, hW.2.2.1, hW.2.2.2.1, hW.2.2.2.2.1, ⟨fun c' hc' => ?_, hW.2.2.2.2.2.1.2.1, ?_⟩, hW.2.2.2.2.2.2⟩, y3.1⟩
    · cases hc'
      exact ⟨hwl.1.mono (by decide), hwl.2⟩
    · show c.length + (s.2.2.2.2.2.1.getD []).length ≤ q'.1
      omega
theorem dear_ok {p : Int} {q' : PS} {s' : HS} (hqn : q.1 ≤ n) (hW : WfH q.1 s) (h : dearF T n s p q = .inr (q', s')) : WfH q'.1 s' ∧ q'.1 ≤ n := by
  unfold dearF at h
  split at h
  · cases h
  rename_i hne
  cases e : smL T n 1 6 q with
  | inl x => rw [e] at h; cases h
  | inr x =>
    obtain ⟨q1, c⟩ := x
    rw [e] at h
    cases h
    obtain ⟨y1, y2, y3⟩ := good_sm (k := 1) (r := 6) q hqn q' c e
    have hwl := wl_sm (T := T) (n := n) (k := 1) (by decide) 6 q q' c e
    have hl := hW.2.2.2.2.2.1.2.2
    have hn0 : s.2.2.2.2.2.1 = none := by
      cases e2 : s.2.2.2.2.2.1 with
      | none => rfl
      | some y => rw [e2] at hne; exact absurd rfl hne
    rw [hn0] at hl
    have hl : (s.2.2.2.2.1.getD []).length + 0 ≤ q.1 := hl
    refine ⟨⟨hW.1, hW.2.1, hW.2.2.1, hW.2.2.2.1, hW.2.2.2.2.1, ⟨hW.2.2.2.2.2.1.1, fun c' hc' => ?_, ?_⟩, hW.2.2.2.2.2.2⟩, y3.1⟩
    · cases hc'
      exact ⟨hwl.1.mono (by decide), hwl.2⟩
    · show (s.2.2.2.2.1.getD []).length + c.length ≤ q'.1
      omega
theorem stm_ok {q' : PS} {s' : HS} (hqn : q.1 ≤ n) (hW : WfH q.1 s) (h : stmF T n s q = .inr (q', s')) : WfH q'.1 s' ∧ q'.1 ≤ n := by
  have w0 := nx_ge (T := T) hqn
  have v1 := (wq_nx (T := T) hqn).1
  have w1 := nx_ge (T := T) v1
  have hW1 := hW.mono w0
  have hW2 := hW1.mono w1
  have v2 := (wq_nx (T := T) v1).1
  unfold stmF at h
  split at h
  · exact room_ok v1 hW1 h
  split at h
  · exact stair_ok v1 hW1 h
  split at h
  · exact sect_ok v1 hW1 h
  split at h
  · exact clerk_ok v1 hW1 h
  split at h
  · exact turn_ok v1 hW1 h
  split at h
  · exact dear_ok v1 hW1 h
  split at h
  · obtain ⟨e1, e2⟩ := numN_r h
    cases e2
    exact ⟨⟨hW2.1, hW2.2.1, hW2.2.2.1, hW2.2.2.2.1, hW2.2.2.2.2.1, hW2.2.2.2.2.2.1, e1, hW2.2.2.2.2.2.2.2⟩, v2⟩
  split at h
  · obtain ⟨e1, e2⟩ := numN_r h
    cases e2
    exact ⟨⟨hW2.1, hW2.2.1, hW2.2.2.1, hW2.2.2.2.1, hW2.2.2.2.2.1, hW2.2.2.2.2.2.1, hW2.2.2.2.2.2.2.1, e1, hW2.2.2.2.2.2.2.2.2⟩, v2⟩
  · obtain ⟨-, h⟩ := wrdN_r h
    obtain ⟨e1, e2⟩ := numN_r h
    cases e2
    exact ⟨⟨hW2.1, hW2.2.1, hW2.2.2.1, hW2.2.2.2.1, hW2.2.2.2.2.1, hW2.2.2.2.2.2.1, hW2.2.2.2.2.2.2.1, hW2.2.2.2.2.2.2.2.1, e1⟩, v2⟩
theorem sem_ok {q' : PS} {s' : HS} (hqn : q.1 ≤ n) (hW : WfH q.1 s) (h : semF T n (stmF T n s q) = .inr (q', s')) : WfH q'.1 s' ∧ q'.1 ≤ n := by
  cases e : stmF T n s q with
  | inl x => rw [e] at h; cases h
  | inr x =>
    obtain ⟨q1, s1⟩ := x
    rw [e] at h
    obtain ⟨y1, y2⟩ := stm_ok hqn hW e
    unfold semF tryR at h
    dsimp only at h
    cases e2 : sgR T n q1 59 with
    | some y => rw [e2] at h; cases h
    | none =>
      rw [e2] at h
      cases h
      exact ⟨y1.mono (nx_ge y2), (wq_nx y2).1⟩
end WFH
