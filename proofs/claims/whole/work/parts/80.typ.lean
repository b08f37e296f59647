abbrev SB : Type := (Nat → Bool) × Nat
def tyL : List Int → SB → SB
  | [], x => x
  | v :: r, x => tyL r (tst v x)
def okL : List Int → SB → Prop
  | [], _ => True
  | v :: r, x => tok v x ∧ okL r (tst v x)
theorem tyL_a {v : List Int} : ∀ (u : List Int) (x : SB), tyL (u ++ v) x = tyL v (tyL u x)
  | [], _ => rfl
  | _ :: u, x => tyL_a u (tst _ x)
theorem okL_a {v : List Int} : ∀ (u : List Int) (x : SB), okL (u ++ v) x ↔ okL u x ∧ okL v (tyL u x)
  | [], _ => ⟨fun h => ⟨trivial, h⟩, fun h => h.2⟩
  | w :: u, x => by
    have ih := okL_a (v := v) u (tst w x)
    exact ⟨fun h => ⟨⟨h.1, (ih.1 h.2).1⟩, (ih.1 h.2).2⟩, fun h => ⟨h.1.1, ih.2 ⟨h.1.2, h.2⟩⟩⟩
def Psh (c : List Int) (b : Bool) (m : Nat) : Prop := ∀ τ t, t + m ≤ 64 → okL c (τ, t) ∧ (tyL c (τ, t)).2 = t + 1 ∧ (tyL c (τ, t)).1 t = b ∧ ∀ i, i < t → (tyL c (τ, t)).1 i = τ i
theorem Psh.mono {c : List Int} {b : Bool} {m m' : Nat} (h : Psh c b m) (hm : m ≤ m') : Psh c b m' := fun τ t ht => h τ t (by omega)
theorem upB_at {f : Nat → Bool} {k : Nat} {x : Bool} : upB f k x k = x := if_pos rfl
theorem upB_ne {f : Nat → Bool} {k i : Nat} {x : Bool} (h : i ≠ k) : upB f k x i = f i := if_neg h
theorem psh_num {v : Int} (h0 : 1000 ≤ v) (h1 : v ≤ 10999) : Psh [v] false 1 := by
  intro τ t ht
  have e : tst v (τ, t) = (upB τ t false, t + 1) := by unfold tst; rw [if_pos h0]
  show (tok v (τ, t) ∧ True) ∧ (tst v (τ, t)).2 = t + 1 ∧ (tst v (τ, t)).1 t = false ∧ ∀ i, i < t → (tst v (τ, t)).1 i = τ i
  rw [e]
  refine ⟨⟨?_, trivial⟩, rfl, upB_at, fun i hi => upB_ne (by omega)⟩
  unfold tok; rw [if_pos h0]; exact ⟨h1, by show t < 64; omega⟩
theorem psh_leaf {v : Int} (h0 : 40 ≤ v) (h1 : v ≤ 50) : Psh [v] false 1 := by
  intro τ t ht
  have e : tst v (τ, t) = (upB τ t false, t + 1) := by unfold tst; rw [if_neg (by omega), if_neg (by omega), if_pos h0]
  show (tok v (τ, t) ∧ True) ∧ (tst v (τ, t)).2 = t + 1 ∧ (tst v (τ, t)).1 t = false ∧ ∀ i, i < t → (tst v (τ, t)).1 i = τ i
  rw [e]
  refine ⟨⟨?_, trivial⟩, rfl, upB_at, fun i hi => upB_ne (by omega)⟩
  unfold tok; rw [if_neg (by omega), if_neg (by omega), if_pos h0]; exact ⟨h1, by show t < 64; omega⟩
theorem psh_all : Psh [13] true 1 := by
  intro τ t ht
  have e : tst 13 (τ, t) = (upB τ t true, t + 1) := rfl
  show (tok 13 (τ, t) ∧ True) ∧ (tst 13 (τ, t)).2 = t + 1 ∧ (tst 13 (τ, t)).1 t = true ∧ ∀ i, i < t → (tst 13 (τ, t)).1 i = τ i
  rw [e]
  refine ⟨⟨?_, trivial⟩, rfl, upB_at, fun i hi => upB_ne (by omega)⟩
  show t < 64
  omega
theorem psh_of {c : List Int} {m : Nat} (h : Psh c false m) : Psh (c ++ [60]) false m := by
  intro τ t ht
  obtain ⟨h1, h2, h3, h4⟩ := h τ t ht
  rw [okL_a, tyL_a]
  generalize tyL c (τ, t) = x at *
  have e : tst 60 x = x := by unfold tst; rw [if_neg (by decide), if_pos (by decide)]
  show (_ ∧ (tok 60 x ∧ True)) ∧ (tst 60 x).2 = t + 1 ∧ (tst 60 x).1 t = false ∧ ∀ i, i < t → (tst 60 x).1 i = τ i
  rw [e]
  refine ⟨⟨h1, ?_, trivial⟩, h2, h3, h4⟩
  unfold tok; rw [if_neg (by decide), if_pos (by decide)]
  exact ⟨rfl, by omega, by rw [h2]; exact h3⟩
theorem psh_not {c : List Int} {m : Nat} (h : Psh c true m) : Psh (c ++ [12]) true m := by
  intro τ t ht
  obtain ⟨h1, h2, h3, h4⟩ := h τ t ht
  rw [okL_a, tyL_a]
  generalize tyL c (τ, t) = x at *
  have e : tst 12 x = x := by unfold tst; rw [if_neg (by decide), if_neg (by decide), if_neg (by decide), if_neg (by decide), if_pos (by decide)]
  show (_ ∧ (tok 12 x ∧ True)) ∧ (tst 12 x).2 = t + 1 ∧ (tst 12 x).1 t = true ∧ ∀ i, i < t → (tst 12 x).1 i = τ i
  rw [e]
  refine ⟨⟨h1, ?_, trivial⟩, h2, h3, h4⟩
  unfold tok; rw [if_neg (by decide), if_neg (by decide), if_neg (by decide), if_neg (by decide), if_pos (by decide)]
  exact ⟨by omega, by rw [h2]; exact h3⟩
theorem psh_bin {c1' c2' : List Int} {m1 m2 : Nat} {v : Int} {b : Bool} (hv0 : 1 ≤ v) (hv1 : v ≤ 11) (hb : b = decide (10 ≤ v)) (h1 : Psh c1' b m1) (h2 : Psh c2' b m2) (m : Nat) (hm1 : m1 ≤ m) (hm2 : m2 + 1 ≤ m) : Psh (c1' ++ c2' ++ [v]) (decide (7 ≤ v)) m := by
  intro τ t ht
  obtain ⟨a1, a2, a3, a4⟩ := h1 τ t (by omega)
  simp only [okL_a, tyL_a]
  generalize tyL c1' (τ, t) = x at *
  obtain ⟨τ1, t1⟩ := x
  dsimp only at a2 a3 a4
  subst a2
  obtain ⟨b1, b2, b3, b4⟩ := h2 τ1 (t + 1) (by omega)
  generalize tyL c2' (τ1, t + 1) = y at *
  obtain ⟨τ2, t2⟩ := y
  dsimp only at b2 b3 b4
  subst b2
  have e : tst v (τ2, t + 1 + 1) = (upB τ2 t (decide (7 ≤ v)), t + 1) := by
    unfold tst; rw [if_neg (by omega), if_neg (by omega), if_neg (by omega), if_neg (by omega), if_neg (by omega)]; rfl
  show ((_ ∧ _) ∧ (tok v (τ2, t + 1 + 1) ∧ True)) ∧ (tst v (τ2, t + 1 + 1)).2 = t + 1 ∧ (tst v (τ2, t + 1 + 1)).1 t = _ ∧ ∀ i, i < t → (tst v (τ2, t + 1 + 1)).1 i = τ i
  rw [e]
  refine ⟨⟨⟨a1, b1⟩, ?_, trivial⟩, rfl, upB_at, fun i hi => ?_⟩
  · unfold tok; rw [if_neg (by omega), if_neg (by omega), if_neg (by omega), if_neg (by omega), if_neg (by omega)]
    refine ⟨hv0, hv1, by show 2 ≤ t + 1 + 1; omega, ?_, ?_⟩
    · show τ2 (t + 1 + 1 - 1) = _; rw [Nat.add_sub_cancel, b3, hb]
    · show τ2 (t + 1 + 1 - 2) = _; rw [show t + 1 + 1 - 2 = t by omega, b4 t (by omega), a3, hb]
  · show upB τ2 t _ i = τ i
    rw [upB_ne (by omega), b4 i (by omega), a4 i hi]
def lalL (k : Nat) (c : List Int) : Prop := ∀ v ∈ c, lal k v
theorem lalL_a {k : Nat} {c d : List Int} (h1 : lalL k c) (h2 : lalL k d) : lalL k (c ++ d) := by
  intro v hv
  rcases List.mem_append.mp hv with y | y
  · exact h1 v y
  · exact h2 v y
theorem lal_1 {k : Nat} {v : Int} (h : v < 40 ∨ 1000 ≤ v) : lalL k [v] := by
  intro w hw
  have : w = v := by simpa using hw
  subst this
  unfold lal
  exact ⟨fun h1 h2 => by omega, fun h1 h2 => by omega⟩
section TYP
variable {T : Nat → Int} {n k : Nat}
def Wl (k : Nat) (b : Bool) (m : Nat) (r : PRs) : Prop := ∀ q' c, r = .inr (q', c) → Psh c b m ∧ lalL k c
def WlF (k : Nat) (b : Bool) (m : Nat) (F : PS → PRs) : Prop := ∀ q, Wl k b m (F q)
theorem wl_inl {b : Bool} {m : Nat} {e : Int × Int} : Wl k b m (.inl e) := fun q' c h => by cases h
theorem wl_thn {b : Bool} {m : Nat} {r : PRs} {f : PS → List Int → PRs} (h : ∀ q1 c, r = .inr (q1, c) → Wl k b m (f q1 c)) : Wl k b m (thn r f) := by
  cases e : r with
  | inl e => exact wl_inl
  | inr x => obtain ⟨q1, c⟩ := x; exact h q1 c e
theorem wl_tkS {b : Bool} {m : Nat} {q : PS} {s : Int} {c : List Int} (h : Psh c b m ∧ lalL k c) : Wl k b m (tkS T n q s c) := by
  rcases tkS_c (T := T) (n := n) (q := q) (s := s) (c := c) with ⟨_, e⟩ | ⟨_, e⟩
  · rw [e]; intro q' c' h'; cases h'; exact h
  · rw [e]; exact wl_inl
theorem leaf_ok (hk : k ≤ 2) {i : Int} (h0 : 0 ≤ i) (h1 : i < (lw k).length) : (40 ≤ 40 + lcd k i ∧ 40 + lcd k i ≤ 50) ∧ lalL k [40 + lcd k i] := by
  have key : (40 ≤ 40 + lcd k i ∧ 40 + lcd k i ≤ 50) ∧ lal k (40 + lcd k i) := by
    have : k = 0 ∨ k = 1 ∨ k = 2 := by omega
    rcases this with rfl | rfl | rfl
    · have h1 : i < 5 := h1
      have : i = 0 ∨ i = 1 ∨ i = 2 ∨ i = 3 ∨ i = 4 := by omega
      rcases this with rfl | rfl | rfl | rfl | rfl <;> (unfold lal; decide)
    · have h1 : i < 5 := h1
      have : i = 0 ∨ i = 1 ∨ i = 2 ∨ i = 3 ∨ i = 4 := by omega
      rcases this with rfl | rfl | rfl | rfl | rfl <;> (unfold lal; decide)
    · have h1 : i < 7 := h1
      have : i = 0 ∨ i = 1 ∨ i = 2 ∨ i = 3 ∨ i = 4 ∨ i = 5 ∨ i = 6 := by omega
      rcases this with rfl | rfl | rfl | rfl | rfl | rfl | rfl <;> (unfold lal; decide)
  refine ⟨key.1, fun v hv => ?_⟩
  have : v = 40 + lcd k i := by simpa using hv
  rw [this]; exact key.2
theorem wl_part (hk : k ≤ 2) {opn : Bool} {sm pt : PS → PRs} {ms mp : Nat} (hs : WlF k false ms sm) (hp : WlF k false mp pt) (m : Nat) (h1 : 1 ≤ m) (h2 : ms + 1 ≤ m) (h3 : mp ≤ m) : WlF k false m (partF T n k opn sm pt) := by
  intro q
  unfold partF
  split
  · split
    · exact wl_inl
    · rename_i e
      intro q' c h; cases h
      have hv : 0 ≤ nuV T n q ∧ nuV T n q ≤ 9999 := by
        unfold nuR at e
        split at e
        · cases e
        · split at e
          · cases e
          · split at e
            · assumption
            · cases e
      exact ⟨(psh_num (by omega) (by omega)).mono h1, lal_1 (Or.inr (by omega))⟩
  split
  · split
    · refine wl_thn (fun q1 c h => wl_tkS ?_)
      have := hs _ q1 c h
      exact ⟨this.1.mono (by omega), this.2⟩
    · exact wl_inl
  split
  · unfold lgF
    split
    · split
      · refine wl_thn (fun q1 c h => wl_thn (fun q2 c2 h2' => wl_thn (fun q3 c3 h3' => wl_tkS ?_)))
        have a := hs _ q1 c h
        have ec : c2 = c := by
          rcases tkS_c (T := T) (n := n) (q := q1) (s := 44) (c := c) with ⟨_, e⟩ | ⟨_, e⟩
          · rw [e] at h2'; cases h2'; rfl
          · rw [e] at h2'; cases h2'
        subst ec
        have b := hs _ q3 c3 h3'
        obtain ⟨o, ho⟩ : ∃ o : Int, o = if isW T n q w_min = true then 5 else 6 := ⟨_, rfl⟩
        have ho1 : o = 5 ∨ o = 6 := by rw [ho]; split <;> simp
        rw [← ho]
        refine ⟨?_, lalL_a (lalL_a a.2 b.2) (lal_1 (Or.inl (by omega)))⟩
        have := psh_bin (v := o) (b := false) (by omega) (by omega) (by rcases ho1 with z | z <;> rw [z] <;> rfl) a.1 b.1 m (by omega) (by omega)
        rw [show decide (7 ≤ o) = false by rcases ho1 with z | z <;> rw [z] <;> rfl] at this
        exact this
      · exact wl_inl
    · exact wl_inl
  split
  · rename_i z
    split
    · refine wl_thn (fun q1 c h => ?_)
      have a := hp _ q1 c h
      intro q' c' h'; cases h'
      refine ⟨(psh_of a.1).mono h3, lalL_a a.2 (fun v hv => ?_)⟩
      have : v = 60 := by simpa using hv
      subst this
      unfold lal
      exact ⟨fun _ h => by omega, fun _ _ => z.1⟩
    · exact wl_inl
  split
  · exact wl_inl
  · rename_i z
    intro q' c h; cases h
    have hb := fnd_b (T := T) (n := n) (q := q) (ws := lw k) 0
    have hl := leaf_ok hk (i := fnd T n q 0 (lw k)) (by omega) (by omega)
    exact ⟨(psh_leaf hl.1.1 hl.1.2).mono h1, hl.2⟩
theorem wl_opF {a b ca cb : Int} {sub : PS → PRs} {ms m : Nat} (hca : 1 ≤ ca ∧ ca ≤ 4) (hcb : 1 ≤ cb ∧ cb ≤ 4) (hs : WlF k false ms sub) (hm : ms + 1 ≤ m) : ∀ f q c, Psh c false m → lalL k c → Wl k false m (opF T n a b ca cb sub f q c) := by
  intro f
  induction f with
  | zero => intro q c h1 h2 q' c' h; cases h; exact ⟨h1, h2⟩
  | succ f ih =>
    intro q c h1 h2
    show Wl k false m (if isG T n q a = true ∨ isG T n q b = true then _ else _)
    split
    · refine wl_thn (fun q1 c1' h => ?_)
      have g := hs _ q1 c1' h
      obtain ⟨o, ho⟩ : ∃ o : Int, o = if isG T n q a = true then ca else cb := ⟨_, rfl⟩
      have ho1 : 1 ≤ o ∧ o ≤ 4 := by rw [ho]; split; exact hca; exact hcb
      rw [← ho]
      have e7 : decide (7 ≤ o) = false := decide_eq_false (by omega)
      have := psh_bin (v := o) (b := false) (by omega) (by omega) (decide_eq_false (by omega)).symm h1 g.1 m (Nat.le_refl _) hm
      rw [e7] at this
      exact ih _ _ this (lalL_a (lalL_a h2 g.2) (lal_1 (Or.inl (by omega))))
    · intro q' c' h; cases h; exact ⟨h1, h2⟩
theorem wl_prod {sub : PS → PRs} {ms : Nat} (hs : WlF k false ms sub) : WlF k false (ms + 1) (prodF T n sub) := by
  intro q
  refine wl_thn (fun q1 c h => ?_)
  have g := hs q q1 c h
  exact wl_opF ⟨by decide, by decide⟩ ⟨by decide, by decide⟩ hs (Nat.le_refl _) _ _ _ (g.1.mono (by omega)) g.2
theorem wl_sum {sub : PS → PRs} {ms : Nat} (hs : WlF k false ms sub) : WlF k false (ms + 2) (sumF T n sub) := by
  intro q
  refine wl_thn (fun q1 c h => ?_)
  have g := wl_prod hs q q1 c h
  exact wl_opF ⟨by decide, by decide⟩ ⟨by decide, by decide⟩ (wl_prod hs) (Nat.le_refl _) _ _ _ (g.1.mono (by omega)) g.2
theorem wl_no {b : Bool} {m : Nat} : WlF k b m (fun _ => .inl (0, 0)) := fun _ => wl_inl
theorem wl_pt (hk : k ≤ 2) : ∀ r, WlF k false (1 + 3 * r) (ptL T n k r)
  | 0 => wl_part (ms := 0) (mp := 0) hk wl_no wl_no _ (by omega) (by omega) (by omega)
  | r + 1 => wl_part hk (wl_sum (wl_pt hk r)) (wl_pt hk r) _ (by omega) (by omega) (by omega)
theorem wl_sm (hk : k ≤ 2) (r : Nat) : WlF k false (3 + 3 * r) (smL T n k r) := by
  have := wl_sum (T := T) (n := n) (wl_pt (T := T) (n := n) hk r)
  rw [show 1 + 3 * r + 2 = 3 + 3 * r by omega] at this; exact this
theorem wl_fact {opn : Bool} {tst fct sm : PS → PRs} {mt mf ms : Nat} (ht : WlF k true mt tst) (hf : WlF k true mf fct) (hs : WlF k false ms sm) (m : Nat) (h1 : 1 ≤ m) (h2 : mt ≤ m) (h3 : mf ≤ m) (h4 : ms + 1 ≤ m) : WlF k true m (factF T n opn tst fct sm) := by
  intro q
  unfold factF
  split
  · split
    · refine wl_thn (fun q1 c h => ?_)
      have a := hf _ q1 c h
      intro q' c' h'; cases h'
      exact ⟨(psh_not a.1).mono h3, lalL_a a.2 (lal_1 (Or.inl (by decide)))⟩
    · exact wl_inl
  split
  · split
    · refine wl_thn (fun q1 c h => wl_tkS ?_)
      have a := ht _ q1 c h
      exact ⟨a.1.mono h2, a.2⟩
    · exact wl_inl
  split
  · intro q' c h; cases h
    exact ⟨psh_all.mono h1, lal_1 (Or.inl (by decide))⟩
  · refine wl_thn (fun q1 c h => ?_)
    have a := hs _ q1 c h
    split
    · exact wl_inl
    · rename_i z
      refine wl_thn (fun q2 c2 h' => ?_)
      have b := hs _ q2 c2 h'
      intro q' c' h''; cases h''
      have ho : cmpC T n q1 = 7 ∨ cmpC T n q1 = 8 ∨ cmpC T n q1 = 9 := by
        unfold cmpC at z ⊢
        split
        · exact Or.inl rfl
        · split
          · exact Or.inr (Or.inl rfl)
          · split
            · exact Or.inr (Or.inr rfl)
            · rename_i x y w; rw [if_neg x, if_neg y, if_neg w] at z; exact absurd rfl z
      refine ⟨?_, lalL_a (lalL_a a.2 b.2) (lal_1 (Or.inl (by omega)))⟩
      have := psh_bin (v := cmpC T n q1) (b := false) (by omega) (by omega) (decide_eq_false (by omega)).symm a.1 b.1 m (by omega) h4
      rw [show decide (7 ≤ cmpC T n q1) = true from decide_eq_true (by omega)] at this
      exact this
theorem wl_wlF {w : List Int} {cd : Int} {sub : PS → PRs} {ms m : Nat} (hcd : cd = 10 ∨ cd = 11) (hs : WlF k true ms sub) (hm : ms + 1 ≤ m) : ∀ f q c, Psh c true m → lalL k c → Wl k true m (wlF T n w cd sub f q c) := by
  intro f
  induction f with
  | zero => intro q c h1 h2 q' c' h; cases h; exact ⟨h1, h2⟩
  | succ f ih =>
    intro q c h1 h2
    show Wl k true m (if isW T n q w = true then _ else _)
    split
    · refine wl_thn (fun q1 c1' h => ?_)
      have g := hs _ q1 c1' h
      have e7 : decide (7 ≤ cd) = true := decide_eq_true (by omega)
      have := psh_bin (v := cd) (b := true) (by omega) (by omega) (decide_eq_true (by omega)).symm h1 g.1 m (Nat.le_refl _) hm
      rw [e7] at this
      exact ih _ _ this (lalL_a (lalL_a h2 g.2) (lal_1 (Or.inl (by omega))))
    · intro q' c' h; cases h; exact ⟨h1, h2⟩
theorem wl_both {sub : PS → PRs} {ms : Nat} (hs : WlF k true ms sub) : WlF k true (ms + 1) (bothF T n sub) := by
  intro q
  refine wl_thn (fun q1 c h => ?_)
  have g := hs q q1 c h
  exact wl_wlF (Or.inl rfl) hs (Nat.le_refl _) _ _ _ (g.1.mono (by omega)) g.2
theorem wl_test {sub : PS → PRs} {ms : Nat} (hs : WlF k true ms sub) : WlF k true (ms + 2) (testF T n sub) := by
  intro q
  refine wl_thn (fun q1 c h => ?_)
  have g := wl_both hs q q1 c h
  exact wl_wlF (Or.inr rfl) (wl_both hs) (Nat.le_refl _) _ _ _ (g.1.mono (by omega)) g.2
theorem wl_fc (hk : k ≤ 2) : ∀ r, WlF k true (4 + 3 * r) (fcL T n k r)
  | 0 => wl_fact (mt := 0) (mf := 0) wl_no wl_no (wl_sm hk 0) _ (by omega) (by omega) (by omega) (by omega)
  | r + 1 => wl_fact (wl_test (wl_fc hk r)) (wl_fc hk r) (wl_sm hk (r + 1)) _ (by omega) (by omega) (by omega) (by omega)
theorem wl_ts (hk : k ≤ 2) (r : Nat) : WlF k true (6 + 3 * r) (tsL T n k r) := by
  have := wl_test (T := T) (n := n) (wl_fc (T := T) (n := n) hk r)
  rw [show 4 + 3 * r + 2 = 6 + 3 * r by omega] at this; exact this
end TYP
theorem it_sh {α : Type} {f : Nat → α → α} {x : α} : ∀ j, it f (j + 1) x = it (fun i => f (i + 1)) j (f 0 x)
  | 0 => rfl
  | j + 1 => by
    show f (j + 1) (it f (j + 1) x) = f (j + 1) (it (fun i => f (i + 1)) j (f 0 x))
    rw [it_sh j]
theorem okL_it : ∀ (l : List Int) (x : SB), okL l x → (∀ j, j < l.length → tok (l.getD j 0) (it (fun i => tst (l.getD i 0)) j x)) ∧ it (fun i => tst (l.getD i 0)) l.length x = tyL l x
  | [], _, _ => ⟨fun j hj => absurd hj (Nat.not_lt_zero j), rfl⟩
  | v :: r, x, h => by
    obtain ⟨a, b⟩ := okL_it r (tst v x) h.2
    refine ⟨fun j hj => ?_, ?_⟩
    · cases j with
      | zero => exact h.1
      | succ j =>
        rw [it_sh]
        exact a j (by have : (v :: r).length = r.length + 1 := rfl; omega)
    · show it (fun i => tst ((v :: r).getD i 0)) (r.length + 1) x = tyL r (tst v x)
      rw [it_sh]
      exact b
theorem typ_of {c : List Int} {b : Bool} {m : Nat} (h : Psh c b m) (hm : m ≤ 64) : Typed (fun i => c.getD i 0) c.length b := by
  obtain ⟨h1, h2, h3, h4⟩ := h (fun _ => false) 0 (by omega)
  obtain ⟨a1, a2⟩ := okL_it c (fun _ => false, 0) h1
  refine ⟨fun j hj => a1 j hj, ?_, ?_⟩
  · show (it (fun i => tst (c.getD i 0)) c.length (fun _ => false, 0)).2 = 1
    rw [a2]; exact h2
  · show (it (fun i => tst (c.getD i 0)) c.length (fun _ => false, 0)).1 0 = b
    rw [a2]; exact h3
