/-! numbers keep to their ranges, references to the cells that there are -/
def ax_wv (n : Nat) (v : ax_V) : Prop := (v.1 = 0 → ax_i v.2) ∧ (v.1 = 1 → ax_l v.2) ∧ (v.1 = 2 → v.2 < n)
def ax_we (n t : Nat) (x : Int) : Prop := (t = 0 → ax_i x) ∧ (t = 1 → ax_l x) ∧ (t = 2 → 0 ≤ x ∧ x < 65536) ∧ (t = 3 → 0 ≤ x ∧ x < 2) ∧ (4 ≤ t → -1 ≤ x ∧ x < n)
def ax_wf (n f : Nat) (x : Int) : Prop := (f = 0 → ax_i x) ∧ (f = 1 → ax_l x) ∧ (f = 2 → x < n) ∧ (f = 3 → 0 ≤ x ∧ x < 2)
def ax_wh (n : Nat) (h : ax_H) (f : Nat → Int) : Prop := (h.1 = 0 ∧ h.2.1 < 13 ∧ h.2.2 = ax_fl h.2.1 ∧ ∀ k, k < h.2.2 → ax_wf n (ax_fty h.2.1 k) (f k)) ∨ (h.1 = 1 ∧ h.2.1 ≤ 5 ∧ h.2.2 ≤ 10000 ∧ (∀ k, k < h.2.2 → ax_we n h.2.1 (f k)) ∧ (4 ≤ h.2.1 → ∀ k, -1 ≤ f k ∧ f k < n))
def ax_wm (sh : List ax_H) (M : ax_M) : Prop := ∀ (a : Nat) (h : ax_H), sh[a]? = some h → ax_wh sh.length h (M a)
def ax_ws (n : Nat) (vs : List ax_V) : Prop := ∀ v ∈ vs, ax_wv n v
theorem ax_ws_n {n : Nat} : ax_ws n [] := fun _ h => by cases h
theorem ax_ws_c {n : Nat} {v : ax_V} {vs : List ax_V} (h : ax_wv n v) (hs : ax_ws n vs) : ax_ws n (v :: vs) := fun w hw => by
  rcases List.mem_cons.mp hw with rfl | hw
  · exact h
  · exact hs w hw
theorem ax_ws_h {n : Nat} {v : ax_V} {vs : List ax_V} (h : ax_ws n (v :: vs)) : ax_wv n v := h v List.mem_cons_self
theorem ax_ws_t {n : Nat} {v : ax_V} {vs : List ax_V} (h : ax_ws n (v :: vs)) : ax_ws n vs := fun w hw => h w (List.mem_cons_of_mem _ hw)
theorem ax_wv_le {n m : Nat} {v : ax_V} (h : ax_wv n v) (hnm : n ≤ m) : ax_wv m v := ⟨h.1, h.2.1, fun e => by have := h.2.2 e; omega⟩
theorem ax_ws_le {n m : Nat} {vs : List ax_V} (h : ax_ws n vs) (hnm : n ≤ m) : ax_ws m vs := fun v hv => ax_wv_le (h v hv) hnm
theorem ax_wh_le {n m : Nat} {h : ax_H} {f : Nat → Int} (w : ax_wh n h f) (hnm : n ≤ m) : ax_wh m h f := by
  rcases w with ⟨a, b, c, d⟩ | ⟨a, b, c, d, d2⟩
  · exact Or.inl ⟨a, b, c, fun k hk => ⟨(d k hk).1, (d k hk).2.1, fun e => by have := (d k hk).2.2.1 e; omega, (d k hk).2.2.2⟩⟩
  · exact Or.inr ⟨a, b, c, fun k hk => ⟨(d k hk).1, (d k hk).2.1, (d k hk).2.2.1, (d k hk).2.2.2.1, fun e => by have := (d k hk).2.2.2.2 e; omega⟩, fun e k => by have := d2 e k; omega⟩
theorem ax_wI {n : Nat} {x : Int} (h : ax_i x) : ax_wv n (0, x) := ⟨fun _ => h, fun e => (by cases e), fun e => (by cases e)⟩
theorem ax_wL {n : Nat} {x : Int} (h : ax_l x) : ax_wv n (1, x) := ⟨fun e => (by cases e), fun _ => h, fun e => (by cases e)⟩
theorem ax_wR {n : Nat} {x : Int} (h : x < n) : ax_wv n (2, x) := ⟨fun e => (by cases e), fun e => (by cases e), fun _ => h⟩
theorem ax_wU {n : Nat} : ax_wv n (3, 0) := ⟨fun e => (by cases e), fun e => (by cases e), fun e => (by cases e)⟩
theorem ax_i32 (z : Int32) : ax_i z.toInt := ⟨Int32.le_toInt z, Int32.toInt_lt z⟩
theorem ax_i64 (z : Int64) : ax_l z.toInt := ⟨Int64.le_toInt z, Int64.toInt_lt z⟩
theorem ax_ws_set {n i : Nat} {v : ax_V} {vs : List ax_V} (h : ax_wv n v) (hs : ax_ws n vs) : ax_ws n (vs.set i v) := fun w hw => by
  rcases List.mem_or_eq_of_mem_set hw with hw | rfl
  · exact hs w hw
  · exact h
theorem ax_wset {n i : Nat} {v : ax_V} {vs : List ax_V} (h : ax_wv n v) (hs : ax_ws n vs) : ax_ws n (ax_set vs i v) := by
  have h1 : ax_ws n (if v.1 = 1 then (vs.set i v).set (i + 1) (3, 0) else vs.set i v) := by
    split
    · exact ax_ws_set ax_wU (ax_ws_set h hs)
    · exact ax_ws_set h hs
  unfold ax_set
  cases i with
  | zero => exact h1
  | succ k =>
    dsimp only
    split
    · exact ax_ws_set ax_wU h1
    · exact h1
theorem ax_set_len (vs : List ax_V) (i : Nat) (v : ax_V) : (ax_set vs i v).length = vs.length := by
  have h1 : (if v.1 = 1 then (vs.set i v).set (i + 1) (3, 0) else vs.set i v).length = vs.length := by split <;> simp
  unfold ax_set
  cases i with
  | zero => exact h1
  | succ k =>
    dsimp only
    split
    · rw [List.length_set]; exact h1
    · exact h1
theorem ax_tmod_le (x y : Int) (h : ax_i x) (hy : y ≠ 0) : ax_i (x.tmod y) := by
  have h1 := Int.natAbs_tmod x y
  have h2 : x.natAbs % y.natAbs ≤ x.natAbs := Nat.mod_le _ _
  rcases Int.le_total 0 x with h0 | h0
  · have h3 := Int.tmod_nonneg y h0
    constructor <;> omega
  · have h3 : x.tmod y ≤ 0 := by
      have := Int.neg_tmod (-x) y
      rw [Int.neg_neg] at this
      have h4 := Int.tmod_nonneg y (show 0 ≤ -x by omega)
      omega
    constructor <;> omega
theorem ax_tmod_lel (x y : Int) (h : ax_l x) (hy : y ≠ 0) : ax_l (x.tmod y) := by
  have h1 := Int.natAbs_tmod x y
  have h2 : x.natAbs % y.natAbs ≤ x.natAbs := Nat.mod_le _ _
  rcases Int.le_total 0 x with h0 | h0
  · have h3 := Int.tmod_nonneg y h0
    constructor <;> omega
  · have h3 : x.tmod y ≤ 0 := by
      have := Int.neg_tmod (-x) y
      rw [Int.neg_neg] at this
      have h4 := Int.tmod_nonneg y (show 0 ≤ -x by omega)
      omega
    constructor <;> omega
theorem ax_ib_w {f : Nat} {x y z : Int} (hx : ax_i x) (h : ax_ib f x y = some z) : ax_i z := by
  unfold ax_ib at h
  split at h
  · split at h
    · cases h; assumption
    · cases h
  · split at h
    · cases h; assumption
    · cases h
  · split at h
    · cases h; assumption
    · cases h
  · split at h
    · rename_i q; cases h; exact q.2
    · cases h
  · split at h
    · rename_i q; cases h; exact ax_tmod_le x y hx q.1
    · cases h
  all_goals first | (cases h; exact ax_i32 _) | cases h
theorem ax_lb_w {f : Nat} {x y z : Int} (hx : ax_l x) (h : ax_lb f x y = some z) : ax_l z := by
  unfold ax_lb at h
  split at h
  · split at h
    · cases h; assumption
    · cases h
  · split at h
    · cases h; assumption
    · cases h
  · split at h
    · cases h; assumption
    · cases h
  · split at h
    · rename_i q; cases h; exact q.2
    · cases h
  · split at h
    · rename_i q; cases h; exact ax_tmod_lel x y hx q.1
    · cases h
  all_goals first | (cases h; exact ax_i64 _) | cases h
theorem ax_by_w : ∀ q ∈ ax_tx, ∀ b ∈ q.2, 0 ≤ b ∧ b < 128 := by decide +kernel
theorem ax_by_w2 (a : Int) (k : Nat) (h : k < (ax_by a).length) : 0 ≤ (ax_by a).getD k 0 ∧ (ax_by a).getD k 0 < 128 := by
  have h1 : (ax_by a).getD k 0 ∈ ax_by a := by
    rw [List.getD_eq_getElem?_getD, List.getElem?_eq_getElem h]
    exact List.getElem_mem h
  unfold ax_by at h1 ⊢
  by_cases hq : ax_sx (a + 1) < ax_tx.length
  · refine ax_by_w (ax_tx.getD (ax_sx (a + 1)) ("", [])) ?_ _ h1
    rw [List.getD_eq_getElem?_getD, List.getElem?_eq_getElem hq]
    exact List.getElem_mem hq
  · rw [show ax_tx.getD (ax_sx (a + 1)) ("", []) = ("", []) by
      rw [List.getD_eq_getElem?_getD, List.getElem?_eq_none (by omega)]; rfl] at h1
    cases h1
theorem ax_mo_w (k : Nat) : ax_i (ax_mo.getD k 0) := by
  by_cases h : k < 9
  · have h9 : ∀ k, k < 9 → ax_i (ax_mo.getD k 0) := by decide +kernel
    exact h9 k h
  · rw [List.getD_eq_getElem?_getD, List.getElem?_eq_none (by show 9 ≤ k; omega)]
    decide
