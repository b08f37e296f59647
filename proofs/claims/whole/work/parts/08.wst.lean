/-! a step keeps ranges -/
theorem ax_et_le (t : Nat) (h : t ≤ 3) : ax_et t = if t = 1 then 1 else 0 := by
  match t, h with
  | 0, _ => rfl
  | 1, _ => rfl
  | 2, _ => rfl
  | 3, _ => rfl
theorem ax_fk3 : ∀ l ∈ ax_fk, ∀ k ∈ l, k ≤ 3 := by decide +kernel
theorem ax_fty3 (c k : Nat) : ax_fty c k ≤ 3 := by
  unfold ax_fty
  by_cases h : k < (ax_fk.getD c []).length
  · have h1 : (ax_fk.getD c []).getD k 0 ∈ ax_fk.getD c [] := by
      rw [List.getD_eq_getElem?_getD (l := ax_fk.getD c []), List.getElem?_eq_getElem h]
      exact List.getElem_mem h
    by_cases hc : c < ax_fk.length
    · refine ax_fk3 (ax_fk.getD c []) ?_ _ h1
      rw [List.getD_eq_getElem?_getD, List.getElem?_eq_getElem hc]
      exact List.getElem_mem hc
    · rw [show ax_fk.getD c [] = [] by rw [List.getD_eq_getElem?_getD, List.getElem?_eq_none (by omega)]; rfl] at h
      simp at h
  · rw [List.getD_eq_getElem?_getD (l := ax_fk.getD c []), List.getElem?_eq_none (by omega)]
    decide
theorem ax_wE {n t : Nat} {x : Int} (ht : t ≤ 5) (h : ax_we n t x) : ax_wv n (ax_et t, x) := by
  obtain ⟨h0, h1, h2, h3, h4⟩ := h
  match t, ht with
  | 0, _ => exact ax_wI (h0 rfl)
  | 1, _ => exact ax_wL (h1 rfl)
  | 2, _ => exact ax_wI (by have := h2 rfl; constructor <;> omega)
  | 3, _ => exact ax_wI (by have := h3 rfl; constructor <;> omega)
  | 4, _ => exact ax_wR (h4 (by decide)).2
  | 5, _ => exact ax_wR (h4 (by decide)).2
theorem ax_wF {n t : Nat} {x : Int} (ht : t ≤ 3) (h : ax_wf n t x) : ax_wv n (ax_ft t, x) := by
  obtain ⟨h0, h1, h2, h3⟩ := h
  match t, ht with
  | 0, _ => exact ax_wI (h0 rfl)
  | 1, _ => exact ax_wL (h1 rfl)
  | 2, _ => exact ax_wR (h2 rfl)
  | 3, _ => exact ax_wI (by have := h3 rfl; constructor <;> omega)
theorem ax_es_w {n t : Nat} {v : ax_V} (hv : ax_wv n v) (h : ax_es t v = true) : ax_we n t v.2 := by
  match t, h with
  | 0, h => exact ⟨fun _ => hv.1 (of_decide_eq_true h), fun e => (by cases e), fun e => (by cases e), fun e => (by cases e), fun e => (by omega)⟩
  | 1, h => exact ⟨fun e => (by cases e), fun _ => hv.2.1 (of_decide_eq_true h), fun e => (by cases e), fun e => (by cases e), fun e => (by omega)⟩
  | 2, h => exact ⟨fun e => (by cases e), fun e => (by cases e), fun _ => (of_decide_eq_true h).2, fun e => (by cases e), fun e => (by omega)⟩
  | 3, h => exact ⟨fun e => (by cases e), fun e => (by cases e), fun e => (by cases e), fun _ => (of_decide_eq_true h).2, fun e => (by omega)⟩
  | t + 4, h => cases h
theorem ax_fs_w {n t : Nat} {v : ax_V} (hv : ax_wv n v) (h : ax_fs t v = true) : ax_wf n t v.2 := by
  match t, h with
  | 0, h => exact ⟨fun _ => hv.1 (of_decide_eq_true h), fun e => (by cases e), fun e => (by cases e), fun e => (by cases e)⟩
  | 1, h => exact ⟨fun e => (by cases e), fun _ => hv.2.1 (of_decide_eq_true h), fun e => (by cases e), fun e => (by cases e)⟩
  | 2, h => exact ⟨fun e => (by cases e), fun e => (by cases e), fun _ => hv.2.2 (of_decide_eq_true h), fun e => (by cases e)⟩
  | 3, h => exact ⟨fun e => (by cases e), fun e => (by cases e), fun e => (by cases e), fun _ => (of_decide_eq_true h).2⟩
  | t + 4, h => cases h
theorem ax_wm_up {sh : List ax_H} {M : ax_M} {a k : Nat} {x : Int} (hm : ax_wm sh M) (hx : ∀ h, sh[a]? = some h → (h.1 = 0 → ax_wf sh.length (ax_fty h.2.1 k) x) ∧ (h.1 = 1 → ax_we sh.length h.2.1 x)) : ax_wm sh (ax_up M a k x) := by
  intro b h hb
  rcases hm b h hb with ⟨p, q, r, w⟩ | ⟨p, q, r, w, w4⟩
  · refine Or.inl ⟨p, q, r, fun j hj => ?_⟩
    unfold ax_up
    by_cases e : b = a ∧ j = k
    · rw [if_pos e]
      obtain ⟨rfl, rfl⟩ := e
      exact (hx h hb).1 p
    · rw [if_neg e]
      exact w j hj
  · refine Or.inr ⟨p, q, r, fun j hj => ?_, fun h4 j => ?_⟩
    · unfold ax_up
      by_cases e : b = a ∧ j = k
      · rw [if_pos e]
        obtain ⟨rfl, rfl⟩ := e
        exact (hx h hb).2 p
      · rw [if_neg e]
        exact w j hj
    · unfold ax_up
      by_cases e : b = a ∧ j = k
      · rw [if_pos e]
        obtain ⟨rfl, rfl⟩ := e
        exact ((hx h hb).2 p).2.2.2.2 h4
      · rw [if_neg e]
        exact w4 h4 j
theorem ax_wm_add {sh : List ax_H} {M : ax_M} {t : List ax_H} {M' : ax_M} (hm : ax_wm sh M) (h1 : ∀ b, b < sh.length → M' b = M b) (h2 : ∀ (b : Nat) (h : ax_H), t[b]? = some h → ax_wh (sh ++ t).length h (M' (sh.length + b))) : ax_wm (sh ++ t) M' := by
  intro b h hb
  by_cases hl : b < sh.length
  · rw [List.getElem?_append_left hl] at hb
    rw [h1 b hl]
    exact ax_wh_le (hm b h hb) (by simp)
  · rw [List.getElem?_append_right (by omega)] at hb
    have := h2 (b - sh.length) h hb
    rwa [show sh.length + (b - sh.length) = b by omega] at this
theorem ax_ald_w {L : Nat} {X : Nat → Int} {sh : List ax_H} {M : ax_M} {t : Nat} {a k : Int} {v : ax_V} (hX : ∀ k, ax_i (X k)) (hm : ax_wm sh M) (h : ax_ald L X sh M t a k = some v) : ax_wv sh.length v := by
  unfold ax_ald at h
  split at h
  · split at h
    · rename_i u n hq
      split at h
      · rename_i q
        cases h
        rcases hm _ _ hq with ⟨p, -⟩ | ⟨-, p, -, w, -⟩
        · cases p
        · have hw := w k.toNat (by show k.toNat < n; omega)
          rcases q.1 with e | ⟨e1, e2⟩
          · subst e
            exact ax_wE p hw
          · subst e1; subst e2
            exact ax_wR (hw.2.2.2.2 (by show 4 ≤ 5; decide)).2
      · cases h
    · cases h
  · split at h
    · split at h
      · cases h
        exact ax_wI (hX _)
      · cases h
    · split at h
      · split at h
        · cases h
          exact ax_wI (ax_mo_w _)
        · cases h
      · split at h
        · split at h
          · rename_i q
            cases h
            have := ax_by_w2 a k.toNat (by omega)
            exact ax_wI (by constructor <;> omega)
          · cases h
        · cases h
theorem ax_get_w {sh : List ax_H} {M : ax_M} {c k : Nat} {a : Int} {v : ax_V} (hm : ax_wm sh M) (h : ax_get sh M c k a = some v) : ax_wv sh.length v := by
  unfold ax_get at h
  split at h
  · split at h
    · rename_i c' n hq
      split at h
      · rename_i q
        cases h
        rcases hm _ _ hq with ⟨-, -, -, w⟩ | ⟨p, -⟩
        · have hw := w k q.2
          rw [q.1] at hw
          exact ax_wF (ax_fty3 c k) hw
        · cases p
      · cases h
    · cases h
  · split at h
    · split at h
      · cases h
        rename_i q _
        exact ax_wR (by omega)
      · split at h
        · cases h
          exact ax_wI (by decide)
        · cases h
    · cases h
theorem ax_aln_w {L : Nat} {sh : List ax_H} {M : ax_M} {a n : Int} (hL : L ≤ 3072) (hm : ax_wm sh M) (h : ax_aln L sh a = some n) : ax_i n := by
  unfold ax_aln at h
  split at h
  · split at h
    · rename_i u m hq
      cases h
      rcases hm _ _ hq with ⟨p, -⟩ | ⟨-, -, p, -⟩
      · cases p
      · have p : m ≤ 10000 := p
        constructor <;> omega
    · cases h
  · split at h
    · have h := h
      cases h
      constructor <;> omega
    · split at h
      · cases h
        have hb : ∀ q ∈ ax_tx, q.2.length < 1000 := by decide +kernel
        have : (ax_by a).length < 1000 := by
          unfold ax_by
          by_cases hq : ax_sx (a + 1) < ax_tx.length
          · refine hb _ ?_
            rw [List.getD_eq_getElem?_getD, List.getElem?_eq_getElem hq]
            exact List.getElem_mem hq
          · rw [show ax_tx.getD (ax_sx (a + 1)) ("", []) = ("", []) by
              rw [List.getD_eq_getElem?_getD, List.getElem?_eq_none (by omega)]; rfl]
            decide
        constructor <;> omega
      · cases h
theorem ax_nw_old (M : ax_M) (o : Nat) (f : Nat → Int) {b : Nat} (h : b < o) : ax_nw M o f b = M b := by
  funext k
  unfold ax_nw
  rw [if_neg (by omega)]
theorem ax_nw_at (M : ax_M) (o : Nat) (f : Nat → Int) : ax_nw M o f (o + 0) = f := by
  funext k
  unfold ax_nw
  rw [if_pos (by omega)]
theorem ax_nr_old (M : ax_M) (o n : Nat) {b : Nat} (h : b < o) : ax_nr M o n b = M b := by
  funext k
  unfold ax_nr
  rw [if_neg (by omega), if_neg (by omega)]
theorem ax_nr_at (M : ax_M) (o n k : Nat) : ax_nr M o n (o + 0) k = if k < n then ((o + 1 + k : Nat) : Int) else -1 := by
  unfold ax_nr
  rw [if_pos (by omega)]
theorem ax_nr_row (M : ax_M) (o n b k : Nat) : ax_nr M o n (o + (b + 1)) k = 0 := by
  unfold ax_nr
  rw [if_neg (by omega), if_pos (by omega)]
def ax_fine (sh : List ax_H) (S : ax_S) : Prop := (∃ t, S.2.2.2.1 = sh ++ t) ∧ ax_wm S.2.2.2.1 S.2.2.2.2 ∧ ax_ws S.2.2.2.1.length S.2.1 ∧ ax_ws S.2.2.2.1.length S.2.2.1
theorem ax_fine0 {sh : List ax_H} {M : ax_M} {i : Nat} {ll st : List ax_V} (hm : ax_wm sh M) (hl : ax_ws sh.length ll) (hs : ax_ws sh.length st) : ax_fine sh (i, ll, st, sh, M) := ⟨⟨[], by simp⟩, hm, hl, hs⟩
theorem ax_wstep {L : Nat} {X : Nat → Int} {j i : Nat} {o : ax_O} {ll st : List ax_V} {sh : List ax_H} {M : ax_M} {S : ax_S} (hX : ∀ k, ax_i (X k)) (hL : L ≤ 3072) (ho : ax_sml j o = true) (hm : ax_wm sh M) (hl : ax_ws sh.length ll) (hs : ax_ws sh.length st) (h : ax_step L X o i ll st sh M = some S) : ax_fine sh S := by
  obtain ⟨n, f, g, b⟩ := o
  match n, h, ho with
  | 0, h, ho =>
    cases h
    have ho := of_decide_eq_true ho
    exact ax_fine0 hm hl (ax_ws_c (ax_wI ho.2.1) hs)
  | 1, h, ho =>
    cases h
    have ho := of_decide_eq_true ho
    exact ax_fine0 hm hl (ax_ws_c (ax_wL ho.2.1) hs)
  | 2, h, ho =>
    cases h
    have ho := of_decide_eq_true ho
    have h2 : b < -1 := ho.2.1
    exact ax_fine0 hm hl (ax_ws_c (ax_wR (by omega)) hs)
  | 3, h, ho =>
    have h : ax_x3 f g i ll st sh M = some S := h
    unfold ax_x3 at h
    split at h
    · rename_i v hv
      split at h
      · cases h
        exact ax_fine0 hm hl (ax_ws_c (hl v (List.mem_of_getElem? hv)) hs)
      · cases h
    · cases h
  | 4, h, ho =>
    have h : ax_x4 f g i ll st sh M = some S := h
    cases st with
    | nil => cases h
    | cons v st0 =>
      have h : (if v.1 = f ∧ g + (if v.1 = 1 then 1 else 0) < ll.length then some (i + 1, ax_set ll g v, st0, sh, M) else none) = some S := h
      by_cases q : v.1 = f ∧ g + (if v.1 = 1 then 1 else 0) < ll.length
      · rw [if_pos q] at h
        cases h
        exact ax_fine0 hm (ax_wset (ax_ws_h hs) hl) (ax_ws_t hs)
      · rw [if_neg q] at h
        cases h
  | 5, h, ho =>
    have h : ax_x5 f b i ll st sh M = some S := h
    unfold ax_x5 at h
    split at h
    · split at h
      · rename_i q
        cases h
        exact ax_fine0 hm (ax_wset (ax_wI q) hl) hs
      · cases h
    · cases h
  | 6, h, ho =>
    have h : ax_x6 f i ll st sh M = some S := h
    unfold ax_x6 at h
    split at h
    · split at h
      · rename_i z hz
        cases h
        have h1 := (ax_ws_h (ax_ws_t hs)).1 rfl
        exact ax_fine0 hm hl (ax_ws_c (ax_wI (ax_ib_w h1 hz)) (ax_ws_t (ax_ws_t hs)))
      · cases h
    · cases h
  | 7, h, ho =>
    have h : ax_x7 f i ll st sh M = some S := h
    unfold ax_x7 at h
    split at h
    · split at h
      · rename_i z hz
        cases h
        have h1 := (ax_ws_h (ax_ws_t hs)).2.1 rfl
        exact ax_fine0 hm hl (ax_ws_c (ax_wL (ax_lb_w h1 hz)) (ax_ws_t (ax_ws_t hs)))
      · cases h
    · cases h
  | 8, h, ho =>
    have h : ax_x8 i ll st sh M = some S := h
    unfold ax_x8 at h
    split at h
    · split at h
      · rename_i q
        cases h
        exact ax_fine0 hm hl (ax_ws_c (ax_wI q) (ax_ws_t hs))
      · cases h
    · cases h
  | 9, h, ho =>
    have h : ax_x9 i ll st sh M = some S := h
    unfold ax_x9 at h
    split at h
    · cases h
      have h1 := (ax_ws_h hs).1 rfl
      exact ax_fine0 hm hl (ax_ws_c (ax_wL (by obtain ⟨p, q⟩ := h1; constructor <;> (dsimp only at p q; omega))) (ax_ws_t hs))
    · cases h
  | 10, h, ho =>
    have h : ax_x10 i ll st sh M = some S := h
    unfold ax_x10 at h
    split at h
    · split at h
      · rename_i q
        cases h
        exact ax_fine0 hm hl (ax_ws_c (ax_wI q) (ax_ws_t hs))
      · cases h
    · cases h
  | 11, h, ho =>
    have h : ax_x11 i ll st sh M = some S := h
    unfold ax_x11 at h
    split at h
    · cases h
      exact ax_fine0 hm hl (ax_ws_c (ax_wI (by unfold ax_cmp; split <;> (try split) <;> decide)) (ax_ws_t (ax_ws_t hs)))
    · cases h
  | 12, h, ho =>
    have h : ax_x12 f g i ll st sh M = some S := h
    unfold ax_x12 at h
    split at h
    · cases h
      exact ax_fine0 hm hl (ax_ws_t hs)
    · cases h
  | 13, h, ho =>
    have h : ax_x13 f g i ll st sh M = some S := h
    unfold ax_x13 at h
    split at h
    · cases h
      exact ax_fine0 hm hl (ax_ws_t (ax_ws_t hs))
    · cases h
  | 14, h, ho =>
    cases h
    exact ax_fine0 hm hl hs
  | 15, h, ho =>
    have h : ax_x15 f ll st sh M = some S := h
    unfold ax_x15 at h
    split at h
    · split at h
      · cases h
        exact ax_fine0 hm hl (ax_ws_t hs)
      · cases h
    · cases h
  | 16, h, ho =>
    have h : ax_x16 i ll st sh M = some S := h
    unfold ax_x16 at h
    split at h
    · split at h
      · cases h
        exact ax_fine0 hm hl (ax_ws_c (ax_ws_h hs) hs)
      · cases h
    · cases h
  | 17, h, ho =>
    have h : ax_x17 i ll st sh M = some S := h
    unfold ax_x17 at h
    split at h
    · split at h
      · cases h
        exact ax_fine0 hm hl (ax_ws_c (ax_ws_h hs) (ax_ws_c (ax_ws_h (ax_ws_t hs)) hs))
      · cases h
    · cases h
  | 18, h, ho =>
    have h : ax_x18 i ll st sh M = some S := h
    unfold ax_x18 at h
    split at h
    · split at h
      · cases h
        exact ax_fine0 hm hl (ax_ws_t hs)
      · cases h
    · cases h
  | 19, h, ho =>
    have h : ax_x19 f g i ll st sh M = some S := h
    unfold ax_x19 at h
    split at h
    · split at h
      · rename_i v hv
        cases h
        exact ax_fine0 hm hl (ax_ws_c (ax_get_w hm hv) (ax_ws_t hs))
      · cases h
    · cases h
  | 20, h, ho =>
    have h : ax_x20 f g i ll st sh M = some S := h
    unfold ax_x20 at h
    split at h
    · split at h
      · rename_i q
        cases h
        refine ax_fine0 (ax_wm_up hm (fun z hz => ?_)) hl (ax_ws_t (ax_ws_t hs))
        rw [q.2.1] at hz
        cases hz
        exact ⟨fun _ => ax_fs_w (ax_ws_h hs) q.2.2.2, fun e => (by cases e)⟩
      · cases h
    · cases h
  | 21, h, ho =>
    have h : ax_x21 L X f i ll st sh M = some S := h
    unfold ax_x21 at h
    split at h
    · split at h
      · rename_i v hv
        cases h
        exact ax_fine0 hm hl (ax_ws_c (ax_ald_w hX hm hv) (ax_ws_t (ax_ws_t hs)))
      · cases h
    · cases h
  | 22, h, ho =>
    have h : ax_x22 f i ll st sh M = some S := h
    unfold ax_x22 at h
    split at h
    · split at h
      · rename_i u n hu
        split at h
        · rename_i q
          cases h
          refine ax_fine0 (ax_wm_up hm (fun z hz => ?_)) hl (ax_ws_t (ax_ws_t (ax_ws_t hs)))
          rw [hu] at hz
          cases hz
          refine ⟨fun e => (by cases e), fun _ => ?_⟩
          show ax_we sh.length u _
          rw [q.2.1]
          exact ax_es_w (ax_ws_h hs) q.2.2.1
        · cases h
      · cases h
    · cases h
  | 23, h, ho =>
    have h : ax_x23 L i ll st sh M = some S := h
    unfold ax_x23 at h
    split at h
    · split at h
      · rename_i v hv
        cases h
        exact ax_fine0 hm hl (ax_ws_c (ax_wI (ax_aln_w hL hm hv)) (ax_ws_t hs))
      · cases h
    · cases h
  | 24, h, ho =>
    have h : ax_x24 f i ll st sh M = some S := h
    have ho : f ≤ 3 := of_decide_eq_true ho
    unfold ax_x24 at h
    split at h
    · split at h
      · rename_i q
        cases h
        refine ⟨⟨_, rfl⟩, ax_wm_add hm (fun b hb => ?_) (fun b z hz => ?_), ax_ws_le hl (by simp), ax_ws_c (ax_wR (by simp; omega)) (ax_ws_le (ax_ws_t hs) (by simp))⟩
        · exact ax_nw_old M sh.length _ hb
        · have hb : b < 1 := (List.getElem?_eq_some_iff.mp hz).1
          rw [show b = 0 by omega] at hz ⊢
          cases hz
          refine Or.inr ⟨rfl, (by show f ≤ 5; omega), (by show Int.toNat _ ≤ 10000; omega), fun k _ => ?_, fun h4 => absurd h4 (by show ¬ 4 ≤ f; omega)⟩
          show ax_we _ f (ax_nw M sh.length (fun _ => 0) (sh.length + 0) k)
          rw [ax_nw_at]
          exact ⟨fun _ => (by decide), fun _ => (by decide), fun _ => (by decide), fun _ => (by decide), fun e => (by omega)⟩
      · cases h
    · cases h
  | 25, h, ho =>
    have ho : f < 13 := of_decide_eq_true ho
    cases h
    refine ⟨⟨_, rfl⟩, ax_wm_add hm (fun b hb => ?_) (fun b z hz => ?_), ax_ws_le hl (by simp), ax_ws_c (ax_wR (by simp; omega)) (ax_ws_le hs (by simp))⟩
    · exact ax_nw_old M sh.length _ hb
    · have hb : b < 1 := (List.getElem?_eq_some_iff.mp hz).1
      rw [show b = 0 by omega] at hz ⊢
      cases hz
      refine Or.inl ⟨rfl, ho, rfl, fun k _ => ?_⟩
      show ax_wf _ (ax_fty f k) (ax_nw M sh.length (ax_df f) (sh.length + 0) k)
      rw [ax_nw_at]
      unfold ax_df
      split
      · rename_i e
        rw [e]
        exact ⟨fun e => (by cases e), fun e => (by cases e), fun _ => (by omega), fun e => (by cases e)⟩
      · rename_i e
        exact ⟨fun _ => (by decide), fun _ => (by decide), fun e2 => absurd e2 e, fun _ => (by decide)⟩
  | 26, h, ho =>
    have h : ax_x26 f i ll st sh M = some S := h
    have ho : f ≤ 1 := of_decide_eq_true ho
    unfold ax_x26 at h
    split at h
    · split at h
      · rename_i kk nn st0 hq1 hq0 q
        cases h
        refine ⟨⟨_, rfl⟩, ax_wm_add hm (fun b hb => ?_) (fun b z hz => ?_), ax_ws_le hl (by simp), ax_ws_c (ax_wR (by simp; omega)) (ax_ws_le (ax_ws_t (ax_ws_t hs)) (by simp))⟩
        · exact ax_nr_old M sh.length _ hb
        · cases b with
          | zero =>
            cases hz
            have hk : ∀ k, -1 ≤ ax_nr M sh.length nn.toNat (sh.length + 0) k ∧ ax_nr M sh.length nn.toNat (sh.length + 0) k < ((sh ++ (1, 4 + f, nn.toNat) :: List.replicate nn.toNat (1, f, kk.toNat)).length : Int) := by
              intro k
              rw [ax_nr_at]
              simp only [List.length_append, List.length_cons, List.length_replicate]
              split <;> omega
            exact Or.inr ⟨rfl, (by show 4 + f ≤ 5; omega), (by show Int.toNat _ ≤ 10000; omega), fun k _ => ⟨fun e => (by have e : 4 + f = 0 := e; omega), fun e => (by have e : 4 + f = 1 := e; omega), fun e => (by have e : 4 + f = 2 := e; omega), fun e => (by have e : 4 + f = 3 := e; omega), fun _ => hk k⟩, fun _ => hk⟩
          | succ b =>
            have hz : (List.replicate nn.toNat ((1, f, kk.toNat) : ax_H))[b]? = some z := hz
            have hz : z = (1, f, kk.toNat) := List.eq_of_mem_replicate (List.mem_of_getElem? hz)
            subst hz
            refine Or.inr ⟨rfl, (by show f ≤ 5; omega), (by show Int.toNat _ ≤ 10000; omega), fun k _ => ?_, fun h4 => absurd h4 (by show ¬ 4 ≤ f; omega)⟩
            show ax_we _ f (ax_nr M sh.length nn.toNat (sh.length + (b + 1)) k)
            rw [ax_nr_row]
            exact ⟨fun _ => (by decide), fun _ => (by decide), fun _ => (by decide), fun _ => (by decide), fun e => (by omega)⟩
      · cases h
    · cases h
  | 27, h, ho => cases h
  | 28, h, ho => cases h
  | 29, h, ho =>
    have h : ax_x29 i ll st sh M = some S := h
    unfold ax_x29 at h
    split at h
    · split at h
      · rename_i la lb hla hlb
        split at h
        · rename_i q
          cases h
          refine ax_fine0 (fun b z hz => ?_) hl (ax_ws_t (ax_ws_t (ax_ws_t (ax_ws_t (ax_ws_t hs)))))
          rcases hm b z hz with ⟨p, r, u, w⟩ | ⟨p, r, u, w, w4⟩
          · refine Or.inl ⟨p, r, u, fun k hk => ?_⟩
            unfold ax_cpy
            split
            · rename_i q2
              rw [q2.1, hlb] at hz
              cases hz
              cases p
            · exact w k hk
          · refine Or.inr ⟨p, r, u, fun k hk => ?_, fun h4 k => ?_⟩
            · unfold ax_cpy
              split
              · rename_i q2
                rw [q2.1, hlb] at hz
                cases hz
                rcases hm _ _ hla with ⟨p2, -⟩ | ⟨-, -, -, w2, -⟩
                · cases p2
                · exact w2 _ (by show _ < la; omega)
              · exact w k hk
            · unfold ax_cpy
              split
              · rename_i q2
                rw [q2.1, hlb] at hz
                cases hz
                exact absurd h4 (by show ¬ 4 ≤ 0; decide)
              · exact w4 h4 k
        · cases h
      · cases h
    · cases h
  | 30, h, ho =>
    have h : ax_x30 i ll st sh M = some S := h
    unfold ax_x30 at h
    split at h
    · split at h
      · cases h
        exact ax_fine0 hm hl (ax_ws_t hs)
      · cases h
    · cases h
  | 31, h, ho =>
    have h : ax_x31 i ll st sh M = some S := h
    unfold ax_x31 at h
    split at h
    · cases h
      exact ax_fine0 hm hl (ax_ws_c (ax_wI (by constructor <;> omega)) (ax_ws_t hs))
    · cases h
  | n + 32, h, ho => cases h
