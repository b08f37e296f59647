/-! the cells of the machine that stand for the store -/
def ax_A (ad : Nat → Nat) (t : Nat) (f : Nat → Int) : (Nat → Int32) ⊕ (Nat → Int64) ⊕ (Nat → UInt32) ⊕ (Nat → UInt64) ⊕ (Nat → Option Nat) :=
  if t = 1 then .inr (.inl (fun k => Int64.ofInt (f k))) else if 4 ≤ t then .inr (.inr (.inr (.inr (fun k => if 0 ≤ f k then some (ad (f k).toNat) else none)))) else .inl (fun k => Int32.ofInt (f k))
def ax_F (cad : Int → Value) (ad : Nat → Nat) (c n : Nat) (f : Nat → Int) : List Value := (List.range n).map (fun k => ax_cv cad ad (ax_ft (ax_fty c k), f k))
def ax_E (cad : Int → Value) (Y : Nat → ClassId) (ad : Nat → Nat) (h : ax_H) (f : Nat → Int) : va_E :=
  if h.1 = 0 then .inr (h.2.1, ax_F cad ad h.2.1 h.2.2 f) else .inl (Y h.2.1, h.2.2, ax_A ad h.2.1 f)
def ax_Wd (cad : Int → Value) (Y : Nat → ClassId) (ad : Nat → Nat) (sh : List ax_H) (M : ax_M) : va_W := (List.range sh.length).map (fun a => (ad a, ax_E cad Y ad (sh.getD a (0, 0, 0)) (M a)))
def ax_ty (Y : Nat → ClassId) : List (ClassId × FieldType) := [(Y 0, .int), (Y 1, .long), (Y 2, .char), (Y 3, .boolean), (Y 4, .array .int), (Y 5, .array .long)]
def ax_sl (sh : List ax_H) : Nat := (sh.map (fun h => h.2.2)).sum
section AXD
variable {cad : Int → Value} {Y : Nat → ClassId} {ad ad' : Nat → Nat} {sh : List ax_H} {M M' : ax_M} {a : Nat} {h : ax_H}
theorem ax_Wd_len : (ax_Wd cad Y ad sh M).length = sh.length := by simp [ax_Wd]
theorem ax_Wd_at (e : sh[a]? = some h) : (ax_Wd cad Y ad sh M)[a]? = some (ad a, ax_E cad Y ad h (M a)) := by
  have hl : a < sh.length := (List.getElem?_eq_some_iff.mp e).1
  unfold ax_Wd
  rw [List.getElem?_map, List.getElem?_range hl]
  show some (ad a, ax_E cad Y ad (sh.getD a (0, 0, 0)) (M a)) = _
  rw [List.getD_eq_getElem?_getD, e]
  rfl
theorem ax_Wd_set (e : sh[a]? = some h) (hM : ∀ b, b ≠ a → M' b = M b) : (ax_Wd cad Y ad sh M).set a (ad a, ax_E cad Y ad h (M' a)) = ax_Wd cad Y ad sh M' := by
  have hl : a < sh.length := (List.getElem?_eq_some_iff.mp e).1
  refine List.ext_getElem? (fun k => ?_)
  by_cases hk : k = a
  · subst hk
    rw [List.getElem?_set_self (by rw [ax_Wd_len]; exact hl), ax_Wd_at e]
  · rw [List.getElem?_set_ne (fun q => hk q.symm)]
    by_cases hkl : k < sh.length
    · have e2 : sh[k]? = some sh[k] := List.getElem?_eq_getElem hkl
      rw [ax_Wd_at e2, ax_Wd_at e2, hM k hk]
    · rw [List.getElem?_eq_none (by rw [ax_Wd_len]; omega), List.getElem?_eq_none (by rw [ax_Wd_len]; omega)]
theorem ax_E_obj {c n : Nat} {f : Nat → Int} : ax_E cad Y ad (0, c, n) f = .inr (c, ax_F cad ad c n f) := rfl
theorem ax_E_arr {t n : Nat} {f : Nat → Int} : ax_E cad Y ad (1, t, n) f = .inl (Y t, n, ax_A ad t f) := rfl
theorem ax_F_at {c n k : Nat} {f : Nat → Int} (hk : k < n) : (ax_F cad ad c n f)[k]? = some (ax_cv cad ad (ax_ft (ax_fty c k), f k)) := by
  unfold ax_F
  rw [List.getElem?_map, List.getElem?_range hk]
  rfl
theorem ax_F_len {c n : Nat} {f : Nat → Int} : (ax_F cad ad c n f).length = n := by simp [ax_F]
theorem ax_F_set {c n k : Nat} {f f' : Nat → Int} (hk : k < n) (hf : ∀ j, j ≠ k → f' j = f j) : (ax_F cad ad c n f).set k (ax_cv cad ad (ax_ft (ax_fty c k), f' k)) = ax_F cad ad c n f' := by
  refine List.ext_getElem? (fun j => ?_)
  by_cases hj : j = k
  · subst hj
    rw [List.getElem?_set_self (by rw [ax_F_len]; exact hk), ax_F_at hk]
  · rw [List.getElem?_set_ne (fun q => hj q.symm)]
    by_cases hl : j < n
    · rw [ax_F_at hl, ax_F_at hl, hf j hj]
    · rw [List.getElem?_eq_none (by rw [ax_F_len]; omega), List.getElem?_eq_none (by rw [ax_F_len]; omega)]
theorem ax_up_ne {k : Nat} {x : Int} {b : Nat} (hb : b ≠ a) : ax_up M a k x b = M b := by
  funext j
  unfold ax_up
  rw [if_neg (fun q => hb q.1)]
theorem ax_up_at {k : Nat} {x : Int} : ax_up M a k x a k = x := by
  unfold ax_up
  rw [if_pos ⟨rfl, rfl⟩]
theorem ax_up_of {k j : Nat} {x : Int} (hj : j ≠ k) : ax_up M a k x a j = M a j := by
  unfold ax_up
  rw [if_neg (fun q => hj q.2)]
theorem ax_cv_adF {n f : Nat} {x : Int} (hf : f ≤ 3) (hA : ∀ a, a < n → ad' a = ad a) (w : ax_wf n f x) : ax_cv cad ad' (ax_ft f, x) = ax_cv cad ad (ax_ft f, x) := by
  exact ax_cv_ad hA (ax_wF hf w)
theorem ax_E_ad {n : Nat} {f : Nat → Int} (hA : ∀ a, a < n → ad' a = ad a) (w : ax_wh n h f) : ax_E cad Y ad' h f = ax_E cad Y ad h f := by
  obtain ⟨t, c, m⟩ := h
  rcases w with ⟨e, -, -, w⟩ | ⟨e, e5, -, -, w⟩
  · have e : t = 0 := e
    subst e
    rw [ax_E_obj, ax_E_obj]
    congr 2
    unfold ax_F
    refine List.map_congr_left (fun k hk => ?_)
    exact ax_cv_adF (ax_fty3 c k) hA (w k (List.mem_range.mp hk))
  · have e : t = 1 := e
    subst e
    rw [ax_E_arr, ax_E_arr]
    congr 3
    unfold ax_A
    split
    · rfl
    · split
      · rename_i h4
        congr 4
        funext k
        by_cases hx : 0 ≤ f k
        · rw [if_pos hx, if_pos hx, hA]
          have := w h4 k
          omega
        · rw [if_neg hx, if_neg hx]
      · rfl
end AXD
