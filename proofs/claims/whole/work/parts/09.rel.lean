/-! a run keeps ranges -/
theorem ax_ok_at {j i : Nat} {o : ax_O} (hj : ax_okM j = true) (h : ax_at j i = some o) : ax_okI j i o = true := by
  have hi : i < (ax_code.getD j []).length := (List.getElem?_eq_some_iff.mp h).1
  have h1 := List.all_eq_true.mp hj i (List.mem_range.mpr hi)
  rw [h] at h1
  exact h1
theorem ax_ok_sml {j i : Nat} {o : ax_O} (hj : ax_okM j = true) (h : ax_at j i = some o) (h9 : o.1 ≠ 99) : ax_sml j o = true := by
  have h1 := ax_ok_at hj h
  unfold ax_okI at h1
  rw [decide_eq_false h9, Bool.false_or] at h1
  simp only [Bool.and_eq_true] at h1
  exact h1.1.1.2
theorem ax_went {n : Nat} : ∀ {vs : List ax_V}, ax_ws n vs → ax_ws n (ax_ent vs)
  | [], _ => ax_ws_n
  | v :: vs, h => by
    unfold ax_ent
    split
    · exact ax_ws_c (ax_ws_h h) (ax_ws_c ax_wU (ax_went (ax_ws_t h)))
    · exact ax_ws_c (ax_ws_h h) (ax_went (ax_ws_t h))
theorem ax_wloc {n k : Nat} {vs : List ax_V} (h : ax_ws n vs) : ax_ws n (ax_loc vs k) := fun v hv => by
  rcases List.mem_append.mp hv with hv | hv
  · exact ax_went h v hv
  · rw [List.eq_of_mem_replicate hv]
    exact ax_wU
theorem ax_wret {n k : Nat} {st r : List ax_V} (hs : ax_ws n st) (h : ax_ret k st = some r) : ax_ws n r := by
  unfold ax_ret at h
  split at h
  · cases h; exact hs
  · cases h; exact hs
  · cases h; exact hs
  · split at h
    · cases h; exact hs
    · cases h
  · split at h
    · cases h; exact hs
    · cases h
  · split at h
    · cases h; exact hs
    · cases h
  · cases h
theorem ax_wapp {n : Nat} {as bs : List ax_V} (ha : ax_ws n as) (hb : ax_ws n bs) : ax_ws n (as ++ bs) := fun v hv => by
  rcases List.mem_append.mp hv with h | h
  · exact ha v h
  · exact hb v h
theorem ax_wtake {n k : Nat} {st : List ax_V} (hs : ax_ws n st) : ax_ws n (st.take k).reverse := fun v hv => hs v (List.mem_of_mem_take (List.mem_reverse.mp hv))
theorem ax_wdrop {n k : Nat} {st : List ax_V} (hs : ax_ws n st) : ax_ws n (st.drop k) := fun v hv => hs v (List.mem_of_mem_drop hv)
theorem ax_wrun {L : Nat} {X : Nat → Int} (hX : ∀ k, ax_i (X k)) (hL : L ≤ 3072) (hok : ∀ j : Nat, j < 316 → ax_okM j = true) : ∀ (n d j i : Nat) (ll st : List ax_V) (sh : List ax_H) (M : ax_M) (r : List ax_V) (sh' : List ax_H) (M' : ax_M), j < 316 → ax_wm sh M → ax_ws sh.length ll → ax_ws sh.length st → ax_run L X n d j i ll st sh M = some (r, sh', M') → (∃ t, sh' = sh ++ t) ∧ ax_wm sh' M' ∧ ax_ws sh'.length r := by
  intro n
  induction n with
  | zero => intro d j i ll st sh M r sh' M' hj hm hl hs h; cases h
  | succ n ih =>
    intro d j i ll st sh M r sh' M' hj hm hl hs h
    unfold ax_run at h
    cases ho : ax_at j i with
    | none => rw [ho] at h; cases h
    | some o =>
      rw [ho] at h
      dsimp only at h
      by_cases h28 : o.1 = 28
      · rw [if_pos h28] at h
        cases hr : ax_ret o.2.1 st with
        | none => rw [hr] at h; cases h
        | some r0 =>
          rw [hr] at h
          cases h
          exact ⟨⟨[], by simp⟩, hm, ax_wret hs hr⟩
      · rw [if_neg h28] at h
        by_cases h27 : o.1 = 27
        · rw [if_pos h27] at h
          cases d with
          | zero => cases h
          | succ d =>
            dsimp only at h
            have hsm : ax_sml j o = true := ax_ok_sml (hok j hj) ho (by rw [h27]; decide)
            have hc : o.2.1 < 316 := by
              obtain ⟨a, b, c, e⟩ := o
              have h27 : a = 27 := h27
              subst h27
              have h9 : b < 315 := (of_decide_eq_true hsm).1
              show b < 316
              omega
            split at h
            · cases h1 : ax_run L X n d o.2.1 0 (ax_loc (st.take o.2.2.1).reverse (ax_ml o.2.1)) [] sh M with
              | none => rw [h1] at h; cases h
              | some q =>
                obtain ⟨r1, sh1, M1⟩ := q
                rw [h1] at h
                dsimp only at h
                obtain ⟨⟨t1, e1⟩, hm1, hr1⟩ := ih d o.2.1 0 _ [] sh M r1 sh1 M1 hc hm (ax_wloc (ax_wtake hs)) ax_ws_n h1
                have hle : sh.length ≤ sh1.length := by rw [e1]; simp
                obtain ⟨⟨t2, e2⟩, hm2, hr2⟩ := ih (d + 1) j (i + 1) ll (r1 ++ st.drop o.2.2.1) sh1 M1 r sh' M' hj hm1 (ax_ws_le hl hle) (ax_wapp hr1 (ax_wdrop (ax_ws_le hs hle))) h
                exact ⟨⟨t1 ++ t2, by rw [e2, e1, List.append_assoc]⟩, hm2, hr2⟩
            · cases h
        · rw [if_neg h27] at h
          cases h1 : ax_step L X o i ll st sh M with
          | none => rw [h1] at h; cases h
          | some S =>
            obtain ⟨i', ll', st', sh1, M1⟩ := S
            rw [h1] at h
            dsimp only at h
            have h9 : o.1 ≠ 99 := fun e => by
              obtain ⟨a, b, c, f⟩ := o
              have e : a = 99 := e
              subst e
              cases h1
            obtain ⟨⟨t1, e1⟩, hm1, hl1, hs1⟩ := ax_wstep hX hL (ax_ok_sml (hok j hj) ho h9) hm hl hs h1
            obtain ⟨⟨t2, e2⟩, hm2, hr2⟩ := ih d j i' ll' st' sh1 M1 r sh' M' hj hm1 hl1 hs1 h
            have e1 : sh1 = sh ++ t1 := e1
            exact ⟨⟨t1 ++ t2, by rw [e2, e1, List.append_assoc]⟩, hm2, hr2⟩
/-! values, locals and cells of the machine that stand for those of the small one -/
def ax_cv (cad : Int → Value) (ad : Nat → Nat) (v : ax_V) : Value :=
  if v.1 = 0 then .int (Int32.ofInt v.2) else if v.1 = 1 then .long (Int64.ofInt v.2)
  else if v.1 = 2 then (if 0 ≤ v.2 then .ref (ad v.2.toNat) else if v.2 = -1 then .null else cad v.2) else .null
theorem ax_cI (cad : Int → Value) (ad : Nat → Nat) (x : Int) : ax_cv cad ad (0, x) = .int (Int32.ofInt x) := rfl
theorem ax_cL (cad : Int → Value) (ad : Nat → Nat) (x : Int) : ax_cv cad ad (1, x) = .long (Int64.ofInt x) := rfl
theorem ax_cR (cad : Int → Value) (ad : Nat → Nat) {x : Int} (h : 0 ≤ x) : ax_cv cad ad (2, x) = .ref (ad x.toNat) := by
  show (if 0 ≤ x then Value.ref (ad x.toNat) else _) = _
  rw [if_pos h]
theorem ax_cK (cad : Int → Value) (ad : Nat → Nat) {x : Int} (h : x < -1) : ax_cv cad ad (2, x) = cad x := by
  show (if 0 ≤ x then Value.ref (ad x.toNat) else if x = -1 then .null else cad x) = _
  rw [if_neg (by omega), if_neg (by omega)]
theorem ax_cref {cad : Int → Value} (hcad : ∀ x, cad x = .null ∨ ∃ q, cad x = .ref q) (ad : Nat → Nat) (x : Int) : ax_cv cad ad (2, x) = .null ∨ ∃ q, ax_cv cad ad (2, x) = .ref q := by
  show (if 0 ≤ x then Value.ref (ad x.toNat) else if x = -1 then .null else cad x) = .null ∨ ∃ q, (if 0 ≤ x then Value.ref (ad x.toNat) else if x = -1 then .null else cad x) = .ref q
  split
  · exact Or.inr ⟨_, rfl⟩
  · split
    · exact Or.inl rfl
    · exact hcad x
theorem ax_ccat {cad : Int → Value} (hcad : ∀ x, cad x = .null ∨ ∃ q, cad x = .ref q) (ad : Nat → Nat) (v : ax_V) : (ax_cv cad ad v).category = if v.1 = 1 then 2 else 1 := by
  obtain ⟨t, x⟩ := v
  by_cases h0 : t = 0
  · subst h0; rfl
  · by_cases h1 : t = 1
    · subst h1; rfl
    · show (ax_cv cad ad (t, x)).category = if t = 1 then 2 else 1
      rw [if_neg h1]
      by_cases h2 : t = 2
      · subst h2
        rcases ax_cref hcad ad x with e | ⟨q, e⟩ <;> rw [e] <;> rfl
      · have : ax_cv cad ad (t, x) = .null := by
          show (if t = 0 then _ else if t = 1 then _ else if t = 2 then _ else Value.null) = _
          rw [if_neg h0, if_neg h1, if_neg h2]
        rw [this]
        rfl
theorem ax_cv_ad {cad : Int → Value} {ad ad' : Nat → Nat} {n : Nat} {v : ax_V} (h : ∀ a, a < n → ad' a = ad a) (hv : ax_wv n v) : ax_cv cad ad' v = ax_cv cad ad v := by
  obtain ⟨t, x⟩ := v
  match t, hv with
  | 0, _ => rfl
  | 1, _ => rfl
  | t + 3, _ => rfl
  | 2, hv =>
    by_cases hx : 0 ≤ x
    · rw [ax_cR _ _ hx, ax_cR _ _ hx, h _ (by have := hv.2.2 rfl; dsimp only at this; omega)]
    · show (if 0 ≤ x then Value.ref (ad' x.toNat) else if x = -1 then .null else cad x) = (if 0 ≤ x then Value.ref (ad x.toNat) else if x = -1 then .null else cad x)
      rw [if_neg hx, if_neg hx]
def ax_lv (cad : Int → Value) (ad : Nat → Nat) (ls : Array Slot) (nL : Nat) (ll : List ax_V) : Prop := ls.size = nL ∧ lv_wf ls ∧ ll.length = nL ∧ ∀ (k : Nat) (v : ax_V), ll[k]? = some v → v.1 < 3 → ls[k]? = some (.val (ax_cv cad ad v))
def ax_as (cad : Int → Value) (ad : Nat → Nat) (ll : List ax_V) : List (Nat × Value) := (List.range ll.length).filterMap (fun k => match ll[k]? with
  | some v => if v.1 < 3 then some (k, ax_cv cad ad v) else none
  | none => none)
theorem ax_as_in {cad : Int → Value} {ad : Nat → Nat} {ll : List ax_V} {k : Nat} {v : ax_V} (h : ll[k]? = some v) (ht : v.1 < 3) : (k, ax_cv cad ad v) ∈ ax_as cad ad ll := by
  refine List.mem_filterMap.mpr ⟨k, List.mem_range.mpr (List.getElem?_eq_some_iff.mp h).1, ?_⟩
  rw [h]
  dsimp only
  rw [if_pos ht]
theorem ax_lv_as {cad : Int → Value} {ad : Nat → Nat} {ls : Array Slot} {nL : Nat} {ll : List ax_V} (h : ax_lv cad ad ls nL ll) : lv_has ls nL (ax_as cad ad ll) := by
  refine ⟨h.1, h.2.1, fun q hq => ?_⟩
  obtain ⟨k, -, hk⟩ := List.mem_filterMap.mp hq
  cases hv : ll[k]? with
  | none => rw [hv] at hk; cases hk
  | some v =>
    rw [hv] at hk
    dsimp only at hk
    split at hk
    · rename_i ht
      cases hk
      exact h.2.2.2 k v hv ht
    · cases hk
theorem ax_set_at {ll : List ax_V} {i k : Nat} {v w : ax_V} (h : (ax_set ll i v)[k]? = some w) (hw : w.1 < 3) : (k = i ∧ w = v) ∨ (k ≠ i ∧ ll[k]? = some w ∧ (v.1 = 1 → k ≠ i + 1) ∧ ¬ (k + 1 = i ∧ w.1 = 1)) := by
  have h2 : ∀ w, w.1 < 3 → (if v.1 = 1 then (ll.set i v).set (i + 1) (3, 0) else ll.set i v)[k]? = some w → (k = i ∧ w = v) ∨ (k ≠ i ∧ ll[k]? = some w ∧ (v.1 = 1 → k ≠ i + 1)) := by
    intro w hw h
    have h1 : ∀ w, (ll.set i v)[k]? = some w → (k = i ∧ w = v) ∨ (k ≠ i ∧ ll[k]? = some w) := by
      intro w h
      by_cases e : k = i
      · subst e
        left
        refine ⟨rfl, ?_⟩
        have hl : k < ll.length := by
          have := (List.getElem?_eq_some_iff.mp h).1
          simpa using this
        rw [List.getElem?_set_self hl] at h
        exact (Option.some.inj h).symm
      · rw [List.getElem?_set_ne (fun q => e q.symm)] at h
        exact Or.inr ⟨e, h⟩
    split at h
    · rename_i hv1
      by_cases e : k = i + 1
      · subst e
        have hl : i + 1 < (ll.set i v).length := by
          have := (List.getElem?_eq_some_iff.mp h).1
          simpa using this
        rw [List.getElem?_set_self hl] at h
        have := Option.some.inj h
        subst this
        exact absurd hw (by decide)
      · rw [List.getElem?_set_ne (fun q => e q.symm)] at h
        rcases h1 w h with h | h
        · exact Or.inl h
        · exact Or.inr ⟨h.1, h.2, fun _ => e⟩
    · rename_i hv1
      rcases h1 w h with h | h
      · exact Or.inl h
      · exact Or.inr ⟨h.1, h.2, fun q => absurd q hv1⟩
  cases i with
  | zero =>
    rcases h2 w hw h with h | h
    · exact Or.inl h
    · exact Or.inr ⟨h.1, h.2.1, h.2.2, fun q => by omega⟩
  | succ i0 =>
    unfold ax_set at h
    dsimp only at h
    split at h
    · rename_i x0 he
      by_cases e : k = i0
      · subst e
        have hl : k < (if v.1 = 1 then (ll.set (k + 1) v).set (k + 1 + 1) (3, 0) else ll.set (k + 1) v).length := by
          have := (List.getElem?_eq_some_iff.mp h).1
          simpa using this
        rw [List.getElem?_set_self hl] at h
        have := Option.some.inj h
        subst this
        exact absurd hw (by decide)
      · rw [List.getElem?_set_ne (fun q => e q.symm)] at h
        rcases h2 w hw h with h | h
        · exact Or.inl h
        · exact Or.inr ⟨h.1, h.2.1, h.2.2, fun q => by omega⟩
    · rename_i he
      rcases h2 w hw h with h | h
      · exact Or.inl h
      · refine Or.inr ⟨h.1, h.2.1, h.2.2, fun q => ?_⟩
        obtain ⟨t, x⟩ := w
        have q1 : k = i0 := by omega
        have q2 : t = 1 := q.2
        subst q1; subst q2
        exact he x h.2.1
theorem ax_lv_st1 {cad : Int → Value} (hcad : ∀ x, cad x = .null ∨ ∃ q, cad x = .ref q) {ad : Nat → Nat} {ls ls' : Array Slot} {nL i : Nat} {ll : List ax_V} {v : ax_V} {u : Value} (hu : ax_cv cad ad v = u) (hl : ll.length = nL) (h : lv_has ls' nL ((i, u) :: (ax_as cad ad ll).filter (fun q => !(q.1 == i) && !(q.1 + 1 == i && q.2.category == 2)))) : ax_lv cad ad ls' nL (ax_set ll i v) := by
  refine ⟨h.1, h.2.1, by rw [ax_set_len]; exact hl, fun k w hk hw => ?_⟩
  rcases ax_set_at hk hw with ⟨rfl, rfl⟩ | ⟨e1, e2, -, e4⟩
  · rw [hu]
    exact h.2.2 _ List.mem_cons_self
  · refine h.2.2 (k, ax_cv cad ad w) (List.mem_cons_of_mem _ (List.mem_filter.mpr ⟨ax_as_in e2 hw, ?_⟩))
    have h1 : (k == i) = false := by simpa using e1
    simp only [h1, Bool.not_false, Bool.true_and, Bool.not_eq_true', Bool.and_eq_false_iff, beq_eq_false_iff_ne, ne_eq]
    by_cases hk1 : k + 1 = i
    · right
      rw [ax_ccat hcad, if_neg (fun q => e4 ⟨hk1, q⟩)]
      decide
    · exact Or.inl hk1
theorem ax_lv_st2 {cad : Int → Value} (hcad : ∀ x, cad x = .null ∨ ∃ q, cad x = .ref q) {ad : Nat → Nat} {ls' : Array Slot} {nL i : Nat} {ll : List ax_V} {v : ax_V} {u : Value} (hv : v.1 = 1) (hu : ax_cv cad ad v = u) (hl : ll.length = nL) (h : lv_has ls' nL ((i, u) :: (ax_as cad ad ll).filter (fun q => !(q.1 == i) && (!(q.1 == i + 1) && !(q.1 + 1 == i && q.2.category == 2))))) : ax_lv cad ad ls' nL (ax_set ll i v) := by
  refine ⟨h.1, h.2.1, by rw [ax_set_len]; exact hl, fun k w hk hw => ?_⟩
  rcases ax_set_at hk hw with ⟨rfl, rfl⟩ | ⟨e1, e2, e3, e4⟩
  · rw [hu]
    exact h.2.2 _ List.mem_cons_self
  · refine h.2.2 (k, ax_cv cad ad w) (List.mem_cons_of_mem _ (List.mem_filter.mpr ⟨ax_as_in e2 hw, ?_⟩))
    have h1 : (k == i) = false := by simpa using e1
    have h2 : (k == i + 1) = false := by simpa using e3 hv
    simp only [h1, h2, Bool.not_false, Bool.true_and, Bool.not_eq_true', Bool.and_eq_false_iff, beq_eq_false_iff_ne, ne_eq]
    by_cases hk1 : k + 1 = i
    · right
      rw [ax_ccat hcad, if_neg (fun q => e4 ⟨hk1, q⟩)]
      decide
    · exact Or.inl hk1
