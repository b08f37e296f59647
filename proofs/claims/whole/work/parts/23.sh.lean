/-! the cells, when all is made: 0 the class (its house 9 or 27), 142 the reference; references that never change -/
def SH : List ax_H := [(0,11,18), (0,10,10), (1,0,1600), (0,7,3), (1,0,1600), (1,0,64), (0,2,4), (0,5,3), (1,0,9), (0,4,20), (1,0,8), (1,0,5), (1,0,8), (1,0,10), (1,0,10), (1,0,10), (1,0,5), (1,0,8), (1,0,8), (1,0,8), (1,0,8), (0,7,3), (1,0,1600), (1,0,64), (0,7,3), (1,0,1600), (1,0,64), (0,4,20), (1,0,8), (1,0,5), (1,0,8), (1,0,10), (1,0,10), (1,0,10), (1,0,5), (1,0,8), (1,0,8), (1,0,8), (1,0,8), (0,7,3), (1,0,1600), (1,0,64), (0,7,3), (1,0,1600), (1,0,64), (0,8,4), (1,0,5), (1,0,10), (1,0,28), (0,3,3), (1,4,20), (1,0,44), (1,0,44), (1,0,44), (1,0,44), (1,0,44), (1,0,44), (1,0,44), (1,0,44), (1,0,44), (1,0,44), (1,0,44), (1,0,44), (1,0,44), (1,0,44), (1,0,44), (1,0,44), (1,0,44), (1,0,44), (1,0,44), (1,0,44), (0,1,11), (1,0,8), (1,0,8), (1,0,8), (1,4,9), (1,0,8), (1,0,8), (1,0,8), (1,0,8), (1,0,8), (1,0,8), (1,0,8), (1,0,8), (1,0,8), (1,4,8), (1,0,8), (1,0,8), (1,0,8), (1,0,8), (1,0,8), (1,0,8), (1,0,8), (1,0,8), (1,4,8), (1,0,8), (1,0,8), (1,0,8), (1,0,8), (1,0,8), (1,0,8), (1,0,8), (1,0,8), (1,0,8), (1,0,10), (1,0,10), (1,0,5), (0,6,3), (1,0,5), (1,0,5), (0,0,4), (1,0,8), (1,0,8), (1,5,8), (1,1,8), (1,1,8), (1,1,8), (1,1,8), (1,1,8), (1,1,8), (1,1,8), (1,1,8), (0,9,7), (1,0,16), (1,0,16), (1,0,11), (1,4,11), (1,0,8), (1,0,8), (1,0,8), (1,0,8), (1,0,8), (1,0,8), (1,0,8), (1,0,8), (1,0,8), (1,0,8), (1,0,8), (1,0,7), (1,0,74), (1,0,6), (1,0,44), (0,12,121), (1,0,1600), (1,0,6), (1,2,4), (1,2,5), (1,2,2), (1,2,4), (1,2,4), (1,2,4), (1,2,5), (1,2,2), (1,2,2), (1,2,4), (1,2,3), (1,2,5), (1,2,4), (1,2,5), (1,2,5), (1,2,5), (1,2,5), (1,2,6), (1,2,5), (1,2,5), (1,2,4), (1,2,6), (1,2,3), (1,2,6), (1,2,5), (1,2,2), (1,2,3), (1,2,3), (1,2,3), (1,2,3), (1,2,3), (1,0,8), (1,1,48), (1,0,60), (1,0,5), (1,0,64), (1,0,6), (1,0,4), (1,0,4), (1,0,3200), (1,0,44), (1,0,44), (1,0,8), (1,0,10), (1,0,8), (1,0,8), (1,0,8), (1,0,72), (1,0,64), (1,0,5), (1,0,5), (1,0,5), (1,1,64), (1,1,256), (1,0,8), (1,0,32), (1,0,88), (1,3,11), (1,0,880), (1,2,5), (1,2,4), (1,2,5), (1,2,5), (1,2,4), (1,2,5), (1,2,3), (1,2,3), (1,2,2), (1,2,3), (1,2,3), (1,2,3), (1,2,4), (1,2,3), (1,2,5), (1,2,6), (1,2,5), (1,2,5), (1,2,4), (1,2,6), (1,2,4), (1,2,3), (1,2,6), (1,2,5), (1,0,1700), (1,0,1700), (1,1,1700), (1,0,74)]
/-- cell, field, where it leads -/
def ax_fx : List (Nat × Nat × Nat) := [(0,0,1), (0,1,6), (0,2,7), (0,5,45), (0,6,49), (0,7,71), (0,8,107), (0,9,110), (0,10,122), (0,11,3), (0,12,138), (0,13,139), (0,15,140), (0,17,141), (1,0,2), (3,0,4), (3,2,5), (6,0,1), (7,0,1), (7,1,6), (7,2,8), (9,4,10), (9,5,11), (9,6,12), (9,7,13), (9,8,14), (9,9,15), (9,10,16), (9,11,17), (9,12,18), (9,13,19), (9,14,20), (9,15,21), (9,16,24), (21,0,22), (21,2,23), (24,0,25), (24,2,26), (27,4,28), (27,5,29), (27,6,30), (27,7,31), (27,8,32), (27,9,33), (27,10,34), (27,11,35), (27,12,36), (27,13,37), (27,14,38), (27,15,39), (27,16,42), (39,0,40), (39,2,41), (42,0,43), (42,2,44), (45,1,46), (45,2,47), (45,3,48), (49,0,50), (71,0,72), (71,1,73), (71,2,74), (71,3,75), (71,4,85), (71,5,94), (71,7,103), (71,8,104), (71,9,105), (71,10,106), (107,0,108), (107,2,109), (110,0,111), (110,2,112), (110,3,113), (122,1,123), (122,2,124), (122,3,125), (122,4,126), (142,0,143), (142,9,144), (142,10,145), (142,11,146), (142,12,147), (142,13,148), (142,14,149), (142,15,150), (142,16,151), (142,17,152), (142,18,153), (142,19,154), (142,20,155), (142,21,156), (142,22,157), (142,23,158), (142,24,159), (142,25,160), (142,26,161), (142,27,162), (142,28,163), (142,29,164), (142,30,165), (142,31,166), (142,32,167), (142,33,168), (142,34,169), (142,35,170), (142,36,171), (142,37,172), (142,38,173), (142,39,174), (142,40,175), (142,42,176), (142,43,177), (142,44,178), (142,45,179), (142,46,180), (142,47,181), (142,48,182), (142,49,183), (142,50,184), (142,54,185), (142,55,186), (142,60,187), (142,61,188), (142,62,189), (142,63,190), (142,64,191), (142,65,192), (142,66,193), (142,68,194), (142,71,195), (142,72,196), (142,73,197), (142,74,198), (142,75,199), (142,77,200), (142,78,201), (142,79,202), (142,81,203), (142,85,204), (142,86,205), (142,87,206), (142,88,207), (142,89,208), (142,90,209), (142,91,210), (142,92,211), (142,93,212), (142,94,213), (142,95,214), (142,96,215), (142,97,216), (142,98,217), (142,99,218), (142,100,219), (142,101,220), (142,102,221), (142,103,222), (142,104,223), (142,105,224), (142,106,225), (142,107,226), (142,108,227), (142,109,228), (142,111,229), (142,115,230), (142,119,231)]
/-- arrays of arrays: cell, rows, the first row; the others follow it -/
def ax_fr : List (Nat × Nat × Nat) := [(50,20,51), (75,9,76), (85,8,86), (94,8,95), (113,8,114), (126,11,127)]
def Fix (M : ax_M) : Prop := (∀ e ∈ ax_fx, M e.1 e.2.1 = (e.2.2 : Int)) ∧ ∀ e ∈ ax_fr, ∀ k, k < e.2.1 → M e.1 k = ((e.2.2 + k : Nat) : Int)
theorem Fix.f {M : ax_M} (h : Fix M) {a k v : Nat} (hm : ax_fx.contains (a, k, v) = true) : M a k = (v : Int) := h.1 (a, k, v) (List.elem_iff.mp hm)
def ax_fw : List (Nat × Nat × Nat) → Nat → Nat → Option Nat
  | [], _, _ => none
  | (a, k, v) :: t, b, q => if a = b ∧ k = q then some v else ax_fw t b q
theorem ax_fw_in : ∀ {l : List (Nat × Nat × Nat)} {b q w : Nat}, ax_fw l b q = some w → (b, q, w) ∈ l
  | [], _, _, _, h => by cases h
  | (a, k, v) :: t, b, q, w, h => by
    unfold ax_fw at h
    split at h
    · rename_i e
      obtain ⟨rfl, rfl⟩ := e
      cases h
      exact List.mem_cons_self
    · exact List.mem_cons_of_mem _ (ax_fw_in h)
theorem Fix.g {M : ax_M} (h : Fix M) {a k v : Nat} (hm : ax_fw ax_fx a k = some v) : M a k = (v : Int) := h.1 (a, k, v) (ax_fw_in hm)
theorem Fix.r {M : ax_M} (h : Fix M) {a n v k : Nat} (hm : ax_fr.contains (a, n, v) = true) (hk : k < n) : M a k = ((v + k : Nat) : Int) := h.2 (a, n, v) (List.elem_iff.mp hm) k hk
theorem ax_fx_ob : ∀ e ∈ ax_fx, ∃ c n, SH[e.1]? = some (0, c, n) := by
  have h : ax_fx.all (fun e => match SH[e.1]? with | some (0, _, _) => true | _ => false) = true := by decide +kernel
  intro e he
  have h1 := List.all_eq_true.mp h e he
  split at h1
  · rename_i c n q; exact ⟨c, n, q⟩
  · cases h1
theorem ax_fr_ob : ∀ e ∈ ax_fr, ∃ c n, SH[e.1]? = some (1, c + 4, n) := by
  have h : ax_fr.all (fun e => match SH[e.1]? with | some (1, c, _) => decide (4 ≤ c) | _ => false) = true := by decide +kernel
  intro e he
  have h1 := List.all_eq_true.mp h e he
  split at h1
  · rename_i c n q
    have h2 := of_decide_eq_true h1
    exact ⟨c - 4, n, by rw [q, show c - 4 + 4 = c by omega]⟩
  · cases h1
/-- a write into a plain array -/
theorem Fix.upA {M : ax_M} (h : Fix M) {a t n k : Nat} {x : Int} (ha : SH[a]? = some (1, t, n)) (ht : t < 4) : Fix (ax_up M a k x) := by
  refine ⟨fun e he => ?_, fun e he q hq => ?_⟩
  · rw [ax_up_ne (fun z => ?_)]
    · exact h.1 e he
    · obtain ⟨c, n2, h2⟩ := ax_fx_ob e he
      rw [z, ha] at h2
      cases h2
  · rw [ax_up_ne (fun z => ?_)]
    · exact h.2 e he q hq
    · obtain ⟨c, n2, h2⟩ := ax_fr_ob e he
      rw [z, ha] at h2
      have h3 : t = c + 4 := by injection h2 with h2; injection h2 with h4 h2; injection h2
      omega
theorem Fix.cpy {M : ax_M} (h : Fix M) {a sp b dp n t lb : Nat} (hb : SH[b]? = some (1, t, lb)) (ht : t < 4) : Fix (ax_cpy M a sp b dp n) := by
  refine ⟨fun e he => ?_, fun e he q hq => ?_⟩
  · have hne : e.1 ≠ b := fun z => by
      obtain ⟨c, n2, h2⟩ := ax_fx_ob e he
      rw [z, hb] at h2
      cases h2
    unfold ax_cpy
    rw [if_neg (fun z => hne z.1)]
    exact h.1 e he
  · have hne : e.1 ≠ b := fun z => by
      obtain ⟨c, n2, h2⟩ := ax_fr_ob e he
      rw [z, hb] at h2
      have h3 : t = c + 4 := by injection h2 with h2; injection h2 with h4 h2; injection h2
      omega
    unfold ax_cpy
    rw [if_neg (fun z => hne z.1)]
    exact h.2 e he q hq
/-- a write into a field that may change -/
theorem Fix.upF {M : ax_M} (h : Fix M) {a k c n : Nat} {x : Int} (ha : SH[a]? = some (0, c, n)) (hk : ax_fx.all (fun e => !(e.1 == a && e.2.1 == k)) = true) : Fix (ax_up M a k x) := by
  refine ⟨fun e he => ?_, fun e he q hq => ?_⟩
  · have h1 := List.all_eq_true.mp hk e he
    unfold ax_up
    rw [if_neg (fun z => ?_)]
    · exact h.1 e he
    · rw [z.1, z.2] at h1
      simp at h1
  · rw [ax_up_ne (fun z => ?_)]
    · exact h.2 e he q hq
    · obtain ⟨c, n2, h2⟩ := ax_fr_ob e he
      rw [z, ha] at h2
      cases h2
section AXB
variable {L : Nat} {X : Nat → Int} {S : List ax_H} {d j i : Nat} {ll st : List ax_V} {M : ax_M} {P : List ax_V → ax_M → Prop} {C : List ax_O}
theorem g12e {g : Nat} {w x : Int} (hC : ∀ i, ax_at j i = C[i]?) (h : C[i]? = some (12, 0, g, w)) (kt : x = 0 → ax_G L X S d j g ll st M P) (kf : ¬ (x = 0) → ax_G L X S d j (i + 1) ll st M P) : ax_G L X S d j i ll ((0, x) :: st) M P := g12 hC h (fun q => kt (of_decide_eq_true q)) (fun q => kf (of_decide_eq_false q))
theorem g13e {g : Nat} {w x y : Int} (hC : ∀ i, ax_at j i = C[i]?) (h : C[i]? = some (13, 0, g, w)) (kt : x = y → ax_G L X S d j g ll st M P) (kf : ¬ (x = y) → ax_G L X S d j (i + 1) ll st M P) : ax_G L X S d j i ll ((0, y) :: (0, x) :: st) M P := g13 hC h (fun q => kt (of_decide_eq_true q)) (fun q => kf (of_decide_eq_false q))
theorem g12n {g : Nat} {w x : Int} (hC : ∀ i, ax_at j i = C[i]?) (h : C[i]? = some (12, 1, g, w)) (kt : ¬ x = 0 → ax_G L X S d j g ll st M P) (kf : ¬ (¬ x = 0) → ax_G L X S d j (i + 1) ll st M P) : ax_G L X S d j i ll ((0, x) :: st) M P := g12 hC h (fun q => kt (of_decide_eq_true q)) (fun q => kf (of_decide_eq_false q))
theorem g13n {g : Nat} {w x y : Int} (hC : ∀ i, ax_at j i = C[i]?) (h : C[i]? = some (13, 1, g, w)) (kt : ¬ x = y → ax_G L X S d j g ll st M P) (kf : ¬ (¬ x = y) → ax_G L X S d j (i + 1) ll st M P) : ax_G L X S d j i ll ((0, y) :: (0, x) :: st) M P := g13 hC h (fun q => kt (of_decide_eq_true q)) (fun q => kf (of_decide_eq_false q))
theorem g12l {g : Nat} {w x : Int} (hC : ∀ i, ax_at j i = C[i]?) (h : C[i]? = some (12, 2, g, w)) (kt : x < 0 → ax_G L X S d j g ll st M P) (kf : ¬ (x < 0) → ax_G L X S d j (i + 1) ll st M P) : ax_G L X S d j i ll ((0, x) :: st) M P := g12 hC h (fun q => kt (of_decide_eq_true q)) (fun q => kf (of_decide_eq_false q))
theorem g13l {g : Nat} {w x y : Int} (hC : ∀ i, ax_at j i = C[i]?) (h : C[i]? = some (13, 2, g, w)) (kt : x < y → ax_G L X S d j g ll st M P) (kf : ¬ (x < y) → ax_G L X S d j (i + 1) ll st M P) : ax_G L X S d j i ll ((0, y) :: (0, x) :: st) M P := g13 hC h (fun q => kt (of_decide_eq_true q)) (fun q => kf (of_decide_eq_false q))
theorem g12g {g : Nat} {w x : Int} (hC : ∀ i, ax_at j i = C[i]?) (h : C[i]? = some (12, 3, g, w)) (kt : 0 ≤ x → ax_G L X S d j g ll st M P) (kf : ¬ (0 ≤ x) → ax_G L X S d j (i + 1) ll st M P) : ax_G L X S d j i ll ((0, x) :: st) M P := g12 hC h (fun q => kt (of_decide_eq_true q)) (fun q => kf (of_decide_eq_false q))
theorem g13g {g : Nat} {w x y : Int} (hC : ∀ i, ax_at j i = C[i]?) (h : C[i]? = some (13, 3, g, w)) (kt : y ≤ x → ax_G L X S d j g ll st M P) (kf : ¬ (y ≤ x) → ax_G L X S d j (i + 1) ll st M P) : ax_G L X S d j i ll ((0, y) :: (0, x) :: st) M P := g13 hC h (fun q => kt (of_decide_eq_true q)) (fun q => kf (of_decide_eq_false q))
theorem g12t {g : Nat} {w x : Int} (hC : ∀ i, ax_at j i = C[i]?) (h : C[i]? = some (12, 4, g, w)) (kt : 0 < x → ax_G L X S d j g ll st M P) (kf : ¬ (0 < x) → ax_G L X S d j (i + 1) ll st M P) : ax_G L X S d j i ll ((0, x) :: st) M P := g12 hC h (fun q => kt (of_decide_eq_true q)) (fun q => kf (of_decide_eq_false q))
theorem g13t {g : Nat} {w x y : Int} (hC : ∀ i, ax_at j i = C[i]?) (h : C[i]? = some (13, 4, g, w)) (kt : y < x → ax_G L X S d j g ll st M P) (kf : ¬ (y < x) → ax_G L X S d j (i + 1) ll st M P) : ax_G L X S d j i ll ((0, y) :: (0, x) :: st) M P := g13 hC h (fun q => kt (of_decide_eq_true q)) (fun q => kf (of_decide_eq_false q))
theorem g12s {g : Nat} {w x : Int} (hC : ∀ i, ax_at j i = C[i]?) (h : C[i]? = some (12, 5, g, w)) (kt : x ≤ 0 → ax_G L X S d j g ll st M P) (kf : ¬ (x ≤ 0) → ax_G L X S d j (i + 1) ll st M P) : ax_G L X S d j i ll ((0, x) :: st) M P := g12 hC h (fun q => kt (of_decide_eq_true q)) (fun q => kf (of_decide_eq_false q))
theorem g13s {g : Nat} {w x y : Int} (hC : ∀ i, ax_at j i = C[i]?) (h : C[i]? = some (13, 5, g, w)) (kt : x ≤ y → ax_G L X S d j g ll st M P) (kf : ¬ (x ≤ y) → ax_G L X S d j (i + 1) ll st M P) : ax_G L X S d j i ll ((0, y) :: (0, x) :: st) M P := g13 hC h (fun q => kt (of_decide_eq_true q)) (fun q => kf (of_decide_eq_false q))
end AXB
theorem at0 (i : Nat) : ax_at 0 i = ax_c0[i]? := rfl
theorem at1 (i : Nat) : ax_at 1 i = ax_c1[i]? := rfl
theorem at2 (i : Nat) : ax_at 2 i = ax_c2[i]? := rfl
theorem at3 (i : Nat) : ax_at 3 i = ax_c3[i]? := rfl
theorem at4 (i : Nat) : ax_at 4 i = ax_c4[i]? := rfl
theorem at5 (i : Nat) : ax_at 5 i = ax_c5[i]? := rfl
theorem at6 (i : Nat) : ax_at 6 i = ax_c6[i]? := rfl
theorem at7 (i : Nat) : ax_at 7 i = ax_c7[i]? := rfl
theorem at8 (i : Nat) : ax_at 8 i = ax_c8[i]? := rfl
theorem at9 (i : Nat) : ax_at 9 i = ax_c9[i]? := rfl
theorem at10 (i : Nat) : ax_at 10 i = ax_c10[i]? := rfl
theorem at11 (i : Nat) : ax_at 11 i = ax_c11[i]? := rfl
theorem at12 (i : Nat) : ax_at 12 i = ax_c12[i]? := rfl
theorem at13 (i : Nat) : ax_at 13 i = ax_c13[i]? := rfl
theorem at14 (i : Nat) : ax_at 14 i = ax_c14[i]? := rfl
theorem at15 (i : Nat) : ax_at 15 i = ax_c15[i]? := rfl
theorem at16 (i : Nat) : ax_at 16 i = ax_c16[i]? := rfl
theorem at17 (i : Nat) : ax_at 17 i = ax_c17[i]? := rfl
theorem at18 (i : Nat) : ax_at 18 i = ax_c18[i]? := rfl
theorem at19 (i : Nat) : ax_at 19 i = ax_c19[i]? := rfl
theorem at20 (i : Nat) : ax_at 20 i = ax_c20[i]? := rfl
theorem at21 (i : Nat) : ax_at 21 i = ax_c21[i]? := rfl
theorem at22 (i : Nat) : ax_at 22 i = ax_c22[i]? := rfl
theorem at23 (i : Nat) : ax_at 23 i = ax_c23[i]? := rfl
theorem at24 (i : Nat) : ax_at 24 i = ax_c24[i]? := rfl
theorem at25 (i : Nat) : ax_at 25 i = ax_c25[i]? := rfl
theorem at26 (i : Nat) : ax_at 26 i = ax_c26[i]? := rfl
theorem at27 (i : Nat) : ax_at 27 i = ax_c27[i]? := rfl
theorem at28 (i : Nat) : ax_at 28 i = ax_c28[i]? := rfl
theorem at29 (i : Nat) : ax_at 29 i = ax_c29[i]? := rfl
theorem at30 (i : Nat) : ax_at 30 i = ax_c30[i]? := rfl
theorem at31 (i : Nat) : ax_at 31 i = ax_c31[i]? := rfl
theorem at32 (i : Nat) : ax_at 32 i = ax_c32[i]? := rfl
theorem at33 (i : Nat) : ax_at 33 i = ax_c33[i]? := rfl
theorem at34 (i : Nat) : ax_at 34 i = ax_c34[i]? := rfl
theorem at35 (i : Nat) : ax_at 35 i = ax_c35[i]? := rfl
theorem at36 (i : Nat) : ax_at 36 i = ax_c36[i]? := rfl
theorem at37 (i : Nat) : ax_at 37 i = ax_c37[i]? := rfl
theorem at38 (i : Nat) : ax_at 38 i = ax_c38[i]? := rfl
theorem at39 (i : Nat) : ax_at 39 i = ax_c39[i]? := rfl
theorem at40 (i : Nat) : ax_at 40 i = ax_c40[i]? := rfl
theorem at41 (i : Nat) : ax_at 41 i = ax_c41[i]? := rfl
theorem at42 (i : Nat) : ax_at 42 i = ax_c42[i]? := rfl
theorem at43 (i : Nat) : ax_at 43 i = ax_c43[i]? := rfl
theorem at44 (i : Nat) : ax_at 44 i = ax_c44[i]? := rfl
theorem at45 (i : Nat) : ax_at 45 i = ax_c45[i]? := rfl
theorem at46 (i : Nat) : ax_at 46 i = ax_c46[i]? := rfl
theorem at47 (i : Nat) : ax_at 47 i = ax_c47[i]? := rfl
theorem at48 (i : Nat) : ax_at 48 i = ax_c48[i]? := rfl
theorem at49 (i : Nat) : ax_at 49 i = ax_c49[i]? := rfl
theorem at50 (i : Nat) : ax_at 50 i = ax_c50[i]? := rfl
theorem at51 (i : Nat) : ax_at 51 i = ax_c51[i]? := rfl
theorem at52 (i : Nat) : ax_at 52 i = ax_c52[i]? := rfl
theorem at53 (i : Nat) : ax_at 53 i = ax_c53[i]? := rfl
theorem at54 (i : Nat) : ax_at 54 i = ax_c54[i]? := rfl
theorem at55 (i : Nat) : ax_at 55 i = ax_c55[i]? := rfl
theorem at56 (i : Nat) : ax_at 56 i = ax_c56[i]? := rfl
theorem at57 (i : Nat) : ax_at 57 i = ax_c57[i]? := rfl
theorem at58 (i : Nat) : ax_at 58 i = ax_c58[i]? := rfl
theorem at59 (i : Nat) : ax_at 59 i = ax_c59[i]? := rfl
theorem at60 (i : Nat) : ax_at 60 i = ax_c60[i]? := rfl
theorem at61 (i : Nat) : ax_at 61 i = ax_c61[i]? := rfl
theorem at62 (i : Nat) : ax_at 62 i = ax_c62[i]? := rfl
theorem at63 (i : Nat) : ax_at 63 i = ax_c63[i]? := rfl
theorem at64 (i : Nat) : ax_at 64 i = ax_c64[i]? := rfl
theorem at65 (i : Nat) : ax_at 65 i = ax_c65[i]? := rfl
theorem at66 (i : Nat) : ax_at 66 i = ax_c66[i]? := rfl
theorem at67 (i : Nat) : ax_at 67 i = ax_c67[i]? := rfl
theorem at68 (i : Nat) : ax_at 68 i = ax_c68[i]? := rfl
theorem at69 (i : Nat) : ax_at 69 i = ax_c69[i]? := rfl
theorem at70 (i : Nat) : ax_at 70 i = ax_c70[i]? := rfl
theorem at71 (i : Nat) : ax_at 71 i = ax_c71[i]? := rfl
theorem at72 (i : Nat) : ax_at 72 i = ax_c72[i]? := rfl
theorem at73 (i : Nat) : ax_at 73 i = ax_c73[i]? := rfl
theorem at74 (i : Nat) : ax_at 74 i = ax_c74[i]? := rfl
theorem at75 (i : Nat) : ax_at 75 i = ax_c75[i]? := rfl
theorem at76 (i : Nat) : ax_at 76 i = ax_c76[i]? := rfl
theorem at77 (i : Nat) : ax_at 77 i = ax_c77[i]? := rfl
theorem at78 (i : Nat) : ax_at 78 i = ax_c78[i]? := rfl
theorem at79 (i : Nat) : ax_at 79 i = ax_c79[i]? := rfl
theorem at80 (i : Nat) : ax_at 80 i = ax_c80[i]? := rfl
theorem at81 (i : Nat) : ax_at 81 i = ax_c81[i]? := rfl
theorem at82 (i : Nat) : ax_at 82 i = ax_c82[i]? := rfl
theorem at83 (i : Nat) : ax_at 83 i = ax_c83[i]? := rfl
theorem at84 (i : Nat) : ax_at 84 i = ax_c84[i]? := rfl
theorem at85 (i : Nat) : ax_at 85 i = ax_c85[i]? := rfl
theorem at86 (i : Nat) : ax_at 86 i = ax_c86[i]? := rfl
theorem at87 (i : Nat) : ax_at 87 i = ax_c87[i]? := rfl
theorem at88 (i : Nat) : ax_at 88 i = ax_c88[i]? := rfl
theorem at89 (i : Nat) : ax_at 89 i = ax_c89[i]? := rfl
theorem at90 (i : Nat) : ax_at 90 i = ax_c90[i]? := rfl
theorem at91 (i : Nat) : ax_at 91 i = ax_c91[i]? := rfl
theorem at92 (i : Nat) : ax_at 92 i = ax_c92[i]? := rfl
theorem at93 (i : Nat) : ax_at 93 i = ax_c93[i]? := rfl
theorem at94 (i : Nat) : ax_at 94 i = ax_c94[i]? := rfl
theorem at95 (i : Nat) : ax_at 95 i = ax_c95[i]? := rfl
theorem at96 (i : Nat) : ax_at 96 i = ax_c96[i]? := rfl
theorem at97 (i : Nat) : ax_at 97 i = ax_c97[i]? := rfl
theorem at98 (i : Nat) : ax_at 98 i = ax_c98[i]? := rfl
theorem at99 (i : Nat) : ax_at 99 i = ax_c99[i]? := rfl
theorem at100 (i : Nat) : ax_at 100 i = ax_c100[i]? := rfl
theorem at101 (i : Nat) : ax_at 101 i = ax_c101[i]? := rfl
theorem at102 (i : Nat) : ax_at 102 i = ax_c102[i]? := rfl
theorem at103 (i : Nat) : ax_at 103 i = ax_c103[i]? := rfl
theorem at104 (i : Nat) : ax_at 104 i = ax_c104[i]? := rfl
theorem at105 (i : Nat) : ax_at 105 i = ax_c105[i]? := rfl
theorem at106 (i : Nat) : ax_at 106 i = ax_c106[i]? := rfl
theorem at107 (i : Nat) : ax_at 107 i = ax_c107[i]? := rfl
theorem at108 (i : Nat) : ax_at 108 i = ax_c108[i]? := rfl
theorem at109 (i : Nat) : ax_at 109 i = ax_c109[i]? := rfl
theorem at110 (i : Nat) : ax_at 110 i = ax_c110[i]? := rfl
theorem at111 (i : Nat) : ax_at 111 i = ax_c111[i]? := rfl
theorem at112 (i : Nat) : ax_at 112 i = ax_c112[i]? := rfl
theorem at113 (i : Nat) : ax_at 113 i = ax_c113[i]? := rfl
theorem at114 (i : Nat) : ax_at 114 i = ax_c114[i]? := rfl
theorem at115 (i : Nat) : ax_at 115 i = ax_c115[i]? := rfl
theorem at116 (i : Nat) : ax_at 116 i = ax_c116[i]? := rfl
theorem at117 (i : Nat) : ax_at 117 i = ax_c117[i]? := rfl
theorem at118 (i : Nat) : ax_at 118 i = ax_c118[i]? := rfl
theorem at119 (i : Nat) : ax_at 119 i = ax_c119[i]? := rfl
theorem at120 (i : Nat) : ax_at 120 i = ax_c120[i]? := rfl
theorem at121 (i : Nat) : ax_at 121 i = ax_c121[i]? := rfl
theorem at122 (i : Nat) : ax_at 122 i = ax_c122[i]? := rfl
theorem at123 (i : Nat) : ax_at 123 i = ax_c123[i]? := rfl
theorem at124 (i : Nat) : ax_at 124 i = ax_c124[i]? := rfl
theorem at125 (i : Nat) : ax_at 125 i = ax_c125[i]? := rfl
theorem at126 (i : Nat) : ax_at 126 i = ax_c126[i]? := rfl
theorem at127 (i : Nat) : ax_at 127 i = ax_c127[i]? := rfl
theorem at128 (i : Nat) : ax_at 128 i = ax_c128[i]? := rfl
theorem at129 (i : Nat) : ax_at 129 i = ax_c129[i]? := rfl
theorem at130 (i : Nat) : ax_at 130 i = ax_c130[i]? := rfl
theorem at131 (i : Nat) : ax_at 131 i = ax_c131[i]? := rfl
theorem at132 (i : Nat) : ax_at 132 i = ax_c132[i]? := rfl
theorem at133 (i : Nat) : ax_at 133 i = ax_c133[i]? := rfl
theorem at134 (i : Nat) : ax_at 134 i = ax_c134[i]? := rfl
theorem at135 (i : Nat) : ax_at 135 i = ax_c135[i]? := rfl
theorem at136 (i : Nat) : ax_at 136 i = ax_c136[i]? := rfl
theorem at137 (i : Nat) : ax_at 137 i = ax_c137[i]? := rfl
theorem at138 (i : Nat) : ax_at 138 i = ax_c138[i]? := rfl
theorem at139 (i : Nat) : ax_at 139 i = ax_c139[i]? := rfl
theorem at140 (i : Nat) : ax_at 140 i = ax_c140[i]? := rfl
theorem at141 (i : Nat) : ax_at 141 i = ax_c141[i]? := rfl
theorem at142 (i : Nat) : ax_at 142 i = ax_c142[i]? := rfl
theorem at143 (i : Nat) : ax_at 143 i = ax_c143[i]? := rfl
theorem at144 (i : Nat) : ax_at 144 i = ax_c144[i]? := rfl
theorem at145 (i : Nat) : ax_at 145 i = ax_c145[i]? := rfl
theorem at146 (i : Nat) : ax_at 146 i = ax_c146[i]? := rfl
theorem at147 (i : Nat) : ax_at 147 i = ax_c147[i]? := rfl
theorem at148 (i : Nat) : ax_at 148 i = ax_c148[i]? := rfl
theorem at149 (i : Nat) : ax_at 149 i = ax_c149[i]? := rfl
theorem at150 (i : Nat) : ax_at 150 i = ax_c150[i]? := rfl
theorem at151 (i : Nat) : ax_at 151 i = ax_c151[i]? := rfl
theorem at152 (i : Nat) : ax_at 152 i = ax_c152[i]? := rfl
theorem at153 (i : Nat) : ax_at 153 i = ax_c153[i]? := rfl
theorem at154 (i : Nat) : ax_at 154 i = ax_c154[i]? := rfl
theorem at155 (i : Nat) : ax_at 155 i = ax_c155[i]? := rfl
theorem at156 (i : Nat) : ax_at 156 i = ax_c156[i]? := rfl
theorem at157 (i : Nat) : ax_at 157 i = ax_c157[i]? := rfl
theorem at158 (i : Nat) : ax_at 158 i = ax_c158[i]? := rfl
theorem at159 (i : Nat) : ax_at 159 i = ax_c159[i]? := rfl
theorem at160 (i : Nat) : ax_at 160 i = ax_c160[i]? := rfl
theorem at161 (i : Nat) : ax_at 161 i = ax_c161[i]? := rfl
theorem at162 (i : Nat) : ax_at 162 i = ax_c162[i]? := rfl
theorem at163 (i : Nat) : ax_at 163 i = ax_c163[i]? := rfl
theorem at164 (i : Nat) : ax_at 164 i = ax_c164[i]? := rfl
theorem at165 (i : Nat) : ax_at 165 i = ax_c165[i]? := rfl
theorem at166 (i : Nat) : ax_at 166 i = ax_c166[i]? := rfl
theorem at167 (i : Nat) : ax_at 167 i = ax_c167[i]? := rfl
theorem at168 (i : Nat) : ax_at 168 i = ax_c168[i]? := rfl
theorem at169 (i : Nat) : ax_at 169 i = ax_c169[i]? := rfl
theorem at170 (i : Nat) : ax_at 170 i = ax_c170[i]? := rfl
theorem at171 (i : Nat) : ax_at 171 i = ax_c171[i]? := rfl
theorem at172 (i : Nat) : ax_at 172 i = ax_c172[i]? := rfl
theorem at173 (i : Nat) : ax_at 173 i = ax_c173[i]? := rfl
theorem at174 (i : Nat) : ax_at 174 i = ax_c174[i]? := rfl
theorem at175 (i : Nat) : ax_at 175 i = ax_c175[i]? := rfl
theorem at176 (i : Nat) : ax_at 176 i = ax_c176[i]? := rfl
theorem at177 (i : Nat) : ax_at 177 i = ax_c177[i]? := rfl
theorem at178 (i : Nat) : ax_at 178 i = ax_c178[i]? := rfl
theorem at179 (i : Nat) : ax_at 179 i = ax_c179[i]? := rfl
theorem at180 (i : Nat) : ax_at 180 i = ax_c180[i]? := rfl
theorem at181 (i : Nat) : ax_at 181 i = ax_c181[i]? := rfl
theorem at182 (i : Nat) : ax_at 182 i = ax_c182[i]? := rfl
theorem at183 (i : Nat) : ax_at 183 i = ax_c183[i]? := rfl
theorem at184 (i : Nat) : ax_at 184 i = ax_c184[i]? := rfl
theorem at185 (i : Nat) : ax_at 185 i = ax_c185[i]? := rfl
theorem at186 (i : Nat) : ax_at 186 i = ax_c186[i]? := rfl
theorem at187 (i : Nat) : ax_at 187 i = ax_c187[i]? := rfl
theorem at188 (i : Nat) : ax_at 188 i = ax_c188[i]? := rfl
theorem at189 (i : Nat) : ax_at 189 i = ax_c189[i]? := rfl
theorem at190 (i : Nat) : ax_at 190 i = ax_c190[i]? := rfl
theorem at191 (i : Nat) : ax_at 191 i = ax_c191[i]? := rfl
theorem at192 (i : Nat) : ax_at 192 i = ax_c192[i]? := rfl
theorem at193 (i : Nat) : ax_at 193 i = ax_c193[i]? := rfl
theorem at194 (i : Nat) : ax_at 194 i = ax_c194[i]? := rfl
theorem at195 (i : Nat) : ax_at 195 i = ax_c195[i]? := rfl
theorem at196 (i : Nat) : ax_at 196 i = ax_c196[i]? := rfl
theorem at197 (i : Nat) : ax_at 197 i = ax_c197[i]? := rfl
theorem at198 (i : Nat) : ax_at 198 i = ax_c198[i]? := rfl
theorem at199 (i : Nat) : ax_at 199 i = ax_c199[i]? := rfl
theorem at200 (i : Nat) : ax_at 200 i = ax_c200[i]? := rfl
theorem at201 (i : Nat) : ax_at 201 i = ax_c201[i]? := rfl
theorem at202 (i : Nat) : ax_at 202 i = ax_c202[i]? := rfl
theorem at203 (i : Nat) : ax_at 203 i = ax_c203[i]? := rfl
theorem at204 (i : Nat) : ax_at 204 i = ax_c204[i]? := rfl
theorem at205 (i : Nat) : ax_at 205 i = ax_c205[i]? := rfl
theorem at206 (i : Nat) : ax_at 206 i = ax_c206[i]? := rfl
theorem at207 (i : Nat) : ax_at 207 i = ax_c207[i]? := rfl
theorem at208 (i : Nat) : ax_at 208 i = ax_c208[i]? := rfl
theorem at209 (i : Nat) : ax_at 209 i = ax_c209[i]? := rfl
theorem at210 (i : Nat) : ax_at 210 i = ax_c210[i]? := rfl
theorem at211 (i : Nat) : ax_at 211 i = ax_c211[i]? := rfl
theorem at212 (i : Nat) : ax_at 212 i = ax_c212[i]? := rfl
theorem at213 (i : Nat) : ax_at 213 i = ax_c213[i]? := rfl
theorem at214 (i : Nat) : ax_at 214 i = ax_c214[i]? := rfl
theorem at215 (i : Nat) : ax_at 215 i = ax_c215[i]? := rfl
theorem at216 (i : Nat) : ax_at 216 i = ax_c216[i]? := rfl
theorem at217 (i : Nat) : ax_at 217 i = ax_c217[i]? := rfl
theorem at218 (i : Nat) : ax_at 218 i = ax_c218[i]? := rfl
theorem at219 (i : Nat) : ax_at 219 i = ax_c219[i]? := rfl
theorem at220 (i : Nat) : ax_at 220 i = ax_c220[i]? := rfl
theorem at221 (i : Nat) : ax_at 221 i = ax_c221[i]? := rfl
theorem at222 (i : Nat) : ax_at 222 i = ax_c222[i]? := rfl
theorem at223 (i : Nat) : ax_at 223 i = ax_c223[i]? := rfl
theorem at224 (i : Nat) : ax_at 224 i = ax_c224[i]? := rfl
theorem at225 (i : Nat) : ax_at 225 i = ax_c225[i]? := rfl
theorem at226 (i : Nat) : ax_at 226 i = ax_c226[i]? := rfl
theorem at227 (i : Nat) : ax_at 227 i = ax_c227[i]? := rfl
theorem at228 (i : Nat) : ax_at 228 i = ax_c228[i]? := rfl
theorem at229 (i : Nat) : ax_at 229 i = ax_c229[i]? := rfl
theorem at230 (i : Nat) : ax_at 230 i = ax_c230[i]? := rfl
theorem at231 (i : Nat) : ax_at 231 i = ax_c231[i]? := rfl
theorem at232 (i : Nat) : ax_at 232 i = ax_c232[i]? := rfl
theorem at233 (i : Nat) : ax_at 233 i = ax_c233[i]? := rfl
theorem at234 (i : Nat) : ax_at 234 i = ax_c234[i]? := rfl
theorem at235 (i : Nat) : ax_at 235 i = ax_c235[i]? := rfl
theorem at236 (i : Nat) : ax_at 236 i = ax_c236[i]? := rfl
theorem at237 (i : Nat) : ax_at 237 i = ax_c237[i]? := rfl
theorem at238 (i : Nat) : ax_at 238 i = ax_c238[i]? := rfl
theorem at239 (i : Nat) : ax_at 239 i = ax_c239[i]? := rfl
theorem at240 (i : Nat) : ax_at 240 i = ax_c240[i]? := rfl
theorem at241 (i : Nat) : ax_at 241 i = ax_c241[i]? := rfl
theorem at242 (i : Nat) : ax_at 242 i = ax_c242[i]? := rfl
theorem at243 (i : Nat) : ax_at 243 i = ax_c243[i]? := rfl
theorem at244 (i : Nat) : ax_at 244 i = ax_c244[i]? := rfl
theorem at245 (i : Nat) : ax_at 245 i = ax_c245[i]? := rfl
theorem at246 (i : Nat) : ax_at 246 i = ax_c246[i]? := rfl
theorem at247 (i : Nat) : ax_at 247 i = ax_c247[i]? := rfl
theorem at248 (i : Nat) : ax_at 248 i = ax_c248[i]? := rfl
theorem at249 (i : Nat) : ax_at 249 i = ax_c249[i]? := rfl
theorem at250 (i : Nat) : ax_at 250 i = ax_c250[i]? := rfl
theorem at251 (i : Nat) : ax_at 251 i = ax_c251[i]? := rfl
theorem at252 (i : Nat) : ax_at 252 i = ax_c252[i]? := rfl
theorem at253 (i : Nat) : ax_at 253 i = ax_c253[i]? := rfl
theorem at254 (i : Nat) : ax_at 254 i = ax_c254[i]? := rfl
theorem at255 (i : Nat) : ax_at 255 i = ax_c255[i]? := rfl
theorem at256 (i : Nat) : ax_at 256 i = ax_c256[i]? := rfl
theorem at257 (i : Nat) : ax_at 257 i = ax_c257[i]? := rfl
theorem at258 (i : Nat) : ax_at 258 i = ax_c258[i]? := rfl
theorem at259 (i : Nat) : ax_at 259 i = ax_c259[i]? := rfl
theorem at260 (i : Nat) : ax_at 260 i = ax_c260[i]? := rfl
theorem at261 (i : Nat) : ax_at 261 i = ax_c261[i]? := rfl
theorem at262 (i : Nat) : ax_at 262 i = ax_c262[i]? := rfl
theorem at263 (i : Nat) : ax_at 263 i = ax_c263[i]? := rfl
theorem at264 (i : Nat) : ax_at 264 i = ax_c264[i]? := rfl
theorem at265 (i : Nat) : ax_at 265 i = ax_c265[i]? := rfl
theorem at266 (i : Nat) : ax_at 266 i = ax_c266[i]? := rfl
theorem at267 (i : Nat) : ax_at 267 i = ax_c267[i]? := rfl
theorem at268 (i : Nat) : ax_at 268 i = ax_c268[i]? := rfl
theorem at269 (i : Nat) : ax_at 269 i = ax_c269[i]? := rfl
theorem at270 (i : Nat) : ax_at 270 i = ax_c270[i]? := rfl
theorem at271 (i : Nat) : ax_at 271 i = ax_c271[i]? := rfl
theorem at272 (i : Nat) : ax_at 272 i = ax_c272[i]? := rfl
theorem at273 (i : Nat) : ax_at 273 i = ax_c273[i]? := rfl
theorem at274 (i : Nat) : ax_at 274 i = ax_c274[i]? := rfl
theorem at275 (i : Nat) : ax_at 275 i = ax_c275[i]? := rfl
theorem at276 (i : Nat) : ax_at 276 i = ax_c276[i]? := rfl
theorem at277 (i : Nat) : ax_at 277 i = ax_c277[i]? := rfl
theorem at278 (i : Nat) : ax_at 278 i = ax_c278[i]? := rfl
theorem at279 (i : Nat) : ax_at 279 i = ax_c279[i]? := rfl
theorem at280 (i : Nat) : ax_at 280 i = ax_c280[i]? := rfl
theorem at281 (i : Nat) : ax_at 281 i = ax_c281[i]? := rfl
theorem at282 (i : Nat) : ax_at 282 i = ax_c282[i]? := rfl
theorem at283 (i : Nat) : ax_at 283 i = ax_c283[i]? := rfl
theorem at284 (i : Nat) : ax_at 284 i = ax_c284[i]? := rfl
theorem at285 (i : Nat) : ax_at 285 i = ax_c285[i]? := rfl
theorem at286 (i : Nat) : ax_at 286 i = ax_c286[i]? := rfl
theorem at287 (i : Nat) : ax_at 287 i = ax_c287[i]? := rfl
theorem at288 (i : Nat) : ax_at 288 i = ax_c288[i]? := rfl
theorem at289 (i : Nat) : ax_at 289 i = ax_c289[i]? := rfl
theorem at290 (i : Nat) : ax_at 290 i = ax_c290[i]? := rfl
theorem at291 (i : Nat) : ax_at 291 i = ax_c291[i]? := rfl
theorem at292 (i : Nat) : ax_at 292 i = ax_c292[i]? := rfl
theorem at293 (i : Nat) : ax_at 293 i = ax_c293[i]? := rfl
theorem at294 (i : Nat) : ax_at 294 i = ax_c294[i]? := rfl
theorem at295 (i : Nat) : ax_at 295 i = ax_c295[i]? := rfl
theorem at296 (i : Nat) : ax_at 296 i = ax_c296[i]? := rfl
theorem at297 (i : Nat) : ax_at 297 i = ax_c297[i]? := rfl
theorem at298 (i : Nat) : ax_at 298 i = ax_c298[i]? := rfl
theorem at299 (i : Nat) : ax_at 299 i = ax_c299[i]? := rfl
theorem at300 (i : Nat) : ax_at 300 i = ax_c300[i]? := rfl
theorem at301 (i : Nat) : ax_at 301 i = ax_c301[i]? := rfl
theorem at302 (i : Nat) : ax_at 302 i = ax_c302[i]? := rfl
theorem at303 (i : Nat) : ax_at 303 i = ax_c303[i]? := rfl
theorem at304 (i : Nat) : ax_at 304 i = ax_c304[i]? := rfl
theorem at305 (i : Nat) : ax_at 305 i = ax_c305[i]? := rfl
theorem at306 (i : Nat) : ax_at 306 i = ax_c306[i]? := rfl
theorem at307 (i : Nat) : ax_at 307 i = ax_c307[i]? := rfl
theorem at308 (i : Nat) : ax_at 308 i = ax_c308[i]? := rfl
theorem at309 (i : Nat) : ax_at 309 i = ax_c309[i]? := rfl
theorem at310 (i : Nat) : ax_at 310 i = ax_c310[i]? := rfl
theorem at311 (i : Nat) : ax_at 311 i = ax_c311[i]? := rfl
theorem at312 (i : Nat) : ax_at 312 i = ax_c312[i]? := rfl
theorem at313 (i : Nat) : ax_at 313 i = ax_c313[i]? := rfl
theorem at314 (i : Nat) : ax_at 314 i = ax_c314[i]? := rfl
theorem at315 (i : Nat) : ax_at 315 i = ax_c315[i]? := rfl
