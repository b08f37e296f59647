def WFO : ax_W := ([(4, 5), (22, 23), (25, 26), (40, 41), (43, 44)], [(1, 2), (1, 3), (1, 4), (1, 6), (1, 8), (1, 9), (3, 1), (21, 1), (24, 1), (39, 1), (42, 1)])
abbrev PRs : Type := (Int × Int) ⊕ (PS × List Int)
def lw (k : Nat) : List (List Int) := if k = 0 then [w_pace, w_bag, w_drill, w_minute, w_crowd] else if k = 1 then [w_pace, w_bag, w_drill, w_other, w_long] else [w_pace, w_bag, w_drill, w_number, w_post, w_out, w_signed]
def lcd (k : Nat) (i : Int) : Int := if i < 3 then i else if k = 0 then i else if k = 1 then i + 2 else i + 4
section PUR
variable (T : Nat → Int) (n : Nat)
def thn (r : PRs) (f : PS → List Int → PRs) : PRs := match r with
  | .inl e => .inl e
  | .inr (q, c) => f q c
def tkS (q : PS) (s : Int) (c : List Int) : PRs := match sgR T n q s with
  | some e => .inl e
  | none => .inr (nx T n q, c)
def lgF (opn : Bool) (sm : PS → PRs) (q : PS) : PRs := if isG T n (nx T n q) 40 = true then (if opn = true then thn (sm (nx T n (nx T n q))) (fun q1 c => thn (tkS T n q1 44 c) (fun q2 c => thn (sm q2) (fun q3 c2 => tkS T n q3 41 (c ++ c2 ++ [if isW T n q w_min = true then 5 else 6])))) else .inl (4, ((nx T n q).1 : Int))) else .inl (1, ((nx T n q).1 : Int))
def partF (k : Nat) (opn : Bool) (sm pt : PS → PRs) (q : PS) : PRs :=
  if kd T n q = 2 then (match nuR T n q 0 9999 with
    | some e => .inl e
    | none => .inr (nx T n q, [1000 + nuV T n q]))
  else if isG T n q 40 = true then (if opn = true then thn (sm (nx T n q)) (fun q1 c => tkS T n q1 41 c) else .inl (4, (q.1 : Int)))
  else if isW T n q w_min = true ∨ isW T n q w_max = true then lgF T n opn sm q
  else if k = 2 ∧ isW T n q w_meets = true then (if opn = true then thn (pt (nx T n q)) (fun q1 c => .inr (q1, c ++ [60])) else .inl (4, (q.1 : Int)))
  else if fnd T n q 0 (lw k) = -1 then .inl (1, (q.1 : Int)) else .inr (nx T n q, [40 + lcd k (fnd T n q 0 (lw k))])
def opF (a b ca cb : Int) (sub : PS → PRs) : Nat → PS → List Int → PRs
  | 0, q, c => .inr (q, c)
  | f + 1, q, c => if isG T n q a = true ∨ isG T n q b = true then thn (sub (nx T n q)) (fun q1 c1 => opF a b ca cb sub f q1 (c ++ c1 ++ [if isG T n q a = true then ca else cb])) else .inr (q, c)
def prodF (sub : PS → PRs) (q : PS) : PRs := thn (sub q) (fun q1 c => opF T n 42 47 3 4 sub 1600 q1 c)
def sumF (sub : PS → PRs) (q : PS) : PRs := thn (prodF T n sub q) (fun q1 c => opF T n 43 45 1 2 (prodF T n sub) 1600 q1 c)
def ptL (k : Nat) : Nat → PS → PRs
  | 0 => partF T n k false (fun _ => .inl (0, 0)) (fun _ => .inl (0, 0))
  | r + 1 => partF T n k true (sumF T n (ptL k r)) (ptL k r)
def smL (k r : Nat) : PS → PRs := sumF T n (ptL T n k r)
def cmpC (q : PS) : Int := if isG T n q 60 = true then 7 else if isG T n q 62 = true then 8 else if isG T n q 61 = true then 9 else 0
def factF (opn : Bool) (tst fct sm : PS → PRs) (q : PS) : PRs :=
  if isW T n q w_not = true then (if opn = true then thn (fct (nx T n q)) (fun q1 c => .inr (q1, c ++ [12])) else .inl (4, (q.1 : Int)))
  else if isG T n q 91 = true then (if opn = true then thn (tst (nx T n q)) (fun q1 c => tkS T n q1 93 c) else .inl (4, (q.1 : Int)))
  else if isW T n q w_all = true then .inr (nx T n q, [13])
  else thn (sm q) (fun q1 c => if cmpC T n q1 = 0 then .inl (1, (q1.1 : Int)) else thn (sm (nx T n q1)) (fun q2 c2 => .inr (q2, c ++ c2 ++ [cmpC T n q1])))
def wlF (w : List Int) (cd : Int) (sub : PS → PRs) : Nat → PS → List Int → PRs
  | 0, q, c => .inr (q, c)
  | f + 1, q, c => if isW T n q w = true then thn (sub (nx T n q)) (fun q1 c1 => wlF w cd sub f q1 (c ++ c1 ++ [cd])) else .inr (q, c)
def bothF (sub : PS → PRs) (q : PS) : PRs := thn (sub q) (fun q1 c => wlF T n w_and 10 sub 1600 q1 c)
def testF (sub : PS → PRs) (q : PS) : PRs := thn (bothF T n sub q) (fun q1 c => wlF T n w_or 11 (bothF T n sub) 1600 q1 c)
def fcL (k : Nat) : Nat → PS → PRs
  | 0 => factF T n false (fun _ => .inl (0, 0)) (fun _ => .inl (0, 0)) (smL T n k 0)
  | r + 1 => factF T n true (testF T n (fcL k r)) (fcL k r) (smL T n k (r + 1))
def tsL (k r : Nat) : PS → PRs := testF T n (fcL T n k r)
def GoodR (q : PS) (l : Nat) (r : PRs) : Prop := ∀ q' c, r = .inr (q', c) → q.1 + c.length ≤ q'.1 + l ∧ q.1 ≤ q'.1 ∧ wq T n q'
def GoodF (F : PS → PRs) : Prop := ∀ q, q.1 ≤ n → GoodR T n q 0 (F q)
end PUR
section GOO
variable {T : Nat → Int} {n : Nat}
theorem good_inl {q : PS} {l : Nat} {e : Int × Int} : GoodR T n q l (.inl e) := fun q' c h => by cases h
theorem good_thn {q : PS} {l : Nat} {r : PRs} {f : PS → List Int → PRs} (h : ∀ q1 c, r = .inr (q1, c) → GoodR T n q l (f q1 c)) : GoodR T n q l (thn r f) := by
  cases e : r with
  | inl e => exact good_inl
  | inr x => obtain ⟨q1, c⟩ := x; exact h q1 c e
theorem isG_lt {q : PS} {c : Int} (h : isG T n q c = true) : q.1 < n := (kd_3 (isG_kd3 h)).2.1
theorem isW_lt {q : PS} {w : List Int} (h : isW T n q w = true) : q.1 < n := (kd_1 (isW_kd1 h)).2.1
theorem fnd_lt {q : PS} {ws : List (List Int)} (h : ¬ fnd T n q 0 ws = -1) : q.1 < n := by
  by_cases z : kd T n q = 1
  · exact (kd_1 z).2.1
  · exact absurd (fnd_kd z 0) h
theorem tkS_c {q : PS} {s : Int} {c : List Int} : (isG T n q s = true ∧ tkS T n q s c = .inr (nx T n q, c)) ∨ (isG T n q s = false ∧ tkS T n q s c = .inl (1, (q.1 : Int))) := by
  unfold tkS sgR
  cases e : isG T n q s with
  | true => exact Or.inl ⟨rfl, rfl⟩
  | false => exact Or.inr ⟨rfl, rfl⟩
theorem good_tkS {q q1 : PS} {l : Nat} {s : Int} {c : List Int} (h1 : q.1 + c.length ≤ q1.1 + l + 1) (h2 : q.1 ≤ q1.1) : GoodR T n q l (tkS T n q1 s c) := by
  rcases tkS_c (T := T) (n := n) (q := q1) (s := s) (c := c) with ⟨z, e⟩ | ⟨z, e⟩
  · rw [e]
    intro q' c' h
    cases h
    have h3 := nx_gt (T := T) (isG_lt z)
    exact ⟨by omega, by omega, wq_nx (Nat.le_of_lt (isG_lt z))⟩
  · rw [e]; exact good_inl
theorem good_part {k : Nat} {opn : Bool} {sm pt : PS → PRs} (hs : GoodF T n sm) (hp : GoodF T n pt) : GoodF T n (partF T n k opn sm pt) := by
  intro q hq
  unfold partF
  have w1 := wq_nx (T := T) hq
  split
  · rename_i z
    have h2 := nx_gt (T := T) (kd_2 z).2.1
    split
    · exact good_inl
    · intro q' c h; cases h
      exact ⟨by show q.1 + 1 ≤ _; omega, by omega, w1⟩
  split
  · rename_i z
    have h2 := nx_gt (T := T) (isG_lt z)
    split
    · refine good_thn (fun q1 c h => ?_)
      have := hs _ w1.1 q1 c h
      exact good_tkS (by omega) (by omega)
    · exact good_inl
  split
  · rename_i z
    have hlt : q.1 < n := by rcases z with z | z <;> exact isW_lt z
    have h2 := nx_gt (T := T) hlt
    unfold lgF
    split
    · rename_i z2
      have h3 := nx_gt (T := T) (isG_lt z2)
      have w2 := wq_nx (T := T) w1.1
      split
      · refine good_thn (fun q1 c h => ?_)
        have g1 := hs _ w2.1 q1 c h
        refine good_thn (fun q2 c2 h => ?_)
        have g2 : GoodR T n q1 c.length (tkS T n q1 44 c) := good_tkS (by omega) (Nat.le_refl _)
        have g2 := g2 q2 c2 h
        have ec : c2 = c := by
          rcases tkS_c (T := T) (n := n) (q := q1) (s := 44) (c := c) with ⟨_, e⟩ | ⟨_, e⟩
          · rw [e] at h; cases h; rfl
          · rw [e] at h; cases h
        have hg : q1.1 < q2.1 := by
          rcases tkS_c (T := T) (n := n) (q := q1) (s := 44) (c := c) with ⟨y, e⟩ | ⟨_, e⟩
          · rw [e] at h; cases h; exact nx_gt (isG_lt y)
          · rw [e] at h; cases h
        subst ec
        refine good_thn (fun q3 c3 h => ?_)
        have g3 := hs _ g2.2.2.1 q3 c3 h
        refine good_tkS ?_ (by omega)
        rw [List.length_append, List.length_append]
        show q.1 + (c2.length + c3.length + 1) ≤ _
        omega
      · exact good_inl
    · exact good_inl
  split
  · rename_i z
    have h2 := nx_gt (T := T) (isW_lt z.2)
    split
    · refine good_thn (fun q1 c h => ?_)
      have g1 := hp _ w1.1 q1 c h
      intro q' c' h; cases h
      refine ⟨?_, by omega, g1.2.2⟩
      rw [List.length_append]; show q.1 + (c.length + 1) ≤ _; omega
    · exact good_inl
  split
  · exact good_inl
  · rename_i z
    have h2 := nx_gt (T := T) (fnd_lt z)
    intro q' c h; cases h
    exact ⟨by show q.1 + 1 ≤ _; omega, by omega, w1⟩
theorem good_opF {a b ca cb : Int} {sub : PS → PRs} (hs : GoodF T n sub) {q0 : PS} : ∀ f q c, q0.1 + c.length ≤ q.1 → q0.1 ≤ q.1 → wq T n q → GoodR T n q0 0 (opF T n a b ca cb sub f q c) := by
  intro f
  induction f with
  | zero => intro q c h1 h2 h3 q' c' h; cases h; exact ⟨h1, h2, h3⟩
  | succ f ih =>
    intro q c h1 h2 h3
    show GoodR T n q0 0 (if isG T n q a = true ∨ isG T n q b = true then _ else _)
    split
    · rename_i z
      have hlt : q.1 < n := by rcases z with z | z <;> exact isG_lt z
      have h4 := nx_gt (T := T) hlt
      refine good_thn (fun q1 c1 h => ?_)
      have g := hs _ (wq_nx (T := T) h3.1).1 q1 c1 h
      refine ih _ _ ?_ (by omega) g.2.2
      rw [List.length_append, List.length_append]; show q0.1 + (c.length + c1.length + 1) ≤ _; omega
    · intro q' c' h; cases h; exact ⟨h1, h2, h3⟩
theorem good_prod {sub : PS → PRs} (hs : GoodF T n sub) : GoodF T n (prodF T n sub) := by
  intro q hq
  refine good_thn (fun q1 c h => ?_)
  have g := hs q hq q1 c h
  exact good_opF hs _ _ _ (by omega) g.2.1 g.2.2
theorem good_sum {sub : PS → PRs} (hs : GoodF T n sub) : GoodF T n (sumF T n sub) := by
  intro q hq
  refine good_thn (fun q1 c h => ?_)
  have g := good_prod hs q hq q1 c h
  exact good_opF (good_prod hs) _ _ _ (by omega) g.2.1 g.2.2
theorem good_no : GoodF T n (fun _ => .inl (0, 0)) := fun _ _ => good_inl
theorem good_pt {k : Nat} : ∀ r, GoodF T n (ptL T n k r)
  | 0 => good_part good_no good_no
  | r + 1 => good_part (good_sum (good_pt r)) (good_pt r)
theorem good_sm {k r : Nat} : GoodF T n (smL T n k r) := good_sum (good_pt r)
theorem cmp_lt {q : PS} (h : ¬ cmpC T n q = 0) : q.1 < n := by
  unfold cmpC at h
  by_cases h1 : isG T n q 60 = true
  · exact isG_lt h1
  rw [if_neg h1] at h
  by_cases h2 : isG T n q 62 = true
  · exact isG_lt h2
  rw [if_neg h2] at h
  by_cases h3 : isG T n q 61 = true
  · exact isG_lt h3
  rw [if_neg h3] at h
  exact absurd rfl h
theorem good_fact {opn : Bool} {tst fct sm : PS → PRs} (ht : GoodF T n tst) (hf : GoodF T n fct) (hs : GoodF T n sm) : GoodF T n (factF T n opn tst fct sm) := by
  intro q hq
  unfold factF
  have w1 := wq_nx (T := T) hq
  split
  · rename_i z
    have h2 := nx_gt (T := T) (isW_lt z)
    split
    · refine good_thn (fun q1 c h => ?_)
      have g1 := hf _ w1.1 q1 c h
      intro q' c' h; cases h
      refine ⟨?_, by omega, g1.2.2⟩
      rw [List.length_append]; show q.1 + (c.length + 1) ≤ _; omega
    · exact good_inl
  split
  · rename_i z
    have h2 := nx_gt (T := T) (isG_lt z)
    split
    · refine good_thn (fun q1 c h => ?_)
      have g1 := ht _ w1.1 q1 c h
      exact good_tkS (by omega) (by omega)
    · exact good_inl
  split
  · rename_i z
    have h2 := nx_gt (T := T) (isW_lt z)
    intro q' c h; cases h
    exact ⟨by show q.1 + 1 ≤ _; omega, by omega, w1⟩
  · refine good_thn (fun q1 c h => ?_)
    have g1 := hs _ hq q1 c h
    split
    · exact good_inl
    · rename_i z
      have h2 := nx_gt (T := T) (cmp_lt z)
      refine good_thn (fun q2 c2 h => ?_)
      have g2 := hs _ (wq_nx (T := T) g1.2.2.1).1 q2 c2 h
      intro q' c' h; cases h
      refine ⟨?_, by omega, g2.2.2⟩
      rw [List.length_append, List.length_append]; show q.1 + (c.length + c2.length + 1) ≤ _; omega
theorem good_wlF {w : List Int} {cd : Int} {sub : PS → PRs} (hs : GoodF T n sub) {q0 : PS} : ∀ f q c, q0.1 + c.length ≤ q.1 → q0.1 ≤ q.1 → wq T n q → GoodR T n q0 0 (wlF T n w cd sub f q c) := by
  intro f
  induction f with
  | zero => intro q c h1 h2 h3 q' c' h; cases h; exact ⟨h1, h2, h3⟩
  | succ f ih =>
    intro q c h1 h2 h3
    show GoodR T n q0 0 (if isW T n q w = true then _ else _)
    split
    · rename_i z
      have h4 := nx_gt (T := T) (isW_lt z)
      refine good_thn (fun q1 c1 h => ?_)
      have g := hs _ (wq_nx (T := T) h3.1).1 q1 c1 h
      refine ih _ _ ?_ (by omega) g.2.2
      rw [List.length_append, List.length_append]; show q0.1 + (c.length + c1.length + 1) ≤ _; omega
    · intro q' c' h; cases h; exact ⟨h1, h2, h3⟩
theorem good_both {sub : PS → PRs} (hs : GoodF T n sub) : GoodF T n (bothF T n sub) := by
  intro q hq
  refine good_thn (fun q1 c h => ?_)
  have g := hs q hq q1 c h
  exact good_wlF hs _ _ _ (by omega) g.2.1 g.2.2
theorem good_test {sub : PS → PRs} (hs : GoodF T n sub) : GoodF T n (testF T n sub) := by
  intro q hq
  refine good_thn (fun q1 c h => ?_)
  have g := good_both hs q hq q1 c h
  exact good_wlF (good_both hs) _ _ _ (by omega) g.2.1 g.2.2
theorem good_fc {k : Nat} : ∀ r, GoodF T n (fcL T n k r)
  | 0 => good_fact good_no good_no good_sm
  | r + 1 => good_fact (good_test (good_fc r)) (good_fc r) good_sm
theorem good_ts {k r : Nat} : GoodF T n (tsL T n k r) := good_test (good_fc r)
end GOO
def PC (M : ax_M) (p k : Nat) (C : List Int) : Prop := M p 1 = (C.length : Int) ∧ ∀ i, i < C.length → M (p + 1) i = cs k (C.getD i 0)
def OPr (p : Nat) (M M' : ax_M) : Prop := ∀ p', isP p' → p' ≠ p → M' p' 1 = M p' 1 ∧ ∀ i, M' (p' + 1) i = M (p' + 1) i
theorem OPr.refl {p : Nat} {M : ax_M} : OPr p M M := fun _ _ _ => ⟨rfl, fun _ => rfl⟩
theorem OPr.trans {p : Nat} {M M1 M2 : ax_M} (h : OPr p M M1) (h' : OPr p M1 M2) : OPr p M M2 := fun p' a b => ⟨((h' p' a b).1).trans (h p' a b).1, fun i => ((h' p' a b).2 i).trans ((h p' a b).2 i)⟩
theorem OPr.tx {p : Nat} {M M1 : ax_M} (hS : Sb WNU M M1) : OPr p M M1 := by
  intro p' h _
  rcases h with rfl | rfl | rfl | rfl | rfl <;> exact ⟨hS _ _ rfl, fun i => hS _ _ rfl⟩
theorem PC.tx {p k : Nat} {C : List Int} {M M1 : ax_M} (h : PC M p k C) (hp : isP p) (hS : Sb WNU M M1) : PC M1 p k C := by
  have e := OPr.tx (p := 0) hS p hp (by rcases hp with rfl | rfl | rfl | rfl | rfl <;> decide)
  exact ⟨e.1.trans h.1, fun i hi => (e.2 i).trans (h.2 i hi)⟩
def txk (k : Nat) : Int := if k = 0 then -30 else if k = 1 then -46 else -48
def FM (p k : Nat) (M : ax_M) : Prop := M 6 1 = (p : Int) ∧ M 6 2 = txk k ∧ M 6 3 = (if k = 2 then 1 else 0)
theorem FM.sb {p k : Nat} {M M1 : ax_M} (h : FM p k M) (hS : Sb WFO M M1) : FM p k M1 := ⟨(hS _ _ rfl).trans h.1, (hS _ _ rfl).trans h.2.1, (hS _ _ rfl).trans h.2.2⟩
def FI (T : Nat → Int) (n p k : Nat) (C : List Int) (q : PS) (M : ax_M) : Prop := CT T n q M ∧ PC M p k C ∧ C.length ≤ q.1 ∧ q.1 ≤ n ∧ FM p k M
def FP (T : Nat → Int) (n p k : Nat) (C : List Int) (M : ax_M) (F : PRs) (x : Int) (M' : ax_M) : Prop := Sb WFO M M' ∧ OPr p M M' ∧ ((∃ f pl, F = .inl (f, pl) ∧ x = 0 ∧ CF f pl M') ∨ ∃ q' c, F = .inr (q', c) ∧ x = 1 ∧ CT T n q' M' ∧ PC M' p k (C ++ c))
section CFO
variable {L : Nat} {X : Nat → Int} {M : ax_M} {T : Nat → Int} {n p k : Nat} {q : PS} {C : List Int}
theorem PC.add {M' : ax_M} {v : Int} (h : PC M p k C) (h1 : M' p 1 = (C.length : Int) + 1) (h2 : ∀ i, M' (p + 1) i = if i = C.length then cs k v else M (p + 1) i) : PC M' p k (C ++ [v]) := by
  have el : (C ++ [v]).length = C.length + 1 := by simp
  refine ⟨by rw [h1, el]; omega, fun i hi => ?_⟩
  rw [el] at hi
  rw [h2 i]
  by_cases z : i = C.length
  · rw [if_pos z, z, apd2]
  · rw [if_neg z, apd1 (by omega)]; exact h.2 i (by omega)
theorem m59 (hF : Fix M) (hp : isP p) (hc : PC M p k C) (hl : C.length < 1600) {v x : Int} (hx : x = cs k v) : ax_Ev L X SH 0 59 [(2, (p : Int)), (0, x)] M (R0 (fun M' => Sb WFO M M' ∧ OPr p M M' ∧ PC M' p k (C ++ [v]) ∧ (∀ i, M' 1 i = M 1 i) ∧ ∀ i, M' 2 i = M 2 i)) := by
  show ax_G L X SH 0 59 0 [(2, (p : Int)), (0, x)] [] M _
  have hC := at59
  have hwp : ∀ i, wb WFO (p + 1) i = true := by rcases hp with rfl | rfl | rfl | rfl | rfl <;> exact fun i => rfl
  have hw1 : wb WFO p 1 = true := by rcases hp with rfl | rfl | rfl | rfl | rfl <;> rfl
  have hp2 : 3 ≤ p := by rcases hp with rfl | rfl | rfl | rfl | rfl <;> decide
  have hS : Sb WFO M M := Sb.refl
  have hw : wok WFO = true := by decide +kernel
  refine g3 hC rfl rfl ?_
  refine g19 hC rfl (shPg hp) (Nat.le_of_ble_eq_true rfl) rfl hc.1 ?_
  refine g3 hC rfl rfl ?_
  refine g19 hC rfl (shPg hp) (Nat.le_of_ble_eq_true rfl) rfl (prog0 (hS.fix hw hF) hp) ?_
  refine g23 hC rfl (shPa0 hp) ?_
  refine g13g hC rfl (fun h5 => (by omega)) (fun h5 => ?_)
  refine g3 hC rfl rfl ?_
  refine g19 hC rfl (shPg hp) (Nat.le_of_ble_eq_true rfl) rfl (prog0 (hS.fix hw hF) hp) ?_
  refine g3 hC rfl rfl ?_
  refine g19 hC rfl (shPg hp) (Nat.le_of_ble_eq_true rfl) rfl hc.1 ?_
  refine g3 hC rfl rfl ?_
  refine r22s (C.length) hC rfl rfl (shPa0 hp) (by omega) rfl hS (hwp _) (fun hS => ?_)
  refine g3 hC rfl rfl ?_
  refine g16 hC rfl (by decide) ?_
  refine g19 hC rfl (shPg hp) (Nat.le_of_ble_eq_true rfl) rfl ((ax_up2n (by omega)).trans hc.1) ?_
  refine g0 hC rfl ?_
  refine g6a hC rfl ⟨by omega, by omega⟩ ?_
  refine g20s hC rfl (shPg hp) (Nat.le_of_ble_eq_true rfl) rfl hS hw1 (fun hS => ?_)
  refine ret0 hC rfl ?_
  refine ⟨hS, ?_, hc.add ax_up_at (fun i => ?_), fun i => ?_, fun i => ?_⟩
  · intro p' hp' hne
    have hd : p' ≠ p + 1 ∧ p' + 1 ≠ p ∧ p' + 1 ≠ p + 1 := by
      rcases hp with rfl | rfl | rfl | rfl | rfl <;> rcases hp' with rfl | rfl | rfl | rfl | rfl <;> omega
    exact ⟨by rw [ax_up2n hne, ax_up2n hd.1], fun i => by rw [ax_up2n hd.2.1, ax_up2n hd.2.2]⟩
  · rw [ax_up2n (by omega), ax_upf]; unfold up; rw [hx]
  · rw [ax_up2n (by omega), ax_up2n (by omega)]
  · rw [ax_up2n (by omega), ax_up2n (by omega)]
theorem CT.same {M' : ax_M} (h : CT T n q M) (h1 : ∀ i, M' 1 i = M 1 i) (h2 : ∀ i, M' 2 i = M 2 i) : CT T n q M' := ⟨(h1 _).trans h.1, (h1 _).trans h.2.1, (h1 _).trans h.2.2.1, (h1 _).trans h.2.2.2.1, fun i hi => (h2 _).trans (h.2.2.2.2.1 i hi), (h1 _).trans h.2.2.2.2.2.1, (h1 _).trans h.2.2.2.2.2.2⟩
theorem m24 (hF : Fix M) (hn : n ≤ 1600) (hq : CT T n q M) (hqn : q.1 ≤ n) : ax_Ev L X SH 1 24 [(2, 6)] M (R1 0 (fun x M' => x = (if cmpC T n q = 0 then 0 else cs k (cmpC T n q)) ∧ M' = M)) := by
  show ax_G L X SH 1 24 0 [(2, 6)] [] M _
  have hC := at24
  have hS : Sb WSP M M := Sb.refl
  have hw : wok WSP = true := by decide +kernel
  have e : cmpC T n q = if isG T n q 60 = true then 7 else if isG T n q 62 = true then 8 else if isG T n q 61 = true then 9 else 0 := rfl
  refine g3 hC rfl rfl ?_
  refine g19 hC rfl rfl (Nat.le_of_ble_eq_true rfl) rfl ((hS.fix hw hF).g rfl) ?_
  refine g0 hC rfl ?_
  refine c1 hC rfl rfl rfl (Nat.le_of_ble_eq_true rfl) (Nat.le_of_ble_eq_true rfl) rfl (m94 hF hn hq hqn) (Nat.le_of_ble_eq_true rfl) (fun x1 M2 hr => ?_)
  obtain ⟨hx1, hr⟩ := hr; replace hr := hr.symm; subst hr
  refine g12e hC rfl (fun h4 => ?_) (fun h4 => ?_)
  ·
    refine g3 hC rfl rfl ?_
    refine g19 hC rfl rfl (Nat.le_of_ble_eq_true rfl) rfl ((hS.fix hw hF).g rfl) ?_
    refine g0 hC rfl ?_
    refine c1 hC rfl rfl rfl (Nat.le_of_ble_eq_true rfl) (Nat.le_of_ble_eq_true rfl) rfl (m94 hF hn hq hqn) (Nat.le_of_ble_eq_true rfl) (fun x2 M2 hr => ?_)
    obtain ⟨hx2, hr⟩ := hr; replace hr := hr.symm; subst hr
    refine g12e hC rfl (fun h11 => ?_) (fun h11 => ?_)
    ·
      refine g3 hC rfl rfl ?_
      refine g19 hC rfl rfl (Nat.le_of_ble_eq_true rfl) rfl ((hS.fix hw hF).g rfl) ?_
      refine g0 hC rfl ?_
      refine c1 hC rfl rfl rfl (Nat.le_of_ble_eq_true rfl) (Nat.le_of_ble_eq_true rfl) rfl (m94 hF hn hq hqn) (Nat.le_of_ble_eq_true rfl) (fun x3 M2 hr => ?_)
      obtain ⟨hx3, hr⟩ := hr; replace hr := hr.symm; subst hr
      refine g12e hC rfl (fun h18 => ?_) (fun h18 => ?_)
      ·
        refine g0 hC rfl ?_
        refine ret1 hC rfl rfl ?_
        refine ⟨?_, rfl⟩
        rw [e, nW hx1 (by omega), nW hx2 (by omega), nW hx3 (by omega)]; rfl
      ·
        refine g0 hC rfl ?_
        refine g14 hC rfl ?_
        refine ret1 hC rfl rfl ?_
        refine ⟨?_, rfl⟩
        rw [e, nW hx1 (by omega), nW hx2 (by omega), yW hx3 (by omega)]; rfl
    ·
      refine g0 hC rfl ?_
      refine ret1 hC rfl rfl ?_
      refine ⟨?_, rfl⟩
      rw [e, nW hx1 (by omega), yW hx2 (by omega)]; rfl
  ·
    refine g0 hC rfl ?_
    refine ret1 hC rfl rfl ?_
    refine ⟨?_, rfl⟩
    rw [e, yW hx1 (by omega)]; rfl
theorem m29 (hF : Fix M) (hn : n ≤ 1600) (hq : CT T n q M) (hqn : q.1 ≤ n) {r : Nat} (hr6 : r ≤ 6) : ax_Ev L X SH 2 29 [(2, 6), (0, ((6 - r : Nat) : Int))] M (R1 0 (fun x M' => Sb WNU M M' ∧ ((r = 0 ∧ x = 0 ∧ CF 4 q.1 M') ∨ (0 < r ∧ x = 1 ∧ CT T n (nx T n q) M')))) := by
  show ax_G L X SH 2 29 0 [(2, 6), (0, ((6 - r : Nat) : Int))] [] M _
  have hC := at29
  have hS : Sb WSP M M := Sb.refl
  have hw : wok WSP = true := by decide +kernel
  refine g3 hC rfl rfl ?_
  refine g0 hC rfl ?_
  refine g13l hC rfl (fun h2 => ?_) (fun h2 => ?_)
  ·
    refine g3 hC rfl rfl ?_
    refine g19 hC rfl rfl (Nat.le_of_ble_eq_true rfl) rfl ((hS.fix hw hF).g rfl) ?_
    refine c0 hC rfl rfl rfl (Nat.le_of_ble_eq_true rfl) (Nat.le_of_ble_eq_true rfl) rfl (m90q hF hn hq hqn) (Nat.le_of_ble_eq_true rfl) (fun M2 hr => ?_)
    obtain ⟨hS1, hc⟩ := hr
    refine g0 hC rfl ?_
    refine ret3 hC rfl ⟨by omega, by omega⟩ ?_
    exact ⟨hS1.mono rfl, Or.inr ⟨by omega, rfl, hc⟩⟩
  ·
    refine g3 hC rfl rfl ?_
    refine g19 hC rfl rfl (Nat.le_of_ble_eq_true rfl) rfl ((hS.fix hw hF).g rfl) ?_
    refine g0 hC rfl ?_
    refine g3 hC rfl rfl ?_
    refine g19 hC rfl rfl (Nat.le_of_ble_eq_true rfl) rfl ((hS.fix hw hF).g rfl) ?_
    refine g19 hC rfl rfl (Nat.le_of_ble_eq_true rfl) rfl hq.2.2.1 ?_
    refine c1 hC rfl rfl rfl (Nat.le_of_ble_eq_true rfl) (Nat.le_of_ble_eq_true rfl) rfl (m89) (Nat.le_of_ble_eq_true rfl) (fun x M2 hr => ?_)
    obtain ⟨rfl, hr⟩ := hr; replace hr := hr.symm; subst hr
    refine ret3 hC rfl ⟨by omega, by omega⟩ ?_
    exact ⟨(Sb.refl.up rfl).up rfl, Or.inl ⟨by omega, rfl, CF.up⟩⟩
end CFO
