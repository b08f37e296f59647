section SIM
variable {L : Nat} {X : Nat → Int} {M0 : ax_M} {T : Nat → Int} {n k : Nat} {W : List Int} {was : Int} {Q : ax_M → Prop}
def KFr (L : Nat) (X : Nat → Int) (was : Int) (Q : ax_M → Prop) (M0 : ax_M) (r : PRs) : Prop := ∀ f p, r = .inl (f, p) → KF L X was Q M0 f p
def PtOK (L : Nat) (X : Nat → Int) (T : Nat → Int) (n k : Nat) (W : List Int) (M0 : ax_M) (was : Int) (Q : ax_M → Prop) (op : Nat) (F : PS → PRs) : Prop := ∀ q C V M, SX T n k W M0 q C V op M → KFr L X was Q M0 (F q) → (∀ q' c, F q = .inr (q', c) → ∀ M1, SX T n k W M0 q' (C ++ c) V op M1 → KE L X was Q M1) → KP L X was Q M
def noM (T : Nat → Int) (n : Nat) (q : PS) : Prop := isG T n q 42 = false ∧ isG T n q 47 = false
def noA (T : Nat → Int) (n : Nat) (q : PS) : Prop := isG T n q 43 = false ∧ isG T n q 45 = false
def isPm (pm : List Int) : Prop := pm = [] ∨ pm = [3] ∨ pm = [4]
def isPa (pa : List Int) : Prop := pa = [] ∨ pa = [1] ∨ pa = [2]
theorem sml_p {pa pm : List Int} (ha : isPa pa) (hm : isPm pm) : sml (pa ++ pm) := by
  unfold sml
  rcases ha with rfl | rfl | rfl <;> rcases hm with rfl | rfl | rfl <;> decide
theorem rev_p {pa pm : List Int} (ha : isPa pa) (hm : isPm pm) : (pa ++ pm).reverse = pm ++ pa := by
  rcases ha with rfl | rfl | rfl <;> rcases hm with rfl | rfl | rfl <;> rfl
def PrOK (L : Nat) (X : Nat → Int) (T : Nat → Int) (n k : Nat) (W : List Int) (M0 : ax_M) (was : Int) (Q : ax_M → Prop) (op : Nat) (F : PS → PRs) : Prop := ∀ q C V pa bv M, Ctx V bv → isPa pa → SX T n k W M0 q C (V ++ pa) op M → KFr L X was Q M0 (F q) → (∀ q' c, F q = .inr (q', c) → ∀ pm c0' M1, isPm pm → c = c0' ++ pm → SX T n k W M0 q' (C ++ c0') (V ++ pa ++ pm) op M1 → noM T n q' → KG L X was Q M1) → KP L X was Q M
def SmOK (L : Nat) (X : Nat → Int) (T : Nat → Int) (n k : Nat) (W : List Int) (M0 : ax_M) (was : Int) (Q : ax_M → Prop) (op : Nat) (F : PS → PRs) : Prop := ∀ q C V bv M, Ctx V bv → SX T n k W M0 q C V op M → KFr L X was Q M0 (F q) → (∀ q' c, F q = .inr (q', c) → ∀ tl c0' M1, sml tl → c = c0' ++ tl.reverse → SX T n k W M0 q' (C ++ c0') (V ++ tl) op M1 → noM T n q' → noA T n q' → KG L X was Q M1) → KP L X was Q M
theorem ctx_top {V : List Int} {bv : Int} (hW : ¬ (1 ≤ top W ∧ top W ≤ 4)) (hc : Ctx V bv) : ¬ (1 ≤ top (W ++ V) ∧ top (W ++ V) ≤ 4) := by
  rcases hc with ⟨rfl, _⟩ | ⟨V0, rfl, hb⟩
  · rw [List.append_nil]; exact hW
  · rw [top_a]; unfold brk at hb; omega
theorem ctx_tp {V : List Int} {bv : Int} (hc : Ctx V bv) : tp V (fun t => t < 60) := by
  rcases hc with ⟨rfl, _⟩ | ⟨V0, rfl, hb⟩
  · exact Or.inl rfl
  · exact Or.inr ⟨V0, bv, rfl, by unfold brk at hb; omega⟩
theorem ctx_pa {V pa : List Int} {bv : Int} (hW : ¬ (1 ≤ top W ∧ top W ≤ 4)) (hc : Ctx V bv) (ha : isPa pa) : (¬ top (W ++ (V ++ pa)) = 3 ∧ ¬ top (W ++ (V ++ pa)) = 4) ∧ tp (V ++ pa) (fun t => t < 60) := by
  rcases ha with rfl | rfl | rfl
  · rw [List.append_nil]; have := ctx_top hW hc; exact ⟨by omega, ctx_tp hc⟩
  · rw [top_a]; exact ⟨by decide, Or.inr ⟨V, 1, rfl, by decide⟩⟩
  · rw [top_a]; exact ⟨by decide, Or.inr ⟨V, 2, rfl, by decide⟩⟩
theorem over_G {q : PS} {c : Int} (h : n ≤ q.1) : isG T n q c = false := by
  cases e : isG T n q c with
  | false => rfl
  | true => have := isG_lt e; omega
theorem noG2 {q : PS} {a b : Int} (h : ¬ (isG T n q a = true ∨ isG T n q b = true)) : isG T n q a = false ∧ isG T n q b = false := by
  constructor
  · cases e : isG T n q a with
    | false => rfl
    | true => exact absurd (Or.inl e) h
  · cases e : isG T n q b with
    | false => rfl
    | true => exact absurd (Or.inr e) h
theorem thn_l {r : PRs} {g : PS → List Int → PRs} {e : Int × Int} (h : r = .inl e) : thn r g = .inl e := by rw [h]; rfl
theorem thn_r {r : PRs} {g : PS → List Int → PRs} {q : PS} {c : List Int} (h : r = .inr (q, c)) : thn r g = g q c := by rw [h]; rfl
theorem prOK {op : Nat} {F : PS → PRs} (hE : Env n k M0) (hW : ¬ (1 ≤ top W ∧ top W ≤ 4)) (hF : PtOK L X T n k W M0 was Q op F) (gF : GoodF T n F) : PrOK L X T n k W M0 was Q op (prodF T n F) := by
  intro q C V pa bv M hc ha h hfl hok
  obtain ⟨⟨ht3, ht4⟩, htp⟩ := ctx_pa hW hc ha
  have lp : ∀ (f : Nat) (q1 : PS) (acc pm cA : List Int) (M1 : ax_M), n - q1.1 ≤ f → isPm pm → acc = cA ++ pm → SX T n k W M0 q1 (C ++ cA) (V ++ pa ++ pm) op M1 → KFr L X was Q M0 (opF T n 42 47 3 4 F f q1 acc) → (∀ q' c, opF T n 42 47 3 4 F f q1 acc = .inr (q', c) → ∀ pm c0' M1, isPm pm → c = c0' ++ pm → SX T n k W M0 q' (C ++ c0') (V ++ pa ++ pm) op M1 → noM T n q' → KG L X was Q M1) → KG L X was Q M1 := by
    intro f
    induction f with
    | zero =>
      intro q1 acc pm cA M1 hf hm hacc h1 _ hk
      exact hk q1 acc rfl pm cA M1 hm hacc h1 ⟨over_G (by omega), over_G (by omega)⟩
    | succ f ih =>
      intro q1 acc pm cA M1 hf hm hacc h1 hfl hk
      have eo : opF T n 42 47 3 4 F (f + 1) q1 acc = if isG T n q1 42 = true ∨ isG T n q1 47 = true then thn (F (nx T n q1)) (fun q2 c1 => opF T n 42 47 3 4 F f q2 (acc ++ c1 ++ [if isG T n q1 42 = true then 3 else 4])) else .inr (q1, acc) := rfl
      by_cases hg : isG T n q1 42 = true ∨ isG T n q1 47 = true
      · rw [if_pos hg] at eo
        have hlt : q1.1 < n := by rcases hg with z | z <;> exact isG_lt z
        have g1 := nx_gt (T := T) hlt
        have w1 := wq_nx (T := T) (n := n) (q := q1) (Nat.le_of_lt hlt)
        have hbr := fun C M1 => hbrC (L := L) (X := X) (T := T) (q := q1) (C := C) (op := op) (W := W) hE hc (sml_p ha hm) M1
        refine kg_mul (bv := bv) hE h1 (fun M2 h2 => hbr _ M2 (by rw [← List.append_assoc]; exact h2)) hm ht3 ht4 hg (fun M2 h2 => ?_)
        rw [List.append_assoc, ← hacc] at h2
        obtain ⟨o, ho⟩ : ∃ o, o = (if isG T n q1 42 = true then (3 : Int) else 4) := ⟨_, rfl⟩
        have ho2 : isPm [o] := by rw [ho]; split; exact Or.inr (Or.inl rfl); exact Or.inr (Or.inr rfl)
        have ho3 : o < 60 := by rw [ho]; split <;> decide
        rw [← ho] at h2 eo
        refine hF _ _ _ M2 h2 (fun f' p e => hfl f' p (by rw [eo, thn_l e])) (fun q2 c2 e M3 h3 => ?_)
        have gg := gF _ w1.1 q2 c2 e
        rw [thn_r e] at eo
        refine ke_go hE h3 (Or.inr ⟨V ++ pa, o, rfl, ho3⟩) ?_
        refine ih q2 (acc ++ c2 ++ [o]) [o] (acc ++ c2) M3 (by omega) ho2 rfl (by rw [← List.append_assoc]; exact h3) (by rw [← eo]; exact hfl) (by rw [← eo]; exact hk)
      · rw [if_neg hg] at eo
        exact hk q1 acc eo pm cA M1 hm hacc h1 (noG2 hg)
  have ep : prodF T n F q = thn (F q) (fun q1 c => opF T n 42 47 3 4 F 1600 q1 c) := rfl
  refine hF q C _ M h (fun f p e => hfl f p (by rw [ep, thn_l e])) (fun q1 c1 e M1 h1 => ?_)
  rw [thn_r e] at ep
  refine ke_go hE h1 htp ?_
  refine lp 1600 q1 c1 [] c1 M1 (by have := hE.1; omega) (Or.inl rfl) (List.append_nil _).symm (by rw [List.append_nil]; exact h1) (by rw [← ep]; exact hfl) (by rw [← ep]; exact hok)
theorem smOK {op : Nat} {F : PS → PRs} (hE : Env n k M0) (hW : ¬ (1 ≤ top W ∧ top W ≤ 4)) (hF : PrOK L X T n k W M0 was Q op F) (gF : GoodF T n F) : SmOK L X T n k W M0 was Q op (fun q => thn (F q) (fun q1 c => opF T n 43 45 1 2 F 1600 q1 c)) := by
  intro q C V bv M hc h hfl hok
  have ht := ctx_top hW hc
  have lp : ∀ (f : Nat) (q1 : PS) (acc tl cA : List Int) (M1 : ax_M), n - q1.1 ≤ f → sml tl → acc = cA ++ tl.reverse → SX T n k W M0 q1 (C ++ cA) (V ++ tl) op M1 → noM T n q1 → KFr L X was Q M0 (opF T n 43 45 1 2 F f q1 acc) → (∀ q' c, opF T n 43 45 1 2 F f q1 acc = .inr (q', c) → ∀ tl c0' M1, sml tl → c = c0' ++ tl.reverse → SX T n k W M0 q' (C ++ c0') (V ++ tl) op M1 → noM T n q' → noA T n q' → KG L X was Q M1) → KG L X was Q M1 := by
    intro f
    induction f with
    | zero =>
      intro q1 acc tl cA M1 hf hs hacc h1 hnm _ hk
      exact hk q1 acc rfl tl cA M1 hs hacc h1 hnm ⟨over_G (by omega), over_G (by omega)⟩
    | succ f ih =>
      intro q1 acc tl cA M1 hf hs hacc h1 hnm hfl hk
      have eo : opF T n 43 45 1 2 F (f + 1) q1 acc = if isG T n q1 43 = true ∨ isG T n q1 45 = true then thn (F (nx T n q1)) (fun q2 c1 => opF T n 43 45 1 2 F f q2 (acc ++ c1 ++ [if isG T n q1 43 = true then 1 else 2])) else .inr (q1, acc) := rfl
      by_cases hg : isG T n q1 43 = true ∨ isG T n q1 45 = true
      · rw [if_pos hg] at eo
        have hlt : q1.1 < n := by rcases hg with z | z <;> exact isG_lt z
        have g1 := nx_gt (T := T) hlt
        have w1 := wq_nx (T := T) (n := n) (q := q1) (Nat.le_of_lt hlt)
        refine kg_add (bv := bv) hE h1 (fun M2 h2 => hbrC hE hc hs M2 h2) hs ht hg (fun M2 h2 => ?_)
        rw [List.append_assoc, ← hacc] at h2
        obtain ⟨o, ho⟩ : ∃ o, o = (if isG T n q1 43 = true then (1 : Int) else 2) := ⟨_, rfl⟩
        have ho2 : isPa [o] := by rw [ho]; split; exact Or.inr (Or.inl rfl); exact Or.inr (Or.inr rfl)
        rw [← ho] at h2 eo
        refine hF _ _ _ [o] bv M2 hc ho2 h2 (fun f' p e => hfl f' p (by rw [eo, thn_l e])) (fun q2 c2 e pm cB M3 hm hc2 h3 hnm2 => ?_)
        have gg := gF _ w1.1 q2 c2 e
        rw [thn_r e] at eo
        refine ih q2 (acc ++ c2 ++ [o]) ([o] ++ pm) (acc ++ cB) M3 (by omega) (sml_p ho2 hm) ?_ (by rw [← List.append_assoc, ← List.append_assoc]; exact h3) hnm2 (by rw [← eo]; exact hfl) (by rw [← eo]; exact hk)
        rw [rev_p ho2 hm, hc2, ← List.append_assoc, ← List.append_assoc]
      · rw [if_neg hg] at eo
        exact hk q1 acc eo tl cA M1 hs hacc h1 hnm (noG2 hg)
  have ep : thn (F q) (fun q1 c => opF T n 43 45 1 2 F 1600 q1 c) = thn (F q) (fun q1 c => opF T n 43 45 1 2 F 1600 q1 c) := rfl
  refine hF q C V [] bv M hc (Or.inl rfl) (by rw [List.append_nil]; exact h) (fun f p e => hfl f p (thn_l e)) (fun q1 c1 e pm cB M1 hm hc1 h1 hnm => ?_)
  rw [List.append_nil] at h1
  have hr : pm.reverse = pm := by rcases hm with rfl | rfl | rfl <;> rfl
  have e2 : thn (F q) (fun q1 c => opF T n 43 45 1 2 F 1600 q1 c) = opF T n 43 45 1 2 F 1600 q1 c1 := thn_r e
  refine lp 1600 q1 c1 pm cB M1 (by have := hE.1; omega) (by have := sml_p (Or.inl rfl) hm; exact this) (by rw [hr]; exact hc1) h1 hnm (by rw [← e2]; exact hfl) (by rw [← e2]; exact hok)
theorem ptOK {op : Nat} {opn : Bool} {sm pt : PS → PRs} (hE : Env n k M0) (hW : ¬ (1 ≤ top W ∧ top W ≤ 4)) (ho : opn = true ↔ op < 6) (hs : op < 6 → SmOK L X T n k W M0 was Q (op + 1) sm) (hp : op < 6 → PtOK L X T n k W M0 was Q (op + 1) pt) (gs : GoodF T n sm) : PtOK L X T n k W M0 was Q op (partF T n k opn sm pt) := by
  intro q C V M h hfl hok
  have h26 := h.2.2
  have hq1 := h.1.2.2.2.2.2.2.2.1
  have w1 := wq_nx (T := T) hq1
  have eP : partF T n k opn sm pt q = if kd T n q = 2 then (match nuR T n q 0 9999 with | some e => .inl e | none => .inr (nx T n q, [1000 + nuV T n q])) else if isG T n q 40 = true then (if opn = true then thn (sm (nx T n q)) (fun q1 c => tkS T n q1 41 c) else .inl (4, (q.1 : Int))) else if isW T n q w_min = true ∨ isW T n q w_max = true then lgF T n opn sm q else if k = 2 ∧ isW T n q w_meets = true then (if opn = true then thn (pt (nx T n q)) (fun q1 c => .inr (q1, c ++ [60])) else .inl (4, (q.1 : Int))) else if fnd T n q 0 (lw k) = -1 then .inl (1, (q.1 : Int)) else .inr (nx T n q, [40 + lcd k (fnd T n q 0 (lw k))]) := rfl
  by_cases k2 : kd T n q = 2
  · rw [if_pos k2] at eP
    have nW1 : ∀ w, isW T n q w = false := fun w => isW_kd (by omega)
    refine kp_end hE h (by cases e : isG T n q 40 with | false => rfl | true => have := isG_kd3 e; omega) (nW1 _) (nW1 _) (fun z => by rw [nW1] at z; cases z.2) (fun z => absurd (fnd_kd (by omega) 0) z) (fun _ e M1 h1 => ?_) (fun _ f p e => ?_)
    · rw [e] at eP; exact hok _ _ eP M1 h1
    · rw [e] at eP; exact hfl f p eP
  rw [if_neg k2] at eP
  by_cases g40 : isG T n q 40 = true
  · rw [if_pos g40] at eP
    refine kp_open hE h g40 (fun z => hfl _ _ (by rw [eP, if_neg (fun y => by have := ho.1 y; omega)])) (fun z M1 h1 => ?_)
    rw [if_pos (ho.2 z)] at eP
    have hc : Ctx (V ++ [20]) 20 := Or.inr ⟨V, rfl, by unfold brk; decide⟩
    refine hs z _ _ _ 20 M1 hc h1 (fun f p e => hfl f p (by rw [eP, thn_l e])) (fun q1 c e tl cA M2 htl hca h2 hnm hna => ?_)
    rw [thn_r e] at eP
    rcases tkS_c (T := T) (n := n) (q := q1) (s := 41) (c := c) with ⟨z1, e1⟩ | ⟨z1, e1⟩
    · refine kg_close hE h2 htl (Or.inl rfl) z1 (fun M3 h3 => hok _ _ (eP.trans e1) M3 ?_)
      rw [if_pos rfl, List.append_nil, List.append_assoc, ← hca] at h3; exact h3
    · exact kg_fail hE h2 htl (Or.inl rfl) z1 hnm.1 hnm.2 hna.1 hna.2 (hfl _ _ (eP.trans e1))
  rw [if_neg g40] at eP
  have g40f : isG T n q 40 = false := by cases e : isG T n q 40 with | false => rfl | true => exact absurd e g40
  by_cases hmm : isW T n q w_min = true ∨ isW T n q w_max = true
  · rw [if_pos hmm] at eP
    have eL : lgF T n opn sm q = if isG T n (nx T n q) 40 = true then (if opn = true then thn (sm (nx T n (nx T n q))) (fun q1 c => thn (tkS T n q1 44 c) (fun q2 c => thn (sm q2) (fun q3 c2 => tkS T n q3 41 (c ++ c2 ++ [if isW T n q w_min = true then 5 else 6])))) else .inl (4, ((nx T n q).1 : Int))) else .inl (1, ((nx T n q).1 : Int)) := rfl
    rw [eL] at eP
    refine kp_mm hE h hmm (fun z => hfl _ _ (by rw [eP, if_neg (by rw [z]; decide)])) (fun z y => hfl _ _ (by rw [eP, if_pos z, if_neg (fun x => by have := ho.1 x; omega)])) (fun z y M1 h1 => ?_)
    rw [if_pos z, if_pos (ho.2 y)] at eP
    obtain ⟨bb, hbb⟩ : ∃ bb, bb = (if isW T n q w_min = true then (21 : Int) else 22) := ⟨_, rfl⟩
    have hb1 : bb = 21 ∨ bb = 22 := by rw [hbb]; split; exact Or.inl rfl; exact Or.inr rfl
    rw [← hbb] at h1
    have hc : Ctx (V ++ [bb]) bb := Or.inr ⟨V, rfl, by unfold brk; omega⟩
    refine hs y _ _ _ bb M1 hc h1 (fun f p e => hfl f p (by rw [eP, thn_l e])) (fun q1 c e tl cA M2 htl hca h2 hnm hna => ?_)
    rw [thn_r e] at eP
    rcases tkS_c (T := T) (n := n) (q := q1) (s := 44) (c := c) with ⟨z1, e1⟩ | ⟨z1, e1⟩
    · rw [thn_r e1] at eP
      refine kg_comma hE h2 htl hb1 hnm.1 hnm.2 hna.1 hna.2 (fun x => by rw [z1] at x; cases x) (fun _ M3 h3 => ?_)
      rw [List.append_assoc, ← hca] at h3
      have hc2 : Ctx (V ++ [bb + 2]) (bb + 2) := Or.inr ⟨V, rfl, by unfold brk; omega⟩
      refine hs y _ _ _ (bb + 2) M3 hc2 h3 (fun f p e => hfl f p (by rw [eP, thn_l e])) (fun q3 c2 e3 tl2 cB M4 htl2 hcb h4 hnm2 hna2 => ?_)
      rw [thn_r e3] at eP
      rcases tkS_c (T := T) (n := n) (q := q3) (s := 41) (c := c ++ c2 ++ [if isW T n q w_min = true then 5 else 6]) with ⟨z3, e4⟩ | ⟨z3, e4⟩
      · refine kg_close hE h4 htl2 (by omega) z3 (fun M5 h5 => hok _ _ (eP.trans e4) M5 ?_)
        rw [if_neg (by omega), List.append_assoc (C ++ c), ← hcb] at h5
        have ee : (if bb + 2 = 23 then ([5] : List Int) else [6]) = [if isW T n q w_min = true then 5 else 6] := by
          rw [hbb]
          cases isW T n q w_min <;> rfl
        rw [ee] at h5
        rw [← List.append_assoc, ← List.append_assoc]; exact h5
      · exact kg_fail hE h4 htl2 (by omega) z3 hnm2.1 hnm2.2 hna2.1 hna2.2 (hfl _ _ (eP.trans e4))
    · rw [thn_l e1] at eP
      exact kg_comma hE h2 htl hb1 hnm.1 hnm.2 hna.1 hna.2 (fun _ => hfl _ _ eP) (fun x => by rw [z1] at x; cases x)
  rw [if_neg hmm] at eP
  have h1f : isW T n q w_min = false := by cases e : isW T n q w_min with | false => rfl | true => exact absurd (Or.inl e) hmm
  have h2f : isW T n q w_max = false := by cases e : isW T n q w_max with | false => rfl | true => exact absurd (Or.inr e) hmm
  by_cases hm : k = 2 ∧ isW T n q w_meets = true
  · rw [if_pos hm] at eP
    refine kp_of hE h g40f h1f h2f hm (fun z => hfl _ _ (by rw [eP, if_neg (fun y => by have := ho.1 y; omega)])) (fun z M1 h1 => ?_)
    rw [if_pos (ho.2 z)] at eP
    refine hp z _ _ _ M1 h1 (fun f p e => hfl f p (by rw [eP, thn_l e])) (fun q1 c e M2 h2 => ?_)
    rw [thn_r e] at eP
    refine ke_of hE h2 (fun M3 h3 => hok _ _ eP M3 ?_)
    rw [← List.append_assoc]; exact h3
  rw [if_neg hm] at eP
  refine kp_end hE h g40f h1f h2f hm (fun z M1 h1 => hok _ _ (by rw [eP, if_neg z]) M1 h1) (fun z e M1 h1 => ?_) (fun z f p e => ?_)
  · exfalso; unfold nuR at e; rw [if_pos k2] at e; cases e
  · unfold nuR at e; rw [if_pos k2] at e
    cases e
    exact hfl _ _ (by rw [eP, if_pos z])
theorem ptAll (hE : Env n k M0) (hW : ¬ (1 ≤ top W ∧ top W ≤ 4)) : ∀ r, r ≤ 6 → PtOK L X T n k W M0 was Q (6 - r) (ptL T n k r)
  | 0, _ => ptOK (sm := fun _ => .inl (0, 0)) (pt := fun _ => .inl (0, 0)) hE hW ⟨fun z => (by cases z), fun z => absurd z (Nat.lt_irrefl 6)⟩ (fun z => absurd z (Nat.lt_irrefl 6)) (fun z => absurd z (Nat.lt_irrefl 6)) good_no
  | r + 1, h => by
    have h1 := ptAll hE hW r (by omega)
    have h2 := prOK hE hW h1 (good_pt r)
    have h3 := smOK hE hW h2 (good_prod (good_pt r))
    refine ptOK (sm := sumF T n (ptL T n k r)) (pt := ptL T n k r) hE hW ⟨fun _ => by omega, fun _ => rfl⟩ (fun _ => ?_) (fun _ => ?_) (good_sum (good_pt r))
    · rw [show 6 - (r + 1) + 1 = 6 - r by omega]; exact h3
    · rw [show 6 - (r + 1) + 1 = 6 - r by omega]; exact h1
theorem m276 {M : ax_M} {q : PS} {C : List Int} {op bs : Nat} (hE : Env n k M) (h : RSt T n k q C W op bs M) (hop : op ≤ 6) (hW : ¬ (1 ≤ top W ∧ top W ≤ 4)) : ax_Ev L X SH 6 276 [(2, 142)] M (R0 (fun M' => Sb XFO M M' ∧ ((∃ f p, smL T n k (6 - op) q = .inl (f, p) ∧ BS f p M') ∨ ∃ q' c, smL T n k (6 - op) q = .inr (q', c) ∧ RSt T n k q' (C ++ c) W op bs M'))) := by
  show ax_G L X SH 6 276 0 [(2, 142), (3, 0), (3, 0)] [] M _
  obtain ⟨P, hP⟩ : ∃ P, P = fun (M' : ax_M) => Sb XFO M M' ∧ ((∃ f p, smL T n k (6 - op) q = .inl (f, p) ∧ BS f p M') ∨ ∃ q' c, smL T n k (6 - op) q = .inr (q', c) ∧ RSt T n k q' (C ++ c) W op bs M') := ⟨_, rfl⟩
  rw [← hP]
  have hC := at276
  have hsx : SX T n k W M q C [] op (ax_up M 142 114 (W.length : Int)) := by
    have hS : Sb ([], [(142, 114)]) M (ax_up M 142 114 (W.length : Int)) := Sb.refl.up rfl
    refine ⟨⟨h.1.sb hS rfl rfl rfl rfl rfl (fun _ => rfl), h.2.1.sb hS rfl (fun _ => rfl), ?_, ?_, ax_up_at, ?_, ?_, h.2.2.2.2.2.2.2⟩, hS.mono rfl, hop⟩
    · rw [List.append_nil]; exact h.2.2.1.sb hS rfl (fun _ => rfl)
    · rw [ax_up_of (by decide)]; exact h.2.2.2.1
    · rw [ax_up_of (by decide)]; exact h.2.2.2.2.2.1
    · rw [List.append_nil]; exact h.2.2.2.2.2.2.1
  have hkp : KP L X (bs : Int) P (ax_up M 142 114 (W.length : Int)) := by
    have h1 := ptAll (L := L) (X := X) (T := T) (was := (bs : Int)) (Q := P) hE hW (6 - op) (by omega)
    have h2 := prOK hE hW h1 (good_pt (6 - op))
    have h3 := smOK hE hW h2 (good_prod (good_pt (6 - op)))
    rw [show 6 - (6 - op) = op by omega] at h3
    refine h3 q C [] (-1) _ (Or.inl ⟨rfl, rfl⟩) hsx (fun f p e M1 hb hS => ?_) (fun q' c e tl cA M1 htl hca h4 hnm hna => ?_)
    · refine k24_f hb ?_
      rw [hP]
      refine ⟨hS.up rfl, Or.inl ⟨f, p, e, ⟨?_, ?_⟩, hb.2.1, ?_⟩⟩
      · rw [ax_up_of (by decide)]; exact hb.1.1
      · rw [ax_up_of (by decide)]; exact hb.1.2
      · rw [ax_up_of (by decide)]; exact hb.2.2
    · refine kg_exit hE h4 htl hnm.1 hnm.2 hna.1 hna.2 (fun M2 h5 => ?_)
      refine k24_g hE h5 (fun M3 h6 => ?_)
      rw [List.nil_append, List.append_assoc, ← hca] at h6
      rw [hP]
      refine ⟨h6.2.1.up rfl, Or.inr ⟨q', c, e, ?_⟩⟩
      have hS : Sb ([], [(142, 114)]) M3 (ax_up M3 142 114 (bs : Int)) := Sb.refl.up rfl
      have h7 := h6.1
      rw [List.append_nil] at h7
      exact ⟨h7.1.sb hS rfl rfl rfl rfl rfl (fun _ => rfl), h7.2.1.sb hS rfl (fun _ => rfl), h7.2.2.1.sb hS rfl (fun _ => rfl), (ax_up_of (by decide)).trans h7.2.2.2.1, ax_up_at, (ax_up_of (by decide)).trans h7.2.2.2.2.2.1, h7.2.2.2.2.2.2.1, h7.2.2.2.2.2.2.2⟩
  have key := k21_1 hsx.1.1.2.2.2.2.1 hkp
  have hE5 : ax_Ev L X SH 5 274 [(2, 142)] (ax_up M 142 114 (W.length : Int)) (R0 (K16 L X (bs : Int) P)) := by
    show ax_G L X SH 5 274 0 [(2, 142), (3, 0), (3, 0), (3, 0), (3, 0), (3, 0)] [] _ _
    have hC := at274
    refine g0 hC rfl ?_
    refine s1 hC rfl rfl rfl ?_
    exact hkp _ _ _ _
  have hb := hsx.1.1.2.2.2.2.1
  refine g3 hC rfl rfl ?_
  refine g19 hC rfl sh142 (flt12 rfl) ft12_114 h.2.2.2.2.1 ?_
  refine s1 hC rfl rfl rfl ?_
  refine g3 hC rfl rfl ?_
  refine g3 hC rfl rfl ?_
  refine g19 hC rfl sh142 (flt12 rfl) ft12_112 h.2.2.1.1 ?_
  refine g20 hC rfl sh142 (flt12 rfl) (by rw [fy12_114]; rfl) ?_
  refine g0 hC rfl ?_
  refine s2 hC rfl rfl rfl ?_
  refine g3 hC rfl rfl ?_
  refine g12e hC rfl (fun h10 => (by omega)) (fun h10 => ?_)
  refine g3 hC rfl rfl ?_
  refine g19 hC rfl sh142 (flt12 rfl) ft12_5 hb ?_
  refine g12n hC rfl (fun h13 => (by omega)) (fun h13 => ?_)
  refine g3 hC rfl rfl ?_
  refine c0 hC rfl rfl rfl (Nat.le_of_ble_eq_true rfl) (Nat.le_of_ble_eq_true rfl) (mayR k274 rfl) hE5 (Nat.le_of_ble_eq_true rfl) (fun M1 hr => ?_)
  exact hr
end SIM
