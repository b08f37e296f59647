def kf (l : List Nat) : Nat → Option Nat
  | 0 => none
  | k + 1 => if gk l (k + 1) < gk l k then kf l k else some k
def jf (l : List Nat) (v : Nat) : Nat → Nat
  | 0 => 0
  | j + 1 => if gk l j < v then jf l v j else j
def swp (l : List Nat) (i j : Nat) : List Nat := (l.set i (gk l j)).set j (gk l i)
def rv : Nat → List Nat → Nat → Nat → List Nat
  | 0, l, _, _ => l
  | f + 1, l, a, b => if a < b then rv f (swp l a b) (a + 1) (b - 1) else l
def nxtL (n : Nat) (l : List Nat) : Option (List Nat) := match kf l (n - 1) with
  | none => none
  | some k => some (rv 5 (swp l k (jf l (gk l k) n)) (k + 1) (n - 1))
def chn (n : Nat) : List Nat → List (List Nat) → Prop
  | l, [] => nxtL n l = none
  | l, l2 :: t => nxtL n l = some l2 ∧ chn n l2 t
def ext (n : Nat) : Nat → List Nat → List (List Nat)
  | 0, p => [p]
  | r + 1, p => (List.range n).flatMap (fun w => if w ∈ p then [] else ext n r (p ++ [w]))
def chnb (n : Nat) : List Nat → List (List Nat) → Bool
  | l, [] => nxtL n l == none
  | l, l2 :: t => nxtL n l == some l2 && chnb n l2 t
theorem chnB {n : Nat} : ∀ (t : List (List Nat)) (l : List Nat), chnb n l t = true → chn n l t := by
  intro t
  induction t with
  | nil => intro l h; exact eq_of_beq h
  | cons l2 t ih => intro l h; simp only [chnb, Bool.and_eq_true] at h; exact ⟨eq_of_beq h.1, ih l2 h.2⟩
def goodb (n : Nat) : Bool := match ext n n [] with
  | [] => false
  | l :: t => l == List.range n && chnb n l t && (l :: t).all (fun p => p.length == n && p.all (fun w => Nat.blt w n))
theorem good_all : goodb 0 = true ∧ goodb 1 = true ∧ goodb 2 = true ∧ goodb 3 = true ∧ goodb 4 = true ∧ goodb 5 = true := by decide +kernel
theorem good {n : Nat} (hn : n ≤ 5) : ∃ t, ext n n [] = List.range n :: t ∧ chn n (List.range n) t ∧ ∀ p ∈ (List.range n :: t), p.length = n ∧ ∀ w ∈ p, w < n := by
  have h : goodb n = true := by
    obtain ⟨g0, g1, g2, g3, g4, g5⟩ := good_all
    have : n = 0 ∨ n = 1 ∨ n = 2 ∨ n = 3 ∨ n = 4 ∨ n = 5 := by omega
    rcases this with rfl | rfl | rfl | rfl | rfl | rfl
    · exact g0
    · exact g1
    · exact g2
    · exact g3
    · exact g4
    · exact g5
  unfold goodb at h
  cases e : ext n n [] with
  | nil => rw [e] at h; cases h
  | cons l t =>
    rw [e] at h
    simp only [Bool.and_eq_true] at h
    have el : l = List.range n := eq_of_beq h.1.1
    subst el
    refine ⟨t, rfl, chnB t _ h.1.2, fun p hp => ?_⟩
    have := List.all_eq_true.mp h.2 p hp
    simp only [Bool.and_eq_true, beq_iff_eq] at this
    exact ⟨this.1, fun w hw => by have := List.all_eq_true.mp this.2 w hw; exact Nat.lt_of_succ_le (Nat.le_of_ble_eq_true this)⟩
theorem it_range {α : Type} {F : Nat → α → α} {x : α} : ∀ n, it F n x = (List.range n).foldl (fun x w => F w x) x := by
  intro n
  induction n with
  | zero => rfl
  | succ n ih => rw [List.range_succ, List.foldl_append, ← ih]; rfl
theorem srch_ext {c : List Nat → Int} {n : Nat} : ∀ (r : Nat) (p : List Nat) (x : Int × List Nat), srch c n r p x = (ext n r p).foldl (fun x p => keepP c p x) x := by
  intro r
  induction r with
  | zero => intro p x; rfl
  | succ r ih =>
    intro p x
    have e : srch c n (r + 1) p x = it (fun w x => if w ∈ p then x else srch c n r (p ++ [w]) x) n x := rfl
    have e2 : ext n (r + 1) p = (List.range n).flatMap (fun w => if w ∈ p then [] else ext n r (p ++ [w])) := rfl
    rw [e, e2, it_range]
    clear e e2
    generalize List.range n = l
    induction l generalizing x with
    | nil => rfl
    | cons w l ihl =>
      rw [List.foldl_cons, List.flatMap_cons, List.foldl_append, ihl]
      congr 1
      by_cases z : w ∈ p
      · rw [if_pos z, if_pos z]; rfl
      · rw [if_neg z, if_neg z]; exact ih _ _
section POR
variable {L : Nat} {X : Nat → Int} {M V : ax_M} {h n : Nat}
theorem gk_set {l : List Nat} {i v j : Nat} (hi : i < l.length) : gk (l.set i v) j = if j = i then v else gk l j := by
  unfold gk
  rw [List.getD_eq_getElem?_getD, List.getD_eq_getElem?_getD, List.getElem?_set]
  by_cases z : i = j
  · rw [if_pos z, if_pos z.symm, if_pos (by omega)]; rfl
  · rw [if_neg z, if_neg (fun e => z e.symm)]
theorem gk_swp {l : List Nat} {i j q : Nat} (hi : i < l.length) (hj : j < l.length) : gk (swp l i j) q = if q = j then gk l i else if q = i then gk l j else gk l q := by
  unfold swp
  rw [gk_set (by rw [List.length_set]; exact hj), gk_set hi]
theorem swp_len {l : List Nat} {i j : Nat} : (swp l i j).length = l.length := by unfold swp; rw [List.length_set, List.length_set]
def RW (M : ax_M) (l : List Nat) : Prop := ∀ i, i < l.length → M 195 i = (gk l i : Int)
theorem m231 (hF : Fix M) (hV : RV V h M) (hW : HW V h) {l : List Nat} (hl : l.length = nQ V h) (hlw : ∀ w ∈ l, w < nQ V h) (hr : RW M l) : ax_Ev L X SH 1 231 [(2, 142)] M (R1 0 (fun x M' => Sb X231 M M' ∧ ((x = 0 ∧ nxtL (nQ V h) l = none) ∨ (x = 1 ∧ ∃ l2, nxtL (nQ V h) l = some l2 ∧ l2.length = nQ V h ∧ RW M' l2)))) := by
  show ax_G L X SH 1 231 0 [(2, 142), (3, 0), (3, 0), (3, 0), (3, 0), (3, 0), (3, 0)] [] M _
  obtain ⟨P, hP⟩ : ∃ P, P = fun (x : Int) M' => Sb X231 M M' ∧ ((x = 0 ∧ nxtL (nQ V h) l = none) ∨ (x = 1 ∧ ∃ l2, nxtL (nQ V h) l = some l2 ∧ l2.length = nQ V h ∧ RW M' l2)) := ⟨_, rfl⟩
  rw [← hP]
  have hC := at231
  have hw : wok X231 = true := by decide +kernel
  have hwr : rok X231 := rokB (by decide +kernel)
  have h3 := hW.1.2.2.1.2
  have hS : Sb X231 M M := Sb.refl
  generalize hn : nQ V h = n at *
  have hgb : ∀ i, i < n → gk l i < n := fun i hi => hlw _ (gk_mem (by omega))
  have lrev : ∀ (f : Nat) (l2 : List Nat) (a b : Nat) (k v : ax_V) (j : Int) (M1 : ax_M), b < a + 2 * f → l2.length = n → b < n → Sb X231 M M1 → RW M1 l2 → nxtL n l = some (rv f l2 a b) → ax_G L X SH 1 231 67 [(2, 142), (0, (n : Int)), k, (0, j), v, (0, (a : Int)), (0, (b : Int))] [] M1 (R1 0 P) := by
    intro f
    induction f with
    | zero =>
      intro l2 a b k v j M1 hab hl2 hbn hS hr2 hnx
      refine g3 hC rfl rfl ?_
      refine g3 hC rfl rfl ?_
      refine g13g hC rfl (fun h69 => ?_) (fun h69 => (by omega))
      refine g0 hC rfl ?_
      refine ret3 hC rfl ⟨by omega, by omega⟩ ?_
      rw [hP]
      exact ⟨hS, Or.inr ⟨rfl, l2, hnx, hl2, hr2⟩⟩
    | succ f ih =>
      intro l2 a b k v j M1 hab hl2 hbn hS hr2 hnx
      have er : rv (f + 1) l2 a b = if a < b then rv f (swp l2 a b) (a + 1) (b - 1) else l2 := rfl
      by_cases z : a < b
      · rw [er, if_pos z] at hnx
        have ra := hr2 a (by omega)
        have rb := hr2 b (by omega)
        have eb : (b : Int) + -1 = ((b - 1 : Nat) : Int) := by omega
        refine g3 hC rfl rfl ?_
        refine g3 hC rfl rfl ?_
        refine g13g hC rfl (fun h69 => (by omega)) (fun h69 => ?_)
        refine g3 hC rfl rfl ?_
        refine g19 hC rfl sh142 (flt12 rfl) ft12_71 ((hS.fix hw hF).g fx_142_71) ?_
        refine g3 hC rfl rfl ?_
        refine r21 (a) hC rfl rfl sh195 (Or.inl rfl) (by omega) ra ?_
        refine s4 hC rfl rfl rfl ?_
        refine g3 hC rfl rfl ?_
        refine g19 hC rfl sh142 (flt12 rfl) ft12_71 ((hS.fix hw hF).g fx_142_71) ?_
        refine g3 hC rfl rfl ?_
        refine g3 hC rfl rfl ?_
        refine g19 hC rfl sh142 (flt12 rfl) ft12_71 ((hS.fix hw hF).g fx_142_71) ?_
        refine g3 hC rfl rfl ?_
        refine r21 (b) hC rfl rfl sh195 (Or.inl rfl) (by omega) rb ?_
        refine r22s (a) hC rfl rfl sh195 (by omega) rfl hS rfl (fun hS => ?_)
        refine g3 hC rfl rfl ?_
        refine g19 hC rfl sh142 (flt12 rfl) ft12_71 ((hS.fix hw hF).g fx_142_71) ?_
        refine g3 hC rfl rfl ?_
        refine g3 hC rfl rfl ?_
        refine r22s (b) hC rfl rfl sh195 (by omega) rfl hS rfl (fun hS => ?_)
        refine n5 hC rfl rfl ⟨by omega, by omega⟩ ?_
        refine n6 hC rfl rfl ⟨by omega, by omega⟩ ?_
        refine g14 hC rfl ?_
        rw [eb]
        refine ih (swp l2 a b) (a + 1) (b - 1) _ _ _ _ (by omega) (by rw [swp_len]; exact hl2) (by omega) hS (fun i hi => ?_) hnx
        rw [swp_len] at hi
        rw [gk_swp (by omega) (by omega), ax_upf, ax_upf]; unfold up
        by_cases y1 : i = b
        · rw [if_pos y1, if_pos y1]
        · rw [if_neg y1, if_neg y1]
          by_cases y2 : i = a
          · rw [if_pos y2, if_pos y2]
          · rw [if_neg y2, if_neg y2]; exact hr2 i hi
      · rw [er, if_neg z] at hnx
        refine g3 hC rfl rfl ?_
        refine g3 hC rfl rfl ?_
        refine g13g hC rfl (fun h69 => ?_) (fun h69 => (by omega))
        refine g0 hC rfl ?_
        refine ret3 hC rfl ⟨by omega, by omega⟩ ?_
        rw [hP]
        exact ⟨hS, Or.inr ⟨rfl, l2, hnx, hl2, hr2⟩⟩
  have lj : ∀ (k : Nat), k + 1 < n → kf l (n - 1) = some k → gk l k ≤ gk l (k + 1) → ∀ (j : Nat) (v4 v5 v6 : ax_V), k + 1 ≤ j → j < n → jf l (gk l k) n = jf l (gk l k) (j + 1) → ax_G L X SH 1 231 30 [(2, 142), (0, (n : Int)), (0, (k : Int)), (0, (j : Int)), v4, v5, v6] [] M (R1 0 P) := by
    intro k hk hkf hge j
    induction j with
    | zero => intro v4 v5 v6 h1; omega
    | succ j ih =>
      intro v4 v5 v6 h1 h2 hj
      have ej : jf l (gk l k) (j + 1 + 1) = if gk l (j + 1) < gk l k then jf l (gk l k) (j + 1) else j + 1 := rfl
      have rj := hr (j + 1) (by omega)
      have rk := hr k (by omega)
      have e1 : (n : Int) - 1 = ((n - 1 : Nat) : Int) := by omega
      have fin : ¬ gk l (j + 1) < gk l k → nxtL n l = some (rv 5 (swp l k (j + 1)) (k + 1) (n - 1)) := by
        intro z
        unfold nxtL
        rw [hkf]
        dsimp only
        rw [hj, ej, if_neg z]
      refine g3 hC rfl rfl ?_
      refine g19 hC rfl sh142 (flt12 rfl) ft12_71 ((hS.fix hw hF).g fx_142_71) ?_
      refine g3 hC rfl rfl ?_
      refine r21 (j + 1) hC rfl rfl sh195 (Or.inl rfl) (by omega) rj ?_
      refine g3 hC rfl rfl ?_
      refine g19 hC rfl sh142 (flt12 rfl) ft12_71 ((hS.fix hw hF).g fx_142_71) ?_
      refine g3 hC rfl rfl ?_
      refine r21 (k) hC rfl rfl sh195 (Or.inl rfl) (by omega) rk ?_
      refine g13g hC rfl (fun h38 => ?_) (fun h38 => ?_)
      ·
        refine g3 hC rfl rfl ?_
        refine g19 hC rfl sh142 (flt12 rfl) ft12_71 ((hS.fix hw hF).g fx_142_71) ?_
        refine g3 hC rfl rfl ?_
        refine r21 (k) hC rfl rfl sh195 (Or.inl rfl) (by omega) rk ?_
        refine s4 hC rfl rfl rfl ?_
        refine g3 hC rfl rfl ?_
        refine g19 hC rfl sh142 (flt12 rfl) ft12_71 ((hS.fix hw hF).g fx_142_71) ?_
        refine g3 hC rfl rfl ?_
        refine g3 hC rfl rfl ?_
        refine g19 hC rfl sh142 (flt12 rfl) ft12_71 ((hS.fix hw hF).g fx_142_71) ?_
        refine g3 hC rfl rfl ?_
        refine r21 (j + 1) hC rfl rfl sh195 (Or.inl rfl) (by omega) rj ?_
        refine r22s (k) hC rfl rfl sh195 (by omega) rfl hS rfl (fun hS => ?_)
        refine g3 hC rfl rfl ?_
        refine g19 hC rfl sh142 (flt12 rfl) ft12_71 ((hS.fix hw hF).g fx_142_71) ?_
        refine g3 hC rfl rfl ?_
        refine g3 hC rfl rfl ?_
        refine r22s (j + 1) hC rfl rfl sh195 (by omega) rfl hS rfl (fun hS => ?_)
        refine g3 hC rfl rfl ?_
        refine g0 hC rfl ?_
        refine g6a hC rfl ⟨by omega, by omega⟩ ?_
        refine s5 hC rfl rfl rfl ?_
        refine g3 hC rfl rfl ?_
        refine g0 hC rfl ?_
        refine g6s hC rfl ⟨by omega, by omega⟩ ?_
        refine s6 hC rfl rfl rfl ?_
        rw [e1]
        refine lrev 5 (swp l k (j + 1)) (k + 1) (n - 1) _ _ _ _ (by omega) (by rw [swp_len]; exact hl) (by omega) hS (fun i hi => ?_) (fin (by omega))
        rw [swp_len] at hi
        rw [gk_swp (by omega) (by omega), ax_upf, ax_upf]; unfold up
        by_cases y1 : i = j + 1
        · rw [if_pos y1, if_pos y1]
        · rw [if_neg y1, if_neg y1]
          by_cases y2 : i = k
          · rw [if_pos y2, if_pos y2]
          · rw [if_neg y2, if_neg y2]; exact hr i hi
      ·
        refine n3 hC rfl rfl ⟨by omega, by omega⟩ ?_
        refine g14 hC rfl ?_
        have hlt : gk l (j + 1) < gk l k := by omega
        have hne : j + 1 ≠ k + 1 := fun e => by rw [e] at hlt; omega
        rw [show ((j + 1 : Nat) : Int) + -1 = (j : Int) by omega]
        exact ih _ _ _ (by omega) (by omega) (by rw [hj, ej, if_pos hlt])
  have lk : ∀ (m : Nat) (v3 v4 v5 v6 : ax_V), m ≤ n - 1 → 1 ≤ n → kf l (n - 1) = kf l m → ax_G L X SH 1 231 7 [(2, 142), (0, (n : Int)), (0, (m : Int) - 1), v3, v4, v5, v6] [] M (R1 0 P) := by
    intro m
    induction m with
    | zero =>
      intro v3 v4 v5 v6 hm hn1 hk
      refine g3 hC rfl rfl ?_
      refine g12l hC rfl (fun h8 => ?_) (fun h8 => (by omega))
      refine g3 hC rfl rfl ?_
      refine g12g hC rfl (fun h23 => (by omega)) (fun h23 => ?_)
      refine g0 hC rfl ?_
      refine ret3 hC rfl ⟨by omega, by omega⟩ ?_
      rw [hP]
      refine ⟨hS, Or.inl ⟨rfl, ?_⟩⟩
      unfold nxtL; rw [hk]; rfl
    | succ m ih =>
      intro v3 v4 v5 v6 hm hn1 hk
      have ek : kf l (m + 1) = if gk l (m + 1) < gk l m then kf l m else some m := rfl
      rw [show ((m + 1 : Nat) : Int) - 1 = (m : Int) by omega]
      have r0 := hr m (by omega)
      have r1 := hr (m + 1) (by omega)
      refine g3 hC rfl rfl ?_
      refine g12l hC rfl (fun h8 => (by omega)) (fun h8 => ?_)
      refine g3 hC rfl rfl ?_
      refine g19 hC rfl sh142 (flt12 rfl) ft12_71 ((hS.fix hw hF).g fx_142_71) ?_
      refine g3 hC rfl rfl ?_
      refine r21 (m) hC rfl rfl sh195 (Or.inl rfl) (by omega) r0 ?_
      refine g3 hC rfl rfl ?_
      refine g19 hC rfl sh142 (flt12 rfl) ft12_71 ((hS.fix hw hF).g fx_142_71) ?_
      refine g3 hC rfl rfl ?_
      refine g0 hC rfl ?_
      refine g6a hC rfl ⟨by omega, by omega⟩ ?_
      refine r21 (m + 1) hC rfl (by omega) sh195 (Or.inl rfl) (by omega) r1 ?_
      refine g13s hC rfl (fun h19 => ?_) (fun h19 => ?_)
      ·
        refine g3 hC rfl rfl ?_
        refine g12g hC rfl (fun h23 => ?_) (fun h23 => (by omega))
        refine g3 hC rfl rfl ?_
        refine g0 hC rfl ?_
        refine g6s hC rfl ⟨by omega, by omega⟩ ?_
        refine s3 hC rfl rfl rfl ?_
        have hge : ¬ gk l (m + 1) < gk l m := by omega
        rw [show (n : Int) - 1 = ((n - 1 : Nat) : Int) by omega]
        exact lj m (by omega) (by rw [hk, ek, if_neg hge]) (by omega) (n - 1) _ _ _ (by omega) (by omega) (by rw [show n - 1 + 1 = n by omega])
      ·
        refine n2 hC rfl rfl ⟨by omega, by omega⟩ ?_
        refine g14 hC rfl ?_
        have hlt : gk l (m + 1) < gk l m := by omega
        rw [show (m : Int) + -1 = (m : Int) - 1 by omega]
        exact ih _ _ _ _ (by omega) hn1 (by rw [hk, ek, if_pos hlt])
  by_cases z : n = 0
  · subst z
    refine g3 hC rfl rfl ?_
    refine c1 hC rfl rfl rfl (Nat.le_of_ble_eq_true rfl) (Nat.le_of_ble_eq_true rfl) (mayR k185 rfl) (m185 hF hV hW) (Nat.le_of_ble_eq_true rfl) (fun x M2 hrr => ?_)
    obtain ⟨rfl, hrr⟩ := hrr; replace hrr := hrr.symm; subst hrr; rw [hn]
    refine s1 hC rfl rfl rfl ?_
    refine g3 hC rfl rfl ?_
    refine g0 hC rfl ?_
    refine g6s hC rfl ⟨by omega, by omega⟩ ?_
    refine s2 hC rfl rfl rfl ?_
    refine g3 hC rfl rfl ?_
    refine g12l hC rfl (fun h8 => ?_) (fun h8 => (by omega))
    refine g3 hC rfl rfl ?_
    refine g12g hC rfl (fun h23 => (by omega)) (fun h23 => ?_)
    refine g0 hC rfl ?_
    refine ret3 hC rfl ⟨by omega, by omega⟩ ?_
    rw [hP]
    exact ⟨hS, Or.inl ⟨rfl, rfl⟩⟩
  · skip
    refine g3 hC rfl rfl ?_
    refine c1 hC rfl rfl rfl (Nat.le_of_ble_eq_true rfl) (Nat.le_of_ble_eq_true rfl) (mayR k185 rfl) (m185 hF hV hW) (Nat.le_of_ble_eq_true rfl) (fun x M2 hrr => ?_)
    obtain ⟨rfl, hrr⟩ := hrr; replace hrr := hrr.symm; subst hrr; rw [hn]
    refine s1 hC rfl rfl rfl ?_
    refine g3 hC rfl rfl ?_
    refine g0 hC rfl ?_
    refine g6s hC rfl ⟨by omega, by omega⟩ ?_
    refine s2 hC rfl rfl rfl ?_
    rw [show (n : Int) - 2 = ((n - 1 : Nat) : Int) - 1 by omega]
    exact lk (n - 1) _ _ _ _ (by omega) (by omega) rfl
end POR
