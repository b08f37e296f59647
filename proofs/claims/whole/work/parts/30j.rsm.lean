def RSt (T : Nat → Int) (n k : Nat) (q : PS) (C Y : List Int) (op bs : Nat) (M : ax_M) : Prop := RT T n q M ∧ RC M C ∧ RY M Y ∧ M 142 113 = (op : Int) ∧ M 142 114 = (bs : Int) ∧ M 142 53 = (k : Int) ∧ C.length + Y.length ≤ q.1 ∧ wq T n q
def Env (n k : Nat) (M0 : ax_M) : Prop := n ≤ 1600 ∧ k ≤ 2 ∧ Fix M0 ∧ Wd M0
def SX (T : Nat → Int) (n k : Nat) (W : List Int) (M0 : ax_M) (q : PS) (C V : List Int) (op : Nat) (M : ax_M) : Prop := RSt T n k q C (W ++ V) op W.length M ∧ Sb XFO M0 M ∧ op ≤ 6
def BS (f p : Int) (M : ax_M) : Prop := BF f p M ∧ f ≠ 0 ∧ 0 ≤ M 142 110 ∧ M 142 110 ≤ 1601
def K24 (L : Nat) (X : Nat → Int) (was : Int) (Q : ax_M → Prop) (M : ax_M) : Prop := ax_G L X SH 6 276 24 [(2, 142), (0, was), (0, 1)] [] M (R0 Q)
def K16 (L : Nat) (X : Nat → Int) (was : Int) (Q : ax_M → Prop) (M : ax_M) : Prop := ax_G L X SH 6 276 16 [(2, 142), (0, was), (0, 1)] [] M (R0 Q)
def K21 (L : Nat) (X : Nat → Int) (was : Int) (Q : ax_M → Prop) (b : Int) (M : ax_M) : Prop := ax_G L X SH 6 276 21 [(2, 142), (0, was), (0, 1)] [(0, b)] M (R0 Q)
def KP (L : Nat) (X : Nat → Int) (was : Int) (Q : ax_M → Prop) (M : ax_M) : Prop := ∀ v2 v3 v4 v5, ax_G L X SH 5 274 2 [(2, 142), (0, 1), v2, v3, v4, v5] [] M (R0 (K16 L X was Q))
def KG (L : Nat) (X : Nat → Int) (was : Int) (Q : ax_M → Prop) (M : ax_M) : Prop := ∀ v1, ax_G L X SH 5 275 0 [(2, 142), v1] [] M (R1 0 (K21 L X was Q))
def KE (L : Nat) (X : Nat → Int) (was : Int) (Q : ax_M → Prop) (M : ax_M) : Prop := (∀ ll, ax_G L X SH 4 273 0 [(2, 142)] [] M (R0 (fun M1 => ax_G L X SH 5 274 126 ll [] M1 (R0 (K16 L X was Q))))) ∧ ∀ v1, ax_G L X SH 4 273 0 [(2, 142)] [] M (R0 (fun M1 => ax_G L X SH 5 275 60 [(2, 142), v1] [] M1 (R1 0 (K21 L X was Q))))
def KF (L : Nat) (X : Nat → Int) (was : Int) (Q : ax_M → Prop) (M0 : ax_M) (f p : Int) : Prop := ∀ M1, BS f p M1 → Sb XFO M0 M1 → K24 L X was Q M1
section RSM
variable {L : Nat} {X : Nat → Int} {M M1 M0 : ax_M} {T : Nat → Int} {n k op : Nat} {q q' : PS} {C C' V V' W : List Int} {was : Int} {Q : ax_M → Prop}
theorem RT.sb {Wx : ax_W} (h : RT T n q M) (hS : Sb Wx M M1) (h2 : wb Wx 142 2 = false) (h3 : wb Wx 142 3 = false) (h4 : wb Wx 142 4 = false) (h5 : wb Wx 142 5 = false) (h6 : wb Wx 142 6 = false) (h7 : ∀ i, wb Wx 143 i = false) : RT T n q M1 := by
  unfold RT at *
  rw [hS _ _ h2, hS _ _ h3, hS _ _ h4, hS _ _ h5, hS _ _ h6]
  exact ⟨h.1, h.2.1, h.2.2.1, fun i hi => (hS _ _ (h7 i)).trans (h.2.2.2.1 i hi), h.2.2.2.2⟩
theorem RC.sb {Wx : ax_W} (h : RC M C) (hS : Sb Wx M M1) (h2 : wb Wx 142 110 = false) (h3 : ∀ i, wb Wx 228 i = false) : RC M1 C := ⟨(hS _ _ h2).trans h.1, fun i hi => (hS _ _ (h3 i)).trans (h.2 i hi)⟩
theorem RY.sb {Wx : ax_W} {Y : List Int} (h : RY M Y) (hS : Sb Wx M M1) (h2 : wb Wx 142 112 = false) (h3 : ∀ i, wb Wx 229 i = false) : RY M1 Y := ⟨(hS _ _ h2).trans h.1, fun i hi => (hS _ _ (h3 i)).trans (h.2 i hi)⟩
theorem SX.fix (hE : Env n k M0) (h : SX T n k W M0 q C V op M) : Fix M := h.2.1.fix (by decide +kernel) hE.2.2.1
theorem SX.wd (hE : Env n k M0) (h : SX T n k W M0 q C V op M) : Wd M := hE.2.2.2.sb h.2.1 (by decide +kernel)
theorem SX.nx {Wx : ax_W} {op' : Nat} (h : SX T n k W M0 q C V op M) (hS : Sb Wx M M1) (hx : wle Wx XFO = true) (h114 : wb Wx 142 114 = false) (h1 : RT T n q' M1) (h2 : RC M1 C') (h3 : RY M1 (W ++ V')) (h4 : M1 142 113 = (op' : Int)) (h5 : C'.length + (W ++ V').length ≤ q'.1) (h6 : wq T n q') (h7 : op' ≤ 6) : SX T n k W M0 q' C' V' op' M1 := by
  refine ⟨⟨h1, h2, h3, h4, (hS _ _ h114).trans h.1.2.2.2.2.1, ((hS.mono hx) 142 53 (by decide)).trans h.1.2.2.2.2.2.1, h5, h6⟩, h.2.1.then hS hx, h7⟩
theorem SX.lk (h : SX T n k W M0 q C V op M) (hS : Sb XLK M M1) (e : M1 142 2 = (q.1 : Int)) : SX T n k W M0 q C V op M1 := h.nx hS rfl rfl (h.1.1.lk hS e) (h.1.2.1.sb hS rfl (fun _ => rfl)) (h.1.2.2.1.sb hS rfl (fun _ => rfl)) ((hS _ _ rfl).trans h.1.2.2.2.1) h.1.2.2.2.2.2.2.1 h.1.2.2.2.2.2.2.2 h.2.2
theorem SX.bs (hE : Env n k M0) (h : SX T n k W M0 q C V op M) {f p : Int} (hf : f ≠ 0) (h1 : BF f p M1) (h2 : M1 142 110 = M 142 110 ∨ M1 142 110 = M 142 110 + 1) : BS f p M1 := by
  have h3 := h.1.2.2.2.2.2.2.1
  have h4 := h.1.2.2.2.2.2.2.2.1
  have h5 := hE.1
  have h6 := h.1.2.1.1
  refine ⟨h1, hf, by omega, by omega⟩
theorem k16_F {f p : Int} (hb : BS f p M) (hk : K24 L X was Q M) : K16 L X was Q M := by
  have hC := at276
  have hb1 : ¬ M 142 5 = 0 := by rw [hb.1.1]; exact hb.2.1
  unfold K16
  refine g3 hC rfl rfl ?_
  refine g19 hC rfl sh142 (flt12 rfl) ft12_5 (Eq.refl (M 142 5)) ?_
  refine g12n hC rfl (fun h18 => ?_) (fun h18 => (by omega))
  exact hk
theorem k16_G (hb : M 142 5 = 0) (hk : KG L X was Q M) : K16 L X was Q M := by
  have hC := at276
  unfold K16
  refine g3 hC rfl rfl ?_
  refine g19 hC rfl sh142 (flt12 rfl) ft12_5 hb ?_
  refine g12n hC rfl (fun h18 => (by omega)) (fun h18 => ?_)
  refine g3 hC rfl rfl ?_
  refine c1 hC rfl rfl rfl (Nat.le_of_ble_eq_true rfl) (Nat.le_of_ble_eq_true rfl) (mayR k275 rfl) (show ax_Ev L X SH 5 275 [(2, 142)] M (R1 0 (K21 L X was Q)) from hk (3, 0)) (Nat.le_of_ble_eq_true rfl) (fun x M1 hr => ?_)
  exact hr
theorem k21_0 (hk : K24 L X was Q M) : K21 L X was Q 0 M := by
  have hC := at276
  unfold K21
  refine g12e hC rfl (fun h21 => ?_) (fun h21 => (by omega))
  exact hk
theorem k21_1 (hb : M 142 5 = 0) (hk : KP L X was Q M) : K21 L X was Q 1 M := by
  have hC := at276
  unfold K21
  have hE : ax_Ev L X SH 5 274 [(2, 142)] M (R0 (K16 L X was Q)) := by
    show ax_G L X SH 5 274 0 [(2, 142), (3, 0), (3, 0), (3, 0), (3, 0), (3, 0)] [] M _
    have hC := at274
    refine g0 hC rfl ?_
    refine s1 hC rfl rfl rfl ?_
    exact hk _ _ _ _
  refine g12e hC rfl (fun h21 => (by omega)) (fun h21 => ?_)
  refine g0 hC rfl ?_
  refine g14 hC rfl ?_
  refine s2 hC rfl rfl rfl ?_
  refine g14 hC rfl ?_
  refine g3 hC rfl rfl ?_
  refine g12e hC rfl (fun h10 => (by omega)) (fun h10 => ?_)
  refine g3 hC rfl rfl ?_
  refine g19 hC rfl sh142 (flt12 rfl) ft12_5 hb ?_
  refine g12n hC rfl (fun h13 => (by omega)) (fun h13 => ?_)
  refine g3 hC rfl rfl ?_
  refine c0 hC rfl rfl rfl (Nat.le_of_ble_eq_true rfl) (Nat.le_of_ble_eq_true rfl) (mayR k274 rfl) hE (Nat.le_of_ble_eq_true rfl) (fun M1 hr => ?_)
  exact hr
theorem ke_of (hE : Env n k M0) (h : SX T n k W M0 q C (V ++ [60]) (op + 1) M) (hk : ∀ M1, SX T n k W M0 q (C ++ [60]) V op M1 → KE L X was Q M1) : KE L X was Q M := by
  have hF := h.fix hE
  have hlen := h.1.2.2.2.2.2.2.1
  have hqn := h.1.2.2.2.2.2.2.2
  have hq1 := hqn.1
  have h26 := h.2.2
  have hn := hE.1
  have hy := h.1.2.2.1
  rw [← List.append_assoc] at hy hlen
  have el : (W ++ V ++ [60]).length = (W ++ V).length + 1 := by simp <;> omega
  have el2 : (W ++ V).length = W.length + V.length := by simp <;> omega
  have et : M 229 (W ++ V).length = 60 := by rw [hy.2 _ (by omega), apd2]
  have step : ∀ P, (∀ M1, SX T n k W M0 q (C ++ [60]) V op M1 → ax_G L X SH 4 273 0 [(2, 142)] [] M1 P) → ax_G L X SH 4 273 0 [(2, 142)] [] M P := by
    intro P hP
    have hC := at273
    have hw : wok XOP = true := by decide +kernel
    have hS : Sb XOP M M := Sb.refl
    have hy2 : RY (ax_up M 142 113 (((op + 1 : Nat) : Int) - 1)) (W ++ V ++ [60]) := ⟨(ax_up_of (by decide)).trans hy.1, fun i hi => (ax_up2n (by decide)).trans (hy.2 i hi)⟩
    have hc2 : RC (ax_up M 142 113 (((op + 1 : Nat) : Int) - 1)) C := ⟨(ax_up_of (by decide)).trans h.1.2.1.1, fun i hi => (ax_up2n (by decide)).trans (h.1.2.1.2 i hi)⟩
    refine g3 hC rfl rfl ?_
    refine g19 hC rfl sh142 (flt12 rfl) ft12_5 h.1.1.2.2.2.2.1 ?_
    refine g12n hC rfl (fun h2 => (by omega)) (fun h2 => ?_)
    refine g3 hC rfl rfl ?_
    refine g19 hC rfl sh142 (flt12 rfl) ft12_112 hy.1 ?_
    refine g3 hC rfl rfl ?_
    refine g19 hC rfl sh142 (flt12 rfl) ft12_114 h.1.2.2.2.2.1 ?_
    refine g13s hC rfl (fun h7 => (by omega)) (fun h7 => ?_)
    refine g3 hC rfl rfl ?_
    refine g19 hC rfl sh142 (flt12 rfl) ft12_111 ((hS.fix hw hF).g fx_142_111) ?_
    refine g3 hC rfl rfl ?_
    refine g19 hC rfl sh142 (flt12 rfl) ft12_112 hy.1 ?_
    refine g0 hC rfl ?_
    refine g6s hC rfl ⟨by omega, by omega⟩ ?_
    refine r21 ((W ++ V).length) hC rfl (by omega) sh229 (Or.inl rfl) (by omega) et ?_
    refine g0 hC rfl ?_
    refine g13l hC rfl (fun h16 => (by omega)) (fun h16 => ?_)
    refine g3 hC rfl rfl ?_
    refine g16 hC rfl (by decide) ?_
    refine g19 hC rfl sh142 (flt12 rfl) ft12_113 h.1.2.2.2.1 ?_
    refine g0 hC rfl ?_
    refine g6s hC rfl ⟨by omega, by omega⟩ ?_
    refine g20s hC rfl sh142 (flt12 rfl) (by rw [fy12_113]; rfl) hS rfl (fun hS => ?_)
    refine g3 hC rfl rfl ?_
    refine c0 hC rfl rfl rfl (Nat.le_of_ble_eq_true rfl) (Nat.le_of_ble_eq_true rfl) (mayR k266 rfl) (m266 hy2 (by omega) hc2 (by omega) (hS.fix hw hF)) (Nat.le_of_ble_eq_true rfl) (fun M2 hr => ?_)
    obtain ⟨hd0, hd1, hd2⟩ := hr
    refine g14 hC rfl ?_
    have hS2 : Sb ([(228, 230)], [(142, 110), (142, 112), (142, 113)]) M M2 := (hS.mono rfl).then hd0 rfl
    refine hP _ (h.nx hS2 rfl rfl (h.1.1.sb hS2 rfl rfl rfl rfl rfl (fun _ => rfl)) hd2 hd1 ?_ ?_ hqn (by have := h.2.2; omega))
    · rw [hd0 142 113 rfl, ax_up_at]; omega
    · rw [List.length_append]; show C.length + 1 + _ ≤ _; omega
  exact ⟨fun ll => step _ (fun M1 h1 => (hk M1 h1).1 ll), fun v1 => step _ (fun M1 h1 => (hk M1 h1).2 v1)⟩
def tp (V : List Int) (P : Int → Prop) : Prop := V = [] ∨ ∃ V0 t, V = V0 ++ [t] ∧ P t
theorem ke_go (hE : Env n k M0) (h : SX T n k W M0 q C V op M) (ht : tp V (fun t => t < 60)) (hk : KG L X was Q M) : KE L X was Q M := by
  have hF := h.fix hE
  have hlen := h.1.2.2.2.2.2.2.1
  have hqn := h.1.2.2.2.2.2.2.2
  have hq1 := hqn.1
  have h26 := h.2.2
  have hn := hE.1
  have hb := h.1.1.2.2.2.2.1
  have step : ∀ P : ax_M → Prop, P M → ax_G L X SH 4 273 0 [(2, 142)] [] M (R0 P) := by
    intro P hP
    have hC := at273
    have hy := h.1.2.2.1
    have hw : wok XOP = true := by decide +kernel
    have hS : Sb XOP M M := Sb.refl
    rcases ht with rfl | ⟨V0, t, rfl, ht⟩
    · rw [List.append_nil] at hy
      refine g3 hC rfl rfl ?_
      refine g19 hC rfl sh142 (flt12 rfl) ft12_5 hb ?_
      refine g12n hC rfl (fun h2 => (by omega)) (fun h2 => ?_)
      refine g3 hC rfl rfl ?_
      refine g19 hC rfl sh142 (flt12 rfl) ft12_112 hy.1 ?_
      refine g3 hC rfl rfl ?_
      refine g19 hC rfl sh142 (flt12 rfl) ft12_114 h.1.2.2.2.2.1 ?_
      refine g13s hC rfl (fun h7 => ?_) (fun h7 => (by omega))
      refine ret0 hC rfl ?_
      exact hP
    · rw [← List.append_assoc] at hy hlen
      have el : (W ++ V0 ++ [t]).length = (W ++ V0).length + 1 := by simp <;> omega
      have el2 : (W ++ V0).length = W.length + V0.length := by simp <;> omega
      have et : M 229 (W ++ V0).length = t := by rw [hy.2 _ (by omega), apd2]
      refine g3 hC rfl rfl ?_
      refine g19 hC rfl sh142 (flt12 rfl) ft12_5 hb ?_
      refine g12n hC rfl (fun h2 => (by omega)) (fun h2 => ?_)
      refine g3 hC rfl rfl ?_
      refine g19 hC rfl sh142 (flt12 rfl) ft12_112 hy.1 ?_
      refine g3 hC rfl rfl ?_
      refine g19 hC rfl sh142 (flt12 rfl) ft12_114 h.1.2.2.2.2.1 ?_
      refine g13s hC rfl (fun h7 => (by omega)) (fun h7 => ?_)
      refine g3 hC rfl rfl ?_
      refine g19 hC rfl sh142 (flt12 rfl) ft12_111 ((hS.fix hw hF).g fx_142_111) ?_
      refine g3 hC rfl rfl ?_
      refine g19 hC rfl sh142 (flt12 rfl) ft12_112 hy.1 ?_
      refine g0 hC rfl ?_
      refine g6s hC rfl ⟨by omega, by omega⟩ ?_
      refine r21 ((W ++ V0).length) hC rfl (by omega) sh229 (Or.inl rfl) (by omega) et ?_
      refine g0 hC rfl ?_
      refine g13l hC rfl (fun h16 => ?_) (fun h16 => (by omega))
      refine ret0 hC rfl ?_
      exact hP
  refine ⟨fun ll => step _ ?_, fun v1 => step _ ?_⟩
  · have hC := at274
    exact ret0 hC rfl (k16_G hb hk)
  · have hC := at275
    exact g14 hC rfl (hk v1)
theorem kp_pre (hE : Env n k M0) (h : SX T n k W M0 q C V op M) (kk : ∀ M1 v4 v5 ofv, SX T n k W M0 q C V op M1 → M1 142 2 = (q.1 : Int) → ((k = 2 ∧ isW T n q w_meets = true ∧ ofv = 11) ∨ (¬ (k = 2 ∧ isW T n q w_meets = true) ∧ ofv = -1)) → ax_G L X SH 5 274 15 [(2, 142), (0, 1), (0, lk T n q), (0, ofv), v4, v5] [] M1 (R0 (K16 L X was Q))) : KP L X was Q M := by
  intro v2 v3 v4 v5
  have hF := h.fix hE
  have hqn := h.1.2.2.2.2.2.2.2.1
  have hC := at274
  have hw : wok XLK = true := by decide +kernel
  have hS : Sb XLK M M := Sb.refl
  have hql := qw_lw (T := T) (n := n) (q := q) hE.2.1
  refine g3 hC rfl rfl ?_
  refine g12e hC rfl (fun h3 => (by omega)) (fun h3 => ?_)
  refine g3 hC rfl rfl ?_
  refine g19 hC rfl sh142 (flt12 rfl) ft12_5 h.1.1.2.2.2.2.1 ?_
  refine g12n hC rfl (fun h6 => (by omega)) (fun h6 => ?_)
  refine g3 hC rfl rfl ?_
  refine c1 hC rfl rfl rfl (Nat.le_of_ble_eq_true rfl) (Nat.le_of_ble_eq_true rfl) (mayR k159 rfl) (m159 hF hE.1 h.1.1 hqn) (Nat.le_of_ble_eq_true rfl) (fun x M2 hr => ?_)
  obtain ⟨rfl, hr0, hr1⟩ := hr; have h2 := h.lk hr0 hr1
  refine s2 hC rfl rfl rfl ?_
  refine g3 hC rfl rfl ?_
  refine g0 hC rfl ?_
  refine g0 hC rfl ?_
  refine c1 hC rfl rfl rfl (Nat.le_of_ble_eq_true rfl) (Nat.le_of_ble_eq_true rfl) (mayR k271 rfl) (m271 (h2.fix hE) hE.1 h2.1.1 hqn (h2.wd hE) h2.1.2.2.2.2.2.1 hE.2.1) (Nat.le_of_ble_eq_true rfl) (fun x M3 hr => ?_)
  obtain ⟨hx, hs0, hs1⟩ := hr; have h3 := h2.lk hs0 hs1
  refine s3 hC rfl rfl rfl ?_
  refine kk _ _ _ _ h3 hs1 ?_
  cases em : isW T n q w_meets with
  | true =>
    have h11 := (hql.1 em).1
    have ha : alw k 11 ↔ k = 2 := by unfold alw; omega
    rw [h11] at hx
    rcases hx with ⟨z, rfl⟩ | ⟨z, rfl⟩
    · exact Or.inl ⟨ha.1 z.2.2, rfl, rfl⟩
    · exact Or.inr ⟨fun y => z ⟨by omega, by omega, ha.2 y.1⟩, rfl⟩
  | false =>
    refine Or.inr ⟨fun y => (by cases y.2), ?_⟩
    rcases hx with ⟨z, rfl⟩ | ⟨z, rfl⟩
    · rcases hql.2.1 em with y | y
      · omega
      · omega
    · rfl
theorem kp2_F {f p b : Int} {v2 v3 v4 v5 : ax_V} (hb : BS f p M) (hk : K24 L X was Q M) : ax_G L X SH 5 274 2 [(2, 142), (0, b), v2, v3, v4, v5] [] M (R0 (K16 L X was Q)) := by
  have hC := at274
  have hb1 : ¬ M 142 5 = 0 := by rw [hb.1.1]; exact hb.2.1
  have key := k16_F hb hk
  refine g3 hC rfl rfl ?_
  refine g12e hC rfl (fun h3 => ?_) (fun h3 => ?_)
  ·
    refine g3 hC rfl rfl ?_
    refine g19 hC rfl sh142 (flt12 rfl) ft12_5 (Eq.refl (M 142 5)) ?_
    refine g12e hC rfl (fun h96 => (by omega)) (fun h96 => ?_)
    refine ret0 hC rfl ?_
    exact key
  ·
    refine g3 hC rfl rfl ?_
    refine g19 hC rfl sh142 (flt12 rfl) ft12_5 (Eq.refl (M 142 5)) ?_
    refine g12n hC rfl (fun h6 => ?_) (fun h6 => (by omega))
    refine g3 hC rfl rfl ?_
    refine g19 hC rfl sh142 (flt12 rfl) ft12_5 (Eq.refl (M 142 5)) ?_
    refine g12e hC rfl (fun h96 => (by omega)) (fun h96 => ?_)
    refine ret0 hC rfl ?_
    exact key
theorem sg40 : sgc 40 := by unfold sgc; decide
theorem kp_open (hE : Env n k M0) (h : SX T n k W M0 q C V op M) (hg : isG T n q 40 = true) (h6 : op = 6 → KF L X was Q M0 4 (q.1 : Int)) (hk : op < 6 → ∀ M1, SX T n k W M0 (nx T n q) C (V ++ [20]) (op + 1) M1 → KP L X was Q M1) : KP L X was Q M := by
  refine kp_pre hE h (fun M v4 v5 ofv h hat hof => ?_)
  have hF := h.fix hE
  have hlen := h.1.2.2.2.2.2.2.1
  have hqn := h.1.2.2.2.2.2.2.2
  have hq1 := hqn.1
  have h26 := h.2.2
  have hn := hE.1
  have hlk := (lkG sg40).2 hg
  have hlt := isG_lt hg
  have g1 := nx_gt (T := T) hlt
  have hC := at274
  have hw : wok XFO = true := by decide +kernel
  have hS : Sb XFO M M := Sb.refl
  refine g3 hC rfl rfl ?_
  refine g0 hC rfl ?_
  refine g13n hC rfl (fun h17 => (by omega)) (fun h17 => ?_)
  refine g3 hC rfl rfl ?_
  refine g0 hC rfl ?_
  refine g3 hC rfl rfl ?_
  refine g19 hC rfl sh142 (flt12 rfl) ft12_2 hat ?_
  refine c0 hC rfl rfl rfl (Nat.le_of_ble_eq_true rfl) (Nat.le_of_ble_eq_true rfl) (mayR k264 rfl) (m264 h.1.1.2.2.2.2.1 h.1.2.2.1 (by omega) hF h.1.2.2.2.1 h.2.2) (Nat.le_of_ble_eq_true rfl) (fun M2 hr => ?_)
  refine g3 hC rfl rfl ?_
  refine g16 hC rfl (by decide) ?_
  have e2 : M2 142 2 = (q.1 : Int) := by rcases hr with y | y; rw [y.2, ax_up_of (by decide), ax_up_of (by decide)]; exact hat; exact (y.2.1 142 2 rfl).trans hat
  have hS : Sb XFO M M2 := by rcases hr with y | y; rw [y.2]; exact (Sb.refl.up rfl).up rfl; exact y.2.1.mono rfl
  refine g19 hC rfl sh142 (flt12 rfl) ft12_2 e2 ?_
  refine g0 hC rfl ?_
  refine g6a hC rfl ⟨by omega, by omega⟩ ?_
  refine g20s hC rfl sh142 (flt12 rfl) (by rw [fy12_2]; rfl) hS rfl (fun hS => ?_)
  refine g14 hC rfl ?_
  refine g14 hC rfl ?_
  rcases hr with ⟨y1, y2⟩ | ⟨y1, y2, y3, y4⟩
  · have hbs : BS 4 (q.1 : Int) (ax_up M2 142 2 ((q.1 : Int) + 1)) := h.bs hE (by decide) (by rw [y2]; exact ⟨by rw [ax_up_of (by decide), ax_up_of (by decide), ax_up_at], by rw [ax_up_of (by decide), ax_up_at]⟩) (Or.inl (by rw [y2, ax_up_of (by decide), ax_up_of (by decide), ax_up_of (by decide)]))
    exact kp2_F hbs (h6 y1 _ hbs (h.2.1.trans hS))
  · refine hk y1 _ ?_ _ _ _ _
    have hr2 : RT T n q M2 := h.1.1.sb y2 rfl rfl rfl rfl rfl (fun _ => rfl)
    have hr3 : RT T n (nx T n q) (ax_up M2 142 2 ((q.1 : Int) + 1)) := hr2.sg (isG_kd3 hg) (Sb.refl.up rfl) (by rw [ax_up_at]; omega)
    refine h.nx (Wx := ([(229, 230)], [(142, 2), (142, 112), (142, 113)])) ((y2.mono rfl).up rfl) rfl rfl hr3 ?_ ?_ ?_ ?_ (wq_nx hqn.1) (by omega)
    · exact ⟨(ax_up_of (by decide)).trans ((y2 _ _ rfl).trans h.1.2.1.1), fun i hi => (ax_up2n (by decide)).trans ((y2 _ _ rfl).trans (h.1.2.1.2 i hi))⟩
    · rw [← List.append_assoc]; exact ⟨(ax_up_of (by decide)).trans y3.1, fun i hi => (ax_up2n (by decide)).trans (y3.2 i hi)⟩
    · rw [ax_up_of (by decide)]; exact y4
    · rw [← List.append_assoc, List.length_append]; show C.length + ((W ++ V).length + 1) ≤ _; omega
end RSM
