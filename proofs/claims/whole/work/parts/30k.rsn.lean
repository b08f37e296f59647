section RSN
variable {L : Nat} {X : Nat → Int} {M M1 M0 : ax_M} {T : Nat → Int} {n k op : Nat} {q q' : PS} {C C' V V' W : List Int} {was : Int} {Q : ax_M → Prop}
theorem sg41 : sgc 41 := by unfold sgc; decide
theorem sg42 : sgc 42 := by unfold sgc; decide
theorem sg43 : sgc 43 := by unfold sgc; decide
theorem sg44 : sgc 44 := by unfold sgc; decide
theorem sg45 : sgc 45 := by unfold sgc; decide
theorem sg47 : sgc 47 := by unfold sgc; decide
theorem SX.rt (h : SX T n k W M0 q C V op M) (hS : Sb XAK M M1) (hr : RT T n q' M1) (hle : q.1 ≤ q'.1) (hw : wq T n q') : SX T n k W M0 q' C V op M1 := h.nx hS rfl rfl hr (h.1.2.1.sb hS rfl (fun _ => rfl)) (h.1.2.2.1.sb hS rfl (fun _ => rfl)) ((hS _ _ rfl).trans h.1.2.2.2.1) (Nat.le_trans h.1.2.2.2.2.2.2.1 hle) hw h.2.2
theorem SX.push {v : Int} (h : SX T n k W M0 q C V op M) (hS : Sb XOP M M1) (hy : RY M1 (W ++ V ++ [v])) (ho : M1 142 113 = ((op + 1 : Nat) : Int)) (hl : C.length + (W ++ V).length + 1 ≤ q.1) (h6 : op < 6) : SX T n k W M0 q C (V ++ [v]) (op + 1) M1 := h.nx hS rfl rfl (h.1.1.sb hS rfl rfl rfl rfl rfl (fun _ => rfl)) (h.1.2.1.sb hS rfl (fun _ => rfl)) (by rw [← List.append_assoc]; exact hy) ho (by rw [← List.append_assoc, List.length_append]; show C.length + ((W ++ V).length + 1) ≤ _; omega) h.1.2.2.2.2.2.2.2 h6
theorem kp_mm (hE : Env n k M0) (h : SX T n k W M0 q C V op M) (hmm : isW T n q w_min = true ∨ isW T n q w_max = true) (hno : isG T n (nx T n q) 40 = false → KF L X was Q M0 1 ((nx T n q).1 : Int)) (h6 : isG T n (nx T n q) 40 = true → op = 6 → KF L X was Q M0 4 ((nx T n q).1 : Int)) (hk : isG T n (nx T n q) 40 = true → op < 6 → ∀ M1, SX T n k W M0 (nx T n (nx T n q)) C (V ++ [if isW T n q w_min = true then 21 else 22]) (op + 1) M1 → KP L X was Q M1) : KP L X was Q M := by
  refine kp_pre hE h (fun M v4 v5 ofv h hat hof => ?_)
  have hF := h.fix hE
  have hW := h.wd hE
  have hlen := h.1.2.2.2.2.2.2.1
  have hqn := h.1.2.2.2.2.2.2.2
  have hq1 := hqn.1
  have h26 := h.2.2
  have hn := hE.1
  have hkd : kd T n q = 1 := by rcases hmm with z | z <;> exact isW_kd1 z
  have hlt := (kd_1 hkd).2.1
  have hlk : ¬ lk T n q = 40 := fun z => by have := isG_kd3 ((lkG sg40).1 z); omega
  obtain ⟨q1, hqq⟩ : ∃ q1, q1 = nx T n q := ⟨_, rfl⟩
  have g1 : q.1 < q1.1 := by rw [hqq]; exact nx_gt hlt
  have w1 : wq T n q1 := by rw [hqq]; exact wq_nx hq1
  rw [← hqq] at hno h6 hk
  have hC := at274
  have aft : ∀ (M2 : ax_M) (is : Int), SX T n k W M0 q1 C V op M2 → ((isW T n q w_min = true ∧ is = 1) ∨ (isW T n q w_min = false ∧ is = 0)) → ∀ v5, ax_G L X SH 5 274 51 [(2, 142), (0, 1), (0, lk T n q), (0, ofv), (0, is), v5] [] M2 (R0 (K16 L X was Q)) := by
    intro M2 is h2 his v5
    have hF2 := h2.fix hE
    have h2len := h2.1.2.2.2.2.2.2.1
    have w2 := w1.1
    have hlk1 := lkG (T := T) (n := n) (q := q1) sg40
    cases hg : isG T n q1 40 with
    | true =>
      have hl40 := hlk1.2 hg
      have g2 := nx_gt (T := T) (isG_lt hg)
      have fin : ∀ (v : Int) (M3 M4 : ax_M), v = (if isW T n q w_min = true then 21 else 22) → Sb XLK M2 M3 → M3 142 2 = (q1.1 : Int) → ((op = 6 ∧ M4 = ax_up (ax_up M3 142 5 4) 142 6 (q1.1 : Int)) ∨ (op < 6 ∧ Sb XOP M3 M4 ∧ RY M4 (W ++ V ++ [v]) ∧ M4 142 113 = ((op + 1 : Nat) : Int))) → ∀ v5, ax_G L X SH 5 274 71 [(2, 142), (0, 1), (0, lk T n q), (0, ofv), (0, is), v5] [] M4 (R0 (K16 L X was Q)) := by
        intro v M3 M4 hv hS3 e3 hr v5
        have h3 := h2.lk hS3 e3
        rcases hr with ⟨y1, y2⟩ | ⟨y1, y2, y3, y4⟩
        · have hbs : BS 4 (q1.1 : Int) M4 := h3.bs hE (by decide) (by rw [y2]; exact BF.up) (Or.inl (by rw [y2, ax_up_of (by decide), ax_up_of (by decide)]))
          have hb1 : ¬ M4 142 5 = 0 := by rw [hbs.1.1]; decide
          have hk24 := h6 hg y1 M4 hbs (h3.2.1.trans (by rw [y2]; exact (Sb.refl.up rfl).up rfl))
          refine g3 hC rfl rfl ?_
          refine g0 hC rfl ?_
          refine c0 hC rfl rfl rfl (Nat.le_of_ble_eq_true rfl) (Nat.le_of_ble_eq_true rfl) (mayR k164 rfl) (m164b hb1) (Nat.le_of_ble_eq_true rfl) (fun M2 hr => ?_)
          replace hr := hr.symm; subst hr
          refine g14 hC rfl ?_
          refine g14 hC rfl ?_
          exact kp2_F hbs hk24
        · have h4 := h3.push y2 y3 y4 (by omega) y1
          refine g3 hC rfl rfl ?_
          refine g0 hC rfl ?_
          refine c0 hC rfl rfl rfl (Nat.le_of_ble_eq_true rfl) (Nat.le_of_ble_eq_true rfl) (mayR k164 rfl) (m164 (h4.fix hE) hn h4.1.1 w1.1 sg40) (Nat.le_of_ble_eq_true rfl) (fun M2 hr => ?_)
          obtain ⟨hr0, hr1⟩ := hr
          refine g14 hC rfl ?_
          refine g14 hC rfl ?_
          unfold sgR at hr1
          rw [if_pos hg] at hr1
          rcases hr1 with ⟨f, p, e, _⟩ | ⟨_, hr1, _⟩
          · cases e
          · have h5 := h4.rt hr0 hr1 (by omega) (wq_nx w1.1)
            rw [hv] at h5
            exact hk hg y1 _ h5 _ _ _ _
      refine g3 hC rfl rfl ?_
      refine c1 hC rfl rfl rfl (Nat.le_of_ble_eq_true rfl) (Nat.le_of_ble_eq_true rfl) (mayR k159 rfl) (m159 hF2 hn h2.1.1 w1.1) (Nat.le_of_ble_eq_true rfl) (fun x M3 hr => ?_)
      obtain ⟨rfl, hr0, hr1⟩ := hr; have hF3 := (h2.lk hr0 hr1).fix hE
      refine g0 hC rfl ?_
      refine g13n hC rfl (fun h54 => (by omega)) (fun h54 => ?_)
      refine g3 hC rfl rfl ?_
      refine g19 hC rfl sh142 (flt12 rfl) ft12_2 hr1 ?_
      refine g14 hC rfl ?_
      refine s5 hC rfl rfl rfl ?_
      refine g3 hC rfl rfl ?_
      refine g0 hC rfl ?_
      refine g13e hC rfl (fun h62 => (by omega)) (fun h62 => ?_)
      refine g3 hC rfl rfl ?_
      refine g3 hC rfl rfl ?_
      refine g12e hC rfl (fun h65 => ?_) (fun h65 => ?_)
      ·
        refine g0 hC rfl ?_
        refine g3 hC rfl rfl ?_
        refine c0 hC rfl rfl rfl (Nat.le_of_ble_eq_true rfl) (Nat.le_of_ble_eq_true rfl) (mayR k264 rfl) (m264 (h2.lk hr0 hr1).1.1.2.2.2.2.1 (h2.lk hr0 hr1).1.2.2.1 (by omega) hF3 (h2.lk hr0 hr1).1.2.2.2.1 h26) (Nat.le_of_ble_eq_true rfl) (fun M4 hr => ?_)
        exact fin 22 M3 M4 (by rw [show isW T n q w_min = false by rcases his with y | y; omega; exact y.1]; rfl) hr0 hr1 hr _
      ·
        refine g0 hC rfl ?_
        refine g14 hC rfl ?_
        refine g3 hC rfl rfl ?_
        refine c0 hC rfl rfl rfl (Nat.le_of_ble_eq_true rfl) (Nat.le_of_ble_eq_true rfl) (mayR k264 rfl) (m264 (h2.lk hr0 hr1).1.1.2.2.2.2.1 (h2.lk hr0 hr1).1.2.2.1 (by omega) hF3 (h2.lk hr0 hr1).1.2.2.2.1 h26) (Nat.le_of_ble_eq_true rfl) (fun M4 hr => ?_)
        exact fin 21 M3 M4 (by rw [show isW T n q w_min = true by rcases his with y | y; exact y.1; omega]; rfl) hr0 hr1 hr _
    | false =>
      have hl40 : ¬ lk T n q1 = 40 := fun z => by rw [hlk1.1 z] at hg; cases hg
      refine g3 hC rfl rfl ?_
      refine c1 hC rfl rfl rfl (Nat.le_of_ble_eq_true rfl) (Nat.le_of_ble_eq_true rfl) (mayR k159 rfl) (m159 hF2 hn h2.1.1 w1.1) (Nat.le_of_ble_eq_true rfl) (fun x M2 hr => ?_)
      obtain ⟨rfl, hr0, hr1⟩ := hr; have h3 := h2.lk hr0 hr1
      refine g0 hC rfl ?_
      refine g13n hC rfl (fun h54 => ?_) (fun h54 => (by omega))
      refine g0 hC rfl ?_
      refine s5 hC rfl rfl rfl ?_
      refine g3 hC rfl rfl ?_
      refine g0 hC rfl ?_
      refine g13e hC rfl (fun h62 => ?_) (fun h62 => (by omega))
      refine g3 hC rfl rfl ?_
      refine g0 hC rfl ?_
      refine c0 hC rfl rfl rfl (Nat.le_of_ble_eq_true rfl) (Nat.le_of_ble_eq_true rfl) (mayR k164 rfl) (m164 (h3.fix hE) hn h3.1.1 w1.1 sg40) (Nat.le_of_ble_eq_true rfl) (fun M4 hr => ?_)
      refine g14 hC rfl ?_
      refine g14 hC rfl ?_
      obtain ⟨hr2, hr3⟩ := hr
      unfold sgR at hr3
      rw [if_neg (by rw [hg]; decide)] at hr3
      rcases hr3 with ⟨f, p, e, hf, hb⟩ | ⟨e, _⟩
      · cases e
        have hbs : BS 1 (q1.1 : Int) M4 := h3.bs hE (by decide) hb (Or.inl (hr2 142 110 rfl))
        exact kp2_F hbs (hno hg M4 hbs (h3.2.1.trans (hr2.mono rfl)))
      · cases e
  have hS : Sb XLK M M := Sb.refl
  have hw : wok XLK = true := by decide +kernel
  have wd : ∀ M2, SX T n k W M0 q C V op M2 → ∀ v4 v5, ax_G L X SH 5 274 40 [(2, 142), (0, 1), (0, lk T n q), (0, ofv), v4, v5] [] M2 (R0 (K16 L X was Q)) := by
    intro M2 h2 v4 v5
    have hF2 := h2.fix hE
    have hW2 := h2.wd hE
    refine g3 hC rfl rfl ?_
    refine g3 hC rfl rfl ?_
    refine g19 hC rfl sh142 (flt12 rfl) ft12_95 (hF2.g fx_142_95) ?_
    refine c1 hC rfl rfl rfl (Nat.le_of_ble_eq_true rfl) (Nat.le_of_ble_eq_true rfl) (mayR k161 rfl) (m161 hF2 hn h2.1.1 hq1 (c := 214) (w := w_min) sh214 (wa214 hW2) (by decide)) (Nat.le_of_ble_eq_true rfl) (fun x M3 hr => ?_)
    obtain ⟨hr0, hr1⟩ := hr
    refine s4 hC rfl rfl rfl ?_
    refine g3 hC rfl rfl ?_
    refine g12n hC rfl (fun h46 => ?_) (fun h46 => ?_)
    ·
      rcases hr1 with y | y
      · have h3 := h2.rt (hr0.mono rfl) y.2.2 (by rw [hqq] at g1; omega) (wq_nx hq1)
        rw [← hqq] at h3
        exact aft _ _ h3 (Or.inl ⟨y.1, y.2.1⟩) _
      · omega
    ·
      refine g3 hC rfl rfl ?_
      refine g3 hC rfl rfl ?_
      have h3 : SX T n k W M0 q C V op M3 ∧ isW T n q w_min = false ∧ x = 0 := by rcases hr1 with y | y; omega; exact ⟨h2.rt (hr0.mono rfl) y.2.2.1 (Nat.le_refl _) hqn, y.1, y.2.1⟩
      refine g19 hC rfl sh142 (flt12 rfl) ft12_96 ((h3.1.fix hE).g fx_142_96) ?_
      refine c0 hC rfl rfl rfl (Nat.le_of_ble_eq_true rfl) (Nat.le_of_ble_eq_true rfl) (mayR k162 rfl) (m162 (h3.1.fix hE) hn h3.1.1.1 hq1 (c := 215) (w := w_max) sh215 (wa215 (h3.1.wd hE)) (by decide)) (Nat.le_of_ble_eq_true rfl) (fun M4 hr => ?_)
      obtain ⟨hr2, hr3⟩ := hr
      have hmax : isW T n q w_max = true := by rcases hmm with y | y; rw [h3.2.1] at y; cases y; exact y
      unfold wdR at hr3
      rw [if_pos hmax] at hr3
      rcases hr3 with ⟨f, p, e, _⟩ | ⟨_, hr3, _⟩
      · cases e
      · have h4 := h3.1.rt hr2 hr3 (by rw [hqq] at g1; omega) (wq_nx hq1)
        rw [← hqq] at h4
        exact aft _ _ h4 (Or.inr ⟨h3.2.1, h3.2.2⟩) _
  refine g3 hC rfl rfl ?_
  refine g0 hC rfl ?_
  refine g13n hC rfl (fun h17 => ?_) (fun h17 => (by omega))
  refine g3 hC rfl rfl ?_
  refine g3 hC rfl rfl ?_
  refine g19 hC rfl sh142 (flt12 rfl) ft12_95 (hF.g fx_142_95) ?_
  refine c1 hC rfl rfl rfl (Nat.le_of_ble_eq_true rfl) (Nat.le_of_ble_eq_true rfl) (mayR k160 rfl) (m160 hF hn h.1.1 hq1 (c := 214) (w := w_min) sh214 (wa214 hW) (by decide)) (Nat.le_of_ble_eq_true rfl) (fun x M3 hr => ?_)
  obtain ⟨hx, hr0, hr1⟩ := hr; have h3 := h.lk hr0 hr1
  refine g12n hC rfl (fun h34 => ?_) (fun h34 => ?_)
  ·
    exact wd _ h3 _ _
  ·
    refine g3 hC rfl rfl ?_
    refine g3 hC rfl rfl ?_
    refine g19 hC rfl sh142 (flt12 rfl) ft12_96 ((h3.fix hE).g fx_142_96) ?_
    refine c1 hC rfl rfl rfl (Nat.le_of_ble_eq_true rfl) (Nat.le_of_ble_eq_true rfl) (mayR k160 rfl) (m160 (h3.fix hE) hn h3.1.1 hq1 (c := 215) (w := w_max) sh215 (wa215 (h3.wd hE)) (by decide)) (Nat.le_of_ble_eq_true rfl) (fun y M4 hr => ?_)
    obtain ⟨hy, hr2, hr3⟩ := hr; have h4 := h3.lk hr2 hr3
    refine g12e hC rfl (fun h39 => (by { rcases hmm with z | z; rw [nW hx (by omega)] at z; cases z; rw [nW hy (by omega)] at z; cases z })) (fun h39 => ?_)
    exact wd _ h4 _ _
theorem kp_rest (hE : Env n k M0) (h : SX T n k W M0 q C V op M) (hg : isG T n q 40 = false) (h1 : isW T n q w_min = false) (h2 : isW T n q w_max = false) (kk : ∀ M1 ofv v4 v5, SX T n k W M0 q C V op M1 → M1 142 2 = (q.1 : Int) → ((k = 2 ∧ isW T n q w_meets = true ∧ ofv = 11) ∨ (¬ (k = 2 ∧ isW T n q w_meets = true) ∧ ofv = -1)) → ax_G L X SH 5 274 75 [(2, 142), (0, 1), (0, lk T n q), (0, ofv), v4, v5] [] M1 (R0 (K16 L X was Q))) : KP L X was Q M := by
  refine kp_pre hE h (fun M v4 v5 ofv h hat hof => ?_)
  have hF := h.fix hE
  have hW := h.wd hE
  have hqn := h.1.2.2.2.2.2.2.2
  have hq1 := hqn.1
  have hn := hE.1
  have hlk : ¬ lk T n q = 40 := fun z => by rw [(lkG sg40).1 z] at hg; cases hg
  have hC := at274
  refine g3 hC rfl rfl ?_
  refine g0 hC rfl ?_
  refine g13n hC rfl (fun h17 => ?_) (fun h17 => (by omega))
  refine g3 hC rfl rfl ?_
  refine g3 hC rfl rfl ?_
  refine g19 hC rfl sh142 (flt12 rfl) ft12_95 (hF.g fx_142_95) ?_
  refine c1 hC rfl rfl rfl (Nat.le_of_ble_eq_true rfl) (Nat.le_of_ble_eq_true rfl) (mayR k160 rfl) (m160 hF hn h.1.1 hq1 (c := 214) (w := w_min) sh214 (wa214 hW) (by decide)) (Nat.le_of_ble_eq_true rfl) (fun x M3 hr => ?_)
  obtain ⟨hx, hr0, hr1⟩ := hr; have h3 := h.lk hr0 hr1; have hx : x = 0 := by rw [hx, h1]; rfl
  refine g12n hC rfl (fun h34 => (by omega)) (fun h34 => ?_)
  refine g3 hC rfl rfl ?_
  refine g3 hC rfl rfl ?_
  refine g19 hC rfl sh142 (flt12 rfl) ft12_96 ((h3.fix hE).g fx_142_96) ?_
  refine c1 hC rfl rfl rfl (Nat.le_of_ble_eq_true rfl) (Nat.le_of_ble_eq_true rfl) (mayR k160 rfl) (m160 (h3.fix hE) hn h3.1.1 hq1 (c := 215) (w := w_max) sh215 (wa215 (h3.wd hE)) (by decide)) (Nat.le_of_ble_eq_true rfl) (fun y M4 hr => ?_)
  obtain ⟨hy, hr2, hr3⟩ := hr; have h4 := h3.lk hr2 hr3; have hy : y = 0 := by rw [hy, h2]; rfl
  refine g12e hC rfl (fun h39 => ?_) (fun h39 => (by omega))
  exact kk _ _ _ _ h4 hr3 hof
theorem kp_of (hE : Env n k M0) (h : SX T n k W M0 q C V op M) (hg : isG T n q 40 = false) (h1 : isW T n q w_min = false) (h2 : isW T n q w_max = false) (hm : k = 2 ∧ isW T n q w_meets = true) (h6 : op = 6 → KF L X was Q M0 4 (q.1 : Int)) (hk : op < 6 → ∀ M1, SX T n k W M0 (nx T n q) C (V ++ [60]) (op + 1) M1 → KP L X was Q M1) : KP L X was Q M := by
  refine kp_rest hE h hg h1 h2 (fun M ofv v4 v5 h hat hof => ?_)
  have hF := h.fix hE
  have hlen := h.1.2.2.2.2.2.2.1
  have hqn := h.1.2.2.2.2.2.2.2
  have hq1 := hqn.1
  have h26 := h.2.2
  have hn := hE.1
  have hlt := isW_lt hm.2
  have g1 := nx_gt (T := T) hlt
  have e11 : ofv = 11 := by rcases hof with y | y; exact y.2.2; exact absurd hm y.1
  subst e11
  have hC := at274
  refine g3 hC rfl rfl ?_
  refine g0 hC rfl ?_
  refine g13e hC rfl (fun h77 => (by omega)) (fun h77 => ?_)
  refine g3 hC rfl rfl ?_
  refine g0 hC rfl ?_
  refine g3 hC rfl rfl ?_
  refine g6a hC rfl ⟨by omega, by omega⟩ ?_
  refine g0 hC rfl ?_
  refine g6s hC rfl ⟨by omega, by omega⟩ ?_
  refine g3 hC rfl rfl ?_
  refine g19 hC rfl sh142 (flt12 rfl) ft12_2 hat ?_
  refine c0 hC rfl rfl rfl (Nat.le_of_ble_eq_true rfl) (Nat.le_of_ble_eq_true rfl) (mayR k264 rfl) (m264 h.1.1.2.2.2.2.1 h.1.2.2.1 (by omega) hF h.1.2.2.2.1 h.2.2) (Nat.le_of_ble_eq_true rfl) (fun M2 hr => ?_)
  refine g3 hC rfl rfl ?_
  refine g3 hC rfl rfl ?_
  have key : ax_Ev L X SH 4 272 [(2, 142), (0, 11)] M2 (R0 (fun M3 => (op = 6 ∧ BS 4 (q.1 : Int) M3 ∧ Sb XFO M0 M3) ∨ (op < 6 ∧ SX T n k W M0 (nx T n q) C (V ++ [60]) (op + 1) M3))) := ?key
  refine c0 hC rfl rfl rfl (Nat.le_of_ble_eq_true rfl) (Nat.le_of_ble_eq_true rfl) (mayR k272 rfl) key (Nat.le_of_ble_eq_true rfl) (fun M3 hr => ?_)
  refine g14 hC rfl ?_
  refine g14 hC rfl ?_
  rcases hr with ⟨y1, y2, y3⟩ | ⟨y1, y2⟩
  · exact kp2_F y2 (h6 y1 _ y2 y3)
  · exact hk y1 _ y2 _ _ _ _
  rcases hr with ⟨y1, y2⟩ | ⟨y1, y2, y3, y4⟩
  · have hbs : BS 4 (q.1 : Int) M2 := h.bs hE (by decide) (by rw [y2]; exact BF.up) (Or.inl (by rw [y2, ax_up_of (by decide), ax_up_of (by decide)]))
    have hb1 : ¬ M2 142 5 = 0 := by rw [hbs.1.1]; decide
    have hS2 : Sb XFO M0 M2 := h.2.1.trans (by rw [y2]; exact (Sb.refl.up rfl).up rfl)
    refine (m272b hb1 (hS2.fix (by decide +kernel) hE.2.2.1)).imp (fun r M3 hp => ?_)
    obtain ⟨e, rfl⟩ := hp
    exact ⟨e, Or.inl ⟨y1, hbs, hS2⟩⟩
  · have hj : ∀ i : Nat, (11 : Int) = (i : Int) → isW T n q (qwl.getD i []) = true := by
      intro i hi
      have : i = 11 := by omega
      subst this; exact hm.2
    refine (m272 (y2.fix (by decide +kernel) hF) hn (h.1.1.sb y2 rfl rfl rfl rfl rfl (fun _ => rfl)) hq1 ((h.wd hE).sb y2 rfl) (by decide) (by decide) hj).imp (fun r M3 hp => ?_)
    obtain ⟨e, hs, hrt⟩ := hp
    refine ⟨e, Or.inr ⟨y1, h.nx (Wx := ([(229, 230)], [(142, 2), (142, 4), (142, 5), (142, 6), (142, 112), (142, 113)])) ((y2.mono rfl).then hs rfl) rfl rfl hrt ?_ ?_ ?_ ?_ (wq_nx hq1) (by omega)⟩⟩
    · exact (h.1.2.1.sb y2 rfl (fun _ => rfl)).sb hs rfl (fun _ => rfl)
    · rw [← List.append_assoc]; exact y3.sb hs rfl (fun _ => rfl)
    · rw [hs 142 113 rfl]; exact y4
    · rw [← List.append_assoc, List.length_append]; show C.length + ((W ++ V).length + 1) ≤ _; omega
theorem m273b (hb1 : ¬ M 142 5 = 0) : ax_Ev L X SH 0 273 [(2, 142)] M (R0 (fun M' => M' = M)) := by
  show ax_G L X SH 0 273 0 [(2, 142)] [] M _
  have hC := at273
  refine g3 hC rfl rfl ?_
  refine g19 hC rfl sh142 (flt12 rfl) ft12_5 (Eq.refl (M 142 5)) ?_
  refine g12n hC rfl (fun h2 => ?_) (fun h2 => (by omega))
  refine ret0 hC rfl ?_
  rfl
theorem kp_end (hE : Env n k M0) (h : SX T n k W M0 q C V op M) (hg : isG T n q 40 = false) (h1 : isW T n q w_min = false) (h2 : isW T n q w_max = false) (hm : ¬ (k = 2 ∧ isW T n q w_meets = true)) (hl : ¬ fnd T n q 0 (lw k) = -1 → ∀ M1, SX T n k W M0 (nx T n q) (C ++ [40 + lcd k (fnd T n q 0 (lw k))]) V op M1 → KE L X was Q M1) (hu : fnd T n q 0 (lw k) = -1 → nuR T n q 0 9999 = none → ∀ M1, SX T n k W M0 (nx T n q) (C ++ [1000 + nuV T n q]) V op M1 → KE L X was Q M1) (hf : fnd T n q 0 (lw k) = -1 → ∀ f p, nuR T n q 0 9999 = some (f, p) → KF L X was Q M0 f p) : KP L X was Q M := by
  refine kp_rest hE h hg h1 h2 (fun M ofv v4 v5 h hat hof => ?_)
  have hF := h.fix hE
  have hlen := h.1.2.2.2.2.2.2.1
  have hqn := h.1.2.2.2.2.2.2.2
  have hq1 := hqn.1
  have h26 := h.2.2
  have hn := hE.1
  have e11 : ofv = -1 := by rcases hof with y | y; exact absurd ⟨y.1, y.2.1⟩ hm; exact y.2
  subst e11
  have hC := at274
  have hql := qw_lw (T := T) (n := n) (q := q) hE.2.1
  have hfb := fnd_b (T := T) (n := n) (q := q) (ws := qwl) 0
  have hfl := fnd_b (T := T) (n := n) (q := q) (ws := lw k) 0
  have hwo : ∀ x : Int, (((0 ≤ fnd T n q 0 qwl ∧ fnd T n q 0 qwl < 11 ∧ alw k (fnd T n q 0 qwl)) ∧ x = fnd T n q 0 qwl) ∨ (¬ (0 ≤ fnd T n q 0 qwl ∧ fnd T n q 0 qwl < 11 ∧ alw k (fnd T n q 0 qwl)) ∧ x = -1)) → (¬ fnd T n q 0 (lw k) = -1 ∧ x = lcd k (fnd T n q 0 (lw k)) ∧ 0 ≤ x ∧ x < 11 ∧ x = fnd T n q 0 qwl) ∨ (fnd T n q 0 (lw k) = -1 ∧ x = -1) := by
    intro x hx
    cases em : isW T n q w_meets with
    | true =>
      have z := hql.1 em
      rcases hx with ⟨y, e⟩ | ⟨y, e⟩
      · rw [z.1] at y; omega
      · exact Or.inr ⟨z.2, e⟩
    | false =>
      rcases hql.2.1 em with z | z
      · rcases hx with ⟨y, e⟩ | ⟨y, e⟩
        · exact Or.inl ⟨z.2.1, e.trans z.2.2, by omega, by omega, e⟩
        · exact absurd z.1 y
      · rcases hx with ⟨y, e⟩ | ⟨y, e⟩
        · exact absurd y z.1
        · exact Or.inr ⟨z.2.1, e⟩
  have code : ∀ (M3 M4 : ax_M) (v : Int) (q2 : PS), SX T n k W M0 q2 C V op M3 → C.length + 1 + (W ++ V).length ≤ q2.1 → Sb XCD M3 M4 → RC M4 (C ++ [v]) → (∀ M1, SX T n k W M0 q2 (C ++ [v]) V op M1 → KE L X was Q M1) → ∀ ll, ax_G L X SH 5 274 124 ((2, 142) :: ll) [] M4 (R0 (K16 L X was Q)) := by
    intro M3 M4 v q2 h3 hl2 hS4 hc4 hk ll
    have h4 : SX T n k W M0 q2 (C ++ [v]) V op M4 := h3.nx hS4 rfl rfl (h3.1.1.sb hS4 rfl rfl rfl rfl rfl (fun _ => rfl)) hc4 (h3.1.2.2.1.sb hS4 rfl (fun _ => rfl)) ((hS4 _ _ rfl).trans h3.1.2.2.2.1) (by rw [List.length_append]; exact hl2) h3.1.2.2.2.2.2.2.2 h26
    refine g3 hC rfl rfl ?_
    exact c0 hC rfl rfl rfl (Nat.le_of_ble_eq_true rfl) (Nat.le_of_ble_eq_true rfl) (mayR k273 rfl) (show ax_Ev L X SH 4 273 [(2, 142)] M4 _ from (hk M4 h4).1 ((2, 142) :: ll)) (Nat.le_of_ble_eq_true rfl) (fun M5 hr => hr)
  have lf : ∀ (M4 : ax_M) (x : Int) v3 v4 v5, SX T n k W M0 (nx T n q) C V op M4 → ¬ fnd T n q 0 (lw k) = -1 → x = lcd k (fnd T n q 0 (lw k)) → 0 ≤ x → x < 11 → ax_G L X SH 5 274 109 [(2, 142), (0, 0), (0, x), v3, v4, v5] [] M4 (R0 (K16 L X was Q)) := by
    intro M4 x v3 v4 v5 h4 hx1 hx2 hx3 hx4
    have g1 := nx_gt (T := T) (fnd_lt hx1)
    refine g3 hC rfl rfl ?_
    refine g3 hC rfl rfl ?_
    refine g0 hC rfl ?_
    refine g13e hC rfl (fun h112 => (by omega)) (fun h112 => ?_)
    refine g0 hC rfl ?_
    refine g3 hC rfl rfl ?_
    refine g6a hC rfl ⟨by omega, by omega⟩ ?_
    refine g14 hC rfl ?_
    refine c0 hC rfl rfl rfl (Nat.le_of_ble_eq_true rfl) (Nat.le_of_ble_eq_true rfl) (mayR k263 rfl) (m263 h4.1.2.1 (by omega) (h4.fix hE)) (Nat.le_of_ble_eq_true rfl) (fun M5 hr => ?_)
    refine code M4 M5 (40 + x) (nx T n q) h4 (by omega) hr.1 hr.2 (fun M1 h5 => hl hx1 M1 ?_) _
    rw [← hx2]; exact h5
  have nf : ∀ (M4 : ax_M) v3 v4 v5, SX T n k W M0 q C V op M4 → fnd T n q 0 (lw k) = -1 → ax_G L X SH 5 274 109 [(2, 142), (0, 0), (0, -1), v3, v4, v5] [] M4 (R0 (K16 L X was Q)) := by
    intro M4 v3 v4 v5 h4 hx1
    refine g3 hC rfl rfl ?_
    refine g3 hC rfl rfl ?_
    refine g0 hC rfl ?_
    refine g13e hC rfl (fun h112 => ?_) (fun h112 => (by omega))
    refine g0 hC rfl ?_
    refine g3 hC rfl rfl ?_
    refine g0 hC rfl ?_
    refine g0 hC rfl ?_
    refine c1 hC rfl rfl rfl (Nat.le_of_ble_eq_true rfl) (Nat.le_of_ble_eq_true rfl) (mayR k165 rfl) (m165 (h4.fix hE) hn h4.1.1 hq1) (Nat.le_of_ble_eq_true rfl) (fun y M5 hr => ?_)
    obtain ⟨hr0, hy, hr1⟩ := hr
    refine g6a hC rfl ⟨by omega, by omega⟩ ?_
    rcases hr1 with ⟨f, p, e, hf0, hb⟩ | ⟨e, hrt, ey⟩
    · have hbs : ∀ M6, Sb XCD M5 M6 → M6 142 110 = M5 142 110 + 1 → BS f p M6 := fun M6 hs6 e6 => h4.bs hE hf0 ⟨(hs6 142 5 rfl).trans hb.1, (hs6 142 6 rfl).trans hb.2⟩ (Or.inr (by rw [e6, hr0 142 110 rfl]))
      have h110 : M5 142 110 = (C.length : Int) := (hr0 142 110 rfl).trans h4.1.2.1.1
      refine c0 hC rfl rfl rfl (Nat.le_of_ble_eq_true rfl) (Nat.le_of_ble_eq_true rfl) (mayR k263 rfl) (m263x (by omega) (hr0.fix (by decide +kernel) (h4.fix hE))) (Nat.le_of_ble_eq_true rfl) (fun M6 hr => ?_)
      have hb6 := hbs M6 hr.1 hr.2
      have hk16 := k16_F hb6 (hf hx1 f p e M6 hb6 ((h4.2.1.then hr0 rfl).then hr.1 rfl))
      have hb1 : ¬ M6 142 5 = 0 := by rw [hb6.1.1]; exact hb6.2.1
      refine g3 hC rfl rfl ?_
      refine c0 hC rfl rfl rfl (Nat.le_of_ble_eq_true rfl) (Nat.le_of_ble_eq_true rfl) (mayR k273 rfl) (m273b hb1) (Nat.le_of_ble_eq_true rfl) (fun M7 hr => ?_)
      replace hr := hr.symm
      subst hr
      exact ret0 hC rfl hk16
    · have hkd : kd T n q = 2 := by
        unfold nuR at e
        by_cases z : kd T n q = 2
        · exact z
        · rw [if_pos z] at e; cases e
      have g1 := nx_gt (T := T) (kd_2 hkd).2.1
      have h5 := h4.rt hr0 hrt (by omega) (wq_nx hq1)
      refine c0 hC rfl rfl rfl (Nat.le_of_ble_eq_true rfl) (Nat.le_of_ble_eq_true rfl) (mayR k263 rfl) (m263 h5.1.2.1 (by omega) (h5.fix hE)) (Nat.le_of_ble_eq_true rfl) (fun M6 hr => ?_)
      refine code M5 M6 (1000 + y) (nx T n q) h5 (by omega) hr.1 hr.2 (fun M1 h6 => hu hx1 e M1 ?_) _
      rw [← ey]; exact h6
  refine g3 hC rfl rfl ?_
  refine g0 hC rfl ?_
  refine g13e hC rfl (fun h77 => ?_) (fun h77 => (by omega))
  refine g0 hC rfl ?_
  refine s1 hC rfl rfl rfl ?_
  refine g14 hC rfl ?_
  refine g3 hC rfl rfl ?_
  refine g12e hC rfl (fun h3 => ?_) (fun h3 => (by omega))
  refine g3 hC rfl rfl ?_
  refine g19 hC rfl sh142 (flt12 rfl) ft12_5 h.1.1.2.2.2.2.1 ?_
  refine g12e hC rfl (fun h96 => ?_) (fun h96 => (by omega))
  refine g3 hC rfl rfl ?_
  refine g0 hC rfl ?_
  refine g0 hC rfl ?_
  refine c1 hC rfl rfl rfl (Nat.le_of_ble_eq_true rfl) (Nat.le_of_ble_eq_true rfl) (mayR k271 rfl) (m271 hF hn h.1.1 hq1 (h.wd hE) h.1.2.2.2.2.2.1 hE.2.1) (Nat.le_of_ble_eq_true rfl) (fun x M3 hr => ?_)
  obtain ⟨hx, hr0, hr1⟩ := hr; have h3 := h.lk hr0 hr1; have hx := hwo x hx
  refine s2 hC rfl rfl rfl ?_
  refine g3 hC rfl rfl ?_
  refine g0 hC rfl ?_
  refine g13e hC rfl (fun h105 => ?_) (fun h105 => ?_)
  ·
    rcases hx with y | y
    · omega
    · rw [y.2]; exact nf _ _ _ _ h3 y.1
  ·
    refine g3 hC rfl rfl ?_
    refine g3 hC rfl rfl ?_
    have hx2 : ¬ fnd T n q 0 (lw k) = -1 ∧ x = lcd k (fnd T n q 0 (lw k)) ∧ 0 ≤ x ∧ x < 11 ∧ x = fnd T n q 0 qwl := by rcases hx with y | y; exact y; omega
    have g1 := nx_gt (T := T) (fnd_lt hx2.1)
    refine c0 hC rfl rfl rfl (Nat.le_of_ble_eq_true rfl) (Nat.le_of_ble_eq_true rfl) (mayR k272 rfl) (m272 (h3.fix hE) hn h3.1.1 hq1 (h3.wd hE) (by omega) (by omega) (fun i hi => hql.2.2 (by omega) i (by omega))) (Nat.le_of_ble_eq_true rfl) (fun M4 hr => ?_)
    obtain ⟨hr2, hr3⟩ := hr; have h4 := h3.rt hr2 hr3 (by omega) (wq_nx hq1)
    exact lf _ _ _ _ _ h4 hx2.1 hx2.2.1 hx2.2.2.1 hx2.2.2.2.1
end RSN
