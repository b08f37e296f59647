section TSN
variable {L : Nat} {X : Nat → Int} {M M1 M0 : ax_M} {T : Nat → Int} {n k op bs : Nat} {q q' : PS} {C C' V V' tl : List Int} {Q : ax_M → Prop}
theorem l43 (hE : Env n k M0) (h : TX T n k bs M0 q C V op M) (hl : C.length + V.length + 1 ≤ q.1) (ht : ¬ top V = 10) (hk : ∀ M1, TX T n k bs M0 q C (V ++ [10]) op M1 → TP L X Q M1) : ax_G L X SH 7 281 43 [(2, 142)] [] M (R1 0 (J49 L X Q)) := by
  have hF := h.fix hE
  have hq1 := h.1.2.2.2.2.2.2.2.1
  have hn := hE.1
  have hy := h.1.2.2.1
  have hC := at281
  have hw : wok XOP = true := by decide +kernel
  have hS : Sb XOP M M := Sb.refl
  refine g3 hC rfl rfl ?_
  refine g0 hC rfl ?_
  refine c1 hC rfl rfl rfl (Nat.le_of_ble_eq_true rfl) (Nat.le_of_ble_eq_true rfl) (mayR k265 rfl) (m265t hy (by omega) hF (by decide)) (Nat.le_of_ble_eq_true rfl) (fun x MX hr => ?_)
  obtain ⟨hx, hr⟩ := hr; replace hr := hr.symm; subst hr
  refine g12e hC rfl (fun h46 => ?_) (fun h46 => (by omega))
  refine g3 hC rfl rfl ?_
  refine g19 hC rfl sh142 (flt12 rfl) ft12_111 ((hS.fix hw hF).g fx_142_111) ?_
  refine g3 hC rfl rfl ?_
  refine g19 hC rfl sh142 (flt12 rfl) ft12_112 hy.1 ?_
  refine g0 hC rfl ?_
  refine r22s (V.length) hC rfl (by omega) sh229 (by omega) rfl hS rfl (fun hS => ?_)
  refine g3 hC rfl rfl ?_
  refine g16 hC rfl (by decide) ?_
  refine g19 hC rfl sh142 (flt12 rfl) ft12_112 ((ax_up2n (by decide)).trans hy.1) ?_
  refine g0 hC rfl ?_
  refine g6a hC rfl ⟨by omega, by omega⟩ ?_
  refine g20s hC rfl sh142 (flt12 rfl) (by rw [fy12_112]; rfl) hS rfl (fun hS => ?_)
  refine g0 hC rfl ?_
  refine ret3 hC rfl ⟨by omega, by omega⟩ ?_
  exact j49_1 (hk _ (h.psh hl (by decide)))
theorem l43p (hE : Env n k M0) (h : TX T n k bs M0 q C (V ++ [10]) op M) (hk : ∀ M1, TX T n k bs M0 q (C ++ [10]) V op M1 → ax_G L X SH 7 281 43 [(2, 142)] [] M1 (R1 0 (J49 L X Q))) : ax_G L X SH 7 281 43 [(2, 142)] [] M (R1 0 (J49 L X Q)) := by
  have hF := h.fix hE
  have hq1 := h.1.2.2.2.2.2.2.2.1
  have hl := h.1.2.2.2.2.2.2.1
  rw [len1] at hl
  have hn := hE.1
  have hy := h.1.2.2.1
  have htop : top (V ++ [10]) = 10 := top_s
  have hC := at281
  refine g3 hC rfl rfl ?_
  refine g0 hC rfl ?_
  refine c1 hC rfl rfl rfl (Nat.le_of_ble_eq_true rfl) (Nat.le_of_ble_eq_true rfl) (mayR k265 rfl) (m265t hy (by rw [len1]; omega) hF (by decide)) (Nat.le_of_ble_eq_true rfl) (fun x MX hr => ?_)
  obtain ⟨hx, hr⟩ := hr; replace hr := hr.symm; subst hr
  refine g12e hC rfl (fun h46 => (by omega)) (fun h46 => ?_)
  refine g3 hC rfl rfl ?_
  refine c0 hC rfl rfl rfl (Nat.le_of_ble_eq_true rfl) (Nat.le_of_ble_eq_true rfl) (mayR k266 rfl) (m266 hy (by omega) h.1.2.1 (by omega) hF) (Nat.le_of_ble_eq_true rfl) (fun M2 hr => ?_)
  refine g14 hC rfl ?_
  exact hk _ (h.pop hr.1 hr.2.1 hr.2.2)
theorem l69 (hE : Env n k M0) (h : TX T n k bs M0 q C V op M) (hl : C.length + V.length + 1 ≤ q.1) (ht : ¬ top V = 10 ∧ ¬ top V = 11) (hk : ∀ M1, TX T n k bs M0 q C (V ++ [11]) op M1 → TP L X Q M1) : ax_G L X SH 7 281 69 [(2, 142)] [] M (R1 0 (J49 L X Q)) := by
  have hF := h.fix hE
  have hq1 := h.1.2.2.2.2.2.2.2.1
  have hn := hE.1
  have hy := h.1.2.2.1
  have hC := at281
  have hw : wok XOP = true := by decide +kernel
  have hS : Sb XOP M M := Sb.refl
  refine g3 hC rfl rfl ?_
  refine g0 hC rfl ?_
  refine c1 hC rfl rfl rfl (Nat.le_of_ble_eq_true rfl) (Nat.le_of_ble_eq_true rfl) (mayR k265 rfl) (m265t hy (by omega) hF (by decide)) (Nat.le_of_ble_eq_true rfl) (fun x MX hr => ?_)
  obtain ⟨hx, hr⟩ := hr; replace hr := hr.symm; subst hr
  refine g12n hC rfl (fun h72 => (by omega)) (fun h72 => ?_)
  refine g3 hC rfl rfl ?_
  refine g0 hC rfl ?_
  refine c1 hC rfl rfl rfl (Nat.le_of_ble_eq_true rfl) (Nat.le_of_ble_eq_true rfl) (mayR k265 rfl) (m265t hy (by omega) hF (by decide)) (Nat.le_of_ble_eq_true rfl) (fun y MX hr => ?_)
  obtain ⟨hy3, hr⟩ := hr; replace hr := hr.symm; subst hr
  refine g12e hC rfl (fun h76 => ?_) (fun h76 => (by omega))
  refine g3 hC rfl rfl ?_
  refine g19 hC rfl sh142 (flt12 rfl) ft12_111 ((hS.fix hw hF).g fx_142_111) ?_
  refine g3 hC rfl rfl ?_
  refine g19 hC rfl sh142 (flt12 rfl) ft12_112 hy.1 ?_
  refine g0 hC rfl ?_
  refine r22s (V.length) hC rfl (by omega) sh229 (by omega) rfl hS rfl (fun hS => ?_)
  refine g3 hC rfl rfl ?_
  refine g16 hC rfl (by decide) ?_
  refine g19 hC rfl sh142 (flt12 rfl) ft12_112 ((ax_up2n (by decide)).trans hy.1) ?_
  refine g0 hC rfl ?_
  refine g6a hC rfl ⟨by omega, by omega⟩ ?_
  refine g20s hC rfl sh142 (flt12 rfl) (by rw [fy12_112]; rfl) hS rfl (fun hS => ?_)
  refine g0 hC rfl ?_
  refine ret3 hC rfl ⟨by omega, by omega⟩ ?_
  exact j49_1 (hk _ (h.psh hl (by decide)))
theorem l69p {t : Int} (hE : Env n k M0) (h : TX T n k bs M0 q C (V ++ [t]) op M) (ht : t = 10 ∨ t = 11) (hk : ∀ M1, TX T n k bs M0 q (C ++ [t]) V op M1 → ax_G L X SH 7 281 69 [(2, 142)] [] M1 (R1 0 (J49 L X Q))) : ax_G L X SH 7 281 69 [(2, 142)] [] M (R1 0 (J49 L X Q)) := by
  have hF := h.fix hE
  have hq1 := h.1.2.2.2.2.2.2.2.1
  have hl := h.1.2.2.2.2.2.2.1
  rw [len1] at hl
  have hn := hE.1
  have hy := h.1.2.2.1
  have htop : top (V ++ [t]) = t := top_s
  have hC := at281
  refine g3 hC rfl rfl ?_
  refine g0 hC rfl ?_
  refine c1 hC rfl rfl rfl (Nat.le_of_ble_eq_true rfl) (Nat.le_of_ble_eq_true rfl) (mayR k265 rfl) (m265t hy (by rw [len1]; omega) hF (by decide)) (Nat.le_of_ble_eq_true rfl) (fun x MX hr => ?_)
  obtain ⟨hx, hr⟩ := hr; replace hr := hr.symm; subst hr
  refine g12n hC rfl (fun h72 => ?_) (fun h72 => ?_)
  ·
    refine g3 hC rfl rfl ?_
    refine c0 hC rfl rfl rfl (Nat.le_of_ble_eq_true rfl) (Nat.le_of_ble_eq_true rfl) (mayR k266 rfl) (m266 hy (by omega) h.1.2.1 (by omega) hF) (Nat.le_of_ble_eq_true rfl) (fun M2 hr => ?_)
    refine g14 hC rfl ?_
    exact hk _ (h.pop hr.1 hr.2.1 hr.2.2)
  ·
    refine g3 hC rfl rfl ?_
    refine g0 hC rfl ?_
    refine c1 hC rfl rfl rfl (Nat.le_of_ble_eq_true rfl) (Nat.le_of_ble_eq_true rfl) (mayR k265 rfl) (m265t hy (by rw [len1]; omega) hF (by decide)) (Nat.le_of_ble_eq_true rfl) (fun y MX hr => ?_)
    obtain ⟨hy3, hr⟩ := hr; replace hr := hr.symm; subst hr
    refine g12e hC rfl (fun h76 => (by omega)) (fun h76 => ?_)
    refine g3 hC rfl rfl ?_
    refine c0 hC rfl rfl rfl (Nat.le_of_ble_eq_true rfl) (Nat.le_of_ble_eq_true rfl) (mayR k266 rfl) (m266 hy (by omega) h.1.2.1 (by omega) hF) (Nat.le_of_ble_eq_true rfl) (fun M2 hr => ?_)
    refine g14 hC rfl ?_
    exact hk _ (h.pop hr.1 hr.2.1 hr.2.2)
theorem l69s (hE : Env n k M0) (h3 : ¬ top V = 10 ∧ ¬ top V = 11) : ∀ (m : Nat) (tl C : List Int) (M : ax_M), tl.length = m → anor tl → TX T n k bs M0 q C (V ++ tl) op M → C.length + (V ++ tl).length + 1 ≤ q.1 → (∀ M1, TX T n k bs M0 q (C ++ tl.reverse) (V ++ [11]) op M1 → TP L X Q M1) → ax_G L X SH 7 281 69 [(2, 142)] [] M (R1 0 (J49 L X Q)) := by
  intro m
  induction m with
  | zero =>
    intro tl C M ht hs h hl hk
    have et : tl = [] := List.eq_nil_of_length_eq_zero ht
    subst et
    rw [List.append_nil] at h hl
    rw [List.reverse_nil, List.append_nil] at hk
    exact l69 hE h hl h3 hk
  | succ m ih =>
    intro tl C M ht hs h hl hk
    obtain ⟨t0, t, et⟩ : ∃ t0 t, tl = t0 ++ [t] := ⟨tl.dropLast, tl.getLast (by intro z; rw [z] at ht; cases ht), (List.dropLast_concat_getLast _).symm⟩
    subst et
    rw [len1] at ht
    rw [← List.append_assoc] at h hl
    rw [len1] at hl
    refine l69p hE h (hs t (by simp)) (fun M1 h1 => ?_)
    refine ih t0 (C ++ [t]) M1 (by omega) (fun x hx => hs x (by simp [hx])) h1 (by rw [len1]; omega) ?_
    rw [List.append_assoc]; rw [List.reverse_append] at hk; exact hk
theorem wG {w : List Int} {c : Int} (h : isW T n q w = true) : isG T n q c = false := by
  cases e : isG T n q c with
  | false => rfl
  | true => have := isW_kd1 h; have := isG_kd3 e; omega
theorem tg_and {pa : List Int} (hE : Env n k M0) (h : TX T n k bs M0 q C (V ++ pa) op M) (hpa : pa = [] ∨ pa = [10]) (ht : ¬ top V = 10) (hw1 : isW T n q w_and = true) (hk : ∀ M1, TX T n k bs M0 (nx T n q) (C ++ pa) (V ++ [10]) op M1 → TP L X Q M1) : TG L X Q M := by
  refine tg_38 hE h (Or.inl (wG hw1)) (fun M h => ?_)
  have hF := h.fix hE
  have hq1 := h.1.2.2.2.2.2.2.2.1
  have hl := h.1.2.2.2.2.2.2.1
  have hn := hE.1
  have g1 := nx_gt (T := T) (isW_lt hw1)
  have hC := at281
  refine g3 hC rfl rfl ?_
  refine g3 hC rfl rfl ?_
  refine g19 hC rfl sh142 (flt12 rfl) ft12_92 (hF.g fx_142_92) ?_
  refine c1 hC rfl rfl rfl (Nat.le_of_ble_eq_true rfl) (Nat.le_of_ble_eq_true rfl) (mayR k161 rfl) (m161 hF hn h.1.1 hq1 (c := 211) (w := w_and) sh211 (wa211 (h.wd hE)) (by decide)) (Nat.le_of_ble_eq_true rfl) (fun x M2 hr => ?_)
  obtain ⟨hr0, hr1⟩ := hr; have hr2 : x = 1 ∧ RT T n (nx T n q) M2 := by { rcases hr1 with y | y; exact y.2; rw [hw1] at y; cases y.1 }
  refine g12e hC rfl (fun h42 => (by omega)) (fun h42 => ?_)
  have h2 := h.rt (hr0.mono rfl) hr2.2 (by omega) (wq_nx hq1)
  rcases hpa with rfl | rfl
  · rw [List.append_nil] at h2 hl hk
    exact l43 hE h2 (by omega) ht hk
  · rw [len1] at hl
    exact l43p hE h2 (fun M3 h3 => l43 hE h3 (by rw [len1]; omega) ht hk)
theorem tg_64 (hE : Env n k M0) (h : TX T n k bs M0 q C V op M) (hno : isG T n q 93 = false ∨ ∀ i, i < V.length → ¬ V.getD i 0 = 25) (hw1 : isW T n q w_and = false) (hk : ∀ M1, TX T n k bs M0 q C V op M1 → M1 142 2 = (q.1 : Int) → ax_G L X SH 7 281 64 [(2, 142)] [] M1 (R1 0 (J49 L X Q))) : TG L X Q M := by
  refine tg_38 hE h hno (fun M h => ?_)
  have hF := h.fix hE
  have hqn := h.1.2.2.2.2.2.2.2
  have hq1 := hqn.1
  have hn := hE.1
  have hC := at281
  refine g3 hC rfl rfl ?_
  refine g3 hC rfl rfl ?_
  refine g19 hC rfl sh142 (flt12 rfl) ft12_92 (hF.g fx_142_92) ?_
  refine c1 hC rfl rfl rfl (Nat.le_of_ble_eq_true rfl) (Nat.le_of_ble_eq_true rfl) (mayR k161 rfl) (m161 hF hn h.1.1 hq1 (c := 211) (w := w_and) sh211 (wa211 (h.wd hE)) (by decide)) (Nat.le_of_ble_eq_true rfl) (fun x M2 hr => ?_)
  obtain ⟨hr0, hr1⟩ := hr; have hr2 : x = 0 ∧ RT T n q M2 ∧ M2 142 2 = (q.1 : Int) := by { rcases hr1 with y | y; rw [hw1] at y; cases y.1; exact y.2 }
  refine g12e hC rfl (fun h42 => ?_) (fun h42 => (by omega))
  exact hk _ (h.rt (hr0.mono rfl) hr2.2.1 (Nat.le_refl _) hqn) hr2.2.2
theorem tg_or (hE : Env n k M0) (h : TX T n k bs M0 q C (V ++ tl) op M) (ha : anor tl) (ht : ¬ top V = 10 ∧ ¬ top V = 11) (hw2 : isW T n q w_or = true) (hk : ∀ M1, TX T n k bs M0 (nx T n q) (C ++ tl.reverse) (V ++ [11]) op M1 → TP L X Q M1) : TG L X Q M := by
  refine tg_64 hE h (Or.inl (wG hw2)) (isW_ne hw2 (by decide)) (fun M h hat => ?_)
  have hF := h.fix hE
  have hq1 := h.1.2.2.2.2.2.2.2.1
  have hl := h.1.2.2.2.2.2.2.1
  have hn := hE.1
  have g1 := nx_gt (T := T) (isW_lt hw2)
  have hC := at281
  refine g3 hC rfl rfl ?_
  refine g3 hC rfl rfl ?_
  refine g19 hC rfl sh142 (flt12 rfl) ft12_93 (hF.g fx_142_93) ?_
  refine c1 hC rfl rfl rfl (Nat.le_of_ble_eq_true rfl) (Nat.le_of_ble_eq_true rfl) (mayR k161 rfl) (m161 hF hn h.1.1 hq1 (c := 212) (w := w_or) sh212 (wa212 (h.wd hE)) (by decide)) (Nat.le_of_ble_eq_true rfl) (fun x M2 hr => ?_)
  obtain ⟨hr0, hr1⟩ := hr; have hr2 : x = 1 ∧ RT T n (nx T n q) M2 := by { rcases hr1 with y | y; exact y.2; rw [hw2] at y; cases y.1 }
  refine g12e hC rfl (fun h68 => (by omega)) (fun h68 => ?_)
  exact l69s hE ht tl.length tl C M2 rfl ha (h.rt (hr0.mono rfl) hr2.2 (by omega) (wq_nx hq1)) (by omega) hk
theorem tg_94 (hE : Env n k M0) (h : TX T n k bs M0 q C V op M) (hno : isG T n q 93 = false ∨ ∀ i, i < V.length → ¬ V.getD i 0 = 25) (hw1 : isW T n q w_and = false) (hw2 : isW T n q w_or = false) (hk : ∀ M1, TX T n k bs M0 q C V op M1 → M1 142 2 = (q.1 : Int) → ax_G L X SH 7 281 94 [(2, 142)] [] M1 (R1 0 (J49 L X Q))) : TG L X Q M := by
  refine tg_64 hE h hno hw1 (fun M h hat => ?_)
  have hF := h.fix hE
  have hqn := h.1.2.2.2.2.2.2.2
  have hq1 := hqn.1
  have hn := hE.1
  have hC := at281
  refine g3 hC rfl rfl ?_
  refine g3 hC rfl rfl ?_
  refine g19 hC rfl sh142 (flt12 rfl) ft12_93 (hF.g fx_142_93) ?_
  refine c1 hC rfl rfl rfl (Nat.le_of_ble_eq_true rfl) (Nat.le_of_ble_eq_true rfl) (mayR k161 rfl) (m161 hF hn h.1.1 hq1 (c := 212) (w := w_or) sh212 (wa212 (h.wd hE)) (by decide)) (Nat.le_of_ble_eq_true rfl) (fun x M2 hr => ?_)
  obtain ⟨hr0, hr1⟩ := hr; have hr2 : x = 0 ∧ RT T n q M2 ∧ M2 142 2 = (q.1 : Int) := by { rcases hr1 with y | y; rw [hw2] at y; cases y.1; exact y.2 }
  refine g12e hC rfl (fun h68 => ?_) (fun h68 => (by omega))
  exact hk _ (h.rt (hr0.mono rfl) hr2.2.1 (Nat.le_refl _) hqn) hr2.2.2
theorem tg_fail (hE : Env n k M0) (h : TX T n k bs M0 q C (V ++ [25] ++ tl) op M) (hg : isG T n q 93 = false) (hw1 : isW T n q w_and = false) (hw2 : isW T n q w_or = false) (hf : TF L X Q M0 1 (q.1 : Int)) : TG L X Q M := by
  refine tg_94 hE h (Or.inl hg) hw1 hw2 (fun M h hat => ?_)
  have hF := h.fix hE
  have hq1 := h.1.2.2.2.2.2.2.2.1
  have hl := h.1.2.2.2.2.2.2.1
  have hn := hE.1
  have hC := at281
  refine g3 hC rfl rfl ?_
  refine g19 hC rfl sh142 (flt12 rfl) ft12_5 h.1.1.2.2.2.2.1 ?_
  refine g12n hC rfl (fun h96 => (by omega)) (fun h96 => ?_)
  refine g3 hC rfl rfl ?_
  refine c1 hC rfl rfl rfl (Nat.le_of_ble_eq_true rfl) (Nat.le_of_ble_eq_true rfl) (mayR k278 rfl) (m278 h.1.2.2.1 (by omega) hF) (Nat.le_of_ble_eq_true rfl) (fun x MX hr => ?_)
  obtain ⟨hx, hr⟩ := hr; replace hr := hr.symm; subst hr
  refine g12e hC rfl (fun h99 => (by { rcases hx with z | z; omega; obtain ⟨i, hi, e⟩ := sq_in (V := V) (tl := tl); exact absurd e (z.1 i hi) })) (fun h99 => ?_)
  refine g3 hC rfl rfl ?_
  refine g0 hC rfl ?_
  refine g3 hC rfl rfl ?_
  refine g19 hC rfl sh142 (flt12 rfl) ft12_2 hat ?_
  refine c0 hC rfl rfl rfl (Nat.le_of_ble_eq_true rfl) (Nat.le_of_ble_eq_true rfl) (mayR k156 rfl) (m156 h.1.1.2.2.2.2.1) (Nat.le_of_ble_eq_true rfl) (fun M2 hr => ?_)
  replace hr := hr.symm; subst hr
  refine g0 hC rfl ?_
  refine ret3 hC rfl ⟨by omega, by omega⟩ ?_
  have hbt : BT 1 (q.1 : Int) (ax_up (ax_up M 142 5 1) 142 6 (q.1 : Int)) := ⟨BF.up, by decide⟩
  exact j49_0 (j55_f hbt (hf _ hbt (h.2.1.trans ((Sb.refl.up rfl).up rfl))))
theorem tg_exit (hE : Env n k M0) (h : TX T n k bs M0 q C tl op M) (ha : anor tl) (hw1 : isW T n q w_and = false) (hw2 : isW T n q w_or = false) (hk : ∀ M1, TX T n k bs M0 q (C ++ tl.reverse) [] op M1 → Q M1) : TG L X Q M := by
  have hns := anor_no ha
  refine tg_94 hE h (Or.inr hns) hw1 hw2 (fun M h hat => ?_)
  have hF := h.fix hE
  have hq1 := h.1.2.2.2.2.2.2.2.1
  have hl := h.1.2.2.2.2.2.2.1
  have hn := hE.1
  have hC := at281
  refine g3 hC rfl rfl ?_
  refine g19 hC rfl sh142 (flt12 rfl) ft12_5 h.1.1.2.2.2.2.1 ?_
  refine g12n hC rfl (fun h96 => (by omega)) (fun h96 => ?_)
  refine g3 hC rfl rfl ?_
  refine c1 hC rfl rfl rfl (Nat.le_of_ble_eq_true rfl) (Nat.le_of_ble_eq_true rfl) (mayR k278 rfl) (m278 h.1.2.2.1 (by omega) hF) (Nat.le_of_ble_eq_true rfl) (fun x MX hr => ?_)
  obtain ⟨hx, hr⟩ := hr; replace hr := hr.symm; subst hr
  refine g12e hC rfl (fun h99 => ?_) (fun h99 => (by { rcases hx with z | z; obtain ⟨⟨i, hi, e⟩, _⟩ := z; exact absurd e (hns i hi); omega }))
  refine g0 hC rfl ?_
  refine ret3 hC rfl ⟨by omega, by omega⟩ ?_
  exact j49_0 (j55_x hE tl.length tl C M rfl h hk)
def TFr (L : Nat) (X : Nat → Int) (Q : ax_M → Prop) (M0 : ax_M) (r : PRs) : Prop := ∀ f p, r = .inl (f, p) → TF L X Q M0 f p
def FcOK (L : Nat) (X : Nat → Int) (T : Nat → Int) (n k bs : Nat) (M0 : ax_M) (Q : ax_M → Prop) (op : Nat) (F : PS → PRs) : Prop := ∀ q C V M, TX T n k bs M0 q C V op M → TFr L X Q M0 (F q) → (∀ q' c, F q = .inr (q', c) → ∀ M1, TX T n k bs M0 q' (C ++ c) V op M1 → TN L X Q M1) → TP L X Q M
def TC (V : List Int) : Prop := V = [] ∨ ∃ V0, V = V0 ++ [25]
def isPo (po : List Int) : Prop := po = [] ∨ po = [11]
def isAn (pa : List Int) : Prop := pa = [] ∨ pa = [10]
def BoOK (L : Nat) (X : Nat → Int) (T : Nat → Int) (n k bs : Nat) (M0 : ax_M) (Q : ax_M → Prop) (op : Nat) (F : PS → PRs) : Prop := ∀ q C V po M, TC V → isPo po → TX T n k bs M0 q C (V ++ po) op M → TFr L X Q M0 (F q) → (∀ q' c, F q = .inr (q', c) → ∀ pa cA M1, isAn pa → c = cA ++ pa → TX T n k bs M0 q' (C ++ cA) (V ++ po ++ pa) op M1 → isW T n q' w_and = false → TG L X Q M1) → TP L X Q M
def TsOK (L : Nat) (X : Nat → Int) (T : Nat → Int) (n k bs : Nat) (M0 : ax_M) (Q : ax_M → Prop) (op : Nat) (F : PS → PRs) : Prop := ∀ q C V M, TC V → TX T n k bs M0 q C V op M → TFr L X Q M0 (F q) → (∀ q' c, F q = .inr (q', c) → ∀ tl cA M1, anor tl → c = cA ++ tl.reverse → TX T n k bs M0 q' (C ++ cA) (V ++ tl) op M1 → isW T n q' w_and = false → isW T n q' w_or = false → TG L X Q M1) → TP L X Q M
theorem tc_top (h : TC V) : ¬ top V = 10 ∧ ¬ top V = 11 ∧ ¬ top V = 12 := by
  rcases h with rfl | ⟨V0, rfl⟩
  · decide
  · rw [top_s]; decide
theorem tc_po {po : List Int} (h : TC V) (hp : isPo po) : ¬ top (V ++ po) = 10 ∧ ¬ top (V ++ po) = 12 := by
  rcases hp with rfl | rfl
  · rw [List.append_nil]; have := tc_top h; exact ⟨this.1, this.2.2⟩
  · rw [top_s]; decide
theorem over_W {w : List Int} (h : n ≤ q.1) : isW T n q w = false := by
  cases e : isW T n q w with
  | false => rfl
  | true => have := isW_lt e; omega
theorem noW {w : List Int} (h : ¬ isW T n q w = true) : isW T n q w = false := by
  cases e : isW T n q w with
  | false => rfl
  | true => exact absurd e h
theorem anor_p {po pa : List Int} (h1 : isPo po) (h2 : isAn pa) : anor (po ++ pa) := by
  unfold anor
  rcases h1 with rfl | rfl <;> rcases h2 with rfl | rfl <;> decide
theorem rev_t {po pa : List Int} (h1 : isPo po) (h2 : isAn pa) : (po ++ pa).reverse = pa ++ po := by
  rcases h1 with rfl | rfl <;> rcases h2 with rfl | rfl <;> rfl
theorem boOK {F : PS → PRs} (hE : Env n k M0) (hF : FcOK L X T n k bs M0 Q op F) (gF : GoodF T n F) : BoOK L X T n k bs M0 Q op (bothF T n F) := by
  intro q C V po M hc ho h hfl hok
  obtain ⟨ht10, ht12⟩ := tc_po hc ho
  have lp : ∀ (f : Nat) (q1 : PS) (acc pa cA : List Int) (M1 : ax_M), n - q1.1 ≤ f → isAn pa → acc = cA ++ pa → TX T n k bs M0 q1 (C ++ cA) (V ++ po ++ pa) op M1 → TFr L X Q M0 (wlF T n w_and 10 F f q1 acc) → (∀ q' c, wlF T n w_and 10 F f q1 acc = .inr (q', c) → ∀ pa cA M1, isAn pa → c = cA ++ pa → TX T n k bs M0 q' (C ++ cA) (V ++ po ++ pa) op M1 → isW T n q' w_and = false → TG L X Q M1) → TG L X Q M1 := by
    intro f
    induction f with
    | zero =>
      intro q1 acc pa cA M1 hf ha hacc h1 _ hk
      exact hk q1 acc rfl pa cA M1 ha hacc h1 (over_W (by omega))
    | succ f ih =>
      intro q1 acc pa cA M1 hf ha hacc h1 hfl hk
      have eo : wlF T n w_and 10 F (f + 1) q1 acc = if isW T n q1 w_and = true then thn (F (nx T n q1)) (fun q2 c1 => wlF T n w_and 10 F f q2 (acc ++ c1 ++ [10])) else .inr (q1, acc) := rfl
      by_cases hg : isW T n q1 w_and = true
      · rw [if_pos hg] at eo
        have hlt := isW_lt hg
        have g1 := nx_gt (T := T) hlt
        have w1 := wq_nx (T := T) (n := n) (q := q1) (Nat.le_of_lt hlt)
        refine tg_and hE h1 ha ht10 hg (fun M2 h2 => ?_)
        rw [List.append_assoc, ← hacc] at h2
        refine hF _ _ _ M2 h2 (fun f' p e => hfl f' p (by rw [eo, thn_l e])) (fun q2 c2 e M3 h3 => ?_)
        have gg := gF _ w1.1 q2 c2 e
        rw [thn_r e] at eo
        refine tn_go hE h3 (by rw [top_s]; decide) ?_
        exact ih q2 (acc ++ c2 ++ [10]) [10] (acc ++ c2) M3 (by omega) (Or.inr rfl) rfl (by rw [← List.append_assoc]; exact h3) (by rw [← eo]; exact hfl) (by rw [← eo]; exact hk)
      · rw [if_neg hg] at eo
        exact hk q1 acc eo pa cA M1 ha hacc h1 (noW hg)
  have ep : bothF T n F q = thn (F q) (fun q1 c => wlF T n w_and 10 F 1600 q1 c) := rfl
  refine hF q C _ M h (fun f p e => hfl f p (by rw [ep, thn_l e])) (fun q1 c1 e M1 h1 => ?_)
  rw [thn_r e] at ep
  refine tn_go hE h1 ht12 ?_
  exact lp 1600 q1 c1 [] c1 M1 (by have := hE.1; omega) (Or.inl rfl) (List.append_nil _).symm (by rw [List.append_nil]; exact h1) (by rw [← ep]; exact hfl) (by rw [← ep]; exact hok)
theorem tsOK {F : PS → PRs} (hE : Env n k M0) (hF : BoOK L X T n k bs M0 Q op F) (gF : GoodF T n F) : TsOK L X T n k bs M0 Q op (fun q => thn (F q) (fun q1 c => wlF T n w_or 11 F 1600 q1 c)) := by
  intro q C V M hc h hfl hok
  have ht := tc_top hc
  have lp : ∀ (f : Nat) (q1 : PS) (acc tl cA : List Int) (M1 : ax_M), n - q1.1 ≤ f → anor tl → acc = cA ++ tl.reverse → TX T n k bs M0 q1 (C ++ cA) (V ++ tl) op M1 → isW T n q1 w_and = false → TFr L X Q M0 (wlF T n w_or 11 F f q1 acc) → (∀ q' c, wlF T n w_or 11 F f q1 acc = .inr (q', c) → ∀ tl cA M1, anor tl → c = cA ++ tl.reverse → TX T n k bs M0 q' (C ++ cA) (V ++ tl) op M1 → isW T n q' w_and = false → isW T n q' w_or = false → TG L X Q M1) → TG L X Q M1 := by
    intro f
    induction f with
    | zero =>
      intro q1 acc tl cA M1 hf ha hacc h1 hna _ hk
      exact hk q1 acc rfl tl cA M1 ha hacc h1 hna (over_W (by omega))
    | succ f ih =>
      intro q1 acc tl cA M1 hf ha hacc h1 hna hfl hk
      have eo : wlF T n w_or 11 F (f + 1) q1 acc = if isW T n q1 w_or = true then thn (F (nx T n q1)) (fun q2 c1 => wlF T n w_or 11 F f q2 (acc ++ c1 ++ [11])) else .inr (q1, acc) := rfl
      by_cases hg : isW T n q1 w_or = true
      · rw [if_pos hg] at eo
        have hlt := isW_lt hg
        have g1 := nx_gt (T := T) hlt
        have w1 := wq_nx (T := T) (n := n) (q := q1) (Nat.le_of_lt hlt)
        refine tg_or hE h1 ha ⟨ht.1, ht.2.1⟩ hg (fun M2 h2 => ?_)
        rw [List.append_assoc, ← hacc] at h2
        refine hF _ _ _ [11] M2 hc (Or.inr rfl) h2 (fun f' p e => hfl f' p (by rw [eo, thn_l e])) (fun q2 c2 e pa cB M3 hpa hc2 h3 hna2 => ?_)
        have gg := gF _ w1.1 q2 c2 e
        rw [thn_r e] at eo
        refine ih q2 (acc ++ c2 ++ [11]) ([11] ++ pa) (acc ++ cB) M3 (by omega) (anor_p (Or.inr rfl) hpa) ?_ (by rw [← List.append_assoc, ← List.append_assoc]; exact h3) hna2 (by rw [← eo]; exact hfl) (by rw [← eo]; exact hk)
        rw [rev_t (Or.inr rfl) hpa, hc2, ← List.append_assoc, ← List.append_assoc]
      · rw [if_neg hg] at eo
        exact hk q1 acc eo tl cA M1 ha hacc h1 hna (noW hg)
  refine hF q C V [] M hc (Or.inl rfl) (by rw [List.append_nil]; exact h) (fun f p e => hfl f p (thn_l e)) (fun q1 c1 e pa cB M1 hpa hc1 h1 hna => ?_)
  rw [List.append_nil] at h1
  have hr : pa.reverse = pa := by rcases hpa with rfl | rfl <;> rfl
  have e2 : thn (F q) (fun q1 c => wlF T n w_or 11 F 1600 q1 c) = wlF T n w_or 11 F 1600 q1 c1 := thn_r e
  exact lp 1600 q1 c1 pa cB M1 (by have := hE.1; omega) (by have := anor_p (Or.inl rfl) hpa; exact this) (by rw [hr]; exact hc1) h1 hna (by rw [← e2]; exact hfl) (by rw [← e2]; exact hok)
theorem fcOK {opn : Bool} {tst fct : PS → PRs} (hE : Env n k M0) (ho : opn = true ↔ op < 6) (hs : op < 6 → TsOK L X T n k bs M0 Q (op + 1) tst) (hp : op < 6 → FcOK L X T n k bs M0 Q (op + 1) fct) : FcOK L X T n k bs M0 Q op (factF T n opn tst fct (smL T n k (6 - op))) := by
  intro q C V M h hfl hok
  have h26 := h.2.2.1
  have eP : factF T n opn tst fct (smL T n k (6 - op)) q = if isW T n q w_not = true then (if opn = true then thn (fct (nx T n q)) (fun q1 c => .inr (q1, c ++ [12])) else .inl (4, (q.1 : Int))) else if isG T n q 91 = true then (if opn = true then thn (tst (nx T n q)) (fun q1 c => tkS T n q1 93 c) else .inl (4, (q.1 : Int))) else cfF T n (smL T n k (6 - op)) q := rfl
  by_cases hnot : isW T n q w_not = true
  · rw [if_pos hnot] at eP
    refine tp_not hE h (wG hnot) hnot (fun z => hfl _ _ (by rw [eP, if_neg (fun y => by have := ho.1 y; omega)])) (fun z M1 h1 => ?_)
    rw [if_pos (ho.2 z)] at eP
    refine hp z _ _ _ M1 h1 (fun f p e => hfl f p (by rw [eP, thn_l e])) (fun q1 c e M2 h2 => ?_)
    rw [thn_r e] at eP
    refine tn_not hE h2 (fun M3 h3 => hok _ _ eP M3 ?_)
    rw [← List.append_assoc]; exact h3
  rw [if_neg hnot] at eP
  by_cases hg : isG T n q 91 = true
  · rw [if_pos hg] at eP
    refine tp_sq hE h hg (fun z => hfl _ _ (by rw [eP, if_neg (fun y => by have := ho.1 y; omega)])) (fun z M1 h1 => ?_)
    rw [if_pos (ho.2 z)] at eP
    refine hs z _ _ _ M1 (Or.inr ⟨V, rfl⟩) h1 (fun f p e => hfl f p (by rw [eP, thn_l e])) (fun q1 c e tl cA M2 ha hca h2 hna hno => ?_)
    rw [thn_r e] at eP
    rcases tkS_c (T := T) (n := n) (q := q1) (s := 93) (c := c) with ⟨z1, e1⟩ | ⟨z1, e1⟩
    · refine tg_close hE h2 ha z1 (fun M3 h3 => hok _ _ (eP.trans e1) M3 ?_)
      rw [List.append_assoc, ← hca] at h3; exact h3
    · exact tg_fail hE h2 z1 hna hno (hfl _ _ (eP.trans e1))
  rw [if_neg hg] at eP
  have hg0 : isG T n q 91 = false := by cases e : isG T n q 91 with | false => rfl | true => exact absurd e hg
  exact tp_fact hE h hg0 (noW hnot) (fun f p e => hfl f p (eP.trans e)) (fun q' c e M1 h1 => hok q' c (eP.trans e) M1 h1)
theorem fcAll (hE : Env n k M0) : ∀ r, r ≤ 6 → FcOK L X T n k bs M0 Q (6 - r) (fcL T n k r)
  | 0, _ => fcOK (op := 6) (tst := fun _ => .inl (0, 0)) (fct := fun _ => .inl (0, 0)) hE ⟨fun z => (by cases z), fun z => absurd z (Nat.lt_irrefl 6)⟩ (fun z => absurd z (Nat.lt_irrefl 6)) (fun z => absurd z (Nat.lt_irrefl 6))
  | r + 1, h => by
    have h1 := fcAll hE r (by omega)
    have h2 := boOK hE h1 (good_fc r)
    have h3 := tsOK hE h2 (good_both (good_fc r))
    have e6 : 6 - (6 - (r + 1)) = r + 1 := by omega
    have key := fcOK (L := L) (X := X) (T := T) (bs := bs) (Q := Q) (op := 6 - (r + 1)) (opn := true) (tst := testF T n (fcL T n k r)) (fct := fcL T n k r) hE ⟨fun _ => by omega, fun _ => rfl⟩ (fun _ => by rw [show 6 - (r + 1) + 1 = 6 - r by omega]; exact h3) (fun _ => by rw [show 6 - (r + 1) + 1 = 6 - r by omega]; exact h1)
    rw [e6] at key
    exact key
theorem m280 {M : ax_M} (hE : Env n k M) (h : RSt T n k q C [] 0 bs M) : ax_Ev L X SH 8 280 [(2, 142)] M (R0 (fun M' => Sb XFO M M' ∧ ((∃ f p, tsL T n k 6 q = .inl (f, p) ∧ BT f p M') ∨ ∃ q' c, tsL T n k 6 q = .inr (q', c) ∧ RSt T n k q' (C ++ c) [] 0 bs M'))) := by
  show ax_G L X SH 8 280 0 [(2, 142), (3, 0), (3, 0)] [] M _
  obtain ⟨P, hP⟩ : ∃ P, P = fun (M' : ax_M) => Sb XFO M M' ∧ ((∃ f p, tsL T n k 6 q = .inl (f, p) ∧ BT f p M') ∨ ∃ q' c, tsL T n k 6 q = .inr (q', c) ∧ RSt T n k q' (C ++ c) [] 0 bs M') := ⟨_, rfl⟩
  rw [← hP]
  have hC := at280
  have htx : TX T n k bs M q C [] 0 M := ⟨h, Sb.refl, Nat.zero_le _, fun t ht => by cases ht⟩
  have htp : TP L X P M := by
    have h1 := fcAll (L := L) (X := X) (T := T) (bs := bs) (Q := P) hE 6 (Nat.le_refl _)
    have h3 := tsOK hE (boOK hE h1 (good_fc 6)) (good_both (good_fc 6))
    refine h3 q C [] M (Or.inl rfl) htx (fun f p e M1 hb hS => ?_) (fun q' c e tl cA M1 ha hca h4 hna hno => ?_)
    · rw [hP]; exact ⟨hS, Or.inl ⟨f, p, e, hb⟩⟩
    · refine tg_exit hE h4 ha hna hno (fun M2 h5 => ?_)
      rw [List.nil_append, List.append_assoc, ← hca] at h5
      rw [hP]
      exact ⟨h5.2.1, Or.inr ⟨q', c, e, h5.1⟩⟩
  refine g0 hC rfl ?_
  refine s1 hC rfl rfl rfl ?_
  exact htp _
end TSN
