def anor (tl : List Int) : Prop := ∀ t ∈ tl, t = 10 ∨ t = 11
section TSM
variable {L : Nat} {X : Nat → Int} {M M1 M0 : ax_M} {T : Nat → Int} {n k op bs : Nat} {q q' : PS} {C C' V V' tl : List Int} {Q : ax_M → Prop}
theorem m279b (hb1 : ¬ M 142 5 = 0) : ax_Ev L X SH 0 279 [(2, 142)] M (R0 (fun M' => M' = M)) := by
  show ax_G L X SH 0 279 0 [(2, 142)] [] M _
  have hC := at279
  refine g3 hC rfl rfl ?_
  refine g19 hC rfl sh142 (flt12 rfl) ft12_5 (Eq.refl (M 142 5)) ?_
  refine g12n hC rfl (fun h2 => ?_) (fun h2 => (by omega))
  refine ret0 hC rfl ?_
  rfl
theorem TX.push {v : Int} (h : TX T n k bs M0 q C V op M) (hS : Sb XOP M M1) (hy : RY M1 (V ++ [v])) (ho : M1 142 113 = ((op + 1 : Nat) : Int)) {M2 : ax_M} (hs : Sb XAK M1 M2) (hr : RT T n q' M2) (hl : q.1 < q'.1) (hw : wq T n q') (h6 : op < 6) (hv : 10 ≤ v) : TX T n k bs M0 q' C (V ++ [v]) (op + 1) M2 := by
  have hl2 := h.1.2.2.2.2.2.2.1
  refine h.nx (Wx := ([(229, 230)], [(142, 2), (142, 4), (142, 5), (142, 6), (142, 112), (142, 113)])) ((hS.mono rfl).then hs rfl) rfl rfl hr ((h.1.2.1.sb hS rfl (fun _ => rfl)).sb hs rfl (fun _ => rfl)) (hy.sb hs rfl (fun _ => rfl)) ((hs _ _ rfl).trans ho) (by rw [len1]; omega) hw h6 (fun t ht => ?_)
  rcases List.mem_append.mp ht with y | y
  · exact h.2.2.2 t y
  · have : t = v := by simpa using y
    omega
theorem tp_sq (hE : Env n k M0) (h : TX T n k bs M0 q C V op M) (hg : isG T n q 91 = true) (hsix : op = 6 → TF L X Q M0 4 (q.1 : Int)) (hk : op < 6 → ∀ M1, TX T n k bs M0 (nx T n q) C (V ++ [25]) (op + 1) M1 → TP L X Q M1) : TP L X Q M := by
  intro v2
  have hF := h.fix hE
  have hlen := h.1.2.2.2.2.2.2.1
  have hqn := h.1.2.2.2.2.2.2.2
  have hq1 := hqn.1
  have hn := hE.1
  have h26 := h.2.2.1
  have hlk := (lkG (T := T) (n := n) (q := q) sg91).2 hg
  have hlt := isG_lt hg
  have g1 := nx_gt (T := T) hlt
  have hC := at280
  refine g3 hC rfl rfl ?_
  refine g12e hC rfl (fun h3 => (by omega)) (fun h3 => ?_)
  refine g3 hC rfl rfl ?_
  refine g19 hC rfl sh142 (flt12 rfl) ft12_5 h.1.1.2.2.2.2.1 ?_
  refine g12n hC rfl (fun h6 => (by omega)) (fun h6 => ?_)
  refine g3 hC rfl rfl ?_
  refine c1 hC rfl rfl rfl (Nat.le_of_ble_eq_true rfl) (Nat.le_of_ble_eq_true rfl) (mayR k159 rfl) (m159 hF hn h.1.1 hq1) (Nat.le_of_ble_eq_true rfl) (fun x M2 hr => ?_)
  obtain ⟨rfl, hr0, hat⟩ := hr; have h2 := h.lk hr0 hat
  refine s2 hC rfl rfl rfl ?_
  refine g3 hC rfl rfl ?_
  refine g0 hC rfl ?_
  refine g13n hC rfl (fun h12 => (by omega)) (fun h12 => ?_)
  refine g3 hC rfl rfl ?_
  refine g0 hC rfl ?_
  refine g3 hC rfl rfl ?_
  refine g19 hC rfl sh142 (flt12 rfl) ft12_2 hat ?_
  refine c0 hC rfl rfl rfl (Nat.le_of_ble_eq_true rfl) (Nat.le_of_ble_eq_true rfl) (mayR k264 rfl) (m264 h2.1.1.2.2.2.2.1 h2.1.2.2.1 (by omega) (h2.fix hE) h2.1.2.2.2.1 h26) (Nat.le_of_ble_eq_true rfl) (fun M3 hr => ?_)
  refine g3 hC rfl rfl ?_
  refine g16 hC rfl (by decide) ?_
  have e2 : M3 142 2 = (q.1 : Int) := by { rcases hr with y | y; rw [y.2, ax_up_of (by decide), ax_up_of (by decide)]; exact hat; exact (y.2.1 142 2 rfl).trans hat }
  refine g19 hC rfl sh142 (flt12 rfl) ft12_2 e2 ?_
  refine g0 hC rfl ?_
  refine g6a hC rfl ⟨by omega, by omega⟩ ?_
  refine g20 hC rfl sh142 (flt12 rfl) (by rw [fy12_2]; rfl) ?_
  refine g14 hC rfl ?_
  rcases hr with ⟨y1, y2⟩ | ⟨y1, y2, y3, y4⟩
  · have hbt : BT 4 (q.1 : Int) (ax_up M3 142 2 ((q.1 : Int) + 1)) := ⟨by rw [y2]; exact ⟨by rw [ax_up_of (by decide), ax_up_of (by decide), ax_up_at], by rw [ax_up_of (by decide), ax_up_at]⟩, by decide⟩
    exact tp_f hbt (hsix y1 _ hbt (h2.2.1.trans (by rw [y2]; exact ((Sb.refl.up rfl).up rfl).up rfl))) _
  · have hr3 : RT T n q M3 := h2.1.1.sb y2 rfl rfl rfl rfl rfl (fun _ => rfl)
    have hr4 : RT T n (nx T n q) (ax_up M3 142 2 ((q.1 : Int) + 1)) := hr3.sg (isG_kd3 hg) (Sb.refl.up rfl) (by rw [ax_up_at]; omega)
    exact hk y1 _ (h2.push y2 y3 y4 (Sb.refl.up rfl) hr4 (by omega) (wq_nx hq1) y1 (by decide)) _
theorem tp_25 (hE : Env n k M0) (h : TX T n k bs M0 q C V op M) (hg : isG T n q 91 = false) (kk : ∀ M1 v2, TX T n k bs M0 q C V op M1 → M1 142 2 = (q.1 : Int) → ax_G L X SH 8 280 25 [(2, 142), (0, 1), v2] [] M1 (R0 Q)) : TP L X Q M := by
  intro v2
  have hF := h.fix hE
  have hq1 := h.1.2.2.2.2.2.2.2.1
  have hn := hE.1
  have hlk : ¬ lk T n q = 91 := fun z => by rw [(lkG sg91).1 z] at hg; cases hg
  have hC := at280
  refine g3 hC rfl rfl ?_
  refine g12e hC rfl (fun h3 => (by omega)) (fun h3 => ?_)
  refine g3 hC rfl rfl ?_
  refine g19 hC rfl sh142 (flt12 rfl) ft12_5 h.1.1.2.2.2.2.1 ?_
  refine g12n hC rfl (fun h6 => (by omega)) (fun h6 => ?_)
  refine g3 hC rfl rfl ?_
  refine c1 hC rfl rfl rfl (Nat.le_of_ble_eq_true rfl) (Nat.le_of_ble_eq_true rfl) (mayR k159 rfl) (m159 hF hn h.1.1 hq1) (Nat.le_of_ble_eq_true rfl) (fun x M2 hr => ?_)
  obtain ⟨rfl, hr0, hat⟩ := hr; have h2 := h.lk hr0 hat
  refine s2 hC rfl rfl rfl ?_
  refine g3 hC rfl rfl ?_
  refine g0 hC rfl ?_
  refine g13n hC rfl (fun h12 => ?_) (fun h12 => (by omega))
  exact kk _ _ h2 hat
theorem tp_not (hE : Env n k M0) (h : TX T n k bs M0 q C V op M) (hg : isG T n q 91 = false) (hw1 : isW T n q w_not = true) (hsix : op = 6 → TF L X Q M0 4 (q.1 : Int)) (hk : op < 6 → ∀ M1, TX T n k bs M0 (nx T n q) C (V ++ [12]) (op + 1) M1 → TP L X Q M1) : TP L X Q M := by
  refine tp_25 hE h hg (fun M v2 h hat => ?_)
  have hF := h.fix hE
  have hlen := h.1.2.2.2.2.2.2.1
  have hqn := h.1.2.2.2.2.2.2.2
  have hq1 := hqn.1
  have hn := hE.1
  have h26 := h.2.2.1
  have hlt := isW_lt hw1
  have g1 := nx_gt (T := T) hlt
  have hC := at280
  have asks : ∀ M M3, TX T n k bs M0 q C V op M → ((op = 6 ∧ M3 = ax_up (ax_up M 142 5 4) 142 6 (q.1 : Int)) ∨ (op < 6 ∧ Sb XOP M M3 ∧ RY M3 (V ++ [12]) ∧ M3 142 113 = ((op + 1 : Nat) : Int))) → ax_Ev L X SH 3 162 [(2, 142), (2, 210)] M3 (R0 (fun M4 => (op = 6 ∧ BT 4 (q.1 : Int) M4 ∧ Sb XFO M0 M4) ∨ (op < 6 ∧ TX T n k bs M0 (nx T n q) C (V ++ [12]) (op + 1) M4))) := by
    intro M M3 h hr
    have hF := h.fix hE
    rcases hr with ⟨y1, y2⟩ | ⟨y1, y2, y3, y4⟩
    · have hbt : BT 4 (q.1 : Int) M3 := ⟨by rw [y2]; exact BF.up, by decide⟩
      refine (m162b hbt.bad).imp (fun r M4 hp => ?_)
      obtain ⟨e, rfl⟩ := hp
      exact ⟨e, Or.inl ⟨y1, hbt, h.2.1.trans (by rw [y2]; exact (Sb.refl.up rfl).up rfl)⟩⟩
    · refine (m162 (y2.fix (by decide +kernel) hF) hn (h.1.1.sb y2 rfl rfl rfl rfl rfl (fun _ => rfl)) hq1 (c := 210) (w := w_not) sh210 (wa210 ((h.wd hE).sb y2 rfl)) (by decide)).imp (fun r M4 hp => ?_)
      obtain ⟨e, hs, hrr⟩ := hp
      unfold wdR at hrr
      rw [if_pos hw1] at hrr
      rcases hrr with ⟨f, p, e2, _⟩ | ⟨_, hrt, _⟩
      · cases e2
      · exact ⟨e, Or.inr ⟨y1, h.push y2 y3 y4 hs hrt (by omega) (wq_nx hq1) y1 (by decide)⟩⟩
  refine g3 hC rfl rfl ?_
  refine g3 hC rfl rfl ?_
  refine g19 hC rfl sh142 (flt12 rfl) ft12_91 (hF.g fx_142_91) ?_
  refine c1 hC rfl rfl rfl (Nat.le_of_ble_eq_true rfl) (Nat.le_of_ble_eq_true rfl) (mayR k160 rfl) (m160 hF hn h.1.1 hq1 (c := 210) (w := w_not) sh210 (wa210 (h.wd hE)) (by decide)) (Nat.le_of_ble_eq_true rfl) (fun x M2 hr => ?_)
  obtain ⟨hx, hr0, hr1⟩ := hr; have hx : x = 1 := by rw [hx, if_pos hw1]
  refine g12e hC rfl (fun h29 => (by omega)) (fun h29 => ?_)
  refine g3 hC rfl rfl ?_
  refine g0 hC rfl ?_
  refine g3 hC rfl rfl ?_
  refine g19 hC rfl sh142 (flt12 rfl) ft12_2 hr1 ?_
  have h2 := h.lk hr0 hr1
  refine c0 hC rfl rfl rfl (Nat.le_of_ble_eq_true rfl) (Nat.le_of_ble_eq_true rfl) (mayR k264 rfl) (m264 h2.1.1.2.2.2.2.1 h2.1.2.2.1 (by omega) (h2.fix hE) h2.1.2.2.2.1 h26) (Nat.le_of_ble_eq_true rfl) (fun M3 hr => ?_)
  have hF3 : Fix M3 := by { rcases hr with y | y; rw [y.2]; exact ((Sb.refl.up rfl).up rfl : Sb XAK M2 _).fix (by decide +kernel) (h2.fix hE); exact y.2.1.fix (by decide +kernel) (h2.fix hE) }
  refine g3 hC rfl rfl ?_
  refine g3 hC rfl rfl ?_
  refine g19 hC rfl sh142 (flt12 rfl) ft12_91 (hF3.g fx_142_91) ?_
  refine c0 hC rfl rfl rfl (Nat.le_of_ble_eq_true rfl) (Nat.le_of_ble_eq_true rfl) (mayR k162 rfl) (asks M2 M3 h2 hr) (Nat.le_of_ble_eq_true rfl) (fun M4 hr4 => ?_)
  refine g14 hC rfl ?_
  rcases hr4 with ⟨y1, y2, y3⟩ | ⟨y1, y2⟩
  · exact tp_f y2 (hsix y1 _ y2 y3) _
  · exact hk y1 _ y2 _
theorem tp_fact (hE : Env n k M0) (h : TX T n k bs M0 q C V op M) (hg : isG T n q 91 = false) (hw1 : isW T n q w_not = false) (hf : ∀ f p, cfF T n (smL T n k (6 - op)) q = .inl (f, p) → TF L X Q M0 f p) (hk : ∀ q' c, cfF T n (smL T n k (6 - op)) q = .inr (q', c) → ∀ M1, TX T n k bs M0 q' (C ++ c) V op M1 → TN L X Q M1) : TP L X Q M := by
  refine tp_25 hE h hg (fun M v2 h hat => ?_)
  have hF := h.fix hE
  have hqn := h.1.2.2.2.2.2.2.2
  have hq1 := hqn.1
  have hn := hE.1
  have hC := at280
  refine g3 hC rfl rfl ?_
  refine g3 hC rfl rfl ?_
  refine g19 hC rfl sh142 (flt12 rfl) ft12_91 (hF.g fx_142_91) ?_
  refine c1 hC rfl rfl rfl (Nat.le_of_ble_eq_true rfl) (Nat.le_of_ble_eq_true rfl) (mayR k160 rfl) (m160 hF hn h.1.1 hq1 (c := 210) (w := w_not) sh210 (wa210 (h.wd hE)) (by decide)) (Nat.le_of_ble_eq_true rfl) (fun x M2 hr => ?_)
  obtain ⟨hx, hr0, hr1⟩ := hr; have hx : x = 0 := by { rw [hx, hw1]; rfl }
  have h2 := h.lk hr0 hr1
  refine g12e hC rfl (fun h29 => ?_) (fun h29 => (by omega))
  refine g3 hC rfl rfl ?_
  refine c0 hC rfl rfl rfl (Nat.le_of_ble_eq_true rfl) (Nat.le_of_ble_eq_true rfl) (mayR k277 rfl) (m277 hE h2) (Nat.le_of_ble_eq_true rfl) (fun M3 hr => ?_)
  refine g3 hC rfl rfl ?_
  rcases hr with ⟨f, p, e, hb, hs⟩ | ⟨q', c, e, h3⟩
  · refine c0 hC rfl rfl rfl (Nat.le_of_ble_eq_true rfl) (Nat.le_of_ble_eq_true rfl) (mayR k279 rfl) (m279b hb.bad) (Nat.le_of_ble_eq_true rfl) (fun M4 hr => ?_)
    replace hr := hr.symm
    subst hr
    exact j44_f hb (hf f p e _ hb hs) _
  · exact c0 hC rfl rfl rfl (Nat.le_of_ble_eq_true rfl) (Nat.le_of_ble_eq_true rfl) (mayR k279 rfl) (show ax_Ev L X SH 4 279 [(2, 142)] M3 (R0 (J44 L X Q)) from (hk q' c e M3 h3).1) (Nat.le_of_ble_eq_true rfl) (fun M4 hr => hr _)
theorem m278 {Y : List Int} (hy : RY M Y) (hl : Y.length ≤ 1700) (hF : Fix M) : ax_Ev L X SH 0 278 [(2, 142)] M (R1 0 (fun x M' => ((∃ i, i < Y.length ∧ Y.getD i 0 = 25) ∧ x = 1 ∨ (∀ i, i < Y.length → ¬ Y.getD i 0 = 25) ∧ x = 0) ∧ M' = M)) := by
  show ax_G L X SH 0 278 0 [(2, 142), (3, 0)] [] M _
  have hC := at278
  have hS : Sb XOP M M := Sb.refl
  have hw : wok XOP = true := by decide +kernel
  have l1 : ∀ (mm i : Nat), i + mm = Y.length → ∀ ll M2, (ll = [(2, 142), (0, (i : Int))] ∧ M2 = M ∧ ∀ j, j < i → ¬ Y.getD j 0 = 25) → ax_G L X SH 0 278 2 ll [] M2 (R1 0 (fun x M' => ((∃ i, i < Y.length ∧ Y.getD i 0 = 25) ∧ x = 1 ∨ (∀ i, i < Y.length → ¬ Y.getD i 0 = 25) ∧ x = 0) ∧ M' = M)) := by
    refine lp ?_ ?_
    · rintro ll M2 ⟨rfl, rfl, hj⟩
      refine g3 hC rfl rfl ?_
      refine g3 hC rfl rfl ?_
      refine g19 hC rfl sh142 (flt12 rfl) ft12_112 hy.1 ?_
      refine g13g hC rfl (fun h5 => ?_) (fun h5 => (by omega))
      refine g0 hC rfl ?_
      refine ret3 hC rfl ⟨by omega, by omega⟩ ?_
      exact ⟨Or.inr ⟨hj, rfl⟩, rfl⟩
    · rintro i hi ll M2 ⟨rfl, rfl, hj⟩ hnext
      have ev := hy.2 i hi
      refine g3 hC rfl rfl ?_
      refine g3 hC rfl rfl ?_
      refine g19 hC rfl sh142 (flt12 rfl) ft12_112 hy.1 ?_
      refine g13g hC rfl (fun h5 => (by omega)) (fun h5 => ?_)
      refine g3 hC rfl rfl ?_
      refine g19 hC rfl sh142 (flt12 rfl) ft12_111 ((hS.fix hw hF).g fx_142_111) ?_
      refine g3 hC rfl rfl ?_
      refine r21 (i) hC rfl (by omega) sh229 (Or.inl rfl) (by omega) ev ?_
      refine g0 hC rfl ?_
      refine g13n hC rfl (fun h11 => ?_) (fun h11 => ?_)
      ·
        refine n1 hC rfl rfl ⟨by omega, by omega⟩ ?_
        refine g14 hC rfl ?_
        refine hnext _ _ ⟨rfl, rfl, fun j hj2 => ?_⟩
        by_cases z : j = i
        · rw [z]; exact h11
        · exact hj j (by omega)
      ·
        refine g0 hC rfl ?_
        refine ret3 hC rfl ⟨by omega, by omega⟩ ?_
        exact ⟨Or.inl ⟨⟨i, hi, by omega⟩, rfl⟩, rfl⟩
  refine g0 hC rfl ?_
  refine s1 hC rfl rfl rfl ?_
  exact l1 Y.length 0 (Nat.zero_add _) _ _ ⟨rfl, rfl, fun j hj => absurd hj (Nat.not_lt_zero j)⟩
theorem anor_no (h : anor tl) : ∀ i, i < tl.length → ¬ tl.getD i 0 = 25 := by
  intro i hi
  have e : tl.getD i 0 = tl[i] := by rw [List.getD_eq_getElem?_getD, List.getElem?_eq_getElem hi]; rfl
  rcases h _ (List.getElem_mem hi) with y | y <;> rw [e, y] <;> decide
theorem sq_in : ∃ i, i < (V ++ [25] ++ tl).length ∧ (V ++ [25] ++ tl).getD i 0 = 25 := ⟨V.length, by simp <;> omega, by rw [apl (by simp), apd2]⟩
theorem tg_38 (hE : Env n k M0) (h : TX T n k bs M0 q C V op M) (hno : isG T n q 93 = false ∨ ∀ i, i < V.length → ¬ V.getD i 0 = 25) (hk : ∀ M1, TX T n k bs M0 q C V op M1 → ax_G L X SH 7 281 38 [(2, 142)] [] M1 (R1 0 (J49 L X Q))) : TG L X Q M := by
  have hF := h.fix hE
  have hq1 := h.1.2.2.2.2.2.2.2.1
  have hl := h.1.2.2.2.2.2.2.1
  have hn := hE.1
  have hlk := lkG (T := T) (n := n) (q := q) sg93
  have hC := at281
  unfold TG
  refine g3 hC rfl rfl ?_
  refine g19 hC rfl sh142 (flt12 rfl) ft12_5 h.1.1.2.2.2.2.1 ?_
  refine g12n hC rfl (fun h2 => (by omega)) (fun h2 => ?_)
  refine g3 hC rfl rfl ?_
  refine c1 hC rfl rfl rfl (Nat.le_of_ble_eq_true rfl) (Nat.le_of_ble_eq_true rfl) (mayR k159 rfl) (m159 hF hn h.1.1 hq1) (Nat.le_of_ble_eq_true rfl) (fun x M2 hr => ?_)
  obtain ⟨rfl, hr0, hat⟩ := hr; have h2 := h.lk hr0 hat
  refine g0 hC rfl ?_
  refine g13n hC rfl (fun h6 => ?_) (fun h6 => ?_)
  ·
    exact hk _ h2
  ·
    refine g3 hC rfl rfl ?_
    refine c1 hC rfl rfl rfl (Nat.le_of_ble_eq_true rfl) (Nat.le_of_ble_eq_true rfl) (mayR k278 rfl) (m278 h2.1.2.2.1 (by omega) (h2.fix hE)) (Nat.le_of_ble_eq_true rfl) (fun x MX hr => ?_)
    obtain ⟨hx, hr⟩ := hr; replace hr := hr.symm; subst hr
    refine g12e hC rfl (fun h9 => ?_) (fun h9 => (by { rcases hno with y | y; rw [hlk.1 (by omega)] at y; cases y; rcases hx with z | z; obtain ⟨⟨i, hi, e⟩, _⟩ := z; exact absurd e (y i hi); omega }))
    exact hk _ h2
theorem l16 (hE : Env n k M0) (hk : ∀ M1 C, TX T n k bs M0 q C (V ++ [25]) op M1 → C = C' → ax_G L X SH 7 281 23 [(2, 142)] [] M1 (R1 0 (J49 L X Q))) : ∀ (m : Nat) (tl C : List Int) (M : ax_M), tl.length = m → anor tl → C' = C ++ tl.reverse → TX T n k bs M0 q C (V ++ [25] ++ tl) op M → ax_G L X SH 7 281 16 [(2, 142)] [] M (R1 0 (J49 L X Q)) := by
  have hC := at281
  intro m
  induction m with
  | zero =>
    intro tl C M ht ha hc h
    have et : tl = [] := List.eq_nil_of_length_eq_zero ht
    subst et
    rw [List.append_nil] at h
    rw [List.reverse_nil, List.append_nil] at hc
    have htop : top (V ++ [25]) = 25 := top_s
    have hl := h.1.2.2.2.2.2.2.1
    have hq1 := h.1.2.2.2.2.2.2.2.1
    have hn := hE.1
    have hF := h.fix hE
    refine g3 hC rfl rfl ?_
    refine g0 hC rfl ?_
    refine c1 hC rfl rfl rfl (Nat.le_of_ble_eq_true rfl) (Nat.le_of_ble_eq_true rfl) (mayR k265 rfl) (m265t h.1.2.2.1 (by omega) hF (by decide)) (Nat.le_of_ble_eq_true rfl) (fun x MX hr => ?_)
    obtain ⟨hx, hr⟩ := hr; replace hr := hr.symm; subst hr
    refine g12n hC rfl (fun h19 => ?_) (fun h19 => (by omega))
    exact hk _ _ h hc.symm
  | succ m ih =>
    intro tl C M ht ha hc h
    obtain ⟨t0, t, et⟩ : ∃ t0 t, tl = t0 ++ [t] := ⟨tl.dropLast, tl.getLast (by intro z; rw [z] at ht; cases ht), (List.dropLast_concat_getLast _).symm⟩
    subst et
    rw [len1] at ht
    rw [← List.append_assoc] at h
    have htop : top (V ++ [25] ++ t0 ++ [t]) = t := top_s
    have hta := ha t (by simp)
    have hl := h.1.2.2.2.2.2.2.1
    rw [len1] at hl
    have hq1 := h.1.2.2.2.2.2.2.2.1
    have hn := hE.1
    have hF := h.fix hE
    have hy := h.1.2.2.1
    refine g3 hC rfl rfl ?_
    refine g0 hC rfl ?_
    refine c1 hC rfl rfl rfl (Nat.le_of_ble_eq_true rfl) (Nat.le_of_ble_eq_true rfl) (mayR k265 rfl) (m265t hy (by rw [len1]; omega) hF (by decide)) (Nat.le_of_ble_eq_true rfl) (fun x MX hr => ?_)
    obtain ⟨hx, hr⟩ := hr; replace hr := hr.symm; subst hr
    refine g12n hC rfl (fun h19 => (by omega)) (fun h19 => ?_)
    refine g3 hC rfl rfl ?_
    refine c0 hC rfl rfl rfl (Nat.le_of_ble_eq_true rfl) (Nat.le_of_ble_eq_true rfl) (mayR k266 rfl) (m266 hy (by omega) h.1.2.1 (by omega) hF) (Nat.le_of_ble_eq_true rfl) (fun M2 hr => ?_)
    refine g14 hC rfl ?_
    refine ih t0 (C ++ [t]) M2 (by omega) (fun x hx => ha x (by simp [hx])) ?_ (h.pop hr.1 hr.2.1 hr.2.2)
    rw [hc, List.reverse_append, List.append_assoc]; rfl
theorem tg_close (hE : Env n k M0) (h : TX T n k bs M0 q C (V ++ [25] ++ tl) (op + 1) M) (ha : anor tl) (hg : isG T n q 93 = true) (hk : ∀ M1, TX T n k bs M0 (nx T n q) (C ++ tl.reverse) V op M1 → TN L X Q M1) : TG L X Q M := by
  have hF := h.fix hE
  have hq1 := h.1.2.2.2.2.2.2.2.1
  have hl := h.1.2.2.2.2.2.2.1
  have hn := hE.1
  have hlk := (lkG (T := T) (n := n) (q := q) sg93).2 hg
  have g1 := nx_gt (T := T) (isG_lt hg)
  have h26 := h.2.2.1
  have hC := at281
  have hfin : ∀ M1 C1, TX T n k bs M0 (nx T n q) C1 (V ++ [25]) (op + 1) M1 → C1 = C ++ tl.reverse → ax_G L X SH 7 281 23 [(2, 142)] [] M1 (R1 0 (J49 L X Q)) := by
    intro M1 C1 h1 e1
    subst e1
    have hl1 := h1.1.2.2.2.2.2.2.1
    rw [len1] at hl1
    have e4 : M1 142 112 = ((V.length + 1 : Nat) : Int) := by rw [h1.1.2.2.1.1, len1]
    have hqn2 := h1.1.2.2.2.2.2.2.2.1
    refine g3 hC rfl rfl ?_
    refine g16 hC rfl (by decide) ?_
    refine g19 hC rfl sh142 (flt12 rfl) ft12_112 e4 ?_
    refine g0 hC rfl ?_
    refine g6s hC rfl ⟨by omega, by omega⟩ ?_
    refine g20 hC rfl sh142 (flt12 rfl) (by rw [fy12_112]; rfl) ?_
    refine g3 hC rfl rfl ?_
    refine g16 hC rfl (by decide) ?_
    refine g19 hC rfl sh142 (flt12 rfl) ft12_113 ((ax_up_of (by decide)).trans h1.1.2.2.2.1) ?_
    refine g0 hC rfl ?_
    refine g6s hC rfl ⟨by omega, by omega⟩ ?_
    refine g20 hC rfl sh142 (flt12 rfl) (by rw [fy12_113]; rfl) ?_
    have hS5 : Sb ([], [(142, 112), (142, 113)]) M1 (ax_up (ax_up M1 142 112 (((V.length + 1 : Nat) : Int) - 1)) 142 113 (((op + 1 : Nat) : Int) - 1)) := (Sb.refl.up rfl).up rfl
    have h5 : TX T n k bs M0 (nx T n q) (C ++ tl.reverse) V op (ax_up (ax_up M1 142 112 (((V.length + 1 : Nat) : Int) - 1)) 142 113 (((op + 1 : Nat) : Int) - 1)) := by
      refine h1.nx hS5 rfl rfl (h1.1.1.sb hS5 rfl rfl rfl rfl rfl (fun _ => rfl)) (h1.1.2.1.sb hS5 rfl (fun _ => rfl)) ?_ (by rw [ax_up_at]; omega) (by omega) h1.1.2.2.2.2.2.2.2 (by omega) (fun t ht => h1.2.2.2 t (by simp [ht]))
      refine h1.1.2.2.1.pop ?_ (fun i => ?_)
      · rw [ax_up_of (by decide), ax_up_at]; omega
      · rw [ax_up2n (by decide), ax_up2n (by decide)]
    refine g3 hC rfl rfl ?_
    exact c0 hC rfl rfl rfl (Nat.le_of_ble_eq_true rfl) (Nat.le_of_ble_eq_true rfl) (mayR k279 rfl) (show ax_Ev L X SH 4 279 [(2, 142)] _ _ from (hk _ h5).2) (Nat.le_of_ble_eq_true rfl) (fun M4 hr => hr)
  unfold TG
  refine g3 hC rfl rfl ?_
  refine g19 hC rfl sh142 (flt12 rfl) ft12_5 h.1.1.2.2.2.2.1 ?_
  refine g12n hC rfl (fun h2 => (by omega)) (fun h2 => ?_)
  refine g3 hC rfl rfl ?_
  refine c1 hC rfl rfl rfl (Nat.le_of_ble_eq_true rfl) (Nat.le_of_ble_eq_true rfl) (mayR k159 rfl) (m159 hF hn h.1.1 hq1) (Nat.le_of_ble_eq_true rfl) (fun x M2 hr => ?_)
  obtain ⟨rfl, hr0, hat⟩ := hr; have h2 := h.lk hr0 hat
  refine g0 hC rfl ?_
  refine g13n hC rfl (fun h6 => (by omega)) (fun h6 => ?_)
  refine g3 hC rfl rfl ?_
  refine c1 hC rfl rfl rfl (Nat.le_of_ble_eq_true rfl) (Nat.le_of_ble_eq_true rfl) (mayR k278 rfl) (m278 h2.1.2.2.1 (by omega) (h2.fix hE)) (Nat.le_of_ble_eq_true rfl) (fun x MX hr => ?_)
  obtain ⟨hx, hr⟩ := hr; replace hr := hr.symm; subst hr
  refine g12e hC rfl (fun h9 => (by { rcases hx with z | z; omega; obtain ⟨i, hi, e⟩ := sq_in (V := V) (tl := tl); exact absurd e (z.1 i hi) })) (fun h9 => ?_)
  refine g3 hC rfl rfl ?_
  refine g16 hC rfl (by decide) ?_
  refine g19 hC rfl sh142 (flt12 rfl) ft12_2 hat ?_
  refine g0 hC rfl ?_
  refine g6a hC rfl ⟨by omega, by omega⟩ ?_
  refine g20 hC rfl sh142 (flt12 rfl) (by rw [fy12_2]; rfl) ?_
  have hr4 : RT T n (nx T n q) (ax_up M2 142 2 ((q.1 : Int) + 1)) := h2.1.1.sg (isG_kd3 hg) (Sb.refl.up rfl) (by rw [ax_up_at]; omega)
  have h4 := h2.rt (Sb.refl.up rfl) hr4 (by omega) (wq_nx hq1)
  exact l16 hE hfin tl.length tl C _ rfl ha rfl h4
theorem TX.psh {v : Int} (h : TX T n k bs M0 q C V op M) (hl : C.length + V.length + 1 ≤ q.1) (hv : 10 ≤ v) : TX T n k bs M0 q C (V ++ [v]) op (ax_up (ax_up M 229 V.length v) 142 112 ((V.length : Int) + 1)) := by
  have hS : Sb ([(229, 230)], [(142, 112)]) M (ax_up (ax_up M 229 V.length v) 142 112 ((V.length : Int) + 1)) := (Sb.refl.up rfl).up rfl
  refine h.nx hS rfl rfl (h.1.1.sb hS rfl rfl rfl rfl rfl (fun _ => rfl)) (h.1.2.1.sb hS rfl (fun _ => rfl)) ?_ ?_ (by rw [len1]; omega) h.1.2.2.2.2.2.2.2 h.2.2.1 (fun t ht => ?_)
  · refine h.1.2.2.1.push ax_up_at (fun i => ?_)
    rw [ax_up2n (by decide), ax_upf]; rfl
  · rw [ax_up_of (by decide), ax_up2n (by decide)]; exact h.1.2.2.2.1
  · rcases List.mem_append.mp ht with y | y
    · exact h.2.2.2 t y
    · have : t = v := by simpa using y
      omega
end TSM
