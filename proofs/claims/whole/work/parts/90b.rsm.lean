def XHP : ax_W := ([(176, 185), (228, 230)], [(142, 2), (142, 4), (142, 5), (142, 6), (142, 41), (142, 51), (142, 52), (142, 53), (142, 110), (142, 112), (142, 113), (142, 114)])
def KY (M M' : ax_M) : Prop := Sb XHP M M' ∧ KH M M'
theorem rTK : rok XTK := rokB (by decide +kernel)
theorem wXHP : wok XHP = true := by decide +kernel
theorem KX.ky {M M' : ax_M} (h : KX M M') : KY M M' := ⟨h.1.mono rfl, h.2⟩
section RSM
variable {L : Nat} {X : Nat → Int} {M M1 : ax_M} {n l c : Nat} {s : HS} {T : Nat → Int} {q : PS}
theorem KX.tr {M2 : ax_M} (h : KX M M1) (h' : KX M1 M2) : KX M M2 := ⟨h.1.trans h'.1, h.2.trans h'.2⟩
theorem RPo.tr {F : SRs} {M' : ax_M} (h : KX M M1) (h' : RPo T n F M1 M') : RPo T n F M M' := ⟨h.tr h'.1, h'.2⟩
def RSo (T : Nat → Int) (n c : Nat) (F : SRs) (M M' : ax_M) : Prop := KY M M' ∧ M' 142 52 = ((c + 1 : Nat) : Int) ∧ ((∃ f p, f ≠ 0 ∧ BF f p M' ∧ F = .inl (f, p)) ∨ ∃ q' s', F = .inr (q', s') ∧ RT T n q' M' ∧ RHo s' M')
theorem m179f (hF : Fix M) (hq : RT T n q M) (hat : M 142 2 = (q.1 : Int)) (hst : M 142 52 = 80) : ax_Ev L X SH 10 179 [(2, 142)] M (R0 (fun M' => M' = ax_up (ax_up M 142 5 5) 142 6 (q.1 : Int))) := by
  show ax_G L X SH 10 179 0 [(2, 142), (3, 0)] [] M _
  have hC := at179
  have hS : Sb XHP M M := Sb.refl
  have h5 := hq.2.2.2.2.1
  refine g3 hC rfl rfl ?_
  refine g19 hC rfl sh142 (flt12 rfl) ft12_2 hat ?_
  refine s1 hC rfl rfl rfl ?_
  refine g3 hC rfl rfl ?_
  refine g19 hC rfl sh142 (flt12 rfl) ft12_52 hst ?_
  refine g0 hC rfl ?_
  refine g13n hC rfl (fun h6 => (by omega)) (fun h6 => ?_)
  refine g3 hC rfl rfl ?_
  refine g0 hC rfl ?_
  refine g3 hC rfl rfl ?_
  refine c0 hC rfl rfl rfl (Nat.le_of_ble_eq_true rfl) (Nat.le_of_ble_eq_true rfl) (mayR k156 rfl) (m156 h5) (Nat.le_of_ble_eq_true rfl) (fun M2 hr => ?_)
  refine ret0 hC rfl ?_
  exact hr
theorem m179 (hF : Fix M) (hn : n ≤ 1600) (hR : RHo s M) (hWf : WfH q.1 s) (hWd : Wd M) (hq : RT T n q M) (hqn : q.1 ≤ n) (hat : M 142 2 = (q.1 : Int)) (hc : c < 80) (hst : M 142 52 = (c : Int)) : ax_Ev L X SH 10 179 [(2, 142)] M (R0 (RSo T n c (semF T n (stmF T n s q)) M)) := by
  show ax_G L X SH 10 179 0 [(2, 142), (3, 0)] [] M _
  obtain ⟨P, hP⟩ : ∃ P, P = RSo T n c (semF T n (stmF T n s q)) M := ⟨_, rfl⟩
  rw [← hP]
  have hC := at179
  have hw := wXHO
  have v1 := (wq_nx (T := T) hqn)
  have hWf1 := hWf.mono (nx_ge (T := T) hqn)
  have t111 : ∀ (M6 : ax_M), KX M M6 → ((∃ f p, f ≠ 0 ∧ BF f p M6 ∧ semF T n (stmF T n s q) = .inl (f, p)) ∨ ∃ q' s', semF T n (stmF T n s q) = .inr (q', s') ∧ RT T n q' M6 ∧ RHo s' M6) → ax_G L X SH 10 179 111 [(2, 142), (0, (q.1 : Int))] [] M6 (R0 P) := by
    intro M6 hk hr
    have hS := hk.ky.1
    have h52 : M6 142 52 = (c : Int) := (hk.1 _ _ rfl).trans hst
    refine g3 hC rfl rfl ?_
    refine g16 hC rfl (by decide) ?_
    refine g19 hC rfl sh142 (flt12 rfl) ft12_52 h52 ?_
    refine g0 hC rfl ?_
    refine g6a hC rfl ⟨by omega, by omega⟩ ?_
    refine g20s hC rfl sh142 (flt12 rfl) (by rw [fy12_52]; rfl) hS rfl (fun hS => ?_)
    refine ret0 hC rfl ?_
    rw [hP]
    have hu : Sb ([], [(142, 52)]) M6 (ax_up M6 142 52 ((c : Int) + 1)) := Sb.refl.up rfl
    refine ⟨⟨hS, hk.2.up (by decide)⟩, ax_up_at, ?_⟩
    rcases hr with ⟨f, p, a, b, d⟩ | ⟨q', s', a, b, d⟩
    · exact Or.inl ⟨f, p, a, ⟨(ax_up_of (by decide)).trans b.1, (ax_up_of (by decide)).trans b.2⟩, d⟩
    · exact Or.inr ⟨q', s', a, b.sbf hu rfl rfl rfl rfl rfl (fun _ => rfl), d.sb hu (rokB (by decide +kernel)) rfl⟩
  have t108 : ∀ (M5 : ax_M), RPo T n (stmF T n s q) M M5 → ax_G L X SH 10 179 108 [(2, 142), (0, (q.1 : Int))] [] M5 (R0 P) := by
    intro M5 hr
    obtain ⟨hk, hr⟩ := hr
    refine g3 hC rfl rfl ?_
    refine g0 hC rfl ?_
    rcases hr with ⟨f, p, hf, hb, e⟩ | ⟨q1, s1, e, hrt, hR1⟩
    · refine c0 hC rfl rfl rfl (Nat.le_of_ble_eq_true rfl) (Nat.le_of_ble_eq_true rfl) (mayR k164 rfl) (m164b (hb.bad hf)) (Nat.le_of_ble_eq_true rfl) (fun M6 hr => ?_)
      subst hr
      exact t111 _ hk (Or.inl ⟨f, p, hf, hb, by rw [e]; rfl⟩)
    · have hq1 := (stm_ok hqn hWf e).2
      refine c0 hC rfl rfl rfl (Nat.le_of_ble_eq_true rfl) (Nat.le_of_ble_eq_true rfl) (mayR k164 rfl) (m164 (hk.1.fix hw hF) hn hrt hq1 (c := 59) (by unfold sgc; decide)) (Nat.le_of_ble_eq_true rfl) (fun M6 hr => ?_)
      obtain ⟨hS6, hr⟩ := hr
      have hk6 := hk.ak hS6
      rcases hr with ⟨f, p, e2, hf, hb⟩ | ⟨e2, hrt6, -⟩
      · exact t111 _ hk6 (Or.inl ⟨f, p, hf, hb, by rw [e]; unfold semF tryR; dsimp only; rw [e2]⟩)
      · exact t111 _ hk6 (Or.inr ⟨_, _, by rw [e]; unfold semF tryR; dsimp only; rw [e2], hrt6, hR1.sb hS6 rAK rfl⟩)
  have tset : ∀ (M5 : ax_M) (i : Nat) (x : Int) (lo hi : Int) (G : Int → PS → SRs) (q0 : PS), KX M M5 → i < 3 → RHo s M5 → RR T n (nuR T n q0 lo hi) (nx T n q0) (fun _ => x = nuV T n q0) M5 → stmF T n s q = numN T n lo hi q0 G → (∀ v q1, ∃ s', G v q1 = .inr (q1, s') ∧ ∀ M', RHo s M' → RHo s' (ax_up M' 181 i v)) → ax_G L X SH 10 179 108 [(2, 142), (0, (q.1 : Int))] [] (ax_up M5 181 i x) (R0 P) := by
    intro M5 i x lo hi G q0 hk hi3 hR5 hr eq hG
    have l1 : hlf 181 = 3 := rfl
    refine t108 _ ⟨hk.up rfl (by omega), ?_⟩
    rcases hr with ⟨f, p, e, hf, hb⟩ | ⟨e, hrt, hx⟩
    · exact Or.inl ⟨f, p, hf, ⟨(ax_up2n (by decide)).trans hb.1, (ax_up2n (by decide)).trans hb.2⟩, eq.trans (numN_n e)⟩
    · obtain ⟨s', g1', g2'⟩ := hG (nuV T n q0) (nx T n q0)
      refine Or.inr ⟨_, s', (eq.trans (numN_y e)).trans g1', hrt.cl (fun a k z1 z2 => ax_up2n (by omega)), ?_⟩
      rw [hx]; exact g2' _ hR5
  have hk0 : KX M M := KX.refl
  have hF0 := hF
  have hR0 := hR
  have hW0 := hWd
  have hrt0 := hq
  refine g3 hC rfl rfl ?_
  refine g19 hC rfl sh142 (flt12 rfl) ft12_2 hat ?_
  refine s1 hC rfl rfl rfl ?_
  refine g3 hC rfl rfl ?_
  refine g19 hC rfl sh142 (flt12 rfl) ft12_52 hst ?_
  refine g0 hC rfl ?_
  refine g13n hC rfl (fun _ => ?_) (fun y => by omega)
  refine g3 hC rfl rfl ?_
  refine g3 hC rfl rfl ?_
  refine g19 hC rfl sh142 (flt12 rfl) ft12_10 (hF0.g fx_142_10) ?_
  refine c1 hC rfl rfl rfl (Nat.le_of_ble_eq_true rfl) (Nat.le_of_ble_eq_true rfl) (mayR k161 rfl) (m161 hF0 hn hrt0 hqn (w := w_room) sh145 (wa145 hW0) (by decide)) (Nat.le_of_ble_eq_true rfl) (fun x N1 hr => ?_)
  obtain ⟨hS1, hr⟩ := hr
  have hk1 := hk0.th hS1 rfl rTK
  have hF1 := hk1.1.fix hw hF
  have hR1 := hR0.sb hS1 rTK rfl
  have hW1 : Wd N1 := hWd.sb hk1.1 wdX
  rcases hr with ⟨z0, rfl, hrn⟩ | ⟨z0, rfl, hrt1, -⟩
  · refine g12e hC rfl (fun y => absurd y (by decide)) (fun _ => ?_)
    have eq : stmF T n s q = roomF T n s q.1 (nx T n q) := by unfold stmF; rw [z0, if_pos rfl]
    refine g3 hC rfl rfl ?_
    refine g3 hC rfl rfl ?_
    refine c0 hC rfl rfl rfl (Nat.le_of_ble_eq_true rfl) (Nat.le_of_ble_eq_true rfl) (mayR k174 rfl) (m174 hF1 hn hR1 hWf1 hW1 hrn v1.1 (pp := (q.1 : Int))) (Nat.le_of_ble_eq_true rfl) (fun Mt hr => ?_)
    refine g14 hC rfl ?_
    exact t108 Mt (by rw [eq]; exact RPo.tr hk1 hr)
  refine g12e hC rfl (fun _ => ?_) (fun y => absurd rfl y)
  refine g3 hC rfl rfl ?_
  refine g3 hC rfl rfl ?_
  refine g19 hC rfl sh142 (flt12 rfl) ft12_11 (hF1.g fx_142_11) ?_
  refine c1 hC rfl rfl rfl (Nat.le_of_ble_eq_true rfl) (Nat.le_of_ble_eq_true rfl) (mayR k161 rfl) (m161 hF1 hn hrt1 hqn (w := w_stair) sh146 (wa146 hW1) (by decide)) (Nat.le_of_ble_eq_true rfl) (fun x N2 hr => ?_)
  obtain ⟨hS2, hr⟩ := hr
  have hk2 := hk1.th hS2 rfl rTK
  have hF2 := hk2.1.fix hw hF
  have hR2 := hR1.sb hS2 rTK rfl
  have hW2 : Wd N2 := hWd.sb hk2.1 wdX
  rcases hr with ⟨z1, rfl, hrn⟩ | ⟨z1, rfl, hrt2, -⟩
  · refine g12e hC rfl (fun y => absurd y (by decide)) (fun _ => ?_)
    have eq : stmF T n s q = stairF T n s q.1 (nx T n q) := by unfold stmF; rw [z0, z1, if_neg Bool.false_ne_true, if_pos rfl]
    refine g3 hC rfl rfl ?_
    refine g3 hC rfl rfl ?_
    refine c0 hC rfl rfl rfl (Nat.le_of_ble_eq_true rfl) (Nat.le_of_ble_eq_true rfl) (mayR k175 rfl) (m175 hF2 hn hR2 hWf1 hW2 hrn v1.1 (pp := (q.1 : Int))) (Nat.le_of_ble_eq_true rfl) (fun Mt hr => ?_)
    refine g14 hC rfl ?_
    exact t108 Mt (by rw [eq]; exact RPo.tr hk2 hr)
  refine g12e hC rfl (fun _ => ?_) (fun y => absurd rfl y)
  refine g3 hC rfl rfl ?_
  refine g3 hC rfl rfl ?_
  refine g19 hC rfl sh142 (flt12 rfl) ft12_14 (hF2.g fx_142_14) ?_
  refine c1 hC rfl rfl rfl (Nat.le_of_ble_eq_true rfl) (Nat.le_of_ble_eq_true rfl) (mayR k161 rfl) (m161 hF2 hn hrt2 hqn (w := w_part) sh149 (wa149 hW2) (by decide)) (Nat.le_of_ble_eq_true rfl) (fun x N3 hr => ?_)
  obtain ⟨hS3, hr⟩ := hr
  have hk3 := hk2.th hS3 rfl rTK
  have hF3 := hk3.1.fix hw hF
  have hR3 := hR2.sb hS3 rTK rfl
  have hW3 : Wd N3 := hWd.sb hk3.1 wdX
  rcases hr with ⟨z2, rfl, hrn⟩ | ⟨z2, rfl, hrt3, -⟩
  · refine g12e hC rfl (fun y => absurd y (by decide)) (fun _ => ?_)
    have eq : stmF T n s q = sectF T n s q.1 (nx T n q) := by unfold stmF; rw [z0, z1, z2, if_neg Bool.false_ne_true, if_neg Bool.false_ne_true, if_pos rfl]
    refine g3 hC rfl rfl ?_
    refine g3 hC rfl rfl ?_
    refine c0 hC rfl rfl rfl (Nat.le_of_ble_eq_true rfl) (Nat.le_of_ble_eq_true rfl) (mayR k176 rfl) (m176 hF3 hn hR3 hWf1 hW3 hrn v1.1 (pp := (q.1 : Int))) (Nat.le_of_ble_eq_true rfl) (fun Mt hr => ?_)
    refine g14 hC rfl ?_
    exact t108 Mt (by rw [eq]; exact RPo.tr hk3 hr)
  refine g12e hC rfl (fun _ => ?_) (fun y => absurd rfl y)
  refine g3 hC rfl rfl ?_
  refine g3 hC rfl rfl ?_
  refine g19 hC rfl sh142 (flt12 rfl) ft12_16 (hF3.g fx_142_16) ?_
  refine c1 hC rfl rfl rfl (Nat.le_of_ble_eq_true rfl) (Nat.le_of_ble_eq_true rfl) (mayR k161 rfl) (m161 hF3 hn hrt3 hqn (w := w_clerk) sh151 (wa151 hW3) (by decide)) (Nat.le_of_ble_eq_true rfl) (fun x N4 hr => ?_)
  obtain ⟨hS4, hr⟩ := hr
  have hk4 := hk3.th hS4 rfl rTK
  have hF4 := hk4.1.fix hw hF
  have hR4 := hR3.sb hS4 rTK rfl
  have hW4 : Wd N4 := hWd.sb hk4.1 wdX
  rcases hr with ⟨z3, rfl, hrn⟩ | ⟨z3, rfl, hrt4, -⟩
  · refine g12e hC rfl (fun y => absurd y (by decide)) (fun _ => ?_)
    have eq : stmF T n s q = clerkF T n s q.1 (nx T n q) := by unfold stmF; rw [z0, z1, z2, z3, if_neg Bool.false_ne_true, if_neg Bool.false_ne_true, if_neg Bool.false_ne_true, if_pos rfl]
    refine g3 hC rfl rfl ?_
    refine g3 hC rfl rfl ?_
    refine c0 hC rfl rfl rfl (Nat.le_of_ble_eq_true rfl) (Nat.le_of_ble_eq_true rfl) (mayR k177 rfl) (m177 hF4 hn hR4 hWf1 hW4 hrn v1.1 (pp := (q.1 : Int))) (Nat.le_of_ble_eq_true rfl) (fun Mt hr => ?_)
    refine g14 hC rfl ?_
    exact t108 Mt (by rw [eq]; exact RPo.tr hk4 hr)
  refine g12e hC rfl (fun _ => ?_) (fun y => absurd rfl y)
  refine g3 hC rfl rfl ?_
  refine g3 hC rfl rfl ?_
  refine g19 hC rfl sh142 (flt12 rfl) ft12_21 (hF4.g fx_142_21) ?_
  refine c1 hC rfl rfl rfl (Nat.le_of_ble_eq_true rfl) (Nat.le_of_ble_eq_true rfl) (mayR k161 rfl) (m161 hF4 hn hrt4 hqn (w := w_turns) sh156 (wa156 hW4) (by decide)) (Nat.le_of_ble_eq_true rfl) (fun x N5 hr => ?_)
  obtain ⟨hS5, hr⟩ := hr
  have hk5 := hk4.th hS5 rfl rTK
  have hF5 := hk5.1.fix hw hF
  have hR5 := hR4.sb hS5 rTK rfl
  have hW5 : Wd N5 := hWd.sb hk5.1 wdX
  rcases hr with ⟨z4, rfl, hrn⟩ | ⟨z4, rfl, hrt5, -⟩
  · refine g12e hC rfl (fun y => absurd y (by decide)) (fun _ => ?_)
    have eq : stmF T n s q = turnF T n s q.1 (nx T n q) := by unfold stmF; rw [z0, z1, z2, z3, z4, if_neg Bool.false_ne_true, if_neg Bool.false_ne_true, if_neg Bool.false_ne_true, if_neg Bool.false_ne_true, if_pos rfl]
    refine g3 hC rfl rfl ?_
    refine g0 hC rfl ?_
    refine g3 hC rfl rfl ?_
    refine c0 hC rfl rfl rfl (Nat.le_of_ble_eq_true rfl) (Nat.le_of_ble_eq_true rfl) (mayR k178 rfl) (m178 hF5 hn hR5 hWf1 hW5 hrn v1 (w := 0) (by decide) (pp := (q.1 : Int))) (Nat.le_of_ble_eq_true rfl) (fun Mt hr => ?_)
    refine g14 hC rfl ?_
    exact t108 Mt (by rw [eq]; exact RPo.tr hk5 hr)
  refine g12e hC rfl (fun _ => ?_) (fun y => absurd rfl y)
  refine g3 hC rfl rfl ?_
  refine g3 hC rfl rfl ?_
  refine g19 hC rfl sh142 (flt12 rfl) ft12_22 (hF5.g fx_142_22) ?_
  refine c1 hC rfl rfl rfl (Nat.le_of_ble_eq_true rfl) (Nat.le_of_ble_eq_true rfl) (mayR k161 rfl) (m161 hF5 hn hrt5 hqn (w := w_dear) sh157 (wa157 hW5) (by decide)) (Nat.le_of_ble_eq_true rfl) (fun x N6 hr => ?_)
  obtain ⟨hS6, hr⟩ := hr
  have hk6 := hk5.th hS6 rfl rTK
  have hF6 := hk6.1.fix hw hF
  have hR6 := hR5.sb hS6 rTK rfl
  have hW6 : Wd N6 := hWd.sb hk6.1 wdX
  rcases hr with ⟨z5, rfl, hrn⟩ | ⟨z5, rfl, hrt6, -⟩
  · refine g12e hC rfl (fun y => absurd y (by decide)) (fun _ => ?_)
    have eq : stmF T n s q = dearF T n s q.1 (nx T n q) := by unfold stmF; rw [z0, z1, z2, z3, z4, z5, if_neg Bool.false_ne_true, if_neg Bool.false_ne_true, if_neg Bool.false_ne_true, if_neg Bool.false_ne_true, if_neg Bool.false_ne_true, if_pos rfl]
    refine g3 hC rfl rfl ?_
    refine g0 hC rfl ?_
    refine g3 hC rfl rfl ?_
    refine c0 hC rfl rfl rfl (Nat.le_of_ble_eq_true rfl) (Nat.le_of_ble_eq_true rfl) (mayR k178 rfl) (m178 hF6 hn hR6 hWf1 hW6 hrn v1 (w := 1) (by decide) (pp := (q.1 : Int))) (Nat.le_of_ble_eq_true rfl) (fun Mt hr => ?_)
    refine g14 hC rfl ?_
    exact t108 Mt (by rw [eq]; exact RPo.tr hk6 hr)
  refine g12e hC rfl (fun _ => ?_) (fun y => absurd rfl y)
  refine g3 hC rfl rfl ?_
  refine g3 hC rfl rfl ?_
  refine g19 hC rfl sh142 (flt12 rfl) ft12_23 (hF6.g fx_142_23) ?_
  refine c1 hC rfl rfl rfl (Nat.le_of_ble_eq_true rfl) (Nat.le_of_ble_eq_true rfl) (mayR k161 rfl) (m161 hF6 hn hrt6 hqn (w := w_hears) sh158 (wa158 hW6) (by decide)) (Nat.le_of_ble_eq_true rfl) (fun x N7 hr => ?_)
  obtain ⟨hS7, hr⟩ := hr
  have hk7 := hk6.th hS7 rfl rTK
  have hF7 := hk7.1.fix hw hF
  have hR7 := hR6.sb hS7 rTK rfl
  have hW7 : Wd N7 := hWd.sb hk7.1 wdX
  rcases hr with ⟨z6, rfl, hrn⟩ | ⟨z6, rfl, hrt7, -⟩
  · refine g12e hC rfl (fun y => absurd y (by decide)) (fun _ => ?_)
    have eq : stmF T n s q = hearF T n s (nx T n q) := by unfold stmF; rw [z0, z1, z2, z3, z4, z5, z6, if_neg Bool.false_ne_true, if_neg Bool.false_ne_true, if_neg Bool.false_ne_true, if_neg Bool.false_ne_true, if_neg Bool.false_ne_true, if_neg Bool.false_ne_true, if_pos rfl]
    refine g3 hC rfl rfl ?_
    refine g19 hC rfl sh142 (flt12 rfl) ft12_47 (hF7.g fx_142_47) ?_
    refine g0 hC rfl ?_
    refine g3 hC rfl rfl ?_
    refine g0 hC rfl ?_
    refine g0 hC rfl ?_
    refine c1 hC rfl rfl rfl (Nat.le_of_ble_eq_true rfl) (Nat.le_of_ble_eq_true rfl) (mayR k165 rfl) (m165 hF7 hn hrn v1.1) (Nat.le_of_ble_eq_true rfl) (fun x Mt hr => ?_)
    obtain ⟨hSt, hxb, hr⟩ := hr
    refine r22 (0) hC rfl rfl sh181 (by decide) rfl ?_
    refine g14 hC rfl ?_
    exact tset Mt 0 x 0 20 _ _ (hk7.ak hSt) (by decide) (hR7.sb hSt rAK rfl) hr eq (fun v q1 => ⟨_, rfl, fun M' h => h.st rfl rfl rfl⟩)
  refine g12e hC rfl (fun _ => ?_) (fun y => absurd rfl y)
  refine g3 hC rfl rfl ?_
  refine g3 hC rfl rfl ?_
  refine g19 hC rfl sh142 (flt12 rfl) ft12_24 (hF7.g fx_142_24) ?_
  refine c1 hC rfl rfl rfl (Nat.le_of_ble_eq_true rfl) (Nat.le_of_ble_eq_true rfl) (mayR k161 rfl) (m161 hF7 hn hrt7 hqn (w := w_signs) sh159 (wa159 hW7) (by decide)) (Nat.le_of_ble_eq_true rfl) (fun x N8 hr => ?_)
  obtain ⟨hS8, hr⟩ := hr
  have hk8 := hk7.th hS8 rfl rTK
  have hF8 := hk8.1.fix hw hF
  have hR8 := hR7.sb hS8 rTK rfl
  have hW8 : Wd N8 := hWd.sb hk8.1 wdX
  rcases hr with ⟨z7, rfl, hrn⟩ | ⟨z7, rfl, hrt8, -⟩
  · refine g12e hC rfl (fun y => absurd y (by decide)) (fun _ => ?_)
    have eq : stmF T n s q = signF T n s (nx T n q) := by unfold stmF; rw [z0, z1, z2, z3, z4, z5, z6, z7, if_neg Bool.false_ne_true, if_neg Bool.false_ne_true, if_neg Bool.false_ne_true, if_neg Bool.false_ne_true, if_neg Bool.false_ne_true, if_neg Bool.false_ne_true, if_neg Bool.false_ne_true, if_pos rfl]
    refine g3 hC rfl rfl ?_
    refine g19 hC rfl sh142 (flt12 rfl) ft12_47 (hF8.g fx_142_47) ?_
    refine g0 hC rfl ?_
    refine g3 hC rfl rfl ?_
    refine g0 hC rfl ?_
    refine g0 hC rfl ?_
    refine c1 hC rfl rfl rfl (Nat.le_of_ble_eq_true rfl) (Nat.le_of_ble_eq_true rfl) (mayR k165 rfl) (m165 hF8 hn hrn v1.1) (Nat.le_of_ble_eq_true rfl) (fun x Mt hr => ?_)
    obtain ⟨hSt, hxb, hr⟩ := hr
    refine r22 (1) hC rfl rfl sh181 (by decide) rfl ?_
    refine g14 hC rfl ?_
    exact tset Mt 1 x 1 9 _ _ (hk8.ak hSt) (by decide) (hR8.sb hSt rAK rfl) hr eq (fun v q1 => ⟨_, rfl, fun M' h => h.st rfl rfl rfl⟩)
  refine g12e hC rfl (fun _ => ?_) (fun y => absurd rfl y)
  have eq : stmF T n s q = wrdN T n w_smoke q (fun q1 => smokF T n s q1) := by unfold stmF; rw [z0, z1, z2, z3, z4, z5, z6, z7, if_neg Bool.false_ne_true, if_neg Bool.false_ne_true, if_neg Bool.false_ne_true, if_neg Bool.false_ne_true, if_neg Bool.false_ne_true, if_neg Bool.false_ne_true, if_neg Bool.false_ne_true, if_neg Bool.false_ne_true]
  refine g3 hC rfl rfl ?_
  refine g3 hC rfl rfl ?_
  refine g19 hC rfl sh142 (flt12 rfl) ft12_25 (hF8.g fx_142_25) ?_
  refine c0 hC rfl rfl rfl (Nat.le_of_ble_eq_true rfl) (Nat.le_of_ble_eq_true rfl) (mayR k162 rfl) (m162 hF8 hn hrt8 hqn (w := w_smoke) sh160 (wa160 hW8) (by decide)) (Nat.le_of_ble_eq_true rfl) (fun M9 hr => ?_)
  obtain ⟨hS9, hr⟩ := hr
  have hk9 := hk8.ak hS9
  have hF9 := hk9.1.fix hw hF
  have hR9 := hR8.sb hS9 rAK rfl
  refine g3 hC rfl rfl ?_
  refine g19 hC rfl sh142 (flt12 rfl) ft12_47 (hF9.g fx_142_47) ?_
  refine g0 hC rfl ?_
  refine g3 hC rfl rfl ?_
  refine g0 hC rfl ?_
  refine g0 hC rfl ?_
  rcases hr with ⟨f, p, e, hf, hb⟩ | ⟨e, hrt9, -⟩
  · refine c1 hC rfl rfl rfl (Nat.le_of_ble_eq_true rfl) (Nat.le_of_ble_eq_true rfl) (mayR k165 rfl) (m165b (hb.bad hf)) (Nat.le_of_ble_eq_true rfl) (fun x Mt hr => ?_)
    obtain ⟨rfl, hr⟩ := hr
    subst hr
    refine r22 (2) hC rfl rfl sh181 (by decide) rfl ?_
    refine t108 _ ⟨hk9.up rfl (by decide), Or.inl ⟨f, p, hf, ⟨(ax_up2n (by decide)).trans hb.1, (ax_up2n (by decide)).trans hb.2⟩, eq.trans (wrdN_n e)⟩⟩
  · refine c1 hC rfl rfl rfl (Nat.le_of_ble_eq_true rfl) (Nat.le_of_ble_eq_true rfl) (mayR k165 rfl) (m165 hF9 hn hrt9 v1.1) (Nat.le_of_ble_eq_true rfl) (fun x Mt hr => ?_)
    obtain ⟨hSt, hxb, hr⟩ := hr
    refine r22 (2) hC rfl rfl sh181 (by decide) rfl ?_
    exact tset Mt 2 x 0 100 _ _ (hk9.ak hSt) (by decide) (hR9.sb hSt rAK rfl) hr (eq.trans (wrdN_y e)) (fun v q1 => ⟨_, rfl, fun M' h => h.st rfl rfl rfl⟩)
end RSM
