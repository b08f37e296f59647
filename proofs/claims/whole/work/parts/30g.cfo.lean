def CTR (L : Nat) (X : Nat → Int) (T : Nat → Int) (n p k d j r : Nat) (F : PS → PRs) : Prop := ∀ (M : ax_M) (q : PS) (C : List Int), Fix M → FI T n p k C q M → ax_Ev L X SH d j [(2, 6), (0, ((6 - r : Nat) : Int))] M (R1 0 (FP T n p k C M (F q)))
section CFP
variable {L : Nat} {X : Nat → Int} {T : Nat → Int} {n p k : Nat}
theorem FP.of {M M1 M2 : ax_M} {C c0 : List Int} {F G : PRs} {x : Int} (hS : Sb WFO M M1) (hO : OPr p M M1) (h : FP T n p k (C ++ c0) M1 F x M2) (e1 : ∀ f pl, F = .inl (f, pl) → G = .inl (f, pl)) (e2 : ∀ q' c, F = .inr (q', c) → G = .inr (q', c0 ++ c)) : FP T n p k C M G x M2 := by
  obtain ⟨h1, h2, h3⟩ := h
  refine ⟨hS.trans h1, hO.trans h2, ?_⟩
  rcases h3 with ⟨f, pl, e, hx, hc⟩ | ⟨q', c, e, hx, hc, hp⟩
  · exact Or.inl ⟨f, pl, e1 f pl e, hx, hc⟩
  · refine Or.inr ⟨q', c0 ++ c, e2 q' c e, hx, hc, ?_⟩
    rw [← List.append_assoc]; exact hp
theorem FP.no {M M1 : ax_M} {C : List Int} {F : PRs} {f pl : Int} (hS : Sb WFO M M1) (hO : OPr p M M1) (e : F = .inl (f, pl)) (h : CF f pl M1) : FP T n p k C M F 0 M1 := ⟨hS, hO, Or.inl ⟨f, pl, e, rfl, h⟩⟩
theorem FP.ok {M M1 : ax_M} {C c : List Int} {F : PRs} {q' : PS} (hS : Sb WFO M M1) (hO : OPr p M M1) (e : F = .inr (q', c)) (h : CT T n q' M1) (hp : PC M1 p k (C ++ c)) : FP T n p k C M F 1 M1 := ⟨hS, hO, Or.inr ⟨q', c, e, rfl, h, hp⟩⟩
theorem FP.y {M M1 : ax_M} {C : List Int} {F : PRs} {x : Int} (h : FP T n p k C M F x M1) (hx : ¬ x = 0) : ∃ q' c, F = .inr (q', c) ∧ CT T n q' M1 ∧ PC M1 p k (C ++ c) := by
  rcases h.2.2 with ⟨f, pl, e, h1, hc⟩ | ⟨q', c, e, h1, hc, hp⟩
  · exact absurd h1 hx
  · exact ⟨q', c, e, hc, hp⟩
theorem FP.ng {M M1 : ax_M} {C : List Int} {F : PRs} {x : Int} (h : FP T n p k C M F x M1) (hx : x = 0) : ∃ f pl, F = .inl (f, pl) ∧ CF f pl M1 := by
  rcases h.2.2 with ⟨f, pl, e, h1, hc⟩ | ⟨q', c, e, h1, hc, hp⟩
  · exact ⟨f, pl, e, hc⟩
  · exact absurd (h1.symm.trans hx) (by decide)
theorem CR.y {r : FR} {q : PS} {E : ax_M → Prop} {x : Int} {M : ax_M} (h : CR T n r q E x M) (hx : ¬ x = 0) : r = none ∧ CT T n q M ∧ E M := by
  rcases h with ⟨f, pl, e, h1, hc⟩ | ⟨e, h1, hc, hp⟩
  · exact absurd h1 hx
  · exact ⟨e, hc, hp⟩
theorem CR.ng {r : FR} {q : PS} {E : ax_M → Prop} {x : Int} {M : ax_M} (h : CR T n r q E x M) (hx : x = 0) : ∃ f pl, r = some (f, pl) ∧ CF f pl M := by
  rcases h with ⟨f, pl, e, h1, hc⟩ | ⟨e, h1, hc, hp⟩
  · exact ⟨f, pl, e, hc⟩
  · exact absurd (h1.symm.trans hx) (by decide)
theorem FP.sg {M M1 M2 : ax_M} {C c : List Int} {q : PS} {s x : Int} (hp0 : isP p) (hS : Sb WFO M M1) (hO : OPr p M M1) (hp : PC M1 p k (C ++ c)) (hS2 : Sb WNU M1 M2) (h : CR T n (sgR T n q s) (nx T n q) (fun _ => True) x M2) {F : PRs} (e : F = tkS T n q s c) : FP T n p k C M F x M2 := by
  refine ⟨hS.then hS2 rfl, hO.trans (OPr.tx hS2), ?_⟩
  rw [e]; unfold tkS
  rcases h with ⟨f, pl, e, h1, hc⟩ | ⟨e, h1, hc, _⟩
  · rw [e]; exact Or.inl ⟨f, pl, rfl, h1, hc⟩
  · rw [e]; exact Or.inr ⟨_, _, rfl, h1, hc, hp.tx hp0 hS2⟩
theorem FP.b {M M1 : ax_M} {C : List Int} {F : PRs} {x : Int} (h : FP T n p k C M F x M1) : 0 ≤ x ∧ x < 2 := by
  rcases h.2.2 with ⟨f, pl, e, h1, _⟩ | ⟨q', c, e, h1, _⟩ <;> omega
theorem CR.b {r : FR} {q : PS} {E : ax_M → Prop} {x : Int} {M : ax_M} (h : CR T n r q E x M) : 0 ≤ x ∧ x < 2 := by
  rcases h with ⟨f, pl, e, h1, _⟩ | ⟨e, h1, _⟩ <;> omega
end CFP
section CLG
variable {L : Nat} {X : Nat → Int} {T : Nat → Int} {n p k : Nat}
theorem m28 (hn : n ≤ 1600) (hp : isP p) {r : Nat} {opn : Bool} {sm : PS → PRs} (hr6 : r ≤ 6) (ho : opn = true ↔ 0 < r) (hs : 0 < r → CTR L X T n p k (5 + 4 * r) 25 (r - 1) sm) (gs : GoodF T n sm) {M : ax_M} {q : PS} {C : List Int} (hF : Fix M) (hI : FI T n p k C q M) (hmm : isW T n q w_min = true ∨ isW T n q w_max = true) : ax_Ev L X SH (6 + 4 * r) 28 [(2, 6), (0, ((6 - r : Nat) : Int))] M (R1 0 (FP T n p k C M (lgF T n opn sm q))) := by
  show ax_G L X SH (6 + 4 * r) 28 0 [(2, 6), (0, ((6 - r : Nat) : Int)), (3, 0)] [] M _
  have hC := at28
  have hS : Sb WFO M M := Sb.refl
  have hw : wok WFO = true := by decide +kernel
  obtain ⟨hq, hpc, hcl, hqn, hfm⟩ := hI
  have hlt : q.1 < n := by rcases hmm with z | z <;> exact isW_lt z
  have g1 := nx_gt (T := T) hlt
  have w1 := wq_nx (T := T) hqn
  have w2 := wq_nx (T := T) w1.1
  obtain ⟨q1, hq1⟩ : ∃ q1, q1 = nx T n q := ⟨_, rfl⟩
  rw [← hq1] at g1 w1 w2
  have eF : lgF T n opn sm q = if isG T n q1 40 = true then (if opn = true then thn (sm (nx T n q1)) (fun q1 c => thn (tkS T n q1 44 c) (fun q2 c => thn (sm q2) (fun q3 c2 => tkS T n q3 41 (c ++ c2 ++ [if isW T n q w_min = true then 5 else 6])))) else .inl (4, (q1.1 : Int))) else .inl (1, (q1.1 : Int)) := by rw [hq1]; rfl
  have main : ∀ cw : Int, cw = cs k (if isW T n q w_min = true then 5 else 6) → ax_G L X SH (6 + 4 * r) 28 8 [(2, 6), (0, ((6 - r : Nat) : Int)), (3, 0)] [(0, cw)] M (R1 0 (FP T n p k C M (lgF T n opn sm q))) := by
    intro cw hcw
    refine s2 hC rfl rfl rfl ?_
    refine g3 hC rfl rfl ?_
    refine g19 hC rfl rfl (Nat.le_of_ble_eq_true rfl) rfl ((hS.fix hw hF).g rfl) ?_
    refine c0 hC rfl rfl rfl (Nat.le_of_ble_eq_true rfl) (Nat.le_of_ble_eq_true rfl) rfl (m90q (hS.fix hw hF) hn hq hqn) (by omega) (fun M1 hr => ?_)
    obtain ⟨hr0, ct1⟩ := hr; rw [← hq1] at ct1; have hS := hS.then hr0 rfl; have o1 : OPr p M M1 := OPr.tx (hr0.mono rfl); have pc1 := hpc.tx hp (hr0.mono rfl)
    refine g3 hC rfl rfl ?_
    refine g19 hC rfl rfl (Nat.le_of_ble_eq_true rfl) rfl ((hS.fix hw hF).g rfl) ?_
    refine g0 hC rfl ?_
    refine c1 hC rfl rfl rfl (Nat.le_of_ble_eq_true rfl) (Nat.le_of_ble_eq_true rfl) rfl (m94 (hS.fix hw hF) hn ct1 w1.1) (by omega) (fun y MX hr => ?_)
    obtain ⟨hy, hr⟩ := hr; replace hr := hr.symm; subst hr
    refine g12n hC rfl (fun h16 => ?_) (fun h16 => ?_)
    ·
      refine g3 hC rfl rfl ?_
      refine g3 hC rfl rfl ?_
      refine c1 hC rfl rfl rfl (Nat.le_of_ble_eq_true rfl) (Nat.le_of_ble_eq_true rfl) rfl (m29 (hS.fix hw hF) hn ct1 w1.1 hr6) (by omega) (fun xo M2 hr => ?_)
      obtain ⟨ho0, ho1⟩ := hr; have hS := hS.then ho0 rfl; have o2 := o1.trans (OPr.tx ho0); have pc2 := pc1.tx hp ho0
      refine g12e hC rfl (fun h28 => ?_) (fun h28 => ?_)
      ·
        refine g0 hC rfl ?_
        refine ret3 hC rfl ⟨by omega, by omega⟩ ?_
        obtain ⟨z0, rfl, zc⟩ : r = 0 ∧ xo = 0 ∧ CF 4 q1.1 M2 := by rcases ho1 with z | z; exact z; exact absurd h28 (by omega)
        refine FP.no hS o2 ?_ zc
        rw [eF, if_pos (yW hy (by omega)), if_neg (fun z => by have := ho.1 z; omega)]
      ·
        have ho2 : 0 < r ∧ CT T n (nx T n q1) M2 := by rcases ho1 with z | z; exact absurd z.2.1 h28; exact ⟨z.1, z.2.2⟩
        refine g3 hC rfl rfl ?_
        refine g3 hC rfl rfl ?_
        refine g0 hC rfl ?_
        refine g6a hC rfl ⟨by omega, by omega⟩ ?_
        rw [show ((6 - r : Nat) : Int) + 1 = ((6 - (r - 1) : Nat) : Int) by omega]
        refine c1 hC rfl rfl rfl (Nat.le_of_ble_eq_true rfl) (Nat.le_of_ble_eq_true rfl) rfl (hs ho2.1 M2 (nx T n q1) C (hS.fix hw hF) ⟨ho2.2, pc2, by have := w2; have := nx_gt (T := T) (n := n) (q := q1) (isG_lt (yW hy (by omega))); omega, w2.1, hfm.sb hS⟩) (by omega) (fun xs M3 hr => ?_)
        have hs3 := hr; have hS := hS.trans hr.1; have o3 := o2.trans hr.2.1
        refine g12e hC rfl (fun h34 => ?_) (fun h34 => ?_)
        ·
          refine g0 hC rfl ?_
          refine ret3 hC rfl ⟨by omega, by omega⟩ ?_
          obtain ⟨f, pl, e2, zc⟩ := hs3.ng (by omega)
          refine FP.no hS o3 ?_ zc
          rw [eF, if_pos (yW hy (by omega)), if_pos (ho.2 ho2.1), e2]; rfl
        ·
          obtain ⟨q2, cc, e2, ct3, pc3⟩ := hs3.y h34
          have gg := gs _ w2.1 q2 cc e2
          refine g3 hC rfl rfl ?_
          refine g19 hC rfl rfl (Nat.le_of_ble_eq_true rfl) rfl ((hS.fix hw hF).g rfl) ?_
          refine g0 hC rfl ?_
          refine c1 hC rfl rfl rfl (Nat.le_of_ble_eq_true rfl) (Nat.le_of_ble_eq_true rfl) rfl (m96r (hS.fix hw hF) hn ct3 gg.2.2.1) (by omega) (fun xk M4 hr => ?_)
          obtain ⟨hk0, hk1⟩ := hr; have hS := hS.then hk0 rfl; have o4 := o3.trans (OPr.tx hk0); have pc4 := pc3.tx hp hk0
          refine g12e hC rfl (fun h39 => ?_) (fun h39 => ?_)
          ·
            refine g0 hC rfl ?_
            refine ret3 hC rfl ⟨by omega, by omega⟩ ?_
            obtain ⟨f, pl, ek, zc⟩ := hk1.ng (by omega)
            refine FP.no hS o4 ?_ zc
            rw [eF, if_pos (yW hy (by omega)), if_pos (ho.2 ho2.1), e2]
            show thn (tkS T n q2 44 cc) _ = _
            unfold tkS; rw [ek]; rfl
          ·
            obtain ⟨ek, ct4, _⟩ := hk1.y h39
            have hg4 : isG T n q2 44 = true := by { unfold sgR at ek; split at ek; assumption; cases ek }
            have g4 := nx_gt (T := T) (isG_lt hg4); have w4 := wq_nx (T := T) gg.2.2.1
            refine g3 hC rfl rfl ?_
            refine g3 hC rfl rfl ?_
            refine g0 hC rfl ?_
            refine g6a hC rfl ⟨by omega, by omega⟩ ?_
            rw [show ((6 - r : Nat) : Int) + 1 = ((6 - (r - 1) : Nat) : Int) by omega]
            refine c1 hC rfl rfl rfl (Nat.le_of_ble_eq_true rfl) (Nat.le_of_ble_eq_true rfl) rfl (hs ho2.1 M4 (nx T n q2) (C ++ cc) (hS.fix hw hF) ⟨ct4, pc4, by rw [List.length_append]; have := nx_gt (T := T) (n := n) (q := q1) (isG_lt (yW hy (by omega))); omega, w4.1, hfm.sb hS⟩) (by omega) (fun xt M5 hr => ?_)
            have hs5 := hr; have hS := hS.trans hr.1; have o5 := o4.trans hr.2.1
            refine g12n hC rfl (fun h45 => ?_) (fun h45 => ?_)
            ·
              obtain ⟨q3, cd, e3, ct5, pc5⟩ := hs5.y h45
              have gh := gs _ w4.1 q3 cd e3
              refine g3 hC rfl rfl ?_
              refine g19 hC rfl rfl (Nat.le_of_ble_eq_true rfl) rfl ((hfm.sb hS).1) ?_
              refine g3 hC rfl rfl ?_
              refine c0 hC rfl rfl rfl (Nat.le_of_ble_eq_true rfl) (Nat.le_of_ble_eq_true rfl) (mayP hp rfl rfl rfl rfl rfl) (m59 (hS.fix hw hF) hp pc5 (by rw [List.length_append, List.length_append]; have := gh.2.2.1; have := nx_gt (T := T) (n := n) (q := q1) (isG_lt (yW hy (by omega))); omega) hcw) (by omega) (fun M6 hr => ?_)
              obtain ⟨ha0, ha1, ha2, ha3, ha4⟩ := hr; have hS := hS.trans ha0; have o6 := o5.trans ha1; have ct6 := ct5.same ha3 ha4
              refine g3 hC rfl rfl ?_
              refine g19 hC rfl rfl (Nat.le_of_ble_eq_true rfl) rfl ((hS.fix hw hF).g rfl) ?_
              refine g0 hC rfl ?_
              refine c1 hC rfl rfl rfl (Nat.le_of_ble_eq_true rfl) (Nat.le_of_ble_eq_true rfl) rfl (m96r (hS.fix hw hF) hn ct6 gh.2.2.1) (by omega) (fun xz M7 hr => ?_)
              refine ret3 hC rfl (CR.b hr.2) ?_
              refine FP.sg hp hS o6 (c := cc ++ cd ++ [if isW T n q w_min = true then 5 else 6]) (by rw [← List.append_assoc, ← List.append_assoc]; exact ha2) hr.1 hr.2 ?_
              rw [eF, if_pos (yW hy (by omega)), if_pos (ho.2 ho2.1), e2]
              show thn (tkS T n q2 44 cc) _ = _
              unfold tkS; rw [ek]
              show thn (sm (nx T n q2)) _ = _
              rw [e3]; rfl
            ·
              refine g0 hC rfl ?_
              refine ret3 hC rfl ⟨by omega, by omega⟩ ?_
              obtain ⟨f, pl, e3, zc⟩ := hs5.ng (by omega)
              refine FP.no hS o5 ?_ zc
              rw [eF, if_pos (yW hy (by omega)), if_pos (ho.2 ho2.1), e2]
              show thn (tkS T n q2 44 cc) _ = _
              unfold tkS; rw [ek]
              show thn (sm (nx T n q2)) _ = _
              rw [e3]; rfl
    ·
      refine g3 hC rfl rfl ?_
      refine g19 hC rfl rfl (Nat.le_of_ble_eq_true rfl) rfl ((hS.fix hw hF).g rfl) ?_
      refine g0 hC rfl ?_
      refine g3 hC rfl rfl ?_
      refine g19 hC rfl rfl (Nat.le_of_ble_eq_true rfl) rfl ((hS.fix hw hF).g rfl) ?_
      refine g19 hC rfl rfl (Nat.le_of_ble_eq_true rfl) rfl ct1.2.2.1 ?_
      refine c1 hC rfl rfl rfl (Nat.le_of_ble_eq_true rfl) (Nat.le_of_ble_eq_true rfl) rfl m89 (by omega) (fun x M2 hr => ?_)
      obtain ⟨rfl, hr⟩ := hr; replace hr := hr.symm; subst hr
      refine ret3 hC rfl ⟨by omega, by omega⟩ ?_
      refine FP.no ((hS.up rfl).up rfl) (o1.trans (OPr.tx ((Sb.refl.up rfl).up rfl))) ?_ CF.up
      rw [eF, if_neg (by rw [nW hy (by omega)]; decide)]
  refine g3 hC rfl rfl ?_
  refine g19 hC rfl rfl (Nat.le_of_ble_eq_true rfl) rfl ((hS.fix hw hF).g rfl) ?_
  refine g2 hC rfl ?_
  refine c1 hC rfl rfl rfl (Nat.le_of_ble_eq_true rfl) (Nat.le_of_ble_eq_true rfl) rfl (m93 (hS.fix hw hF) hn hq (by omega) ts36 (w := w_min) (tb36.trans (List.append_nil _)) tbn36.1) (by omega) (fun v MX hr => ?_)
  obtain ⟨hv, hr⟩ := hr; replace hr := hr.symm; subst hr
  refine g12e hC rfl (fun h4 => ?_) (fun h4 => ?_)
  ·
    refine g0 hC rfl ?_
    exact main _ (by rw [nW hv (by omega)]; rfl)
  ·
    refine g0 hC rfl ?_
    refine g14 hC rfl ?_
    exact main _ (by rw [yW hv (by omega)]; rfl)
end CLG
section CPT
variable {L : Nat} {X : Nat → Int} {T : Nat → Int} {n p k : Nat}
theorem m92k (hn : n ≤ 1600) (hk : k ≤ 2) {M : ax_M} {q : PS} (hF : Fix M) (hq : CT T n q M) (hqn : q.1 ≤ n) : ax_Ev L X SH 4 92 [(2, 1), (2, txk k)] M (R1 0 (fun x M' => x = fnd T n q 0 (lw k) ∧ M' = M)) := by
  have : k = 0 ∨ k = 1 ∨ k = 2 := by omega
  rcases this with rfl | rfl | rfl
  · exact m92 hF hn hq hqn ts30 tb30 tbn30.1 tbn30.2
  · exact m92 hF hn hq hqn ts46 tb46 tbn46.1 tbn46.2
  · exact m92 hF hn hq hqn ts48 tb48 tbn48.1 tbn48.2
theorem fnd_b {q : PS} {ws : List (List Int)} : ∀ i : Nat, fnd T n q i ws = -1 ∨ ((i : Int) ≤ fnd T n q i ws ∧ fnd T n q i ws < i + ws.length) := by
  induction ws with
  | nil => intro i; exact Or.inl rfl
  | cons w r ih =>
    intro i
    have e : fnd T n q i (w :: r) = if isW T n q w = true then (i : Int) else fnd T n q (i + 1) r := rfl
    have el : ((w :: r).length : Int) = r.length + 1 := rfl
    rw [e, el]
    split
    · right; omega
    · rcases ih (i + 1) with h | h
      · exact Or.inl h
      · right; omega
theorem cs_leaf (hk : k ≤ 2) {i : Int} (h0 : 0 ≤ i) (h1 : i < (lw k).length) : cs k (40 + lcd k i) = -100 - i := by
  have : k = 0 ∨ k = 1 ∨ k = 2 := by omega
  rcases this with rfl | rfl | rfl
  · have h1 : i < 5 := h1
    have : i = 0 ∨ i = 1 ∨ i = 2 ∨ i = 3 ∨ i = 4 := by omega
    rcases this with rfl | rfl | rfl | rfl | rfl <;> rfl
  · have h1 : i < 5 := h1
    have : i = 0 ∨ i = 1 ∨ i = 2 ∨ i = 3 ∨ i = 4 := by omega
    rcases this with rfl | rfl | rfl | rfl | rfl <;> rfl
  · have h1 : i < 7 := h1
    have : i = 0 ∨ i = 1 ∨ i = 2 ∨ i = 3 ∨ i = 4 ∨ i = 5 ∨ i = 6 := by omega
    rcases this with rfl | rfl | rfl | rfl | rfl | rfl | rfl <;> rfl
theorem cs_num {v : Int} (h : 0 ≤ v) : cs k (1000 + v) = v := by
  unfold cs; rw [if_pos (by omega)]; omega
theorem m27 (hn : n ≤ 1600) (hp : isP p) (hk : k ≤ 2) {r : Nat} {opn : Bool} {sm pt : PS → PRs} (hr6 : r ≤ 6) (ho : opn = true ↔ 0 < r) (hs : 0 < r → CTR L X T n p k (5 + 4 * r) 25 (r - 1) sm) (hpt : 0 < r → CTR L X T n p k (3 + 4 * r) 27 (r - 1) pt) (gs : GoodF T n sm) (gp : GoodF T n pt) : CTR L X T n p k (7 + 4 * r) 27 r (partF T n k opn sm pt) := by
  intro M q C hF hI
  show ax_G L X SH (7 + 4 * r) 27 0 [(2, 6), (0, ((6 - r : Nat) : Int)), (3, 0)] [] M _
  have hC := at27
  have hS : Sb WFO M M := Sb.refl
  have hw : wok WFO = true := by decide +kernel
  have hI0 := hI
  obtain ⟨hq, hpc, hcl, hqn, hfm⟩ := hI
  have w1 := wq_nx (T := T) hqn
  have eP : partF T n k opn sm pt q = if kd T n q = 2 then (match nuR T n q 0 9999 with | some e => .inl e | none => .inr (nx T n q, [1000 + nuV T n q])) else if isG T n q 40 = true then (if opn = true then thn (sm (nx T n q)) (fun q1 c => tkS T n q1 41 c) else .inl (4, (q.1 : Int))) else if isW T n q w_min = true ∨ isW T n q w_max = true then lgF T n opn sm q else if k = 2 ∧ isW T n q w_meets = true then (if opn = true then thn (pt (nx T n q)) (fun q1 c => .inr (q1, c ++ [60])) else .inl (4, (q.1 : Int))) else if fnd T n q 0 (lw k) = -1 then .inl (1, (q.1 : Int)) else .inr (nx T n q, [40 + lcd k (fnd T n q 0 (lw k))]) := rfl
  obtain ⟨wm, hwm⟩ : ∃ wm : Int, wm = if k = 2 then 1 else 0 := ⟨_, rfl⟩
  have hfm3 : M 6 3 = wm := hfm.2.2.trans hwm.symm
  have hwm := ite01 hwm
  have leaf : ∀ M1, M1 = M → kd T n q ≠ 2 → isG T n q 40 = false → isW T n q w_min = false → isW T n q w_max = false → ¬ (k = 2 ∧ isW T n q w_meets = true) → ax_G L X SH (7 + 4 * r) 27 85 [(2, 6), (0, ((6 - r : Nat) : Int)), (3, 0)] [] M1 (R1 0 (FP T n p k C M (partF T n k opn sm pt q))) := by
    intro M1 e1 a1 a2 a3 a4 a5
    subst e1
    have eP2 : partF T n k opn sm pt q = if fnd T n q 0 (lw k) = -1 then .inl (1, (q.1 : Int)) else .inr (nx T n q, [40 + lcd k (fnd T n q 0 (lw k))]) := by
      rw [eP, if_neg a1, if_neg (by rw [a2]; decide), if_neg (by rw [a3, a4]; decide), if_neg a5]
    have hb := fnd_b (T := T) (n := n) (q := q) (ws := lw k) 0
    refine g3 hC rfl rfl ?_
    refine g19 hC rfl rfl (Nat.le_of_ble_eq_true rfl) rfl ((hS.fix hw hF).g rfl) ?_
    refine g3 hC rfl rfl ?_
    refine g19 hC rfl rfl (Nat.le_of_ble_eq_true rfl) rfl hfm.2.1 ?_
    refine c1 hC rfl rfl rfl (Nat.le_of_ble_eq_true rfl) (Nat.le_of_ble_eq_true rfl) rfl (m92k hn hk hF hq hqn) (by omega) (fun x MX hr => ?_)
    obtain ⟨rfl, hr⟩ := hr; replace hr := hr.symm; subst hr
    refine s2 hC rfl rfl rfl ?_
    refine g3 hC rfl rfl ?_
    refine g0 hC rfl ?_
    refine g13n hC rfl (fun h93 => ?_) (fun h93 => ?_)
    ·
      refine g3 hC rfl rfl ?_
      refine g19 hC rfl rfl (Nat.le_of_ble_eq_true rfl) rfl ((hS.fix hw hF).g rfl) ?_
      refine c0 hC rfl rfl rfl (Nat.le_of_ble_eq_true rfl) (Nat.le_of_ble_eq_true rfl) rfl (m90q (hS.fix hw hF) hn hq hqn) (by omega) (fun M2 hr => ?_)
      obtain ⟨hr0, ct1⟩ := hr; have hS := hS.then hr0 rfl; have o1 : OPr p M1 M2 := OPr.tx (hr0.mono rfl); have pc1 := hpc.tx hp (hr0.mono rfl); have g1 := nx_gt (T := T) (fnd_lt h93)
      refine g3 hC rfl rfl ?_
      refine g19 hC rfl rfl (Nat.le_of_ble_eq_true rfl) rfl ((hfm.sb hS).1) ?_
      refine g0 hC rfl ?_
      refine g3 hC rfl rfl ?_
      refine g6s hC rfl ⟨by have : (lw k).length ≤ 7 := by { unfold lw; split; decide; split; decide; decide }; omega, by omega⟩ ?_
      refine c0 hC rfl rfl rfl (Nat.le_of_ble_eq_true rfl) (Nat.le_of_ble_eq_true rfl) (mayP hp rfl rfl rfl rfl rfl) (m59 (hS.fix hw hF) hp pc1 (by have := w1.1; omega) (cs_leaf hk (by omega) (by omega)).symm) (by omega) (fun M3 hr => ?_)
      obtain ⟨ha0, ha1, ha2, ha3, ha4⟩ := hr; have hS := hS.trans ha0
      refine g0 hC rfl ?_
      refine ret3 hC rfl ⟨by omega, by omega⟩ ?_
      exact FP.ok hS (o1.trans ha1) (by rw [eP2, if_neg h93]) (ct1.same ha3 ha4) ha2
    ·
      refine g3 hC rfl rfl ?_
      refine g19 hC rfl rfl (Nat.le_of_ble_eq_true rfl) rfl ((hS.fix hw hF).g rfl) ?_
      refine g0 hC rfl ?_
      refine g3 hC rfl rfl ?_
      refine g19 hC rfl rfl (Nat.le_of_ble_eq_true rfl) rfl ((hS.fix hw hF).g rfl) ?_
      refine g19 hC rfl rfl (Nat.le_of_ble_eq_true rfl) rfl hq.2.2.1 ?_
      refine c1 hC rfl rfl rfl (Nat.le_of_ble_eq_true rfl) (Nat.le_of_ble_eq_true rfl) rfl m89 (by omega) (fun x MX hr => ?_)
      obtain ⟨rfl, hr⟩ := hr; replace hr := hr.symm; subst hr
      refine ret3 hC rfl ⟨by omega, by omega⟩ ?_
      refine FP.no ((hS.up rfl).up rfl) (OPr.tx ((Sb.refl.up rfl).up rfl)) ?_ CF.up
      rw [eP2, if_pos (by omega)]
  have lg : ∀ M1, M1 = M → kd T n q ≠ 2 → isG T n q 40 = false → (isW T n q w_min = true ∨ isW T n q w_max = true) → ax_G L X SH (7 + 4 * r) 27 55 [(2, 6), (0, ((6 - r : Nat) : Int)), (3, 0)] [] M1 (R1 0 (FP T n p k C M (partF T n k opn sm pt q))) := by
    intro M1 e1 a1 a2 a3
    subst e1
    rw [eP, if_neg a1, if_neg (by rw [a2]; decide), if_pos a3]
    refine g3 hC rfl rfl ?_
    refine g3 hC rfl rfl ?_
    refine c1 hC rfl rfl rfl (Nat.le_of_ble_eq_true rfl) (Nat.le_of_ble_eq_true rfl) rfl (m28 hn hp hr6 ho hs gs hF hI0 a3) (by omega) (fun x MX hr => ?_)
    refine ret3 hC rfl (FP.b hr) ?_
    exact hr
  refine g3 hC rfl rfl ?_
  refine g19 hC rfl rfl (Nat.le_of_ble_eq_true rfl) rfl ((hS.fix hw hF).g rfl) ?_
  refine g19 hC rfl rfl (Nat.le_of_ble_eq_true rfl) rfl hq.2.1 ?_
  refine g0 hC rfl ?_
  refine g13n hC rfl (fun h4 => ?_) (fun h4 => ?_)
  ·
    refine g3 hC rfl rfl ?_
    refine g19 hC rfl rfl (Nat.le_of_ble_eq_true rfl) rfl ((hS.fix hw hF).g rfl) ?_
    refine g0 hC rfl ?_
    refine c1 hC rfl rfl rfl (Nat.le_of_ble_eq_true rfl) (Nat.le_of_ble_eq_true rfl) rfl (m94 (hS.fix hw hF) hn hq hqn) (by omega) (fun y MX hr => ?_)
    obtain ⟨hy, hr⟩ := hr; replace hr := hr.symm; subst hr
    refine g12e hC rfl (fun h25 => ?_) (fun h25 => ?_)
    ·
      refine g3 hC rfl rfl ?_
      refine g19 hC rfl rfl (Nat.le_of_ble_eq_true rfl) rfl ((hS.fix hw hF).g rfl) ?_
      refine g2 hC rfl ?_
      refine c1 hC rfl rfl rfl (Nat.le_of_ble_eq_true rfl) (Nat.le_of_ble_eq_true rfl) rfl (m93 (hS.fix hw hF) hn hq hqn ts36 (w := w_min) (tb36.trans (List.append_nil _)) tbn36.1) (by omega) (fun u MX hr => ?_)
      obtain ⟨hu, hr⟩ := hr; replace hr := hr.symm; subst hr
      refine g12n hC rfl (fun h49 => ?_) (fun h49 => ?_)
      ·
        exact lg _ rfl (by omega) (nW hy (by omega)) (Or.inl (yW hu (by omega)))
      ·
        refine g3 hC rfl rfl ?_
        refine g19 hC rfl rfl (Nat.le_of_ble_eq_true rfl) rfl ((hS.fix hw hF).g rfl) ?_
        refine g2 hC rfl ?_
        refine c1 hC rfl rfl rfl (Nat.le_of_ble_eq_true rfl) (Nat.le_of_ble_eq_true rfl) rfl (m93 (hS.fix hw hF) hn hq hqn ts38 (w := w_max) (tb38.trans (List.append_nil _)) tbn38.1) (by omega) (fun v MX hr => ?_)
        obtain ⟨hv, hr⟩ := hr; replace hr := hr.symm; subst hr
        refine g12e hC rfl (fun h54 => ?_) (fun h54 => ?_)
        ·
          refine g3 hC rfl rfl ?_
          refine g19 hC rfl rfl (Nat.le_of_ble_eq_true rfl) rfl hfm3 ?_
          refine g12e hC rfl (fun h61 => ?_) (fun h61 => ?_)
          ·
            exact leaf _ rfl (by omega) (nW hy (by omega)) (nW hu (by omega)) (nW hv (by omega)) (fun z => by omega)
          ·
            refine g3 hC rfl rfl ?_
            refine g19 hC rfl rfl (Nat.le_of_ble_eq_true rfl) rfl ((hS.fix hw hF).g rfl) ?_
            refine g2 hC rfl ?_
            refine c1 hC rfl rfl rfl (Nat.le_of_ble_eq_true rfl) (Nat.le_of_ble_eq_true rfl) rfl (m93 (hS.fix hw hF) hn hq hqn ts40 (w := w_meets) (tb40.trans (List.append_nil _)) tbn40.1) (by omega) (fun z MX hr => ?_)
            obtain ⟨hz, hr⟩ := hr; replace hr := hr.symm; subst hr
            refine g12e hC rfl (fun h66 => ?_) (fun h66 => ?_)
            ·
              exact leaf _ rfl (by omega) (nW hy (by omega)) (nW hu (by omega)) (nW hv (by omega)) (fun y => by rw [nW hz (by omega)] at y; cases y.2)
            ·
              refine g3 hC rfl rfl ?_
              refine g3 hC rfl rfl ?_
              refine c1 hC rfl rfl rfl (Nat.le_of_ble_eq_true rfl) (Nat.le_of_ble_eq_true rfl) rfl (m29 (hS.fix hw hF) hn hq hqn hr6) (by omega) (fun xo M2 hr => ?_)
              obtain ⟨ho0, ho1⟩ := hr; have hS := hS.then ho0 rfl; have o2 : OPr p M M2 := OPr.tx ho0; have pc2 := hpc.tx hp ho0
              refine g12e hC rfl (fun h70 => ?_) (fun h70 => ?_)
              ·
                refine g0 hC rfl ?_
                refine ret3 hC rfl ⟨by omega, by omega⟩ ?_
                obtain ⟨z0, rfl, zc⟩ : r = 0 ∧ xo = 0 ∧ CF 4 q.1 M2 := by rcases ho1 with z | z; exact z; exact absurd h70 (by omega)
                refine FP.no hS o2 ?_ zc
                rw [eP, if_neg (by omega), if_neg (by rw [nW hy (by omega)]; decide), if_neg (by rw [nW hu (by omega), nW hv (by omega)]; decide), if_pos ⟨by omega, yW hz (by omega)⟩, if_neg (fun z => by have := ho.1 z; omega)]
              ·
                have ho2 : 0 < r ∧ CT T n (nx T n q) M2 := by rcases ho1 with z | z; exact absurd z.2.1 h70; exact ⟨z.1, z.2.2⟩
                have g1 := nx_gt (T := T) (n := n) (q := q) (isW_lt (yW hz (by omega)))
                refine g3 hC rfl rfl ?_
                refine g3 hC rfl rfl ?_
                refine g0 hC rfl ?_
                refine g6a hC rfl ⟨by omega, by omega⟩ ?_
                rw [show ((6 - r : Nat) : Int) + 1 = ((6 - (r - 1) : Nat) : Int) by omega]
                refine c1 hC rfl rfl rfl (Nat.le_of_ble_eq_true rfl) (Nat.le_of_ble_eq_true rfl) rfl (hpt ho2.1 M2 (nx T n q) C (hS.fix hw hF) ⟨ho2.2, pc2, by omega, w1.1, hfm.sb hS⟩) (by omega) (fun xs M3 hr => ?_)
                have hs3 := hr; have hS := hS.trans hr.1; have o3 := o2.trans hr.2.1
                refine g12n hC rfl (fun h76 => ?_) (fun h76 => ?_)
                ·
                  obtain ⟨q2, cc, e2, ct3, pc3⟩ := hs3.y h76
                  have gg := gp _ w1.1 q2 cc e2
                  refine g3 hC rfl rfl ?_
                  refine g19 hC rfl rfl (Nat.le_of_ble_eq_true rfl) rfl ((hfm.sb hS).1) ?_
                  refine g0 hC rfl ?_
                  refine c0 hC rfl rfl rfl (Nat.le_of_ble_eq_true rfl) (Nat.le_of_ble_eq_true rfl) (mayP hp rfl rfl rfl rfl rfl) (m59 (hS.fix hw hF) hp pc3 (by rw [List.length_append]; have := gg.2.2.1; omega) (v := 60) rfl) (by omega) (fun M4 hr => ?_)
                  obtain ⟨ha0, ha1, ha2, ha3, ha4⟩ := hr; have hS := hS.trans ha0
                  refine g0 hC rfl ?_
                  refine ret3 hC rfl ⟨by omega, by omega⟩ ?_
                  refine FP.ok (c := cc ++ [60]) hS (o3.trans ha1) ?_ (ct3.same ha3 ha4) (by rw [← List.append_assoc]; exact ha2)
                  rw [eP, if_neg (by omega), if_neg (by rw [nW hy (by omega)]; decide), if_neg (by rw [nW hu (by omega), nW hv (by omega)]; decide), if_pos ⟨by omega, yW hz (by omega)⟩, if_pos (ho.2 ho2.1), e2]; rfl
                ·
                  refine g0 hC rfl ?_
                  refine ret3 hC rfl ⟨by omega, by omega⟩ ?_
                  obtain ⟨f, pl, e2, zc⟩ := hs3.ng (by omega)
                  refine FP.no hS o3 ?_ zc
                  rw [eP, if_neg (by omega), if_neg (by rw [nW hy (by omega)]; decide), if_neg (by rw [nW hu (by omega), nW hv (by omega)]; decide), if_pos ⟨by omega, yW hz (by omega)⟩, if_pos (ho.2 ho2.1), e2]; rfl
        ·
          exact lg _ rfl (by omega) (nW hy (by omega)) (Or.inr (yW hv (by omega)))
    ·
      refine g3 hC rfl rfl ?_
      refine g3 hC rfl rfl ?_
      refine c1 hC rfl rfl rfl (Nat.le_of_ble_eq_true rfl) (Nat.le_of_ble_eq_true rfl) rfl (m29 (hS.fix hw hF) hn hq hqn hr6) (by omega) (fun xo M2 hr => ?_)
      obtain ⟨ho0, ho1⟩ := hr; have hS := hS.then ho0 rfl; have o2 : OPr p M M2 := OPr.tx ho0; have pc2 := hpc.tx hp ho0
      refine g12e hC rfl (fun h29 => ?_) (fun h29 => ?_)
      ·
        refine g0 hC rfl ?_
        refine ret3 hC rfl ⟨by omega, by omega⟩ ?_
        obtain ⟨z0, rfl, zc⟩ : r = 0 ∧ xo = 0 ∧ CF 4 q.1 M2 := by rcases ho1 with z | z; exact z; exact absurd h29 (by omega)
        refine FP.no hS o2 ?_ zc
        rw [eP, if_neg (by omega), if_pos (yW hy (by omega)), if_neg (fun z => by have := ho.1 z; omega)]
      ·
        have ho2 : 0 < r ∧ CT T n (nx T n q) M2 := by rcases ho1 with z | z; exact absurd z.2.1 h29; exact ⟨z.1, z.2.2⟩
        have g1 := nx_gt (T := T) (n := n) (q := q) (isG_lt (yW hy (by omega)))
        refine g3 hC rfl rfl ?_
        refine g3 hC rfl rfl ?_
        refine g0 hC rfl ?_
        refine g6a hC rfl ⟨by omega, by omega⟩ ?_
        rw [show ((6 - r : Nat) : Int) + 1 = ((6 - (r - 1) : Nat) : Int) by omega]
        refine c1 hC rfl rfl rfl (Nat.le_of_ble_eq_true rfl) (Nat.le_of_ble_eq_true rfl) rfl (hs ho2.1 M2 (nx T n q) C (hS.fix hw hF) ⟨ho2.2, pc2, by omega, w1.1, hfm.sb hS⟩) (by omega) (fun xs M3 hr => ?_)
        have hs3 := hr; have hS := hS.trans hr.1; have o3 := o2.trans hr.2.1
        refine g12e hC rfl (fun h35 => ?_) (fun h35 => ?_)
        ·
          refine g0 hC rfl ?_
          refine ret3 hC rfl ⟨by omega, by omega⟩ ?_
          obtain ⟨f, pl, e2, zc⟩ := hs3.ng (by omega)
          refine FP.no hS o3 ?_ zc
          rw [eP, if_neg (by omega), if_pos (yW hy (by omega)), if_pos (ho.2 ho2.1), e2]; rfl
        ·
          obtain ⟨q2, cc, e2, ct3, pc3⟩ := hs3.y h35
          have gg := gs _ w1.1 q2 cc e2
          refine g3 hC rfl rfl ?_
          refine g19 hC rfl rfl (Nat.le_of_ble_eq_true rfl) rfl ((hS.fix hw hF).g rfl) ?_
          refine g0 hC rfl ?_
          refine c1 hC rfl rfl rfl (Nat.le_of_ble_eq_true rfl) (Nat.le_of_ble_eq_true rfl) rfl (m96r (hS.fix hw hF) hn ct3 gg.2.2.1) (by omega) (fun xk M4 hr => ?_)
          obtain ⟨hk0, hk1⟩ := hr
          refine g12e hC rfl (fun h40 => ?_) (fun h40 => ?_)
          ·
            refine g0 hC rfl ?_
            refine ret3 hC rfl ⟨by omega, by omega⟩ ?_
            have ex : xk = 0 := by omega
            subst ex
            refine FP.sg hp hS o3 pc3 hk0 hk1 ?_
            rw [eP, if_neg (by omega), if_pos (yW hy (by omega)), if_pos (ho.2 ho2.1), e2]; rfl
          ·
            refine g0 hC rfl ?_
            refine g14 hC rfl ?_
            refine ret3 hC rfl ⟨by omega, by omega⟩ ?_
            have ex : xk = 1 := by have := hk1.b; omega
            subst ex
            refine FP.sg hp hS o3 pc3 hk0 hk1 ?_
            rw [eP, if_neg (by omega), if_pos (yW hy (by omega)), if_pos (ho.2 ho2.1), e2]; rfl
  ·
    refine g3 hC rfl rfl ?_
    refine g19 hC rfl rfl (Nat.le_of_ble_eq_true rfl) rfl ((hS.fix hw hF).g rfl) ?_
    refine g0 hC rfl ?_
    refine g0 hC rfl ?_
    refine c1 hC rfl rfl rfl (Nat.le_of_ble_eq_true rfl) (Nat.le_of_ble_eq_true rfl) rfl (m97r (hS.fix hw hF) hn hq hqn (lo := 0) (hi := 9999)) (by omega) (fun x M2 hr => ?_)
    obtain ⟨hn0, hn1⟩ := hr; have hS := hS.then hn0 rfl; have o1 : OPr p M M2 := OPr.tx hn0; have pc1 := hpc.tx hp hn0
    refine g12n hC rfl (fun h10 => ?_) (fun h10 => ?_)
    ·
      obtain ⟨en, ct1, e6⟩ := hn1.y h10
      have h2k : kd T n q = 2 := by omega
      have g1 := nx_gt (T := T) (kd_2 h2k).2.1
      have hv0 : 0 ≤ nuV T n q := by { unfold nuR at en; rw [if_neg (fun z => z h2k)] at en; split at en; cases en; split at en; omega; cases en }
      refine g3 hC rfl rfl ?_
      refine g19 hC rfl rfl (Nat.le_of_ble_eq_true rfl) rfl ((hfm.sb hS).1) ?_
      refine g3 hC rfl rfl ?_
      refine g19 hC rfl rfl (Nat.le_of_ble_eq_true rfl) rfl ((hS.fix hw hF).g rfl) ?_
      refine g19 hC rfl rfl (Nat.le_of_ble_eq_true rfl) rfl e6 ?_
      refine c0 hC rfl rfl rfl (Nat.le_of_ble_eq_true rfl) (Nat.le_of_ble_eq_true rfl) (mayP hp rfl rfl rfl rfl rfl) (m59 (hS.fix hw hF) hp pc1 (by have := w1.1; omega) (cs_num hv0).symm) (by omega) (fun M3 hr => ?_)
      obtain ⟨ha0, ha1, ha2, ha3, ha4⟩ := hr; have hS := hS.trans ha0
      refine g0 hC rfl ?_
      refine ret3 hC rfl ⟨by omega, by omega⟩ ?_
      refine FP.ok hS (o1.trans ha1) ?_ (ct1.same ha3 ha4) ha2
      rw [eP, if_pos h2k, en]
    ·
      refine g0 hC rfl ?_
      refine ret3 hC rfl ⟨by omega, by omega⟩ ?_
      obtain ⟨f, pl, en, zc⟩ := hn1.ng (by omega)
      refine FP.no hS o1 ?_ zc
      rw [eP, if_pos (by omega), en]
end CPT
