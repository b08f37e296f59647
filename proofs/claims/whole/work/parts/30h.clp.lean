section CLP
variable {L : Nat} {X : Nat → Int} {T : Nat → Int} {n p k : Nat}
theorem m26 (hn : n ≤ 1600) (hp : isP p) {r d : Nat} {sub : PS → PRs} (hd : 5 ≤ d) (hs : CTR L X T n p k d 27 r sub) (gs : GoodF T n sub) : CTR L X T n p k (d + 1) 26 r (fun q => thn (sub q) (fun q1 c => opF T n 42 47 3 4 sub 1600 q1 c)) := by
  intro M q C hF hI
  show ax_G L X SH (d + 1) 26 0 [(2, 6), (0, ((6 - r : Nat) : Int)), (3, 0), (3, 0)] [] M _
  have hC := at26
  have hw : wok WFO = true := by decide +kernel
  have hfm := hI.2.2.2.2
  have lp : ∀ (f j : Nat) (q1 : PS) (cA : List Int) (M1 : ax_M) (v : ax_V), j + f = 1600 → Sb WFO M M1 → OPr p M M1 → CT T n q1 M1 → PC M1 p k (C ++ cA) → (C ++ cA).length ≤ q1.1 → wq T n q1 → (v.1 == 1) = false → ax_G L X SH (d + 1) 26 8 [(2, 6), (0, ((6 - r : Nat) : Int)), (0, (j : Int)), v] [] M1 (R1 0 (FP T n p k C M (opF T n 42 47 3 4 sub f q1 cA))) := by
    intro f
    induction f with
    | zero =>
      intro j q1 cA M1 v hj hS hO hq hpc hl w1 hv
      refine g3 hC rfl rfl ?_
      refine g0 hC rfl ?_
      refine g13g hC rfl (fun h10 => ?_) (fun h10 => (by omega))
      refine g0 hC rfl ?_
      refine ret3 hC rfl ⟨by omega, by omega⟩ ?_
      exact FP.ok hS hO rfl hq hpc
    | succ f ih =>
      intro j q1 cA M1 v hj hS hO hq hpc hl w1 hv
      have eF : opF T n 42 47 3 4 sub (f + 1) q1 cA = if isG T n q1 42 = true ∨ isG T n q1 47 = true then thn (sub (nx T n q1)) (fun q2 c1 => opF T n 42 47 3 4 sub f q2 (cA ++ c1 ++ [if isG T n q1 42 = true then 3 else 4])) else .inr (q1, cA) := rfl
      have go : ∀ sg, sg = cs k (if isG T n q1 42 = true then 3 else 4) → (isG T n q1 42 = true ∨ isG T n q1 47 = true) → ax_G L X SH (d + 1) 26 30 [(2, 6), (0, ((6 - r : Nat) : Int)), (0, (j : Int)), (0, sg)] [] M1 (R1 0 (FP T n p k C M (opF T n 42 47 3 4 sub (f + 1) q1 cA))) := by
        intro sg hsg hab
        have hlt : q1.1 < n := by rcases hab with z | z <;> exact isG_lt z
        have g1 := nx_gt (T := T) hlt
        have w2 := wq_nx (T := T) w1.1
        rw [eF, if_pos hab]
        refine g3 hC rfl rfl ?_
        refine g19 hC rfl rfl (Nat.le_of_ble_eq_true rfl) rfl ((hS.fix hw hF).g rfl) ?_
        refine c0 hC rfl rfl rfl (Nat.le_of_ble_eq_true rfl) (Nat.le_of_ble_eq_true rfl) rfl (m90q (hS.fix hw hF) hn hq w1.1) (by omega) (fun M2 hr => ?_)
        obtain ⟨hr0, ct2⟩ := hr; have hS := hS.then hr0 rfl; have o2 := hO.trans (OPr.tx (p := p) (hr0.mono rfl)); have pc2 := hpc.tx hp (hr0.mono rfl)
        refine g3 hC rfl rfl ?_
        refine g3 hC rfl rfl ?_
        refine c1 hC rfl rfl rfl (Nat.le_of_ble_eq_true rfl) (Nat.le_of_ble_eq_true rfl) rfl (hs M2 (nx T n q1) (C ++ cA) (hS.fix hw hF) ⟨ct2, pc2, by omega, w2.1, hfm.sb hS⟩) (by omega) (fun xs M3 hr => ?_)
        have hs3 := hr; have hS := hS.trans hr.1; have o3 := o2.trans hr.2.1
        refine g12n hC rfl (fun h36 => ?_) (fun h36 => ?_)
        ·
          obtain ⟨q2, cc, e2, ct3, pc3⟩ := hs3.y h36
          have gg := gs _ w2.1 q2 cc e2
          refine g3 hC rfl rfl ?_
          refine g19 hC rfl rfl (Nat.le_of_ble_eq_true rfl) rfl ((hfm.sb hS).1) ?_
          refine g3 hC rfl rfl ?_
          refine c0 hC rfl rfl rfl (Nat.le_of_ble_eq_true rfl) (Nat.le_of_ble_eq_true rfl) (mayP hp rfl rfl rfl rfl rfl) (m59 (hS.fix hw hF) hp pc3 (by rw [List.length_append]; have := gg.2.2.1; omega) hsg) (by omega) (fun M4 hr => ?_)
          obtain ⟨ha0, ha1, ha2, ha3, ha4⟩ := hr; have hS := hS.trans ha0
          refine n2 hC rfl rfl ⟨by omega, by omega⟩ ?_
          refine g14 hC rfl ?_
          rw [e2]
          rw [List.append_assoc, List.append_assoc] at ha2
          have key := ih (j + 1) q2 (cA ++ cc ++ [if isG T n q1 42 = true then 3 else 4]) M4 (0, sg) (by omega) hS (o3.trans ha1) (ct3.same ha3 ha4) (by rw [List.append_assoc]; exact ha2) ?_ gg.2.2 rfl
          · rw [show (j : Int) + 1 = ((j + 1 : Nat) : Int) by omega]; exact key
          · rw [List.length_append] at hl ⊢
            rw [List.length_append, List.length_append]; show C.length + (cA.length + cc.length + 1) ≤ _; omega
        ·
          refine g0 hC rfl ?_
          refine ret3 hC rfl ⟨by omega, by omega⟩ ?_
          obtain ⟨f', pl, e2, zc⟩ := hs3.ng (by omega)
          exact FP.no hS o3 (by rw [e2]; rfl) zc
      obtain ⟨v1, v2⟩ := v
      refine g3 hC rfl rfl ?_
      refine g0 hC rfl ?_
      refine g13g hC rfl (fun h10 => (by omega)) (fun h10 => ?_)
      refine g3 hC rfl rfl ?_
      refine g19 hC rfl rfl (Nat.le_of_ble_eq_true rfl) rfl ((hS.fix hw hF).g rfl) ?_
      refine g0 hC rfl ?_
      refine c1 hC rfl rfl rfl (Nat.le_of_ble_eq_true rfl) (Nat.le_of_ble_eq_true rfl) rfl (m94 (hS.fix hw hF) hn hq w1.1) (by omega) (fun y MX hr => ?_)
      obtain ⟨hy, hr⟩ := hr; replace hr := hr.symm; subst hr
      refine g12n hC rfl (fun h15 => ?_) (fun h15 => ?_)
      ·
        refine g3 hC rfl rfl ?_
        refine g19 hC rfl rfl (Nat.le_of_ble_eq_true rfl) rfl ((hS.fix hw hF).g rfl) ?_
        refine g0 hC rfl ?_
        refine c1 hC rfl rfl rfl (Nat.le_of_ble_eq_true rfl) (Nat.le_of_ble_eq_true rfl) rfl (m94 (hS.fix hw hF) hn hq w1.1) (by omega) (fun u MX hr => ?_)
        obtain ⟨hu, hr⟩ := hr; replace hr := hr.symm; subst hr
        refine g12e hC rfl (fun h25 => ?_) (fun h25 => ?_)
        ·
          refine g0 hC rfl ?_
          refine s3 hC rfl rfl rfl ?_
          exact absurd (yW hy (by omega)) (by rw [nW hu (by omega)]; decide)
        ·
          refine g0 hC rfl ?_
          refine g14 hC rfl ?_
          refine s3 hC rfl rfl rfl ?_
          exact go _ (by rw [yW hy (by omega)]; rfl) (Or.inl (yW hy (by omega)))
      ·
        refine g3 hC rfl rfl ?_
        refine g19 hC rfl rfl (Nat.le_of_ble_eq_true rfl) rfl ((hS.fix hw hF).g rfl) ?_
        refine g0 hC rfl ?_
        refine c1 hC rfl rfl rfl (Nat.le_of_ble_eq_true rfl) (Nat.le_of_ble_eq_true rfl) rfl (m94 (hS.fix hw hF) hn hq w1.1) (by omega) (fun z MX hr => ?_)
        obtain ⟨hz, hr⟩ := hr; replace hr := hr.symm; subst hr
        refine g12e hC rfl (fun h20 => ?_) (fun h20 => ?_)
        ·
          refine g0 hC rfl ?_
          refine ret3 hC rfl ⟨by omega, by omega⟩ ?_
          refine FP.ok hS hO ?_ hq hpc
          rw [eF, if_neg (by rw [nW hy (by omega), nW hz (by omega)]; decide)]
        ·
          refine g3 hC rfl rfl ?_
          refine g19 hC rfl rfl (Nat.le_of_ble_eq_true rfl) rfl ((hS.fix hw hF).g rfl) ?_
          refine g0 hC rfl ?_
          refine c1 hC rfl rfl rfl (Nat.le_of_ble_eq_true rfl) (Nat.le_of_ble_eq_true rfl) rfl (m94 (hS.fix hw hF) hn hq w1.1) (by omega) (fun u MX hr => ?_)
          obtain ⟨hu, hr⟩ := hr; replace hr := hr.symm; subst hr
          refine g12e hC rfl (fun h25 => ?_) (fun h25 => ?_)
          ·
            refine g0 hC rfl ?_
            refine s3 hC rfl rfl rfl ?_
            exact go _ (by rw [nW hu (by omega)]; rfl) (Or.inr (yW hz (by omega)))
          ·
            refine g0 hC rfl ?_
            refine g14 hC rfl ?_
            refine s3 hC rfl rfl rfl ?_
            exact absurd (yW hu (by omega)) (by rw [nW hy (by omega)]; decide)
  obtain ⟨hq, hpc, hcl, hqn, _⟩ := id hI
  have hS : Sb WFO M M := Sb.refl
  refine g3 hC rfl rfl ?_
  refine g3 hC rfl rfl ?_
  refine c1 hC rfl rfl rfl (Nat.le_of_ble_eq_true rfl) (Nat.le_of_ble_eq_true rfl) rfl (hs M q C hF hI) (by omega) (fun xs M3 hr => ?_)
  have hs3 := hr; have hS := hr.1
  refine g12n hC rfl (fun h3 => ?_) (fun h3 => ?_)
  ·
    refine g0 hC rfl ?_
    refine s2 hC rfl rfl rfl ?_
    obtain ⟨q2, cc, e2, ct3, pc3⟩ := hs3.y h3
    have gg := gs _ hqn q2 cc e2
    have key := lp 1600 0 q2 cc M3 (3, 0) (Nat.zero_add _) hS hs3.2.1 ct3 pc3 (by rw [List.length_append]; omega) gg.2.2 rfl
    show ax_G _ _ _ _ _ _ _ _ _ (R1 0 (FP T n p k C M (thn (sub q) _)))
    rw [e2]; exact key
  ·
    refine g0 hC rfl ?_
    refine ret3 hC rfl ⟨by omega, by omega⟩ ?_
    obtain ⟨f, pl, e2, zc⟩ := hs3.ng (by omega)
    refine FP.no hS hs3.2.1 ?_ zc
    show thn (sub q) _ = _
    rw [e2]; rfl
theorem m25 (hn : n ≤ 1600) (hp : isP p) {r d : Nat} {sub : PS → PRs} (hd : 5 ≤ d) (hs : CTR L X T n p k d 26 r sub) (gs : GoodF T n sub) : CTR L X T n p k (d + 1) 25 r (fun q => thn (sub q) (fun q1 c => opF T n 43 45 1 2 sub 1600 q1 c)) := by
  intro M q C hF hI
  show ax_G L X SH (d + 1) 25 0 [(2, 6), (0, ((6 - r : Nat) : Int)), (3, 0), (3, 0)] [] M _
  have hC := at25
  have hw : wok WFO = true := by decide +kernel
  have hfm := hI.2.2.2.2
  have lp : ∀ (f j : Nat) (q1 : PS) (cA : List Int) (M1 : ax_M) (v : ax_V), j + f = 1600 → Sb WFO M M1 → OPr p M M1 → CT T n q1 M1 → PC M1 p k (C ++ cA) → (C ++ cA).length ≤ q1.1 → wq T n q1 → (v.1 == 1) = false → ax_G L X SH (d + 1) 25 8 [(2, 6), (0, ((6 - r : Nat) : Int)), (0, (j : Int)), v] [] M1 (R1 0 (FP T n p k C M (opF T n 43 45 1 2 sub f q1 cA))) := by
    intro f
    induction f with
    | zero =>
      intro j q1 cA M1 v hj hS hO hq hpc hl w1 hv
      refine g3 hC rfl rfl ?_
      refine g0 hC rfl ?_
      refine g13g hC rfl (fun h10 => ?_) (fun h10 => (by omega))
      refine g0 hC rfl ?_
      refine ret3 hC rfl ⟨by omega, by omega⟩ ?_
      exact FP.ok hS hO rfl hq hpc
    | succ f ih =>
      intro j q1 cA M1 v hj hS hO hq hpc hl w1 hv
      have eF : opF T n 43 45 1 2 sub (f + 1) q1 cA = if isG T n q1 43 = true ∨ isG T n q1 45 = true then thn (sub (nx T n q1)) (fun q2 c1 => opF T n 43 45 1 2 sub f q2 (cA ++ c1 ++ [if isG T n q1 43 = true then 1 else 2])) else .inr (q1, cA) := rfl
      have go : ∀ sg, sg = cs k (if isG T n q1 43 = true then 1 else 2) → (isG T n q1 43 = true ∨ isG T n q1 45 = true) → ax_G L X SH (d + 1) 25 30 [(2, 6), (0, ((6 - r : Nat) : Int)), (0, (j : Int)), (0, sg)] [] M1 (R1 0 (FP T n p k C M (opF T n 43 45 1 2 sub (f + 1) q1 cA))) := by
        intro sg hsg hab
        have hlt : q1.1 < n := by rcases hab with z | z <;> exact isG_lt z
        have g1 := nx_gt (T := T) hlt
        have w2 := wq_nx (T := T) w1.1
        rw [eF, if_pos hab]
        refine g3 hC rfl rfl ?_
        refine g19 hC rfl rfl (Nat.le_of_ble_eq_true rfl) rfl ((hS.fix hw hF).g rfl) ?_
        refine c0 hC rfl rfl rfl (Nat.le_of_ble_eq_true rfl) (Nat.le_of_ble_eq_true rfl) rfl (m90q (hS.fix hw hF) hn hq w1.1) (by omega) (fun M2 hr => ?_)
        obtain ⟨hr0, ct2⟩ := hr; have hS := hS.then hr0 rfl; have o2 := hO.trans (OPr.tx (p := p) (hr0.mono rfl)); have pc2 := hpc.tx hp (hr0.mono rfl)
        refine g3 hC rfl rfl ?_
        refine g3 hC rfl rfl ?_
        refine c1 hC rfl rfl rfl (Nat.le_of_ble_eq_true rfl) (Nat.le_of_ble_eq_true rfl) rfl (hs M2 (nx T n q1) (C ++ cA) (hS.fix hw hF) ⟨ct2, pc2, by omega, w2.1, hfm.sb hS⟩) (by omega) (fun xs M3 hr => ?_)
        have hs3 := hr; have hS := hS.trans hr.1; have o3 := o2.trans hr.2.1
        refine g12n hC rfl (fun h36 => ?_) (fun h36 => ?_)
        ·
          obtain ⟨q2, cc, e2, ct3, pc3⟩ := hs3.y h36
          have gg := gs _ w2.1 q2 cc e2
          refine g3 hC rfl rfl ?_
          refine g19 hC rfl rfl (Nat.le_of_ble_eq_true rfl) rfl ((hfm.sb hS).1) ?_
          refine g3 hC rfl rfl ?_
          refine c0 hC rfl rfl rfl (Nat.le_of_ble_eq_true rfl) (Nat.le_of_ble_eq_true rfl) (mayP hp rfl rfl rfl rfl rfl) (m59 (hS.fix hw hF) hp pc3 (by rw [List.length_append]; have := gg.2.2.1; omega) hsg) (by omega) (fun M4 hr => ?_)
          obtain ⟨ha0, ha1, ha2, ha3, ha4⟩ := hr; have hS := hS.trans ha0
          refine n2 hC rfl rfl ⟨by omega, by omega⟩ ?_
          refine g14 hC rfl ?_
          rw [e2]
          rw [List.append_assoc, List.append_assoc] at ha2
          have key := ih (j + 1) q2 (cA ++ cc ++ [if isG T n q1 43 = true then 1 else 2]) M4 (0, sg) (by omega) hS (o3.trans ha1) (ct3.same ha3 ha4) (by rw [List.append_assoc]; exact ha2) ?_ gg.2.2 rfl
          · rw [show (j : Int) + 1 = ((j + 1 : Nat) : Int) by omega]; exact key
          · rw [List.length_append] at hl ⊢
            rw [List.length_append, List.length_append]; show C.length + (cA.length + cc.length + 1) ≤ _; omega
        ·
          refine g0 hC rfl ?_
          refine ret3 hC rfl ⟨by omega, by omega⟩ ?_
          obtain ⟨f', pl, e2, zc⟩ := hs3.ng (by omega)
          exact FP.no hS o3 (by rw [e2]; rfl) zc
      obtain ⟨v1, v2⟩ := v
      refine g3 hC rfl rfl ?_
      refine g0 hC rfl ?_
      refine g13g hC rfl (fun h10 => (by omega)) (fun h10 => ?_)
      refine g3 hC rfl rfl ?_
      refine g19 hC rfl rfl (Nat.le_of_ble_eq_true rfl) rfl ((hS.fix hw hF).g rfl) ?_
      refine g0 hC rfl ?_
      refine c1 hC rfl rfl rfl (Nat.le_of_ble_eq_true rfl) (Nat.le_of_ble_eq_true rfl) rfl (m94 (hS.fix hw hF) hn hq w1.1) (by omega) (fun y MX hr => ?_)
      obtain ⟨hy, hr⟩ := hr; replace hr := hr.symm; subst hr
      refine g12n hC rfl (fun h15 => ?_) (fun h15 => ?_)
      ·
        refine g3 hC rfl rfl ?_
        refine g19 hC rfl rfl (Nat.le_of_ble_eq_true rfl) rfl ((hS.fix hw hF).g rfl) ?_
        refine g0 hC rfl ?_
        refine c1 hC rfl rfl rfl (Nat.le_of_ble_eq_true rfl) (Nat.le_of_ble_eq_true rfl) rfl (m94 (hS.fix hw hF) hn hq w1.1) (by omega) (fun u MX hr => ?_)
        obtain ⟨hu, hr⟩ := hr; replace hr := hr.symm; subst hr
        refine g12e hC rfl (fun h25 => ?_) (fun h25 => ?_)
        ·
          refine g0 hC rfl ?_
          refine s3 hC rfl rfl rfl ?_
          exact absurd (yW hy (by omega)) (by rw [nW hu (by omega)]; decide)
        ·
          refine g0 hC rfl ?_
          refine g14 hC rfl ?_
          refine s3 hC rfl rfl rfl ?_
          exact go _ (by rw [yW hy (by omega)]; rfl) (Or.inl (yW hy (by omega)))
      ·
        refine g3 hC rfl rfl ?_
        refine g19 hC rfl rfl (Nat.le_of_ble_eq_true rfl) rfl ((hS.fix hw hF).g rfl) ?_
        refine g0 hC rfl ?_
        refine c1 hC rfl rfl rfl (Nat.le_of_ble_eq_true rfl) (Nat.le_of_ble_eq_true rfl) rfl (m94 (hS.fix hw hF) hn hq w1.1) (by omega) (fun z MX hr => ?_)
        obtain ⟨hz, hr⟩ := hr; replace hr := hr.symm; subst hr
        refine g12e hC rfl (fun h20 => ?_) (fun h20 => ?_)
        ·
          refine g0 hC rfl ?_
          refine ret3 hC rfl ⟨by omega, by omega⟩ ?_
          refine FP.ok hS hO ?_ hq hpc
          rw [eF, if_neg (by rw [nW hy (by omega), nW hz (by omega)]; decide)]
        ·
          refine g3 hC rfl rfl ?_
          refine g19 hC rfl rfl (Nat.le_of_ble_eq_true rfl) rfl ((hS.fix hw hF).g rfl) ?_
          refine g0 hC rfl ?_
          refine c1 hC rfl rfl rfl (Nat.le_of_ble_eq_true rfl) (Nat.le_of_ble_eq_true rfl) rfl (m94 (hS.fix hw hF) hn hq w1.1) (by omega) (fun u MX hr => ?_)
          obtain ⟨hu, hr⟩ := hr; replace hr := hr.symm; subst hr
          refine g12e hC rfl (fun h25 => ?_) (fun h25 => ?_)
          ·
            refine g0 hC rfl ?_
            refine s3 hC rfl rfl rfl ?_
            exact go _ (by rw [nW hu (by omega)]; rfl) (Or.inr (yW hz (by omega)))
          ·
            refine g0 hC rfl ?_
            refine g14 hC rfl ?_
            refine s3 hC rfl rfl rfl ?_
            exact absurd (yW hu (by omega)) (by rw [nW hy (by omega)]; decide)
  obtain ⟨hq, hpc, hcl, hqn, _⟩ := id hI
  have hS : Sb WFO M M := Sb.refl
  refine g3 hC rfl rfl ?_
  refine g3 hC rfl rfl ?_
  refine c1 hC rfl rfl rfl (Nat.le_of_ble_eq_true rfl) (Nat.le_of_ble_eq_true rfl) rfl (hs M q C hF hI) (by omega) (fun xs M3 hr => ?_)
  have hs3 := hr; have hS := hr.1
  refine g12n hC rfl (fun h3 => ?_) (fun h3 => ?_)
  ·
    refine g0 hC rfl ?_
    refine s2 hC rfl rfl rfl ?_
    obtain ⟨q2, cc, e2, ct3, pc3⟩ := hs3.y h3
    have gg := gs _ hqn q2 cc e2
    have key := lp 1600 0 q2 cc M3 (3, 0) (Nat.zero_add _) hS hs3.2.1 ct3 pc3 (by rw [List.length_append]; omega) gg.2.2 rfl
    show ax_G _ _ _ _ _ _ _ _ _ (R1 0 (FP T n p k C M (thn (sub q) _)))
    rw [e2]; exact key
  ·
    refine g0 hC rfl ?_
    refine ret3 hC rfl ⟨by omega, by omega⟩ ?_
    obtain ⟨f, pl, e2, zc⟩ := hs3.ng (by omega)
    refine FP.no hS hs3.2.1 ?_ zc
    show thn (sub q) _ = _
    rw [e2]; rfl
theorem m22 (hn : n ≤ 1600) (hp : isP p) {r d : Nat} {sub : PS → PRs} (hd : 5 ≤ d) (hs : CTR L X T n p k d 23 r sub) (gs : GoodF T n sub) : CTR L X T n p k (d + 1) 22 r (fun q => thn (sub q) (fun q1 c => wlF T n w_and 10 sub 1600 q1 c)) := by
  intro M q C hF hI
  show ax_G L X SH (d + 1) 22 0 [(2, 6), (0, ((6 - r : Nat) : Int)), (3, 0)] [] M _
  have hC := at22
  have hw : wok WFO = true := by decide +kernel
  have hfm := hI.2.2.2.2
  have lp : ∀ (f j : Nat) (q1 : PS) (cA : List Int) (M1 : ax_M), j + f = 1600 → Sb WFO M M1 → OPr p M M1 → CT T n q1 M1 → PC M1 p k (C ++ cA) → (C ++ cA).length ≤ q1.1 → wq T n q1 → ax_G L X SH (d + 1) 22 8 [(2, 6), (0, ((6 - r : Nat) : Int)), (0, (j : Int))] [] M1 (R1 0 (FP T n p k C M (wlF T n w_and 10 sub f q1 cA))) := by
    intro f
    induction f with
    | zero =>
      intro j q1 cA M1 hj hS hO hq hpc hl w1
      refine g3 hC rfl rfl ?_
      refine g0 hC rfl ?_
      refine g13g hC rfl (fun h10 => ?_) (fun h10 => (by omega))
      refine g0 hC rfl ?_
      refine ret3 hC rfl ⟨by omega, by omega⟩ ?_
      exact FP.ok hS hO rfl hq hpc
    | succ f ih =>
      intro j q1 cA M1 hj hS hO hq hpc hl w1
      have eF : wlF T n w_and 10 sub (f + 1) q1 cA = if isW T n q1 w_and = true then thn (sub (nx T n q1)) (fun q2 c1 => wlF T n w_and 10 sub f q2 (cA ++ c1 ++ [10])) else .inr (q1, cA) := rfl
      have w2 := wq_nx (T := T) w1.1
      refine g3 hC rfl rfl ?_
      refine g0 hC rfl ?_
      refine g13g hC rfl (fun h10 => (by omega)) (fun h10 => ?_)
      refine g3 hC rfl rfl ?_
      refine g19 hC rfl rfl (Nat.le_of_ble_eq_true rfl) rfl ((hS.fix hw hF).g rfl) ?_
      refine g2 hC rfl ?_
      refine c1 hC rfl rfl rfl (Nat.le_of_ble_eq_true rfl) (Nat.le_of_ble_eq_true rfl) rfl (m93 (hS.fix hw hF) hn hq w1.1 ts42 (w := w_and) (tb42.trans (List.append_nil _)) tbn42.1) (by omega) (fun y MX hr => ?_)
      obtain ⟨hy, hr⟩ := hr; replace hr := hr.symm; subst hr
      refine g12e hC rfl (fun h15 => ?_) (fun h15 => ?_)
      ·
        refine g0 hC rfl ?_
        refine ret3 hC rfl ⟨by omega, by omega⟩ ?_
        refine FP.ok hS hO ?_ hq hpc
        rw [eF, if_neg (by rw [nW hy (by omega)]; decide)]
      ·
        refine g3 hC rfl rfl ?_
        refine g19 hC rfl rfl (Nat.le_of_ble_eq_true rfl) rfl ((hS.fix hw hF).g rfl) ?_
        refine c0 hC rfl rfl rfl (Nat.le_of_ble_eq_true rfl) (Nat.le_of_ble_eq_true rfl) rfl (m90q (hS.fix hw hF) hn hq w1.1) (by omega) (fun M2 hr => ?_)
        obtain ⟨hr0, ct2⟩ := hr; have hS := hS.then hr0 rfl; have o2 := hO.trans (OPr.tx (p := p) (hr0.mono rfl)); have pc2 := hpc.tx hp (hr0.mono rfl); have g1 := nx_gt (T := T) (isW_lt (yW hy (by omega)))
        refine g3 hC rfl rfl ?_
        refine g3 hC rfl rfl ?_
        refine c1 hC rfl rfl rfl (Nat.le_of_ble_eq_true rfl) (Nat.le_of_ble_eq_true rfl) rfl (hs M2 (nx T n q1) (C ++ cA) (hS.fix hw hF) ⟨ct2, pc2, by omega, w2.1, hfm.sb hS⟩) (by omega) (fun xs M3 hr => ?_)
        have hs3 := hr; have hS := hS.trans hr.1; have o3 := o2.trans hr.2.1
        refine g12n hC rfl (fun h22 => ?_) (fun h22 => ?_)
        ·
          obtain ⟨q2, cc, e2, ct3, pc3⟩ := hs3.y h22
          have gg := gs _ w2.1 q2 cc e2
          refine g3 hC rfl rfl ?_
          refine g19 hC rfl rfl (Nat.le_of_ble_eq_true rfl) rfl ((hfm.sb hS).1) ?_
          refine g0 hC rfl ?_
          refine c0 hC rfl rfl rfl (Nat.le_of_ble_eq_true rfl) (Nat.le_of_ble_eq_true rfl) (mayP hp rfl rfl rfl rfl rfl) (m59 (hS.fix hw hF) hp pc3 (by rw [List.length_append]; have := gg.2.2.1; omega) (v := 10) rfl) (by omega) (fun M4 hr => ?_)
          obtain ⟨ha0, ha1, ha2, ha3, ha4⟩ := hr; have hS := hS.trans ha0
          refine n2 hC rfl rfl ⟨by omega, by omega⟩ ?_
          refine g14 hC rfl ?_
          rw [eF, if_pos (yW hy (by omega)), e2]
          rw [List.append_assoc, List.append_assoc] at ha2
          have key := ih (j + 1) q2 (cA ++ cc ++ [10]) M4 (by omega) hS (o3.trans ha1) (ct3.same ha3 ha4) (by rw [List.append_assoc]; exact ha2) ?_ gg.2.2
          · rw [show (j : Int) + 1 = ((j + 1 : Nat) : Int) by omega]; exact key
          · rw [List.length_append] at hl ⊢
            rw [List.length_append, List.length_append]; show C.length + (cA.length + cc.length + 1) ≤ _; omega
        ·
          refine g0 hC rfl ?_
          refine ret3 hC rfl ⟨by omega, by omega⟩ ?_
          obtain ⟨f', pl, e2, zc⟩ := hs3.ng (by omega)
          refine FP.no hS o3 ?_ zc
          rw [eF, if_pos (yW hy (by omega)), e2]; rfl
  obtain ⟨hq, hpc, hcl, hqn, _⟩ := id hI
  have hS : Sb WFO M M := Sb.refl
  refine g3 hC rfl rfl ?_
  refine g3 hC rfl rfl ?_
  refine c1 hC rfl rfl rfl (Nat.le_of_ble_eq_true rfl) (Nat.le_of_ble_eq_true rfl) rfl (hs M q C hF hI) (by omega) (fun xs M3 hr => ?_)
  have hs3 := hr; have hS := hr.1
  refine g12n hC rfl (fun h3 => ?_) (fun h3 => ?_)
  ·
    refine g0 hC rfl ?_
    refine s2 hC rfl rfl rfl ?_
    obtain ⟨q2, cc, e2, ct3, pc3⟩ := hs3.y h3
    have gg := gs _ hqn q2 cc e2
    have key := lp 1600 0 q2 cc M3 (Nat.zero_add _) hS hs3.2.1 ct3 pc3 (by rw [List.length_append]; omega) gg.2.2
    show ax_G _ _ _ _ _ _ _ _ _ (R1 0 (FP T n p k C M (thn (sub q) _)))
    rw [e2]; exact key
  ·
    refine g0 hC rfl ?_
    refine ret3 hC rfl ⟨by omega, by omega⟩ ?_
    obtain ⟨f, pl, e2, zc⟩ := hs3.ng (by omega)
    refine FP.no hS hs3.2.1 ?_ zc
    show thn (sub q) _ = _
    rw [e2]; rfl
theorem m21 (hn : n ≤ 1600) (hp : isP p) {r d : Nat} {sub : PS → PRs} (hd : 5 ≤ d) (hs : CTR L X T n p k d 22 r sub) (gs : GoodF T n sub) : CTR L X T n p k (d + 1) 21 r (fun q => thn (sub q) (fun q1 c => wlF T n w_or 11 sub 1600 q1 c)) := by
  intro M q C hF hI
  show ax_G L X SH (d + 1) 21 0 [(2, 6), (0, ((6 - r : Nat) : Int)), (3, 0)] [] M _
  have hC := at21
  have hw : wok WFO = true := by decide +kernel
  have hfm := hI.2.2.2.2
  have lp : ∀ (f j : Nat) (q1 : PS) (cA : List Int) (M1 : ax_M), j + f = 1600 → Sb WFO M M1 → OPr p M M1 → CT T n q1 M1 → PC M1 p k (C ++ cA) → (C ++ cA).length ≤ q1.1 → wq T n q1 → ax_G L X SH (d + 1) 21 8 [(2, 6), (0, ((6 - r : Nat) : Int)), (0, (j : Int))] [] M1 (R1 0 (FP T n p k C M (wlF T n w_or 11 sub f q1 cA))) := by
    intro f
    induction f with
    | zero =>
      intro j q1 cA M1 hj hS hO hq hpc hl w1
      refine g3 hC rfl rfl ?_
      refine g0 hC rfl ?_
      refine g13g hC rfl (fun h10 => ?_) (fun h10 => (by omega))
      refine g0 hC rfl ?_
      refine ret3 hC rfl ⟨by omega, by omega⟩ ?_
      exact FP.ok hS hO rfl hq hpc
    | succ f ih =>
      intro j q1 cA M1 hj hS hO hq hpc hl w1
      have eF : wlF T n w_or 11 sub (f + 1) q1 cA = if isW T n q1 w_or = true then thn (sub (nx T n q1)) (fun q2 c1 => wlF T n w_or 11 sub f q2 (cA ++ c1 ++ [11])) else .inr (q1, cA) := rfl
      have w2 := wq_nx (T := T) w1.1
      refine g3 hC rfl rfl ?_
      refine g0 hC rfl ?_
      refine g13g hC rfl (fun h10 => (by omega)) (fun h10 => ?_)
      refine g3 hC rfl rfl ?_
      refine g19 hC rfl rfl (Nat.le_of_ble_eq_true rfl) rfl ((hS.fix hw hF).g rfl) ?_
      refine g2 hC rfl ?_
      refine c1 hC rfl rfl rfl (Nat.le_of_ble_eq_true rfl) (Nat.le_of_ble_eq_true rfl) rfl (m93 (hS.fix hw hF) hn hq w1.1 ts44 (w := w_or) (tb44.trans (List.append_nil _)) tbn44.1) (by omega) (fun y MX hr => ?_)
      obtain ⟨hy, hr⟩ := hr; replace hr := hr.symm; subst hr
      refine g12e hC rfl (fun h15 => ?_) (fun h15 => ?_)
      ·
        refine g0 hC rfl ?_
        refine ret3 hC rfl ⟨by omega, by omega⟩ ?_
        refine FP.ok hS hO ?_ hq hpc
        rw [eF, if_neg (by rw [nW hy (by omega)]; decide)]
      ·
        refine g3 hC rfl rfl ?_
        refine g19 hC rfl rfl (Nat.le_of_ble_eq_true rfl) rfl ((hS.fix hw hF).g rfl) ?_
        refine c0 hC rfl rfl rfl (Nat.le_of_ble_eq_true rfl) (Nat.le_of_ble_eq_true rfl) rfl (m90q (hS.fix hw hF) hn hq w1.1) (by omega) (fun M2 hr => ?_)
        obtain ⟨hr0, ct2⟩ := hr; have hS := hS.then hr0 rfl; have o2 := hO.trans (OPr.tx (p := p) (hr0.mono rfl)); have pc2 := hpc.tx hp (hr0.mono rfl); have g1 := nx_gt (T := T) (isW_lt (yW hy (by omega)))
        refine g3 hC rfl rfl ?_
        refine g3 hC rfl rfl ?_
        refine c1 hC rfl rfl rfl (Nat.le_of_ble_eq_true rfl) (Nat.le_of_ble_eq_true rfl) rfl (hs M2 (nx T n q1) (C ++ cA) (hS.fix hw hF) ⟨ct2, pc2, by omega, w2.1, hfm.sb hS⟩) (by omega) (fun xs M3 hr => ?_)
        have hs3 := hr; have hS := hS.trans hr.1; have o3 := o2.trans hr.2.1
        refine g12n hC rfl (fun h22 => ?_) (fun h22 => ?_)
        ·
          obtain ⟨q2, cc, e2, ct3, pc3⟩ := hs3.y h22
          have gg := gs _ w2.1 q2 cc e2
          refine g3 hC rfl rfl ?_
          refine g19 hC rfl rfl (Nat.le_of_ble_eq_true rfl) rfl ((hfm.sb hS).1) ?_
          refine g0 hC rfl ?_
          refine c0 hC rfl rfl rfl (Nat.le_of_ble_eq_true rfl) (Nat.le_of_ble_eq_true rfl) (mayP hp rfl rfl rfl rfl rfl) (m59 (hS.fix hw hF) hp pc3 (by rw [List.length_append]; have := gg.2.2.1; omega) (v := 11) rfl) (by omega) (fun M4 hr => ?_)
          obtain ⟨ha0, ha1, ha2, ha3, ha4⟩ := hr; have hS := hS.trans ha0
          refine n2 hC rfl rfl ⟨by omega, by omega⟩ ?_
          refine g14 hC rfl ?_
          rw [eF, if_pos (yW hy (by omega)), e2]
          rw [List.append_assoc, List.append_assoc] at ha2
          have key := ih (j + 1) q2 (cA ++ cc ++ [11]) M4 (by omega) hS (o3.trans ha1) (ct3.same ha3 ha4) (by rw [List.append_assoc]; exact ha2) ?_ gg.2.2
          · rw [show (j : Int) + 1 = ((j + 1 : Nat) : Int) by omega]; exact key
          · rw [List.length_append] at hl ⊢
            rw [List.length_append, List.length_append]; show C.length + (cA.length + cc.length + 1) ≤ _; omega
        ·
          refine g0 hC rfl ?_
          refine ret3 hC rfl ⟨by omega, by omega⟩ ?_
          obtain ⟨f', pl, e2, zc⟩ := hs3.ng (by omega)
          refine FP.no hS o3 ?_ zc
          rw [eF, if_pos (yW hy (by omega)), e2]; rfl
  obtain ⟨hq, hpc, hcl, hqn, _⟩ := id hI
  have hS : Sb WFO M M := Sb.refl
  refine g3 hC rfl rfl ?_
  refine g3 hC rfl rfl ?_
  refine c1 hC rfl rfl rfl (Nat.le_of_ble_eq_true rfl) (Nat.le_of_ble_eq_true rfl) rfl (hs M q C hF hI) (by omega) (fun xs M3 hr => ?_)
  have hs3 := hr; have hS := hr.1
  refine g12n hC rfl (fun h3 => ?_) (fun h3 => ?_)
  ·
    refine g0 hC rfl ?_
    refine s2 hC rfl rfl rfl ?_
    obtain ⟨q2, cc, e2, ct3, pc3⟩ := hs3.y h3
    have gg := gs _ hqn q2 cc e2
    have key := lp 1600 0 q2 cc M3 (Nat.zero_add _) hS hs3.2.1 ct3 pc3 (by rw [List.length_append]; omega) gg.2.2
    show ax_G _ _ _ _ _ _ _ _ _ (R1 0 (FP T n p k C M (thn (sub q) _)))
    rw [e2]; exact key
  ·
    refine g0 hC rfl ?_
    refine ret3 hC rfl ⟨by omega, by omega⟩ ?_
    obtain ⟨f, pl, e2, zc⟩ := hs3.ng (by omega)
    refine FP.no hS hs3.2.1 ?_ zc
    show thn (sub q) _ = _
    rw [e2]; rfl
theorem cmp_x {q : PS} {x : Int} (h : x = (if cmpC T n q = 0 then 0 else cs k (cmpC T n q))) : (cmpC T n q = 0 ∧ x = 0) ∨ (¬ cmpC T n q = 0 ∧ ¬ x = 0 ∧ x = cs k (cmpC T n q)) := by
  by_cases z : cmpC T n q = 0
  · rw [if_pos z] at h; exact Or.inl ⟨z, h⟩
  · rw [if_neg z] at h
    refine Or.inr ⟨z, ?_, h⟩
    rw [h]
    unfold cmpC at z ⊢
    split
    · rw [show cs k 7 = -5 from rfl]; decide
    · split
      · rw [show cs k 8 = -6 from rfl]; decide
      · split
        · rw [show cs k 9 = -7 from rfl]; decide
        · rename_i a b c; rw [if_neg a, if_neg b, if_neg c] at z; exact absurd rfl z
theorem cPt (hn : n ≤ 1600) (hp : isP p) (hk : k ≤ 2) : ∀ r, r ≤ 6 → CTR L X T n p k (7 + 4 * r) 27 r (ptL T n k r)
  | 0, h => m27 hn hp hk (sm := fun _ => .inl (0, 0)) (pt := fun _ => .inl (0, 0)) h ⟨fun z => (by cases z), fun z => absurd z (Nat.lt_irrefl 0)⟩ (fun z => absurd z (Nat.lt_irrefl 0)) (fun z => absurd z (Nat.lt_irrefl 0)) good_no good_no
  | r + 1, h => by
    have h1 := cPt hn hp hk r (by omega)
    have h2 := m26 hn hp (by omega) h1 (good_pt r)
    have h3 := m25 hn hp (by omega) h2 (good_prod (good_pt r))
    refine m27 hn hp hk (sm := sumF T n (ptL T n k r)) (pt := ptL T n k r) h ⟨fun _ => Nat.succ_pos _, fun _ => rfl⟩ (fun _ => ?_) (fun _ => ?_) (good_sum (good_pt r)) (good_pt r)
    · rw [show 5 + 4 * (r + 1) = 7 + 4 * r + 1 + 1 by omega]; exact h3
    · rw [show 3 + 4 * (r + 1) = 7 + 4 * r by omega]; exact h1
theorem cSm (hn : n ≤ 1600) (hp : isP p) (hk : k ≤ 2) (r : Nat) (h : r ≤ 6) : CTR L X T n p k (9 + 4 * r) 25 r (smL T n k r) := by
  have h3 := m25 (L := L) (X := X) (T := T) hn hp (by omega) (m26 hn hp (by omega) (cPt hn hp hk r h) (good_pt r)) (good_prod (good_pt r))
  rw [show 9 + 4 * r = 7 + 4 * r + 1 + 1 by omega]; exact h3
theorem m23 (hn : n ≤ 1600) (hp : isP p) {r : Nat} {opn : Bool} {tst fct sm : PS → PRs} (hr6 : r ≤ 6) (ho : opn = true ↔ 0 < r) (ht : 0 < r → CTR L X T n p k (8 + 4 * r) 21 (r - 1) tst) (hf : 0 < r → CTR L X T n p k (6 + 4 * r) 23 (r - 1) fct) (hs : CTR L X T n p k (9 + 4 * r) 25 r sm) (gt : GoodF T n tst) (gf : GoodF T n fct) (gs : GoodF T n sm) : CTR L X T n p k (10 + 4 * r) 23 r (factF T n opn tst fct sm) := by
  intro M q C hF hI
  show ax_G L X SH (10 + 4 * r) 23 0 [(2, 6), (0, ((6 - r : Nat) : Int)), (3, 0)] [] M _
  have hC := at23
  have hS : Sb WFO M M := Sb.refl
  have hw : wok WFO = true := by decide +kernel
  have hI0 := hI
  obtain ⟨hq, hpc, hcl, hqn, hfm⟩ := hI
  have w1 := wq_nx (T := T) hqn
  have eP : factF T n opn tst fct sm q = if isW T n q w_not = true then (if opn = true then thn (fct (nx T n q)) (fun q1 c => .inr (q1, c ++ [12])) else .inl (4, (q.1 : Int))) else if isG T n q 91 = true then (if opn = true then thn (tst (nx T n q)) (fun q1 c => tkS T n q1 93 c) else .inl (4, (q.1 : Int))) else if isW T n q w_all = true then .inr (nx T n q, [13]) else thn (sm q) (fun q1 c => if cmpC T n q1 = 0 then .inl (1, (q1.1 : Int)) else thn (sm (nx T n q1)) (fun q2 c2 => .inr (q2, c ++ c2 ++ [cmpC T n q1]))) := rfl
  refine g3 hC rfl rfl ?_
  refine g19 hC rfl rfl (Nat.le_of_ble_eq_true rfl) rfl ((hS.fix hw hF).g rfl) ?_
  refine g2 hC rfl ?_
  refine c1 hC rfl rfl rfl (Nat.le_of_ble_eq_true rfl) (Nat.le_of_ble_eq_true rfl) rfl (m93 (hS.fix hw hF) hn hq hqn ts32 (w := w_not) (tb32.trans (List.append_nil _)) tbn32.1) (by omega) (fun y MX hr => ?_)
  obtain ⟨hy, hr⟩ := hr; replace hr := hr.symm; subst hr
  refine g12e hC rfl (fun h4 => ?_) (fun h4 => ?_)
  ·
    refine g3 hC rfl rfl ?_
    refine g19 hC rfl rfl (Nat.le_of_ble_eq_true rfl) rfl ((hS.fix hw hF).g rfl) ?_
    refine g0 hC rfl ?_
    refine c1 hC rfl rfl rfl (Nat.le_of_ble_eq_true rfl) (Nat.le_of_ble_eq_true rfl) rfl (m94 (hS.fix hw hF) hn hq hqn) (by omega) (fun z MX hr => ?_)
    obtain ⟨hz, hr⟩ := hr; replace hr := hr.symm; subst hr
    refine g12e hC rfl (fun h27 => ?_) (fun h27 => ?_)
    ·
      refine g3 hC rfl rfl ?_
      refine g19 hC rfl rfl (Nat.le_of_ble_eq_true rfl) rfl ((hS.fix hw hF).g rfl) ?_
      refine g2 hC rfl ?_
      refine c1 hC rfl rfl rfl (Nat.le_of_ble_eq_true rfl) (Nat.le_of_ble_eq_true rfl) rfl (m93 (hS.fix hw hF) hn hq hqn ts34 (w := w_all) (tb34.trans (List.append_nil _)) tbn34.1) (by omega) (fun u MX hr => ?_)
      obtain ⟨hu, hr⟩ := hr; replace hr := hr.symm; subst hr
      refine g12e hC rfl (fun h51 => ?_) (fun h51 => ?_)
      ·
        refine g3 hC rfl rfl ?_
        refine g3 hC rfl rfl ?_
        refine c1 hC rfl rfl rfl (Nat.le_of_ble_eq_true rfl) (Nat.le_of_ble_eq_true rfl) rfl (hs M q C hF hI0) (by omega) (fun xs M2 hr => ?_)
        have hs2 := hr; have hS := hr.1; have o2 := hr.2.1
        refine g12n hC rfl (fun h64 => ?_) (fun h64 => ?_)
        ·
          obtain ⟨q2, cc, e2, ct3, pc3⟩ := hs2.y h64
          have gg := gs _ hqn q2 cc e2
          have w3 := wq_nx (T := T) gg.2.2.1
          refine g3 hC rfl rfl ?_
          refine c1 hC rfl rfl rfl (Nat.le_of_ble_eq_true rfl) (Nat.le_of_ble_eq_true rfl) rfl (m24 (k := k) (hS.fix hw hF) hn ct3 gg.2.2.1) (by omega) (fun xc MX hr => ?_)
          obtain ⟨hxc, hr⟩ := hr; replace hr := hr.symm; subst hr; have hxc2 : (cmpC T n q2 = 0 ∧ xc = 0) ∨ (¬ cmpC T n q2 = 0 ∧ ¬ xc = 0 ∧ xc = cs k (cmpC T n q2)) := cmp_x hxc
          refine s2 hC rfl rfl rfl ?_
          refine g3 hC rfl rfl ?_
          refine g12n hC rfl (fun h71 => ?_) (fun h71 => ?_)
          ·
            refine g3 hC rfl rfl ?_
            refine g19 hC rfl rfl (Nat.le_of_ble_eq_true rfl) rfl ((hS.fix hw hF).g rfl) ?_
            refine c0 hC rfl rfl rfl (Nat.le_of_ble_eq_true rfl) (Nat.le_of_ble_eq_true rfl) rfl (m90q (hS.fix hw hF) hn ct3 gg.2.2.1) (by omega) (fun M4 hr => ?_)
            obtain ⟨hr0, ct4⟩ := hr; have hS := hS.then hr0 rfl; have o4 := o2.trans (OPr.tx (p := p) (hr0.mono rfl)); have pc4 := pc3.tx hp (hr0.mono rfl); have g4 := nx_gt (T := T) (cmp_lt (show ¬ cmpC T n q2 = 0 by omega))
            refine g3 hC rfl rfl ?_
            refine g3 hC rfl rfl ?_
            refine c1 hC rfl rfl rfl (Nat.le_of_ble_eq_true rfl) (Nat.le_of_ble_eq_true rfl) rfl (hs M4 (nx T n q2) (C ++ cc) (hS.fix hw hF) ⟨ct4, pc4, by rw [List.length_append]; omega, w3.1, hfm.sb hS⟩) (by omega) (fun xt M5 hr => ?_)
            have hs5 := hr; have hS := hS.trans hr.1; have o5 := o4.trans hr.2.1
            refine g12n hC rfl (fun h86 => ?_) (fun h86 => ?_)
            ·
              obtain ⟨q3, cd, e3, ct5, pc5⟩ := hs5.y h86
              have gh := gs _ w3.1 q3 cd e3
              refine g3 hC rfl rfl ?_
              refine g19 hC rfl rfl (Nat.le_of_ble_eq_true rfl) rfl ((hfm.sb hS).1) ?_
              refine g3 hC rfl rfl ?_
              refine c0 hC rfl rfl rfl (Nat.le_of_ble_eq_true rfl) (Nat.le_of_ble_eq_true rfl) (mayP hp rfl rfl rfl rfl rfl) (m59 (hS.fix hw hF) hp pc5 (by rw [List.length_append, List.length_append]; have := gh.2.2.1; omega) (v := cmpC T n q2) (by omega)) (by omega) (fun M6 hr => ?_)
              obtain ⟨ha0, ha1, ha2, ha3, ha4⟩ := hr; have hS := hS.trans ha0
              refine g0 hC rfl ?_
              refine ret3 hC rfl ⟨by omega, by omega⟩ ?_
              refine FP.ok (c := cc ++ cd ++ [cmpC T n q2]) hS (o5.trans ha1) ?_ (ct5.same ha3 ha4) (by rw [← List.append_assoc, ← List.append_assoc]; exact ha2)
              rw [eP, if_neg (by rw [nW hy (by omega)]; decide), if_neg (by rw [nW hz (by omega)]; decide), if_neg (by rw [nW hu (by omega)]; decide), e2]
              show (if cmpC T n q2 = 0 then _ else thn (sm (nx T n q2)) _) = _
              rw [if_neg (by omega), e3]; rfl
            ·
              refine g0 hC rfl ?_
              refine ret3 hC rfl ⟨by omega, by omega⟩ ?_
              obtain ⟨f, pl, e3, zc⟩ := hs5.ng (by omega)
              refine FP.no hS o5 ?_ zc
              rw [eP, if_neg (by rw [nW hy (by omega)]; decide), if_neg (by rw [nW hz (by omega)]; decide), if_neg (by rw [nW hu (by omega)]; decide), e2]
              show (if cmpC T n q2 = 0 then _ else thn (sm (nx T n q2)) _) = _
              rw [if_neg (by omega), e3]; rfl
          ·
            refine g3 hC rfl rfl ?_
            refine g19 hC rfl rfl (Nat.le_of_ble_eq_true rfl) rfl ((hS.fix hw hF).g rfl) ?_
            refine g0 hC rfl ?_
            refine g3 hC rfl rfl ?_
            refine g19 hC rfl rfl (Nat.le_of_ble_eq_true rfl) rfl ((hS.fix hw hF).g rfl) ?_
            refine g19 hC rfl rfl (Nat.le_of_ble_eq_true rfl) rfl ct3.2.2.1 ?_
            refine c1 hC rfl rfl rfl (Nat.le_of_ble_eq_true rfl) (Nat.le_of_ble_eq_true rfl) rfl m89 (by omega) (fun x MX hr => ?_)
            obtain ⟨rfl, hr⟩ := hr; replace hr := hr.symm; subst hr
            refine ret3 hC rfl ⟨by omega, by omega⟩ ?_
            refine FP.no ((hS.up rfl).up rfl) (o2.trans (OPr.tx ((Sb.refl.up rfl).up rfl))) ?_ CF.up
            rw [eP, if_neg (by rw [nW hy (by omega)]; decide), if_neg (by rw [nW hz (by omega)]; decide), if_neg (by rw [nW hu (by omega)]; decide), e2]
            show (if cmpC T n q2 = 0 then _ else thn (sm (nx T n q2)) _) = _
            rw [if_pos (by omega)]
        ·
          refine g0 hC rfl ?_
          refine ret3 hC rfl ⟨by omega, by omega⟩ ?_
          obtain ⟨f, pl, e2, zc⟩ := hs2.ng (by omega)
          refine FP.no hS o2 ?_ zc
          rw [eP, if_neg (by rw [nW hy (by omega)]; decide), if_neg (by rw [nW hz (by omega)]; decide), if_neg (by rw [nW hu (by omega)]; decide), e2]; rfl
      ·
        refine g3 hC rfl rfl ?_
        refine g19 hC rfl rfl (Nat.le_of_ble_eq_true rfl) rfl ((hS.fix hw hF).g rfl) ?_
        refine c0 hC rfl rfl rfl (Nat.le_of_ble_eq_true rfl) (Nat.le_of_ble_eq_true rfl) rfl (m90q (hS.fix hw hF) hn hq hqn) (by omega) (fun M2 hr => ?_)
        obtain ⟨hr0, ct2⟩ := hr; have hS := hS.then hr0 rfl; have o2 : OPr p M M2 := OPr.tx (hr0.mono rfl); have pc2 := hpc.tx hp (hr0.mono rfl); have g1 := nx_gt (T := T) (n := n) (q := q) (isW_lt (yW hu (by omega)))
        refine g3 hC rfl rfl ?_
        refine g19 hC rfl rfl (Nat.le_of_ble_eq_true rfl) rfl ((hfm.sb hS).1) ?_
        refine g0 hC rfl ?_
        refine c0 hC rfl rfl rfl (Nat.le_of_ble_eq_true rfl) (Nat.le_of_ble_eq_true rfl) (mayP hp rfl rfl rfl rfl rfl) (m59 (hS.fix hw hF) hp pc2 (by have := w1.1; omega) (v := 13) rfl) (by omega) (fun M4 hr => ?_)
        obtain ⟨ha0, ha1, ha2, ha3, ha4⟩ := hr; have hS := hS.trans ha0
        refine g0 hC rfl ?_
        refine ret3 hC rfl ⟨by omega, by omega⟩ ?_
        refine FP.ok hS (o2.trans ha1) ?_ (ct2.same ha3 ha4) ha2
        rw [eP, if_neg (by rw [nW hy (by omega)]; decide), if_neg (by rw [nW hz (by omega)]; decide), if_pos (yW hu (by omega))]
    ·
      refine g3 hC rfl rfl ?_
      refine g3 hC rfl rfl ?_
      refine c1 hC rfl rfl rfl (Nat.le_of_ble_eq_true rfl) (Nat.le_of_ble_eq_true rfl) rfl (m29 (hS.fix hw hF) hn hq hqn hr6) (by omega) (fun xo M2 hr => ?_)
      obtain ⟨ho0, ho1⟩ := hr; have hS := hS.then ho0 rfl; have o2 : OPr p M M2 := OPr.tx ho0; have pc2 := hpc.tx hp ho0
      refine g12e hC rfl (fun h31 => ?_) (fun h31 => ?_)
      ·
        refine g0 hC rfl ?_
        refine ret3 hC rfl ⟨by omega, by omega⟩ ?_
        obtain ⟨z0, rfl, zc⟩ : r = 0 ∧ xo = 0 ∧ CF 4 q.1 M2 := by rcases ho1 with z | z; exact z; exact absurd h31 (by omega)
        refine FP.no hS o2 ?_ zc
        rw [eP, if_neg (by rw [nW hy (by omega)]; decide), if_pos (yW hz (by omega)), if_neg (fun z => by have := ho.1 z; omega)]
      ·
        have ho2 : 0 < r ∧ CT T n (nx T n q) M2 := by rcases ho1 with z | z; exact absurd z.2.1 h31; exact ⟨z.1, z.2.2⟩
        have g1 := nx_gt (T := T) (n := n) (q := q) (isG_lt (yW hz (by omega)))
        refine g3 hC rfl rfl ?_
        refine g3 hC rfl rfl ?_
        refine g0 hC rfl ?_
        refine g6a hC rfl ⟨by omega, by omega⟩ ?_
        rw [show ((6 - r : Nat) : Int) + 1 = ((6 - (r - 1) : Nat) : Int) by omega]
        refine c1 hC rfl rfl rfl (Nat.le_of_ble_eq_true rfl) (Nat.le_of_ble_eq_true rfl) rfl (ht ho2.1 M2 (nx T n q) C (hS.fix hw hF) ⟨ho2.2, pc2, by omega, w1.1, hfm.sb hS⟩) (by omega) (fun xs M3 hr => ?_)
        have hs3 := hr; have hS := hS.trans hr.1; have o3 := o2.trans hr.2.1
        refine g12e hC rfl (fun h37 => ?_) (fun h37 => ?_)
        ·
          refine g0 hC rfl ?_
          refine ret3 hC rfl ⟨by omega, by omega⟩ ?_
          obtain ⟨f, pl, e2, zc⟩ := hs3.ng (by omega)
          refine FP.no hS o3 ?_ zc
          rw [eP, if_neg (by rw [nW hy (by omega)]; decide), if_pos (yW hz (by omega)), if_pos (ho.2 ho2.1), e2]; rfl
        ·
          obtain ⟨q2, cc, e2, ct3, pc3⟩ := hs3.y h37
          have gg := gt _ w1.1 q2 cc e2
          refine g3 hC rfl rfl ?_
          refine g19 hC rfl rfl (Nat.le_of_ble_eq_true rfl) rfl ((hS.fix hw hF).g rfl) ?_
          refine g0 hC rfl ?_
          refine c1 hC rfl rfl rfl (Nat.le_of_ble_eq_true rfl) (Nat.le_of_ble_eq_true rfl) rfl (m96r (hS.fix hw hF) hn ct3 gg.2.2.1) (by omega) (fun xk M4 hr => ?_)
          obtain ⟨hk0, hk1⟩ := hr
          refine g12e hC rfl (fun h42 => ?_) (fun h42 => ?_)
          ·
            refine g0 hC rfl ?_
            refine ret3 hC rfl ⟨by omega, by omega⟩ ?_
            have ex : xk = 0 := by omega
            subst ex
            refine FP.sg hp hS o3 pc3 hk0 hk1 ?_
            rw [eP, if_neg (by rw [nW hy (by omega)]; decide), if_pos (yW hz (by omega)), if_pos (ho.2 ho2.1), e2]; rfl
          ·
            refine g0 hC rfl ?_
            refine g14 hC rfl ?_
            refine ret3 hC rfl ⟨by omega, by omega⟩ ?_
            have ex : xk = 1 := by have := hk1.b; omega
            subst ex
            refine FP.sg hp hS o3 pc3 hk0 hk1 ?_
            rw [eP, if_neg (by rw [nW hy (by omega)]; decide), if_pos (yW hz (by omega)), if_pos (ho.2 ho2.1), e2]; rfl
  ·
    refine g3 hC rfl rfl ?_
    refine g3 hC rfl rfl ?_
    refine c1 hC rfl rfl rfl (Nat.le_of_ble_eq_true rfl) (Nat.le_of_ble_eq_true rfl) rfl (m29 (hS.fix hw hF) hn hq hqn hr6) (by omega) (fun xo M2 hr => ?_)
    obtain ⟨ho0, ho1⟩ := hr; have hS := hS.then ho0 rfl; have o2 : OPr p M M2 := OPr.tx ho0; have pc2 := hpc.tx hp ho0
    refine g12e hC rfl (fun h8 => ?_) (fun h8 => ?_)
    ·
      refine g0 hC rfl ?_
      refine ret3 hC rfl ⟨by omega, by omega⟩ ?_
      obtain ⟨z0, rfl, zc⟩ : r = 0 ∧ xo = 0 ∧ CF 4 q.1 M2 := by rcases ho1 with z | z; exact z; exact absurd h8 (by omega)
      refine FP.no hS o2 ?_ zc
      rw [eP, if_pos (yW hy (by omega)), if_neg (fun z => by have := ho.1 z; omega)]
    ·
      have ho2 : 0 < r ∧ CT T n (nx T n q) M2 := by rcases ho1 with z | z; exact absurd z.2.1 h8; exact ⟨z.1, z.2.2⟩
      have g1 := nx_gt (T := T) (n := n) (q := q) (isW_lt (yW hy (by omega)))
      refine g3 hC rfl rfl ?_
      refine g3 hC rfl rfl ?_
      refine g0 hC rfl ?_
      refine g6a hC rfl ⟨by omega, by omega⟩ ?_
      rw [show ((6 - r : Nat) : Int) + 1 = ((6 - (r - 1) : Nat) : Int) by omega]
      refine c1 hC rfl rfl rfl (Nat.le_of_ble_eq_true rfl) (Nat.le_of_ble_eq_true rfl) rfl (hf ho2.1 M2 (nx T n q) C (hS.fix hw hF) ⟨ho2.2, pc2, by omega, w1.1, hfm.sb hS⟩) (by omega) (fun xs M3 hr => ?_)
      have hs3 := hr; have hS := hS.trans hr.1; have o3 := o2.trans hr.2.1
      refine g12n hC rfl (fun h14 => ?_) (fun h14 => ?_)
      ·
        obtain ⟨q2, cc, e2, ct3, pc3⟩ := hs3.y h14
        have gg := gf _ w1.1 q2 cc e2
        refine g3 hC rfl rfl ?_
        refine g19 hC rfl rfl (Nat.le_of_ble_eq_true rfl) rfl ((hfm.sb hS).1) ?_
        refine g0 hC rfl ?_
        refine c0 hC rfl rfl rfl (Nat.le_of_ble_eq_true rfl) (Nat.le_of_ble_eq_true rfl) (mayP hp rfl rfl rfl rfl rfl) (m59 (hS.fix hw hF) hp pc3 (by rw [List.length_append]; have := gg.2.2.1; omega) (v := 12) rfl) (by omega) (fun M4 hr => ?_)
        obtain ⟨ha0, ha1, ha2, ha3, ha4⟩ := hr; have hS := hS.trans ha0
        refine g0 hC rfl ?_
        refine ret3 hC rfl ⟨by omega, by omega⟩ ?_
        refine FP.ok (c := cc ++ [12]) hS (o3.trans ha1) ?_ (ct3.same ha3 ha4) (by rw [← List.append_assoc]; exact ha2)
        rw [eP, if_pos (yW hy (by omega)), if_pos (ho.2 ho2.1), e2]; rfl
      ·
        refine g0 hC rfl ?_
        refine ret3 hC rfl ⟨by omega, by omega⟩ ?_
        obtain ⟨f, pl, e2, zc⟩ := hs3.ng (by omega)
        refine FP.no hS o3 ?_ zc
        rw [eP, if_pos (yW hy (by omega)), if_pos (ho.2 ho2.1), e2]; rfl
theorem cFc (hn : n ≤ 1600) (hp : isP p) (hk : k ≤ 2) : ∀ r, r ≤ 6 → CTR L X T n p k (10 + 4 * r) 23 r (fcL T n k r)
  | 0, h => m23 hn hp (tst := fun _ => .inl (0, 0)) (fct := fun _ => .inl (0, 0)) h ⟨fun z => (by cases z), fun z => absurd z (Nat.lt_irrefl 0)⟩ (fun z => absurd z (Nat.lt_irrefl 0)) (fun z => absurd z (Nat.lt_irrefl 0)) (cSm hn hp hk 0 h) good_no good_no good_sm
  | r + 1, h => by
    have h1 := cFc hn hp hk r (by omega)
    have h2 := m22 hn hp (by omega) h1 (good_fc r)
    have h3 := m21 hn hp (by omega) h2 (good_both (good_fc r))
    refine m23 hn hp (tst := testF T n (fcL T n k r)) (fct := fcL T n k r) h ⟨fun _ => Nat.succ_pos _, fun _ => rfl⟩ (fun _ => ?_) (fun _ => ?_) (cSm hn hp hk (r + 1) h) (good_test (good_fc r)) (good_fc r) good_sm
    · rw [show 8 + 4 * (r + 1) = 10 + 4 * r + 1 + 1 by omega]; exact h3
    · rw [show 6 + 4 * (r + 1) = 10 + 4 * r by omega]; exact h1
theorem cTs (hn : n ≤ 1600) (hp : isP p) (hk : k ≤ 2) (r : Nat) (h : r ≤ 6) : CTR L X T n p k (12 + 4 * r) 21 r (tsL T n k r) := by
  have h3 := m21 (L := L) (X := X) (T := T) hn hp (by omega) (m22 hn hp (by omega) (cFc hn hp hk r h) (good_fc r)) (good_both (good_fc r))
  rw [show 12 + 4 * r = 10 + 4 * r + 1 + 1 by omega]; exact h3
end CLP
