section RCL
variable {L : Nat} {X : Nat → Int} {M M1 : ax_M} {n l : Nat} {s : HS} {T : Nat → Int} {q : PS}
theorem m177 (hF : Fix M) (hn : n ≤ 1600) (hR : RHo s M) (hWf : WfH l s) (hWd : Wd M) (hq : RT T n q M) (hqn : q.1 ≤ n) {pp : Int} : ax_Ev L X SH 5 177 [(2, 142), (0, pp)] M (R0 (RPo T n (clerkF T n s pp q) M)) := by
  show ax_G L X SH 5 177 0 [(2, 142), (0, pp), (3, 0), (3, 0), (3, 0), (3, 0), (3, 0), (3, 0), (3, 0)] [] M _
  obtain ⟨P, hP⟩ : ∃ P, P = RPo T n (clerkF T n s pp q) M := ⟨_, rfl⟩
  rw [← hP]
  have hC := at177
  have hw := wXHO
  have h5 := hq.2.2.2.2.1
  obtain ⟨c, hc⟩ : ∃ c, c = s.2.2.2.1.1 := ⟨_, rfl⟩
  have hb0 := hWf.1.2.2.2
  have hb8 := hWf.1.1
  have hb5 := hWf.1.2.2.1
  rw [← hc] at hb0
  have fl : ∀ f p M', f ≠ 0 → BF f p M' → KX M M' → clerkF T n s pp q = .inl (f, p) → P M' := fun f p M' a b c d => by rw [hP]; exact ⟨c, Or.inl ⟨f, p, a, b, d⟩⟩
  have b44 : ∀ (M1 : ax_M) (v2 v3 v4 v5 v6 v7 v8 : ax_V), P M1 → ¬ M1 142 5 = 0 → ax_G L X SH 5 177 44 [(2, 142), (0, pp), v2, v3, v4, v5, v6, v7, v8] [] M1 (R0 P) := by
    intro M1 v2 v3 v4 v5 v6 v7 v8 hp hb
    have hS : Sb XHO M1 M1 := Sb.refl
    refine g3 hC rfl rfl ?_
    refine g19 hC rfl sh142 (flt12 rfl) ft12_5 (Eq.refl (M1 142 5)) ?_
    refine g12e hC rfl (fun h46 => (by omega)) (fun h46 => ?_)
    refine ret0 hC rfl ?_
    exact hp
  have b39 : ∀ (M1 : ax_M) (x v4 v5 v6 : Int), P M1 → ¬ M1 142 5 = 0 → ax_G L X SH 5 177 39 [(2, 142), (0, pp), (1, x), (3, 0), (0, v4), (0, v5), (0, v6), (3, 0), (3, 0)] [] M1 (R0 P) := by
    intro M1 x v4 v5 v6 hp hb
    have hS : Sb XHO M1 M1 := Sb.refl
    refine g3 hC rfl rfl ?_
    refine g0 hC rfl ?_
    refine g0 hC rfl ?_
    refine c1 hC rfl rfl rfl (Nat.le_of_ble_eq_true rfl) (Nat.le_of_ble_eq_true rfl) (mayR k165 rfl) (m165b hb) (Nat.le_of_ble_eq_true rfl) (fun y M2 hr => ?_)
    obtain ⟨rfl, hr⟩ := hr; replace hr := hr.symm; subst hr
    refine s7 hC rfl rfl rfl ?_
    exact b44 M1 _ _ _ _ _ _ _ hp hb
  have b35 : ∀ (M1 : ax_M) (x v4 v5 v6 : Int), KX M M1 → P M1 → ¬ M1 142 5 = 0 → ax_G L X SH 5 177 35 [(2, 142), (0, pp), (1, x), (3, 0), (0, v4), (0, v5), (0, v6), (3, 0), (3, 0)] [] M1 (R0 P) := by
    intro M1 x v4 v5 v6 hk hp hb
    have hS := hk.1
    refine g3 hC rfl rfl ?_
    refine g3 hC rfl rfl ?_
    refine g19 hC rfl sh142 (flt12 rfl) ft12_20 ((hS.fix hw hF).g fx_142_20) ?_
    refine c0 hC rfl rfl rfl (Nat.le_of_ble_eq_true rfl) (Nat.le_of_ble_eq_true rfl) (mayR k162 rfl) (m162b hb) (Nat.le_of_ble_eq_true rfl) (fun M2 hr => ?_)
    subst hr; exact b39 _ _ _ _ _ hp hb
  have b30 : ∀ (M1 : ax_M) (x v4 v5 : Int), KX M M1 → P M1 → ¬ M1 142 5 = 0 → ax_G L X SH 5 177 30 [(2, 142), (0, pp), (1, x), (3, 0), (0, v4), (0, v5), (3, 0), (3, 0), (3, 0)] [] M1 (R0 P) := by
    intro M1 x v4 v5 hk hp hb
    have hS := hk.1
    refine g3 hC rfl rfl ?_
    refine g0 hC rfl ?_
    refine g0 hC rfl ?_
    refine c1 hC rfl rfl rfl (Nat.le_of_ble_eq_true rfl) (Nat.le_of_ble_eq_true rfl) (mayR k165 rfl) (m165b hb) (Nat.le_of_ble_eq_true rfl) (fun y M2 hr => ?_)
    obtain ⟨rfl, hr⟩ := hr; replace hr := hr.symm; subst hr
    refine s6 hC rfl rfl rfl ?_
    exact b35 M1 _ _ _ _ hk hp hb
  have b26 : ∀ (M1 : ax_M) (x v4 v5 : Int), KX M M1 → P M1 → ¬ M1 142 5 = 0 → ax_G L X SH 5 177 26 [(2, 142), (0, pp), (1, x), (3, 0), (0, v4), (0, v5), (3, 0), (3, 0), (3, 0)] [] M1 (R0 P) := by
    intro M1 x v4 v5 hk hp hb
    have hS := hk.1
    refine g3 hC rfl rfl ?_
    refine g3 hC rfl rfl ?_
    refine g19 hC rfl sh142 (flt12 rfl) ft12_19 ((hS.fix hw hF).g fx_142_19) ?_
    refine c0 hC rfl rfl rfl (Nat.le_of_ble_eq_true rfl) (Nat.le_of_ble_eq_true rfl) (mayR k162 rfl) (m162b hb) (Nat.le_of_ble_eq_true rfl) (fun M2 hr => ?_)
    subst hr; exact b30 _ _ _ _ hk hp hb
  have b22 : ∀ (M1 : ax_M) (x v4 : Int), KX M M1 → RHo s M1 → P M1 → ¬ M1 142 5 = 0 → ax_G L X SH 5 177 22 [(2, 142), (0, pp), (1, x), (3, 0), (0, v4), (3, 0), (3, 0), (3, 0), (3, 0)] [] M1 (R0 P) := by
    intro M1 x v4 hk hR1 hp hb
    have hS := hk.1
    refine g3 hC rfl rfl ?_
    refine g0 hC rfl ?_
    refine c1 hC rfl rfl rfl (Nat.le_of_ble_eq_true rfl) (Nat.le_of_ble_eq_true rfl) (mayR k172 rfl) (m172b (hS.fix hw hF) hb (t := 1) (by decide) hR1.1.2.1 (by omega)) (Nat.le_of_ble_eq_true rfl) (fun y M2 hr => ?_)
    obtain ⟨rfl, hr⟩ := hr; replace hr := hr.symm; subst hr
    refine s5 hC rfl rfl rfl ?_
    exact b26 M1 _ _ _ hk hp hb
  have b18 : ∀ (M1 : ax_M) (x v4 : Int), KX M M1 → RHo s M1 → P M1 → ¬ M1 142 5 = 0 → ax_G L X SH 5 177 18 [(2, 142), (0, pp), (1, x), (3, 0), (0, v4), (3, 0), (3, 0), (3, 0), (3, 0)] [] M1 (R0 P) := by
    intro M1 x v4 hk hR1 hp hb
    have hS := hk.1
    refine g3 hC rfl rfl ?_
    refine g3 hC rfl rfl ?_
    refine g19 hC rfl sh142 (flt12 rfl) ft12_18 ((hS.fix hw hF).g fx_142_18) ?_
    refine c0 hC rfl rfl rfl (Nat.le_of_ble_eq_true rfl) (Nat.le_of_ble_eq_true rfl) (mayR k162 rfl) (m162b hb) (Nat.le_of_ble_eq_true rfl) (fun M2 hr => ?_)
    subst hr; exact b22 _ _ _ hk hR1 hp hb
  have b14 : ∀ (M1 : ax_M) (x : Int), KX M M1 → RHo s M1 → P M1 → ¬ M1 142 5 = 0 → ax_G L X SH 5 177 14 [(2, 142), (0, pp), (1, x), (3, 0), (3, 0), (3, 0), (3, 0), (3, 0), (3, 0)] [] M1 (R0 P) := by
    intro M1 x hk hR1 hp hb
    have hS := hk.1
    refine g3 hC rfl rfl ?_
    refine g0 hC rfl ?_
    refine c1 hC rfl rfl rfl (Nat.le_of_ble_eq_true rfl) (Nat.le_of_ble_eq_true rfl) (mayR k172 rfl) (m172b (hS.fix hw hF) hb (t := 0) (by decide) hR1.1.1 hb8) (Nat.le_of_ble_eq_true rfl) (fun y M2 hr => ?_)
    obtain ⟨rfl, hr⟩ := hr; replace hr := hr.symm; subst hr
    refine s4 hC rfl rfl rfl ?_
    exact b18 M1 _ _ hk hR1 hp hb
  have b10 : ∀ (M1 : ax_M) (x : Int), KX M M1 → RHo s M1 → P M1 → ¬ M1 142 5 = 0 → ax_G L X SH 5 177 10 [(2, 142), (0, pp), (1, x), (3, 0), (3, 0), (3, 0), (3, 0), (3, 0), (3, 0)] [] M1 (R0 P) := by
    intro M1 x hk hR1 hp hb
    have hS := hk.1
    refine g3 hC rfl rfl ?_
    refine g3 hC rfl rfl ?_
    refine g19 hC rfl sh142 (flt12 rfl) ft12_17 ((hS.fix hw hF).g fx_142_17) ?_
    refine c0 hC rfl rfl rfl (Nat.le_of_ble_eq_true rfl) (Nat.le_of_ble_eq_true rfl) (mayR k162 rfl) (m162b hb) (Nat.le_of_ble_eq_true rfl) (fun M2 hr => ?_)
    subst hr; exact b14 _ _ hk hR1 hp hb
  obtain ⟨m, hm⟩ : ∃ m, m = nmQ T n q := ⟨_, rfl⟩
  have t44 : ∀ (M9 : ax_M) (a b : Nat) (v w : Int) (q9 : PS), KX M M9 → RHo s M9 → RT T n q9 M9 → c < 8 → clerkF T n s pp q = .inr (q9, (s.1, s.2.1, s.2.2.1, vadd s.2.2.2.1 (m, a, b, v, w), s.2.2.2.2)) → ax_G L X SH 5 177 44 [(2, 142), (0, pp), (1, (nrm m : Int)), (3, 0), (0, (a : Int)), (0, (b : Int)), (0, v), (0, w), (3, 0)] [] M9 (R0 P) := by
    intro M9 a b v w q9 hk hR9 hrt hc8 eq
    have hF9 := hk.1.fix hw hF
    have h2 : M9 176 2 = (c : Int) := by rw [hc]; exact hR9.1.2.2.1
    obtain ⟨Ma, hMa⟩ : ∃ Ma, Ma = ax_up (ax_up M9 177 (8 * 2 + c) (nrm m : Int)) 176 2 ((c : Int) + 1) := ⟨_, rfl⟩
    have hka : KX M Ma := by rw [hMa]; exact (hk.up rfl (by have : hlf 177 = 24 := rfl; omega)).up rfl (by decide)
    have hS := hka.1
    have l180 : hlf 180 = 32 := rfl
    refine g3 hC rfl rfl ?_
    refine g19 hC rfl sh142 (flt12 rfl) ft12_5 hrt.2.2.2.2.1 ?_
    refine g12e hC rfl (fun h46 => ?_) (fun h46 => (by omega))
    refine g0 hC rfl ?_
    refine g3 hC rfl rfl ?_
    refine g0 hC rfl ?_
    refine g3 hC rfl rfl ?_
    refine c1 hC rfl rfl rfl (Nat.le_of_ble_eq_true rfl) (Nat.le_of_ble_eq_true rfl) (mayR k173 rfl) (m173 hF9 (t := 2) (n := c) (by decide) h2 (by omega)) (Nat.le_of_ble_eq_true rfl) (fun y M5 hr => ?_)
    obtain ⟨rfl, hr⟩ := hr; rw [← hMa] at hr; replace hr := hr.symm; subst hr
    refine g6m hC rfl ⟨by omega, by omega⟩ ?_
    refine s8 hC rfl rfl rfl ?_
    refine g3 hC rfl rfl ?_
    refine g19 hC rfl sh142 (flt12 rfl) ft12_46 ((hS.fix hw hF).g fx_142_46) ?_
    refine g3 hC rfl rfl ?_
    refine g3 hC rfl rfl ?_
    refine r22s ((4 * c)) hC rfl (by omega) sh180 (by omega) rfl hS rfl (fun hS => ?_)
    refine g3 hC rfl rfl ?_
    refine g19 hC rfl sh142 (flt12 rfl) ft12_46 ((hS.fix hw hF).g fx_142_46) ?_
    refine g3 hC rfl rfl ?_
    refine g0 hC rfl ?_
    refine g6a hC rfl ⟨by omega, by omega⟩ ?_
    refine g3 hC rfl rfl ?_
    refine r22s (((4 * c) + 1)) hC rfl (by omega) sh180 (by omega) rfl hS rfl (fun hS => ?_)
    refine g3 hC rfl rfl ?_
    refine g19 hC rfl sh142 (flt12 rfl) ft12_46 ((hS.fix hw hF).g fx_142_46) ?_
    refine g3 hC rfl rfl ?_
    refine g0 hC rfl ?_
    refine g6a hC rfl ⟨by omega, by omega⟩ ?_
    refine g3 hC rfl rfl ?_
    refine r22s (((4 * c) + 2)) hC rfl (by omega) sh180 (by omega) rfl hS rfl (fun hS => ?_)
    refine g3 hC rfl rfl ?_
    refine g19 hC rfl sh142 (flt12 rfl) ft12_46 ((hS.fix hw hF).g fx_142_46) ?_
    refine g3 hC rfl rfl ?_
    refine g0 hC rfl ?_
    refine g6a hC rfl ⟨by omega, by omega⟩ ?_
    refine g3 hC rfl rfl ?_
    refine r22s (((4 * c) + 3)) hC rfl (by omega) sh180 (by omega) rfl hS rfl (fun hS => ?_)
    refine ret0 hC rfl ?_
    rw [hP]
    obtain ⟨M', hM⟩ : ∃ M', M' = ax_up (ax_up (ax_up (ax_up Ma 180 (4 * c) (a : Int)) 180 (4 * c + 1) (b : Int)) 180 (4 * c + 2) v) 180 (4 * c + 3) w := ⟨_, rfl⟩
    rw [← hM]
    have e0 : ∀ d k, d ≠ 180 → M' d k = Ma d k := fun d k z => by rw [hM, ax_up2n z, ax_up2n z, ax_up2n z, ax_up2n z]
    have e1 : ∀ d k, d ≠ 176 → d ≠ 177 → Ma d k = M9 d k := fun d k z1 z2 => by rw [hMa, ax_up2n z1, ax_up2n z2]
    refine ⟨by rw [hM]; exact (((hka.up rfl (by omega)).up rfl (by omega)).up rfl (by omega)).up rfl (by omega), Or.inr ⟨q9, (s.1, s.2.1, s.2.2.1, vadd s.2.2.2.1 (m, a, b, v, w), s.2.2.2.2), eq, hrt.cl (fun d k z1 z2 => (e0 d k (by omega)).trans (e1 d k (by omega) (by omega))), ?_⟩⟩
    refine hR9.clerk (by omega) (fun d k z1 z2 z3 => (e0 d k z3).trans (e1 d k (by omega) (by omega))) ((e0 142 51 (by decide)).trans (e1 142 51 (by decide) (by decide))) (fun k hk => ?_) ?_ (fun k => ?_) (fun k hk => ?_) ?_ ?_ ?_ ?_ ⟨hb8, by omega⟩
    · rw [e0 176 k (by decide), hMa, ax_up_of hk, ax_up2n (by decide)]
    · rw [e0 176 2 (by decide), hMa, ax_up_at, hc]
    · rw [e0 177 k (by decide), hMa, ax_up2n (by decide), ← hc]
      by_cases z : k = 8 * 2 + c
      · rw [if_pos z, z, ax_up_at]
      · rw [if_neg z, ax_up_of z]
    · rw [← hc] at hk
      rw [hM, ax_up_of (by omega), ax_up_of (by omega), ax_up_of (by omega), ax_up_of (by omega), e1 180 k (by decide) (by decide)]
    · rw [hM, ← hc, ax_up_of (by omega), ax_up_of (by omega), ax_up_of (by omega), ax_up_at]
    · rw [hM, ← hc, ax_up_of (by omega), ax_up_of (by omega), ax_up_at]
    · rw [hM, ← hc, ax_up_of (by omega), ax_up_at]
    · rw [hM, ← hc, ax_up_at]
  refine g3 hC rfl rfl ?_
  refine g0 hC rfl ?_
  refine g0 hC rfl ?_
  refine g3 hC rfl rfl ?_
  refine c1 hC rfl rfl rfl (Nat.le_of_ble_eq_true rfl) (Nat.le_of_ble_eq_true rfl) (mayR k169 rfl) (m169 hF h5 (t := 2) (mo := 8) (by decide) hR.1.2.2.1) (Nat.le_of_ble_eq_true rfl) (fun x M1 hr => ?_)
  rcases hr with ⟨z, rfl, rfl⟩ | ⟨z, rfl, rfl⟩
  · refine g12e hC rfl (fun y => absurd y (by decide)) (fun _ => ?_)
    refine ret0 hC rfl (fl 5 pp _ (by decide) BF.up ((KX.refl.up rfl (by decide)).up rfl (by decide)) ?_)
    unfold clerkF; rw [if_pos z]
  · refine g12e hC rfl (fun _ => ?_) (fun y => absurd rfl y)
    have eF : clerkF T n s pp q = newN T n s q (fun m q1 => wrdN T n w_in q1 (fun q2 => oldN T n s.1.2 s.1.1 q2 (fun r q3 => wrdN T n w_of q3 (fun q4 => oldN T n (fun k => (s.2.2.1.2 k).1) s.2.2.1.1 q4 (fun c q5 => setN T n w_pace 1 3 q5 (fun x q6 => setN T n w_bag 0 9 q6 (fun y q7 => .inr (q7, (s.1, s.2.1, s.2.2.1, vadd s.2.2.2.1 (m, r, c, x, y), s.2.2.2.2))))))))) := by unfold clerkF; rw [if_neg z]
    have v1 := (wq_nx (T := T) hqn).1
    have v2 := (wq_nx (T := T) v1).1
    have v3 := (wq_nx (T := T) v2).1
    have v4 := (wq_nx (T := T) v3).1
    have v5 := (wq_nx (T := T) v4).1
    have v6 := (wq_nx (T := T) v5).1
    have v7 := (wq_nx (T := T) v6).1
    have v8 := (wq_nx (T := T) v7).1
    refine g3 hC rfl rfl ?_
    refine c1 hC rfl rfl rfl (Nat.le_of_ble_eq_true rfl) (Nat.le_of_ble_eq_true rfl) (mayR k171 rfl) (m171 hF hn hR hWf hWd hq hqn) (Nat.le_of_ble_eq_true rfl) (fun x M2 hr => ?_)
    obtain ⟨hS2, hr⟩ := hr
    have hk2 := KX.refl.nm hS2
    have hF2 := hk2.1.fix hw hF
    have hR2 := hR.nm hS2
    have hW2 : Wd M2 := hWd.sb hk2.1 wdX
    refine sl2 hC rfl rfl ?_
    rcases hr with ⟨f, p, hf, hb, w⟩ | ⟨rfl, hrt2, w⟩
    · exact b10 M2 x hk2 hR2 (fl f p _ hf hb hk2 (eF.trans (w _))) (hb.bad hf)
    rw [w] at eF
    rw [← hm] at eF
    rw [← hm]
    refine g3 hC rfl rfl ?_
    refine g3 hC rfl rfl ?_
    refine g19 hC rfl sh142 (flt12 rfl) ft12_17 (hF2.g fx_142_17) ?_
    refine c0 hC rfl rfl rfl (Nat.le_of_ble_eq_true rfl) (Nat.le_of_ble_eq_true rfl) (mayR k162 rfl) (m162 hF2 hn hrt2 v1 (w := w_in) sh152 (wa152 hW2) (by decide)) (Nat.le_of_ble_eq_true rfl) (fun M3 hr => ?_)
    obtain ⟨hS3, hr⟩ := hr
    have hk3 := hk2.ak hS3
    have hF3 := hk3.1.fix hw hF
    have hR3 := hR2.sb hS3 rAK rfl
    have hW3 : Wd M3 := hWd.sb hk3.1 wdX
    rcases hr with ⟨f, p, e, hf, hb⟩ | ⟨e, hrt3, -⟩
    · exact b14 M3 _ hk3 hR3 (fl f p _ hf hb hk3 (eF.trans (wrdN_n e))) (hb.bad hf)
    rw [wrdN_y e] at eF
    refine g3 hC rfl rfl ?_
    refine g0 hC rfl ?_
    refine c1 hC rfl rfl rfl (Nat.le_of_ble_eq_true rfl) (Nat.le_of_ble_eq_true rfl) (mayR k172 rfl) (m172 hF3 hn hW3 hrt3 v2 (t := 0) (f := s.1.2) (by decide) hR3.1.1 hb8 hR3.2.1.1 hWf.2.1) (Nat.le_of_ble_eq_true rfl) (fun x M4 hr => ?_)
    obtain ⟨hS4, hr⟩ := hr
    have hk4 := hk3.nm hS4
    have hF4 := hk4.1.fix hw hF
    have hR4 := hR3.nm hS4
    have hW4 : Wd M4 := hWd.sb hk4.1 wdX
    refine s4 hC rfl rfl rfl ?_
    rcases hr with ⟨f, p, hf, rfl, hb, w⟩ | ⟨a, ha, rfl, hrt4, h41, w⟩
    · exact b18 M4 _ _ hk4 hR4 (fl f p _ hf hb hk4 (eF.trans (w _))) (hb.bad hf)
    rw [w] at eF
    refine g3 hC rfl rfl ?_
    refine g3 hC rfl rfl ?_
    refine g19 hC rfl sh142 (flt12 rfl) ft12_18 (hF4.g fx_142_18) ?_
    refine c0 hC rfl rfl rfl (Nat.le_of_ble_eq_true rfl) (Nat.le_of_ble_eq_true rfl) (mayR k162 rfl) (m162 hF4 hn hrt4 v3 (w := w_of) sh153 (wa153 hW4) (by decide)) (Nat.le_of_ble_eq_true rfl) (fun M5 hr => ?_)
    obtain ⟨hS5, hr⟩ := hr
    have hk5 := hk4.ak hS5
    have hF5 := hk5.1.fix hw hF
    have hR5 := hR4.sb hS5 rAK rfl
    have hW5 : Wd M5 := hWd.sb hk5.1 wdX
    rcases hr with ⟨f, p, e, hf, hb⟩ | ⟨e, hrt5, -⟩
    · exact b22 M5 _ _ hk5 hR5 (fl f p _ hf hb hk5 (eF.trans (wrdN_n e))) (hb.bad hf)
    rw [wrdN_y e] at eF
    refine g3 hC rfl rfl ?_
    refine g0 hC rfl ?_
    refine c1 hC rfl rfl rfl (Nat.le_of_ble_eq_true rfl) (Nat.le_of_ble_eq_true rfl) (mayR k172 rfl) (m172 hF5 hn hW5 hrt5 v4 (t := 1) (f := fun k => (s.2.2.1.2 k).1) (by decide) hR5.1.2.1 (by omega) hR5.2.1.2.1 (fun k hk => (hWf.2.2.2.1 k hk).1)) (Nat.le_of_ble_eq_true rfl) (fun x M6 hr => ?_)
    obtain ⟨hS6, hr⟩ := hr
    have hk6 := hk5.nm hS6
    have hF6 := hk6.1.fix hw hF
    have hR6 := hR5.nm hS6
    have hW6 : Wd M6 := hWd.sb hk6.1 wdX
    refine s5 hC rfl rfl rfl ?_
    rcases hr with ⟨f, p, hf, rfl, hb, w⟩ | ⟨b, hb', rfl, hrt6, h41', w⟩
    · exact b26 M6 _ _ _ hk6 (fl f p _ hf hb hk6 (eF.trans (w _))) (hb.bad hf)
    rw [w] at eF
    refine g3 hC rfl rfl ?_
    refine g3 hC rfl rfl ?_
    refine g19 hC rfl sh142 (flt12 rfl) ft12_19 (hF6.g fx_142_19) ?_
    refine c0 hC rfl rfl rfl (Nat.le_of_ble_eq_true rfl) (Nat.le_of_ble_eq_true rfl) (mayR k162 rfl) (m162 hF6 hn hrt6 v5 (w := w_pace) sh154 (wa154 hW6) (by decide)) (Nat.le_of_ble_eq_true rfl) (fun M7 hr => ?_)
    obtain ⟨hS7, hr⟩ := hr
    have hk7 := hk6.ak hS7
    have hF7 := hk7.1.fix hw hF
    have hR7 := hR6.sb hS7 rAK rfl
    rcases hr with ⟨f, p, e, hf, hb⟩ | ⟨e, hrt7, -⟩
    · exact b30 M7 _ _ _ hk7 (fl f p _ hf hb hk7 (eF.trans (wrdN_n e))) (hb.bad hf)
    replace eF := eF.trans (wrdN_y e)
    refine g3 hC rfl rfl ?_
    refine g0 hC rfl ?_
    refine g0 hC rfl ?_
    refine c1 hC rfl rfl rfl (Nat.le_of_ble_eq_true rfl) (Nat.le_of_ble_eq_true rfl) (mayR k165 rfl) (m165 hF7 hn hrt7 v6) (Nat.le_of_ble_eq_true rfl) (fun x M8 hr => ?_)
    obtain ⟨hS8, hxb, hr⟩ := hr
    have hk8 := hk7.ak hS8
    have hF8 := hk8.1.fix hw hF
    have hR8 := hR7.sb hS8 rAK rfl
    have hW8 : Wd M8 := hWd.sb hk8.1 wdX
    refine s6 hC rfl rfl rfl ?_
    rcases hr with ⟨f, p, e, hf, hb⟩ | ⟨e, hrt8, hx⟩
    · exact b35 M8 _ _ _ _ hk8 (fl f p _ hf hb hk8 (eF.trans (numN_n e))) (hb.bad hf)
    replace eF := eF.trans (numN_y e)
    rw [← hx] at eF
    refine g3 hC rfl rfl ?_
    refine g3 hC rfl rfl ?_
    refine g19 hC rfl sh142 (flt12 rfl) ft12_20 (hF8.g fx_142_20) ?_
    refine c0 hC rfl rfl rfl (Nat.le_of_ble_eq_true rfl) (Nat.le_of_ble_eq_true rfl) (mayR k162 rfl) (m162 hF8 hn hrt8 v7 (w := w_bag) sh155 (wa155 hW8) (by decide)) (Nat.le_of_ble_eq_true rfl) (fun M9 hr => ?_)
    obtain ⟨hS9, hr⟩ := hr
    have hk9 := hk8.ak hS9
    have hF9 := hk9.1.fix hw hF
    have hR9 := hR8.sb hS9 rAK rfl
    rcases hr with ⟨f, p, e, hf, hb⟩ | ⟨e, hrt9, -⟩
    · exact b39 M9 _ _ _ _ (fl f p _ hf hb hk9 (eF.trans (wrdN_n e))) (hb.bad hf)
    replace eF := eF.trans (wrdN_y e)
    refine g3 hC rfl rfl ?_
    refine g0 hC rfl ?_
    refine g0 hC rfl ?_
    refine c1 hC rfl rfl rfl (Nat.le_of_ble_eq_true rfl) (Nat.le_of_ble_eq_true rfl) (mayR k165 rfl) (m165 hF9 hn hrt9 v8) (Nat.le_of_ble_eq_true rfl) (fun y Mt hr => ?_)
    obtain ⟨hSt, hyb, hr⟩ := hr
    have hkt := hk9.ak hSt
    have hRt := hR9.sb hSt rAK rfl
    refine s7 hC rfl rfl rfl ?_
    rcases hr with ⟨f, p, e, hf, hb⟩ | ⟨e, hrtt, hy⟩
    · exact b44 Mt _ _ _ _ _ _ _ (fl f p _ hf hb hkt (eF.trans (numN_n e))) (hb.bad hf)
    replace eF := eF.trans (numN_y e)
    rw [← hy] at eF
    exact t44 Mt a b x y _ hkt hRt hrtt (by omega) eF
end RCL
