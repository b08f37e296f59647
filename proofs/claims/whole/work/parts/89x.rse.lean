section RSE
variable {L : Nat} {X : Nat → Int} {M M1 : ax_M} {n l : Nat} {s : HS} {T : Nat → Int} {q : PS}
theorem BF.bad {f p : Int} (h : BF f p M) (hf : f ≠ 0) : ¬ M 142 5 = 0 := by rw [h.1]; exact hf
theorem numN_y {lo hi : Int} {k : Int → PS → SRs} (e : nuR T n q lo hi = none) : numN T n lo hi q k = k (nuV T n q) (nx T n q) := by unfold numN tryR; rw [e]
theorem numN_n {lo hi : Int} {k : Int → PS → SRs} {f p : Int} (e : nuR T n q lo hi = some (f, p)) : numN T n lo hi q k = .inl (f, p) := by unfold numN tryR; rw [e]
theorem m176 (hF : Fix M) (hn : n ≤ 1600) (hR : RHo s M) (hWf : WfH l s) (hWd : Wd M) (hq : RT T n q M) (hqn : q.1 ≤ n) {pp : Int} : ax_Ev L X SH 5 176 [(2, 142), (0, pp)] M (R0 (RPo T n (sectF T n s pp q) M)) := by
  show ax_G L X SH 5 176 0 [(2, 142), (0, pp), (3, 0), (3, 0), (3, 0)] [] M _
  obtain ⟨P, hP⟩ : ∃ P, P = RPo T n (sectF T n s pp q) M := ⟨_, rfl⟩
  rw [← hP]
  have hC := at176
  have h5 := hq.2.2.2.2.1
  have hb0 := hWf.1.2.2.1
  have hb8 := hWf.1.1
  have fl : ∀ f p M', f ≠ 0 → BF f p M' → KX M M' → sectF T n s pp q = .inl (f, p) → P M' := fun f p M' a b c d => by rw [hP]; exact ⟨c, Or.inl ⟨f, p, a, b, d⟩⟩
  have b19 : ∀ (M1 : ax_M) (x y : Int), P M1 → ¬ M1 142 5 = 0 → ax_G L X SH 5 176 19 [(2, 142), (0, pp), (1, x), (3, 0), (0, y)] [] M1 (R0 P) := by
    intro M1 x y hp hb
    have hS : Sb XHO M1 M1 := Sb.refl
    refine g3 hC rfl rfl ?_
    refine g19 hC rfl sh142 (flt12 rfl) ft12_5 (Eq.refl (M1 142 5)) ?_
    refine g12n hC rfl (fun h21 => ?_) (fun h21 => (by omega))
    refine ret0 hC rfl ?_
    exact hp
  have b14 : ∀ (M1 : ax_M) (x : Int), P M1 → ¬ M1 142 5 = 0 → ax_G L X SH 5 176 14 [(2, 142), (0, pp), (1, x), (3, 0), (3, 0)] [] M1 (R0 P) := by
    intro M1 x hp hb
    have hS : Sb XHO M1 M1 := Sb.refl
    refine g3 hC rfl rfl ?_
    refine g0 hC rfl ?_
    refine g0 hC rfl ?_
    refine c1 hC rfl rfl rfl (Nat.le_of_ble_eq_true rfl) (Nat.le_of_ble_eq_true rfl) (mayR k165 rfl) (m165b hb) (Nat.le_of_ble_eq_true rfl) (fun y M2 hr => ?_)
    obtain ⟨rfl, hr⟩ := hr; replace hr := hr.symm; subst hr
    refine s4 hC rfl rfl rfl ?_
    exact b19 M1 x 0 hp hb
  have b10 : ∀ (M1 : ax_M) (x : Int), KX M M1 → P M1 → ¬ M1 142 5 = 0 → ax_G L X SH 5 176 10 [(2, 142), (0, pp), (1, x), (3, 0), (3, 0)] [] M1 (R0 P) := by
    intro M1 x hk hp hb
    have hS := hk.1
    have hw := wXHO
    refine g3 hC rfl rfl ?_
    refine g3 hC rfl rfl ?_
    refine g19 hC rfl sh142 (flt12 rfl) ft12_15 ((hS.fix hw hF).g fx_142_15) ?_
    refine c0 hC rfl rfl rfl (Nat.le_of_ble_eq_true rfl) (Nat.le_of_ble_eq_true rfl) (mayR k162 rfl) (m162b hb) (Nat.le_of_ble_eq_true rfl) (fun M2 hr => ?_)
    subst hr; exact b14 _ x hp hb
  refine g3 hC rfl rfl ?_
  refine g0 hC rfl ?_
  refine g0 hC rfl ?_
  refine g3 hC rfl rfl ?_
  refine c1 hC rfl rfl rfl (Nat.le_of_ble_eq_true rfl) (Nat.le_of_ble_eq_true rfl) (mayR k169 rfl) (m169 hF h5 (t := 1) (mo := 5) (by decide) hR.1.2.1) (Nat.le_of_ble_eq_true rfl) (fun x M1 hr => ?_)
  rcases hr with ⟨z, rfl, rfl⟩ | ⟨z, rfl, rfl⟩
  · refine g12e hC rfl (fun y => absurd y (by decide)) (fun _ => ?_)
    refine ret0 hC rfl (fl 5 pp _ (by decide) BF.up ((KX.refl.up rfl (by decide)).up rfl (by decide)) ?_)
    unfold sectF; rw [if_pos z]
  · refine g12e hC rfl (fun _ => ?_) (fun y => absurd rfl y)
    have eF : sectF T n s pp q = newN T n s q (fun m q1 => setN T n w_post 0 20 q1 (fun x q2 => .inr (q2, (s.1, s.2.1, vadd s.2.2.1 (m, x), s.2.2.2)))) := by unfold sectF; rw [if_neg z]
    refine g3 hC rfl rfl ?_
    refine c1 hC rfl rfl rfl (Nat.le_of_ble_eq_true rfl) (Nat.le_of_ble_eq_true rfl) (mayR k171 rfl) (m171 hF hn hR hWf hWd hq hqn) (Nat.le_of_ble_eq_true rfl) (fun x M2 hr => ?_)
    obtain ⟨hS, hr⟩ := hr
    have hk := KX.refl.nm hS
    have hF2 := hk.1.fix wXHO hF
    have hR2 := hR.nm hS
    refine sl2 hC rfl rfl ?_
    rcases hr with ⟨f, p, hf, hb, w⟩ | ⟨rfl, hrt, w⟩
    · exact b10 M2 x hk (fl f p _ hf hb hk (eF.trans (w _))) (hb.bad hf)
    · have v1 := (wq_nx (T := T) hqn).1
      have v2 := (wq_nx (T := T) v1).1
      have hW2 : Wd M2 := hWd.sb hk.1 wdX
      refine g3 hC rfl rfl ?_
      refine g3 hC rfl rfl ?_
      refine g19 hC rfl sh142 (flt12 rfl) ft12_15 (hF2.g fx_142_15) ?_
      refine c0 hC rfl rfl rfl (Nat.le_of_ble_eq_true rfl) (Nat.le_of_ble_eq_true rfl) (mayR k162 rfl) (m162 hF2 hn hrt v1 (w := w_post) sh150 (wa150 hW2) (by decide)) (Nat.le_of_ble_eq_true rfl) (fun M3 hr => ?_)
      obtain ⟨hS3, hr⟩ := hr
      have hk3 := hk.ak hS3
      have hF3 := hk3.1.fix wXHO hF
      have hR3 := hR2.sb hS3 rAK rfl
      rcases hr with ⟨f, p, e, hf, hb⟩ | ⟨e, hrt3, -⟩
      · refine b14 M3 _ (fl f p _ hf hb hk3 ?_) (hb.bad hf)
        rw [eF, w]; exact wrdN_n e
      · refine g3 hC rfl rfl ?_
        refine g0 hC rfl ?_
        refine g0 hC rfl ?_
        refine c1 hC rfl rfl rfl (Nat.le_of_ble_eq_true rfl) (Nat.le_of_ble_eq_true rfl) (mayR k165 rfl) (m165 hF3 hn hrt3 v2) (Nat.le_of_ble_eq_true rfl) (fun x M4 hr => ?_)
        obtain ⟨hS4, hxb, hr⟩ := hr
        have hk4 := hk3.ak hS4
        have hF4 := hk4.1.fix wXHO hF
        have hR4 := hR3.sb hS4 rAK rfl
        refine s4 hC rfl rfl rfl ?_
        rcases hr with ⟨f, p, e2, hf, hb⟩ | ⟨e2, hrt4, hx⟩
        · refine b19 M4 _ _ (fl f p _ hf hb hk4 ?_) (hb.bad hf)
          rw [eF, w]; exact (wrdN_y e).trans (numN_n e2)
        · refine g3 hC rfl rfl ?_
          refine g19 hC rfl sh142 (flt12 rfl) ft12_5 hrt4.2.2.2.2.1 ?_
          refine g12n hC rfl (fun y => absurd rfl y) (fun _ => ?_)
          refine g3 hC rfl rfl ?_
          refine g19 hC rfl sh142 (flt12 rfl) ft12_45 (hF4.g fx_142_45) ?_
          refine g3 hC rfl rfl ?_
          refine g0 hC rfl ?_
          refine g3 hC rfl rfl ?_
          refine c1 hC rfl rfl rfl (Nat.le_of_ble_eq_true rfl) (Nat.le_of_ble_eq_true rfl) (mayR k173 rfl) (m173 hF4 (t := 1) (n := s.2.2.1.1) (by decide) hR4.1.2.1 (by omega)) (Nat.le_of_ble_eq_true rfl) (fun y M5 hr => ?_)
          obtain ⟨rfl, rfl⟩ := hr
          refine g3 hC rfl rfl ?_
          refine r22 (s.2.2.1.1) hC rfl rfl sh179 (by omega) rfl ?_
          refine ret0 hC rfl ?_
          rw [hP]
          refine ⟨((hk4.up rfl (by have : hlf 177 = 24 := rfl; omega)).up rfl (by decide)).up rfl (Or.inl rfl), Or.inr ⟨_, _, ?_, hrt4.cl (fun a k z1 z2 => by rw [ax_up2n (by omega), ax_up2n (by omega), ax_up2n (by omega)]), hR4.sect (by omega) hb8⟩⟩
          rw [eF, w, hx]; exact (wrdN_y e).trans (numN_y e2)
end RSE
