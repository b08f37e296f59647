section LAT
variable {L : Nat} {X : Nat → Int} {M V : ax_M} {h n : Nat}
theorem m213 (hF : Fix M) : ax_Ev L X SH 0 213 [(2, 142)] M (R0 (fun M' => Sb XLA M M' ∧ (∀ a, a ≠ 186 → M' a = M a) ∧ ∀ i, i < 44 → M' 186 i = M 185 i)) := by
  show ax_G L X SH 0 213 0 [(2, 142), (3, 0)] [] M _
  have hC := at213
  have hw : wok XLA = true := by decide +kernel
  have hS : Sb XLA M M := Sb.refl
  have l1 : ∀ (m k : Nat), k + m = 44 → ∀ ll M1, (ll = [(2, 142), (0, (k : Int))] ∧ Sb XLA M M1 ∧ (∀ a, a ≠ 186 → M1 a = M a) ∧ ∀ i, i < k → M1 186 i = M 185 i) → ax_G L X SH 0 213 2 ll [] M1 (R0 (fun M' => Sb XLA M M' ∧ (∀ a, a ≠ 186 → M' a = M a) ∧ ∀ i, i < 44 → M' 186 i = M 185 i)) := by
    refine lp ?_ ?_
    · rintro ll M1 ⟨rfl, hS, h1, h2⟩
      refine g3 hC rfl rfl ?_
      refine g0 hC rfl ?_
      refine g13g hC rfl (fun h4 => ?_) (fun h4 => (by omega))
      refine ret0 hC rfl ?_
      exact ⟨hS, h1, h2⟩
    · rintro k hk ll M1 ⟨rfl, hS, h1, h2⟩ hnext
      have e : M1 185 k = M 185 k := by rw [h1 185 (by decide)]
      refine g3 hC rfl rfl ?_
      refine g0 hC rfl ?_
      refine g13g hC rfl (fun h4 => (by omega)) (fun h4 => ?_)
      refine g3 hC rfl rfl ?_
      refine g19 hC rfl sh142 (flt12 rfl) ft12_55 ((hS.fix hw hF).g fx_142_55) ?_
      refine g3 hC rfl rfl ?_
      refine g3 hC rfl rfl ?_
      refine g19 hC rfl sh142 (flt12 rfl) ft12_54 ((hS.fix hw hF).g fx_142_54) ?_
      refine g3 hC rfl rfl ?_
      refine r21 (k) hC rfl (by omega) sh185 (Or.inl rfl) (by omega) e ?_
      refine r22s (k) hC rfl (by omega) sh186 (by omega) rfl hS rfl (fun hS => ?_)
      refine n1 hC rfl rfl ⟨by omega, by omega⟩ ?_
      refine g14 hC rfl ?_
      refine hnext _ _ ⟨rfl, hS, fun a ha => by rw [ax_up_ne ha]; exact h1 a ha, fun i hi => ?_⟩
      by_cases z : i = k
      · rw [z, ax_up_at]
      · rw [ax_up_of z]; exact h2 i (by omega)
  refine g0 hC rfl ?_
  refine s1 hC rfl rfl rfl ?_
  exact l1 44 0 rfl _ _ ⟨rfl, hS, fun _ _ => rfl, fun i hi => absurd hi (Nat.not_lt_zero i)⟩
theorem m214 (hF : Fix M) : ax_Ev L X SH 0 214 [(2, 142)] M (R0 (fun M' => Sb XLA M M' ∧ ∀ i, i < 44 → M' 185 i = M 186 i)) := by
  show ax_G L X SH 0 214 0 [(2, 142), (3, 0)] [] M _
  have hC := at214
  have hw : wok XLA = true := by decide +kernel
  have hS : Sb XLA M M := Sb.refl
  have l1 : ∀ (m k : Nat), k + m = 44 → ∀ ll M1, (ll = [(2, 142), (0, (k : Int))] ∧ Sb XLA M M1 ∧ (∀ i, M1 186 i = M 186 i) ∧ ∀ i, i < k → M1 185 i = M 186 i) → ax_G L X SH 0 214 2 ll [] M1 (R0 (fun M' => Sb XLA M M' ∧ ∀ i, i < 44 → M' 185 i = M 186 i)) := by
    refine lp ?_ ?_
    · rintro ll M1 ⟨rfl, hS, h1, h2⟩
      refine g3 hC rfl rfl ?_
      refine g0 hC rfl ?_
      refine g13g hC rfl (fun h4 => ?_) (fun h4 => (by omega))
      refine ret0 hC rfl ?_
      exact ⟨hS, h2⟩
    · rintro k hk ll M1 ⟨rfl, hS, h1, h2⟩ hnext
      refine g3 hC rfl rfl ?_
      refine g0 hC rfl ?_
      refine g13g hC rfl (fun h4 => (by omega)) (fun h4 => ?_)
      refine g3 hC rfl rfl ?_
      refine g19 hC rfl sh142 (flt12 rfl) ft12_54 ((hS.fix hw hF).g fx_142_54) ?_
      refine g3 hC rfl rfl ?_
      refine g3 hC rfl rfl ?_
      refine g19 hC rfl sh142 (flt12 rfl) ft12_55 ((hS.fix hw hF).g fx_142_55) ?_
      refine g3 hC rfl rfl ?_
      refine r21 (k) hC rfl (by omega) sh186 (Or.inl rfl) (by omega) (h1 k) ?_
      refine r22s (k) hC rfl (by omega) sh185 (by omega) rfl hS rfl (fun hS => ?_)
      refine n1 hC rfl rfl ⟨by omega, by omega⟩ ?_
      refine g14 hC rfl ?_
      refine hnext _ _ ⟨rfl, hS, fun i => by rw [ax_up_ne (by decide)]; exact h1 i, fun i hi => ?_⟩
      by_cases z : i = k
      · rw [z, ax_up_at]
      · rw [ax_up_of z]; exact h2 i (by omega)
  refine g0 hC rfl ?_
  refine s1 hC rfl rfl rfl ?_
  exact l1 44 0 rfl _ _ ⟨rfl, hS, fun _ => rfl, fun i hi => absurd hi (Nat.not_lt_zero i)⟩
theorem m123 (hF : Fix M) (hh : h = 9 ∨ h = 27) (hG : GG n h M) {a : Int} : ax_Ev L X SH 9 123 [(2, 0), (0, a)] M (R1 0 (fun x M' => (¬ ((0 ≤ a ∧ a ≤ 30) ∧ M 45 0 + a ≤ 999) ∧ x = -1 ∧ M' = M) ∨ (((0 ≤ a ∧ a ≤ 30) ∧ M 45 0 + a ≤ 999) ∧ x = sumI (VV M h a.toNat 48) 28 ∧ Sb WLA M M' ∧ ∀ i, i < 44 → CS M' i = CS M i))) := by
  show ax_G L X SH 9 123 0 [(2, 0), (0, a), (3, 0)] [] M _
  have hC := at123
  have hw : wok WLA = true := by decide +kernel
  have hS : Sb WLA M M := Sb.refl
  have hV : HV M h M := HV.refl
  have hH3 : M 0 3 = (h : Int) := hG.2.2.2.2.2.2.2.2.2.1.1
  have hW := hG.1
  have hs1 := hG.2.1.1
  by_cases z : (0 ≤ a ∧ a ≤ 30) ∧ M 45 0 + a ≤ 999
  · obtain ⟨k, rfl⟩ : ∃ k : Nat, a = (k : Int) := ⟨a.toNat, by omega⟩
    have o := VV_ok hh hW hG.2.1 hG.2.2.1 k
    have key : ∀ Mt M3, Mt = cpT M 141 → Sb WH Mt M3 → HV (VV M h k) h M3 → (∀ i, i < 28 → 0 ≤ M3 48 i ∧ M3 48 i ≤ 9999) ∧ sumI (M3 48) 28 = sumI (VV M h k 48) 28 ∧ ∀ i, i < 44 → CS (cpF M3 141) i = CS M i := by
      intro Mt M3 e1 h3 hv
      refine ⟨fun i hi => by rw [(hv.2 i).2.2.2]; exact o.2.1.2.2.2 i hi, sumI_c 28 (fun i _ => (hv.2 i).2.2.2), fun i hi => ?_⟩
      rw [cpF_at hi (by decide) (by decide) (by decide) (by decide), h3 141 i rfl, e1, cpT_at hi (by decide) (by decide) (by decide) (by decide)]
    refine g3 hC rfl rfl ?_
    refine g12l hC rfl (fun h1 => (by omega)) (fun h1 => ?_)
    refine g3 hC rfl rfl ?_
    refine g3 hC rfl rfl ?_
    refine c1 hC rfl rfl rfl (Nat.le_of_ble_eq_true rfl) (Nat.le_of_ble_eq_true rfl) rfl (m145 hF hs1 (by omega)) (Nat.le_of_ble_eq_true rfl) (fun x M2 hr => ?_)
    obtain ⟨rfl, hr⟩ := hr; replace hr := hr.symm; subst hr; rw [if_pos ⟨z.1.2, z.2⟩]
    refine g12n hC rfl (fun h5 => ?_) (fun h5 => (by omega))
    refine g3 hC rfl rfl ?_
    refine g19 hC rfl rfl (Nat.le_of_ble_eq_true rfl) rfl ((hS.fix hw hF).g rfl) ?_
    refine g3 hC rfl rfl ?_
    refine g19 hC rfl rfl (Nat.le_of_ble_eq_true rfl) rfl ((hS.fix hw hF).g rfl) ?_
    refine c0 hC rfl rfl rfl (Nat.le_of_ble_eq_true rfl) (Nat.le_of_ble_eq_true rfl) rfl (m71 hF (c := 141) rfl (fun k => rfl)) (Nat.le_of_ble_eq_true rfl) (fun M2 hr => ?_)
    obtain ⟨hr0, hre⟩ := hr
    have hS0 : Sb WLA M M2 := fun b q hq => by rw [hre, cpT_ne (fun w => by rw [w] at hq; cases hq)]
    refine g3 hC rfl rfl ?_
    refine g3 hC rfl rfl ?_
    refine c1 hC rfl rfl rfl (Nat.le_of_ble_eq_true rfl) (Nat.le_of_ble_eq_true rfl) rfl (m146 (hr0.fix (by decide +kernel) hF) hh (hV.sb hr0 (hokB (by decide +kernel) hh) (sokB (by decide +kernel))) hW hG.2.1 hG.2.2.1 ((hr0 0 3 rfl).trans hH3) (by omega)) (Nat.le_of_ble_eq_true rfl) (fun x M2 hr => ?_)
    obtain ⟨rfl, hr1, hr2⟩ := hr; have hk := key _ _ hre hr1 hr2; have hS := hS0.then hr1 rfl
    refine g18 hC rfl (by decide) ?_
    refine g3 hC rfl rfl ?_
    refine g19 hC rfl rfl (Nat.le_of_ble_eq_true rfl) rfl ((hS.fix hw hF).g rfl) ?_
    refine c1 hC rfl rfl rfl (Nat.le_of_ble_eq_true rfl) (Nat.le_of_ble_eq_true rfl) rfl (m68 (hr1.fix (by decide +kernel) (hr0.fix (by decide +kernel) hF)) hk.1) (Nat.le_of_ble_eq_true rfl) (fun x M2 hr => ?_)
    obtain ⟨rfl, hr⟩ := hr; replace hr := hr.symm; subst hr
    refine s2 hC rfl rfl rfl ?_
    refine g3 hC rfl rfl ?_
    refine g19 hC rfl rfl (Nat.le_of_ble_eq_true rfl) rfl ((hS.fix hw hF).g rfl) ?_
    refine g3 hC rfl rfl ?_
    refine g19 hC rfl rfl (Nat.le_of_ble_eq_true rfl) rfl ((hS.fix hw hF).g rfl) ?_
    refine c0 hC rfl rfl rfl (Nat.le_of_ble_eq_true rfl) (Nat.le_of_ble_eq_true rfl) rfl (m72 (hr1.fix (by decide +kernel) (hr0.fix (by decide +kernel) hF)) (c := 141) rfl) (Nat.le_of_ble_eq_true rfl) (fun M5 hr => ?_)
    refine g3 hC rfl rfl ?_
    refine ret1 hC rfl rfl ?_
    exact Or.inr ⟨z, hk.2.1, hS.then hr.1 rfl, by rw [hr.2]; exact hk.2.2⟩
  · by_cases y : 0 ≤ a
    · skip
      refine g3 hC rfl rfl ?_
      refine g12l hC rfl (fun h1 => (by omega)) (fun h1 => ?_)
      refine g3 hC rfl rfl ?_
      refine g3 hC rfl rfl ?_
      refine c1 hC rfl rfl rfl (Nat.le_of_ble_eq_true rfl) (Nat.le_of_ble_eq_true rfl) rfl (m145 hF hs1 (by omega)) (Nat.le_of_ble_eq_true rfl) (fun x M2 hr => ?_)
      obtain ⟨rfl, hr⟩ := hr; replace hr := hr.symm; subst hr; rw [if_neg (by omega)]
      refine g12n hC rfl (fun h5 => (by omega)) (fun h5 => ?_)
      refine g0 hC rfl ?_
      refine ret1 hC rfl rfl ?_
      exact Or.inl ⟨z, rfl, rfl⟩
    · skip
      refine g3 hC rfl rfl ?_
      refine g12l hC rfl (fun h1 => ?_) (fun h1 => (by omega))
      refine g0 hC rfl ?_
      refine ret1 hC rfl rfl ?_
      exact Or.inl ⟨z, rfl, rfl⟩
theorem m246 (hF : Fix M) (hh : h = 9 ∨ h = 27) (hV : RV V h M) (hW : HW V h) (hSW : SW V) (hPW : PW V h) (hsm : M 142 69 = -1) (hwd : M 142 70 = -1) {a : Int} : ax_Ev L X SH 9 246 [(2, 142), (0, a)] M (R1 0 (fun x M' => (¬ ((0 ≤ a ∧ a ≤ 30) ∧ V 45 0 + a ≤ 999) ∧ x = -1 ∧ M' = M) ∨ (((0 ≤ a ∧ a ≤ 30) ∧ V 45 0 + a ≤ 999) ∧ x = sumI (VV V h a.toNat 48) 28 ∧ Sb XLA M M' ∧ ∀ i, i < 44 → M' 185 i = M 185 i))) := by
  show ax_G L X SH 9 246 0 [(2, 142), (0, a), (3, 0)] [] M _
  have hC := at246
  have hw : wok XLA = true := by decide +kernel
  have hS : Sb XLA M M := Sb.refl
  have hs1 := hSW.1
  have e0 : M 185 0 = V 45 0 := hV.2.2.2.2.1.1
  by_cases z : (0 ≤ a ∧ a ≤ 30) ∧ V 45 0 + a ≤ 999
  · obtain ⟨k, rfl⟩ : ∃ k : Nat, a = (k : Int) := ⟨a.toNat, by omega⟩
    have o := VV_ok hh hW hSW hPW k
    have hRm : ∀ M2, (∀ a, a ≠ 186 → M2 a = M a) → RV V h M2 := by
      intro M2 he
      obtain ⟨a1, a2, a3, a4, a5, a6⟩ := hV
      unfold RV
      rw [he 176 (by decide), he 178 (by decide), he 180 (by decide), he 181 (by decide), he 185 (by decide), he 182 (by decide), he 183 (by decide), he 184 (by decide)]
      exact ⟨a1, a2, a3, a4, a5, a6⟩
    refine g3 hC rfl rfl ?_
    refine g3 hC rfl rfl ?_
    refine g0 hC rfl ?_
    refine g0 hC rfl ?_
    refine c1 hC rfl rfl rfl (Nat.le_of_ble_eq_true rfl) (Nat.le_of_ble_eq_true rfl) (mayR k215 rfl) (m215 hF (by rw [e0]; exact hs1) (by decide) (by decide)) (Nat.le_of_ble_eq_true rfl) (fun x M2 hr => ?_)
    obtain ⟨rfl, hr⟩ := hr; replace hr := hr.symm; subst hr; rw [e0, if_pos z]
    refine g12n hC rfl (fun h5 => ?_) (fun h5 => (by omega))
    refine g3 hC rfl rfl ?_
    refine c0 hC rfl rfl rfl (Nat.le_of_ble_eq_true rfl) (Nat.le_of_ble_eq_true rfl) (mayR k213 rfl) (m213 hF) (Nat.le_of_ble_eq_true rfl) (fun M2 hr => ?_)
    obtain ⟨hr0, hr1, hr2⟩ := hr; have hS := hS.then hr0 rfl
    refine g3 hC rfl rfl ?_
    refine g3 hC rfl rfl ?_
    refine c1 hC rfl rfl rfl (Nat.le_of_ble_eq_true rfl) (Nat.le_of_ble_eq_true rfl) (mayR k212 rfl) (m212 (hS.fix hw hF) hh (hRm _ hr1) hW hSW hPW ((hS 142 69 rfl).trans hsm) ((hS 142 70 rfl).trans hwd) (by omega) (by omega)) (Nat.le_of_ble_eq_true rfl) (fun x M2 hr => ?_)
    obtain ⟨rfl, hr3, hr4⟩ := hr; have hS := hS.then hr3 rfl
    refine g18 hC rfl (by decide) ?_
    refine g3 hC rfl rfl ?_
    refine c1 hC rfl rfl rfl (Nat.le_of_ble_eq_true rfl) (Nat.le_of_ble_eq_true rfl) (mayR k195 rfl) (m195 (hS.fix hw hF) (all28 hr4.2.2.2.2.1.2.2.2 (P := fun x => 0 ≤ x ∧ x ≤ 9999) o.2.1.2.2.2)) (Nat.le_of_ble_eq_true rfl) (fun x M4 hr => ?_)
    obtain ⟨rfl, hr⟩ := hr; replace hr := hr.symm; subst hr
    refine s2 hC rfl rfl rfl ?_
    refine g3 hC rfl rfl ?_
    refine c0 hC rfl rfl rfl (Nat.le_of_ble_eq_true rfl) (Nat.le_of_ble_eq_true rfl) (mayR k214 rfl) (m214 (hS.fix hw hF)) (Nat.le_of_ble_eq_true rfl) (fun M5 hr => ?_)
    refine g3 hC rfl rfl ?_
    refine ret1 hC rfl rfl ?_
    refine Or.inr ⟨z, sum28 hr4.2.2.2.2.1.2.2.2, hS.then hr.1 rfl, fun i hi => ?_⟩
    rw [hr.2 i hi, hr3 186 i rfl, hr2 i hi]
  · skip
    refine g3 hC rfl rfl ?_
    refine g3 hC rfl rfl ?_
    refine g0 hC rfl ?_
    refine g0 hC rfl ?_
    refine c1 hC rfl rfl rfl (Nat.le_of_ble_eq_true rfl) (Nat.le_of_ble_eq_true rfl) (mayR k215 rfl) (m215 hF (by rw [e0]; exact hs1) (by decide) (by decide)) (Nat.le_of_ble_eq_true rfl) (fun x M2 hr => ?_)
    obtain ⟨rfl, hr⟩ := hr; replace hr := hr.symm; subst hr; rw [e0, if_neg z]
    refine g12n hC rfl (fun h5 => (by omega)) (fun h5 => ?_)
    refine g0 hC rfl ?_
    refine ret1 hC rfl rfl ?_
    exact Or.inl ⟨z, rfl, rfl⟩
theorem op23 (hR0 : Rel n M) {a : Int} : OP L X n 0 123 246 [(2, 0), (0, a)] [(2, 142), (0, a)] M := by
  have hR := hR0
  obtain ⟨h, hh, hF, hG⟩ := hR
  have hG0 := hG
  obtain ⟨hW, hSW, hPW, hRV, hGT, hGN, hGM, hGH, hGS, hGX⟩ := hG
  have hV : HV M h M := HV.refl
  have hH3 : M 0 3 = (h : Int) := hGX.1.1
  refine OP.tw (d' := 9) (m123 hF hh hG0) (Q := fun x M1 y M2 => (¬ ((0 ≤ a ∧ a ≤ 30) ∧ M 45 0 + a ≤ 999) ∧ y = -1 ∧ M2 = M1) ∨ (((0 ≤ a ∧ a ≤ 30) ∧ M 45 0 + a ≤ 999) ∧ y = sumI (VV M h a.toNat 48) 28 ∧ Sb XLA M1 M2 ∧ ∀ i, i < 44 → M2 185 i = M1 185 i)) (fun x M1 hx => ?_) (fun x M1 y M2 hx hy => ?_) (by decide) (by decide)
  · rcases hx with ⟨-, -, rfl⟩ | ⟨-, -, hs, -⟩
    · exact m246 hF hh hRV hW hSW hPW hGX.2.2.1.1 hGX.2.2.1.2
    · exact m246 (hs.fix (by decide +kernel) hF) hh (hRV.sb hs (rokB (by decide +kernel))) hW hSW hPW ((hs 142 69 rfl).trans hGX.2.2.1.1) ((hs 142 70 rfl).trans hGX.2.2.1.2)
  · rcases hx with ⟨x1, rfl, rfl⟩ | ⟨x1, rfl, hs, f1⟩
    · rcases hy with ⟨-, y2, y3⟩ | ⟨y1, -⟩
      · rw [y3]; exact ⟨y2, h, hh, hF, hG0.up (by omega)⟩
      · exact absurd y1 x1
    · rcases hy with ⟨y1, -⟩ | ⟨-, y2, hs2, e1⟩
      · exact absurd x1 y1
      · have hT : Sb WXL M M2 := (hs.mono rfl).then hs2 rfl
        have hK0 : RK (CS M) (M 185) := RK.of (V := M) hSW hRV
        have hc : ∀ i, i < 44 → CS M2 i = CS M i := fun i hi => by
          rw [← f1 i hi]; unfold CS
          rw [hs2 45 0 rfl, hs2 46 _ rfl, hs2 47 _ rfl, hs2 48 _ rfl]
        have hK : RK (CS M2) (M2 185) := hK0.cg hc (fun i hi => by rw [e1 i hi, hs 185 i rfl])
        refine ⟨y2, h, hh, hT.fix (by decide +kernel) hF, hG0.st hh hT rfl rfl rfl (Or.inl rfl) (Or.inl ⟨rfl, by omega⟩) rfl (hGH.sb hT (hokB (by decide +kernel) hh) rfl) rfl hK (Or.inl ⟨rfl, fun s hs1 hs2 => ?_⟩)⟩
        have := hc (6 + s) (by omega)
        rw [CS6 hs2, CS6 hs2] at this
        rw [this]; exact hGX.2.2.2.1 s hs1 hs2
end LAT
