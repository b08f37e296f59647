section CPO
variable {L : Nat} {X : Nat → Int} {M V : ax_M} {h n : Nat}
theorem m244 (hF : Fix M) (hV : RV V h M) (hW : HW V h) (hSW : SW V) (hPW : PW V h) (hsm : M 142 69 = -1) (hwd : M 142 70 = -1) {mm : Nat → Nat → Int} (hmm : mm = mtp V h (V 46) (-1) (-1)) : ax_Ev L X SH 8 244 [(2, 142)] M (R1 1 (fun x M' => x = (OV V h mm).1 ∧ Sb XCP M M')) := by
  show ax_G L X SH 8 244 0 [(2, 142)] [] M _
  have hC := at244
  have hw : wok XCP = true := by decide +kernel
  have hwr : rok XCP := rokB (by decide +kernel)
  have hS : Sb XCP M M := Sb.refl
  have hb := hW.1.2.2.2.2
  have fb := fullB (nC V h) (by omega)
  obtain ⟨N, hN⟩ : ∃ N, N = 1 <<< nC V h := ⟨_, rfl⟩
  have h242 := m242 (L := L) (X := X) hF hV hW hSW hPW hsm hwd hmm
  rw [← hN] at fb h242
  refine g3 hC rfl rfl ?_
  refine c0 hC rfl rfl rfl (Nat.le_of_ble_eq_true rfl) (Nat.le_of_ble_eq_true rfl) (mayR k242 rfl) h242 (Nat.le_of_ble_eq_true rfl) (fun M2 hrr => ?_)
  obtain ⟨hr0, hr1, hr2⟩ := hrr; have hS := hS.then hr0 rfl
  refine g3 hC rfl rfl ?_
  refine g19 hC rfl sh142 (flt12 rfl) ft12_74 ((hS.fix hw hF).g fx_142_74) ?_
  refine g0 hC rfl ?_
  refine g3 hC rfl rfl ?_
  refine c1 hC rfl rfl rfl (Nat.le_of_ble_eq_true rfl) (Nat.le_of_ble_eq_true rfl) (mayR k186 rfl) (m186 (hS.fix hw hF) (hV.sb hS hwr) hW) (Nat.le_of_ble_eq_true rfl) (fun y M3 hrr => ?_)
  obtain ⟨rfl, hrr⟩ := hrr; replace hrr := hrr.symm; subst hrr
  refine g6 hC rfl (congrArg some ((shlN (a := 1) (k := nC V h) (by omega) (by omega)).trans (show ((1 <<< nC V h : Nat) : Int) = (N : Int) by rw [hN]))) ?_
  refine g0 hC rfl ?_
  refine g6s hC rfl ⟨by omega, by omega⟩ ?_
  refine r21 (N - 1) hC rfl (by omega) sh198 (Or.inl rfl) (by omega) hr1 ?_
  refine ret1 hC rfl rfl ?_
  exact ⟨rfl, hS⟩
theorem m245 (hF : Fix M) (hV : RV V h M) (hW : HW V h) (hSW : SW V) (hPW : PW V h) (hsm : M 142 69 = -1) (hwd : M 142 70 = -1) {mm : Nat → Nat → Int} (hmm : mm = mtp V h (V 46) (-1) (-1)) {a : Int} : ax_Ev L X SH 8 245 [(2, 142), (0, a)] M (R1 0 (fun x M' => x = mateV V h mm a ∧ Sb XCP M M')) := by
  show ax_G L X SH 8 245 0 [(2, 142), (0, a)] [] M _
  have hC := at245
  have hw : wok XCP = true := by decide +kernel
  have hwr : rok XCP := rokB (by decide +kernel)
  have hS : Sb XCP M M := Sb.refl
  have hb := hW.1.2.2.2.2
  by_cases z2 : 0 ≤ a ∧ a < (nC V h : Int)
  · obtain ⟨k, rfl⟩ : ∃ k : Nat, a = (k : Int) := ⟨a.toNat, by omega⟩
    have e : mateV V h mm (k : Int) = appl (fun _ => -1) (OV V h mm).2 k := if_pos z2
    rw [e]
    refine g3 hC rfl rfl ?_
    refine g3 hC rfl rfl ?_
    refine c1 hC rfl rfl rfl (Nat.le_of_ble_eq_true rfl) (Nat.le_of_ble_eq_true rfl) (mayR k189 rfl) (m189 hF hV hW) (Nat.le_of_ble_eq_true rfl) (fun x M2 hr => ?_)
    obtain ⟨rfl, hr⟩ := hr; replace hr := hr.symm; subst hr; rw [if_pos z2]
    refine g12n hC rfl (fun h3 => ?_) (fun h3 => (by omega))
    refine g3 hC rfl rfl ?_
    refine c0 hC rfl rfl rfl (Nat.le_of_ble_eq_true rfl) (Nat.le_of_ble_eq_true rfl) (mayR k242 rfl) (m242 hF hV hW hSW hPW hsm hwd hmm) (Nat.le_of_ble_eq_true rfl) (fun M2 hrr => ?_)
    obtain ⟨hr0, hr1, hr2⟩ := hrr; have hS := hS.then hr0 rfl
    refine g3 hC rfl rfl ?_
    refine g19 hC rfl sh142 (flt12 rfl) ft12_75 ((hS.fix hw hF).g fx_142_75) ?_
    refine g3 hC rfl rfl ?_
    refine r21 (k) hC rfl rfl sh199 (Or.inl rfl) (by omega) (hr2 k (by omega)) ?_
    refine ret1 hC rfl rfl ?_
    exact ⟨rfl, hS⟩
  · have e : mateV V h mm a = -1 := if_neg z2
    rw [e]
    refine g3 hC rfl rfl ?_
    refine g3 hC rfl rfl ?_
    refine c1 hC rfl rfl rfl (Nat.le_of_ble_eq_true rfl) (Nat.le_of_ble_eq_true rfl) (mayR k189 rfl) (m189 hF hV hW) (Nat.le_of_ble_eq_true rfl) (fun x M2 hr => ?_)
    obtain ⟨rfl, hr⟩ := hr; replace hr := hr.symm; subst hr; rw [if_neg z2]
    refine g12n hC rfl (fun h3 => (by omega)) (fun h3 => ?_)
    refine g0 hC rfl ?_
    refine ret1 hC rfl rfl ?_
    exact ⟨rfl, hS⟩
theorem op21 (hR0 : Rel n M) : OP L X n 1 121 244 [(2, 0)] [(2, 142)] M := by
  have hR := hR0
  obtain ⟨h, hh, hF, hG⟩ := hR
  have hG0 := hG
  obtain ⟨hW, hSW, hPW, hRV, hGT, hGN, hGM, hGH, hGS, hGX⟩ := hG
  have hV : HV M h M := HV.refl
  have hH3 : M 0 3 = (h : Int) := hGX.1.1
  refine OP.sc (W' := XCP) hR0 (by decide +kernel) (by decide +kernel) (by decide +kernel) (by decide +kernel) (m121 hF hh hG0) (fun M1 hS => ?_) (by decide) (d' := 8) (by decide)
  exact m244 (hS.fix (by decide +kernel) hF) (hRV.sb hS (rokB (by decide +kernel))) hW hSW hPW ((hS 142 69 rfl).trans hGX.2.2.1.1) ((hS 142 70 rfl).trans hGX.2.2.1.2) (mm := mt M h (-1) (-1)) rfl
theorem op22 (hR0 : Rel n M) {a : Int} : OP L X n 0 122 245 [(2, 0), (0, a)] [(2, 142), (0, a)] M := by
  have hR := hR0
  obtain ⟨h, hh, hF, hG⟩ := hR
  have hG0 := hG
  obtain ⟨hW, hSW, hPW, hRV, hGT, hGN, hGM, hGH, hGS, hGX⟩ := hG
  have hV : HV M h M := HV.refl
  have hH3 : M 0 3 = (h : Int) := hGX.1.1
  refine OP.sc (W' := XCP) hR0 (by decide +kernel) (by decide +kernel) (by decide +kernel) (by decide +kernel) (m122 hF hh hG0) (fun M1 hS => ?_) (by decide) (d' := 8) (by decide)
  exact m245 (hS.fix (by decide +kernel) hF) (hRV.sb hS (rokB (by decide +kernel))) hW hSW hPW ((hS 142 69 rfl).trans hGX.2.2.1.1) ((hS 142 70 rfl).trans hGX.2.2.1.2) (mm := mt M h (-1) (-1)) rfl
end CPO
