section DRO
variable {L : Nat} {X : Nat → Int} {M V : ax_M} {h n : Nat}
theorem gWD : gok WD = true := by decide +kernel
theorem gXN : gok XN = true := by decide +kernel
theorem wWD : wok WD = true := by decide +kernel
theorem wXN : wok XN = true := by decide +kernel
theorem rWD : rok WD := rokB (by decide +kernel)
theorem m143 (hF : Fix M) (hh : h = 9 ∨ h = 27) (hV : HV V h M) (hW : HW V h) (hSW : SW V) (hPW : PW V h) (hH3 : M 0 3 = (h : Int)) : ax_Ev L X SH 6 143 [(2, 0)] M (R0 (fun M' => Sb WD M M' ∧ DO V h (-1) (-1) M')) := by
  show ax_G L X SH 6 143 0 [(2, 0)] [] M _
  have hC := at143
  have hw := wX0
  have hS : Sb X0 M M := Sb.refl
  refine g3 hC rfl rfl ?_
  refine g19 hC rfl rfl (Nat.le_of_ble_eq_true rfl) rfl ((hS.fix hw hF).g rfl) ?_
  refine g3 hC rfl rfl ?_
  refine g19 hC rfl rfl (Nat.le_of_ble_eq_true rfl) rfl ((hS _ _ rfl).trans hH3) ?_
  refine g3 hC rfl rfl ?_
  refine g19 hC rfl rfl (Nat.le_of_ble_eq_true rfl) rfl ((hS.fix hw hF).g rfl) ?_
  refine g0 hC rfl ?_
  refine g0 hC rfl ?_
  refine c0 hC rfl rfl rfl (Nat.le_of_ble_eq_true rfl) (Nat.le_of_ble_eq_true rfl) rfl (m4 hF hh hV hW hSW hPW) (Nat.le_of_ble_eq_true rfl) (fun M2 hr => ?_)
  obtain ⟨hr0, hr⟩ := hr
  refine ret0 hC rfl ?_
  exact ⟨hr0, hr⟩
theorem m208' (hF : Fix M) (hG : GG n h M) {M1 : ax_M} (hS : Sb WD M M1) : ax_Ev L X SH 6 208 [(2, 142)] M1 (R0 (fun M' => Sb XN M1 M' ∧ RO M h (M 46) (-1) (-1) M')) :=
  m208 (hS.fix wWD hF) (hG.2.2.2.1.sb hS rWD) hG.1 hG.2.1 hG.2.2.1 ((hS 142 69 rfl).trans hG.2.2.2.2.2.2.2.2.2.2.2.1.1) ((hS 142 70 rfl).trans hG.2.2.2.2.2.2.2.2.2.2.2.1.2)
theorem m111 (hF : Fix M) (hh : h = 9 ∨ h = 27) (hG : GG n h M) {a : Int} : ax_Ev L X SH 7 111 [(2, 0), (0, a)] M (R1 0 (fun x M' => x = (if 0 ≤ a ∧ a < (nC M h : Int) then (DD M h (-1) (-1) 9).2.2.1 a.toNat else -2) ∧ Sb WD M M')) := by
  show ax_G L X SH 7 111 0 [(2, 0), (0, a)] [] M _
  have hC := at111
  have hw := wWD
  have hwh : hok WD h := hokB (by decide +kernel) hh
  have hS : Sb WD M M := Sb.refl
  have hV : HV M h M := HV.refl
  have hH3 : M 0 3 = (h : Int) := hG.2.2.2.2.2.2.2.2.2.1.1
  have hW := hG.1
  have hb := hW.1.2.2.2.2
  by_cases z : 0 ≤ a ∧ a < (nC M h : Int)
  · obtain ⟨k, rfl⟩ : ∃ k : Nat, a = (k : Int) := ⟨a.toNat, by omega⟩
    rw [if_pos z]
    refine g3 hC rfl rfl ?_
    refine g3 hC rfl rfl ?_
    refine g19 hC rfl rfl (Nat.le_of_ble_eq_true rfl) rfl ((hS _ _ rfl).trans hH3) ?_
    refine g19 hC rfl (shH hh) (Nat.le_of_ble_eq_true rfl) rfl (rd3 hS hwh hV hW) ?_
    refine c1 hC rfl rfl rfl (Nat.le_of_ble_eq_true rfl) (Nat.le_of_ble_eq_true rfl) rfl (m140) (Nat.le_of_ble_eq_true rfl) (fun x M2 hr => ?_)
    obtain ⟨rfl, hr⟩ := hr; replace hr := hr.symm; subst hr; rw [if_pos (by omega)]
    refine g12n hC rfl (fun h5 => ?_) (fun h5 => (by omega))
    refine g3 hC rfl rfl ?_
    refine c0 hC rfl rfl rfl (Nat.le_of_ble_eq_true rfl) (Nat.le_of_ble_eq_true rfl) rfl (m143 hF hh hV hW hG.2.1 hG.2.2.1 hH3) (Nat.le_of_ble_eq_true rfl) (fun M2 hr => ?_)
    obtain ⟨hr0, hr⟩ := hr; have hS := hS.then hr0 rfl
    refine g3 hC rfl rfl ?_
    refine g19 hC rfl rfl (Nat.le_of_ble_eq_true rfl) rfl ((hS.fix hw hF).g rfl) ?_
    refine g19 hC rfl rfl (Nat.le_of_ble_eq_true rfl) rfl ((hS.fix hw hF).g fx_71_1) ?_
    refine g3 hC rfl rfl ?_
    refine r21 (k) hC rfl (by omega) rfl (Or.inl rfl) (by omega) (hr.2.1 k (by omega)).1 ?_
    refine ret1 hC rfl rfl ?_
    exact ⟨rfl, hS⟩
  · rw [if_neg z]
    refine g3 hC rfl rfl ?_
    refine g3 hC rfl rfl ?_
    refine g19 hC rfl rfl (Nat.le_of_ble_eq_true rfl) rfl ((hS _ _ rfl).trans hH3) ?_
    refine g19 hC rfl (shH hh) (Nat.le_of_ble_eq_true rfl) rfl (rd3 hS hwh hV hW) ?_
    refine c1 hC rfl rfl rfl (Nat.le_of_ble_eq_true rfl) (Nat.le_of_ble_eq_true rfl) rfl (m140) (Nat.le_of_ble_eq_true rfl) (fun x M2 hr => ?_)
    obtain ⟨rfl, hr⟩ := hr; replace hr := hr.symm; subst hr; rw [if_neg (by omega)]
    refine g12n hC rfl (fun h5 => (by omega)) (fun h5 => ?_)
    refine g0 hC rfl ?_
    refine ret1 hC rfl rfl ?_
    exact ⟨rfl, hS⟩
theorem m225 (hF : Fix M) (hG : GG n h M) {M1 : ax_M} (hS0 : Sb WD M M1) {a : Int} : ax_Ev L X SH 7 225 [(2, 142), (0, a)] M1 (R1 0 (fun x M' => x = (if 0 ≤ a ∧ a < (nC M h : Int) then (DD M h (-1) (-1) 9).2.2.1 a.toNat else -2) ∧ Sb XN M1 M')) := by
  show ax_G L X SH 7 225 0 [(2, 142), (0, a)] [] M1 _
  have hC := at225
  have hw := wXN
  have hF1 := hS0.fix wWD hF
  have hS : Sb XN M1 M1 := Sb.refl
  have hV1 := hG.2.2.2.1.sb hS0 rWD
  have hW := hG.1
  have hb := hW.1.2.2.2.2
  by_cases z : 0 ≤ a ∧ a < (nC M h : Int)
  · obtain ⟨k, rfl⟩ : ∃ k : Nat, a = (k : Int) := ⟨a.toNat, by omega⟩
    rw [if_pos z]
    have hF := hF1
    refine g3 hC rfl rfl ?_
    refine g3 hC rfl rfl ?_
    refine c1 hC rfl rfl rfl (Nat.le_of_ble_eq_true rfl) (Nat.le_of_ble_eq_true rfl) (mayR k189 rfl) (m189 hF hV1 hW) (Nat.le_of_ble_eq_true rfl) (fun x M2 hr => ?_)
    obtain ⟨rfl, hr⟩ := hr; replace hr := hr.symm; subst hr; rw [if_pos (by omega)]
    refine g12n hC rfl (fun h3 => ?_) (fun h3 => (by omega))
    refine g3 hC rfl rfl ?_
    refine c0 hC rfl rfl rfl (Nat.le_of_ble_eq_true rfl) (Nat.le_of_ble_eq_true rfl) (mayR k208 rfl) (m208' ‹Fix M› hG hS0) (Nat.le_of_ble_eq_true rfl) (fun M2 hr => ?_)
    obtain ⟨hr0, hr⟩ := hr; have hS := hS.then hr0 rfl
    refine g3 hC rfl rfl ?_
    refine g19 hC rfl sh142 (flt12 rfl) ft12_63 ((hS.fix hw hF).g fx_142_63) ?_
    refine g3 hC rfl rfl ?_
    refine r21 (k) hC rfl (by omega) sh190 (Or.inl rfl) (by omega) (hr.2.1 k (by omega)).1 ?_
    refine ret1 hC rfl rfl ?_
    exact ⟨rfl, hS⟩
  · rw [if_neg z]
    refine g3 hC rfl rfl ?_
    refine g3 hC rfl rfl ?_
    refine c1 hC rfl rfl rfl (Nat.le_of_ble_eq_true rfl) (Nat.le_of_ble_eq_true rfl) (mayR k189 rfl) (m189 hF1 hV1 hW) (Nat.le_of_ble_eq_true rfl) (fun x M2 hr => ?_)
    obtain ⟨rfl, hr⟩ := hr; replace hr := hr.symm; subst hr; rw [if_neg (by omega)]
    refine g12n hC rfl (fun h3 => (by omega)) (fun h3 => ?_)
    refine g0 hC rfl ?_
    refine ret1 hC rfl rfl ?_
    exact ⟨rfl, hS⟩
theorem op11 (hR : Rel n M) {a : Int} : OP L X n 0 111 225 [(2, 0), (0, a)] [(2, 142), (0, a)] M := by
  have hR0 := hR
  obtain ⟨h, hh, hF, hG⟩ := hR
  have hG0 := hG
  obtain ⟨hW, hSW, hPW, hRV, hGT, hGN, hGM, hGH, hGS, hGX⟩ := hG
  have hV : HV M h M := HV.refl
  have hH3 : M 0 3 = (h : Int) := hGX.1.1
  exact OP.sc hR0 gWD gXN wWD wXN (m111 hF hh hG0) (fun M1 hS => m225 hF hG0 hS) (by decide) (by decide)
theorem m112 (hF : Fix M) (hh : h = 9 ∨ h = 27) (hG : GG n h M) {a : Int} : ax_Ev L X SH 7 112 [(2, 0), (0, a)] M (R1 0 (fun x M' => x = (if 0 ≤ a ∧ a < (nC M h : Int) then (DD M h (-1) (-1) 9).2.1 a.toNat else -1) ∧ Sb WD M M')) := by
  show ax_G L X SH 7 112 0 [(2, 0), (0, a)] [] M _
  have hC := at112
  have hw := wWD
  have hwh : hok WD h := hokB (by decide +kernel) hh
  have hS : Sb WD M M := Sb.refl
  have hV : HV M h M := HV.refl
  have hH3 : M 0 3 = (h : Int) := hG.2.2.2.2.2.2.2.2.2.1.1
  have hW := hG.1
  have hb := hW.1.2.2.2.2
  by_cases z : 0 ≤ a ∧ a < (nC M h : Int)
  · obtain ⟨k, rfl⟩ : ∃ k : Nat, a = (k : Int) := ⟨a.toNat, by omega⟩
    rw [if_pos z]
    refine g3 hC rfl rfl ?_
    refine g3 hC rfl rfl ?_
    refine g19 hC rfl rfl (Nat.le_of_ble_eq_true rfl) rfl ((hS _ _ rfl).trans hH3) ?_
    refine g19 hC rfl (shH hh) (Nat.le_of_ble_eq_true rfl) rfl (rd3 hS hwh hV hW) ?_
    refine c1 hC rfl rfl rfl (Nat.le_of_ble_eq_true rfl) (Nat.le_of_ble_eq_true rfl) rfl (m140) (Nat.le_of_ble_eq_true rfl) (fun x M2 hr => ?_)
    obtain ⟨rfl, hr⟩ := hr; replace hr := hr.symm; subst hr; rw [if_pos (by omega)]
    refine g12n hC rfl (fun h5 => ?_) (fun h5 => (by omega))
    refine g3 hC rfl rfl ?_
    refine c0 hC rfl rfl rfl (Nat.le_of_ble_eq_true rfl) (Nat.le_of_ble_eq_true rfl) rfl (m143 hF hh hV hW hG.2.1 hG.2.2.1 hH3) (Nat.le_of_ble_eq_true rfl) (fun M2 hr => ?_)
    obtain ⟨hr0, hr⟩ := hr; have hS := hS.then hr0 rfl
    refine g3 hC rfl rfl ?_
    refine g19 hC rfl rfl (Nat.le_of_ble_eq_true rfl) rfl ((hS.fix hw hF).g rfl) ?_
    refine g19 hC rfl rfl (Nat.le_of_ble_eq_true rfl) rfl ((hS.fix hw hF).g fx_71_2) ?_
    refine g3 hC rfl rfl ?_
    refine r21 (k) hC rfl (by omega) rfl (Or.inl rfl) (by omega) (hr.2.1 k (by omega)).2.1 ?_
    refine ret1 hC rfl rfl ?_
    exact ⟨rfl, hS⟩
  · rw [if_neg z]
    refine g3 hC rfl rfl ?_
    refine g3 hC rfl rfl ?_
    refine g19 hC rfl rfl (Nat.le_of_ble_eq_true rfl) rfl ((hS _ _ rfl).trans hH3) ?_
    refine g19 hC rfl (shH hh) (Nat.le_of_ble_eq_true rfl) rfl (rd3 hS hwh hV hW) ?_
    refine c1 hC rfl rfl rfl (Nat.le_of_ble_eq_true rfl) (Nat.le_of_ble_eq_true rfl) rfl (m140) (Nat.le_of_ble_eq_true rfl) (fun x M2 hr => ?_)
    obtain ⟨rfl, hr⟩ := hr; replace hr := hr.symm; subst hr; rw [if_neg (by omega)]
    refine g12n hC rfl (fun h5 => (by omega)) (fun h5 => ?_)
    refine g0 hC rfl ?_
    refine ret1 hC rfl rfl ?_
    exact ⟨rfl, hS⟩
theorem m226 (hF : Fix M) (hG : GG n h M) {M1 : ax_M} (hS0 : Sb WD M M1) {a : Int} : ax_Ev L X SH 7 226 [(2, 142), (0, a)] M1 (R1 0 (fun x M' => x = (if 0 ≤ a ∧ a < (nC M h : Int) then (DD M h (-1) (-1) 9).2.1 a.toNat else -1) ∧ Sb XN M1 M')) := by
  show ax_G L X SH 7 226 0 [(2, 142), (0, a)] [] M1 _
  have hC := at226
  have hw := wXN
  have hF1 := hS0.fix wWD hF
  have hS : Sb XN M1 M1 := Sb.refl
  have hV1 := hG.2.2.2.1.sb hS0 rWD
  have hW := hG.1
  have hb := hW.1.2.2.2.2
  by_cases z : 0 ≤ a ∧ a < (nC M h : Int)
  · obtain ⟨k, rfl⟩ : ∃ k : Nat, a = (k : Int) := ⟨a.toNat, by omega⟩
    rw [if_pos z]
    have hF := hF1
    refine g3 hC rfl rfl ?_
    refine g3 hC rfl rfl ?_
    refine c1 hC rfl rfl rfl (Nat.le_of_ble_eq_true rfl) (Nat.le_of_ble_eq_true rfl) (mayR k189 rfl) (m189 hF hV1 hW) (Nat.le_of_ble_eq_true rfl) (fun x M2 hr => ?_)
    obtain ⟨rfl, hr⟩ := hr; replace hr := hr.symm; subst hr; rw [if_pos (by omega)]
    refine g12n hC rfl (fun h3 => ?_) (fun h3 => (by omega))
    refine g3 hC rfl rfl ?_
    refine c0 hC rfl rfl rfl (Nat.le_of_ble_eq_true rfl) (Nat.le_of_ble_eq_true rfl) (mayR k208 rfl) (m208' ‹Fix M› hG hS0) (Nat.le_of_ble_eq_true rfl) (fun M2 hr => ?_)
    obtain ⟨hr0, hr⟩ := hr; have hS := hS.then hr0 rfl
    refine g3 hC rfl rfl ?_
    refine g19 hC rfl sh142 (flt12 rfl) ft12_64 ((hS.fix hw hF).g fx_142_64) ?_
    refine g3 hC rfl rfl ?_
    refine r21 (k) hC rfl (by omega) sh191 (Or.inl rfl) (by omega) (hr.2.1 k (by omega)).2.1 ?_
    refine ret1 hC rfl rfl ?_
    exact ⟨rfl, hS⟩
  · rw [if_neg z]
    refine g3 hC rfl rfl ?_
    refine g3 hC rfl rfl ?_
    refine c1 hC rfl rfl rfl (Nat.le_of_ble_eq_true rfl) (Nat.le_of_ble_eq_true rfl) (mayR k189 rfl) (m189 hF1 hV1 hW) (Nat.le_of_ble_eq_true rfl) (fun x M2 hr => ?_)
    obtain ⟨rfl, hr⟩ := hr; replace hr := hr.symm; subst hr; rw [if_neg (by omega)]
    refine g12n hC rfl (fun h3 => (by omega)) (fun h3 => ?_)
    refine g0 hC rfl ?_
    refine ret1 hC rfl rfl ?_
    exact ⟨rfl, hS⟩
theorem op12 (hR : Rel n M) {a : Int} : OP L X n 0 112 226 [(2, 0), (0, a)] [(2, 142), (0, a)] M := by
  have hR0 := hR
  obtain ⟨h, hh, hF, hG⟩ := hR
  have hG0 := hG
  obtain ⟨hW, hSW, hPW, hRV, hGT, hGN, hGM, hGH, hGS, hGX⟩ := hG
  have hV : HV M h M := HV.refl
  have hH3 : M 0 3 = (h : Int) := hGX.1.1
  exact OP.sc hR0 gWD gXN wWD wXN (m112 hF hh hG0) (fun M1 hS => m226 hF hG0 hS) (by decide) (by decide)
theorem m113 (hF : Fix M) (hh : h = 9 ∨ h = 27) (hG : GG n h M) {a b : Int} : ax_Ev L X SH 7 113 [(2, 0), (0, a), (0, b)] M (R1 0 (fun x M' => x = (if (0 ≤ a ∧ a < (nC M h : Int)) ∧ 0 ≤ b ∧ b < 9 then (DD M h (-1) (-1) (b.toNat + 1)).1 a.toNat else -1) ∧ Sb WD M M')) := by
  show ax_G L X SH 7 113 0 [(2, 0), (0, a), (0, b)] [] M _
  have hC := at113
  have hw := wWD
  have hwh : hok WD h := hokB (by decide +kernel) hh
  have hS : Sb WD M M := Sb.refl
  have hV : HV M h M := HV.refl
  have hH3 : M 0 3 = (h : Int) := hG.2.2.2.2.2.2.2.2.2.1.1
  have hW := hG.1
  have hb := hW.1.2.2.2.2
  by_cases z : (0 ≤ a ∧ a < (nC M h : Int)) ∧ 0 ≤ b ∧ b < 9
  · obtain ⟨k, rfl⟩ : ∃ k : Nat, a = (k : Int) := ⟨a.toNat, by omega⟩
    obtain ⟨q, rfl⟩ : ∃ k : Nat, b = (k : Int) := ⟨b.toNat, by omega⟩
    rw [if_pos z]
    refine g3 hC rfl rfl ?_
    refine g3 hC rfl rfl ?_
    refine g19 hC rfl rfl (Nat.le_of_ble_eq_true rfl) rfl ((hS _ _ rfl).trans hH3) ?_
    refine g19 hC rfl (shH hh) (Nat.le_of_ble_eq_true rfl) rfl (rd3 hS hwh hV hW) ?_
    refine c1 hC rfl rfl rfl (Nat.le_of_ble_eq_true rfl) (Nat.le_of_ble_eq_true rfl) rfl (m140) (Nat.le_of_ble_eq_true rfl) (fun x M2 hr => ?_)
    obtain ⟨rfl, hr⟩ := hr; replace hr := hr.symm; subst hr; rw [if_pos (by omega)]
    refine g12e hC rfl (fun h5 => (by omega)) (fun h5 => ?_)
    refine g3 hC rfl rfl ?_
    refine g0 hC rfl ?_
    refine c1 hC rfl rfl rfl (Nat.le_of_ble_eq_true rfl) (Nat.le_of_ble_eq_true rfl) rfl (m140) (Nat.le_of_ble_eq_true rfl) (fun x M2 hr => ?_)
    obtain ⟨rfl, hr⟩ := hr; replace hr := hr.symm; subst hr; rw [if_pos (by omega)]
    refine g12n hC rfl (fun h9 => ?_) (fun h9 => (by omega))
    refine g3 hC rfl rfl ?_
    refine c0 hC rfl rfl rfl (Nat.le_of_ble_eq_true rfl) (Nat.le_of_ble_eq_true rfl) rfl (m143 hF hh hV hW hG.2.1 hG.2.2.1 hH3) (Nat.le_of_ble_eq_true rfl) (fun M2 hr => ?_)
    obtain ⟨hr0, hr⟩ := hr; have hS := hS.then hr0 rfl
    refine g3 hC rfl rfl ?_
    refine g19 hC rfl rfl (Nat.le_of_ble_eq_true rfl) rfl ((hS.fix hw hF).g rfl) ?_
    refine g19 hC rfl rfl (Nat.le_of_ble_eq_true rfl) rfl ((hS.fix hw hF).g fx_71_3) ?_
    refine g3 hC rfl rfl ?_
    refine r21 (q) hC rfl (by omega) rfl (Or.inl rfl) (by omega) ((hS.fix hw hF).r (n := 9) (v := 76) rfl (by omega)) ?_
    refine g3 hC rfl rfl ?_
    refine r21 (k) hC rfl (by omega) (shR76 (by omega)) (Or.inl rfl) (by omega) ((hr.2.1 k (by omega)).2.2 q (by omega)) ?_
    refine ret1 hC rfl rfl ?_
    exact ⟨rfl, hS⟩
  · rw [if_neg z]
    by_cases y : 0 ≤ a ∧ a < (nC M h : Int)
    · skip
      refine g3 hC rfl rfl ?_
      refine g3 hC rfl rfl ?_
      refine g19 hC rfl rfl (Nat.le_of_ble_eq_true rfl) rfl ((hS _ _ rfl).trans hH3) ?_
      refine g19 hC rfl (shH hh) (Nat.le_of_ble_eq_true rfl) rfl (rd3 hS hwh hV hW) ?_
      refine c1 hC rfl rfl rfl (Nat.le_of_ble_eq_true rfl) (Nat.le_of_ble_eq_true rfl) rfl m140 (Nat.le_of_ble_eq_true rfl) (fun x M2 hr => ?_)
      obtain ⟨rfl, hr⟩ := hr; replace hr := hr.symm; subst hr; rw [if_pos (by omega)]
      refine g12e hC rfl (fun h5 => (by omega)) (fun h5 => ?_)
      refine g3 hC rfl rfl ?_
      refine g0 hC rfl ?_
      refine c1 hC rfl rfl rfl (Nat.le_of_ble_eq_true rfl) (Nat.le_of_ble_eq_true rfl) rfl m140 (Nat.le_of_ble_eq_true rfl) (fun x M2 hr => ?_)
      obtain ⟨rfl, hr⟩ := hr; replace hr := hr.symm; subst hr; rw [if_neg (by omega)]
      refine g12n hC rfl (fun h9 => (by omega)) (fun h9 => ?_)
      refine g0 hC rfl ?_
      refine ret1 hC rfl rfl ?_
      exact ⟨rfl, hS⟩
    · skip
      refine g3 hC rfl rfl ?_
      refine g3 hC rfl rfl ?_
      refine g19 hC rfl rfl (Nat.le_of_ble_eq_true rfl) rfl ((hS _ _ rfl).trans hH3) ?_
      refine g19 hC rfl (shH hh) (Nat.le_of_ble_eq_true rfl) rfl (rd3 hS hwh hV hW) ?_
      refine c1 hC rfl rfl rfl (Nat.le_of_ble_eq_true rfl) (Nat.le_of_ble_eq_true rfl) rfl (m140) (Nat.le_of_ble_eq_true rfl) (fun x M2 hr => ?_)
      obtain ⟨rfl, hr⟩ := hr; replace hr := hr.symm; subst hr; rw [if_neg (by omega)]
      refine g12e hC rfl (fun h5 => ?_) (fun h5 => (by omega))
      refine g0 hC rfl ?_
      refine ret1 hC rfl rfl ?_
      exact ⟨rfl, hS⟩
theorem m227 (hF : Fix M) (hG : GG n h M) {M1 : ax_M} (hS0 : Sb WD M M1) {a b : Int} : ax_Ev L X SH 7 227 [(2, 142), (0, a), (0, b)] M1 (R1 0 (fun x M' => x = (if (0 ≤ a ∧ a < (nC M h : Int)) ∧ 0 ≤ b ∧ b < 9 then (DD M h (-1) (-1) (b.toNat + 1)).1 a.toNat else -1) ∧ Sb XN M1 M')) := by
  show ax_G L X SH 7 227 0 [(2, 142), (0, a), (0, b)] [] M1 _
  have hC := at227
  have hw := wXN
  have hF1 := hS0.fix wWD hF
  have hS : Sb XN M1 M1 := Sb.refl
  have hV1 := hG.2.2.2.1.sb hS0 rWD
  have hW := hG.1
  have hb := hW.1.2.2.2.2
  by_cases z : (0 ≤ a ∧ a < (nC M h : Int)) ∧ 0 ≤ b ∧ b < 9
  · obtain ⟨k, rfl⟩ : ∃ k : Nat, a = (k : Int) := ⟨a.toNat, by omega⟩
    obtain ⟨q, rfl⟩ : ∃ k : Nat, b = (k : Int) := ⟨b.toNat, by omega⟩
    rw [if_pos z]
    have hF := hF1
    refine g3 hC rfl rfl ?_
    refine g3 hC rfl rfl ?_
    refine c1 hC rfl rfl rfl (Nat.le_of_ble_eq_true rfl) (Nat.le_of_ble_eq_true rfl) (mayR k189 rfl) (m189 hF hV1 hW) (Nat.le_of_ble_eq_true rfl) (fun x M2 hr => ?_)
    obtain ⟨rfl, hr⟩ := hr; replace hr := hr.symm; subst hr; rw [if_pos (by omega)]
    refine g12e hC rfl (fun h3 => (by omega)) (fun h3 => ?_)
    refine g3 hC rfl rfl ?_
    refine g9 hC rfl ?_
    refine g1 hC rfl ?_
    refine g1 hC rfl ?_
    refine c1 hC rfl rfl rfl (Nat.le_of_ble_eq_true rfl) (Nat.le_of_ble_eq_true rfl) (mayS k153 rfl) (m153) (Nat.le_of_ble_eq_true rfl) (fun x M2 hr => ?_)
    obtain ⟨rfl, hr⟩ := hr; replace hr := hr.symm; subst hr; rw [if_pos (by omega)]
    refine g12n hC rfl (fun h9 => ?_) (fun h9 => (by omega))
    refine g3 hC rfl rfl ?_
    refine c0 hC rfl rfl rfl (Nat.le_of_ble_eq_true rfl) (Nat.le_of_ble_eq_true rfl) (mayR k208 rfl) (m208' ‹Fix M› hG hS0) (Nat.le_of_ble_eq_true rfl) (fun M2 hr => ?_)
    obtain ⟨hr0, hr⟩ := hr; have hS := hS.then hr0 rfl
    refine g3 hC rfl rfl ?_
    refine g19 hC rfl sh142 (flt12 rfl) ft12_65 ((hS.fix hw hF).g fx_142_65) ?_
    refine g0 hC rfl ?_
    refine g3 hC rfl rfl ?_
    refine g6m hC rfl ⟨by omega, by omega⟩ ?_
    refine g3 hC rfl rfl ?_
    refine g6a hC rfl ⟨by omega, by omega⟩ ?_
    refine r21 (((8 * q) + k)) hC rfl (by omega) sh192 (Or.inl rfl) (by omega) ((hr.2.1 k (by omega)).2.2 q (by omega)) ?_
    refine ret1 hC rfl rfl ?_
    exact ⟨rfl, hS⟩
  · rw [if_neg z]
    by_cases y : 0 ≤ a ∧ a < (nC M h : Int)
    · skip
      refine g3 hC rfl rfl ?_
      refine g3 hC rfl rfl ?_
      refine c1 hC rfl rfl rfl (Nat.le_of_ble_eq_true rfl) (Nat.le_of_ble_eq_true rfl) (mayR k189 rfl) (m189 hF1 hV1 hW) (Nat.le_of_ble_eq_true rfl) (fun x M2 hr => ?_)
      obtain ⟨rfl, hr⟩ := hr; replace hr := hr.symm; subst hr; rw [if_pos (by omega)]
      refine g12e hC rfl (fun h3 => (by omega)) (fun h3 => ?_)
      refine g3 hC rfl rfl ?_
      refine g9 hC rfl ?_
      refine g1 hC rfl ?_
      refine g1 hC rfl ?_
      refine c1 hC rfl rfl rfl (Nat.le_of_ble_eq_true rfl) (Nat.le_of_ble_eq_true rfl) (mayS k153 rfl) (m153) (Nat.le_of_ble_eq_true rfl) (fun x M2 hr => ?_)
      obtain ⟨rfl, hr⟩ := hr; replace hr := hr.symm; subst hr; rw [if_neg (by omega)]
      refine g12n hC rfl (fun h9 => (by omega)) (fun h9 => ?_)
      refine g0 hC rfl ?_
      refine ret1 hC rfl rfl ?_
      exact ⟨rfl, hS⟩
    · skip
      refine g3 hC rfl rfl ?_
      refine g3 hC rfl rfl ?_
      refine c1 hC rfl rfl rfl (Nat.le_of_ble_eq_true rfl) (Nat.le_of_ble_eq_true rfl) (mayR k189 rfl) (m189 hF1 hV1 hW) (Nat.le_of_ble_eq_true rfl) (fun x M2 hr => ?_)
      obtain ⟨rfl, hr⟩ := hr; replace hr := hr.symm; subst hr; rw [if_neg (by omega)]
      refine g12e hC rfl (fun h3 => ?_) (fun h3 => (by omega))
      refine g0 hC rfl ?_
      refine ret1 hC rfl rfl ?_
      exact ⟨rfl, hS⟩
theorem op13 (hR : Rel n M) {a b : Int} : OP L X n 0 113 227 [(2, 0), (0, a), (0, b)] [(2, 142), (0, a), (0, b)] M := by
  have hR0 := hR
  obtain ⟨h, hh, hF, hG⟩ := hR
  have hG0 := hG
  obtain ⟨hW, hSW, hPW, hRV, hGT, hGN, hGM, hGH, hGS, hGX⟩ := hG
  have hV : HV M h M := HV.refl
  have hH3 : M 0 3 = (h : Int) := hGX.1.1
  exact OP.sc hR0 gWD gXN wWD wXN (m113 hF hh hG0) (fun M1 hS => m227 hF hG0 hS) (by decide) (by decide)
theorem m115 (hF : Fix M) (hh : h = 9 ∨ h = 27) (hG : GG n h M) : ax_Ev L X SH 7 115 [(2, 0)] M (R1 0 (fun x M' => x = em M h (-1) (-1) 9 ∧ Sb WD M M')) := by
  show ax_G L X SH 7 115 0 [(2, 0)] [] M _
  have hC := at115
  have hw := wWD
  have hS : Sb WD M M := Sb.refl
  have hV : HV M h M := HV.refl
  have hH3 : M 0 3 = (h : Int) := hG.2.2.2.2.2.2.2.2.2.1.1
  refine g3 hC rfl rfl ?_
  refine c0 hC rfl rfl rfl (Nat.le_of_ble_eq_true rfl) (Nat.le_of_ble_eq_true rfl) rfl (m143 hF hh hV hG.1 hG.2.1 hG.2.2.1 hH3) (Nat.le_of_ble_eq_true rfl) (fun M2 hr => ?_)
  obtain ⟨hr0, hr⟩ := hr; have hS := hS.then hr0 rfl
  refine g3 hC rfl rfl ?_
  refine g19 hC rfl rfl (Nat.le_of_ble_eq_true rfl) rfl ((hS.fix hw hF).g rfl) ?_
  refine g19 hC rfl rfl (Nat.le_of_ble_eq_true rfl) rfl hr.2.2.1 ?_
  refine ret1 hC rfl rfl ?_
  exact ⟨rfl, hS⟩
theorem m229 (hF : Fix M) (hG : GG n h M) {M1 : ax_M} (hS0 : Sb WD M M1) : ax_Ev L X SH 7 229 [(2, 142)] M1 (R1 0 (fun x M' => x = em M h (-1) (-1) 9 ∧ Sb XN M1 M')) := by
  show ax_G L X SH 7 229 0 [(2, 142)] [] M1 _
  have hC := at229
  have hw := wXN
  have hF1 := hS0.fix wWD hF
  have hS : Sb XN M1 M1 := Sb.refl
  refine g3 hC rfl rfl ?_
  refine c0 hC rfl rfl rfl (Nat.le_of_ble_eq_true rfl) (Nat.le_of_ble_eq_true rfl) (mayR k208 rfl) (m208' ‹Fix M› hG hS0) (Nat.le_of_ble_eq_true rfl) (fun M2 hr => ?_)
  obtain ⟨hr0, hr⟩ := hr; have hS := hS.then hr0 rfl
  refine g3 hC rfl rfl ?_
  refine g19 hC rfl sh142 (flt12 rfl) ft12_67 hr.2.2.1 ?_
  refine ret1 hC rfl rfl ?_
  exact ⟨rfl, hS⟩
theorem op15 (hR : Rel n M) : OP L X n 0 115 229 [(2, 0)] [(2, 142)] M := by
  have hR0 := hR
  obtain ⟨h, hh, hF, hG⟩ := hR
  have hG0 := hG
  obtain ⟨hW, hSW, hPW, hRV, hGT, hGN, hGM, hGH, hGS, hGX⟩ := hG
  have hV : HV M h M := HV.refl
  have hH3 : M 0 3 = (h : Int) := hGX.1.1
  exact OP.sc hR0 gWD gXN wWD wXN (m115 hF hh hG0) (fun M1 hS => m229 hF hG0 hS) (by decide) (by decide)
theorem m106 (hF : Fix M) (hh : h = 9 ∨ h = 27) (hG : GG n h M) {a : Int} : ax_Ev L X SH 7 106 [(2, 0), (0, a)] M (R1 0 (fun x M' => x = (if 0 ≤ a ∧ a < (nR M h : Int) then far M h (-1) (-1) a.toNat else -1) ∧ Sb WD M M')) := by
  show ax_G L X SH 7 106 0 [(2, 0), (0, a)] [] M _
  have hC := at106
  have hw := wWD
  have hwh : hok WD h := hokB (by decide +kernel) hh
  have hS : Sb WD M M := Sb.refl
  have hV : HV M h M := HV.refl
  have hH3 : M 0 3 = (h : Int) := hG.2.2.2.2.2.2.2.2.2.1.1
  have hW := hG.1
  have hb := hW.1.1.2
  by_cases z : 0 ≤ a ∧ a < (nR M h : Int)
  · obtain ⟨k, rfl⟩ : ∃ k : Nat, a = (k : Int) := ⟨a.toNat, by omega⟩
    rw [if_pos z]
    refine g3 hC rfl rfl ?_
    refine g3 hC rfl rfl ?_
    refine g19 hC rfl rfl (Nat.le_of_ble_eq_true rfl) rfl ((hS _ _ rfl).trans hH3) ?_
    refine g19 hC rfl (shH hh) (Nat.le_of_ble_eq_true rfl) rfl (rd0 hS hwh hV hW) ?_
    refine c1 hC rfl rfl rfl (Nat.le_of_ble_eq_true rfl) (Nat.le_of_ble_eq_true rfl) rfl (m140) (Nat.le_of_ble_eq_true rfl) (fun x M2 hr => ?_)
    obtain ⟨rfl, hr⟩ := hr; replace hr := hr.symm; subst hr; rw [if_pos (by omega)]
    refine g12n hC rfl (fun h5 => ?_) (fun h5 => (by omega))
    refine g3 hC rfl rfl ?_
    refine g19 hC rfl rfl (Nat.le_of_ble_eq_true rfl) rfl ((hS.fix hw hF).g rfl) ?_
    refine g3 hC rfl rfl ?_
    refine g19 hC rfl rfl (Nat.le_of_ble_eq_true rfl) rfl ((hS _ _ rfl).trans hH3) ?_
    refine g3 hC rfl rfl ?_
    refine g19 hC rfl rfl (Nat.le_of_ble_eq_true rfl) rfl ((hS.fix hw hF).g rfl) ?_
    refine g0 hC rfl ?_
    refine g0 hC rfl ?_
    refine c0 hC rfl rfl rfl (Nat.le_of_ble_eq_true rfl) (Nat.le_of_ble_eq_true rfl) rfl (m5 hF hh hV hW) (Nat.le_of_ble_eq_true rfl) (fun M2 hr => ?_)
    obtain ⟨hr0, hr⟩ := hr; have hS := hS.then hr0 rfl
    refine g3 hC rfl rfl ?_
    refine g19 hC rfl rfl (Nat.le_of_ble_eq_true rfl) rfl ((hS.fix hw hF).g rfl) ?_
    refine g19 hC rfl rfl (Nat.le_of_ble_eq_true rfl) rfl ((hS.fix hw hF).g fx_71_0) ?_
    refine g3 hC rfl rfl ?_
    refine r21 (k) hC rfl (by omega) rfl (Or.inl rfl) (by omega) (hr.2 k (by omega)) ?_
    refine ret1 hC rfl rfl ?_
    exact ⟨rfl, hS⟩
  · rw [if_neg z]
    refine g3 hC rfl rfl ?_
    refine g3 hC rfl rfl ?_
    refine g19 hC rfl rfl (Nat.le_of_ble_eq_true rfl) rfl ((hS _ _ rfl).trans hH3) ?_
    refine g19 hC rfl (shH hh) (Nat.le_of_ble_eq_true rfl) rfl (rd0 hS hwh hV hW) ?_
    refine c1 hC rfl rfl rfl (Nat.le_of_ble_eq_true rfl) (Nat.le_of_ble_eq_true rfl) rfl (m140) (Nat.le_of_ble_eq_true rfl) (fun x M2 hr => ?_)
    obtain ⟨rfl, hr⟩ := hr; replace hr := hr.symm; subst hr; rw [if_neg (by omega)]
    refine g12n hC rfl (fun h5 => (by omega)) (fun h5 => ?_)
    refine g0 hC rfl ?_
    refine ret1 hC rfl rfl ?_
    exact ⟨rfl, hS⟩
theorem m219 (hF : Fix M) (hG : GG n h M) {M1 : ax_M} (hS0 : Sb WD M M1) {a : Int} : ax_Ev L X SH 7 219 [(2, 142), (0, a)] M1 (R1 0 (fun x M' => x = (if 0 ≤ a ∧ a < (nR M h : Int) then far M h (-1) (-1) a.toNat else -1) ∧ Sb XN M1 M')) := by
  show ax_G L X SH 7 219 0 [(2, 142), (0, a)] [] M1 _
  have hC := at219
  have hw := wXN
  have hF1 := hS0.fix wWD hF
  have hS : Sb XN M1 M1 := Sb.refl
  have hV1 := hG.2.2.2.1.sb hS0 rWD
  have hW := hG.1
  have hb := hW.1.1.2
  have hsm : M1 142 69 = -1 := (hS0 142 69 rfl).trans hG.2.2.2.2.2.2.2.2.2.2.2.1.1
  by_cases z : 0 ≤ a ∧ a < (nR M h : Int)
  · obtain ⟨k, rfl⟩ : ∃ k : Nat, a = (k : Int) := ⟨a.toNat, by omega⟩
    rw [if_pos z]
    have hF := hF1
    refine g3 hC rfl rfl ?_
    refine g9 hC rfl ?_
    refine g1 hC rfl ?_
    refine g3 hC rfl rfl ?_
    refine c1 hC rfl rfl rfl (Nat.le_of_ble_eq_true rfl) (Nat.le_of_ble_eq_true rfl) (mayR k183 rfl) (m183 hF hV1 hW) (Nat.le_of_ble_eq_true rfl) (fun x M2 hr => ?_)
    obtain ⟨rfl, hr⟩ := hr
    replace hr := hr.symm
    subst hr
    refine g0 hC rfl ?_
    refine g6s hC rfl ⟨by omega, by omega⟩ ?_
    refine g9 hC rfl ?_
    refine c1 hC rfl rfl rfl (Nat.le_of_ble_eq_true rfl) (Nat.le_of_ble_eq_true rfl) (mayS k153 rfl) (m153) (Nat.le_of_ble_eq_true rfl) (fun x M2 hr => ?_)
    obtain ⟨rfl, hr⟩ := hr; replace hr := hr.symm; subst hr; rw [if_pos (by omega)]
    refine g12n hC rfl (fun h9 => ?_) (fun h9 => (by omega))
    refine g3 hC rfl rfl ?_
    refine c0 hC rfl rfl rfl (Nat.le_of_ble_eq_true rfl) (Nat.le_of_ble_eq_true rfl) (mayR k198 rfl) (m198 hF hV1 hW hsm (wd := -1)) (Nat.le_of_ble_eq_true rfl) (fun M2 hr => ?_)
    obtain ⟨hr0, hr⟩ := hr; have hS := hS.then hr0 rfl
    refine g3 hC rfl rfl ?_
    refine g19 hC rfl sh142 (flt12 rfl) ft12_60 ((hS.fix hw hF).g fx_142_60) ?_
    refine g3 hC rfl rfl ?_
    refine r21 (k) hC rfl (by omega) sh187 (Or.inl rfl) (by omega) (hr (by omega) k (by omega)) ?_
    refine ret1 hC rfl rfl ?_
    exact ⟨rfl, hS⟩
  · rw [if_neg z]
    refine g3 hC rfl rfl ?_
    refine g9 hC rfl ?_
    refine g1 hC rfl ?_
    refine g3 hC rfl rfl ?_
    refine c1 hC rfl rfl rfl (Nat.le_of_ble_eq_true rfl) (Nat.le_of_ble_eq_true rfl) (mayR k183 rfl) (m183 hF1 hV1 hW) (Nat.le_of_ble_eq_true rfl) (fun x M2 hr => ?_)
    obtain ⟨rfl, hr⟩ := hr
    replace hr := hr.symm
    subst hr
    refine g0 hC rfl ?_
    refine g6s hC rfl ⟨by omega, by omega⟩ ?_
    refine g9 hC rfl ?_
    refine c1 hC rfl rfl rfl (Nat.le_of_ble_eq_true rfl) (Nat.le_of_ble_eq_true rfl) (mayS k153 rfl) (m153) (Nat.le_of_ble_eq_true rfl) (fun x M2 hr => ?_)
    obtain ⟨rfl, hr⟩ := hr; replace hr := hr.symm; subst hr; rw [if_neg (by omega)]
    refine g12n hC rfl (fun h9 => (by omega)) (fun h9 => ?_)
    refine g0 hC rfl ?_
    refine ret1 hC rfl rfl ?_
    exact ⟨rfl, hS⟩
theorem op6 (hR : Rel n M) {a : Int} : OP L X n 0 106 219 [(2, 0), (0, a)] [(2, 142), (0, a)] M := by
  have hR0 := hR
  obtain ⟨h, hh, hF, hG⟩ := hR
  have hG0 := hG
  obtain ⟨hW, hSW, hPW, hRV, hGT, hGN, hGM, hGH, hGS, hGX⟩ := hG
  have hV : HV M h M := HV.refl
  have hH3 : M 0 3 = (h : Int) := hGX.1.1
  exact OP.sc hR0 gWD gXN wWD wXN (m106 hF hh hG0) (fun M1 hS => m219 hF hG0 hS) (by decide) (by decide)
end DRO
