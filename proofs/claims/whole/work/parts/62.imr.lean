section IMR
variable {L : Nat} {X : Nat → Int} {M V : ax_M} {h n : Nat}
def IS (M : ax_M) (x : (Nat → Int) × Nat) : Prop := M 231 = x.1 ∧ M 142 120 = (x.2 : Int)
theorem m293 (hF : Fix M) {x : (Nat → Int) × Nat} (hI : IS M x) (hx : x.2 < 74) {v : Int} : ax_Ev L X SH 0 293 [(2, 142), (0, v)] M (R0 (fun M' => Sb X293 M M' ∧ IS M' (ap v x))) := by
  show ax_G L X SH 0 293 0 [(2, 142), (0, v)] [] M _
  have hC := at293
  have hw : wok X293 = true := by decide +kernel
  have hS : Sb X293 M M := Sb.refl
  refine g3 hC rfl rfl ?_
  refine g19 hC rfl sh142 (flt12 rfl) ft12_119 ((hS.fix hw hF).g fx_142_119) ?_
  refine g3 hC rfl rfl ?_
  refine g19 hC rfl sh142 (flt12 rfl) ft12_120 hI.2 ?_
  refine g3 hC rfl rfl ?_
  refine r22s (x.2) hC rfl rfl sh231 hx rfl hS rfl (fun hS => ?_)
  refine g3 hC rfl rfl ?_
  refine g16 hC rfl (by decide) ?_
  refine g19 hC rfl sh142 (flt12 rfl) ft12_120 ((ax_up2n (by decide)).trans hI.2) ?_
  refine g0 hC rfl ?_
  refine g6a hC rfl ⟨by omega, by omega⟩ ?_
  refine g20s hC rfl sh142 (flt12 rfl) (by rw [fy12_120]; rfl) hS rfl (fun hS => ?_)
  refine ret0 hC rfl ?_
  refine ⟨hS, ?_, ?_⟩
  · rw [ax_up_ne (by decide), ax_upf, hI.1]; rfl
  · rw [ax_up_at]; rfl
theorem m294 (hF : Fix M) {x : (Nat → Int) × Nat} (hI : IS M x) (hx : x.2 < 73) {v : Nat} (hv : v < 65536) : ax_Ev L X SH 1 294 [(2, 142), (0, (v : Int))] M (R0 (fun M' => Sb X293 M M' ∧ IS M' (im2 v x))) := by
  show ax_G L X SH 1 294 0 [(2, 142), (0, (v : Int))] [] M _
  have hC := at294
  have hw : wok X293 = true := by decide +kernel
  have hS : Sb X293 M M := Sb.refl
  refine g3 hC rfl rfl ?_
  refine g3 hC rfl rfl ?_
  refine g0 hC rfl ?_
  refine g6dN (a := v) (b := 256) hC rfl rfl rfl (by decide) (by omega) ?_
  refine c0 hC rfl rfl rfl (Nat.le_of_ble_eq_true rfl) (Nat.le_of_ble_eq_true rfl) (mayR k293 rfl) (m293 hF hI (by omega)) (Nat.le_of_ble_eq_true rfl) (fun M2 hr => ?_)
  obtain ⟨hr0, hI2⟩ := hr; have hS := hS.then hr0 rfl
  refine g3 hC rfl rfl ?_
  refine g3 hC rfl rfl ?_
  refine g0 hC rfl ?_
  refine g6rN (a := v) (b := 256) hC rfl rfl rfl (by decide) (by omega) ?_
  refine c0 hC rfl rfl rfl (Nat.le_of_ble_eq_true rfl) (Nat.le_of_ble_eq_true rfl) (mayR k293 rfl) (m293 (hS.fix hw hF) hI2 (show x.2 + 1 < 74 by omega)) (Nat.le_of_ble_eq_true rfl) (fun M3 hr => ?_)
  refine ret0 hC rfl ?_
  exact ⟨hS.then hr.1 rfl, hr.2⟩
theorem m295 (hF : Fix M) (hV : RV V h M) (hW : HW V h) (hSW : SW V) : ax_Ev L X SH 2 295 [(2, 142)] M (R1 0 (fun x M' => x = ((imA2 V h (M 231)).2 : Int) ∧ Sb X293 M M' ∧ IS M' (imA2 V h (M 231)))) := by
  show ax_G L X SH 2 295 0 [(2, 142), (3, 0), (3, 0)] [] M _
  obtain ⟨P, hP⟩ : ∃ P, P = fun (x : Int) M' => x = ((imA2 V h (M 231)).2 : Int) ∧ Sb X293 M M' ∧ IS M' (imA2 V h (M 231)) := ⟨_, rfl⟩
  rw [← hP]
  have hC := at295
  have hw : wok X293 = true := by decide +kernel
  have hwr : rok X293 := rokB (by decide +kernel)
  have h2 := hW.1.2.1.2; have h3 := hW.1.2.2.1.2; have h4 := hW.1.2.2.2.2
  have hlen := imA_len (V := V) (h := h) (f := M 231) hW
  have h45 := hSW.1
  obtain ⟨dN, hdN⟩ : ∃ dN : Nat, V 45 0 = (dN : Int) := ⟨(V 45 0).toNat, by omega⟩
  have edN : (V 45 0).toNat = dN := by omega
  have lC : ∀ (m a : Nat), a + m = nC V h → ∀ ll M1, (∃ v, ll = [(2, 142), (0, (a : Int)), v] ∧ Sb X293 M M1 ∧ IS M1 (imC V (nC V h) a (imS V (nS V h) (imP V (nQ V h) (im2 dN (M 231, 0)))))) → ax_G L X SH 2 295 43 ll [] M1 (R1 0 P) := by
    refine lp ?_ ?_
    · rintro ll M1 ⟨v, rfl, hS, hI⟩
      have eA : imC V (nC V h) (nC V h) (imS V (nS V h) (imP V (nQ V h) (im2 dN (M 231, 0)))) = imA V h (M 231) := by unfold imA; rw [edN]
      rw [eA] at hI
      have hb := imA_byte (f := M 231) hW hSW
      refine g3 hC rfl rfl ?_
      refine g3 hC rfl rfl ?_
      refine c1 hC rfl rfl rfl (Nat.le_of_ble_eq_true rfl) (Nat.le_of_ble_eq_true rfl) (mayR k186 rfl) (m186 (hS.fix hw hF) (hV.sb hS hwr) hW) (Nat.le_of_ble_eq_true rfl) (fun x M2 hr => ?_)
      obtain ⟨rfl, hr⟩ := hr
      replace hr := hr.symm
      subst hr
      refine g13g hC rfl (fun h46 => ?_) (fun h46 => (by omega))
      refine g3 hC rfl rfl ?_
      refine g3 hC rfl rfl ?_
      refine g19 hC rfl sh142 (flt12 rfl) ft12_119 ((hS.fix hw hF).g fx_142_119) ?_
      refine g3 hC rfl rfl ?_
      refine g19 hC rfl sh142 (flt12 rfl) ft12_120 hI.2 ?_
      refine c1 hC rfl rfl rfl (Nat.le_of_ble_eq_true rfl) (Nat.le_of_ble_eq_true rfl) (mayS k292 rfl) (m292 (c := 231) (len := 74) (n := (imA V h (M 231)).2) sh231 (by omega) (by omega) (fun k hk => by rw [hI.1]; exact hb k hk)) (Nat.le_of_ble_eq_true rfl) (fun x M2 hr => ?_)
      obtain ⟨rfl, hr⟩ := hr; replace hr := hr.symm; subst hr; rw [hI.1]
      refine c0 hC rfl rfl rfl (Nat.le_of_ble_eq_true rfl) (Nat.le_of_ble_eq_true rfl) (mayR k293 rfl) (m293 (hS.fix hw hF) hI (by omega)) (Nat.le_of_ble_eq_true rfl) (fun M3 hr => ?_)
      obtain ⟨hr0, hI2⟩ := hr; have hS := hS.then hr0 rfl
      refine g3 hC rfl rfl ?_
      refine g19 hC rfl sh142 (flt12 rfl) ft12_120 hI2.2 ?_
      refine ret1 hC rfl rfl ?_
      rw [hP]
      exact ⟨rfl, hS, hI2⟩
    · rintro a ha ll M1 ⟨v, rfl, hS, hI⟩ hnext
      have hcb := cntP_b (nC V h) (by omega) a ha
      have hx2 : (imC V (nC V h) a (imS V (nS V h) (imP V (nQ V h) (im2 dN (M 231, 0))))).2 = 2 + nQ V h + nS V h + 2 * cntP (nC V h) a := by rw [imC_n, imS_n, imP_n]; rfl
      have es : imC V (nC V h) (a + 1) (imS V (nS V h) (imP V (nQ V h) (im2 dN (M 231, 0)))) = imR V a (nC V h - 1 - a) (imC V (nC V h) a (imS V (nS V h) (imP V (nQ V h) (im2 dN (M 231, 0))))) := rfl
      rw [es] at hnext
      generalize imC V (nC V h) a (imS V (nS V h) (imP V (nQ V h) (im2 dN (M 231, 0)))) = x at *
      have l2 : ∀ (m k : Nat), k + m = nC V h - 1 - a → ∀ ll M1, (ll = [(2, 142), (0, (a : Int)), (0, ((a + 1 + k : Nat) : Int))] ∧ Sb X293 M M1 ∧ IS M1 (imR V a k x)) → ax_G L X SH 2 295 51 ll [] M1 (R1 0 P) := by
        refine lp ?_ ?_
        · rintro ll M1 ⟨rfl, hS, hI⟩
          refine g3 hC rfl rfl ?_
          refine g3 hC rfl rfl ?_
          refine c1 hC rfl rfl rfl (Nat.le_of_ble_eq_true rfl) (Nat.le_of_ble_eq_true rfl) (mayR k186 rfl) (m186 (hS.fix hw hF) (hV.sb hS hwr) hW) (Nat.le_of_ble_eq_true rfl) (fun x M2 hr => ?_)
          obtain ⟨rfl, hr⟩ := hr
          replace hr := hr.symm
          subst hr
          refine g13g hC rfl (fun h54 => ?_) (fun h54 => (by omega))
          refine n1 hC rfl rfl ⟨by omega, by omega⟩ ?_
          refine g14 hC rfl ?_
          exact hnext _ _ ⟨_, rfl, hS, hI⟩
        · rintro k hk ll M1 ⟨rfl, hS, hI⟩ hnx
          have ea : pB a (a + 1 + k) = pA a (a + 1 + k) := by unfold pB; rw [if_pos (by omega)]
          have hlt := pO_lt (a := a) (b := a + 1 + k) (by omega) (by omega)
          have hla := pA_lt (a := a) (b := a + 1 + k) (by omega) (by omega)
          have hv := hSW.2.2.2 _ hlt
          obtain ⟨sN, hsN⟩ : ∃ sN : Nat, V 48 (pO a (a + 1 + k)) = (sN : Int) := ⟨(V 48 (pO a (a + 1 + k))).toNat, by omega⟩
          have esN : (V 48 (pO a (a + 1 + k))).toNat = sN := by omega
          have hn := imR_n (V := V) (a := a) (x := x) k
          have er : imR V a (k + 1) x = im2 sN (imR V a k x) := by rw [← esN]; rfl
          rw [er] at hnx
          generalize imR V a k x = y at *
          have e48 : M1 185 (16 + pA a (a + 1 + k)) = (sN : Int) := ((hV.sb hS hwr).2.2.2.2.1.2.2.2 a (a + 1 + k) (by omega) (by omega)).trans hsN
          refine g3 hC rfl rfl ?_
          refine g3 hC rfl rfl ?_
          refine c1 hC rfl rfl rfl (Nat.le_of_ble_eq_true rfl) (Nat.le_of_ble_eq_true rfl) (mayR k186 rfl) (m186 (hS.fix hw hF) (hV.sb hS hwr) hW) (Nat.le_of_ble_eq_true rfl) (fun x M2 hr => ?_)
          obtain ⟨rfl, hr⟩ := hr
          replace hr := hr.symm
          subst hr
          refine g13g hC rfl (fun h54 => (by omega)) (fun h54 => ?_)
          refine g3 hC rfl rfl ?_
          refine g3 hC rfl rfl ?_
          refine g19 hC rfl sh142 (flt12 rfl) ft12_54 ((hS.fix hw hF).g fx_142_54) ?_
          refine g3 hC rfl rfl ?_
          refine g3 hC rfl rfl ?_
          refine c1 hC rfl rfl rfl (Nat.le_of_ble_eq_true rfl) (Nat.le_of_ble_eq_true rfl) (mayS k193 rfl) (m193 (by omega) (by omega) (by omega)) (Nat.le_of_ble_eq_true rfl) (fun x M2 hr => ?_)
          obtain ⟨rfl, hr⟩ := hr; replace hr := hr.symm; subst hr; rw [ea]
          refine r21 (16 + pA a (a + 1 + k)) hC rfl rfl sh185 (Or.inl rfl) (by omega) e48 ?_
          refine c0 hC rfl rfl rfl (Nat.le_of_ble_eq_true rfl) (Nat.le_of_ble_eq_true rfl) (mayR k294 rfl) (m294 (hS.fix hw hF) hI (by omega) (by omega)) (Nat.le_of_ble_eq_true rfl) (fun M3 hr => ?_)
          refine n2 hC rfl rfl ⟨by omega, by omega⟩ ?_
          refine g14 hC rfl ?_
          exact hnx _ _ ⟨rfl, hS.then hr.1 rfl, hr.2⟩
      refine g3 hC rfl rfl ?_
      refine g3 hC rfl rfl ?_
      refine c1 hC rfl rfl rfl (Nat.le_of_ble_eq_true rfl) (Nat.le_of_ble_eq_true rfl) (mayR k186 rfl) (m186 (hS.fix hw hF) (hV.sb hS hwr) hW) (Nat.le_of_ble_eq_true rfl) (fun x M2 hr => ?_)
      obtain ⟨rfl, hr⟩ := hr
      replace hr := hr.symm
      subst hr
      refine g13g hC rfl (fun h46 => (by omega)) (fun h46 => ?_)
      refine g3 hC rfl rfl ?_
      refine g0 hC rfl ?_
      refine g6a hC rfl ⟨by omega, by omega⟩ ?_
      refine s2 hC rfl rfl rfl ?_
      exact l2 (nC V h - 1 - a) 0 (Nat.zero_add _) _ _ ⟨rfl, hS, hI⟩
  have lS : ∀ (m k : Nat), k + m = nS V h → ∀ ll M1, (∃ v, ll = [(2, 142), (0, (k : Int)), v] ∧ Sb X293 M M1 ∧ IS M1 (imS V k (imP V (nQ V h) (im2 dN (M 231, 0))))) → ax_G L X SH 2 295 27 ll [] M1 (R1 0 P) := by
    refine lp ?_ ?_
    · rintro ll M1 ⟨v, rfl, hS, hI⟩
      refine g3 hC rfl rfl ?_
      refine g3 hC rfl rfl ?_
      refine c1 hC rfl rfl rfl (Nat.le_of_ble_eq_true rfl) (Nat.le_of_ble_eq_true rfl) (mayR k184 rfl) (m184 (hS.fix hw hF) (hV.sb hS hwr) hW) (Nat.le_of_ble_eq_true rfl) (fun x M2 hr => ?_)
      obtain ⟨rfl, hr⟩ := hr
      replace hr := hr.symm
      subst hr
      refine g13g hC rfl (fun h30 => ?_) (fun h30 => (by omega))
      refine g0 hC rfl ?_
      refine s1 hC rfl rfl rfl ?_
      exact lC (nC V h) 0 (Nat.zero_add _) _ _ ⟨_, rfl, hS, hI⟩
    · rintro k hk ll M1 ⟨v, rfl, hS, hI⟩ hnext
      have hx2 : (imS V k (imP V (nQ V h) (im2 dN (M 231, 0)))).2 = 2 + nQ V h + k := by rw [imS_n, imP_n]; rfl
      have es : imS V (k + 1) (imP V (nQ V h) (im2 dN (M 231, 0))) = ap (V 47 k) (imS V k (imP V (nQ V h) (im2 dN (M 231, 0)))) := rfl
      rw [es] at hnext
      generalize imS V k (imP V (nQ V h) (im2 dN (M 231, 0))) = y at *
      refine g3 hC rfl rfl ?_
      refine g3 hC rfl rfl ?_
      refine c1 hC rfl rfl rfl (Nat.le_of_ble_eq_true rfl) (Nat.le_of_ble_eq_true rfl) (mayR k184 rfl) (m184 (hS.fix hw hF) (hV.sb hS hwr) hW) (Nat.le_of_ble_eq_true rfl) (fun x M2 hr => ?_)
      obtain ⟨rfl, hr⟩ := hr
      replace hr := hr.symm
      subst hr
      refine g13g hC rfl (fun h30 => (by omega)) (fun h30 => ?_)
      refine g3 hC rfl rfl ?_
      refine g3 hC rfl rfl ?_
      refine g19 hC rfl sh142 (flt12 rfl) ft12_54 ((hS.fix hw hF).g fx_142_54) ?_
      refine g0 hC rfl ?_
      refine g3 hC rfl rfl ?_
      refine g6a hC rfl ⟨by omega, by omega⟩ ?_
      refine r21 (6 + k) hC rfl (by omega) sh185 (Or.inl rfl) (by omega) (rmsh hS hwr hV hW (by omega)) ?_
      refine c0 hC rfl rfl rfl (Nat.le_of_ble_eq_true rfl) (Nat.le_of_ble_eq_true rfl) (mayR k293 rfl) (m293 (hS.fix hw hF) hI (by omega)) (Nat.le_of_ble_eq_true rfl) (fun M3 hr => ?_)
      refine n1 hC rfl rfl ⟨by omega, by omega⟩ ?_
      refine g14 hC rfl ?_
      exact hnext _ _ ⟨_, rfl, hS.then hr.1 rfl, hr.2⟩
  have lP : ∀ (m k : Nat), k + m = nQ V h → ∀ ll M1, (∃ v, ll = [(2, 142), (0, (k : Int)), v] ∧ Sb X293 M M1 ∧ IS M1 (imP V k (im2 dN (M 231, 0)))) → ax_G L X SH 2 295 11 ll [] M1 (R1 0 P) := by
    refine lp ?_ ?_
    · rintro ll M1 ⟨v, rfl, hS, hI⟩
      refine g3 hC rfl rfl ?_
      refine g3 hC rfl rfl ?_
      refine c1 hC rfl rfl rfl (Nat.le_of_ble_eq_true rfl) (Nat.le_of_ble_eq_true rfl) (mayR k185 rfl) (m185 (hS.fix hw hF) (hV.sb hS hwr) hW) (Nat.le_of_ble_eq_true rfl) (fun x M2 hr => ?_)
      obtain ⟨rfl, hr⟩ := hr
      replace hr := hr.symm
      subst hr
      refine g13g hC rfl (fun h14 => ?_) (fun h14 => (by omega))
      refine g0 hC rfl ?_
      refine s1 hC rfl rfl rfl ?_
      exact lS (nS V h) 0 (Nat.zero_add _) _ _ ⟨_, rfl, hS, hI⟩
    · rintro k hk ll M1 ⟨v, rfl, hS, hI⟩ hnext
      have hx2 : (imP V k (im2 dN (M 231, 0))).2 = 2 + k := by rw [imP_n]; rfl
      have es : imP V (k + 1) (im2 dN (M 231, 0)) = ap (V 46 k) (imP V k (im2 dN (M 231, 0))) := rfl
      rw [es] at hnext
      generalize imP V k (im2 dN (M 231, 0)) = y at *
      refine g3 hC rfl rfl ?_
      refine g3 hC rfl rfl ?_
      refine c1 hC rfl rfl rfl (Nat.le_of_ble_eq_true rfl) (Nat.le_of_ble_eq_true rfl) (mayR k185 rfl) (m185 (hS.fix hw hF) (hV.sb hS hwr) hW) (Nat.le_of_ble_eq_true rfl) (fun x M2 hr => ?_)
      obtain ⟨rfl, hr⟩ := hr
      replace hr := hr.symm
      subst hr
      refine g13g hC rfl (fun h14 => (by omega)) (fun h14 => ?_)
      refine g3 hC rfl rfl ?_
      refine g3 hC rfl rfl ?_
      refine g19 hC rfl sh142 (flt12 rfl) ft12_54 ((hS.fix hw hF).g fx_142_54) ?_
      refine g0 hC rfl ?_
      refine g3 hC rfl rfl ?_
      refine g6a hC rfl ⟨by omega, by omega⟩ ?_
      refine r21 (1 + k) hC rfl (by omega) sh185 (Or.inl rfl) (by omega) (rmpo hS hwr hV hW (by omega)) ?_
      refine c0 hC rfl rfl rfl (Nat.le_of_ble_eq_true rfl) (Nat.le_of_ble_eq_true rfl) (mayR k293 rfl) (m293 (hS.fix hw hF) hI (by omega)) (Nat.le_of_ble_eq_true rfl) (fun M3 hr => ?_)
      refine n1 hC rfl rfl ⟨by omega, by omega⟩ ?_
      refine g14 hC rfl ?_
      exact hnext _ _ ⟨_, rfl, hS.then hr.1 rfl, hr.2⟩
  have hS : Sb X293 M M := Sb.refl
  refine g3 hC rfl rfl ?_
  refine g0 hC rfl ?_
  refine g20s hC rfl sh142 (flt12 rfl) (by rw [fy12_120]; rfl) hS rfl (fun hS => ?_)
  refine g3 hC rfl rfl ?_
  refine g3 hC rfl rfl ?_
  refine g19 hC rfl sh142 (flt12 rfl) ft12_54 ((hS.fix hw hF).g fx_142_54) ?_
  refine g0 hC rfl ?_
  refine r21 (0) hC rfl (by omega) sh185 (Or.inl rfl) (by omega) ((rmdr hS hwr hV hW).trans hdN) ?_
  refine c0 hC rfl rfl rfl (Nat.le_of_ble_eq_true rfl) (Nat.le_of_ble_eq_true rfl) (mayR k294 rfl) (m294 (x := (M 231, 0)) (hS.fix hw hF) ⟨ax_up_ne (by decide), ax_up_at⟩ (show 0 < 73 by decide) (by omega)) (Nat.le_of_ble_eq_true rfl) (fun M3 hr => ?_)
  refine g0 hC rfl ?_
  refine s1 hC rfl rfl rfl ?_
  exact lP (nQ V h) 0 (Nat.zero_add _) _ _ ⟨_, rfl, hS.then hr.1 rfl, hr.2⟩
theorem m134 (hF : Fix M) (hh : h = 9 ∨ h = 27) (hG : GG n h M) : ax_Ev L X SH 3 134 [(2, 0)] M (R1 0 (fun x M' => x = ((imA2 M h (M 139)).2 : Int) ∧ Sb W134 M M' ∧ M' 139 = (imA2 M h (M 139)).1 ∧ M' 0 14 = ((imA2 M h (M 139)).2 : Int))) := by
  show ax_G L X SH 3 134 0 [(2, 0)] [] M _
  have hC := at134
  have hw : wok W134 = true := by decide +kernel
  have hS : Sb W134 M M := Sb.refl
  have hV : HV M h M := HV.refl
  have hH3 : M 0 3 = (h : Int) := hG.2.2.2.2.2.2.2.2.2.1.1
  refine g3 hC rfl rfl ?_
  refine g3 hC rfl rfl ?_
  refine g19 hC rfl rfl (Nat.le_of_ble_eq_true rfl) rfl ((hS.fix hw hF).g rfl) ?_
  refine g3 hC rfl rfl ?_
  refine g19 hC rfl rfl (Nat.le_of_ble_eq_true rfl) rfl ((hS _ _ rfl).trans hH3) ?_
  refine g3 hC rfl rfl ?_
  refine g19 hC rfl rfl (Nat.le_of_ble_eq_true rfl) rfl ((hS.fix hw hF).g rfl) ?_
  refine c1 hC rfl rfl rfl (Nat.le_of_ble_eq_true rfl) (Nat.le_of_ble_eq_true rfl) rfl (m75 hF hh hV hG.1 hG.2.1) (Nat.le_of_ble_eq_true rfl) (fun x M2 hr => ?_)
  obtain ⟨rfl, hr0, hr1⟩ := hr; have hS := hS.then hr0 rfl
  refine g20s hC rfl rfl (Nat.le_of_ble_eq_true rfl) rfl hS rfl (fun hS => ?_)
  refine g3 hC rfl rfl ?_
  refine g19 hC rfl rfl (Nat.le_of_ble_eq_true rfl) rfl ax_up_at ?_
  refine ret1 hC rfl rfl ?_
  exact ⟨rfl, hS, by rw [ax_up_ne (by decide)]; exact hr1, ax_up_at⟩
theorem op34 (hR0 : Rel n M) : OP L X n 0 134 295 [(2, 0)] [(2, 142)] M := by
  have hR := hR0
  obtain ⟨h, hh, hF, hG⟩ := hR
  have hG0 := hG
  obtain ⟨hW, hSW, hPW, hRV, hGT, hGN, hGM, hGH, hGS, hGX⟩ := hG
  have hV : HV M h M := HV.refl
  have hH3 : M 0 3 = (h : Int) := hGX.1.1
  refine OP.tw (d' := 2) (m134 hF hh hG0) (Q := fun x M1 y M2 => y = ((imA2 M h (M1 231)).2 : Int) ∧ Sb X293 M1 M2 ∧ IS M2 (imA2 M h (M1 231))) (fun x M1 hx => ?_) (fun x M1 y M2 hx hy => ?_) (by decide) (by decide)
  · obtain ⟨-, hs, -⟩ := hx
    exact m295 (hs.fix (by decide +kernel) hF) (hRV.sb hs (rokB (by decide +kernel))) hW hSW
  · obtain ⟨rfl, hs, f1, f2⟩ := hx
    obtain ⟨rfl, hs2, hI⟩ := hy
    have ag := imA_agr (V := M) (h := h) (f := M 139) (g := M1 231)
    have hT : Sb WXI M M2 := (hs.mono rfl).then hs2 rfl
    have hlen := imA_len (V := M) (h := h) (f := M 139) hW
    have hl2 : (imA2 M h (M 139)).2 = (imA M h (M 139)).2 + 1 := rfl
    refine ⟨by rw [ag.1], h, hh, hT.fix (by decide +kernel) hF, hG0.re hh hT rfl (Or.inl rfl) (Or.inl rfl) (Or.inl rfl) (Or.inl rfl) (Or.inl ⟨rfl, by omega⟩) (Or.inl rfl) (Or.inl rfl) (Or.inl rfl) (Or.inr ?_)⟩
    obtain ⟨x1, x2, x3, x4, x5, x6⟩ := hGX
    have e14 : M2 0 14 = ((imA2 M h (M 139)).2 : Int) := (hs2 0 14 rfl).trans f2
    obtain ⟨n1, n2, n3, n4⟩ := nREq hT (hokB (by decide +kernel) hh)
    unfold GX
    rw [hT 0 3 rfl, hT 0 4 rfl, hT 0 16 rfl, hT 142 84 rfl, hT 142 69 rfl, hT 142 70 rfl, n2, e14]
    refine ⟨x1, x2, x3, fun s hs1 hs2 => by rw [hT 47 s rfl]; exact x4 s hs1 hs2, ⟨by omega, by omega, by rw [hI.2, ag.1]⟩, fun k hk hk2 => ?_⟩
    rw [hI.1, hs2 139 k rfl, f1]
    exact (ag.2 k (by omega)).symm
end IMR
