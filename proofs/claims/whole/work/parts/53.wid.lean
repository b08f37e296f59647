def XW : ax_W := ([(187, 195), (230, 231)], [(142, 70), (142, 53), (142, 56), (142, 57), (142, 67), (142, 116)])
def XS : ax_W := ([(187, 195), (230, 231)], [(142, 69), (142, 53), (142, 56), (142, 57), (142, 67), (142, 116)])
def X237 : ax_W := ([(230, 231)], [(142, 53), (142, 58), (142, 59), (142, 116)])
def XDE : ax_W := ([(187, 195), (230, 231)], [(142, 53), (142, 56), (142, 57), (142, 58), (142, 59), (142, 67), (142, 116)])
section WID
variable {L : Nat} {X : Nat → Int} {M V : ax_M} {h n : Nat}
theorem Sb.drop {W : ax_W} {a0 k0 : Nat} {M1 : ax_M} (hS : Sb (W.1, (a0, k0) :: W.2) M M1) (e : M1 a0 k0 = M a0 k0) : Sb W M M1 := by
  intro a k hk
  by_cases z : a = a0 ∧ k = k0
  · rw [z.1, z.2]; exact e
  · refine hS a k ?_
    unfold wb at hk ⊢
    rw [Bool.or_eq_false_iff] at hk ⊢
    refine ⟨hk.1, ?_⟩
    rw [List.any_cons, hk.2, Bool.or_false]
    cases h1 : Nat.beq a0 a with
    | false => rfl
    | true =>
      cases h2 : Nat.beq k0 k with
      | false => rfl
      | true => exact absurd ⟨(Nat.eq_of_beq_eq_true h1).symm, (Nat.eq_of_beq_eq_true h2).symm⟩ z
def wi1 (V : ax_M) (h : Nat) (s : Nat) (x : Int × Int) : Int × Int := if V 47 s = 0 ∧ em V h (-1) (s : Int) 9 < x.1 then (em V h (-1) (s : Int) 9, (s : Int)) else x
def wiN (V : ax_M) (h m : Nat) : Int × Int := it (wi1 V h) m (em V h (-1) (-1) 9, -1)
theorem wiN_s {m : Nat} : wiN V h (m + 1) = wi1 V h m (wiN V h m) := rfl
theorem m118 (hF : Fix M) (hh : h = 9 ∨ h = 27) (hG : GG n h M) : ax_Ev L X SH 7 118 [(2, 0)] M (R1 0 (fun x M' => x = (wiN M h (nS M h)).2 ∧ Sb WD M M')) := by
  show ax_G L X SH 7 118 0 [(2, 0), (3, 0), (3, 0), (3, 0)] [] M _
  have hC := at118
  have hw := wWD
  have hwh : hok WD h := hokB (by decide +kernel) hh
  have hso : sok WD := sokB (by decide +kernel)
  have hS : Sb WD M M := Sb.refl
  have hV : HV M h M := HV.refl
  have hH3 : M 0 3 = (h : Int) := hG.2.2.2.2.2.2.2.2.2.1.1
  have hW := hG.1
  have hb := hW.1.2.1.2
  have l1 : ∀ (m k : Nat), k + m = nS M h → ∀ ll M1, (ll = [(2, 0), (0, (wiN M h k).1), (0, (wiN M h k).2), (0, (k : Int))] ∧ Sb WD M M1) → ax_G L X SH 7 118 10 ll [] M1 (R1 0 (fun x M' => x = (wiN M h (nS M h)).2 ∧ Sb WD M M')) := by
    refine lp ?_ ?_
    · rintro ll M1 ⟨rfl, hS⟩
      refine g3 hC rfl rfl ?_
      refine g3 hC rfl rfl ?_
      refine g19 hC rfl rfl (Nat.le_of_ble_eq_true rfl) rfl ((hS _ _ rfl).trans hH3) ?_
      refine g19 hC rfl (shH hh) (Nat.le_of_ble_eq_true rfl) rfl (rd1 hS hwh hV hW) ?_
      refine g13g hC rfl (fun h14 => ?_) (fun h14 => (by omega))
      refine g3 hC rfl rfl ?_
      refine ret1 hC rfl rfl ?_
      exact ⟨rfl, hS⟩
    · rintro k hk ll M1 ⟨rfl, hS⟩ hnext
      refine g3 hC rfl rfl ?_
      refine g3 hC rfl rfl ?_
      refine g19 hC rfl rfl (Nat.le_of_ble_eq_true rfl) rfl ((hS _ _ rfl).trans hH3) ?_
      refine g19 hC rfl (shH hh) (Nat.le_of_ble_eq_true rfl) rfl (rd1 hS hwh hV hW) ?_
      refine g13g hC rfl (fun h14 => (by omega)) (fun h14 => ?_)
      refine g3 hC rfl rfl ?_
      refine g19 hC rfl rfl (Nat.le_of_ble_eq_true rfl) rfl ((hS.fix hw hF).g rfl) ?_
      refine g19 hC rfl rfl (Nat.le_of_ble_eq_true rfl) rfl ((hS.fix hw hF).g rfl) ?_
      refine g3 hC rfl rfl ?_
      refine r21 (k) hC rfl (by omega) rfl (Or.inl rfl) (by omega) ((hS _ _ rfl).trans (hV.2 _).2.2.1) ?_
      refine g12n hC rfl (fun h20 => ?_) (fun h20 => ?_)
      ·
        refine n3 hC rfl rfl ⟨by omega, by omega⟩ ?_
        refine g14 hC rfl ?_
        refine hnext _ _ ⟨?_, hS⟩
        rw [wiN_s, show wi1 M h k (wiN M h k) = wiN M h k from if_neg (fun z => h20 z.1)]; rfl
      ·
        refine g3 hC rfl rfl ?_
        refine g19 hC rfl rfl (Nat.le_of_ble_eq_true rfl) rfl ((hS.fix hw hF).g rfl) ?_
        refine g3 hC rfl rfl ?_
        refine g19 hC rfl rfl (Nat.le_of_ble_eq_true rfl) rfl ((hS _ _ rfl).trans hH3) ?_
        refine g3 hC rfl rfl ?_
        refine g19 hC rfl rfl (Nat.le_of_ble_eq_true rfl) rfl ((hS.fix hw hF).g rfl) ?_
        refine g0 hC rfl ?_
        refine g3 hC rfl rfl ?_
        refine c0 hC rfl rfl rfl (Nat.le_of_ble_eq_true rfl) (Nat.le_of_ble_eq_true rfl) rfl (m4 (hS.fix hw hF) hh (hV.sb hS hwh hso) hW hG.2.1 hG.2.2.1) (Nat.le_of_ble_eq_true rfl) (fun M2 hr => ?_)
        obtain ⟨hr0, hr⟩ := hr; have hS := hS.then hr0 rfl
        refine g3 hC rfl rfl ?_
        refine g19 hC rfl rfl (Nat.le_of_ble_eq_true rfl) rfl ((hS.fix hw hF).g rfl) ?_
        refine g19 hC rfl rfl (Nat.le_of_ble_eq_true rfl) rfl hr.2.2.1 ?_
        refine g3 hC rfl rfl ?_
        refine g13g hC rfl (fun h34 => ?_) (fun h34 => ?_)
        ·
          refine n3 hC rfl rfl ⟨by omega, by omega⟩ ?_
          refine g14 hC rfl ?_
          refine hnext _ _ ⟨?_, hS⟩
          rw [wiN_s, show wi1 M h k (wiN M h k) = wiN M h k from if_neg (fun z => by have := z.2; omega)]; rfl
        ·
          refine g3 hC rfl rfl ?_
          refine g19 hC rfl rfl (Nat.le_of_ble_eq_true rfl) rfl ((hS.fix hw hF).g rfl) ?_
          refine g19 hC rfl rfl (Nat.le_of_ble_eq_true rfl) rfl hr.2.2.1 ?_
          refine s1 hC rfl rfl rfl ?_
          refine g3 hC rfl rfl ?_
          refine s2 hC rfl rfl rfl ?_
          refine n3 hC rfl rfl ⟨by omega, by omega⟩ ?_
          refine g14 hC rfl ?_
          refine hnext _ _ ⟨?_, hS⟩
          rw [wiN_s, show wi1 M h k (wiN M h k) = (em M h (-1) (k : Int) 9, (k : Int)) from if_pos ⟨by omega, by omega⟩]; rfl
  refine g3 hC rfl rfl ?_
  refine c0 hC rfl rfl rfl (Nat.le_of_ble_eq_true rfl) (Nat.le_of_ble_eq_true rfl) rfl (m143 hF hh hV hW hG.2.1 hG.2.2.1 hH3) (Nat.le_of_ble_eq_true rfl) (fun M2 hr => ?_)
  obtain ⟨hr0, hr⟩ := hr; have hS := hS.then hr0 rfl
  refine g3 hC rfl rfl ?_
  refine g19 hC rfl rfl (Nat.le_of_ble_eq_true rfl) rfl ((hS.fix hw hF).g rfl) ?_
  refine g19 hC rfl rfl (Nat.le_of_ble_eq_true rfl) rfl hr.2.2.1 ?_
  refine s1 hC rfl rfl rfl ?_
  refine g0 hC rfl ?_
  refine s2 hC rfl rfl rfl ?_
  refine g0 hC rfl ?_
  refine s3 hC rfl rfl rfl ?_
  exact l1 (nS M h) 0 (Nat.zero_add _) _ _ ⟨rfl, hS⟩
theorem m233 (hF : Fix M) (hG : GG n h M) {M1 : ax_M} (hS0 : Sb WD M M1) : ax_Ev L X SH 8 233 [(2, 142)] M1 (R1 0 (fun x M' => x = (wiN M h (nS M h)).2 ∧ Sb XN M1 M')) := by
  show ax_G L X SH 8 233 0 [(2, 142), (3, 0), (3, 0), (3, 0)] [] M1 _
  have hC := at233
  have hw : wok XW = true := by decide +kernel
  have hF1 := hS0.fix wWD hF
  have hwr : rok XW := rokB (by decide +kernel)
  have hV1 := hG.2.2.2.1.sb hS0 rWD
  have hS : Sb XW M1 M1 := Sb.refl
  have hW := hG.1
  have hb := hW.1.2.1.2
  have hsm : M1 142 69 = -1 := (hS0 142 69 rfl).trans hG.2.2.2.2.2.2.2.2.2.2.2.1.1
  have hwd : M1 142 70 = -1 := (hS0 142 70 rfl).trans hG.2.2.2.2.2.2.2.2.2.2.2.1.2
  have hsh := hG.2.1.2.2.1
  have l1 : ∀ (m k : Nat), k + m = nS M h → ∀ ll M2, (ll = [(2, 142), (0, (wiN M h k).1), (0, (wiN M h k).2), (0, (k : Int))] ∧ Sb XW M1 M2 ∧ M2 142 70 = -1) → ax_G L X SH 8 233 9 ll [] M2 (R1 0 (fun x M' => x = (wiN M h (nS M h)).2 ∧ Sb XN M1 M')) := by
    refine lp ?_ ?_
    · rintro ll M2 ⟨rfl, hS, hq⟩
      refine g3 hC rfl rfl ?_
      refine g3 hC rfl rfl ?_
      refine c1 hC rfl rfl rfl (Nat.le_of_ble_eq_true rfl) (Nat.le_of_ble_eq_true rfl) (mayR k184 rfl) (m184 (hS.fix hw hF1) (hV1.sb hS hwr) hW) (Nat.le_of_ble_eq_true rfl) (fun x M3 hr => ?_)
      obtain ⟨rfl, hr⟩ := hr
      replace hr := hr.symm
      subst hr
      refine g13g hC rfl (fun h12 => ?_) (fun h12 => (by omega))
      refine g3 hC rfl rfl ?_
      refine ret1 hC rfl rfl ?_
      exact ⟨rfl, Sb.drop hS (hq.trans hwd.symm)⟩
    · rintro k hk ll M2 ⟨rfl, hS, hq⟩ hnext
      have hsk := hsh k (by omega)
      refine g3 hC rfl rfl ?_
      refine g3 hC rfl rfl ?_
      refine c1 hC rfl rfl rfl (Nat.le_of_ble_eq_true rfl) (Nat.le_of_ble_eq_true rfl) (mayR k184 rfl) (m184 (hS.fix hw hF1) (hV1.sb hS hwr) hW) (Nat.le_of_ble_eq_true rfl) (fun x M3 hr => ?_)
      obtain ⟨rfl, hr⟩ := hr
      replace hr := hr.symm
      subst hr
      refine g13g hC rfl (fun h12 => (by omega)) (fun h12 => ?_)
      refine g3 hC rfl rfl ?_
      refine g3 hC rfl rfl ?_
      refine c1 hC rfl rfl rfl (Nat.le_of_ble_eq_true rfl) (Nat.le_of_ble_eq_true rfl) (mayR k192 rfl) (m192 (hS.fix hw hF1) (hV1.sb hS hwr) hW (by omega)) (Nat.le_of_ble_eq_true rfl) (fun x M3 hr => ?_)
      obtain ⟨rfl, hr⟩ := hr
      replace hr := hr.symm
      subst hr
      refine g12e hC rfl (fun h16 => ?_) (fun h16 => ?_)
      ·
        refine g3 hC rfl rfl ?_
        refine g3 hC rfl rfl ?_
        refine g20s hC rfl sh142 (flt12 rfl) (by rw [fy12_70]; rfl) hS rfl (fun hS => ?_)
        refine g3 hC rfl rfl ?_
        refine c0 hC rfl rfl rfl (Nat.le_of_ble_eq_true rfl) (Nat.le_of_ble_eq_true rfl) (mayR k208 rfl) (m208 (hS.fix hw hF1) (hV1.sb hS hwr) hW hG.2.1 hG.2.2.1 (sm := -1) (wd := (k : Int)) ((hS 142 69 rfl).trans hsm) ax_up_at) (Nat.le_of_ble_eq_true rfl) (fun M3 hr => ?_)
        obtain ⟨hr0, hr⟩ := hr; have hS := hS.then hr0 rfl
        refine g3 hC rfl rfl ?_
        refine g0 hC rfl ?_
        refine g20s hC rfl sh142 (flt12 rfl) (by rw [fy12_70]; rfl) hS rfl (fun hS => ?_)
        refine g3 hC rfl rfl ?_
        refine g19 hC rfl sh142 (flt12 rfl) ft12_67 ((up2 (by decide)).trans hr.2.2.1) ?_
        refine g3 hC rfl rfl ?_
        refine g13l hC rfl (fun h29 => ?_) (fun h29 => ?_)
        ·
          refine g3 hC rfl rfl ?_
          refine g19 hC rfl sh142 (flt12 rfl) ft12_67 ((up2 (by decide)).trans hr.2.2.1) ?_
          refine s1 hC rfl rfl rfl ?_
          refine g3 hC rfl rfl ?_
          refine s2 hC rfl rfl rfl ?_
          refine n3 hC rfl rfl ⟨by omega, by omega⟩ ?_
          refine g14 hC rfl ?_
          refine hnext _ _ ⟨?_, hS, ax_up_at⟩
          rw [wiN_s, show wi1 M h k (wiN M h k) = (em M h (-1) (k : Int) 9, (k : Int)) from if_pos ⟨?_, by omega⟩]; rfl
          rcases hsk with z | z
          · exact z
          · rw [if_pos z] at h16; omega
        ·
          refine g14 hC rfl ?_
          refine n3 hC rfl rfl ⟨by omega, by omega⟩ ?_
          refine g14 hC rfl ?_
          refine hnext _ _ ⟨?_, hS, ax_up_at⟩
          rw [wiN_s, show wi1 M h k (wiN M h k) = wiN M h k from if_neg (fun z => by have := z.2; omega)]; rfl
      ·
        refine g14 hC rfl ?_
        refine n3 hC rfl rfl ⟨by omega, by omega⟩ ?_
        refine g14 hC rfl ?_
        refine hnext _ _ ⟨?_, hS, hq⟩
        rw [wiN_s, show wi1 M h k (wiN M h k) = wiN M h k from if_neg (fun z => ?_)]; rfl
        rw [if_neg (by have := z.1; omega)] at h16; omega
  refine g3 hC rfl rfl ?_
  refine c0 hC rfl rfl rfl (Nat.le_of_ble_eq_true rfl) (Nat.le_of_ble_eq_true rfl) (mayR k208 rfl) (m208' ‹Fix M› hG hS0) (Nat.le_of_ble_eq_true rfl) (fun M3 hr => ?_)
  obtain ⟨hr0, hr⟩ := hr; have hS := hS.then hr0 rfl
  refine g3 hC rfl rfl ?_
  refine g19 hC rfl sh142 (flt12 rfl) ft12_67 hr.2.2.1 ?_
  refine s1 hC rfl rfl rfl ?_
  refine g0 hC rfl ?_
  refine s2 hC rfl rfl rfl ?_
  refine g0 hC rfl ?_
  refine s3 hC rfl rfl rfl ?_
  exact l1 (nS M h) 0 (Nat.zero_add _) _ _ ⟨rfl, hS, (hr0 142 70 rfl).trans hwd⟩
theorem op18 (hR : Rel n M) : OP L X n 0 118 233 [(2, 0)] [(2, 142)] M := by
  have hR0 := hR
  obtain ⟨h, hh, hF, hG⟩ := hR
  have hG0 := hG
  obtain ⟨hW, hSW, hPW, hRV, hGT, hGN, hGM, hGH, hGS, hGX⟩ := hG
  have hV : HV M h M := HV.refl
  have hH3 : M 0 3 = (h : Int) := hGX.1.1
  exact OP.sc hR0 gWD gXN wWD wXN (m118 hF hh hG0) (fun M1 hS => m233 hF hG0 hS) (by decide) (by decide)
def lfD (V : ax_M) (h a b : Nat) (lg : Int) (i : Nat) : Int := if i = 0 then (cp V h a : Int) else if i = 1 then V (h + 11) a else if i = 2 then V 45 0 else if i = 5 then V (h + 11) b else if i = 6 then lg else 0
def dvl (V : ax_M) (h a b : Nat) (lg : Int) : Int := if V 182 3 = -1 then lg else pval (lfD V h a b lg) (fun _ => 0) (dc V) (dn V)
theorem lfD_b (hW : HW V h) (hSW : SW V) {a b : Nat} {lg : Int} (ha : a < nC V h) (hb : b < nC V h) (hl : 0 ≤ lg ∧ lg ≤ 9) : ∀ i, bnd (lfD V h a b lg i) := by
  have h1 := hW.2.2.2.1 a ha
  have h2 := hW.2.2.2.1 b hb
  have h3 := hSW.1
  intro i; unfold lfD bnd; repeat' split
  all_goals omega
theorem dvl_b (hW : HW V h) (hSW : SW V) (hPW : PW V h) {a b : Nat} {lg : Int} (ha : a < nC V h) (hb : b < nC V h) (hl : 0 ≤ lg ∧ lg ≤ 9) : bnd (dvl V h a b lg) := by
  unfold dvl
  rcases hPW.2 with ⟨z, -⟩ | ⟨z1, z2, z3, z4, z5⟩
  · rw [if_pos z]; unfold bnd; omega
  · rw [if_neg (by omega)]
    exact (pval_t (lfD_b hW hSW ha hb hl) (fun _ => ⟨by omega, by omega⟩) z5).2 rfl
theorem Code46 {p : Nat} (h1 : M p 1 = 1) (h2 : M (p + 1) 0 = -104) : Code M p 1 (fun _ => 46) 1 := by
  refine ⟨h1, by decide, fun k hk => ?_, fun k _ => (show lal 1 46 from ⟨fun _ _ => Or.inr (Or.inr (Or.inl ⟨rfl, by decide, by decide⟩)), fun z => absurd z (by decide)⟩)⟩
  obtain rfl : k = 0 := by omega
  rw [h2]; rfl
theorem Typed46 : Typed (fun _ => 46) 1 false := by
  refine ⟨fun k hk => ?_, rfl, rfl⟩
  obtain rfl : k = 0 := by omega
  unfold tok
  rw [if_neg (by decide), if_neg (by decide), if_pos (by decide)]
  exact ⟨by decide, by decide⟩
theorem m18 (hF : Fix M) (hh : h = 9 ∨ h = 27) (hV : HV V h M) (hW : HW V h) (hSW : SW V) (hPW : PW V h) {mm : Nat → Nat → Int} (hm : ∀ a b, a < 8 → b < 8 → M (95 + a) b = mm a b ∧ 0 ≤ mm a b ∧ mm a b ≤ 9) {a b : Nat} (ha : a < nC V h) (hb : b < nC V h) : ax_Ev L X SH 3 18 [(2, 71), (2, (h : Int)), (0, V 45 0), (0, (a : Int)), (0, (b : Int))] M (R1 0 (fun x M' => x = dvl V h a b (mm a b) ∧ Sb W11 M M')) := by
  show ax_G L X SH 3 18 0 [(2, 71), (2, (h : Int)), (0, V 45 0), (0, (a : Int)), (0, (b : Int))] [] M _
  have hC := at18
  have hw : wok W11 = true := by decide +kernel
  have hwh : hok W11 h := hokB (by decide +kernel) hh
  have hS : Sb W11 M M := Sb.refl
  have hbc := hW.1.2.2.2.2
  have hml := (hm a b (by omega) (by omega)).2
  have hlb := lfD_b (lg := mm a b) hW hSW ha hb hml
  have hmet : ∀ M1, Sb W11 M M1 → M1 (95 + a) b = mm a b := fun M1 hS => (hS _ _ (wbo 95 103 rfl (by omega) (by omega))).trans (hm a b (by omega) (by omega)).1
  have hcall : ∀ M2, Fix M2 → M2 (h + 15) 1 = V (h + 15) 1 → (∀ k, M2 (h + 16) k = V (h + 16) k) → (M2 106 0 = (cp V h a : Int) ∧ M2 106 1 = V (h + 11) a ∧ M2 106 2 = V 45 0 ∧ M2 106 3 = V (h + 11) b ∧ M2 106 4 = mm a b) → ax_Ev L X SH 2 60 [(2, ((h + 15 : Nat) : Int)), (2, ((106 : Nat) : Int)), (2, ((95 + a : Nat) : Int))] M2 (R1 0 (fun x M' => x = dvl V h a b (mm a b) ∧ Sb W0 M2 M')) := by
    intro M2 hF2 e1 e2 e3
    have hleaf : ∀ v : Int, 40 ≤ v → v < 60 → lal 1 v → M2 106 (ci 1 (v - 40)).toNat = lfD V h a b (mm a b) (v - 40).toNat := by
      intro v v1 v2 v3
      have hv := v3.1 v1 v2
      have hv : v = 40 ∨ v = 41 ∨ v = 42 ∨ v = 45 ∨ v = 46 := by omega
      rcases hv with rfl | rfl | rfl | rfl | rfl
      · exact e3.1
      · exact e3.2.1
      · exact e3.2.2.1
      · exact e3.2.2.2.1
      · exact e3.2.2.2.2
    unfold dvl
    rcases hPW.2 with ⟨z1, z2, z3⟩ | ⟨z1, z2, z3, z4, z5⟩
    · rw [if_pos z1]
      exact m60 hF2 (isP15 hh) rfl (shR95 (by omega)) (nl := 5) (kind := 1) (mt := fun _ => 0) (lf := lfD V h a b (mm a b)) rfl (Code46 (e1.trans z2) ((e2 0).trans z3)) hleaf Typed46 hlb (fun _ => ⟨by omega, by omega⟩) (fun q => absurd q (by decide)) (fun k => rfl) (fun k => W0hi (by omega))
    · rw [if_neg (by omega)]
      exact m60 hF2 (isP15 hh) rfl (shR95 (by omega)) (nl := 5) (kind := 1) rfl (z4.of e1 e2) hleaf z5 hlb (fun _ => ⟨by omega, by omega⟩) (fun q => absurd q (by decide)) (fun k => rfl) (fun k => W0hi (by omega))
  refine g3 hC rfl rfl ?_
  refine g19 hC rfl rfl (Nat.le_of_ble_eq_true rfl) rfl ((hS.fix hw hF).g fx_71_10) ?_
  refine g0 hC rfl ?_
  refine g3 hC rfl rfl ?_
  refine g19 hC rfl (shH hh) (Nat.le_of_ble_eq_true rfl) rfl ((hS.fix hw hF).h (v := 10) hh rfl rfl) ?_
  refine g3 hC rfl rfl ?_
  refine r21 (a) hC rfl (by omega) (shA (v := 10) hh rfl rfl) (Or.inl rfl) (by omega) (rdP hS hwh hV hW (by omega)) ?_
  refine r22s (0) hC rfl (by omega) sh106 (by omega) rfl hS rfl (fun hS => ?_)
  refine g3 hC rfl rfl ?_
  refine g19 hC rfl rfl (Nat.le_of_ble_eq_true rfl) rfl ((hS.fix hw hF).g fx_71_10) ?_
  refine g0 hC rfl ?_
  refine g3 hC rfl rfl ?_
  refine g19 hC rfl (shH hh) (Nat.le_of_ble_eq_true rfl) rfl ((hS.fix hw hF).h (v := 11) hh rfl rfl) ?_
  refine g3 hC rfl rfl ?_
  refine r21 (a) hC rfl (by omega) (shA (v := 11) hh rfl rfl) (Or.inl rfl) (by omega) (rdi hS hwh hV 11 _ (by decide) (by decide) (by decide)) ?_
  refine r22s (1) hC rfl (by omega) sh106 (by omega) rfl hS rfl (fun hS => ?_)
  refine g3 hC rfl rfl ?_
  refine g19 hC rfl rfl (Nat.le_of_ble_eq_true rfl) rfl ((hS.fix hw hF).g fx_71_10) ?_
  refine g0 hC rfl ?_
  refine g3 hC rfl rfl ?_
  refine r22s (2) hC rfl (by omega) sh106 (by omega) rfl hS rfl (fun hS => ?_)
  refine g3 hC rfl rfl ?_
  refine g19 hC rfl rfl (Nat.le_of_ble_eq_true rfl) rfl ((hS.fix hw hF).g fx_71_10) ?_
  refine g0 hC rfl ?_
  refine g3 hC rfl rfl ?_
  refine g19 hC rfl (shH hh) (Nat.le_of_ble_eq_true rfl) rfl ((hS.fix hw hF).h (v := 11) hh rfl rfl) ?_
  refine g3 hC rfl rfl ?_
  refine r21 (b) hC rfl (by omega) (shA (v := 11) hh rfl rfl) (Or.inl rfl) (by omega) (rdi hS hwh hV 11 _ (by decide) (by decide) (by decide)) ?_
  refine r22s (3) hC rfl (by omega) sh106 (by omega) rfl hS rfl (fun hS => ?_)
  refine g3 hC rfl rfl ?_
  refine g19 hC rfl rfl (Nat.le_of_ble_eq_true rfl) rfl ((hS.fix hw hF).g fx_71_10) ?_
  refine g0 hC rfl ?_
  refine g3 hC rfl rfl ?_
  refine g19 hC rfl rfl (Nat.le_of_ble_eq_true rfl) rfl ((hS.fix hw hF).g fx_71_5) ?_
  refine g3 hC rfl rfl ?_
  refine r21 (a) hC rfl (by omega) sh94 (Or.inl rfl) (by omega) ((hS.fix hw hF).r (n := 8) (v := 95) rfl (by omega)) ?_
  refine g3 hC rfl rfl ?_
  refine r21 (b) hC rfl (by omega) (shR95 (by omega)) (Or.inl rfl) (by omega) (hmet _ hS) ?_
  refine r22s (4) hC rfl (by omega) sh106 (by omega) rfl hS rfl (fun hS => ?_)
  refine g3 hC rfl rfl ?_
  refine g19 hC rfl (shH hh) (Nat.le_of_ble_eq_true rfl) rfl ((hS.fix hw hF).h (v := 15) hh rfl rfl) ?_
  refine g3 hC rfl rfl ?_
  refine g19 hC rfl rfl (Nat.le_of_ble_eq_true rfl) rfl ((hS.fix hw hF).g fx_71_10) ?_
  refine g3 hC rfl rfl ?_
  refine g19 hC rfl rfl (Nat.le_of_ble_eq_true rfl) rfl ((hS.fix hw hF).g fx_71_5) ?_
  refine g3 hC rfl rfl ?_
  refine r21 (a) hC rfl (by omega) sh94 (Or.inl rfl) (by omega) ((hS.fix hw hF).r (n := 8) (v := 95) rfl (by omega)) ?_
  refine c1 hC rfl rfl rfl (Nat.le_of_ble_eq_true rfl) (Nat.le_of_ble_eq_true rfl) (mayP (isP15 hh) rfl rfl rfl rfl rfl) (hcall _ (hS.fix hw hF) (rdi hS hwh hV 15 1 (by decide) (by decide) (by decide)) (fun k => rdi hS hwh hV 16 k (by decide) (by decide) (by decide)) ⟨by simp [upe], by simp [upe], by simp [upe], by simp [upe], by simp [upe]⟩) (Nat.le_of_ble_eq_true rfl) (fun x M2 hr => ?_)
  obtain ⟨rfl, hr⟩ := hr; have hS := hS.then hr rfl
  refine ret1 hC rfl rfl ?_
  exact ⟨rfl, hS⟩
theorem m17 (hF : Fix M) (hh : h = 9 ∨ h = 27) (hV : HV V h M) (hW : HW V h) (hSW : SW V) (hPW : PW V h) {mm : Nat → Nat → Int} (hm : ∀ a b, a < 8 → b < 8 → M (95 + a) b = mm a b ∧ 0 ≤ mm a b ∧ mm a b ≤ 9) {a b : Nat} (ha : a < nC V h) (hb : b < nC V h) : ax_Ev L X SH 4 17 [(2, 71), (2, (h : Int)), (2, 45), (0, (a : Int)), (0, (b : Int))] M (R1 1 (fun x M' => x = dvl V h a b (mm a b) + dvl V h b a (mm b a) ∧ Sb W11 M M')) := by
  show ax_G L X SH 4 17 0 [(2, 71), (2, (h : Int)), (2, 45), (0, (a : Int)), (0, (b : Int))] [] M _
  have hC := at17
  have hw : wok W11 = true := by decide +kernel
  have hwh : hok W11 h := hokB (by decide +kernel) hh
  have hso : sok W11 := sokB (by decide +kernel)
  have hS : Sb W11 M M := Sb.refl
  have hbc := hW.1.2.2.2.2
  have b1 := dvl_b hW hSW hPW ha hb (hm a b (by omega) (by omega)).2
  have b2 := dvl_b hW hSW hPW hb ha (hm b a (by omega) (by omega)).2
  unfold bnd at b1 b2
  have hm1 : ∀ M1, Sb W11 M M1 → ∀ a b, a < 8 → b < 8 → M1 (95 + a) b = mm a b ∧ 0 ≤ mm a b ∧ mm a b ≤ 9 := fun M1 hS a b ha hb => ⟨(hS _ _ (wbo 95 103 rfl (by omega) (by omega))).trans (hm a b ha hb).1, (hm a b ha hb).2⟩
  refine g3 hC rfl rfl ?_
  refine g3 hC rfl rfl ?_
  refine g3 hC rfl rfl ?_
  refine g19 hC rfl rfl (Nat.le_of_ble_eq_true rfl) rfl ((hS _ _ rfl).trans (hV.2 0).1) ?_
  refine g3 hC rfl rfl ?_
  refine g3 hC rfl rfl ?_
  refine c1 hC rfl rfl rfl (Nat.le_of_ble_eq_true rfl) (Nat.le_of_ble_eq_true rfl) rfl (m18 (hS.fix hw hF) hh (hV.sb hS hwh hso) hW hSW hPW (hm1 _ hS) (by omega) (by omega)) (Nat.le_of_ble_eq_true rfl) (fun x M2 hr => ?_)
  obtain ⟨rfl, hr⟩ := hr; have hS := hS.then hr rfl
  refine g9 hC rfl ?_
  refine g3 hC rfl rfl ?_
  refine g3 hC rfl rfl ?_
  refine g3 hC rfl rfl ?_
  refine g19 hC rfl rfl (Nat.le_of_ble_eq_true rfl) rfl ((hS _ _ rfl).trans (hV.2 0).1) ?_
  refine g3 hC rfl rfl ?_
  refine g3 hC rfl rfl ?_
  refine c1 hC rfl rfl rfl (Nat.le_of_ble_eq_true rfl) (Nat.le_of_ble_eq_true rfl) rfl (m18 (hS.fix hw hF) hh (hV.sb hS hwh hso) hW hSW hPW (hm1 _ hS) (by omega) (by omega)) (Nat.le_of_ble_eq_true rfl) (fun x M2 hr => ?_)
  obtain ⟨rfl, hr⟩ := hr; have hS := hS.then hr rfl
  refine g9 hC rfl ?_
  refine g7a hC rfl ⟨by omega, by omega⟩ ?_
  refine ret1 hC rfl rfl ?_
  exact ⟨rfl, hS⟩
theorem m120 (hF : Fix M) (hh : h = 9 ∨ h = 27) (hG : GG n h M) {a b : Int} : ax_Ev L X SH 7 120 [(2, 0), (0, a), (0, b)] M (R1 1 (fun x M' => ((tw M h a b ∧ x = dvl M h a.toNat b.toNat (mt M h (-1) (-1) a.toNat b.toNat) + dvl M h b.toNat a.toNat (mt M h (-1) (-1) b.toNat a.toNat)) ∨ (¬ tw M h a b ∧ x = -1000000000000000)) ∧ Sb WD M M')) := by
  show ax_G L X SH 7 120 0 [(2, 0), (0, a), (0, b)] [] M _
  have hC := at120
  have hw := wWD
  have hwh : hok WD h := hokB (by decide +kernel) hh
  have hso : sok WD := sokB (by decide +kernel)
  have hS : Sb WD M M := Sb.refl
  have hV : HV M h M := HV.refl
  have hH3 : M 0 3 = (h : Int) := hG.2.2.2.2.2.2.2.2.2.1.1
  have hb := hG.1.1.2.2.2.2
  by_cases z : tw M h a b
  · obtain ⟨k, rfl⟩ : ∃ k : Nat, a = (k : Int) := ⟨a.toNat, by have := z.1; omega⟩
    obtain ⟨q, rfl⟩ : ∃ k : Nat, b = (k : Int) := ⟨b.toNat, by have := z.2.1; omega⟩
    have hk := z.1
    have hq := z.2.1
    refine g3 hC rfl rfl ?_
    refine g3 hC rfl rfl ?_
    refine g3 hC rfl rfl ?_
    refine c1 hC rfl rfl rfl (Nat.le_of_ble_eq_true rfl) (Nat.le_of_ble_eq_true rfl) rfl (m141 hF hh hV hG.1 hH3) (Nat.le_of_ble_eq_true rfl) (fun x M2 hr => ?_)
    obtain ⟨hx, hr⟩ := hr; replace hr := hr.symm; subst hr; have hx1 : x = 1 := by rcases hx with y | y; exact y.1; exact absurd z y.2
    refine g12n hC rfl (fun h4 => ?_) (fun h4 => (by omega))
    refine g3 hC rfl rfl ?_
    refine c0 hC rfl rfl rfl (Nat.le_of_ble_eq_true rfl) (Nat.le_of_ble_eq_true rfl) rfl (m143 hF hh hV hG.1 hG.2.1 hG.2.2.1 hH3) (Nat.le_of_ble_eq_true rfl) (fun M2 hr => ?_)
    obtain ⟨hr0, hrr⟩ := hr; have hS := hS.then hr0 rfl
    refine g3 hC rfl rfl ?_
    refine g19 hC rfl rfl (Nat.le_of_ble_eq_true rfl) rfl ((hS.fix hw hF).g rfl) ?_
    refine g3 hC rfl rfl ?_
    refine g19 hC rfl rfl (Nat.le_of_ble_eq_true rfl) rfl ((hS _ _ rfl).trans hH3) ?_
    refine g3 hC rfl rfl ?_
    refine g19 hC rfl rfl (Nat.le_of_ble_eq_true rfl) rfl ((hS.fix hw hF).g rfl) ?_
    refine g3 hC rfl rfl ?_
    refine g3 hC rfl rfl ?_
    refine c1 hC rfl rfl rfl (Nat.le_of_ble_eq_true rfl) (Nat.le_of_ble_eq_true rfl) rfl (m17 (hS.fix hw hF) hh (hV.sb hS hwh hso) hG.1 hG.2.1 hG.2.2.1 (mm := mt M h (-1) (-1)) (fun a b ha hb => ⟨hrr.2.2.2.2 a b ha hb, mt_b⟩) (by omega) (by omega)) (Nat.le_of_ble_eq_true rfl) (fun x M2 hr => ?_)
    obtain ⟨rfl, hr⟩ := hr; have hS := hS.then hr rfl
    refine ret1 hC rfl rfl ?_
    exact ⟨Or.inl ⟨z, rfl⟩, hS⟩
  · skip
    refine g3 hC rfl rfl ?_
    refine g3 hC rfl rfl ?_
    refine g3 hC rfl rfl ?_
    refine c1 hC rfl rfl rfl (Nat.le_of_ble_eq_true rfl) (Nat.le_of_ble_eq_true rfl) rfl (m141 hF hh hV hG.1 hH3) (Nat.le_of_ble_eq_true rfl) (fun x M2 hr => ?_)
    obtain ⟨hx, hr⟩ := hr; replace hr := hr.symm; subst hr; have hx1 : x = 0 := by rcases hx with y | y; exact absurd y.2 z; exact y.1
    refine g12n hC rfl (fun h4 => (by omega)) (fun h4 => ?_)
    refine g1 hC rfl ?_
    refine ret1 hC rfl rfl ?_
    exact ⟨Or.inr ⟨z, rfl⟩, hS⟩
theorem m237 (hF : Fix M) (hV : RV V h M) (hW : HW V h) (hSW : SW V) (hPW : PW V h) {mm : Nat → Nat → Int} (hm : ∀ a b, a < 8 → b < 8 → M 193 (8 * a + b) = mm a b ∧ 0 ≤ mm a b ∧ mm a b ≤ 9) {a b : Nat} (ha : a < nC V h) (hb : b < nC V h) : ax_Ev L X SH 3 237 [(2, 142), (0, (a : Int)), (0, (b : Int))] M (R1 1 (fun x M' => x = dvl V h a b (mm a b) ∧ Sb X237 M M')) := by
  show ax_G L X SH 3 237 0 [(2, 142), (0, (a : Int)), (0, (b : Int))] [] M _
  have hC := at237
  have hw : wok X237 = true := by decide +kernel
  have hwr : rok X237 := rokB (by decide +kernel)
  have hS : Sb X237 M M := Sb.refl
  have hbc := hW.1.2.2.2.2
  have hml := (hm a b (by omega) (by omega))
  have hlb := lfD_b (lg := mm a b) hW hSW ha hb hml.2
  have hcf : ∀ M1, Sb X237 M M1 → M1 182 3 = V 182 3 := fun M1 hS => (hS _ _ rfl).trans hV.2.2.2.2.2.2.1
  have hcall : V 182 3 ≠ -1 → ∀ M2, Fix M2 → RV V h M2 → M2 142 58 = V (h + 11) b → M2 142 59 = mm a b → ax_Ev L X SH 2 196 [(2, 142), (0, 1), (0, (a : Int))] M2 (R1 1 (fun x M' => x = dvl V h a b (mm a b) ∧ Sb X196 M2 M')) := by
    intro hne M2 hF2 hV2 e1 e2
    rcases hPW.2 with ⟨z, -⟩ | ⟨z1, z2, z3, z4, z5⟩
    · exact absurd z hne
    · unfold dvl
      rw [if_neg hne]
      have hv2 := hV2.2.2.2.2.2
      refine m196 (which := 1) (f0 := df V) (n := dn V) (cc := dc V) (lf := lfD V h a b (mm a b)) hF2 hV2 hW (by decide) ha (hv2.2.1.trans z1) (hv2.2.2.2.1.trans z2) z3 (fun k _ => hv2.2.2.2.2 _ (by omega)) z4.2.2.2 z5 hlb ?_
      intro v v1 v2 v3
      have hv := v3.1 v1 v2
      have hv : v = 40 ∨ v = 41 ∨ v = 42 ∨ v = 45 ∨ v = 46 := by omega
      rcases hv with rfl | rfl | rfl | rfl | rfl
      · rfl
      · rfl
      · rfl
      · exact e1
      · exact e2
  refine g3 hC rfl rfl ?_
  refine g3 hC rfl rfl ?_
  refine g19 hC rfl sh142 (flt12 rfl) ft12_66 ((hS.fix hw hF).g fx_142_66) ?_
  refine g0 hC rfl ?_
  refine g3 hC rfl rfl ?_
  refine g6m hC rfl ⟨by omega, by omega⟩ ?_
  refine g3 hC rfl rfl ?_
  refine g6a hC rfl ⟨by omega, by omega⟩ ?_
  refine r21 (((8 * a) + b)) hC rfl (by omega) sh193 (Or.inl rfl) (by omega) hml.1 ?_
  refine g20s hC rfl sh142 (flt12 rfl) (by rw [fy12_59]; rfl) hS rfl (fun hS => ?_)
  refine g3 hC rfl rfl ?_
  refine g19 hC rfl sh142 (flt12 rfl) ft12_48 ((hS.fix hw hF).g fx_142_48) ?_
  refine g0 hC rfl ?_
  refine r21 (3) hC rfl (by omega) sh182 (Or.inl rfl) (by omega) (hcf _ hS) ?_
  refine g0 hC rfl ?_
  refine g13n hC rfl (fun h15 => ?_) (fun h15 => ?_)
  ·
    refine g3 hC rfl rfl ?_
    refine g3 hC rfl rfl ?_
    refine g19 hC rfl sh142 (flt12 rfl) ft12_46 ((hS.fix hw hF).g fx_142_46) ?_
    refine g0 hC rfl ?_
    refine g0 hC rfl ?_
    refine g3 hC rfl rfl ?_
    refine g6m hC rfl ⟨by omega, by omega⟩ ?_
    refine g6a hC rfl ⟨by omega, by omega⟩ ?_
    refine r21 ((35 + (4 * b))) hC rfl (by omega) sh180 (Or.inl rfl) (by omega) (rmG hS hwr hV hW (by omega)) ?_
    refine g20s hC rfl sh142 (flt12 rfl) (by rw [fy12_58]; rfl) hS rfl (fun hS => ?_)
    refine g3 hC rfl rfl ?_
    refine g0 hC rfl ?_
    refine g3 hC rfl rfl ?_
    refine c1 hC rfl rfl rfl (Nat.le_of_ble_eq_true rfl) (Nat.le_of_ble_eq_true rfl) (mayR k196 rfl) (hcall h15 _ (hS.fix hw hF) (hV.sb hS hwr) ax_up_at ((up2 (by decide)).trans ax_up_at)) (Nat.le_of_ble_eq_true rfl) (fun x M2 hr => ?_)
    obtain ⟨rfl, hr0⟩ := hr; have hS := hS.then hr0 rfl
    refine ret1 hC rfl rfl ?_
    exact ⟨rfl, hS⟩
  ·
    refine g3 hC rfl rfl ?_
    refine g19 hC rfl sh142 (flt12 rfl) ft12_59 ax_up_at ?_
    refine g9 hC rfl ?_
    refine ret1 hC rfl rfl ?_
    exact ⟨by unfold dvl; rw [if_pos (by omega)], hS⟩
theorem m238 (hF : Fix M) (hV : RV V h M) (hW : HW V h) (hSW : SW V) (hPW : PW V h) {mm : Nat → Nat → Int} (hm : ∀ a b, a < 8 → b < 8 → M 193 (8 * a + b) = mm a b ∧ 0 ≤ mm a b ∧ mm a b ≤ 9) {a b : Nat} (ha : a < nC V h) (hb : b < nC V h) : ax_Ev L X SH 4 238 [(2, 142), (0, (a : Int)), (0, (b : Int))] M (R1 1 (fun x M' => x = dvl V h a b (mm a b) + dvl V h b a (mm b a) ∧ Sb X237 M M')) := by
  show ax_G L X SH 4 238 0 [(2, 142), (0, (a : Int)), (0, (b : Int))] [] M _
  have hC := at238
  have hw : wok X237 = true := by decide +kernel
  have hwr : rok X237 := rokB (by decide +kernel)
  have hS : Sb X237 M M := Sb.refl
  have hbc := hW.1.2.2.2.2
  have b1 := dvl_b hW hSW hPW ha hb (hm a b (by omega) (by omega)).2
  have b2 := dvl_b hW hSW hPW hb ha (hm b a (by omega) (by omega)).2
  unfold bnd at b1 b2
  have hm1 : ∀ M1, Sb X237 M M1 → ∀ a b, a < 8 → b < 8 → M1 193 (8 * a + b) = mm a b ∧ 0 ≤ mm a b ∧ mm a b ≤ 9 := fun M1 hS a b ha hb => ⟨(hS _ _ rfl).trans (hm a b ha hb).1, (hm a b ha hb).2⟩
  refine g3 hC rfl rfl ?_
  refine g3 hC rfl rfl ?_
  refine g3 hC rfl rfl ?_
  refine c1 hC rfl rfl rfl (Nat.le_of_ble_eq_true rfl) (Nat.le_of_ble_eq_true rfl) (mayR k237 rfl) (m237 (hS.fix hw hF) (hV.sb hS hwr) hW hSW hPW (hm1 _ hS) (by omega) (by omega)) (Nat.le_of_ble_eq_true rfl) (fun x M2 hr => ?_)
  obtain ⟨rfl, hr⟩ := hr; have hS := hS.then hr rfl
  refine g3 hC rfl rfl ?_
  refine g3 hC rfl rfl ?_
  refine g3 hC rfl rfl ?_
  refine c1 hC rfl rfl rfl (Nat.le_of_ble_eq_true rfl) (Nat.le_of_ble_eq_true rfl) (mayR k237 rfl) (m237 (hS.fix hw hF) (hV.sb hS hwr) hW hSW hPW (hm1 _ hS) (by omega) (by omega)) (Nat.le_of_ble_eq_true rfl) (fun x M2 hr => ?_)
  obtain ⟨rfl, hr⟩ := hr; have hS := hS.then hr rfl
  refine g7a hC rfl ⟨by omega, by omega⟩ ?_
  refine ret1 hC rfl rfl ?_
  exact ⟨rfl, hS⟩
theorem gXDE : gok XDE = true := by decide +kernel
theorem wXDE : wok XDE = true := by decide +kernel
theorem m239 (hF : Fix M) (hG : GG n h M) {M1 : ax_M} (hS0 : Sb WD M M1) {a b : Int} : ax_Ev L X SH 7 239 [(2, 142), (0, a), (0, b)] M1 (R1 1 (fun x M' => ((tw M h a b ∧ x = dvl M h a.toNat b.toNat (mt M h (-1) (-1) a.toNat b.toNat) + dvl M h b.toNat a.toNat (mt M h (-1) (-1) b.toNat a.toNat)) ∨ (¬ tw M h a b ∧ x = -1000000000000000)) ∧ Sb XDE M1 M')) := by
  show ax_G L X SH 7 239 0 [(2, 142), (0, a), (0, b)] [] M1 _
  have hC := at239
  have hw := wXDE
  have hF1 := hS0.fix wWD hF
  have hwr : rok XDE := rokB (by decide +kernel)
  have hV1 := hG.2.2.2.1.sb hS0 rWD
  have hS : Sb XDE M1 M1 := Sb.refl
  have hb := hG.1.1.2.2.2.2
  by_cases z : tw M h a b
  · obtain ⟨k, rfl⟩ : ∃ k : Nat, a = (k : Int) := ⟨a.toNat, by have := z.1; omega⟩
    obtain ⟨q, rfl⟩ : ∃ k : Nat, b = (k : Int) := ⟨b.toNat, by have := z.2.1; omega⟩
    have hk := z.1
    have hq := z.2.1
    refine g3 hC rfl rfl ?_
    refine g3 hC rfl rfl ?_
    refine g3 hC rfl rfl ?_
    refine c1 hC rfl rfl rfl (Nat.le_of_ble_eq_true rfl) (Nat.le_of_ble_eq_true rfl) (mayR k223 rfl) (m223 hF1 hV1 hG.1) (Nat.le_of_ble_eq_true rfl) (fun x M2 hr => ?_)
    obtain ⟨hx, hr⟩ := hr; replace hr := hr.symm; subst hr; have hx1 : x = 1 := by rcases hx with y | y; exact y.1; exact absurd z y.2
    refine g12n hC rfl (fun h4 => ?_) (fun h4 => (by omega))
    refine g3 hC rfl rfl ?_
    refine c0 hC rfl rfl rfl (Nat.le_of_ble_eq_true rfl) (Nat.le_of_ble_eq_true rfl) (mayR k208 rfl) (m208' ‹Fix M› hG hS0) (Nat.le_of_ble_eq_true rfl) (fun M2 hr => ?_)
    obtain ⟨hr0, hrr⟩ := hr; have hS := hS.then hr0 rfl
    refine g3 hC rfl rfl ?_
    refine g3 hC rfl rfl ?_
    refine g3 hC rfl rfl ?_
    refine c1 hC rfl rfl rfl (Nat.le_of_ble_eq_true rfl) (Nat.le_of_ble_eq_true rfl) (mayR k238 rfl) (m238 (hS.fix hw hF1) (hV1.sb hS hwr) hG.1 hG.2.1 hG.2.2.1 (mm := mt M h (-1) (-1)) (fun a b ha hb => ⟨hrr.2.2.2 a b ha hb, mt_b⟩) (by omega) (by omega)) (Nat.le_of_ble_eq_true rfl) (fun x M2 hr => ?_)
    obtain ⟨rfl, hr⟩ := hr; have hS := hS.then hr rfl
    refine ret1 hC rfl rfl ?_
    exact ⟨Or.inl ⟨z, rfl⟩, hS⟩
  · skip
    refine g3 hC rfl rfl ?_
    refine g3 hC rfl rfl ?_
    refine g3 hC rfl rfl ?_
    refine c1 hC rfl rfl rfl (Nat.le_of_ble_eq_true rfl) (Nat.le_of_ble_eq_true rfl) (mayR k223 rfl) (m223 hF1 hV1 hG.1) (Nat.le_of_ble_eq_true rfl) (fun x M2 hr => ?_)
    obtain ⟨hx, hr⟩ := hr; replace hr := hr.symm; subst hr; have hx1 : x = 0 := by rcases hx with y | y; exact absurd y.2 z; exact y.1
    refine g12n hC rfl (fun h4 => (by omega)) (fun h4 => ?_)
    refine g1 hC rfl ?_
    refine ret1 hC rfl rfl ?_
    exact ⟨Or.inr ⟨z, rfl⟩, hS⟩
theorem op20 (hR : Rel n M) {a b : Int} : OP L X n 1 120 239 [(2, 0), (0, a), (0, b)] [(2, 142), (0, a), (0, b)] M := by
  have hR0 := hR
  obtain ⟨h, hh, hF, hG⟩ := hR
  have hG0 := hG
  obtain ⟨hW, hSW, hPW, hRV, hGT, hGN, hGM, hGH, hGS, hGX⟩ := hG
  have hV : HV M h M := HV.refl
  have hH3 : M 0 3 = (h : Int) := hGX.1.1
  have key : ∃ F, ∀ x, ((tw M h a b ∧ x = dvl M h a.toNat b.toNat (mt M h (-1) (-1) a.toNat b.toNat) + dvl M h b.toNat a.toNat (mt M h (-1) (-1) b.toNat a.toNat)) ∨ (¬ tw M h a b ∧ x = -1000000000000000)) → x = F := by
    by_cases z : tw M h a b
    · exact ⟨_, fun x hx => by rcases hx with y | y; exact y.2; exact absurd z y.1⟩
    · exact ⟨_, fun x hx => by rcases hx with y | y; exact absurd y.1 z; exact y.2⟩
  obtain ⟨F, hf⟩ := key
  refine OP.sc (F := F) hR0 gWD gXDE wWD wXDE ((m120 hF hh hG0).imp ?_) (fun M1 hS => (m239 hF hG0 hS).imp ?_) (by decide) (by decide)
  · rintro r M' ⟨x, e, hx, hs⟩; exact ⟨x, e, hf x hx, hs⟩
  · rintro r M' ⟨x, e, hx, hs⟩; exact ⟨x, e, hf x hx, hs⟩
end WID
