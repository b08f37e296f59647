section DRS
variable {L : Nat} {X : Nat → Int} {M V : ax_M} {h n : Nat}
def VV (V : ax_M) (h k : Nat) : ax_M := it (fun _ V => nxD V h (-1)) k V
theorem VV_s {k : Nat} : VV V h (k + 1) = nxD (VV V h k) h (-1) := rfl
theorem VV_ok (hh : h = 9 ∨ h = 27) (hW : HW V h) (hSW : SW V) (hPW : PW V h) : ∀ k, HW (VV V h k) h ∧ SW (VV V h k) ∧ PW (VV V h k) h := by
  intro k
  induction k with
  | zero => exact ⟨hW, hSW, hPW⟩
  | succ k ih => rw [VV_s]; exact ⟨nxHW hh ih.1, nxSW ih.2.1, nxPW hh ih.2.2⟩
theorem VV_d : ∀ k : Nat, V 45 0 + k ≤ 999 → VV V h k 45 0 = V 45 0 + k := by
  intro k
  induction k with
  | zero => intro _; show V 45 0 = V 45 0 + ((0 : Nat) : Int); omega
  | succ k ih => intro hk; rw [VV_s, nx_45, ih (by omega)]; omega
theorem VV_sb : ∀ k, Sb W70 V (VV V h k) := by
  intro k
  induction k with
  | zero => exact Sb.refl
  | succ k ih => rw [VV_s]; exact ih.then nx_sb rfl
theorem VV_o {a q : Nat} (h5 : a ≠ 45) (h8 : a ≠ 48) : ∀ k, VV V h k a q = V a q := by
  intro k
  induction k with
  | zero => rfl
  | succ k ih => rw [VV_s, nx_ne h5 h8]; exact ih
theorem sgC_b {mm : Nat → Nat → Int} (hW : HW V h) : 0 ≤ sgC V h mm ∧ sgC V h mm ≤ 64 := by
  have hb := hW.1.2.2.2.2
  unfold sgC
  have := sumI_b (f := fun a => sumI (fun k => sgn V h mm a (a + 1 + k)) (nC V h - 1 - a)) (b := 8) (by decide) (nC V h) (fun k _ => sgn_s1 _ (by omega))
  omega
abbrev sgV (V : ax_M) (h k : Nat) : Int := sgRr (VV V h k) h (mt (VV V h k) h (-1) (-1))
theorem sgV_b (hh : h = 9 ∨ h = 27) (hW : HW V h) (hSW : SW V) (hPW : PW V h) {k : Nat} : 0 ≤ sgV V h k ∧ sgV V h k ≤ 64 := by
  show 0 ≤ sgRr (VV V h k) h (mt (VV V h k) h (-1) (-1)) ∧ sgRr (VV V h k) h (mt (VV V h k) h (-1) (-1)) ≤ 64
  rw [← sgE (fun a b => mt_s)]
  exact sgC_b (VV_ok hh hW hSW hPW k).1
theorem m146 (hF : Fix M) (hh : h = 9 ∨ h = 27) (hV : HV V h M) (hW : HW V h) (hSW : SW V) (hPW : PW V h) (hH3 : M 0 3 = (h : Int)) {N : Nat} (hN0 : N ≤ 30) : ax_Ev L X SH 7 146 [(2, 0), (0, (N : Int))] M (R1 0 (fun x M' => x = sumI (sgV V h) N ∧ Sb WH M M' ∧ HV (VV V h N) h M')) := by
  show ax_G L X SH 7 146 0 [(2, 0), (0, (N : Int)), (3, 0), (3, 0)] [] M _
  have hC := at146
  have hw : wok WH = true := by decide +kernel
  have hS : Sb WH M M := Sb.refl
  have l1 : ∀ (m k : Nat), k + m = N → ∀ ll M1, (ll = [(2, 0), (0, (N : Int)), (0, sumI (sgV V h) k), (0, (k : Int))] ∧ Sb WH M M1 ∧ HV (VV V h k) h M1) → ax_G L X SH 7 146 4 ll [] M1 (R1 0 (fun x M' => x = sumI (sgV V h) N ∧ Sb WH M M' ∧ HV (VV V h N) h M')) := by
    refine lp ?_ ?_
    · rintro ll M1 ⟨rfl, hS, hV1⟩
      refine g3 hC rfl rfl ?_
      refine g3 hC rfl rfl ?_
      refine g13g hC rfl (fun h6 => ?_) (fun h6 => (by omega))
      refine g3 hC rfl rfl ?_
      refine ret1 hC rfl rfl ?_
      exact ⟨rfl, hS, hV1⟩
    · rintro k hk ll M1 ⟨rfl, hS, hV1⟩ hnext
      obtain ⟨o1, o2, o3⟩ := VV_ok hh hW hSW hPW k
      have b1 := sumI_b (f := sgV V h) (b := 64) (by decide) k (fun q _ => sgV_b hh hW hSW hPW)
      have b2 : 0 ≤ sgRr (VV V h k) h (mt (VV V h k) h (-1) (-1)) ∧ sgRr (VV V h k) h (mt (VV V h k) h (-1) (-1)) ≤ 64 := sgV_b hh hW hSW hPW
      have e : sumI (sgV V h) (k + 1) = sumI (sgV V h) k + sgV V h k := rfl
      have hwh : hok WD h := hokB (by decide +kernel) hh
      have hso : sok WD := sokB (by decide +kernel)
      refine g3 hC rfl rfl ?_
      refine g3 hC rfl rfl ?_
      refine g13g hC rfl (fun h6 => (by omega)) (fun h6 => ?_)
      refine g3 hC rfl rfl ?_
      refine g0 hC rfl ?_
      refine g13g hC rfl (fun h9 => (by omega)) (fun h9 => ?_)
      refine g3 hC rfl rfl ?_
      refine g19 hC rfl rfl (Nat.le_of_ble_eq_true rfl) rfl ((hS.fix hw hF).g rfl) ?_
      refine g3 hC rfl rfl ?_
      refine g19 hC rfl rfl (Nat.le_of_ble_eq_true rfl) rfl ((hS _ _ rfl).trans hH3) ?_
      refine g3 hC rfl rfl ?_
      refine g19 hC rfl rfl (Nat.le_of_ble_eq_true rfl) rfl ((hS.fix hw hF).g rfl) ?_
      refine g0 hC rfl ?_
      refine g0 hC rfl ?_
      refine c0 hC rfl rfl rfl (Nat.le_of_ble_eq_true rfl) (Nat.le_of_ble_eq_true rfl) rfl (m4 (hS.fix hw hF) hh hV1 o1 o2 o3) (Nat.le_of_ble_eq_true rfl) (fun M2 hr => ?_)
      obtain ⟨hr0, hrr⟩ := hr; have hS := hS.then hr0 rfl; have hV2 := hV1.sb hr0 hwh hso
      refine g3 hC rfl rfl ?_
      refine g3 hC rfl rfl ?_
      refine g19 hC rfl rfl (Nat.le_of_ble_eq_true rfl) rfl ((hS.fix hw hF).g rfl) ?_
      refine g3 hC rfl rfl ?_
      refine g19 hC rfl rfl (Nat.le_of_ble_eq_true rfl) rfl ((hS _ _ rfl).trans hH3) ?_
      refine g3 hC rfl rfl ?_
      refine g19 hC rfl rfl (Nat.le_of_ble_eq_true rfl) rfl ((hS.fix hw hF).g rfl) ?_
      refine c1 hC rfl rfl rfl (Nat.le_of_ble_eq_true rfl) (Nat.le_of_ble_eq_true rfl) rfl (m70 (hS.fix hw hF) hh hV2 o1 o2 hrr.2.2.2.2) (Nat.le_of_ble_eq_true rfl) (fun x M2 hr => ?_)
      obtain ⟨hx, hr1, hV3⟩ := hr; rw [sgE (mm := mt (VV V h k) h (-1) (-1)) (fun a b => mt_s)] at hx; subst hx; have hS := hS.then hr1 rfl
      refine g6a hC rfl ⟨by omega, by omega⟩ ?_
      refine s2 hC rfl rfl rfl ?_
      refine n3 hC rfl rfl ⟨by omega, by omega⟩ ?_
      refine g14 hC rfl ?_
      exact hnext _ _ ⟨rfl, hS, hV3⟩
  refine g0 hC rfl ?_
  refine s2 hC rfl rfl rfl ?_
  refine g0 hC rfl ?_
  refine s3 hC rfl rfl rfl ?_
  exact l1 N 0 (Nat.zero_add _) _ _ ⟨rfl, hS, hV⟩
theorem m212 (hF : Fix M) (hh : h = 9 ∨ h = 27) (hV : RV V h M) (hW : HW V h) (hSW : SW V) (hPW : PW V h) (hsm : M 142 69 = -1) (hwd : M 142 70 = -1) {N : Nat} (hN0 : N ≤ 30) (hd : V 45 0 + N ≤ 999) : ax_Ev L X SH 8 212 [(2, 142), (0, (N : Int))] M (R1 0 (fun x M' => x = sumI (sgV V h) N ∧ Sb XE M M' ∧ RV (VV V h N) h M')) := by
  show ax_G L X SH 8 212 0 [(2, 142), (0, (N : Int)), (3, 0), (3, 0)] [] M _
  have hC := at212
  have hw : wok XE = true := by decide +kernel
  have hS : Sb XE M M := Sb.refl
  have l1 : ∀ (m k : Nat), k + m = N → ∀ ll M1, (ll = [(2, 142), (0, (N : Int)), (0, sumI (sgV V h) k), (0, (k : Int))] ∧ Sb XE M M1 ∧ RV (VV V h k) h M1) → ax_G L X SH 8 212 4 ll [] M1 (R1 0 (fun x M' => x = sumI (sgV V h) N ∧ Sb XE M M' ∧ RV (VV V h N) h M')) := by
    refine lp ?_ ?_
    · rintro ll M1 ⟨rfl, hS, hV1⟩
      refine g3 hC rfl rfl ?_
      refine g3 hC rfl rfl ?_
      refine g13g hC rfl (fun h6 => ?_) (fun h6 => (by omega))
      refine g3 hC rfl rfl ?_
      refine ret1 hC rfl rfl ?_
      exact ⟨rfl, hS, hV1⟩
    · rintro k hk ll M1 ⟨rfl, hS, hV1⟩ hnext
      obtain ⟨o1, o2, o3⟩ := VV_ok hh hW hSW hPW k
      have b1 := sumI_b (f := sgV V h) (b := 64) (by decide) k (fun q _ => sgV_b hh hW hSW hPW)
      have b2 : 0 ≤ sgRr (VV V h k) h (mt (VV V h k) h (-1) (-1)) ∧ sgRr (VV V h k) h (mt (VV V h k) h (-1) (-1)) ≤ 64 := sgV_b hh hW hSW hPW
      have e : sumI (sgV V h) (k + 1) = sumI (sgV V h) k + sgV V h k := rfl
      have e45 := VV_d (V := V) (h := h) k (by omega)
      refine g3 hC rfl rfl ?_
      refine g3 hC rfl rfl ?_
      refine g13g hC rfl (fun h6 => (by omega)) (fun h6 => ?_)
      refine g3 hC rfl rfl ?_
      refine g3 hC rfl rfl ?_
      refine c1 hC rfl rfl rfl (Nat.le_of_ble_eq_true rfl) (Nat.le_of_ble_eq_true rfl) (mayR k211 rfl) (m211 (hS.fix hw hF) hh hV1 o1 o2 o3 ((hS 142 69 rfl).trans hsm) ((hS 142 70 rfl).trans hwd) (by omega)) (Nat.le_of_ble_eq_true rfl) (fun x M2 hr => ?_)
      obtain ⟨rfl, hr1, hV3⟩ := hr; have hS := hS.then hr1 rfl
      refine g6a hC rfl ⟨by omega, by omega⟩ ?_
      refine s2 hC rfl rfl rfl ?_
      refine n3 hC rfl rfl ⟨by omega, by omega⟩ ?_
      refine g14 hC rfl ?_
      exact hnext _ _ ⟨rfl, hS, hV3⟩
  refine g0 hC rfl ?_
  refine s2 hC rfl rfl rfl ?_
  refine g0 hC rfl ?_
  refine s3 hC rfl rfl rfl ?_
  exact l1 N 0 (Nat.zero_add _) _ _ ⟨rfl, hS, hV⟩
theorem m145 (hF : Fix M) (hd : 0 ≤ M 45 0 ∧ M 45 0 ≤ 999) {a : Int} (ha : 0 ≤ a) : ax_Ev L X SH 0 145 [(2, 0), (0, a)] M (R1 0 (fun x M' => x = (if a ≤ 30 ∧ M 45 0 + a ≤ 999 then 1 else 0) ∧ M' = M)) := by
  show ax_G L X SH 0 145 0 [(2, 0), (0, a)] [] M _
  have hC := at145
  have hw := wX0
  have hS : Sb X0 M M := Sb.refl
  refine g3 hC rfl rfl ?_
  refine g0 hC rfl ?_
  refine g13t hC rfl (fun h2 => ?_) (fun h2 => ?_)
  ·
    refine g0 hC rfl ?_
    refine ret3 hC rfl ⟨by omega, by omega⟩ ?_
    exact ⟨by rw [if_neg (by omega)], rfl⟩
  ·
    refine g3 hC rfl rfl ?_
    refine g19 hC rfl rfl (Nat.le_of_ble_eq_true rfl) rfl ((hS.fix hw hF).g rfl) ?_
    refine g19 hC rfl rfl (Nat.le_of_ble_eq_true rfl) rfl (rfl : M 45 0 = M 45 0) ?_
    refine g3 hC rfl rfl ?_
    refine g6a hC rfl ⟨by omega, by omega⟩ ?_
    refine g0 hC rfl ?_
    refine g13t hC rfl (fun h9 => ?_) (fun h9 => ?_)
    ·
      refine g0 hC rfl ?_
      refine ret3 hC rfl ⟨by omega, by omega⟩ ?_
      exact ⟨by rw [if_neg (by omega)], rfl⟩
    ·
      refine g0 hC rfl ?_
      refine g14 hC rfl ?_
      refine ret3 hC rfl ⟨by omega, by omega⟩ ?_
      exact ⟨by rw [if_pos (by omega)], rfl⟩
theorem m215 (hF : Fix M) (hd : 0 ≤ M 185 0 ∧ M 185 0 ≤ 999) {a l u : Int} (hl : 0 ≤ l) (hu : u ≤ 1000) : ax_Ev L X SH 1 215 [(2, 142), (0, a), (0, l), (0, u)] M (R1 0 (fun x M' => x = (if (l ≤ a ∧ a ≤ u) ∧ M 185 0 + a ≤ 999 then 1 else 0) ∧ M' = M)) := by
  show ax_G L X SH 1 215 0 [(2, 142), (0, a), (0, l), (0, u)] [] M _
  have hC := at215
  have hw := wX0
  have hS : Sb X0 M M := Sb.refl
  by_cases z : l ≤ a ∧ a ≤ u
  · skip
    refine g3 hC rfl rfl ?_
    refine g9 hC rfl ?_
    refine g3 hC rfl rfl ?_
    refine g9 hC rfl ?_
    refine g3 hC rfl rfl ?_
    refine g9 hC rfl ?_
    refine c1 hC rfl rfl rfl (Nat.le_of_ble_eq_true rfl) (Nat.le_of_ble_eq_true rfl) (mayS k153 rfl) (m153) (Nat.le_of_ble_eq_true rfl) (fun x M2 hr => ?_)
    obtain ⟨rfl, hr⟩ := hr; replace hr := hr.symm; subst hr; rw [if_pos z]
    refine g12e hC rfl (fun h7 => (by omega)) (fun h7 => ?_)
    refine g3 hC rfl rfl ?_
    refine g19 hC rfl sh142 (flt12 rfl) ft12_54 ((hS.fix hw hF).g fx_142_54) ?_
    refine g0 hC rfl ?_
    refine r21 (0) hC rfl (by omega) sh185 (Or.inl rfl) (by omega) rfl ?_
    refine g3 hC rfl rfl ?_
    refine g6a hC rfl ⟨by omega, by omega⟩ ?_
    refine g0 hC rfl ?_
    refine g13t hC rfl (fun h15 => ?_) (fun h15 => ?_)
    ·
      refine g0 hC rfl ?_
      refine ret3 hC rfl ⟨by omega, by omega⟩ ?_
      exact ⟨by rw [if_neg (by omega)], rfl⟩
    ·
      refine g0 hC rfl ?_
      refine g14 hC rfl ?_
      refine ret3 hC rfl ⟨by omega, by omega⟩ ?_
      exact ⟨by rw [if_pos (by omega)], rfl⟩
  · skip
    refine g3 hC rfl rfl ?_
    refine g9 hC rfl ?_
    refine g3 hC rfl rfl ?_
    refine g9 hC rfl ?_
    refine g3 hC rfl rfl ?_
    refine g9 hC rfl ?_
    refine c1 hC rfl rfl rfl (Nat.le_of_ble_eq_true rfl) (Nat.le_of_ble_eq_true rfl) (mayS k153 rfl) (m153) (Nat.le_of_ble_eq_true rfl) (fun x M2 hr => ?_)
    obtain ⟨rfl, hr⟩ := hr; replace hr := hr.symm; subst hr; rw [if_neg z]
    refine g12e hC rfl (fun h7 => ?_) (fun h7 => (by omega))
    refine g0 hC rfl ?_
    refine ret3 hC rfl ⟨by omega, by omega⟩ ?_
    exact ⟨by rw [if_neg (fun w => z w.1)], rfl⟩
theorem m247 (hF : Fix M) {k : Nat} (hk : k < 6) (hb : 0 ≤ M 144 k ∧ M 144 k ≤ 1000000) : ax_Ev L X SH 0 247 [(2, 142), (0, (k : Int))] M (R1 0 (fun x M' => x = -1 ∧ M' = ax_up M 144 k (M 144 k + 1))) := by
  show ax_G L X SH 0 247 0 [(2, 142), (0, (k : Int))] [] M _
  have hC := at247
  have hw : wok XR = true := by decide +kernel
  have hS : Sb XR M M := Sb.refl
  refine g3 hC rfl rfl ?_
  refine g19 hC rfl sh142 (flt12 rfl) ft12_9 ((hS.fix hw hF).g fx_142_9) ?_
  refine g3 hC rfl rfl ?_
  refine g17 hC rfl (by decide) ?_
  refine r21 (k) hC rfl (by omega) sh144 (Or.inl rfl) (by omega) rfl ?_
  refine g0 hC rfl ?_
  refine g6a hC rfl ⟨by omega, by omega⟩ ?_
  refine r22s (k) hC rfl (by omega) sh144 (by omega) rfl hS rfl (fun hS => ?_)
  refine g0 hC rfl ?_
  refine ret1 hC rfl rfl ?_
  exact ⟨rfl, rfl⟩
theorem m129 (hF : Fix M) (hh : h = 9 ∨ h = 27) (hG : GG n h M) (hn : n ≤ 1000) {a : Int} : ax_Ev L X SH 9 129 [(2, 0), (0, a)] M (R1 0 (fun x M' => (¬ ((1 ≤ a ∧ a ≤ 30) ∧ M 45 0 + a ≤ 999) ∧ x = -1 ∧ M' = ax_up M 140 3 (M 140 3 + 1)) ∨ (((1 ≤ a ∧ a ≤ 30) ∧ M 45 0 + a ≤ 999) ∧ x = sumI (sgV M h) a.toNat ∧ ∃ Ma, Sb WA M Ma ∧ ((∀ b, b ≠ 51 + hR M → b ≠ 49 → Ma b = M b) ∧ (∀ i, i < 44 → Ma (51 + hR M) i = CS M i) ∧ Ma 49 1 = (((hR M + 1) % 20 : Nat) : Int) ∧ Ma 49 2 = ((min 20 (hN M + 1) : Nat) : Int)) ∧ Sb WH Ma M' ∧ HV (VV M h a.toNat) h M'))) := by
  show ax_G L X SH 9 129 0 [(2, 0), (0, a)] [] M _
  have hC := at129
  have hw : wok WA = true := by decide +kernel
  have hS : Sb WA M M := Sb.refl
  have hV : HV M h M := HV.refl
  have hH3 : M 0 3 = (h : Int) := hG.2.2.2.2.2.2.2.2.2.1.1
  have hW := hG.1
  have hs1 := hG.2.1.1
  have hN3 := hG.2.2.2.2.2.1 3 (by decide)
  have hgh := hG.2.2.2.2.2.2.2.1
  by_cases z : (1 ≤ a ∧ a ≤ 30) ∧ M 45 0 + a ≤ 999
  · obtain ⟨k, rfl⟩ : ∃ k : Nat, a = (k : Int) := ⟨a.toNat, by omega⟩
    refine g3 hC rfl rfl ?_
    refine g0 hC rfl ?_
    refine g13l hC rfl (fun h2 => (by omega)) (fun h2 => ?_)
    refine g3 hC rfl rfl ?_
    refine g3 hC rfl rfl ?_
    refine c1 hC rfl rfl rfl (Nat.le_of_ble_eq_true rfl) (Nat.le_of_ble_eq_true rfl) rfl (m145 hF hs1 (by omega)) (Nat.le_of_ble_eq_true rfl) (fun x M2 hr => ?_)
    obtain ⟨rfl, hr⟩ := hr; replace hr := hr.symm; subst hr; rw [if_pos ⟨z.1.2, z.2⟩]
    refine g12n hC rfl (fun h6 => ?_) (fun h6 => (by omega))
    refine g3 hC rfl rfl ?_
    refine g19 hC rfl rfl (Nat.le_of_ble_eq_true rfl) rfl ((hS.fix hw hF).g rfl) ?_
    refine g3 hC rfl rfl ?_
    refine g19 hC rfl rfl (Nat.le_of_ble_eq_true rfl) rfl ((hS.fix hw hF).g rfl) ?_
    refine c0 hC rfl rfl rfl (Nat.le_of_ble_eq_true rfl) (Nat.le_of_ble_eq_true rfl) rfl (m31 hF ⟨hgh.1.1, hgh.1.2.1⟩ ⟨hgh.2.1.1, hgh.2.1.2.1⟩) (Nat.le_of_ble_eq_true rfl) (fun M2 hr => ?_)
    obtain ⟨hr0, hra⟩ := hr; have hS := hS.then hr0 rfl
    refine g3 hC rfl rfl ?_
    refine g3 hC rfl rfl ?_
    refine c1 hC rfl rfl rfl (Nat.le_of_ble_eq_true rfl) (Nat.le_of_ble_eq_true rfl) rfl (m146 (hS.fix hw hF) hh (hV.sb hS (hokB (by decide +kernel) hh) (sokB (by decide +kernel))) hW hG.2.1 hG.2.2.1 ((hS 0 3 rfl).trans hH3) (by omega)) (Nat.le_of_ble_eq_true rfl) (fun x M2 hr => ?_)
    obtain ⟨rfl, hr1, hr2⟩ := hr
    refine ret1 hC rfl rfl ?_
    exact Or.inr ⟨z, rfl, _, hr0, hra, hr1, hr2⟩
  · by_cases y : 1 ≤ a
    · skip
      refine g3 hC rfl rfl ?_
      refine g0 hC rfl ?_
      refine g13l hC rfl (fun h2 => (by omega)) (fun h2 => ?_)
      refine g3 hC rfl rfl ?_
      refine g3 hC rfl rfl ?_
      refine c1 hC rfl rfl rfl (Nat.le_of_ble_eq_true rfl) (Nat.le_of_ble_eq_true rfl) rfl (m145 hF hs1 (by omega)) (Nat.le_of_ble_eq_true rfl) (fun x M2 hr => ?_)
      obtain ⟨rfl, hr⟩ := hr; replace hr := hr.symm; subst hr; rw [if_neg (by omega)]
      refine g12n hC rfl (fun h6 => (by omega)) (fun h6 => ?_)
      refine g3 hC rfl rfl ?_
      refine g0 hC rfl ?_
      refine c1 hC rfl rfl rfl (Nat.le_of_ble_eq_true rfl) (Nat.le_of_ble_eq_true rfl) rfl (m138 (k := 3) hF (by decide) ⟨hN3.2.1, by omega⟩) (Nat.le_of_ble_eq_true rfl) (fun x M2 hr => ?_)
      obtain ⟨rfl, hr⟩ := hr
      refine ret1 hC rfl rfl ?_
      exact Or.inl ⟨z, rfl, hr⟩
    · skip
      refine g3 hC rfl rfl ?_
      refine g0 hC rfl ?_
      refine g13l hC rfl (fun h2 => ?_) (fun h2 => (by omega))
      refine g3 hC rfl rfl ?_
      refine g0 hC rfl ?_
      refine c1 hC rfl rfl rfl (Nat.le_of_ble_eq_true rfl) (Nat.le_of_ble_eq_true rfl) rfl (m138 (k := 3) hF (by decide) ⟨hN3.2.1, by omega⟩) (Nat.le_of_ble_eq_true rfl) (fun x M2 hr => ?_)
      obtain ⟨rfl, hr⟩ := hr
      refine ret1 hC rfl rfl ?_
      exact Or.inl ⟨z, rfl, hr⟩
theorem m259 (hF : Fix M) (hh : h = 9 ∨ h = 27) (hV : RV V h M) (hW : HW V h) (hSW : SW V) (hPW : PW V h) (hsm : M 142 69 = -1) (hwd : M 142 70 = -1) (hN3 : 0 ≤ M 144 3 ∧ M 144 3 ≤ 1000000) {r q : Nat} (hr1 : M 142 83 = (r : Int) ∧ r < 20) (hn1 : M 142 82 = (q : Int) ∧ q ≤ 20) {a : Int} : ax_Ev L X SH 9 259 [(2, 142), (0, a)] M (R1 0 (fun x M' => (¬ ((1 ≤ a ∧ a ≤ 30) ∧ V 45 0 + a ≤ 999) ∧ x = -1 ∧ M' = ax_up M 144 3 (M 144 3 + 1)) ∨ (((1 ≤ a ∧ a ≤ 30) ∧ V 45 0 + a ≤ 999) ∧ x = sumI (sgV V h) a.toNat ∧ ∃ Ma, Sb XK M Ma ∧ ((∀ k, Ma 203 k = if 44 * ((r + 1) % 20) ≤ k ∧ k < 44 * ((r + 1) % 20) + 44 then M 185 (k - 44 * ((r + 1) % 20)) else M 203 k) ∧ Ma 142 83 = (((r + 1) % 20 : Nat) : Int) ∧ Ma 142 82 = ((min 20 (q + 1) : Nat) : Int)) ∧ Sb XE Ma M' ∧ RV (VV V h a.toNat) h M'))) := by
  show ax_G L X SH 9 259 0 [(2, 142), (0, a)] [] M _
  have hC := at259
  have hw : wok XK = true := by decide +kernel
  have hS : Sb XK M M := Sb.refl
  have hs1 := hSW.1
  have e0 : M 185 0 = V 45 0 := hV.2.2.2.2.1.1
  by_cases z : (1 ≤ a ∧ a ≤ 30) ∧ V 45 0 + a ≤ 999
  · obtain ⟨k, rfl⟩ : ∃ k : Nat, a = (k : Int) := ⟨a.toNat, by omega⟩
    refine g3 hC rfl rfl ?_
    refine g3 hC rfl rfl ?_
    refine g0 hC rfl ?_
    refine g0 hC rfl ?_
    refine c1 hC rfl rfl rfl (Nat.le_of_ble_eq_true rfl) (Nat.le_of_ble_eq_true rfl) (mayR k215 rfl) (m215 hF (by rw [e0]; exact hs1) (by decide) (by decide)) (Nat.le_of_ble_eq_true rfl) (fun x M2 hr => ?_)
    obtain ⟨rfl, hr⟩ := hr; replace hr := hr.symm; subst hr; rw [e0, if_pos z]
    refine g12n hC rfl (fun h5 => ?_) (fun h5 => (by omega))
    refine g3 hC rfl rfl ?_
    refine c0 hC rfl rfl rfl (Nat.le_of_ble_eq_true rfl) (Nat.le_of_ble_eq_true rfl) (mayR k254 rfl) (m254 hF hr1 hn1) (Nat.le_of_ble_eq_true rfl) (fun M2 hr => ?_)
    obtain ⟨hr0, hra⟩ := hr; have hS := hS.then hr0 rfl
    refine g3 hC rfl rfl ?_
    refine g3 hC rfl rfl ?_
    refine c1 hC rfl rfl rfl (Nat.le_of_ble_eq_true rfl) (Nat.le_of_ble_eq_true rfl) (mayR k212 rfl) (m212 (hS.fix hw hF) hh (hV.sb hS (rokB (by decide +kernel))) hW hSW hPW ((hS 142 69 rfl).trans hsm) ((hS 142 70 rfl).trans hwd) (by omega) (by omega)) (Nat.le_of_ble_eq_true rfl) (fun x M2 hr => ?_)
    obtain ⟨rfl, hr2, hr3⟩ := hr
    refine ret1 hC rfl rfl ?_
    exact Or.inr ⟨z, rfl, _, hr0, hra, hr2, hr3⟩
  · skip
    refine g3 hC rfl rfl ?_
    refine g3 hC rfl rfl ?_
    refine g0 hC rfl ?_
    refine g0 hC rfl ?_
    refine c1 hC rfl rfl rfl (Nat.le_of_ble_eq_true rfl) (Nat.le_of_ble_eq_true rfl) (mayR k215 rfl) (m215 hF (by rw [e0]; exact hs1) (by decide) (by decide)) (Nat.le_of_ble_eq_true rfl) (fun x M2 hr => ?_)
    obtain ⟨rfl, hr⟩ := hr; replace hr := hr.symm; subst hr; rw [e0, if_neg z]
    refine g12n hC rfl (fun h5 => (by omega)) (fun h5 => ?_)
    refine g3 hC rfl rfl ?_
    refine g0 hC rfl ?_
    refine c1 hC rfl rfl rfl (Nat.le_of_ble_eq_true rfl) (Nat.le_of_ble_eq_true rfl) (mayR k247 rfl) (m247 (k := 3) hF (by decide) hN3) (Nat.le_of_ble_eq_true rfl) (fun x M2 hr => ?_)
    obtain ⟨rfl, hr⟩ := hr
    refine ret1 hC rfl rfl ?_
    exact Or.inl ⟨z, rfl, hr⟩
theorem drills_rel {W : ax_W} {M1 M2 Ma Mb V2 : ax_M} {N : Nat} (hF : Fix M) (hh : h = 9 ∨ h = 27) (hG : GG n h M) (hsa : Sb WA M Ma) (f1 : ∀ b, b ≠ 51 + hR M → b ≠ 49 → Ma b = M b) (f2 : ∀ i, i < 44 → Ma (51 + hR M) i = CS M i) (f3 : Ma 49 1 = (((hR M + 1) % 20 : Nat) : Int)) (f4 : Ma 49 2 = ((min 20 (hN M + 1) : Nat) : Int)) (hsh : Sb WHs Ma M1) (hsb : Sb XK M1 Mb) (e1 : ∀ k, Mb 203 k = if 44 * ((hR M + 1) % 20) ≤ k ∧ k < 44 * ((hR M + 1) % 20) + 44 then M1 185 (k - 44 * ((hR M + 1) % 20)) else M1 203 k) (e2 : Mb 142 83 = (((hR M + 1) % 20 : Nat) : Int)) (e3 : Mb 142 82 = ((min 20 (hN M + 1) : Nat) : Int)) (hse : Sb XEs Mb M2) (hV2 : HV V2 h M1) (hR2 : RV V2 h M2) (hSW2 : SW V2) (hZ : ∀ s, V2 47 s = M 47 s) (h69 : M2 142 69 = -1) (hseed : M2 142 84 = M2 0 16 ∧ 0 ≤ M2 0 16 ∧ M2 0 16 ≤ 2147483647) : Rel (n + 1) M2 := by
  have hT : Sb WXC M M2 := by
    have h1 : Sb XCH M1 M2 := (hsb.mono rfl).then hse rfl
    have h2 : Sb WCH M M1 := (hsa.mono rfl).then hsh rfl
    intro a k hk
    by_cases z : a = 142 ∧ k = 69
    · rw [z.1, z.2, h69]; exact hG.2.2.2.2.2.2.2.2.2.2.2.1.1.symm
    · have a1 : wb XCH a k = false := by
        cases u : wb XCH a k with
        | false => rfl
        | true =>
          exfalso
          have u2 : wb (WXC.1, (142, 69) :: WXC.2) a k = true := wle_use (W := XCH) rfl u
          unfold wb at u2 hk
          rw [Bool.or_eq_false_iff] at hk
          rw [List.any_cons, hk.1, hk.2, Bool.false_or, Bool.or_false, Bool.and_eq_true] at u2
          exact z ⟨(Nat.eq_of_beq_eq_true u2.1).symm, (Nat.eq_of_beq_eq_true u2.2).symm⟩
      have a2 : wb WCH a k = false := by
        cases u : wb WCH a k with
        | false => rfl
        | true => rw [wle_use (W := WCH) (W' := WXC) rfl u] at hk; cases hk
      rw [h1 a k a1, h2 a k a2]
  have hwh : hok WXC h := hokB (by decide +kernel) hh
  obtain ⟨n1, n2, n3, n4⟩ := nREq hT hwh
  have h185 : ∀ q, M1 185 q = M 185 q := fun q => by rw [hsh 185 q rfl, hsa 185 q rfl]
  have h203 : ∀ q, M1 203 q = M 203 q := fun q => by rw [hsh 203 q rfl, hsa 203 q rfl]
  have s5 : M2 45 0 = V2 45 0 := by rw [hse 45 0 rfl, hsb 45 0 rfl]; exact (hV2.2 0).1
  have s6 : ∀ q, M2 46 q = V2 46 q := fun q => by rw [hse 46 q rfl, hsb 46 q rfl]; exact (hV2.2 q).2.1
  have s7 : ∀ q, M2 47 q = V2 47 q := fun q => by rw [hse 47 q rfl, hsb 47 q rfl]; exact (hV2.2 q).2.2.1
  have s8 : ∀ q, M2 48 q = V2 48 q := fun q => by rw [hse 48 q rfl, hsb 48 q rfl]; exact (hV2.2 q).2.2.2
  have hK : RK (CS M2) (M2 185) := (RK.of (V := M) hSW2 hR2).cg (fun i hi => by unfold CS; rw [s5, s6, s7, s8]) (fun i hi => rfl)
  have hr := hG.2.2.2.2.2.2.2.1.1.2.1
  refine ⟨h, hh, hT.fix (by decide +kernel) hF, hG.st hh hT rfl rfl rfl (Or.inl rfl) (Or.inl ⟨rfl, by omega⟩) rfl ?_ rfl hK (Or.inr ?_)⟩
  · refine GH.add hG n2 (fun b b1 b2 b3 => funext fun q => ?_) (fun i hi => ?_) ?_ ?_ (fun k => ?_) ?_ ?_
    · rw [hse _ _ (wbo 51 71 rfl b1 b2), hsb _ _ (wbo 51 71 rfl b1 b2), hsh _ _ (wbo 51 71 rfl b1 b2), f1 b b3 (by omega)]
    · rw [hse _ _ (wbo 51 71 rfl (by omega) (by omega)), hsb _ _ (wbo 51 71 rfl (by omega) (by omega)), hsh _ _ (wbo 51 71 rfl (by omega) (by omega))]; exact f2 i hi
    · rw [hse 49 1 rfl, hsb 49 1 rfl, hsh 49 1 rfl]; exact f3
    · rw [hse 49 2 rfl, hsb 49 2 rfl, hsh 49 2 rfl]; exact f4
    · rw [hse 203 k rfl, e1 k, h185, h203]
    · rw [hse 142 83 rfl]; exact e2
    · rw [hse 142 82 rfl]; exact e3
  · obtain ⟨x1, x2, x3, x4, x5, x6⟩ := hG.2.2.2.2.2.2.2.2.2
    unfold GX
    rw [hT 0 3 rfl, hT 0 4 rfl, hT 0 14 rfl, hT 142 120 rfl, n2]
    refine ⟨x1, hseed, ⟨h69, by rw [hT 142 70 rfl]; exact x3.2⟩, fun s hs1 hs2 => ?_, x5, fun k hk hk2 => ?_⟩
    · rw [s7, hZ]; exact x4 s hs1 hs2
    · rw [hT 139 k rfl, hT 231 k rfl]; exact x6 k hk hk2
theorem op29 (hR0 : Rel n M) (hn : n ≤ 1000) {a : Int} : OP L X n 0 129 259 [(2, 0), (0, a)] [(2, 142), (0, a)] M := by
  have hR := hR0
  obtain ⟨h, hh, hF, hG⟩ := hR
  have hG0 := hG
  obtain ⟨hW, hSW, hPW, hRV, hGT, hGN, hGM, hGH, hGS, hGX⟩ := hG
  have hV : HV M h M := HV.refl
  have hH3 : M 0 3 = (h : Int) := hGX.1.1
  have hN3 := hGN 3 (by decide)
  obtain ⟨⟨b1, b2, b3⟩, ⟨b4, b5, b6⟩, b7, b8⟩ := hGH
  refine OP.tw (d' := 9) (m129 hF hh hG0 hn) (Q := fun x M1 y M2 => (¬ ((1 ≤ a ∧ a ≤ 30) ∧ M 45 0 + a ≤ 999) ∧ y = -1 ∧ M2 = ax_up M1 144 3 (M1 144 3 + 1)) ∨ (((1 ≤ a ∧ a ≤ 30) ∧ M 45 0 + a ≤ 999) ∧ y = sumI (sgV M h) a.toNat ∧ ∃ Ma, Sb XK M1 Ma ∧ ((∀ k, Ma 203 k = if 44 * ((Jvm.Pilot.CFireDrillLaw_law_r2865_e29a64.hR M + 1) % 20) ≤ k ∧ k < 44 * ((Jvm.Pilot.CFireDrillLaw_law_r2865_e29a64.hR M + 1) % 20) + 44 then M1 185 (k - 44 * ((Jvm.Pilot.CFireDrillLaw_law_r2865_e29a64.hR M + 1) % 20)) else M1 203 k) ∧ Ma 142 83 = (((Jvm.Pilot.CFireDrillLaw_law_r2865_e29a64.hR M + 1) % 20 : Nat) : Int) ∧ Ma 142 82 = ((min 20 (hN M + 1) : Nat) : Int)) ∧ Sb XE Ma M2 ∧ RV (VV M h a.toNat) h M2)) (fun x M1 hx => ?_) (fun x M1 y M2 hx hy => ?_) (by decide) (by decide)
  · rcases hx with ⟨-, -, rfl⟩ | ⟨-, -, Ma, hs, -, hs2, -⟩
    · have hs : Sb WR M (ax_up M 140 3 (M 140 3 + 1)) := Sb.refl.up rfl
      exact m259 (hs.fix (by decide +kernel) hF) hh (hRV.sb hs (rokB (by decide +kernel))) hW hSW hPW hGX.2.2.1.1 hGX.2.2.1.2 (by rw [hs 144 3 rfl]; omega) ⟨b3, b2⟩ ⟨b6, b5⟩
    · have hs : Sb WDR M M1 := (hs.mono rfl).then hs2 rfl
      exact m259 (hs.fix (by decide +kernel) hF) hh (hRV.sb hs (rokB (by decide +kernel))) hW hSW hPW ((hs 142 69 rfl).trans hGX.2.2.1.1) ((hs 142 70 rfl).trans hGX.2.2.1.2) (by rw [hs 144 3 rfl]; omega) ⟨(hs 142 83 rfl).trans b3, b2⟩ ⟨(hs 142 82 rfl).trans b6, b5⟩
  · rcases hx with ⟨x1, rfl, rfl⟩ | ⟨x1, rfl, Ma, hsa, ⟨f1, f2, f3, f4⟩, hsh, hV2⟩
    · rcases hy with ⟨-, y2, y3⟩ | ⟨y1, -⟩
      · rw [ax_up_ne (show (144 : Nat) ≠ 140 by decide)] at y3
        exact ⟨y2, relInc hR0 y3⟩
      · exact absurd y1 x1
    · rcases hy with ⟨y1, -⟩ | ⟨-, y2, Mb, hsb, ⟨e1, e2, e3⟩, hse, hR2⟩
      · exact absurd x1 y1
      · have hs1 : M2 142 69 = -1 := by rw [hse 142 69 rfl, hsb 142 69 rfl, hsh 142 69 rfl, hsa 142 69 rfl]; exact hGX.2.2.1.1
        have hs2 : M2 142 84 = M 142 84 := by rw [hse 142 84 rfl, hsb 142 84 rfl, hsh 142 84 rfl, hsa 142 84 rfl]
        have hs3 : M2 0 16 = M 0 16 := by rw [hse 0 16 rfl, hsb 0 16 rfl, hsh 0 16 rfl, hsa 0 16 rfl]
        exact ⟨y2, drills_rel (W := WH) (N := 0) hF hh hG0 hsa f1 f2 f3 f4 (hsh.mono rfl) hsb e1 e2 e3 (hse.mono rfl) hV2 hR2 (VV_ok hh hW hSW hPW _).2.1 (fun s => VV_o (by decide) (by decide) _) hs1 (by rw [hs2, hs3]; exact hGX.2.1)⟩
end DRS
