section SMD
variable {L : Nat} {X : Nat → Int} {M V : ax_M} {h n : Nat}
def stV (V : ax_M) (h s : Nat) (w : Int) : Int := if w = 0 then (sa V h s : Int) else if w = 1 then (sb V h s : Int) else if w = 2 then V (h + 6) s else if w = 3 then V 47 s else -1
theorem m107 (hF : Fix M) (hh : h = 9 ∨ h = 27) (hW : HW M h) (hH3 : M 0 3 = (h : Int)) {a w : Int} : ax_Ev L X SH 1 107 [(2, 0), (0, a), (0, w)] M (R1 0 (fun x M' => x = (if 0 ≤ a ∧ a < (nS M h : Int) then stV M h a.toNat w else -1) ∧ M' = M)) := by
  show ax_G L X SH 1 107 0 [(2, 0), (0, a), (0, w)] [] M _
  have hC := at107
  have hw := wX0
  have hwh : hok X0 h := hokB (by decide +kernel) hh
  have hS : Sb X0 M M := Sb.refl
  have hV : HV M h M := HV.refl
  have hb := hW.1.2.1.2
  by_cases z : 0 ≤ a ∧ a < (nS M h : Int)
  · obtain ⟨k, rfl⟩ : ∃ k : Nat, a = (k : Int) := ⟨a.toNat, by omega⟩
    rw [if_pos z]
    refine g3 hC rfl rfl ?_
    refine g3 hC rfl rfl ?_
    refine g19 hC rfl rfl (Nat.le_of_ble_eq_true rfl) rfl ((hS _ _ rfl).trans hH3) ?_
    refine g19 hC rfl (shH hh) (Nat.le_of_ble_eq_true rfl) rfl (rd1 hS hwh hV hW) ?_
    refine c1 hC rfl rfl rfl (Nat.le_of_ble_eq_true rfl) (Nat.le_of_ble_eq_true rfl) rfl (m140) (Nat.le_of_ble_eq_true rfl) (fun x M2 hr => ?_)
    obtain ⟨rfl, hr⟩ := hr; replace hr := hr.symm; subst hr; rw [if_pos (by omega)]
    refine g12n hC rfl (fun h5 => ?_) (fun h5 => (by omega))
    refine g3 hC rfl rfl ?_
    by_cases k9_0 : w = 0
    ·
      refine g15k (key := 0) (i' := 10) hC rfl rfl k9_0 rfl ?_
      refine g3 hC rfl rfl ?_
      refine g19 hC rfl rfl (Nat.le_of_ble_eq_true rfl) rfl ((hS _ _ rfl).trans hH3) ?_
      refine g19 hC rfl (shH hh) (Nat.le_of_ble_eq_true rfl) rfl ((hS.fix hw hF).h (v := 4) hh rfl rfl) ?_
      refine g3 hC rfl rfl ?_
      refine r21 (k) hC rfl (by omega) (shA (v := 4) hh rfl rfl) (Or.inl rfl) (by omega) (rdA hS hwh hV hW (by omega)) ?_
      refine ret1 hC rfl rfl ?_
      refine ⟨?_, rfl⟩; unfold stV; rw [if_pos (by omega)]; rfl
    by_cases k9_1 : w = 1
    ·
      refine g15k (key := 1) (i' := 16) hC rfl rfl k9_1 rfl ?_
      refine g3 hC rfl rfl ?_
      refine g19 hC rfl rfl (Nat.le_of_ble_eq_true rfl) rfl ((hS _ _ rfl).trans hH3) ?_
      refine g19 hC rfl (shH hh) (Nat.le_of_ble_eq_true rfl) rfl ((hS.fix hw hF).h (v := 5) hh rfl rfl) ?_
      refine g3 hC rfl rfl ?_
      refine r21 (k) hC rfl (by omega) (shA (v := 5) hh rfl rfl) (Or.inl rfl) (by omega) (rdB hS hwh hV hW (by omega)) ?_
      refine ret1 hC rfl rfl ?_
      refine ⟨?_, rfl⟩; unfold stV; rw [if_neg (by omega), if_pos (by omega)]; rfl
    by_cases k9_2 : w = 2
    ·
      refine g15k (key := 2) (i' := 22) hC rfl rfl k9_2 rfl ?_
      refine g3 hC rfl rfl ?_
      refine g19 hC rfl rfl (Nat.le_of_ble_eq_true rfl) rfl ((hS _ _ rfl).trans hH3) ?_
      refine g19 hC rfl (shH hh) (Nat.le_of_ble_eq_true rfl) rfl ((hS.fix hw hF).h (v := 6) hh rfl rfl) ?_
      refine g3 hC rfl rfl ?_
      refine r21 (k) hC rfl (by omega) (shA (v := 6) hh rfl rfl) (Or.inl rfl) (by omega) (rdi hS hwh hV 6 _ (by decide) (by decide) (by decide)) ?_
      refine ret1 hC rfl rfl ?_
      refine ⟨?_, rfl⟩; unfold stV; rw [if_neg (by omega), if_neg (by omega), if_pos (by omega)]; rfl
    by_cases k9_3 : w = 3
    ·
      refine g15k (key := 3) (i' := 28) hC rfl rfl k9_3 rfl ?_
      refine g3 hC rfl rfl ?_
      refine g19 hC rfl rfl (Nat.le_of_ble_eq_true rfl) rfl ((hS.fix hw hF).g rfl) ?_
      refine g19 hC rfl rfl (Nat.le_of_ble_eq_true rfl) rfl ((hS.fix hw hF).g rfl) ?_
      refine g3 hC rfl rfl ?_
      refine r21 (k) hC rfl (by omega) rfl (Or.inl rfl) (by omega) rfl ?_
      refine ret1 hC rfl rfl ?_
      refine ⟨?_, rfl⟩; unfold stV; rw [if_neg (by omega), if_neg (by omega), if_neg (by omega), if_pos (by omega)]; rfl
    refine g15d (i' := 34) hC rfl rfl (by show ¬ ((0 : Int) ≤ _ ∧ _ ≤ (3 : Int)); omega) rfl ?_
    refine g0 hC rfl ?_
    refine ret1 hC rfl rfl ?_
    refine ⟨?_, rfl⟩; unfold stV; rw [if_neg (by omega), if_neg (by omega), if_neg (by omega), if_neg (by omega)]
  · rw [if_neg z]
    refine g3 hC rfl rfl ?_
    refine g3 hC rfl rfl ?_
    refine g19 hC rfl rfl (Nat.le_of_ble_eq_true rfl) rfl ((hS _ _ rfl).trans hH3) ?_
    refine g19 hC rfl (shH hh) (Nat.le_of_ble_eq_true rfl) rfl (rd1 hS hwh hV hW) ?_
    refine c1 hC rfl rfl rfl (Nat.le_of_ble_eq_true rfl) (Nat.le_of_ble_eq_true rfl) rfl (m140) (Nat.le_of_ble_eq_true rfl) (fun x M2 hr => ?_)
    obtain ⟨rfl, hr⟩ := hr; replace hr := hr.symm; subst hr; rw [if_neg (by omega)]
    refine g12n hC rfl (fun h5 => (by omega)) (fun h5 => ?_)
    refine g0 hC rfl ?_
    refine ret1 hC rfl rfl ?_
    exact ⟨rfl, rfl⟩
theorem m220 (hF : Fix M) (hV : RV M h M) (hW : HW M h) {a w : Int} : ax_Ev L X SH 2 220 [(2, 142), (0, a), (0, w)] M (R1 0 (fun x M' => x = (if 0 ≤ a ∧ a < (nS M h : Int) then stV M h a.toNat w else -1) ∧ M' = M)) := by
  show ax_G L X SH 2 220 0 [(2, 142), (0, a), (0, w)] [] M _
  have hC := at220
  have hw := wX0
  have hwr := rX0
  have hS : Sb X0 M M := Sb.refl
  have hb := hW.1.2.1.2
  by_cases z : 0 ≤ a ∧ a < (nS M h : Int)
  · obtain ⟨k, rfl⟩ : ∃ k : Nat, a = (k : Int) := ⟨a.toNat, by omega⟩
    rw [if_pos z]
    have hk : k < nS M h := by omega
    by_cases y : 0 ≤ w ∧ w ≤ 2
    · obtain ⟨q, rfl⟩ : ∃ q : Nat, w = (q : Int) := ⟨w.toNat, by omega⟩
      have e : M 178 (30 + 3 * k + q) = stV M h k (q : Int) := by
        unfold stV
        have : q = 0 ∨ q = 1 ∨ q = 2 := by omega
        rcases this with rfl | rfl | rfl
        · exact rmA hS hwr hV hW hk
        · rw [show 30 + 3 * k + 1 = 31 + 3 * k by omega]; exact rmB hS hwr hV hW hk
        · rw [show 30 + 3 * k + 2 = 32 + 3 * k by omega]; exact rmW hS hwr hV hW hk
      refine g3 hC rfl rfl ?_
      refine g3 hC rfl rfl ?_
      refine c1 hC rfl rfl rfl (Nat.le_of_ble_eq_true rfl) (Nat.le_of_ble_eq_true rfl) (mayR k187 rfl) (m187 hF hV hW) (Nat.le_of_ble_eq_true rfl) (fun x M2 hr => ?_)
      obtain ⟨rfl, hr⟩ := hr; replace hr := hr.symm; subst hr; rw [if_pos (by omega)]
      refine g12n hC rfl (fun h3 => ?_) (fun h3 => (by omega))
      refine g3 hC rfl rfl ?_
      refine g9 hC rfl ?_
      refine g1 hC rfl ?_
      refine g1 hC rfl ?_
      refine c1 hC rfl rfl rfl (Nat.le_of_ble_eq_true rfl) (Nat.le_of_ble_eq_true rfl) (mayS k153 rfl) (m153) (Nat.le_of_ble_eq_true rfl) (fun x M2 hr => ?_)
      obtain ⟨rfl, hr⟩ := hr; replace hr := hr.symm; subst hr; rw [if_pos (by omega)]
      refine g12e hC rfl (fun h11 => (by omega)) (fun h11 => ?_)
      refine g3 hC rfl rfl ?_
      refine g19 hC rfl sh142 (flt12 rfl) ft12_44 ((hS.fix hw hF).g fx_142_44) ?_
      refine g0 hC rfl ?_
      refine g0 hC rfl ?_
      refine g3 hC rfl rfl ?_
      refine g6m hC rfl ⟨by omega, by omega⟩ ?_
      refine g6a hC rfl ⟨by omega, by omega⟩ ?_
      refine g3 hC rfl rfl ?_
      refine g6a hC rfl ⟨by omega, by omega⟩ ?_
      refine r21 (30 + 3 * k + q) hC rfl (by omega) sh178 (Or.inl rfl) (by omega) e ?_
      refine g14 hC rfl ?_
      refine ret1 hC rfl rfl ?_
      exact ⟨rfl, rfl⟩
    · have e5 : stV M h k w = if w = 3 then M 47 k else -1 := by
        unfold stV; rw [if_neg (by omega), if_neg (by omega), if_neg (by omega)]
      rw [show ((k : Int)).toNat = k from rfl, e5]
      refine g3 hC rfl rfl ?_
      refine g3 hC rfl rfl ?_
      refine c1 hC rfl rfl rfl (Nat.le_of_ble_eq_true rfl) (Nat.le_of_ble_eq_true rfl) (mayR k187 rfl) (m187 hF hV hW) (Nat.le_of_ble_eq_true rfl) (fun x M2 hr => ?_)
      obtain ⟨rfl, hr⟩ := hr; replace hr := hr.symm; subst hr; rw [if_pos (by omega)]
      refine g12n hC rfl (fun h3 => ?_) (fun h3 => (by omega))
      refine g3 hC rfl rfl ?_
      refine g9 hC rfl ?_
      refine g1 hC rfl ?_
      refine g1 hC rfl ?_
      refine c1 hC rfl rfl rfl (Nat.le_of_ble_eq_true rfl) (Nat.le_of_ble_eq_true rfl) (mayS k153 rfl) (m153) (Nat.le_of_ble_eq_true rfl) (fun x M2 hr => ?_)
      obtain ⟨rfl, hr⟩ := hr; replace hr := hr.symm; subst hr; rw [if_neg (by omega)]
      refine g12e hC rfl (fun h11 => ?_) (fun h11 => (by omega))
      refine g3 hC rfl rfl ?_
      refine g0 hC rfl ?_
      refine g13n hC rfl (fun h25 => ?_) (fun h25 => ?_)
      ·
        refine g0 hC rfl ?_
        refine ret1 hC rfl rfl ?_
        exact ⟨by rw [if_neg h25], rfl⟩
      ·
        refine g3 hC rfl rfl ?_
        refine g19 hC rfl sh142 (flt12 rfl) ft12_54 ((hS.fix hw hF).g fx_142_54) ?_
        refine g0 hC rfl ?_
        refine g3 hC rfl rfl ?_
        refine g6a hC rfl ⟨by omega, by omega⟩ ?_
        refine r21 ((6 + k)) hC rfl (by omega) sh185 (Or.inl rfl) (by omega) (rmsh hS hwr hV hW (by omega)) ?_
        refine g14 hC rfl ?_
        refine ret1 hC rfl rfl ?_
        exact ⟨by rw [if_pos (by omega)], rfl⟩
  · rw [if_neg z]
    refine g3 hC rfl rfl ?_
    refine g3 hC rfl rfl ?_
    refine c1 hC rfl rfl rfl (Nat.le_of_ble_eq_true rfl) (Nat.le_of_ble_eq_true rfl) (mayR k187 rfl) (m187 hF hV hW) (Nat.le_of_ble_eq_true rfl) (fun x M2 hr => ?_)
    obtain ⟨rfl, hr⟩ := hr; replace hr := hr.symm; subst hr; rw [if_neg (by omega)]
    refine g12n hC rfl (fun h3 => (by omega)) (fun h3 => ?_)
    refine g0 hC rfl ?_
    refine ret1 hC rfl rfl ?_
    exact ⟨rfl, rfl⟩
theorem op7 (hR : Rel n M) {a b : Int} : OP L X n 0 107 220 [(2, 0), (0, a), (0, b)] [(2, 142), (0, a), (0, b)] M := by
  have hR0 := hR
  obtain ⟨h, hh, hF, hG⟩ := hR
  have hG0 := hG
  obtain ⟨hW, hSW, hPW, hRV, hGT, hGN, hGM, hGH, hGS, hGX⟩ := hG
  have hV : HV M h M := HV.refl
  have hH3 : M 0 3 = (h : Int) := hGX.1.1
  exact OP.ro hR0 (m107 hF hh hW hH3) (m220 hF hRV hW) (by decide) (by decide)
def sets (V : ax_M) (h : Nat) (s : Nat) (m : Nat) : Nat := it (fun k (b : Nat) => if ckq V h k = s then b ||| 1 <<< k else b) m 0
theorem sets_b {s : Nat} : ∀ m : Nat, sets V h s m < 2 ^ m := by
  intro m
  induction m with
  | zero => exact Nat.one_pos
  | succ m ih =>
    have e : sets V h s (m + 1) = if ckq V h m = s then sets V h s m ||| 1 <<< m else sets V h s m := rfl
    have e2 : 2 ^ (m + 1) = 2 ^ m + 2 ^ m := by rw [Nat.pow_succ]; omega
    rw [e]; split
    · refine Nat.or_lt_two_pow (by omega) ?_
      rw [Nat.shiftLeft_eq, Nat.one_mul, e2]
      have := Nat.two_pow_pos m
      omega
    · omega
theorem m39 (hF : Fix M) (hh : h = 9 ∨ h = 27) (hV : HV V h M) (hW : HW V h) {s : Nat} : ax_Ev L X SH 0 39 [(2, (h : Int)), (0, (s : Int))] M (R1 0 (fun x M' => x = ((sets V h s (nC V h) : Nat) : Int) ∧ M' = M)) := by
  show ax_G L X SH 0 39 0 [(2, (h : Int)), (0, (s : Int)), (3, 0), (3, 0)] [] M _
  have hC := at39
  have hw := wX0
  have hwh : hok X0 h := hokB (by decide +kernel) hh
  have hb := hW.1.2.2.2.2
  have l1 : ∀ (m k : Nat), k + m = nC V h → ∀ ll M1, (ll = [(2, (h : Int)), (0, (s : Int)), (0, ((sets V h s k : Nat) : Int)), (0, (k : Int))] ∧ M1 = M) → ax_G L X SH 0 39 4 ll [] M1 (R1 0 (fun x M' => x = ((sets V h s (nC V h) : Nat) : Int) ∧ M' = M)) := by
    refine lp ?_ ?_
    · rintro ll M1 ⟨rfl, rfl⟩
      have hS : Sb X0 M1 M1 := Sb.refl
      refine g3 hC rfl rfl ?_
      refine g3 hC rfl rfl ?_
      refine g19 hC rfl (shH hh) (Nat.le_of_ble_eq_true rfl) rfl (rd3 hS hwh hV hW) ?_
      refine g13g hC rfl (fun h7 => ?_) (fun h7 => (by omega))
      refine g3 hC rfl rfl ?_
      refine ret1 hC rfl rfl ?_
      exact ⟨rfl, rfl⟩
    · rintro k hk ll M1 ⟨rfl, rfl⟩ hnext
      have hS : Sb X0 M1 M1 := Sb.refl
      have e : sets V h s (k + 1) = if ckq V h k = s then sets V h s k ||| 1 <<< k else sets V h s k := rfl
      have hsb := sets_b (V := V) (h := h) (s := s) k
      have hp : 2 ^ k ≤ 2 ^ 8 := Nat.pow_le_pow_right (by decide) (by omega)
      have hs1 : 1 <<< k = 2 ^ k := by rw [Nat.shiftLeft_eq, Nat.one_mul]
      refine g3 hC rfl rfl ?_
      refine g3 hC rfl rfl ?_
      refine g19 hC rfl (shH hh) (Nat.le_of_ble_eq_true rfl) rfl (rd3 hS hwh hV hW) ?_
      refine g13g hC rfl (fun h7 => (by omega)) (fun h7 => ?_)
      refine g3 hC rfl rfl ?_
      refine g19 hC rfl (shH hh) (Nat.le_of_ble_eq_true rfl) rfl ((hS.fix hw hF).h (v := 9) hh rfl rfl) ?_
      refine g3 hC rfl rfl ?_
      refine r21 (k) hC rfl (by omega) (shA (v := 9) hh rfl rfl) (Or.inl rfl) (by omega) (rdQ hS hwh hV hW (by omega)) ?_
      refine g3 hC rfl rfl ?_
      refine g13n hC rfl (fun h13 => ?_) (fun h13 => ?_)
      ·
        refine n3 hC rfl rfl ⟨by omega, by omega⟩ ?_
        refine g14 hC rfl ?_
        exact hnext _ _ ⟨by rw [e, if_neg (by omega)]; rfl, rfl⟩
      ·
        refine g3 hC rfl rfl ?_
        refine g0 hC rfl ?_
        refine g3 hC rfl rfl ?_
        refine g6 hC rfl (congrArg some (shlN (a := 1) (k := k) (by omega) (by omega))) ?_
        refine g6 hC rfl (congrArg some (orN (by omega) (by omega))) ?_
        refine s2 hC rfl rfl rfl ?_
        refine n3 hC rfl rfl ⟨by omega, by omega⟩ ?_
        refine g14 hC rfl ?_
        exact hnext _ _ ⟨by rw [e, if_pos (by omega)]; rfl, rfl⟩
  refine g0 hC rfl ?_
  refine s2 hC rfl rfl rfl ?_
  refine g0 hC rfl ?_
  refine s3 hC rfl rfl rfl ?_
  exact l1 (nC V h) 0 (Nat.zero_add _) _ _ ⟨rfl, rfl⟩
def seV (V : ax_M) (h s : Nat) (w : Int) : Int := if w = 0 then V 46 s else if w = 1 then ((sets V h s (nC V h) : Nat) : Int) else -1
theorem m108 (hF : Fix M) (hh : h = 9 ∨ h = 27) (hW : HW M h) (hH3 : M 0 3 = (h : Int)) {a w : Int} : ax_Ev L X SH 1 108 [(2, 0), (0, a), (0, w)] M (R1 0 (fun x M' => x = (if 0 ≤ a ∧ a < (nQ M h : Int) then seV M h a.toNat w else -1) ∧ M' = M)) := by
  show ax_G L X SH 1 108 0 [(2, 0), (0, a), (0, w)] [] M _
  have hC := at108
  have hw := wX0
  have hwh : hok X0 h := hokB (by decide +kernel) hh
  have hS : Sb X0 M M := Sb.refl
  have hV : HV M h M := HV.refl
  have hb := hW.1.2.2.1.2
  by_cases z : 0 ≤ a ∧ a < (nQ M h : Int)
  · obtain ⟨k, rfl⟩ : ∃ k : Nat, a = (k : Int) := ⟨a.toNat, by omega⟩
    rw [if_pos z]
    refine g3 hC rfl rfl ?_
    refine g3 hC rfl rfl ?_
    refine g19 hC rfl rfl (Nat.le_of_ble_eq_true rfl) rfl ((hS _ _ rfl).trans hH3) ?_
    refine g19 hC rfl (shH hh) (Nat.le_of_ble_eq_true rfl) rfl (rd2 hS hwh hV hW) ?_
    refine c1 hC rfl rfl rfl (Nat.le_of_ble_eq_true rfl) (Nat.le_of_ble_eq_true rfl) rfl (m140) (Nat.le_of_ble_eq_true rfl) (fun x M2 hr => ?_)
    obtain ⟨rfl, hr⟩ := hr; replace hr := hr.symm; subst hr; rw [if_pos (by omega)]
    refine g12n hC rfl (fun h5 => ?_) (fun h5 => (by omega))
    refine g3 hC rfl rfl ?_
    refine g12n hC rfl (fun h9 => ?_) (fun h9 => ?_)
    ·
      refine g3 hC rfl rfl ?_
      refine g0 hC rfl ?_
      refine g13n hC rfl (fun h18 => ?_) (fun h18 => ?_)
      ·
        refine g0 hC rfl ?_
        refine ret1 hC rfl rfl ?_
        refine ⟨?_, rfl⟩; unfold seV; rw [if_neg (by omega), if_neg (by omega)]
      ·
        refine g3 hC rfl rfl ?_
        refine g19 hC rfl rfl (Nat.le_of_ble_eq_true rfl) rfl ((hS _ _ rfl).trans hH3) ?_
        refine g3 hC rfl rfl ?_
        refine c1 hC rfl rfl rfl (Nat.le_of_ble_eq_true rfl) (Nat.le_of_ble_eq_true rfl) (mayH hh rfl rfl) (m39 hF hh hV hW) (Nat.le_of_ble_eq_true rfl) (fun x M2 hr => ?_)
        obtain ⟨rfl, hr⟩ := hr
        replace hr := hr.symm
        subst hr
        refine g14 hC rfl ?_
        refine ret1 hC rfl rfl ?_
        refine ⟨?_, rfl⟩; unfold seV; rw [if_neg (by omega), if_pos (by omega)]; rfl
    ·
      refine g3 hC rfl rfl ?_
      refine g19 hC rfl rfl (Nat.le_of_ble_eq_true rfl) rfl ((hS.fix hw hF).g rfl) ?_
      refine g19 hC rfl rfl (Nat.le_of_ble_eq_true rfl) rfl ((hS.fix hw hF).g rfl) ?_
      refine g3 hC rfl rfl ?_
      refine r21 (k) hC rfl (by omega) rfl (Or.inl rfl) (by omega) rfl ?_
      refine ret1 hC rfl rfl ?_
      refine ⟨?_, rfl⟩; unfold seV; rw [if_pos (by omega)]; rfl
  · rw [if_neg z]
    refine g3 hC rfl rfl ?_
    refine g3 hC rfl rfl ?_
    refine g19 hC rfl rfl (Nat.le_of_ble_eq_true rfl) rfl ((hS _ _ rfl).trans hH3) ?_
    refine g19 hC rfl (shH hh) (Nat.le_of_ble_eq_true rfl) rfl (rd2 hS hwh hV hW) ?_
    refine c1 hC rfl rfl rfl (Nat.le_of_ble_eq_true rfl) (Nat.le_of_ble_eq_true rfl) rfl (m140) (Nat.le_of_ble_eq_true rfl) (fun x M2 hr => ?_)
    obtain ⟨rfl, hr⟩ := hr; replace hr := hr.symm; subst hr; rw [if_neg (by omega)]
    refine g12n hC rfl (fun h5 => (by omega)) (fun h5 => ?_)
    refine g0 hC rfl ?_
    refine ret1 hC rfl rfl ?_
    exact ⟨rfl, rfl⟩
theorem m221 (hF : Fix M) (hV : RV M h M) (hW : HW M h) {a w : Int} : ax_Ev L X SH 2 221 [(2, 142), (0, a), (0, w)] M (R1 0 (fun x M' => x = (if 0 ≤ a ∧ a < (nQ M h : Int) then seV M h a.toNat w else -1) ∧ M' = M)) := by
  show ax_G L X SH 2 221 0 [(2, 142), (0, a), (0, w), (3, 0), (3, 0)] [] M _
  have hC := at221
  have hw := wX0
  have hwr := rX0
  have hS : Sb X0 M M := Sb.refl
  have hb := hW.1.2.2.1.2
  have hb2 := hW.1.2.2.2.2
  by_cases z : 0 ≤ a ∧ a < (nQ M h : Int)
  · obtain ⟨s, rfl⟩ : ∃ k : Nat, a = (k : Int) := ⟨a.toNat, by omega⟩
    rw [if_pos z, show ((s : Int)).toNat = s from rfl]
    have hk : s < nQ M h := by omega
    have l1 : ∀ (m k : Nat), k + m = nC M h → ∀ ll M1, (ll = [(2, 142), (0, (s : Int)), (0, w), (0, ((sets M h s k : Nat) : Int)), (0, (k : Int))] ∧ M1 = M) → ax_G L X SH 2 221 10 ll [] M1 (R1 0 (fun x M' => x = seV M h s w ∧ M' = M)) := by
      refine lp ?_ ?_
      · rintro ll M1 ⟨rfl, rfl⟩
        have hS : Sb X0 M1 M1 := Sb.refl
        have ep : M1 185 (1 + s) = M1 46 s := rmpo hS hwr hV hW (by omega)
        refine g3 hC rfl rfl ?_
        refine g3 hC rfl rfl ?_
        refine c1 hC rfl rfl rfl (Nat.le_of_ble_eq_true rfl) (Nat.le_of_ble_eq_true rfl) (mayR k186 rfl) (m186 hF hV hW) (Nat.le_of_ble_eq_true rfl) (fun x M2 hr => ?_)
        obtain ⟨rfl, hr⟩ := hr
        replace hr := hr.symm
        subst hr
        refine g13g hC rfl (fun h13 => ?_) (fun h13 => (by omega))
        refine g3 hC rfl rfl ?_
        refine g12n hC rfl (fun h28 => ?_) (fun h28 => ?_)
        ·
          refine g3 hC rfl rfl ?_
          refine g0 hC rfl ?_
          refine g13n hC rfl (fun h38 => ?_) (fun h38 => ?_)
          ·
            refine g0 hC rfl ?_
            refine ret1 hC rfl rfl ?_
            refine ⟨?_, rfl⟩; unfold seV; rw [if_neg (by omega), if_neg (by omega)]
          ·
            refine g3 hC rfl rfl ?_
            refine g14 hC rfl ?_
            refine ret1 hC rfl rfl ?_
            refine ⟨?_, rfl⟩; unfold seV; rw [if_neg (by omega), if_pos (by omega)]
        ·
          refine g3 hC rfl rfl ?_
          refine g19 hC rfl sh142 (flt12 rfl) ft12_54 ((hS.fix hw hF).g fx_142_54) ?_
          refine g0 hC rfl ?_
          refine g3 hC rfl rfl ?_
          refine g6a hC rfl ⟨by omega, by omega⟩ ?_
          refine r21 (1 + s) hC rfl (by omega) sh185 (Or.inl rfl) (by omega) ep ?_
          refine g14 hC rfl ?_
          refine ret1 hC rfl rfl ?_
          refine ⟨?_, rfl⟩; unfold seV; rw [if_pos (by omega)]
      · rintro k hk ll M1 ⟨rfl, rfl⟩ hnext
        have hS : Sb X0 M1 M1 := Sb.refl
        have e : sets M1 h s (k + 1) = if ckq M1 h k = s then sets M1 h s k ||| 1 <<< k else sets M1 h s k := rfl
        have hsb := sets_b (V := M1) (h := h) (s := s) k
        have hp : 2 ^ k ≤ 2 ^ 8 := Nat.pow_le_pow_right (by decide) (by omega)
        have hs1 : 1 <<< k = 2 ^ k := by rw [Nat.shiftLeft_eq, Nat.one_mul]
        refine g3 hC rfl rfl ?_
        refine g3 hC rfl rfl ?_
        refine c1 hC rfl rfl rfl (Nat.le_of_ble_eq_true rfl) (Nat.le_of_ble_eq_true rfl) (mayR k186 rfl) (m186 hF hV hW) (Nat.le_of_ble_eq_true rfl) (fun x M2 hr => ?_)
        obtain ⟨rfl, hr⟩ := hr
        replace hr := hr.symm
        subst hr
        refine g13g hC rfl (fun h13 => (by omega)) (fun h13 => ?_)
        refine g3 hC rfl rfl ?_
        refine g3 hC rfl rfl ?_
        refine c1 hC rfl rfl rfl (Nat.le_of_ble_eq_true rfl) (Nat.le_of_ble_eq_true rfl) (mayR k191 rfl) (m191 hF hV hW (by omega)) (Nat.le_of_ble_eq_true rfl) (fun x M2 hr => ?_)
        obtain ⟨rfl, hr⟩ := hr
        replace hr := hr.symm
        subst hr
        refine g3 hC rfl rfl ?_
        refine g13n hC rfl (fun h18 => ?_) (fun h18 => ?_)
        ·
          refine n4 hC rfl rfl ⟨by omega, by omega⟩ ?_
          refine g14 hC rfl ?_
          exact hnext _ _ ⟨by rw [e, if_neg (by omega)]; rfl, rfl⟩
        ·
          refine g3 hC rfl rfl ?_
          refine g0 hC rfl ?_
          refine g3 hC rfl rfl ?_
          refine g6 hC rfl (congrArg some (shlN (a := 1) (k := k) (by omega) (by omega))) ?_
          refine g6 hC rfl (congrArg some (orN (by omega) (by omega))) ?_
          refine s3 hC rfl rfl rfl ?_
          refine n4 hC rfl rfl ⟨by omega, by omega⟩ ?_
          refine g14 hC rfl ?_
          exact hnext _ _ ⟨by rw [e, if_pos (by omega)]; rfl, rfl⟩
    refine g3 hC rfl rfl ?_
    refine g3 hC rfl rfl ?_
    refine c1 hC rfl rfl rfl (Nat.le_of_ble_eq_true rfl) (Nat.le_of_ble_eq_true rfl) (mayR k188 rfl) (m188 hF hV hW) (Nat.le_of_ble_eq_true rfl) (fun x M2 hr => ?_)
    obtain ⟨rfl, hr⟩ := hr; replace hr := hr.symm; subst hr; rw [if_pos (by omega)]
    refine g12n hC rfl (fun h3 => ?_) (fun h3 => (by omega))
    refine g0 hC rfl ?_
    refine s3 hC rfl rfl rfl ?_
    refine g0 hC rfl ?_
    refine s4 hC rfl rfl rfl ?_
    exact l1 (nC M h) 0 (Nat.zero_add _) _ _ ⟨rfl, rfl⟩
  · rw [if_neg z]
    refine g3 hC rfl rfl ?_
    refine g3 hC rfl rfl ?_
    refine c1 hC rfl rfl rfl (Nat.le_of_ble_eq_true rfl) (Nat.le_of_ble_eq_true rfl) (mayR k188 rfl) (m188 hF hV hW) (Nat.le_of_ble_eq_true rfl) (fun x M2 hr => ?_)
    obtain ⟨rfl, hr⟩ := hr; replace hr := hr.symm; subst hr; rw [if_neg (by omega)]
    refine g12n hC rfl (fun h3 => (by omega)) (fun h3 => ?_)
    refine g0 hC rfl ?_
    refine ret1 hC rfl rfl ?_
    exact ⟨rfl, rfl⟩
theorem op8 (hR : Rel n M) {a b : Int} : OP L X n 0 108 221 [(2, 0), (0, a), (0, b)] [(2, 142), (0, a), (0, b)] M := by
  have hR0 := hR
  obtain ⟨h, hh, hF, hG⟩ := hR
  have hG0 := hG
  obtain ⟨hW, hSW, hPW, hRV, hGT, hGN, hGM, hGH, hGS, hGX⟩ := hG
  have hV : HV M h M := HV.refl
  have hH3 : M 0 3 = (h : Int) := hGX.1.1
  exact OP.ro hR0 (m108 hF hh hW hH3) (m221 hF hRV hW) (by decide) (by decide)
def sgO (V : ax_M) (c m : Nat) : Int := it (fun k (s : Int) => if k = c then s else s + V 48 (pQ c k)) m 0
theorem sgO_b {c : Nat} (hc : c < 8) (hV : ∀ i, i < 28 → 0 ≤ V 48 i ∧ V 48 i ≤ 9999) : ∀ m, m ≤ 8 → 0 ≤ sgO V c m ∧ sgO V c m ≤ 9999 * m := by
  intro m
  induction m with
  | zero => intro _; constructor <;> simp [sgO, it]
  | succ m ih =>
    intro hm
    have e : sgO V c (m + 1) = if m = c then sgO V c m else sgO V c m + V 48 (pQ c m) := rfl
    have := ih (by omega)
    rw [e]; split
    · omega
    · have := hV (pQ c m) (pQ_lt (by omega) hc (by omega))
      omega
theorem m69 (hF : Fix M) (hh : ∀ k, M 48 k = V 48 k) (hV : ∀ i, i < 28 → 0 ≤ V 48 i ∧ V 48 i ≤ 9999) {c m0 : Nat} (hc : c < 8) (hm0 : m0 ≤ 8) : ax_Ev L X SH 2 69 [(2, 45), (0, (c : Int)), (0, (m0 : Int))] M (R1 0 (fun x M' => x = sgO V c m0 ∧ M' = M)) := by
  show ax_G L X SH 2 69 0 [(2, 45), (0, (c : Int)), (0, (m0 : Int)), (3, 0), (3, 0)] [] M _
  have hC := at69
  have hw := wX0
  have l1 : ∀ (m k : Nat), k + m = m0 → ∀ ll M1, (ll = [(2, 45), (0, (c : Int)), (0, (m0 : Int)), (0, sgO V c k), (0, (k : Int))] ∧ M1 = M) → ax_G L X SH 2 69 4 ll [] M1 (R1 0 (fun x M' => x = sgO V c m0 ∧ M' = M)) := by
    refine lp ?_ ?_
    · rintro ll M1 ⟨rfl, rfl⟩
      have hS : Sb X0 M1 M1 := Sb.refl
      refine g3 hC rfl rfl ?_
      refine g3 hC rfl rfl ?_
      refine g13g hC rfl (fun h6 => ?_) (fun h6 => (by omega))
      refine g3 hC rfl rfl ?_
      refine ret1 hC rfl rfl ?_
      exact ⟨rfl, rfl⟩
    · rintro k hk ll M1 ⟨rfl, rfl⟩ hnext
      have hS : Sb X0 M1 M1 := Sb.refl
      have e : sgO V c (k + 1) = if k = c then sgO V c k else sgO V c k + V 48 (pQ c k) := rfl
      have b1 := sgO_b hc hV k (by omega)
      have b3 : k ≠ c → pQ c k < 28 := fun z => pQ_lt (by omega) hc (by omega)
      have b2 : k ≠ c → 0 ≤ V 48 (pQ c k) ∧ V 48 (pQ c k) ≤ 9999 := fun z => hV _ (b3 z)
      refine g3 hC rfl rfl ?_
      refine g3 hC rfl rfl ?_
      refine g13g hC rfl (fun h6 => (by omega)) (fun h6 => ?_)
      refine g3 hC rfl rfl ?_
      refine g3 hC rfl rfl ?_
      refine g13e hC rfl (fun h9 => ?_) (fun h9 => ?_)
      ·
        refine n4 hC rfl rfl ⟨by omega, by omega⟩ ?_
        refine g14 hC rfl ?_
        exact hnext _ _ ⟨by rw [e, if_pos (by omega)]; rfl, rfl⟩
      ·
        refine g3 hC rfl rfl ?_
        refine g3 hC rfl rfl ?_
        refine g19 hC rfl rfl (Nat.le_of_ble_eq_true rfl) rfl ((hS.fix hw hF).g rfl) ?_
        refine g3 hC rfl rfl ?_
        refine g3 hC rfl rfl ?_
        refine c1 hC rfl rfl rfl (Nat.le_of_ble_eq_true rfl) (Nat.le_of_ble_eq_true rfl) rfl (m66 (by omega) (by omega)) (Nat.le_of_ble_eq_true rfl) (fun x M2 hr => ?_)
        obtain ⟨rfl, hr⟩ := hr
        replace hr := hr.symm
        subst hr
        refine r21 ((pQ c k)) hC rfl (by omega) rfl (Or.inl rfl) (by omega) (hh _) ?_
        refine g6a hC rfl ⟨by omega, by omega⟩ ?_
        refine s3 hC rfl rfl rfl ?_
        refine n4 hC rfl rfl ⟨by omega, by omega⟩ ?_
        refine g14 hC rfl ?_
        exact hnext _ _ ⟨by rw [e, if_neg (by omega)]; rfl, rfl⟩
  refine g0 hC rfl ?_
  refine s3 hC rfl rfl rfl ?_
  refine g0 hC rfl ?_
  refine s4 hC rfl rfl rfl ?_
  exact l1 m0 0 (Nat.zero_add _) _ _ ⟨rfl, rfl⟩
theorem rmpa (hV : RV V h M) {a b : Nat} (hab : a ≠ b) (ha : a < 8) (hb : b < 8) : M 185 (16 + pB a b) = V 48 (pQ a b) := by
  unfold pB pQ
  by_cases z : a < b
  · rw [if_pos z, if_pos z]; exact hV.2.2.2.2.1.2.2.2 a b z hb
  · rw [if_neg z, if_neg z]; exact hV.2.2.2.2.1.2.2.2 b a (by omega) ha
theorem m194 (hF : Fix M) (hV : RV V h M) (hW : HW V h) (hSW : ∀ i, i < 28 → 0 ≤ V 48 i ∧ V 48 i ≤ 9999) {c : Nat} (hc : c < 8) : ax_Ev L X SH 2 194 [(2, 142), (0, (c : Int))] M (R1 0 (fun x M' => x = sgO V c (nC V h) ∧ M' = M)) := by
  show ax_G L X SH 2 194 0 [(2, 142), (0, (c : Int)), (3, 0), (3, 0)] [] M _
  have hC := at194
  have hw := wX0
  have hb2 := hW.1.2.2.2.2
  have l1 : ∀ (m k : Nat), k + m = nC V h → ∀ ll M1, (ll = [(2, 142), (0, (c : Int)), (0, sgO V c k), (0, (k : Int))] ∧ M1 = M) → ax_G L X SH 2 194 4 ll [] M1 (R1 0 (fun x M' => x = sgO V c (nC V h) ∧ M' = M)) := by
    refine lp ?_ ?_
    · rintro ll M1 ⟨rfl, rfl⟩
      have hS : Sb X0 M1 M1 := Sb.refl
      refine g3 hC rfl rfl ?_
      refine g3 hC rfl rfl ?_
      refine c1 hC rfl rfl rfl (Nat.le_of_ble_eq_true rfl) (Nat.le_of_ble_eq_true rfl) (mayR k186 rfl) (m186 hF hV hW) (Nat.le_of_ble_eq_true rfl) (fun x M2 hr => ?_)
      obtain ⟨rfl, hr⟩ := hr
      replace hr := hr.symm
      subst hr
      refine g13g hC rfl (fun h7 => ?_) (fun h7 => (by omega))
      refine g3 hC rfl rfl ?_
      refine ret1 hC rfl rfl ?_
      exact ⟨rfl, rfl⟩
    · rintro k hk ll M1 ⟨rfl, rfl⟩ hnext
      have hS : Sb X0 M1 M1 := Sb.refl
      have e : sgO V c (k + 1) = if k = c then sgO V c k else sgO V c k + V 48 (pQ c k) := rfl
      have b1 := sgO_b hc hSW k (by omega)
      have b3 : k ≠ c → pB c k < 28 := fun z => pB_lt (by omega) hc (by omega)
      have b2 : k ≠ c → 0 ≤ V 48 (pQ c k) ∧ V 48 (pQ c k) ≤ 9999 := fun z => hSW _ (pQ_lt (by omega) hc (by omega))
      refine g3 hC rfl rfl ?_
      refine g3 hC rfl rfl ?_
      refine c1 hC rfl rfl rfl (Nat.le_of_ble_eq_true rfl) (Nat.le_of_ble_eq_true rfl) (mayR k186 rfl) (m186 hF hV hW) (Nat.le_of_ble_eq_true rfl) (fun x M2 hr => ?_)
      obtain ⟨rfl, hr⟩ := hr
      replace hr := hr.symm
      subst hr
      refine g13g hC rfl (fun h7 => (by omega)) (fun h7 => ?_)
      refine g3 hC rfl rfl ?_
      refine g3 hC rfl rfl ?_
      refine g13e hC rfl (fun h10 => ?_) (fun h10 => ?_)
      ·
        refine n3 hC rfl rfl ⟨by omega, by omega⟩ ?_
        refine g14 hC rfl ?_
        exact hnext _ _ ⟨by rw [e, if_pos (by omega)]; rfl, rfl⟩
      ·
        refine g3 hC rfl rfl ?_
        refine g3 hC rfl rfl ?_
        refine g19 hC rfl sh142 (flt12 rfl) ft12_54 ((hS.fix hw hF).g fx_142_54) ?_
        refine g3 hC rfl rfl ?_
        refine g3 hC rfl rfl ?_
        refine c1 hC rfl rfl rfl (Nat.le_of_ble_eq_true rfl) (Nat.le_of_ble_eq_true rfl) (mayS k193 rfl) (m193 (by omega) (by omega) (by omega)) (Nat.le_of_ble_eq_true rfl) (fun x M2 hr => ?_)
        obtain ⟨rfl, hr⟩ := hr
        replace hr := hr.symm
        subst hr
        refine r21 (16 + pB c k) hC rfl rfl sh185 (Or.inl rfl) (by omega) (rmpa hV (by omega) (by omega) (by omega)) ?_
        refine g6a hC rfl ⟨by omega, by omega⟩ ?_
        refine s2 hC rfl rfl rfl ?_
        refine n3 hC rfl rfl ⟨by omega, by omega⟩ ?_
        refine g14 hC rfl ?_
        exact hnext _ _ ⟨by rw [e, if_neg (by omega)]; rfl, rfl⟩
  refine g0 hC rfl ?_
  refine s2 hC rfl rfl rfl ?_
  refine g0 hC rfl ?_
  refine s3 hC rfl rfl rfl ?_
  exact l1 (nC V h) 0 (Nat.zero_add _) _ _ ⟨rfl, rfl⟩
def clV (V : ax_M) (h c : Nat) (w : Int) : Int := if w = 0 then (ch V h c : Int) else if w = 1 then (ckq V h c : Int) else if w = 2 then (cp V h c : Int) else if w = 3 then V (h + 11) c else if w = 4 then sgO V c (nC V h) else -1
theorem m109 (hF : Fix M) (hh : h = 9 ∨ h = 27) (hW : HW M h) (hSW : SW M) (hH3 : M 0 3 = (h : Int)) {a w : Int} : ax_Ev L X SH 3 109 [(2, 0), (0, a), (0, w)] M (R1 0 (fun x M' => x = (if 0 ≤ a ∧ a < (nC M h : Int) then clV M h a.toNat w else -1) ∧ M' = M)) := by
  show ax_G L X SH 3 109 0 [(2, 0), (0, a), (0, w)] [] M _
  have hC := at109
  have hw := wX0
  have hwh : hok X0 h := hokB (by decide +kernel) hh
  have hS : Sb X0 M M := Sb.refl
  have hV : HV M h M := HV.refl
  have hb := hW.1.2.2.2.2
  by_cases z : 0 ≤ a ∧ a < (nC M h : Int)
  · obtain ⟨k, rfl⟩ : ∃ k : Nat, a = (k : Int) := ⟨a.toNat, by omega⟩
    rw [if_pos z]
    refine g3 hC rfl rfl ?_
    refine g3 hC rfl rfl ?_
    refine g19 hC rfl rfl (Nat.le_of_ble_eq_true rfl) rfl ((hS _ _ rfl).trans hH3) ?_
    refine g19 hC rfl (shH hh) (Nat.le_of_ble_eq_true rfl) rfl (rd3 hS hwh hV hW) ?_
    refine c1 hC rfl rfl rfl (Nat.le_of_ble_eq_true rfl) (Nat.le_of_ble_eq_true rfl) rfl (m140) (Nat.le_of_ble_eq_true rfl) (fun x M2 hr => ?_)
    obtain ⟨rfl, hr⟩ := hr; replace hr := hr.symm; subst hr; rw [if_pos (by omega)]
    refine g12n hC rfl (fun h5 => ?_) (fun h5 => (by omega))
    refine g3 hC rfl rfl ?_
    by_cases k9_0 : w = 0
    ·
      refine g15k (key := 0) (i' := 10) hC rfl rfl k9_0 rfl ?_
      refine g3 hC rfl rfl ?_
      refine g19 hC rfl rfl (Nat.le_of_ble_eq_true rfl) rfl ((hS _ _ rfl).trans hH3) ?_
      refine g19 hC rfl (shH hh) (Nat.le_of_ble_eq_true rfl) rfl ((hS.fix hw hF).h (v := 8) hh rfl rfl) ?_
      refine g3 hC rfl rfl ?_
      refine r21 (k) hC rfl (by omega) (shA (v := 8) hh rfl rfl) (Or.inl rfl) (by omega) (rdH hS hwh hV hW (by omega)) ?_
      refine ret1 hC rfl rfl ?_
      refine ⟨?_, rfl⟩; unfold clV; rw [if_pos (by omega)]; rfl
    by_cases k9_1 : w = 1
    ·
      refine g15k (key := 1) (i' := 16) hC rfl rfl k9_1 rfl ?_
      refine g3 hC rfl rfl ?_
      refine g19 hC rfl rfl (Nat.le_of_ble_eq_true rfl) rfl ((hS _ _ rfl).trans hH3) ?_
      refine g19 hC rfl (shH hh) (Nat.le_of_ble_eq_true rfl) rfl ((hS.fix hw hF).h (v := 9) hh rfl rfl) ?_
      refine g3 hC rfl rfl ?_
      refine r21 (k) hC rfl (by omega) (shA (v := 9) hh rfl rfl) (Or.inl rfl) (by omega) (rdQ hS hwh hV hW (by omega)) ?_
      refine ret1 hC rfl rfl ?_
      refine ⟨?_, rfl⟩; unfold clV; rw [if_neg (by omega), if_pos (by omega)]; rfl
    by_cases k9_2 : w = 2
    ·
      refine g15k (key := 2) (i' := 22) hC rfl rfl k9_2 rfl ?_
      refine g3 hC rfl rfl ?_
      refine g19 hC rfl rfl (Nat.le_of_ble_eq_true rfl) rfl ((hS _ _ rfl).trans hH3) ?_
      refine g19 hC rfl (shH hh) (Nat.le_of_ble_eq_true rfl) rfl ((hS.fix hw hF).h (v := 10) hh rfl rfl) ?_
      refine g3 hC rfl rfl ?_
      refine r21 (k) hC rfl (by omega) (shA (v := 10) hh rfl rfl) (Or.inl rfl) (by omega) (rdP hS hwh hV hW (by omega)) ?_
      refine ret1 hC rfl rfl ?_
      refine ⟨?_, rfl⟩; unfold clV; rw [if_neg (by omega), if_neg (by omega), if_pos (by omega)]; rfl
    by_cases k9_3 : w = 3
    ·
      refine g15k (key := 3) (i' := 28) hC rfl rfl k9_3 rfl ?_
      refine g3 hC rfl rfl ?_
      refine g19 hC rfl rfl (Nat.le_of_ble_eq_true rfl) rfl ((hS _ _ rfl).trans hH3) ?_
      refine g19 hC rfl (shH hh) (Nat.le_of_ble_eq_true rfl) rfl ((hS.fix hw hF).h (v := 11) hh rfl rfl) ?_
      refine g3 hC rfl rfl ?_
      refine r21 (k) hC rfl (by omega) (shA (v := 11) hh rfl rfl) (Or.inl rfl) (by omega) (rdi hS hwh hV 11 _ (by decide) (by decide) (by decide)) ?_
      refine ret1 hC rfl rfl ?_
      refine ⟨?_, rfl⟩; unfold clV; rw [if_neg (by omega), if_neg (by omega), if_neg (by omega), if_pos (by omega)]; rfl
    by_cases k9_4 : w = 4
    ·
      refine g15k (key := 4) (i' := 34) hC rfl rfl k9_4 rfl ?_
      refine g3 hC rfl rfl ?_
      refine g19 hC rfl rfl (Nat.le_of_ble_eq_true rfl) rfl ((hS.fix hw hF).g rfl) ?_
      refine g3 hC rfl rfl ?_
      refine g3 hC rfl rfl ?_
      refine g19 hC rfl rfl (Nat.le_of_ble_eq_true rfl) rfl ((hS _ _ rfl).trans hH3) ?_
      refine g19 hC rfl (shH hh) (Nat.le_of_ble_eq_true rfl) rfl (rd3 hS hwh hV hW) ?_
      refine c1 hC rfl rfl rfl (Nat.le_of_ble_eq_true rfl) (Nat.le_of_ble_eq_true rfl) rfl (m69 hF (fun _ => rfl) hSW.2.2.2 (by omega) (by omega)) (Nat.le_of_ble_eq_true rfl) (fun x M2 hr => ?_)
      obtain ⟨rfl, hr⟩ := hr
      replace hr := hr.symm
      subst hr
      refine ret1 hC rfl rfl ?_
      refine ⟨?_, rfl⟩; unfold clV; rw [if_neg (by omega), if_neg (by omega), if_neg (by omega), if_neg (by omega), if_pos (by omega)]; rfl
    refine g15d (i' := 42) hC rfl rfl (by show ¬ ((0 : Int) ≤ _ ∧ _ ≤ (4 : Int)); omega) rfl ?_
    refine g0 hC rfl ?_
    refine ret1 hC rfl rfl ?_
    refine ⟨?_, rfl⟩; unfold clV; rw [if_neg (by omega), if_neg (by omega), if_neg (by omega), if_neg (by omega), if_neg (by omega)]
  · rw [if_neg z]
    refine g3 hC rfl rfl ?_
    refine g3 hC rfl rfl ?_
    refine g19 hC rfl rfl (Nat.le_of_ble_eq_true rfl) rfl ((hS _ _ rfl).trans hH3) ?_
    refine g19 hC rfl (shH hh) (Nat.le_of_ble_eq_true rfl) rfl (rd3 hS hwh hV hW) ?_
    refine c1 hC rfl rfl rfl (Nat.le_of_ble_eq_true rfl) (Nat.le_of_ble_eq_true rfl) rfl (m140) (Nat.le_of_ble_eq_true rfl) (fun x M2 hr => ?_)
    obtain ⟨rfl, hr⟩ := hr; replace hr := hr.symm; subst hr; rw [if_neg (by omega)]
    refine g12n hC rfl (fun h5 => (by omega)) (fun h5 => ?_)
    refine g0 hC rfl ?_
    refine ret1 hC rfl rfl ?_
    exact ⟨rfl, rfl⟩
theorem m222 (hF : Fix M) (hV : RV M h M) (hW : HW M h) (hSW : SW M) {a w : Int} : ax_Ev L X SH 3 222 [(2, 142), (0, a), (0, w)] M (R1 0 (fun x M' => x = (if 0 ≤ a ∧ a < (nC M h : Int) then clV M h a.toNat w else -1) ∧ M' = M)) := by
  show ax_G L X SH 3 222 0 [(2, 142), (0, a), (0, w)] [] M _
  have hC := at222
  have hw := wX0
  have hwr := rX0
  have hS : Sb X0 M M := Sb.refl
  have hb := hW.1.2.2.2.2
  by_cases z : 0 ≤ a ∧ a < (nC M h : Int)
  · obtain ⟨k, rfl⟩ : ∃ k : Nat, a = (k : Int) := ⟨a.toNat, by omega⟩
    rw [if_pos z]
    have hk : k < nC M h := by omega
    by_cases y : 0 ≤ w ∧ w ≤ 3
    · obtain ⟨q, rfl⟩ : ∃ q : Nat, w = (q : Int) := ⟨w.toNat, by omega⟩
      have e : M 180 (32 + 4 * k + q) = clV M h k (q : Int) := by
        unfold clV
        have : q = 0 ∨ q = 1 ∨ q = 2 ∨ q = 3 := by omega
        rcases this with rfl | rfl | rfl | rfl
        · exact rmH hS hwr hV hW hk
        · rw [show 32 + 4 * k + 1 = 33 + 4 * k by omega]; exact rmQ hS hwr hV hW hk
        · rw [show 32 + 4 * k + 2 = 34 + 4 * k by omega]; exact rmP hS hwr hV hW hk
        · rw [show 32 + 4 * k + 3 = 35 + 4 * k by omega]; exact rmG hS hwr hV hW hk
      refine g3 hC rfl rfl ?_
      refine g3 hC rfl rfl ?_
      refine c1 hC rfl rfl rfl (Nat.le_of_ble_eq_true rfl) (Nat.le_of_ble_eq_true rfl) (mayR k189 rfl) (m189 hF hV hW) (Nat.le_of_ble_eq_true rfl) (fun x M2 hr => ?_)
      obtain ⟨rfl, hr⟩ := hr; replace hr := hr.symm; subst hr; rw [if_pos (by omega)]
      refine g12n hC rfl (fun h3 => ?_) (fun h3 => (by omega))
      refine g3 hC rfl rfl ?_
      refine g9 hC rfl ?_
      refine g1 hC rfl ?_
      refine g1 hC rfl ?_
      refine c1 hC rfl rfl rfl (Nat.le_of_ble_eq_true rfl) (Nat.le_of_ble_eq_true rfl) (mayS k153 rfl) (m153) (Nat.le_of_ble_eq_true rfl) (fun x M2 hr => ?_)
      obtain ⟨rfl, hr⟩ := hr; replace hr := hr.symm; subst hr; rw [if_pos (by omega)]
      refine g12e hC rfl (fun h11 => (by omega)) (fun h11 => ?_)
      refine g3 hC rfl rfl ?_
      refine g19 hC rfl sh142 (flt12 rfl) ft12_46 ((hS.fix hw hF).g fx_142_46) ?_
      refine g0 hC rfl ?_
      refine g0 hC rfl ?_
      refine g3 hC rfl rfl ?_
      refine g6m hC rfl ⟨by omega, by omega⟩ ?_
      refine g6a hC rfl ⟨by omega, by omega⟩ ?_
      refine g3 hC rfl rfl ?_
      refine g6a hC rfl ⟨by omega, by omega⟩ ?_
      refine r21 (32 + 4 * k + q) hC rfl (by omega) sh180 (Or.inl rfl) (by omega) e ?_
      refine g14 hC rfl ?_
      refine ret1 hC rfl rfl ?_
      exact ⟨rfl, rfl⟩
    · have e5 : clV M h k w = if w = 4 then sgO M k (nC M h) else -1 := by
        unfold clV; rw [if_neg (by omega), if_neg (by omega), if_neg (by omega), if_neg (by omega)]
      rw [show ((k : Int)).toNat = k from rfl, e5]
      refine g3 hC rfl rfl ?_
      refine g3 hC rfl rfl ?_
      refine c1 hC rfl rfl rfl (Nat.le_of_ble_eq_true rfl) (Nat.le_of_ble_eq_true rfl) (mayR k189 rfl) (m189 hF hV hW) (Nat.le_of_ble_eq_true rfl) (fun x M2 hr => ?_)
      obtain ⟨rfl, hr⟩ := hr; replace hr := hr.symm; subst hr; rw [if_pos (by omega)]
      refine g12n hC rfl (fun h3 => ?_) (fun h3 => (by omega))
      refine g3 hC rfl rfl ?_
      refine g9 hC rfl ?_
      refine g1 hC rfl ?_
      refine g1 hC rfl ?_
      refine c1 hC rfl rfl rfl (Nat.le_of_ble_eq_true rfl) (Nat.le_of_ble_eq_true rfl) (mayS k153 rfl) (m153) (Nat.le_of_ble_eq_true rfl) (fun x M2 hr => ?_)
      obtain ⟨rfl, hr⟩ := hr; replace hr := hr.symm; subst hr; rw [if_neg (by omega)]
      refine g12e hC rfl (fun h11 => ?_) (fun h11 => (by omega))
      refine g3 hC rfl rfl ?_
      refine g0 hC rfl ?_
      refine g13n hC rfl (fun h25 => ?_) (fun h25 => ?_)
      ·
        refine g0 hC rfl ?_
        refine ret1 hC rfl rfl ?_
        exact ⟨by rw [if_neg h25], rfl⟩
      ·
        refine g3 hC rfl rfl ?_
        refine g3 hC rfl rfl ?_
        refine c1 hC rfl rfl rfl (Nat.le_of_ble_eq_true rfl) (Nat.le_of_ble_eq_true rfl) (mayR k194 rfl) (m194 hF hV hW hSW.2.2.2 (by omega)) (Nat.le_of_ble_eq_true rfl) (fun x M2 hr => ?_)
        obtain ⟨rfl, hr⟩ := hr
        replace hr := hr.symm
        subst hr
        refine g14 hC rfl ?_
        refine ret1 hC rfl rfl ?_
        exact ⟨by rw [if_pos (by omega)], rfl⟩
  · rw [if_neg z]
    refine g3 hC rfl rfl ?_
    refine g3 hC rfl rfl ?_
    refine c1 hC rfl rfl rfl (Nat.le_of_ble_eq_true rfl) (Nat.le_of_ble_eq_true rfl) (mayR k189 rfl) (m189 hF hV hW) (Nat.le_of_ble_eq_true rfl) (fun x M2 hr => ?_)
    obtain ⟨rfl, hr⟩ := hr; replace hr := hr.symm; subst hr; rw [if_neg (by omega)]
    refine g12n hC rfl (fun h3 => (by omega)) (fun h3 => ?_)
    refine g0 hC rfl ?_
    refine ret1 hC rfl rfl ?_
    exact ⟨rfl, rfl⟩
theorem op9 (hR : Rel n M) {a b : Int} : OP L X n 0 109 222 [(2, 0), (0, a), (0, b)] [(2, 142), (0, a), (0, b)] M := by
  have hR0 := hR
  obtain ⟨h, hh, hF, hG⟩ := hR
  have hG0 := hG
  obtain ⟨hW, hSW, hPW, hRV, hGT, hGN, hGM, hGH, hGS, hGX⟩ := hG
  have hV : HV M h M := HV.refl
  have hH3 : M 0 3 = (h : Int) := hGX.1.1
  exact OP.ro hR0 (m109 hF hh hW hSW hH3) (m222 hF hRV hW hSW) (by decide) (by decide)
def tw (V : ax_M) (h : Nat) (a b : Int) : Prop := (0 ≤ a ∧ a < (nC V h : Int)) ∧ (0 ≤ b ∧ b < (nC V h : Int)) ∧ a ≠ b
theorem m141 (hF : Fix M) (hh : h = 9 ∨ h = 27) (hV : HV V h M) (hW : HW V h) (hH3 : M 0 3 = (h : Int)) {a b : Int} : ax_Ev L X SH 1 141 [(2, 0), (0, a), (0, b)] M (R1 0 (fun x M' => ((x = 1 ∧ tw V h a b) ∨ (x = 0 ∧ ¬ tw V h a b)) ∧ M' = M)) := by
  show ax_G L X SH 1 141 0 [(2, 0), (0, a), (0, b)] [] M _
  have hC := at141
  have hw := wX0
  have hwh : hok X0 h := hokB (by decide +kernel) hh
  have hS : Sb X0 M M := Sb.refl
  by_cases z : 0 ≤ a ∧ a < (nC V h : Int)
  · by_cases y : 0 ≤ b ∧ b < (nC V h : Int)
    · skip
      refine g3 hC rfl rfl ?_
      refine g3 hC rfl rfl ?_
      refine g19 hC rfl rfl (Nat.le_of_ble_eq_true rfl) rfl ((hS _ _ rfl).trans hH3) ?_
      refine g19 hC rfl (shH hh) (Nat.le_of_ble_eq_true rfl) rfl (rd3 hS hwh hV hW) ?_
      refine c1 hC rfl rfl rfl (Nat.le_of_ble_eq_true rfl) (Nat.le_of_ble_eq_true rfl) rfl m140 (Nat.le_of_ble_eq_true rfl) (fun x M2 hr => ?_)
      obtain ⟨rfl, hr⟩ := hr; replace hr := hr.symm; subst hr; rw [if_pos (by omega)]
      refine g12e hC rfl (fun h5 => (by omega)) (fun h5 => ?_)
      refine g3 hC rfl rfl ?_
      refine g3 hC rfl rfl ?_
      refine g19 hC rfl rfl (Nat.le_of_ble_eq_true rfl) rfl ((hS _ _ rfl).trans hH3) ?_
      refine g19 hC rfl (shH hh) (Nat.le_of_ble_eq_true rfl) rfl (rd3 hS hwh hV hW) ?_
      refine c1 hC rfl rfl rfl (Nat.le_of_ble_eq_true rfl) (Nat.le_of_ble_eq_true rfl) rfl m140 (Nat.le_of_ble_eq_true rfl) (fun x M2 hr => ?_)
      obtain ⟨rfl, hr⟩ := hr; replace hr := hr.symm; subst hr; rw [if_pos (by omega)]
      refine g12e hC rfl (fun h11 => (by omega)) (fun h11 => ?_)
      refine g3 hC rfl rfl ?_
      refine g3 hC rfl rfl ?_
      refine g13e hC rfl (fun h14 => ?_) (fun h14 => ?_)
      ·
        refine g0 hC rfl ?_
        refine ret3 hC rfl ⟨by omega, by omega⟩ ?_
        exact ⟨Or.inr ⟨rfl, fun w => w.2.2 (by omega)⟩, rfl⟩
      ·
        refine g0 hC rfl ?_
        refine g14 hC rfl ?_
        refine ret3 hC rfl ⟨by omega, by omega⟩ ?_
        exact ⟨Or.inl ⟨rfl, z, y, by omega⟩, rfl⟩
    · skip
      refine g3 hC rfl rfl ?_
      refine g3 hC rfl rfl ?_
      refine g19 hC rfl rfl (Nat.le_of_ble_eq_true rfl) rfl ((hS _ _ rfl).trans hH3) ?_
      refine g19 hC rfl (shH hh) (Nat.le_of_ble_eq_true rfl) rfl (rd3 hS hwh hV hW) ?_
      refine c1 hC rfl rfl rfl (Nat.le_of_ble_eq_true rfl) (Nat.le_of_ble_eq_true rfl) rfl m140 (Nat.le_of_ble_eq_true rfl) (fun x M2 hr => ?_)
      obtain ⟨rfl, hr⟩ := hr; replace hr := hr.symm; subst hr; rw [if_pos (by omega)]
      refine g12e hC rfl (fun h5 => (by omega)) (fun h5 => ?_)
      refine g3 hC rfl rfl ?_
      refine g3 hC rfl rfl ?_
      refine g19 hC rfl rfl (Nat.le_of_ble_eq_true rfl) rfl ((hS _ _ rfl).trans hH3) ?_
      refine g19 hC rfl (shH hh) (Nat.le_of_ble_eq_true rfl) rfl (rd3 hS hwh hV hW) ?_
      refine c1 hC rfl rfl rfl (Nat.le_of_ble_eq_true rfl) (Nat.le_of_ble_eq_true rfl) rfl m140 (Nat.le_of_ble_eq_true rfl) (fun x M2 hr => ?_)
      obtain ⟨rfl, hr⟩ := hr; replace hr := hr.symm; subst hr; rw [if_neg (by omega)]
      refine g12e hC rfl (fun h11 => ?_) (fun h11 => (by omega))
      refine g0 hC rfl ?_
      refine ret3 hC rfl ⟨by omega, by omega⟩ ?_
      exact ⟨Or.inr ⟨rfl, fun w => y w.2.1⟩, rfl⟩
  · skip
    refine g3 hC rfl rfl ?_
    refine g3 hC rfl rfl ?_
    refine g19 hC rfl rfl (Nat.le_of_ble_eq_true rfl) rfl ((hS _ _ rfl).trans hH3) ?_
    refine g19 hC rfl (shH hh) (Nat.le_of_ble_eq_true rfl) rfl (rd3 hS hwh hV hW) ?_
    refine c1 hC rfl rfl rfl (Nat.le_of_ble_eq_true rfl) (Nat.le_of_ble_eq_true rfl) rfl (m140) (Nat.le_of_ble_eq_true rfl) (fun x M2 hr => ?_)
    obtain ⟨rfl, hr⟩ := hr; replace hr := hr.symm; subst hr; rw [if_neg (by omega)]
    refine g12e hC rfl (fun h5 => ?_) (fun h5 => (by omega))
    refine g0 hC rfl ?_
    refine ret3 hC rfl ⟨by omega, by omega⟩ ?_
    exact ⟨Or.inr ⟨rfl, fun w => z w.1⟩, rfl⟩
theorem m223 (hF : Fix M) (hV : RV V h M) (hW : HW V h) {a b : Int} : ax_Ev L X SH 2 223 [(2, 142), (0, a), (0, b)] M (R1 0 (fun x M' => ((x = 1 ∧ tw V h a b) ∨ (x = 0 ∧ ¬ tw V h a b)) ∧ M' = M)) := by
  show ax_G L X SH 2 223 0 [(2, 142), (0, a), (0, b)] [] M _
  have hC := at223
  have hw := wX0
  have hS : Sb X0 M M := Sb.refl
  by_cases z : 0 ≤ a ∧ a < (nC V h : Int)
  · by_cases y : 0 ≤ b ∧ b < (nC V h : Int)
    · skip
      refine g3 hC rfl rfl ?_
      refine g3 hC rfl rfl ?_
      refine c1 hC rfl rfl rfl (Nat.le_of_ble_eq_true rfl) (Nat.le_of_ble_eq_true rfl) (mayR k189 rfl) (m189 hF hV hW) (Nat.le_of_ble_eq_true rfl) (fun x M2 hr => ?_)
      obtain ⟨rfl, hr⟩ := hr; replace hr := hr.symm; subst hr; rw [if_pos (by omega)]
      refine g12e hC rfl (fun h3 => (by omega)) (fun h3 => ?_)
      refine g3 hC rfl rfl ?_
      refine g3 hC rfl rfl ?_
      refine c1 hC rfl rfl rfl (Nat.le_of_ble_eq_true rfl) (Nat.le_of_ble_eq_true rfl) (mayR k189 rfl) (m189 hF hV hW) (Nat.le_of_ble_eq_true rfl) (fun x M2 hr => ?_)
      obtain ⟨rfl, hr⟩ := hr; replace hr := hr.symm; subst hr; rw [if_pos (by omega)]
      refine g12e hC rfl (fun h7 => (by omega)) (fun h7 => ?_)
      refine g3 hC rfl rfl ?_
      refine g3 hC rfl rfl ?_
      refine g13e hC rfl (fun h10 => ?_) (fun h10 => ?_)
      ·
        refine g0 hC rfl ?_
        refine ret3 hC rfl ⟨by omega, by omega⟩ ?_
        exact ⟨Or.inr ⟨rfl, fun w => w.2.2 (by omega)⟩, rfl⟩
      ·
        refine g0 hC rfl ?_
        refine g14 hC rfl ?_
        refine ret3 hC rfl ⟨by omega, by omega⟩ ?_
        exact ⟨Or.inl ⟨rfl, z, y, by omega⟩, rfl⟩
    · skip
      refine g3 hC rfl rfl ?_
      refine g3 hC rfl rfl ?_
      refine c1 hC rfl rfl rfl (Nat.le_of_ble_eq_true rfl) (Nat.le_of_ble_eq_true rfl) (mayR k189 rfl) (m189 hF hV hW) (Nat.le_of_ble_eq_true rfl) (fun x M2 hr => ?_)
      obtain ⟨rfl, hr⟩ := hr; replace hr := hr.symm; subst hr; rw [if_pos (by omega)]
      refine g12e hC rfl (fun h3 => (by omega)) (fun h3 => ?_)
      refine g3 hC rfl rfl ?_
      refine g3 hC rfl rfl ?_
      refine c1 hC rfl rfl rfl (Nat.le_of_ble_eq_true rfl) (Nat.le_of_ble_eq_true rfl) (mayR k189 rfl) (m189 hF hV hW) (Nat.le_of_ble_eq_true rfl) (fun x M2 hr => ?_)
      obtain ⟨rfl, hr⟩ := hr; replace hr := hr.symm; subst hr; rw [if_neg (by omega)]
      refine g12e hC rfl (fun h7 => ?_) (fun h7 => (by omega))
      refine g0 hC rfl ?_
      refine ret3 hC rfl ⟨by omega, by omega⟩ ?_
      exact ⟨Or.inr ⟨rfl, fun w => y w.2.1⟩, rfl⟩
  · skip
    refine g3 hC rfl rfl ?_
    refine g3 hC rfl rfl ?_
    refine c1 hC rfl rfl rfl (Nat.le_of_ble_eq_true rfl) (Nat.le_of_ble_eq_true rfl) (mayR k189 rfl) (m189 hF hV hW) (Nat.le_of_ble_eq_true rfl) (fun x M2 hr => ?_)
    obtain ⟨rfl, hr⟩ := hr; replace hr := hr.symm; subst hr; rw [if_neg (by omega)]
    refine g12e hC rfl (fun h3 => ?_) (fun h3 => (by omega))
    refine g0 hC rfl ?_
    refine ret3 hC rfl ⟨by omega, by omega⟩ ?_
    exact ⟨Or.inr ⟨rfl, fun w => z w.1⟩, rfl⟩
end SMD
