theorem fdiv_t {x y : Int} (h0 : y ≠ 0) : x.fdiv y = if x.tmod y ≠ 0 ∧ ¬ (x < 0 ↔ y < 0) then x.tdiv y - 1 else x.tdiv y := by
  have he := Int.fdiv_eq_tdiv (a := x) (b := y)
  rw [he]
  have hd : y ∣ x ↔ x.tmod y = 0 := by rw [Int.dvd_iff_tmod_eq_zero]
  by_cases h1 : x.tmod y = 0
  · rw [if_pos (hd.mpr h1), if_neg (fun z => z.1 h1)]; omega
  · rw [if_neg (fun z => h1 (hd.mp z))]
    by_cases h2 : 0 ≤ x <;> by_cases h3 : 0 ≤ y
    · rw [if_pos h2, if_pos h3, if_neg (fun z => z.2 (by omega))]; omega
    · rw [if_pos h2, if_neg h3, if_pos ⟨h1, by omega⟩]
    · rw [if_neg h2, if_pos h3, if_pos ⟨h1, by omega⟩, Int.sign_eq_one_of_pos (by omega)]
    · rw [if_neg h2, if_neg h3, if_neg (fun z => z.2 (by omega)), Int.sign_eq_neg_one_of_neg (by omega)]; omega
section RCO
variable {L : Nat} {X : Nat → Int} {M V : ax_M} {h : Nat}
theorem m282 {x : Int} : ax_Ev L X SH 0 282 [(1, x)] M (R1 1 (fun y M' => y = clip x ∧ M' = M)) := by
  show ax_G L X SH 0 282 0 [(1, x), (3, 0)] [] M _
  have hC := at282
  have hc := @cmp0 x 1000000
  have hc2 := @cmp0 x (-1000000)
  refine g3 hC rfl rfl ?_
  refine g1 hC rfl ?_
  refine g11 hC rfl ?_
  refine g12s hC rfl (fun h3 => ?_) (fun h3 => ?_)
  ·
    refine g3 hC rfl rfl ?_
    refine g1 hC rfl ?_
    refine g11 hC rfl ?_
    refine g12g hC rfl (fun h9 => ?_) (fun h9 => ?_)
    ·
      refine g3 hC rfl rfl ?_
      refine ret1 hC rfl rfl ?_
      refine ⟨?_, rfl⟩
      unfold clip
      repeat' split
      all_goals omega
    ·
      refine g1 hC rfl ?_
      refine g14 hC rfl ?_
      refine ret1 hC rfl rfl ?_
      refine ⟨?_, rfl⟩
      unfold clip
      repeat' split
      all_goals omega
  ·
    refine g1 hC rfl ?_
    refine g14 hC rfl ?_
    refine ret1 hC rfl rfl ?_
    refine ⟨?_, rfl⟩
    unfold clip
    repeat' split
    all_goals omega
theorem m283 {x y : Int} (hx : -1000000 ≤ x ∧ x ≤ 1000000) : ax_Ev L X SH 0 283 [(1, x), (1, y)] M (R1 1 (fun z M' => z = (if y = 0 then 0 else x.fdiv y) ∧ M' = M)) := by
  show ax_G L X SH 0 283 0 [(1, x), (3, 0), (1, y), (3, 0), (3, 0), (3, 0)] [] M _
  have hC := at283
  have hc := @cmp0 y 0
  have hc2 := @cmp0 (x.tmod y) 0
  have hc3 := @cmp0 x 0
  have hb : -1000000 ≤ x.tdiv y ∧ x.tdiv y ≤ 1000000 := by
    have h1 : (x.tdiv y).natAbs ≤ x.natAbs := by rw [Int.natAbs_tdiv]; exact Nat.div_le_self _ _
    omega
  have key : y ≠ 0 → x.fdiv y = if x.tmod y ≠ 0 ∧ ¬ (x < 0 ↔ y < 0) then x.tdiv y - 1 else x.tdiv y := fdiv_t
  refine g3 hC rfl rfl ?_
  refine g1 hC rfl ?_
  refine g11 hC rfl ?_
  refine g12n hC rfl (fun h3 => ?_) (fun h3 => ?_)
  ·
    refine g3 hC rfl rfl ?_
    refine g3 hC rfl rfl ?_
    have h0 : y ≠ 0 := by omega
    rw [if_neg h0, key h0]
    refine g7d hC rfl ⟨h0, ⟨by omega, by omega⟩⟩ ?_
    refine sl4 hC rfl rfl ?_
    refine g3 hC rfl rfl ?_
    refine g3 hC rfl rfl ?_
    refine g7r hC rfl ⟨h0, ⟨by omega, by omega⟩⟩ ?_
    refine g1 hC rfl ?_
    refine g11 hC rfl ?_
    refine g12e hC rfl (fun h15 => ?_) (fun h15 => ?_)
    ·
      refine g3 hC rfl rfl ?_
      refine ret1 hC rfl rfl ?_
      first | omega | (refine ⟨?_, rfl⟩; split <;> omega)
    ·
      refine g3 hC rfl rfl ?_
      refine g1 hC rfl ?_
      refine g11 hC rfl ?_
      refine g12g hC rfl (fun h19 => ?_) (fun h19 => ?_)
      ·
        refine g0 hC rfl ?_
        refine g3 hC rfl rfl ?_
        refine g1 hC rfl ?_
        refine g11 hC rfl ?_
        refine g12g hC rfl (fun h26 => ?_) (fun h26 => ?_)
        ·
          refine g0 hC rfl ?_
          refine g13e hC rfl (fun h30 => ?_) (fun h30 => ?_)
          ·
            refine g3 hC rfl rfl ?_
            refine ret1 hC rfl rfl ?_
            first | omega | (refine ⟨?_, rfl⟩; split <;> omega)
          ·
            refine g3 hC rfl rfl ?_
            refine g1 hC rfl ?_
            refine g7s hC rfl ⟨by omega, by omega⟩ ?_
            refine g14 hC rfl ?_
            refine ret1 hC rfl rfl ?_
            first | omega | (refine ⟨?_, rfl⟩; split <;> omega)
        ·
          refine g0 hC rfl ?_
          refine g14 hC rfl ?_
          refine g13e hC rfl (fun h30 => ?_) (fun h30 => ?_)
          ·
            refine g3 hC rfl rfl ?_
            refine ret1 hC rfl rfl ?_
            first | omega | (refine ⟨?_, rfl⟩; split <;> omega)
          ·
            refine g3 hC rfl rfl ?_
            refine g1 hC rfl ?_
            refine g7s hC rfl ⟨by omega, by omega⟩ ?_
            refine g14 hC rfl ?_
            refine ret1 hC rfl rfl ?_
            first | omega | (refine ⟨?_, rfl⟩; split <;> omega)
      ·
        refine g0 hC rfl ?_
        refine g14 hC rfl ?_
        refine g3 hC rfl rfl ?_
        refine g1 hC rfl ?_
        refine g11 hC rfl ?_
        refine g12g hC rfl (fun h26 => ?_) (fun h26 => ?_)
        ·
          refine g0 hC rfl ?_
          refine g13e hC rfl (fun h30 => ?_) (fun h30 => ?_)
          ·
            refine g3 hC rfl rfl ?_
            refine ret1 hC rfl rfl ?_
            first | omega | (refine ⟨?_, rfl⟩; split <;> omega)
          ·
            refine g3 hC rfl rfl ?_
            refine g1 hC rfl ?_
            refine g7s hC rfl ⟨by omega, by omega⟩ ?_
            refine g14 hC rfl ?_
            refine ret1 hC rfl rfl ?_
            first | omega | (refine ⟨?_, rfl⟩; split <;> omega)
        ·
          refine g0 hC rfl ?_
          refine g14 hC rfl ?_
          refine g13e hC rfl (fun h30 => ?_) (fun h30 => ?_)
          ·
            refine g3 hC rfl rfl ?_
            refine ret1 hC rfl rfl ?_
            first | omega | (refine ⟨?_, rfl⟩; split <;> omega)
          ·
            refine g3 hC rfl rfl ?_
            refine g1 hC rfl ?_
            refine g7s hC rfl ⟨by omega, by omega⟩ ?_
            refine g14 hC rfl ?_
            refine ret1 hC rfl rfl ?_
            first | omega | (refine ⟨?_, rfl⟩; split <;> omega)
  ·
    refine g1 hC rfl ?_
    refine ret1 hC rfl rfl ?_
    first | omega | (refine ⟨?_, rfl⟩; split <;> omega)
theorem m284 (hF : Fix M) {t : Nat} {x : Int} (ht : M 142 116 = (t : Int)) (ht2 : t < 1700) : ax_Ev L X SH 0 284 [(2, 142), (1, x)] M (R0 (fun M' => Sb X196 M M' ∧ M' 230 = up (M 230) t x ∧ M' 142 116 = ((t + 1 : Nat) : Int))) := by
  show ax_G L X SH 0 284 0 [(2, 142), (1, x), (3, 0)] [] M _
  have hC := at284
  have hw : wok X196 = true := by decide +kernel
  have hS : Sb X196 M M := Sb.refl
  have e8 : ax_up M 230 t x 142 116 = (t : Int) := by rw [ax_up2n (by decide)]; exact ht
  refine g3 hC rfl rfl ?_
  refine g19 hC rfl sh142 (flt12 rfl) ft12_115 ((hS.fix hw hF).g fx_142_115) ?_
  refine g3 hC rfl rfl ?_
  refine g19 hC rfl sh142 (flt12 rfl) ft12_116 ht ?_
  refine g3 hC rfl rfl ?_
  refine r22s t hC rfl rfl sh230 (by omega) rfl hS rfl (fun hS => ?_)
  refine g3 hC rfl rfl ?_
  refine g16 hC rfl (by decide) ?_
  refine g19 hC rfl sh142 (flt12 rfl) ft12_116 e8 ?_
  refine g0 hC rfl ?_
  refine g6a hC rfl ⟨by omega, by omega⟩ ?_
  refine g20s hC rfl sh142 (flt12 rfl) (by rw [fy12_116]; rfl) hS rfl (fun hS => ?_)
  refine ret0 hC rfl ?_
  exact ⟨hS, by rw [ax_up_ne (by decide), ax_upf], up1⟩
theorem m285 (hF : Fix M) {t : Nat} {v : Int} (ht : M 142 116 = (t : Int)) (ht2 : 2 ≤ t) (ht3 : t ≤ 100) (h1 : 1 ≤ v) (h2 : v ≤ 11) (ha : -1000000 ≤ M 230 (t - 2) ∧ M 230 (t - 2) ≤ 1000000) (hb : -1000000 ≤ M 230 (t - 1) ∧ M 230 (t - 1) ≤ 1000000) : ax_Ev L X SH 1 285 [(2, 142), (0, v)] M (R0 (fun M' => Sb X196 M M' ∧ M' 230 = up (M 230) (t - 2) (jn v (M 230 (t - 2)) (M 230 (t - 1))) ∧ M' 142 116 = ((t - 1 : Nat) : Int))) := by
  show ax_G L X SH 1 285 0 [(2, 142), (0, v), (3, 0), (3, 0), (3, 0), (3, 0)] [] M _
  have hC := at285
  have hw : wok X196 = true := by decide +kernel
  have hS : Sb X196 M M := Sb.refl
  generalize ea : M 230 (t - 2) = a at *
  generalize eb : M 230 (t - 1) = b at *
  have hp : -1000000000000 ≤ a * b ∧ a * b ≤ 1000000000000 := by
    have h1 : (a * b).natAbs ≤ 1000000 * 1000000 := by rw [Int.natAbs_mul]; exact Nat.mul_le_mul (by omega) (by omega)
    omega
  have hc := @cmp0 a b
  have hc2 := @cmp0 (a + b) 0
  have hx2 : ax_up M 142 116 ((t : Int) - 2) 142 116 = ((t - 2 : Nat) : Int) := by rw [up1]; omega
  have jv : ∀ x, x = jn v a b → ∀ M2 : ax_M, M2 230 = up ((ax_up M 142 116 ((t : Int) - 2)) 230) (t - 2) x → M2 142 116 = ((t - 2 + 1 : Nat) : Int) → Sb X196 M M2 → Sb X196 M M2 ∧ M2 230 = up (M 230) (t - 2) (jn v a b) ∧ M2 142 116 = ((t - 1 : Nat) : Int) := by
    intro x hx M2 q1 q2 q3
    refine ⟨q3, ?_, ?_⟩
    · rw [q1, ax_up_ne (by decide), hx]
    · rw [q2]; omega
  refine g3 hC rfl rfl ?_
  refine g19 hC rfl sh142 (flt12 rfl) ft12_115 ((hS.fix hw hF).g fx_142_115) ?_
  refine g3 hC rfl rfl ?_
  refine g19 hC rfl sh142 (flt12 rfl) ft12_116 ht ?_
  refine g0 hC rfl ?_
  refine g6s hC rfl ⟨by omega, by omega⟩ ?_
  refine r21 (t - 1) hC rfl (by omega) sh230 (Or.inl rfl) (by omega) eb ?_
  refine sl2 hC rfl rfl ?_
  refine g3 hC rfl rfl ?_
  refine g19 hC rfl sh142 (flt12 rfl) ft12_115 ((hS.fix hw hF).g fx_142_115) ?_
  refine g3 hC rfl rfl ?_
  refine g19 hC rfl sh142 (flt12 rfl) ft12_116 ht ?_
  refine g0 hC rfl ?_
  refine g6s hC rfl ⟨by omega, by omega⟩ ?_
  refine r21 (t - 2) hC rfl (by omega) sh230 (Or.inl rfl) (by omega) ea ?_
  refine sl4 hC rfl rfl ?_
  refine g3 hC rfl rfl ?_
  refine g16 hC rfl (by decide) ?_
  refine g19 hC rfl sh142 (flt12 rfl) ft12_116 ht ?_
  refine g0 hC rfl ?_
  refine g6s hC rfl ⟨by omega, by omega⟩ ?_
  refine g20s hC rfl sh142 (flt12 rfl) (by rw [fy12_116]; rfl) hS rfl (fun hS => ?_)
  refine g3 hC rfl rfl ?_
  by_cases k23_0 : v = 1
  ·
    refine g15k (key := 1) (i' := 24) hC rfl rfl k23_0 rfl ?_
    refine g3 hC rfl rfl ?_
    refine g3 hC rfl rfl ?_
    refine g3 hC rfl rfl ?_
    refine g7a hC rfl ⟨by omega, by omega⟩ ?_
    refine c1 hC rfl rfl rfl (Nat.le_of_ble_eq_true rfl) (Nat.le_of_ble_eq_true rfl) (mayS k282 rfl) (m282) (Nat.le_of_ble_eq_true rfl) (fun x M2 hr => ?_)
    obtain ⟨rfl, hr⟩ := hr
    replace hr := hr.symm
    subst hr
    refine c0 hC rfl rfl rfl (Nat.le_of_ble_eq_true rfl) (Nat.le_of_ble_eq_true rfl) (mayR k284 rfl) (m284 (hS.fix hw hF) hx2 (by omega)) (Nat.le_of_ble_eq_true rfl) (fun M2 hr => ?_)
    obtain ⟨r0, r1, r2⟩ := hr; have hS := hS.then r0 rfl
    refine g14 hC rfl ?_
    refine ret0 hC rfl ?_
    exact jv _ (by subst k23_0; simp [jn]) _ r1 r2 hS
  by_cases k23_1 : v = 2
  ·
    refine g15k (key := 2) (i' := 31) hC rfl rfl k23_1 rfl ?_
    refine g3 hC rfl rfl ?_
    refine g3 hC rfl rfl ?_
    refine g3 hC rfl rfl ?_
    refine g7s hC rfl ⟨by omega, by omega⟩ ?_
    refine c1 hC rfl rfl rfl (Nat.le_of_ble_eq_true rfl) (Nat.le_of_ble_eq_true rfl) (mayS k282 rfl) (m282) (Nat.le_of_ble_eq_true rfl) (fun x M2 hr => ?_)
    obtain ⟨rfl, hr⟩ := hr
    replace hr := hr.symm
    subst hr
    refine c0 hC rfl rfl rfl (Nat.le_of_ble_eq_true rfl) (Nat.le_of_ble_eq_true rfl) (mayR k284 rfl) (m284 (hS.fix hw hF) hx2 (by omega)) (Nat.le_of_ble_eq_true rfl) (fun M2 hr => ?_)
    obtain ⟨r0, r1, r2⟩ := hr; have hS := hS.then r0 rfl
    refine g14 hC rfl ?_
    refine ret0 hC rfl ?_
    exact jv _ (by subst k23_1; simp [jn]) _ r1 r2 hS
  by_cases k23_2 : v = 3
  ·
    refine g15k (key := 3) (i' := 38) hC rfl rfl k23_2 rfl ?_
    refine g3 hC rfl rfl ?_
    refine g3 hC rfl rfl ?_
    refine g3 hC rfl rfl ?_
    refine g7m hC rfl ⟨by omega, by omega⟩ ?_
    refine c1 hC rfl rfl rfl (Nat.le_of_ble_eq_true rfl) (Nat.le_of_ble_eq_true rfl) (mayS k282 rfl) (m282) (Nat.le_of_ble_eq_true rfl) (fun x M2 hr => ?_)
    obtain ⟨rfl, hr⟩ := hr
    replace hr := hr.symm
    subst hr
    refine c0 hC rfl rfl rfl (Nat.le_of_ble_eq_true rfl) (Nat.le_of_ble_eq_true rfl) (mayR k284 rfl) (m284 (hS.fix hw hF) hx2 (by omega)) (Nat.le_of_ble_eq_true rfl) (fun M2 hr => ?_)
    obtain ⟨r0, r1, r2⟩ := hr; have hS := hS.then r0 rfl
    refine g14 hC rfl ?_
    refine ret0 hC rfl ?_
    exact jv _ (by subst k23_2; simp [jn]) _ r1 r2 hS
  by_cases k23_3 : v = 4
  ·
    refine g15k (key := 4) (i' := 45) hC rfl rfl k23_3 rfl ?_
    refine g3 hC rfl rfl ?_
    refine g3 hC rfl rfl ?_
    refine g3 hC rfl rfl ?_
    refine c1 hC rfl rfl rfl (Nat.le_of_ble_eq_true rfl) (Nat.le_of_ble_eq_true rfl) (mayS k283 rfl) (m283 ⟨by omega, by omega⟩) (Nat.le_of_ble_eq_true rfl) (fun x M2 hr => ?_)
    obtain ⟨rfl, hr⟩ := hr
    replace hr := hr.symm
    subst hr
    refine c0 hC rfl rfl rfl (Nat.le_of_ble_eq_true rfl) (Nat.le_of_ble_eq_true rfl) (mayR k284 rfl) (m284 (hS.fix hw hF) hx2 (by omega)) (Nat.le_of_ble_eq_true rfl) (fun M2 hr => ?_)
    obtain ⟨r0, r1, r2⟩ := hr; have hS := hS.then r0 rfl
    refine g14 hC rfl ?_
    refine ret0 hC rfl ?_
    exact jv _ (by subst k23_3; simp [jn]) _ r1 r2 hS
  by_cases k23_4 : v = 5
  ·
    refine g15k (key := 5) (i' := 51) hC rfl rfl k23_4 rfl ?_
    refine g3 hC rfl rfl ?_
    refine g3 hC rfl rfl ?_
    refine g3 hC rfl rfl ?_
    refine g11 hC rfl ?_
    refine g12g hC rfl (fun h55 => ?_) (fun h55 => ?_)
    ·
      refine g3 hC rfl rfl ?_
      refine c0 hC rfl rfl rfl (Nat.le_of_ble_eq_true rfl) (Nat.le_of_ble_eq_true rfl) (mayR k284 rfl) (m284 (hS.fix hw hF) hx2 (by omega)) (Nat.le_of_ble_eq_true rfl) (fun M2 hr => ?_)
      obtain ⟨r0, r1, r2⟩ := hr; have hS := hS.then r0 rfl
      refine g14 hC rfl ?_
      refine ret0 hC rfl ?_
      exact jv _ (by subst k23_4; simp [jn]; omega) _ r1 r2 hS
    ·
      refine g3 hC rfl rfl ?_
      refine g14 hC rfl ?_
      refine c0 hC rfl rfl rfl (Nat.le_of_ble_eq_true rfl) (Nat.le_of_ble_eq_true rfl) (mayR k284 rfl) (m284 (hS.fix hw hF) hx2 (by omega)) (Nat.le_of_ble_eq_true rfl) (fun M2 hr => ?_)
      obtain ⟨r0, r1, r2⟩ := hr; have hS := hS.then r0 rfl
      refine g14 hC rfl ?_
      refine ret0 hC rfl ?_
      exact jv _ (by subst k23_4; simp [jn]; omega) _ r1 r2 hS
  by_cases k23_5 : v = 6
  ·
    refine g15k (key := 6) (i' := 61) hC rfl rfl k23_5 rfl ?_
    refine g3 hC rfl rfl ?_
    refine g3 hC rfl rfl ?_
    refine g3 hC rfl rfl ?_
    refine g11 hC rfl ?_
    refine g12s hC rfl (fun h65 => ?_) (fun h65 => ?_)
    ·
      refine g3 hC rfl rfl ?_
      refine c0 hC rfl rfl rfl (Nat.le_of_ble_eq_true rfl) (Nat.le_of_ble_eq_true rfl) (mayR k284 rfl) (m284 (hS.fix hw hF) hx2 (by omega)) (Nat.le_of_ble_eq_true rfl) (fun M2 hr => ?_)
      obtain ⟨r0, r1, r2⟩ := hr; have hS := hS.then r0 rfl
      refine g14 hC rfl ?_
      refine ret0 hC rfl ?_
      exact jv _ (by subst k23_5; simp [jn]; omega) _ r1 r2 hS
    ·
      refine g3 hC rfl rfl ?_
      refine g14 hC rfl ?_
      refine c0 hC rfl rfl rfl (Nat.le_of_ble_eq_true rfl) (Nat.le_of_ble_eq_true rfl) (mayR k284 rfl) (m284 (hS.fix hw hF) hx2 (by omega)) (Nat.le_of_ble_eq_true rfl) (fun M2 hr => ?_)
      obtain ⟨r0, r1, r2⟩ := hr; have hS := hS.then r0 rfl
      refine g14 hC rfl ?_
      refine ret0 hC rfl ?_
      exact jv _ (by subst k23_5; simp [jn]; omega) _ r1 r2 hS
  by_cases k23_6 : v = 7
  ·
    refine g15k (key := 7) (i' := 71) hC rfl rfl k23_6 rfl ?_
    refine g3 hC rfl rfl ?_
    refine g3 hC rfl rfl ?_
    refine g3 hC rfl rfl ?_
    refine g11 hC rfl ?_
    refine g12g hC rfl (fun h75 => ?_) (fun h75 => ?_)
    ·
      refine g1 hC rfl ?_
      refine c0 hC rfl rfl rfl (Nat.le_of_ble_eq_true rfl) (Nat.le_of_ble_eq_true rfl) (mayR k284 rfl) (m284 (hS.fix hw hF) hx2 (by omega)) (Nat.le_of_ble_eq_true rfl) (fun M2 hr => ?_)
      obtain ⟨r0, r1, r2⟩ := hr; have hS := hS.then r0 rfl
      refine g14 hC rfl ?_
      refine ret0 hC rfl ?_
      exact jv _ (by subst k23_6; simp [jn]; omega) _ r1 r2 hS
    ·
      refine g1 hC rfl ?_
      refine g14 hC rfl ?_
      refine c0 hC rfl rfl rfl (Nat.le_of_ble_eq_true rfl) (Nat.le_of_ble_eq_true rfl) (mayR k284 rfl) (m284 (hS.fix hw hF) hx2 (by omega)) (Nat.le_of_ble_eq_true rfl) (fun M2 hr => ?_)
      obtain ⟨r0, r1, r2⟩ := hr; have hS := hS.then r0 rfl
      refine g14 hC rfl ?_
      refine ret0 hC rfl ?_
      exact jv _ (by subst k23_6; simp [jn]; omega) _ r1 r2 hS
  by_cases k23_7 : v = 8
  ·
    refine g15k (key := 8) (i' := 81) hC rfl rfl k23_7 rfl ?_
    refine g3 hC rfl rfl ?_
    refine g3 hC rfl rfl ?_
    refine g3 hC rfl rfl ?_
    refine g11 hC rfl ?_
    refine g12s hC rfl (fun h85 => ?_) (fun h85 => ?_)
    ·
      refine g1 hC rfl ?_
      refine c0 hC rfl rfl rfl (Nat.le_of_ble_eq_true rfl) (Nat.le_of_ble_eq_true rfl) (mayR k284 rfl) (m284 (hS.fix hw hF) hx2 (by omega)) (Nat.le_of_ble_eq_true rfl) (fun M2 hr => ?_)
      obtain ⟨r0, r1, r2⟩ := hr; have hS := hS.then r0 rfl
      refine g14 hC rfl ?_
      refine ret0 hC rfl ?_
      exact jv _ (by subst k23_7; simp [jn]; omega) _ r1 r2 hS
    ·
      refine g1 hC rfl ?_
      refine g14 hC rfl ?_
      refine c0 hC rfl rfl rfl (Nat.le_of_ble_eq_true rfl) (Nat.le_of_ble_eq_true rfl) (mayR k284 rfl) (m284 (hS.fix hw hF) hx2 (by omega)) (Nat.le_of_ble_eq_true rfl) (fun M2 hr => ?_)
      obtain ⟨r0, r1, r2⟩ := hr; have hS := hS.then r0 rfl
      refine g14 hC rfl ?_
      refine ret0 hC rfl ?_
      exact jv _ (by subst k23_7; simp [jn]; omega) _ r1 r2 hS
  by_cases k23_8 : v = 9
  ·
    refine g15k (key := 9) (i' := 91) hC rfl rfl k23_8 rfl ?_
    refine g3 hC rfl rfl ?_
    refine g3 hC rfl rfl ?_
    refine g3 hC rfl rfl ?_
    refine g11 hC rfl ?_
    refine g12n hC rfl (fun h95 => ?_) (fun h95 => ?_)
    ·
      refine g1 hC rfl ?_
      refine c0 hC rfl rfl rfl (Nat.le_of_ble_eq_true rfl) (Nat.le_of_ble_eq_true rfl) (mayR k284 rfl) (m284 (hS.fix hw hF) hx2 (by omega)) (Nat.le_of_ble_eq_true rfl) (fun M2 hr => ?_)
      obtain ⟨r0, r1, r2⟩ := hr; have hS := hS.then r0 rfl
      refine g14 hC rfl ?_
      refine ret0 hC rfl ?_
      exact jv _ (by subst k23_8; simp [jn]; omega) _ r1 r2 hS
    ·
      refine g1 hC rfl ?_
      refine g14 hC rfl ?_
      refine c0 hC rfl rfl rfl (Nat.le_of_ble_eq_true rfl) (Nat.le_of_ble_eq_true rfl) (mayR k284 rfl) (m284 (hS.fix hw hF) hx2 (by omega)) (Nat.le_of_ble_eq_true rfl) (fun M2 hr => ?_)
      obtain ⟨r0, r1, r2⟩ := hr; have hS := hS.then r0 rfl
      refine g14 hC rfl ?_
      refine ret0 hC rfl ?_
      exact jv _ (by subst k23_8; simp [jn]; omega) _ r1 r2 hS
  by_cases k23_9 : v = 10
  ·
    refine g15k (key := 10) (i' := 101) hC rfl rfl k23_9 rfl ?_
    refine g3 hC rfl rfl ?_
    refine g3 hC rfl rfl ?_
    refine g3 hC rfl rfl ?_
    refine g7m hC rfl ⟨by omega, by omega⟩ ?_
    refine c0 hC rfl rfl rfl (Nat.le_of_ble_eq_true rfl) (Nat.le_of_ble_eq_true rfl) (mayR k284 rfl) (m284 (hS.fix hw hF) hx2 (by omega)) (Nat.le_of_ble_eq_true rfl) (fun M2 hr => ?_)
    obtain ⟨r0, r1, r2⟩ := hr; have hS := hS.then r0 rfl
    refine g14 hC rfl ?_
    refine ret0 hC rfl ?_
    exact jv _ (by subst k23_9; simp [jn]) _ r1 r2 hS
  refine g15d (i' := 107) hC rfl rfl (by show ¬ ((1 : Int) ≤ _ ∧ _ ≤ (10 : Int)); omega) rfl ?_
  refine g3 hC rfl rfl ?_
  refine g3 hC rfl rfl ?_
  refine g3 hC rfl rfl ?_
  refine g7a hC rfl ⟨by omega, by omega⟩ ?_
  refine g1 hC rfl ?_
  refine g11 hC rfl ?_
  refine g12s hC rfl (fun h113 => ?_) (fun h113 => ?_)
  ·
    refine g1 hC rfl ?_
    refine c0 hC rfl rfl rfl (Nat.le_of_ble_eq_true rfl) (Nat.le_of_ble_eq_true rfl) (mayR k284 rfl) (m284 (hS.fix hw hF) hx2 (by omega)) (Nat.le_of_ble_eq_true rfl) (fun M2 hr => ?_)
    obtain ⟨r0, r1, r2⟩ := hr; have hS := hS.then r0 rfl
    refine ret0 hC rfl ?_
    have hv : v = 11 := by omega
    exact jv _ (by rw [hv]; simp [jn]; omega) _ r1 r2 hS
  ·
    refine g1 hC rfl ?_
    refine g14 hC rfl ?_
    refine c0 hC rfl rfl rfl (Nat.le_of_ble_eq_true rfl) (Nat.le_of_ble_eq_true rfl) (mayR k284 rfl) (m284 (hS.fix hw hF) hx2 (by omega)) (Nat.le_of_ble_eq_true rfl) (fun M2 hr => ?_)
    obtain ⟨r0, r1, r2⟩ := hr; have hS := hS.then r0 rfl
    refine ret0 hC rfl ?_
    have hv : v = 11 := by omega
    exact jv _ (by rw [hv]; simp [jn]; omega) _ r1 r2 hS
def lfR (V : ax_M) (h : Nat) (M : ax_M) (c i : Nat) : Int := if i = 0 then (cp V h c : Int) else if i = 1 then V (h + 11) c else if i = 2 then V 45 0 else if i = 3 then M 142 56 else if i = 4 then M 142 57 else if i = 5 then M 142 58 else M 142 59
theorem m286 (hF : Fix M) (hV : RV V h M) (hW : HW V h) {c : Nat} {w : Int} (hc : c < nC V h) (h0 : 0 ≤ w) (h6 : w ≤ 6) : ax_Ev L X SH 1 286 [(2, 142), (0, w), (0, (c : Int))] M (R1 1 (fun x M' => x = lfR V h M c w.toNat ∧ M' = M)) := by
  show ax_G L X SH 1 286 0 [(2, 142), (0, w), (0, (c : Int))] [] M _
  have hC := at286
  have hw := wX0
  have hwr := rX0
  have hS : Sb X0 M M := Sb.refl
  have hb := hW.1.2.2.2.2
  refine g3 hC rfl rfl ?_
  by_cases k1_0 : w = 0
  ·
    refine g15k (key := 0) (i' := 2) hC rfl rfl k1_0 rfl ?_
    refine g3 hC rfl rfl ?_
    refine g19 hC rfl sh142 (flt12 rfl) ft12_46 ((hS.fix hw hF).g fx_142_46) ?_
    refine g0 hC rfl ?_
    refine g0 hC rfl ?_
    refine g3 hC rfl rfl ?_
    refine g6m hC rfl ⟨by omega, by omega⟩ ?_
    refine g6a hC rfl ⟨by omega, by omega⟩ ?_
    refine r21 ((34 + (4 * c))) hC rfl (by omega) sh180 (Or.inl rfl) (by omega) (rmP hS hwr hV hW (by omega)) ?_
    refine g9 hC rfl ?_
    refine ret1 hC rfl rfl ?_
    first | omega | exact ⟨by subst k1_0; rfl, rfl⟩ | exact ⟨by subst k1_1; rfl, rfl⟩ | exact ⟨by subst k1_2; rfl, rfl⟩ | exact ⟨by subst k1_3; rfl, rfl⟩ | exact ⟨by subst k1_4; rfl, rfl⟩ | exact ⟨by subst k1_5; rfl, rfl⟩ | exact ⟨by subst k1_6; rfl, rfl⟩
  by_cases k1_1 : w = 1
  ·
    refine g15k (key := 1) (i' := 12) hC rfl rfl k1_1 rfl ?_
    refine g3 hC rfl rfl ?_
    refine g19 hC rfl sh142 (flt12 rfl) ft12_46 ((hS.fix hw hF).g fx_142_46) ?_
    refine g0 hC rfl ?_
    refine g0 hC rfl ?_
    refine g3 hC rfl rfl ?_
    refine g6m hC rfl ⟨by omega, by omega⟩ ?_
    refine g6a hC rfl ⟨by omega, by omega⟩ ?_
    refine r21 ((35 + (4 * c))) hC rfl (by omega) sh180 (Or.inl rfl) (by omega) (rmG hS hwr hV hW (by omega)) ?_
    refine g9 hC rfl ?_
    refine ret1 hC rfl rfl ?_
    first | omega | exact ⟨by subst k1_0; rfl, rfl⟩ | exact ⟨by subst k1_1; rfl, rfl⟩ | exact ⟨by subst k1_2; rfl, rfl⟩ | exact ⟨by subst k1_3; rfl, rfl⟩ | exact ⟨by subst k1_4; rfl, rfl⟩ | exact ⟨by subst k1_5; rfl, rfl⟩ | exact ⟨by subst k1_6; rfl, rfl⟩
  by_cases k1_2 : w = 2
  ·
    refine g15k (key := 2) (i' := 22) hC rfl rfl k1_2 rfl ?_
    refine g3 hC rfl rfl ?_
    refine g19 hC rfl sh142 (flt12 rfl) ft12_54 ((hS.fix hw hF).g fx_142_54) ?_
    refine g0 hC rfl ?_
    refine r21 (0) hC rfl (by omega) sh185 (Or.inl rfl) (by omega) (rmdr hS hwr hV hW) ?_
    refine g9 hC rfl ?_
    refine ret1 hC rfl rfl ?_
    first | omega | exact ⟨by subst k1_0; rfl, rfl⟩ | exact ⟨by subst k1_1; rfl, rfl⟩ | exact ⟨by subst k1_2; rfl, rfl⟩ | exact ⟨by subst k1_3; rfl, rfl⟩ | exact ⟨by subst k1_4; rfl, rfl⟩ | exact ⟨by subst k1_5; rfl, rfl⟩ | exact ⟨by subst k1_6; rfl, rfl⟩
  by_cases k1_3 : w = 3
  ·
    refine g15k (key := 3) (i' := 28) hC rfl rfl k1_3 rfl ?_
    refine g3 hC rfl rfl ?_
    refine g19 hC rfl sh142 (flt12 rfl) ft12_56 (hS 142 56 rfl) ?_
    refine g9 hC rfl ?_
    refine ret1 hC rfl rfl ?_
    first | omega | exact ⟨by subst k1_0; rfl, rfl⟩ | exact ⟨by subst k1_1; rfl, rfl⟩ | exact ⟨by subst k1_2; rfl, rfl⟩ | exact ⟨by subst k1_3; rfl, rfl⟩ | exact ⟨by subst k1_4; rfl, rfl⟩ | exact ⟨by subst k1_5; rfl, rfl⟩ | exact ⟨by subst k1_6; rfl, rfl⟩
  by_cases k1_4 : w = 4
  ·
    refine g15k (key := 4) (i' := 32) hC rfl rfl k1_4 rfl ?_
    refine g3 hC rfl rfl ?_
    refine g19 hC rfl sh142 (flt12 rfl) ft12_57 (hS 142 57 rfl) ?_
    refine g9 hC rfl ?_
    refine ret1 hC rfl rfl ?_
    first | omega | exact ⟨by subst k1_0; rfl, rfl⟩ | exact ⟨by subst k1_1; rfl, rfl⟩ | exact ⟨by subst k1_2; rfl, rfl⟩ | exact ⟨by subst k1_3; rfl, rfl⟩ | exact ⟨by subst k1_4; rfl, rfl⟩ | exact ⟨by subst k1_5; rfl, rfl⟩ | exact ⟨by subst k1_6; rfl, rfl⟩
  by_cases k1_5 : w = 5
  ·
    refine g15k (key := 5) (i' := 36) hC rfl rfl k1_5 rfl ?_
    refine g3 hC rfl rfl ?_
    refine g19 hC rfl sh142 (flt12 rfl) ft12_58 (hS 142 58 rfl) ?_
    refine g9 hC rfl ?_
    refine ret1 hC rfl rfl ?_
    first | omega | exact ⟨by subst k1_0; rfl, rfl⟩ | exact ⟨by subst k1_1; rfl, rfl⟩ | exact ⟨by subst k1_2; rfl, rfl⟩ | exact ⟨by subst k1_3; rfl, rfl⟩ | exact ⟨by subst k1_4; rfl, rfl⟩ | exact ⟨by subst k1_5; rfl, rfl⟩ | exact ⟨by subst k1_6; rfl, rfl⟩
  by_cases k1_6 : w = 6
  ·
    refine g15k (key := 6) (i' := 40) hC rfl rfl k1_6 rfl ?_
    refine g3 hC rfl rfl ?_
    refine g19 hC rfl sh142 (flt12 rfl) ft12_59 (hS 142 59 rfl) ?_
    refine g9 hC rfl ?_
    refine ret1 hC rfl rfl ?_
    first | omega | exact ⟨by subst k1_0; rfl, rfl⟩ | exact ⟨by subst k1_1; rfl, rfl⟩ | exact ⟨by subst k1_2; rfl, rfl⟩ | exact ⟨by subst k1_3; rfl, rfl⟩ | exact ⟨by subst k1_4; rfl, rfl⟩ | exact ⟨by subst k1_5; rfl, rfl⟩ | exact ⟨by subst k1_6; rfl, rfl⟩
  by_cases k1_7 : w = 7
  ·
    refine g15k (key := 7) (i' := 44) hC rfl rfl k1_7 rfl ?_
    first | omega | exact ⟨by subst k1_0; rfl, rfl⟩ | exact ⟨by subst k1_1; rfl, rfl⟩ | exact ⟨by subst k1_2; rfl, rfl⟩ | exact ⟨by subst k1_3; rfl, rfl⟩ | exact ⟨by subst k1_4; rfl, rfl⟩ | exact ⟨by subst k1_5; rfl, rfl⟩ | exact ⟨by subst k1_6; rfl, rfl⟩
  by_cases k1_8 : w = 8
  ·
    refine g15k (key := 8) (i' := 47) hC rfl rfl k1_8 rfl ?_
    first | omega | exact ⟨by subst k1_0; rfl, rfl⟩ | exact ⟨by subst k1_1; rfl, rfl⟩ | exact ⟨by subst k1_2; rfl, rfl⟩ | exact ⟨by subst k1_3; rfl, rfl⟩ | exact ⟨by subst k1_4; rfl, rfl⟩ | exact ⟨by subst k1_5; rfl, rfl⟩ | exact ⟨by subst k1_6; rfl, rfl⟩
  by_cases k1_9 : w = 9
  ·
    refine g15k (key := 9) (i' := 57) hC rfl rfl k1_9 rfl ?_
    first | omega | exact ⟨by subst k1_0; rfl, rfl⟩ | exact ⟨by subst k1_1; rfl, rfl⟩ | exact ⟨by subst k1_2; rfl, rfl⟩ | exact ⟨by subst k1_3; rfl, rfl⟩ | exact ⟨by subst k1_4; rfl, rfl⟩ | exact ⟨by subst k1_5; rfl, rfl⟩ | exact ⟨by subst k1_6; rfl, rfl⟩
  refine g15d (i' := 63) hC rfl rfl (by show ¬ ((0 : Int) ≤ _ ∧ _ ≤ (9 : Int)); omega) rfl ?_
  first | omega | exact ⟨by subst k1_0; rfl, rfl⟩ | exact ⟨by subst k1_1; rfl, rfl⟩ | exact ⟨by subst k1_2; rfl, rfl⟩ | exact ⟨by subst k1_3; rfl, rfl⟩ | exact ⟨by subst k1_4; rfl, rfl⟩ | exact ⟨by subst k1_5; rfl, rfl⟩ | exact ⟨by subst k1_6; rfl, rfl⟩
theorem m196 (hF : Fix M) (hV : RV V h M) (hW : HW V h) {which f0 n c : Nat} {b : Bool} {cc lf : Nat → Int} (hwh2 : which ≤ 1) (hc : c < nC V h) (hf : M 182 (2 + which) = (f0 : Int)) (he : M 183 (2 + which) = ((f0 + n : Nat) : Int)) (hfn : f0 + n ≤ 1600) (hcc : ∀ k, k < n → M 184 (1600 + f0 + k) = cc k) (hcl : ∀ k, k < n → lal which (cc k)) (hT : Typed cc n b) (hlb : ∀ i, bnd (lf i)) (hlf : ∀ v : Int, 40 ≤ v → v < 60 → lal which v → lfR V h M c (v - 40).toNat = lf (v - 40).toNat) : ax_Ev L X SH 2 196 [(2, 142), (0, (which : Int)), (0, (c : Int))] M (R1 1 (fun x M' => x = pval lf (fun _ => 0) cc n ∧ Sb X196 M M')) := by
  show ax_G L X SH 2 196 0 [(2, 142), (0, (which : Int)), (0, (c : Int)), (3, 0), (3, 0)] [] M _
  have hC := at196
  have hw : wok X196 = true := by decide +kernel
  have hwr : rok X196 := rokI rfl
  have hb := hW.1.2.2.2.2
  have hmb : ∀ i : Int, bnd ((fun _ => 0 : Int → Int) i) := fun _ => (⟨by omega, by omega⟩ : bnd 0)
  obtain ⟨hT1, hT2, hT3⟩ := hT
  have l1 : ∀ (m i : Nat), i + m = n → ∀ ll M1, (∃ u, ll = [(2, 142), (0, (which : Int)), (0, (c : Int)), (0, ((f0 + i : Nat) : Int)), u] ∧ Sb X196 M M1 ∧ M1 142 116 = ((ev lf (fun _ => 0) cc i).2 : Int) ∧ ∀ q, q < (ev lf (fun _ => 0) cc i).2 → M1 230 q = (ev lf (fun _ => 0) cc i).1 q) → ax_G L X SH 2 196 13 ll [] M1 (R1 1 (fun x M' => x = pval lf (fun _ => 0) cc n ∧ Sb X196 M M')) := by
    refine lp ?_ ?_
    · rintro ll M1 ⟨u, rfl, hS, h1, h2⟩
      have hv := vok_ev hlb hmb hT1 n (Nat.le_refl n)
      have ht : (ev lf (fun _ => 0) cc n).2 = 1 := hv.1.trans hT2
      have hp20 := h2 0 (by omega)
      refine g3 hC rfl rfl ?_
      refine g3 hC rfl rfl ?_
      refine g19 hC rfl sh142 (flt12 rfl) ft12_49 ((hS.fix hw hF).g fx_142_49) ?_
      refine g0 hC rfl ?_
      refine g3 hC rfl rfl ?_
      refine g6a hC rfl ⟨by omega, by omega⟩ ?_
      refine r21 (2 + which) hC rfl (by omega) sh183 (Or.inl rfl) (by omega) ((hS _ _ rfl).trans he) ?_
      refine g13g hC rfl (fun h20 => ?_) (fun h20 => (by omega))
      refine g3 hC rfl rfl ?_
      refine g19 hC rfl sh142 (flt12 rfl) ft12_115 ((hS.fix hw hF).g fx_142_115) ?_
      refine g0 hC rfl ?_
      refine r21 (0) hC rfl (by omega) sh230 (Or.inl rfl) (by omega) hp20 ?_
      refine ret1 hC rfl rfl ?_
      exact ⟨rfl, hS⟩
    · rintro i hi ll M1 ⟨u, rfl, hS, h1, h2⟩ hnext
      have hv := vok_ev hlb hmb hT1 i (Nat.le_of_lt hi)
      have hok := hT1 i hi
      have h64 := tys_le hT1 i (Nat.le_of_lt hi)
      have hcl := hcl i hi
      have hes := ev_succ (lf := lf) (mt := fun _ => 0) (c := cc) (k := i)
      have hcode : M1 184 (1600 + (f0 + i)) = cc i := by rw [hS 184 _ rfl, ← Nat.add_assoc]; exact hcc i hi
      have hend := (hS 183 (2 + which) rfl).trans he
      generalize ev lf (fun _ => 0) cc i = x at *
      obtain ⟨s, t⟩ := x
      generalize tys cc i = y at *
      obtain ⟨τ, t1⟩ := y
      obtain ⟨ht, hv⟩ := hv
      dsimp only at ht hv h1 h2 hes h64 ⊢
      subst ht
      generalize cc i = w at *
      unfold tok at hok
      unfold e1 at hes
      dsimp only at hok hes
      have go : ∀ (M2 : ax_M) (z : Int) (k t' : Nat) (u : ax_V), Sb X196 M M2 → M2 230 = up (M1 230) k z → M2 142 116 = (t' : Int) → (∀ q, q < t' → q ≠ k → q < t) → ev lf (fun _ => 0) cc (i + 1) = (up s k z, t') → ax_G L X SH 2 196 13 [(2, 142), (0, (which : Int)), (0, (c : Int)), (0, ((f0 + i : Nat) : Int) + 1), u] [] M2 (R1 1 (fun x M' => x = pval lf (fun _ => 0) cc n ∧ Sb X196 M M')) := by
        intro M2 z k t' u g0 g1 g2 g3 g4
        refine hnext _ _ ⟨u, rfl, g0, ?_, ?_⟩
        · rw [g4]; exact g2
        · rw [g4]
          intro q hq
          rw [g1]
          dsimp only at hq ⊢
          unfold up
          split
          · rfl
          · rename_i z; exact h2 q (g3 q hq z)
      have hput : ∀ x : Int, Fix M1 → t < 64 → ax_Ev L X SH 0 284 [(2, 142), (1, x)] M1 (R0 (fun M' => Sb X196 M1 M' ∧ M' 230 = up (M1 230) t x ∧ M' 142 116 = ((t + 1 : Nat) : Int))) := fun x hF1 q => m284 hF1 h1 (by omega)
      by_cases h3 : 1000 ≤ w
      · rw [if_pos h3] at hok hes
        refine g3 hC rfl rfl ?_
        refine g3 hC rfl rfl ?_
        refine g19 hC rfl sh142 (flt12 rfl) ft12_49 ((hS.fix hw hF).g fx_142_49) ?_
        refine g0 hC rfl ?_
        refine g3 hC rfl rfl ?_
        refine g6a hC rfl ⟨by omega, by omega⟩ ?_
        refine r21 (2 + which) hC rfl (by omega) sh183 (Or.inl rfl) (by omega) hend ?_
        refine g13g hC rfl (fun h20 => (by omega)) (fun h20 => ?_)
        refine g3 hC rfl rfl ?_
        refine g19 hC rfl sh142 (flt12 rfl) ft12_50 ((hS.fix hw hF).g fx_142_50) ?_
        refine g0 hC rfl ?_
        refine g3 hC rfl rfl ?_
        refine g6a hC rfl ⟨by omega, by omega⟩ ?_
        refine r21 (1600 + (f0 + i)) hC rfl (by omega) sh184 (Or.inl rfl) (by omega) hcode ?_
        refine s4 hC rfl rfl rfl ?_
        refine g3 hC rfl rfl ?_
        refine g0 hC rfl ?_
        refine g13l hC rfl (fun h30 => (by omega)) (fun h30 => ?_)
        refine g3 hC rfl rfl ?_
        refine g3 hC rfl rfl ?_
        refine g0 hC rfl ?_
        refine g6s hC rfl ⟨by omega, by omega⟩ ?_
        refine g9 hC rfl ?_
        refine c0 hC rfl rfl rfl (Nat.le_of_ble_eq_true rfl) (Nat.le_of_ble_eq_true rfl) (mayR k284 rfl) (hput _ (hS.fix hw hF) (by omega)) (Nat.le_of_ble_eq_true rfl) (fun M2 hr => ?_)
        obtain ⟨r0, r1, r2⟩ := hr; have hS := hS.then r0 rfl
        refine g14 hC rfl ?_
        refine n3 hC rfl rfl ⟨by omega, by omega⟩ ?_
        refine g14 hC rfl ?_
        exact go _ _ _ _ _ hS r1 r2 (fun q _ _ => by omega) hes
      rw [if_neg h3] at hok hes
      by_cases h4 : 60 ≤ w
      · have := hcl.2 h4 (by omega); omega
      rw [if_neg h4] at hok hes
      by_cases h5 : 40 ≤ w
      · rw [if_pos h5] at hok hes
        have hlw := hlf w h5 (by omega) hcl
        have hl6 := hcl.1 h5 (by omega)
        have hlr : lfR V h M1 c (w - 40).toNat = lf (w - 40).toNat := by
          rw [← hlw]; unfold lfR; rw [hS 142 56 rfl, hS 142 57 rfl, hS 142 58 rfl, hS 142 59 rfl]
        refine g3 hC rfl rfl ?_
        refine g3 hC rfl rfl ?_
        refine g19 hC rfl sh142 (flt12 rfl) ft12_49 ((hS.fix hw hF).g fx_142_49) ?_
        refine g0 hC rfl ?_
        refine g3 hC rfl rfl ?_
        refine g6a hC rfl ⟨by omega, by omega⟩ ?_
        refine r21 (2 + which) hC rfl (by omega) sh183 (Or.inl rfl) (by omega) hend ?_
        refine g13g hC rfl (fun h20 => (by omega)) (fun h20 => ?_)
        refine g3 hC rfl rfl ?_
        refine g19 hC rfl sh142 (flt12 rfl) ft12_50 ((hS.fix hw hF).g fx_142_50) ?_
        refine g0 hC rfl ?_
        refine g3 hC rfl rfl ?_
        refine g6a hC rfl ⟨by omega, by omega⟩ ?_
        refine r21 (1600 + (f0 + i)) hC rfl (by omega) sh184 (Or.inl rfl) (by omega) hcode ?_
        refine s4 hC rfl rfl rfl ?_
        refine g3 hC rfl rfl ?_
        refine g0 hC rfl ?_
        refine g13l hC rfl (fun h30 => ?_) (fun h30 => (by omega))
        refine g3 hC rfl rfl ?_
        refine g0 hC rfl ?_
        refine g13l hC rfl (fun h40 => (by omega)) (fun h40 => ?_)
        refine g3 hC rfl rfl ?_
        refine g3 hC rfl rfl ?_
        refine g3 hC rfl rfl ?_
        refine g0 hC rfl ?_
        refine g6s hC rfl ⟨by omega, by omega⟩ ?_
        refine g3 hC rfl rfl ?_
        refine c1 hC rfl rfl rfl (Nat.le_of_ble_eq_true rfl) (Nat.le_of_ble_eq_true rfl) (mayR k286 rfl) (m286 (hS.fix hw hF) (hV.sb hS hwr) hW (c := c) hc (by omega) (by omega)) (Nat.le_of_ble_eq_true rfl) (fun x M2 hr => ?_)
        obtain ⟨rfl, hr⟩ := hr; replace hr := hr.symm; subst hr; rw [hlr]
        refine c0 hC rfl rfl rfl (Nat.le_of_ble_eq_true rfl) (Nat.le_of_ble_eq_true rfl) (mayR k284 rfl) (hput _ (hS.fix hw hF) (by omega)) (Nat.le_of_ble_eq_true rfl) (fun M2 hr => ?_)
        obtain ⟨r0, r1, r2⟩ := hr; have hS := hS.then r0 rfl
        refine g14 hC rfl ?_
        refine n3 hC rfl rfl ⟨by omega, by omega⟩ ?_
        refine g14 hC rfl ?_
        exact go _ _ _ _ _ hS r1 r2 (fun q _ _ => by omega) hes
      rw [if_neg h5] at hok hes
      by_cases h6 : w = 13
      · rw [if_pos h6] at hok hes
        refine g3 hC rfl rfl ?_
        refine g3 hC rfl rfl ?_
        refine g19 hC rfl sh142 (flt12 rfl) ft12_49 ((hS.fix hw hF).g fx_142_49) ?_
        refine g0 hC rfl ?_
        refine g3 hC rfl rfl ?_
        refine g6a hC rfl ⟨by omega, by omega⟩ ?_
        refine r21 (2 + which) hC rfl (by omega) sh183 (Or.inl rfl) (by omega) hend ?_
        refine g13g hC rfl (fun h20 => (by omega)) (fun h20 => ?_)
        refine g3 hC rfl rfl ?_
        refine g19 hC rfl sh142 (flt12 rfl) ft12_50 ((hS.fix hw hF).g fx_142_50) ?_
        refine g0 hC rfl ?_
        refine g3 hC rfl rfl ?_
        refine g6a hC rfl ⟨by omega, by omega⟩ ?_
        refine r21 (1600 + (f0 + i)) hC rfl (by omega) sh184 (Or.inl rfl) (by omega) hcode ?_
        refine s4 hC rfl rfl rfl ?_
        refine g3 hC rfl rfl ?_
        refine g0 hC rfl ?_
        refine g13l hC rfl (fun h30 => ?_) (fun h30 => (by omega))
        refine g3 hC rfl rfl ?_
        refine g0 hC rfl ?_
        refine g13l hC rfl (fun h40 => ?_) (fun h40 => (by omega))
        refine g3 hC rfl rfl ?_
        refine g0 hC rfl ?_
        refine g13n hC rfl (fun h52 => (by omega)) (fun h52 => ?_)
        refine g3 hC rfl rfl ?_
        refine g1 hC rfl ?_
        refine c0 hC rfl rfl rfl (Nat.le_of_ble_eq_true rfl) (Nat.le_of_ble_eq_true rfl) (mayR k284 rfl) (hput _ (hS.fix hw hF) (by omega)) (Nat.le_of_ble_eq_true rfl) (fun M2 hr => ?_)
        obtain ⟨r0, r1, r2⟩ := hr; have hS := hS.then r0 rfl
        refine g14 hC rfl ?_
        refine n3 hC rfl rfl ⟨by omega, by omega⟩ ?_
        refine g14 hC rfl ?_
        exact go _ _ _ _ _ hS r1 r2 (fun q _ _ => by omega) hes
      rw [if_neg h6] at hok hes
      by_cases h7 : w = 12
      · rw [if_pos h7] at hok hes
        have hvb := (hv (t - 1) (by omega)).1 hok.2
        have h21 := h2 (t - 1) (by omega)
        refine g3 hC rfl rfl ?_
        refine g3 hC rfl rfl ?_
        refine g19 hC rfl sh142 (flt12 rfl) ft12_49 ((hS.fix hw hF).g fx_142_49) ?_
        refine g0 hC rfl ?_
        refine g3 hC rfl rfl ?_
        refine g6a hC rfl ⟨by omega, by omega⟩ ?_
        refine r21 (2 + which) hC rfl (by omega) sh183 (Or.inl rfl) (by omega) hend ?_
        refine g13g hC rfl (fun h20 => (by omega)) (fun h20 => ?_)
        refine g3 hC rfl rfl ?_
        refine g19 hC rfl sh142 (flt12 rfl) ft12_50 ((hS.fix hw hF).g fx_142_50) ?_
        refine g0 hC rfl ?_
        refine g3 hC rfl rfl ?_
        refine g6a hC rfl ⟨by omega, by omega⟩ ?_
        refine r21 (1600 + (f0 + i)) hC rfl (by omega) sh184 (Or.inl rfl) (by omega) hcode ?_
        refine s4 hC rfl rfl rfl ?_
        refine g3 hC rfl rfl ?_
        refine g0 hC rfl ?_
        refine g13l hC rfl (fun h30 => ?_) (fun h30 => (by omega))
        refine g3 hC rfl rfl ?_
        refine g0 hC rfl ?_
        refine g13l hC rfl (fun h40 => ?_) (fun h40 => (by omega))
        refine g3 hC rfl rfl ?_
        refine g0 hC rfl ?_
        refine g13n hC rfl (fun h52 => ?_) (fun h52 => (by omega))
        refine g3 hC rfl rfl ?_
        refine g0 hC rfl ?_
        refine g13n hC rfl (fun h59 => (by omega)) (fun h59 => ?_)
        refine g3 hC rfl rfl ?_
        refine g19 hC rfl sh142 (flt12 rfl) ft12_115 ((hS.fix hw hF).g fx_142_115) ?_
        refine g3 hC rfl rfl ?_
        refine g19 hC rfl sh142 (flt12 rfl) ft12_116 h1 ?_
        refine g0 hC rfl ?_
        refine g6s hC rfl ⟨by omega, by omega⟩ ?_
        refine g1 hC rfl ?_
        refine g3 hC rfl rfl ?_
        refine g19 hC rfl sh142 (flt12 rfl) ft12_115 ((hS.fix hw hF).g fx_142_115) ?_
        refine g3 hC rfl rfl ?_
        refine g19 hC rfl sh142 (flt12 rfl) ft12_116 h1 ?_
        refine g0 hC rfl ?_
        refine g6s hC rfl ⟨by omega, by omega⟩ ?_
        refine r21 (t - 1) hC rfl (by omega) sh230 (Or.inl rfl) (by omega) h21 ?_
        refine g7s hC rfl ⟨by omega, by omega⟩ ?_
        refine r22s (t - 1) hC rfl (by omega) sh230 (by omega) rfl hS rfl (fun hS => ?_)
        refine g14 hC rfl ?_
        refine n3 hC rfl rfl ⟨by omega, by omega⟩ ?_
        refine g14 hC rfl ?_
        exact go _ _ _ _ _ hS ax_upf (by rw [ax_up2n (by decide)]; exact h1) (fun q z _ => z) hes
      rw [if_neg h7] at hok hes
      obtain ⟨a1, a2, a3, a4, a5⟩ := hok
      have k1 := hv (t - 1) (by omega)
      have k2 := hv (t - 2) (by omega)
      rw [a4] at k1
      rw [a5] at k2
      have r1 : -1000000 ≤ s (t - 1) ∧ s (t - 1) ≤ 1000000 := by
        by_cases q : 10 ≤ w
        · have := k1.1 (decide_eq_true q); omega
        · exact k1.2 (decide_eq_false q)
      have r2 : -1000000 ≤ s (t - 2) ∧ s (t - 2) ≤ 1000000 := by
        by_cases q : 10 ≤ w
        · have := k2.1 (decide_eq_true q); omega
        · exact k2.2 (decide_eq_false q)
      rw [← h2 (t - 1) (by omega)] at r1
      rw [← h2 (t - 2) (by omega)] at r2
      refine g3 hC rfl rfl ?_
      refine g3 hC rfl rfl ?_
      refine g19 hC rfl sh142 (flt12 rfl) ft12_49 ((hS.fix hw hF).g fx_142_49) ?_
      refine g0 hC rfl ?_
      refine g3 hC rfl rfl ?_
      refine g6a hC rfl ⟨by omega, by omega⟩ ?_
      refine r21 (2 + which) hC rfl (by omega) sh183 (Or.inl rfl) (by omega) hend ?_
      refine g13g hC rfl (fun h20 => (by omega)) (fun h20 => ?_)
      refine g3 hC rfl rfl ?_
      refine g19 hC rfl sh142 (flt12 rfl) ft12_50 ((hS.fix hw hF).g fx_142_50) ?_
      refine g0 hC rfl ?_
      refine g3 hC rfl rfl ?_
      refine g6a hC rfl ⟨by omega, by omega⟩ ?_
      refine r21 (1600 + (f0 + i)) hC rfl (by omega) sh184 (Or.inl rfl) (by omega) hcode ?_
      refine s4 hC rfl rfl rfl ?_
      refine g3 hC rfl rfl ?_
      refine g0 hC rfl ?_
      refine g13l hC rfl (fun h30 => ?_) (fun h30 => (by omega))
      refine g3 hC rfl rfl ?_
      refine g0 hC rfl ?_
      refine g13l hC rfl (fun h40 => ?_) (fun h40 => (by omega))
      refine g3 hC rfl rfl ?_
      refine g0 hC rfl ?_
      refine g13n hC rfl (fun h52 => ?_) (fun h52 => (by omega))
      refine g3 hC rfl rfl ?_
      refine g0 hC rfl ?_
      refine g13n hC rfl (fun h59 => ?_) (fun h59 => (by omega))
      refine g3 hC rfl rfl ?_
      refine g3 hC rfl rfl ?_
      refine c0 hC rfl rfl rfl (Nat.le_of_ble_eq_true rfl) (Nat.le_of_ble_eq_true rfl) (mayR k285 rfl) (m285 (hS.fix hw hF) h1 a3 (by omega) a1 a2 r2 r1) (Nat.le_of_ble_eq_true rfl) (fun M2 hr => ?_)
      obtain ⟨y0, y1, y2⟩ := hr; have hS := hS.then y0 rfl
      refine n3 hC rfl rfl ⟨by omega, by omega⟩ ?_
      refine g14 hC rfl ?_
      rw [h2 (t - 1) (by omega), h2 (t - 2) (by omega)] at y1
      exact go _ _ _ _ _ hS y1 y2 (fun q _ _ => by omega) hes
  have hS : Sb X196 M M := Sb.refl
  refine g3 hC rfl rfl ?_
  refine g3 hC rfl rfl ?_
  refine g20s hC rfl sh142 (flt12 rfl) (by rw [fy12_53]; rfl) hS rfl (fun hS => ?_)
  refine g3 hC rfl rfl ?_
  refine g0 hC rfl ?_
  refine g20s hC rfl sh142 (flt12 rfl) (by rw [fy12_116]; rfl) hS rfl (fun hS => ?_)
  refine g3 hC rfl rfl ?_
  refine g19 hC rfl sh142 (flt12 rfl) ft12_48 ((hS.fix hw hF).g fx_142_48) ?_
  refine g0 hC rfl ?_
  refine g3 hC rfl rfl ?_
  refine g6a hC rfl ⟨by omega, by omega⟩ ?_
  refine r21 (2 + which) hC rfl (by omega) sh182 (Or.inl rfl) (by omega) ((hS _ _ rfl).trans hf) ?_
  refine s3 hC rfl rfl rfl ?_
  exact l1 n 0 (Nat.zero_add n) _ _ ⟨_, rfl, hS, up1, fun q hq => absurd hq (Nat.not_lt_zero q)⟩
end RCO
