section SMB
variable {L : Nat} {X : Nat → Int} {M V : ax_M} {h n : Nat}
theorem op0 (hR : Rel n M) (hn : n ≤ 1000) {a b c d e : Int} : OP L X n 0 100 154 [(2, 0), (0, a), (0, b), (0, c), (0, d), (0, e)] [(2, 142), (0, a), (0, b), (0, c), (0, d), (0, e)] M := by
  have hR0 := hR
  obtain ⟨h, hh, hF, hG⟩ := hR
  have hG0 := hG
  obtain ⟨hW, hSW, hPW, hRV, hGT, hGN, hGM, hGH, hGS, hGX⟩ := hG
  have hV : HV M h M := HV.refl
  have hH3 : M 0 3 = (h : Int) := hGX.1.1
  have hN := hGN 0 (by decide)
  have ht := hGT.1
  refine OP.tw (d' := 1) (m100 hR0 hn) (Q := fun x M1 y M2 => (1580 < M1 142 1 ∧ y = -1 ∧ M2 = ax_up M1 144 0 (M1 144 0 + 1)) ∨ (M1 142 1 ≤ 1580 ∧ y = M1 142 1 + 20 ∧ Sb XF M1 M2 ∧ M2 142 1 = M1 142 1 + 20 ∧ M2 143 = fd (wsel a b c d e) (M1 142 1).toNat 20 (M1 143))) (fun x M1 hx => ?_) (fun x M1 y M2 hx hy => ?_) (by decide) (by decide)
  · rcases hx with ⟨-, -, rfl⟩ | ⟨-, -, hS, -, -⟩
    · refine m154 (hF.upA (t := 0) rfl (by decide)) ?_ ?_
      · rw [ax_up_ne (by decide), ht.2.2]; exact ⟨ht.1, ht.2.1⟩
      · rw [ax_up_ne (by decide)]; omega
    · refine m154 (hS.fix (by decide +kernel) hF) ?_ ?_
      · rw [hS 142 1 rfl, ht.2.2]; exact ⟨ht.1, ht.2.1⟩
      · rw [hS 144 0 rfl]; omega
  · rcases hx with ⟨h1, rfl, rfl⟩ | ⟨h1, rfl, hS, h2, h3⟩
    · rw [ax_up_ne (by decide), ax_up_ne (by decide)] at hy
      rcases hy with ⟨y1, y2, y3⟩ | ⟨y1, -⟩
      · exact ⟨y2, relInc hR0 y3⟩
      · exfalso; omega
    · rw [hS 142 1 rfl] at hy
      rcases hy with ⟨y1, -⟩ | ⟨y1, y2, y3, y4, y5⟩
      · exfalso; omega
      · refine ⟨by omega, h, hh, y3.fix (by decide +kernel) (hS.fix (by decide +kernel) hF), ?_⟩
        have hT : Sb WT M M2 := (hS.mono rfl).then y3 rfl
        refine hG0.re hh hT rfl (Or.inl rfl) (Or.inl rfl) (Or.inl rfl) (Or.inr ?_) (Or.inl ⟨rfl, by omega⟩) (Or.inl rfl) (Or.inl rfl) (Or.inl rfl) (Or.inl rfl)
        have e1 : M2 1 1 = M 1 1 + 20 := (y3 1 1 rfl).trans h2
        refine ⟨⟨by omega, by omega, by omega⟩, fun i hi => ?_, ?_⟩
        · have e2 : M2 2 i = fd (wsel a b c d e) (M 1 1).toNat 20 (M 2) i := (y3 2 i rfl).trans (by rw [h3])
          have e3 : M2 143 i = fd (wsel a b c d e) (M 1 1).toNat 20 (M 2) i := by
            rw [y5, ht.2.2]; unfold fd; split
            · rfl
            · rw [hS 143 i rfl]; exact (hGT.2.1 i hi).1
          rw [e2, e3]
          refine ⟨rfl, ?_⟩
          unfold fd; split
          · exact byt_b
          · exact (hGT.2.1 i hi).2
        · rw [y3 142 7 rfl, y3 142 8 rfl, y3 1 8 rfl, y3 1 9 rfl, hS 142 7 rfl, hS 142 8 rfl, hS 1 8 rfl, hS 1 9 rfl]; exact hGT.2.2
theorem m101 (hF : Fix M) (hN : 0 ≤ M 140 0 ∧ M 140 0 ≤ 1000000) {a : Int} : ax_Ev L X SH 1 101 [(2, 0), (0, a)] M (R1 0 (fun x M' => ((a < 0 ∨ M 1 1 < a) ∧ x = 0 ∧ M' = ax_up M 140 0 (M 140 0 + 1)) ∨ (0 ≤ a ∧ a ≤ M 1 1 ∧ x = 1 ∧ M' = ax_up M 1 1 a))) := by
  show ax_G L X SH 1 101 0 [(2, 0), (0, a)] [] M _
  have hC := at101
  have hw : wok WL = true := by decide +kernel
  have hS : Sb WL M M := Sb.refl
  refine g3 hC rfl rfl ?_
  refine g12l hC rfl (fun h1 => ?_) (fun h1 => ?_)
  ·
    refine g3 hC rfl rfl ?_
    refine g0 hC rfl ?_
    refine c1 hC rfl rfl rfl (Nat.le_of_ble_eq_true rfl) (Nat.le_of_ble_eq_true rfl) rfl (m139 (k := 0) hF (by decide) hN) (Nat.le_of_ble_eq_true rfl) (fun x M2 hr => ?_)
    obtain ⟨rfl, hr⟩ := hr
    refine ret3 hC rfl ⟨by omega, by omega⟩ ?_
    exact Or.inl ⟨by omega, rfl, hr⟩
  ·
    refine g3 hC rfl rfl ?_
    refine g3 hC rfl rfl ?_
    refine g19 hC rfl rfl (Nat.le_of_ble_eq_true rfl) rfl ((hS.fix hw hF).g rfl) ?_
    refine g19 hC rfl rfl (Nat.le_of_ble_eq_true rfl) rfl rfl ?_
    refine g13s hC rfl (fun h6 => ?_) (fun h6 => ?_)
    ·
      refine g3 hC rfl rfl ?_
      refine g19 hC rfl rfl (Nat.le_of_ble_eq_true rfl) rfl ((hS.fix hw hF).g rfl) ?_
      refine g3 hC rfl rfl ?_
      refine g20s hC rfl rfl (Nat.le_of_ble_eq_true rfl) rfl hS rfl (fun hS => ?_)
      refine g0 hC rfl ?_
      refine ret3 hC rfl ⟨by omega, by omega⟩ ?_
      exact Or.inr ⟨by omega, by omega, rfl, rfl⟩
    ·
      refine g3 hC rfl rfl ?_
      refine g0 hC rfl ?_
      refine c1 hC rfl rfl rfl (Nat.le_of_ble_eq_true rfl) (Nat.le_of_ble_eq_true rfl) rfl (m139 (k := 0) hF (by decide) hN) (Nat.le_of_ble_eq_true rfl) (fun x M2 hr => ?_)
      obtain ⟨rfl, hr⟩ := hr
      refine ret3 hC rfl ⟨by omega, by omega⟩ ?_
      exact Or.inl ⟨by omega, rfl, hr⟩
theorem m155 (hF : Fix M) (hN : 0 ≤ M 144 0 ∧ M 144 0 ≤ 1000000) {a : Int} : ax_Ev L X SH 1 155 [(2, 142), (0, a)] M (R1 0 (fun x M' => ((a < 0 ∨ M 142 1 < a) ∧ x = 0 ∧ M' = ax_up M 144 0 (M 144 0 + 1)) ∨ (0 ≤ a ∧ a ≤ M 142 1 ∧ x = 1 ∧ M' = ax_up M 142 1 a))) := by
  show ax_G L X SH 1 155 0 [(2, 142), (0, a)] [] M _
  have hC := at155
  have hw : wok XL = true := by decide +kernel
  have hS : Sb XL M M := Sb.refl
  refine g3 hC rfl rfl ?_
  refine g12l hC rfl (fun h1 => ?_) (fun h1 => ?_)
  ·
    refine g3 hC rfl rfl ?_
    refine g19 hC rfl sh142 (flt12 rfl) ft12_9 ((hS.fix hw hF).g fx_142_9) ?_
    refine g0 hC rfl ?_
    refine g17 hC rfl (by decide) ?_
    refine r21 (0) hC rfl (by omega) sh144 (Or.inl rfl) (by omega) (hS 144 (0) rfl) ?_
    refine g0 hC rfl ?_
    refine g6a hC rfl ⟨by omega, by omega⟩ ?_
    refine r22 (0) hC rfl (by omega) sh144 (by omega) rfl ?_
    refine g0 hC rfl ?_
    refine ret3 hC rfl ⟨by omega, by omega⟩ ?_
    exact Or.inl ⟨by omega, rfl, rfl⟩
  ·
    refine g3 hC rfl rfl ?_
    refine g3 hC rfl rfl ?_
    refine g19 hC rfl sh142 (flt12 rfl) ft12_1 (rfl : M 142 1 = M 142 1) ?_
    refine g13s hC rfl (fun h5 => ?_) (fun h5 => ?_)
    ·
      refine g3 hC rfl rfl ?_
      refine g3 hC rfl rfl ?_
      refine g20s hC rfl sh142 (flt12 rfl) (by rw [fy12_1]; rfl) hS rfl (fun hS => ?_)
      refine g0 hC rfl ?_
      refine ret3 hC rfl ⟨by omega, by omega⟩ ?_
      exact Or.inr ⟨by omega, by omega, rfl, rfl⟩
    ·
      refine g3 hC rfl rfl ?_
      refine g19 hC rfl sh142 (flt12 rfl) ft12_9 ((hS.fix hw hF).g fx_142_9) ?_
      refine g0 hC rfl ?_
      refine g17 hC rfl (by decide) ?_
      refine r21 (0) hC rfl (by omega) sh144 (Or.inl rfl) (by omega) (hS 144 (0) rfl) ?_
      refine g0 hC rfl ?_
      refine g6a hC rfl ⟨by omega, by omega⟩ ?_
      refine r22 (0) hC rfl (by omega) sh144 (by omega) rfl ?_
      refine g0 hC rfl ?_
      refine ret3 hC rfl ⟨by omega, by omega⟩ ?_
      exact Or.inl ⟨by omega, rfl, rfl⟩
theorem op1 (hR : Rel n M) (hn : n ≤ 1000) {a : Int} : OP L X n 0 101 155 [(2, 0), (0, a)] [(2, 142), (0, a)] M := by
  have hR0 := hR
  obtain ⟨h, hh, hF, hG⟩ := hR
  have hG0 := hG
  obtain ⟨hW, hSW, hPW, hRV, hGT, hGN, hGM, hGH, hGS, hGX⟩ := hG
  have hV : HV M h M := HV.refl
  have hH3 : M 0 3 = (h : Int) := hGX.1.1
  have hN := hGN 0 (by decide)
  have ht := hGT.1
  refine OP.tw (d' := 1) (m101 hF ⟨by omega, by omega⟩) (Q := fun x M1 y M2 => ((a < 0 ∨ M1 142 1 < a) ∧ y = 0 ∧ M2 = ax_up M1 144 0 (M1 144 0 + 1)) ∨ (0 ≤ a ∧ a ≤ M1 142 1 ∧ y = 1 ∧ M2 = ax_up M1 142 1 a)) (fun x M1 hx => ?_) (fun x M1 y M2 hx hy => ?_) (by decide) (by decide)
  · rcases hx with ⟨-, -, rfl⟩ | ⟨-, -, -, rfl⟩
    · exact m155 (hF.upA (t := 0) rfl (by decide)) (by rw [ax_up_ne (by decide)]; omega)
    · exact m155 (hF.upF (c := 10) rfl (by decide +kernel)) (by rw [ax_up_ne (by decide)]; omega)
  · rcases hx with ⟨h1, rfl, rfl⟩ | ⟨h1, h1', rfl, rfl⟩
    · rw [ax_up_ne (by decide), ax_up_ne (by decide)] at hy
      rcases hy with ⟨y1, y2, y3⟩ | ⟨y1, y2, -⟩
      · exact ⟨y2, relInc hR0 y3⟩
      · exfalso; omega
    · rw [ax_up_ne (by decide)] at hy
      rcases hy with ⟨y1, -⟩ | ⟨y1, y2, y3, y4⟩
      · exfalso; omega
      · have hT : Sb WT M M2 := by rw [y4]; exact (Sb.refl.up rfl).up rfl
        refine ⟨y3, h, hh, hT.fix (by decide +kernel) hF, ?_⟩
        refine hG0.re hh hT rfl (Or.inl rfl) (Or.inl rfl) (Or.inl rfl) (Or.inr ?_) (Or.inl ⟨rfl, by omega⟩) (Or.inl rfl) (Or.inl rfl) (Or.inl rfl) (Or.inl rfl)
        rw [y4]
        refine ⟨?_, fun i hi => hGT.2.1 i hi, hGT.2.2⟩
        rw [ax_up_at, ax_up_ne (by decide), ax_up_at]
        exact ⟨by omega, by omega, rfl⟩
theorem m103 (hF : Fix M) {a : Int} : ax_Ev L X SH 0 103 [(2, 0), (0, a)] M (R1 0 (fun x M' => x = (if a = 0 then M 1 8 else if a = 1 then M 1 9 else -1) ∧ M' = M)) := by
  show ax_G L X SH 0 103 0 [(2, 0), (0, a)] [] M _
  have hC := at103
  have hw := wX0
  have hS : Sb X0 M M := Sb.refl
  refine g3 hC rfl rfl ?_
  refine g12n hC rfl (fun h1 => ?_) (fun h1 => ?_)
  ·
    refine g3 hC rfl rfl ?_
    refine g0 hC rfl ?_
    refine g13n hC rfl (fun h8 => ?_) (fun h8 => ?_)
    ·
      refine g0 hC rfl ?_
      refine ret1 hC rfl rfl ?_
      exact ⟨by rw [if_neg (by omega), if_neg (by omega)], rfl⟩
    ·
      refine g3 hC rfl rfl ?_
      refine g19 hC rfl rfl (Nat.le_of_ble_eq_true rfl) rfl ((hS.fix hw hF).g rfl) ?_
      refine g19 hC rfl rfl (Nat.le_of_ble_eq_true rfl) rfl (hS 1 9 rfl) ?_
      refine g14 hC rfl ?_
      refine ret1 hC rfl rfl ?_
      exact ⟨by rw [if_neg (by omega), if_pos (by omega)], rfl⟩
  ·
    refine g3 hC rfl rfl ?_
    refine g19 hC rfl rfl (Nat.le_of_ble_eq_true rfl) rfl ((hS.fix hw hF).g rfl) ?_
    refine g19 hC rfl rfl (Nat.le_of_ble_eq_true rfl) rfl (hS 1 8 rfl) ?_
    refine ret1 hC rfl rfl ?_
    exact ⟨by rw [if_pos (by omega)], rfl⟩
theorem m182 (hF : Fix M) {a : Int} : ax_Ev L X SH 0 182 [(2, 142), (0, a)] M (R1 0 (fun x M' => x = (if a = 0 then M 142 7 else if a = 1 then M 142 8 else -1) ∧ M' = M)) := by
  show ax_G L X SH 0 182 0 [(2, 142), (0, a)] [] M _
  have hC := at182
  have hw := wX0
  have hS : Sb X0 M M := Sb.refl
  refine g3 hC rfl rfl ?_
  refine g12n hC rfl (fun h1 => ?_) (fun h1 => ?_)
  ·
    refine g3 hC rfl rfl ?_
    refine g0 hC rfl ?_
    refine g13n hC rfl (fun h7 => ?_) (fun h7 => ?_)
    ·
      refine g0 hC rfl ?_
      refine ret1 hC rfl rfl ?_
      exact ⟨by rw [if_neg (by omega), if_neg (by omega)], rfl⟩
    ·
      refine g3 hC rfl rfl ?_
      refine g19 hC rfl sh142 (flt12 rfl) ft12_8 (hS 142 8 rfl) ?_
      refine g14 hC rfl ?_
      refine ret1 hC rfl rfl ?_
      exact ⟨by rw [if_neg (by omega), if_pos (by omega)], rfl⟩
  ·
    refine g3 hC rfl rfl ?_
    refine g19 hC rfl sh142 (flt12 rfl) ft12_7 (hS 142 7 rfl) ?_
    refine g14 hC rfl ?_
    refine ret1 hC rfl rfl ?_
    exact ⟨by rw [if_pos (by omega)], rfl⟩
theorem op3 (hR : Rel n M) {a : Int} : OP L X n 0 103 182 [(2, 0), (0, a)] [(2, 142), (0, a)] M := by
  have hR0 := hR
  obtain ⟨h, hh, hF, hG⟩ := hR
  have hG0 := hG
  obtain ⟨hW, hSW, hPW, hRV, hGT, hGN, hGM, hGH, hGS, hGX⟩ := hG
  have hV : HV M h M := HV.refl
  have hH3 : M 0 3 = (h : Int) := hGX.1.1
  refine OP.ro (d' := 0) hR0 (m103 hF) ?_ (by decide) (by decide)
  rw [← hGT.2.2.1, ← hGT.2.2.2]
  exact m182 hF
theorem m135 (hF : Fix M) (hq1 : 0 ≤ M 0 14 ∧ M 0 14 ≤ 74) {a : Int} : ax_Ev L X SH 1 135 [(2, 0), (0, a)] M (R1 0 (fun x M' => x = (if 0 ≤ a ∧ a < M 0 14 then M 139 a.toNat else -1) ∧ M' = M)) := by
  show ax_G L X SH 1 135 0 [(2, 0), (0, a)] [] M _
  have hC := at135
  have hw := wX0
  have hS : Sb X0 M M := Sb.refl
  by_cases z : 0 ≤ a ∧ a < M 0 14
  · obtain ⟨k, rfl⟩ : ∃ k : Nat, a = (k : Int) := ⟨a.toNat, by omega⟩
    rw [if_pos z]
    refine g3 hC rfl rfl ?_
    refine g3 hC rfl rfl ?_
    refine g19 hC rfl rfl (Nat.le_of_ble_eq_true rfl) rfl (hS 0 14 rfl) ?_
    refine c1 hC rfl rfl rfl (Nat.le_of_ble_eq_true rfl) (Nat.le_of_ble_eq_true rfl) rfl (m140) (Nat.le_of_ble_eq_true rfl) (fun x M2 hr => ?_)
    obtain ⟨rfl, hr⟩ := hr; replace hr := hr.symm; subst hr; rw [if_pos z]
    refine g12e hC rfl (fun h4 => (by omega)) (fun h4 => ?_)
    refine g3 hC rfl rfl ?_
    refine g19 hC rfl rfl (Nat.le_of_ble_eq_true rfl) rfl ((hS.fix hw hF).g rfl) ?_
    refine g3 hC rfl rfl ?_
    refine r21 (k) hC rfl (by omega) sh139 (Or.inl rfl) (by omega) (hS 139 (k) rfl) ?_
    refine g14 hC rfl ?_
    refine ret1 hC rfl rfl ?_
    exact ⟨rfl, rfl⟩
  · rw [if_neg z]
    refine g3 hC rfl rfl ?_
    refine g3 hC rfl rfl ?_
    refine g19 hC rfl rfl (Nat.le_of_ble_eq_true rfl) rfl (hS 0 14 rfl) ?_
    refine c1 hC rfl rfl rfl (Nat.le_of_ble_eq_true rfl) (Nat.le_of_ble_eq_true rfl) rfl (m140) (Nat.le_of_ble_eq_true rfl) (fun x M2 hr => ?_)
    obtain ⟨rfl, hr⟩ := hr; replace hr := hr.symm; subst hr; rw [if_neg z]
    refine g12e hC rfl (fun h4 => ?_) (fun h4 => (by omega))
    refine g0 hC rfl ?_
    refine ret1 hC rfl rfl ?_
    exact ⟨rfl, rfl⟩
theorem m296 (hF : Fix M) (hq1 : 0 ≤ M 142 120 ∧ M 142 120 ≤ 74) {a : Int} : ax_Ev L X SH 1 296 [(2, 142), (0, a)] M (R1 0 (fun x M' => x = (if 0 ≤ a ∧ a < M 142 120 then M 231 a.toNat else -1) ∧ M' = M)) := by
  show ax_G L X SH 1 296 0 [(2, 142), (0, a)] [] M _
  have hC := at296
  have hw := wX0
  have hS : Sb X0 M M := Sb.refl
  by_cases z : 0 ≤ a ∧ a < M 142 120
  · obtain ⟨k, rfl⟩ : ∃ k : Nat, a = (k : Int) := ⟨a.toNat, by omega⟩
    rw [if_pos z]
    refine g3 hC rfl rfl ?_
    refine g12l hC rfl (fun h1 => (by omega)) (fun h1 => ?_)
    refine g3 hC rfl rfl ?_
    refine g3 hC rfl rfl ?_
    refine g19 hC rfl sh142 (flt12 rfl) ft12_120 (hS 142 120 rfl) ?_
    refine g13g hC rfl (fun h5 => (by omega)) (fun h5 => ?_)
    refine g3 hC rfl rfl ?_
    refine g19 hC rfl sh142 (flt12 rfl) ft12_119 ((hS.fix hw hF).g fx_142_119) ?_
    refine g3 hC rfl rfl ?_
    refine r21 (k) hC rfl (by omega) sh231 (Or.inl rfl) (by omega) (hS 231 (k) rfl) ?_
    refine g14 hC rfl ?_
    refine ret1 hC rfl rfl ?_
    exact ⟨rfl, rfl⟩
  · rw [if_neg z]
    refine g3 hC rfl rfl ?_
    refine g12l hC rfl (fun h1 => ?_) (fun h1 => ?_)
    ·
      refine g0 hC rfl ?_
      refine ret1 hC rfl rfl ?_
      exact ⟨rfl, rfl⟩
    ·
      refine g3 hC rfl rfl ?_
      refine g3 hC rfl rfl ?_
      refine g19 hC rfl sh142 (flt12 rfl) ft12_120 (hS 142 120 rfl) ?_
      refine g13g hC rfl (fun h5 => ?_) (fun h5 => (by omega))
      refine g0 hC rfl ?_
      refine ret1 hC rfl rfl ?_
      exact ⟨rfl, rfl⟩
theorem op35 (hR : Rel n M) {a : Int} : OP L X n 0 135 296 [(2, 0), (0, a)] [(2, 142), (0, a)] M := by
  have hR0 := hR
  obtain ⟨h, hh, hF, hG⟩ := hR
  have hG0 := hG
  obtain ⟨hW, hSW, hPW, hRV, hGT, hGN, hGM, hGH, hGS, hGX⟩ := hG
  have hV : HV M h M := HV.refl
  have hH3 : M 0 3 = (h : Int) := hGX.1.1
  have hx := hGX.2.2.2.2
  refine OP.ro (d' := 1) hR0 (m135 hF ⟨hx.1.1, hx.1.2.1⟩) ?_ (by decide) (by decide)
  have := m296 (L := L) (X := X) hF (a := a) (by rw [hx.1.2.2]; exact ⟨hx.1.1, hx.1.2.1⟩)
  rw [hx.1.2.2] at this
  by_cases z : 0 ≤ a ∧ a < M 0 14
  · rw [if_pos z] at this ⊢
    rw [hx.2 a.toNat (by omega) (by omega)] at this
    exact this
  · rw [if_neg z] at this ⊢; exact this
theorem m137 (hF : Fix M) {a : Int} : ax_Ev L X SH 1 137 [(2, 0), (0, a)] M (R1 0 (fun x M' => x = (if 0 ≤ a ∧ a < 6 then M 140 a.toNat else -1) ∧ M' = M)) := by
  show ax_G L X SH 1 137 0 [(2, 0), (0, a)] [] M _
  have hC := at137
  have hw := wX0
  have hS : Sb X0 M M := Sb.refl
  by_cases z : 0 ≤ a ∧ a < 6
  · obtain ⟨k, rfl⟩ : ∃ k : Nat, a = (k : Int) := ⟨a.toNat, by omega⟩
    rw [if_pos z]
    refine g3 hC rfl rfl ?_
    refine g3 hC rfl rfl ?_
    refine g19 hC rfl rfl (Nat.le_of_ble_eq_true rfl) rfl ((hS.fix hw hF).g rfl) ?_
    refine g23 hC rfl sh140 ?_
    refine c1 hC rfl rfl rfl (Nat.le_of_ble_eq_true rfl) (Nat.le_of_ble_eq_true rfl) rfl (m140) (Nat.le_of_ble_eq_true rfl) (fun x M2 hr => ?_)
    obtain ⟨rfl, hr⟩ := hr; replace hr := hr.symm; subst hr; rw [if_pos (by omega)]
    refine g12e hC rfl (fun h5 => (by omega)) (fun h5 => ?_)
    refine g3 hC rfl rfl ?_
    refine g19 hC rfl rfl (Nat.le_of_ble_eq_true rfl) rfl ((hS.fix hw hF).g rfl) ?_
    refine g3 hC rfl rfl ?_
    refine r21 (k) hC rfl (by omega) sh140 (Or.inl rfl) (by omega) (hS 140 (k) rfl) ?_
    refine g14 hC rfl ?_
    refine ret1 hC rfl rfl ?_
    exact ⟨rfl, rfl⟩
  · rw [if_neg z]
    refine g3 hC rfl rfl ?_
    refine g3 hC rfl rfl ?_
    refine g19 hC rfl rfl (Nat.le_of_ble_eq_true rfl) rfl ((hS.fix hw hF).g rfl) ?_
    refine g23 hC rfl sh140 ?_
    refine c1 hC rfl rfl rfl (Nat.le_of_ble_eq_true rfl) (Nat.le_of_ble_eq_true rfl) rfl (m140) (Nat.le_of_ble_eq_true rfl) (fun x M2 hr => ?_)
    obtain ⟨rfl, hr⟩ := hr; replace hr := hr.symm; subst hr; rw [if_neg (by omega)]
    refine g12e hC rfl (fun h5 => ?_) (fun h5 => (by omega))
    refine g0 hC rfl ?_
    refine ret1 hC rfl rfl ?_
    exact ⟨rfl, rfl⟩
theorem m300 (hF : Fix M) {a : Int} : ax_Ev L X SH 1 300 [(2, 142), (0, a)] M (R1 0 (fun x M' => x = (if 0 ≤ a ∧ a < 6 then M 144 a.toNat else -1) ∧ M' = M)) := by
  show ax_G L X SH 1 300 0 [(2, 142), (0, a)] [] M _
  have hC := at300
  have hw := wX0
  have hS : Sb X0 M M := Sb.refl
  by_cases z : 0 ≤ a ∧ a < 6
  · obtain ⟨k, rfl⟩ : ∃ k : Nat, a = (k : Int) := ⟨a.toNat, by omega⟩
    rw [if_pos z]
    refine g3 hC rfl rfl ?_
    refine g9 hC rfl ?_
    refine g1 hC rfl ?_
    refine g1 hC rfl ?_
    refine c1 hC rfl rfl rfl (Nat.le_of_ble_eq_true rfl) (Nat.le_of_ble_eq_true rfl) (mayS k153 rfl) (m153) (Nat.le_of_ble_eq_true rfl) (fun x M2 hr => ?_)
    obtain ⟨rfl, hr⟩ := hr; replace hr := hr.symm; subst hr; rw [if_pos (by omega)]
    refine g12e hC rfl (fun h5 => (by omega)) (fun h5 => ?_)
    refine g3 hC rfl rfl ?_
    refine g19 hC rfl sh142 (flt12 rfl) ft12_9 ((hS.fix hw hF).g fx_142_9) ?_
    refine g3 hC rfl rfl ?_
    refine r21 (k) hC rfl (by omega) sh144 (Or.inl rfl) (by omega) (hS 144 (k) rfl) ?_
    refine g14 hC rfl ?_
    refine ret1 hC rfl rfl ?_
    exact ⟨rfl, rfl⟩
  · rw [if_neg z]
    refine g3 hC rfl rfl ?_
    refine g9 hC rfl ?_
    refine g1 hC rfl ?_
    refine g1 hC rfl ?_
    refine c1 hC rfl rfl rfl (Nat.le_of_ble_eq_true rfl) (Nat.le_of_ble_eq_true rfl) (mayS k153 rfl) (m153) (Nat.le_of_ble_eq_true rfl) (fun x M2 hr => ?_)
    obtain ⟨rfl, hr⟩ := hr; replace hr := hr.symm; subst hr; rw [if_neg (by omega)]
    refine g12e hC rfl (fun h5 => ?_) (fun h5 => (by omega))
    refine g0 hC rfl ?_
    refine ret1 hC rfl rfl ?_
    exact ⟨rfl, rfl⟩
theorem op37 (hR : Rel n M) {a : Int} : OP L X n 0 137 300 [(2, 0), (0, a)] [(2, 142), (0, a)] M := by
  have hR0 := hR
  obtain ⟨h, hh, hF, hG⟩ := hR
  have hG0 := hG
  obtain ⟨hW, hSW, hPW, hRV, hGT, hGN, hGM, hGH, hGS, hGX⟩ := hG
  have hV : HV M h M := HV.refl
  have hH3 : M 0 3 = (h : Int) := hGX.1.1
  refine OP.ro (d' := 1) hR0 (m137 hF) ?_ (by decide) (by decide)
  have := m300 (L := L) (X := X) hF (a := a)
  by_cases z : 0 ≤ a ∧ a < 6
  · rw [if_pos z] at this ⊢
    rw [(hGN a.toNat (by omega)).1] at this
    exact this
  · rw [if_neg z] at this ⊢; exact this
theorem m132 (hF : Fix M) (hN : 0 ≤ M 140 5 ∧ M 140 5 ≤ 1000000) {a : Int} : ax_Ev L X SH 1 132 [(2, 0), (0, a)] M (R1 0 (fun x M' => (a < 0 ∧ x = 0 ∧ M' = ax_up M 140 5 (M 140 5 + 1)) ∨ (0 ≤ a ∧ x = 1 ∧ M' = ax_up M 0 16 a))) := by
  show ax_G L X SH 1 132 0 [(2, 0), (0, a)] [] M _
  have hC := at132
  have hw : wok WSE = true := by decide +kernel
  have hS : Sb WSE M M := Sb.refl
  refine g3 hC rfl rfl ?_
  refine g12g hC rfl (fun h1 => ?_) (fun h1 => ?_)
  ·
    refine g3 hC rfl rfl ?_
    refine g3 hC rfl rfl ?_
    refine g20s hC rfl rfl (Nat.le_of_ble_eq_true rfl) rfl hS rfl (fun hS => ?_)
    refine g0 hC rfl ?_
    refine ret3 hC rfl ⟨by omega, by omega⟩ ?_
    exact Or.inr ⟨by omega, rfl, rfl⟩
  ·
    refine g3 hC rfl rfl ?_
    refine g0 hC rfl ?_
    refine c1 hC rfl rfl rfl (Nat.le_of_ble_eq_true rfl) (Nat.le_of_ble_eq_true rfl) rfl (m139 (k := 5) hF (by decide) hN) (Nat.le_of_ble_eq_true rfl) (fun x M2 hr => ?_)
    obtain ⟨rfl, hr⟩ := hr
    refine ret3 hC rfl ⟨by omega, by omega⟩ ?_
    exact Or.inl ⟨by omega, rfl, hr⟩
theorem m260 (hF : Fix M) (hN : 0 ≤ M 144 5 ∧ M 144 5 ≤ 1000000) {a : Int} : ax_Ev L X SH 1 260 [(2, 142), (0, a)] M (R1 0 (fun x M' => (a < 0 ∧ x = 0 ∧ M' = ax_up M 144 5 (M 144 5 + 1)) ∨ (0 ≤ a ∧ x = 1 ∧ M' = ax_up M 142 84 a))) := by
  show ax_G L X SH 1 260 0 [(2, 142), (0, a)] [] M _
  have hC := at260
  have hw : wok XSE = true := by decide +kernel
  have hS : Sb XSE M M := Sb.refl
  refine g3 hC rfl rfl ?_
  refine g12g hC rfl (fun h1 => ?_) (fun h1 => ?_)
  ·
    refine g3 hC rfl rfl ?_
    refine g3 hC rfl rfl ?_
    refine g9 hC rfl ?_
    refine g20s hC rfl sh142 (flt12 rfl) (by rw [fy12_84]; rfl) hS rfl (fun hS => ?_)
    refine g0 hC rfl ?_
    refine ret3 hC rfl ⟨by omega, by omega⟩ ?_
    exact Or.inr ⟨by omega, rfl, rfl⟩
  ·
    refine g3 hC rfl rfl ?_
    refine g19 hC rfl sh142 (flt12 rfl) ft12_9 ((hS.fix hw hF).g fx_142_9) ?_
    refine g0 hC rfl ?_
    refine g17 hC rfl (by decide) ?_
    refine r21 (5) hC rfl (by omega) sh144 (Or.inl rfl) (by omega) (hS 144 (5) rfl) ?_
    refine g0 hC rfl ?_
    refine g6a hC rfl ⟨by omega, by omega⟩ ?_
    refine r22 (5) hC rfl (by omega) sh144 (by omega) rfl ?_
    refine g0 hC rfl ?_
    refine ret3 hC rfl ⟨by omega, by omega⟩ ?_
    exact Or.inl ⟨by omega, rfl, rfl⟩
theorem op32 (hR : Rel n M) (hn : n ≤ 1000) {a : Int} (ha : a ≤ 2147483647) : OP L X n 0 132 260 [(2, 0), (0, a)] [(2, 142), (0, a)] M := by
  have hR0 := hR
  obtain ⟨h, hh, hF, hG⟩ := hR
  have hG0 := hG
  obtain ⟨hW, hSW, hPW, hRV, hGT, hGN, hGM, hGH, hGS, hGX⟩ := hG
  have hV : HV M h M := HV.refl
  have hH3 : M 0 3 = (h : Int) := hGX.1.1
  have hN := hGN 5 (by decide)
  refine OP.tw (d' := 1) (m132 hF ⟨by omega, by omega⟩) (Q := fun x M1 y M2 => (a < 0 ∧ y = 0 ∧ M2 = ax_up M1 144 5 (M1 144 5 + 1)) ∨ (0 ≤ a ∧ y = 1 ∧ M2 = ax_up M1 142 84 a)) (fun x M1 hx => ?_) (fun x M1 y M2 hx hy => ?_) (by decide) (by decide)
  · rcases hx with ⟨-, -, rfl⟩ | ⟨-, -, rfl⟩
    · exact m260 (hF.upA (t := 0) rfl (by decide)) (by rw [ax_up_ne (by decide)]; omega)
    · exact m260 (hF.upF (c := 11) rfl (by decide +kernel)) (by rw [ax_up_ne (by decide)]; omega)
  · rcases hx with ⟨h1, rfl, rfl⟩ | ⟨h1, rfl, rfl⟩
    · rcases hy with ⟨y1, y2, y3⟩ | ⟨y1, y2, -⟩
      · rw [ax_up_ne (show (144 : Nat) ≠ 140 by decide)] at y3
        exact ⟨y2, relInc hR0 y3⟩
      · exfalso; omega
    · rcases hy with ⟨y1, -⟩ | ⟨y1, y3, y4⟩
      · exfalso; omega
      · have hT : Sb WSS M M2 := by rw [y4]; exact (Sb.refl.up rfl).up rfl
        refine ⟨y3, h, hh, hT.fix (by decide +kernel) hF, ?_⟩
        refine hG0.re hh hT rfl (Or.inl rfl) (Or.inl rfl) (Or.inl rfl) (Or.inl rfl) (Or.inl ⟨rfl, by omega⟩) (Or.inl rfl) (Or.inl rfl) (Or.inl rfl) (Or.inr ?_)
        rw [y4]
        refine ⟨hGX.1, ?_, hGX.2.2.1, fun s hs1 hs2 => ?_, hGX.2.2.2.2⟩
        · rw [ax_up_at, ax_up_ne (by decide), ax_up_at]
          exact ⟨rfl, by omega, by omega⟩
        · refine hGX.2.2.2.1 s ?_ hs2
          have e : nS (ax_up (ax_up M 0 16 a) 142 84 a) h = nS M h := by
            unfold nS; rw [ax_up_ne (by omega), ax_up_ne (by omega)]
          rw [e] at hs1; exact hs1
end SMB
