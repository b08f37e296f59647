section UND
variable {L : Nat} {X : Nat → Int} {M V M1 M2 : ax_M} {h n : Nat}
theorem m32 (hF : Fix M) {r q : Nat} (hr : M 49 1 = (r : Int) ∧ r < 20) (hn : M 49 2 = (q : Int) ∧ 1 ≤ q ∧ q ≤ 20) : ax_Ev L X SH 1 32 [(2, 49), (2, 45)] M (R0 (fun M' => Sb WU M M' ∧ (∀ b, b ≠ 45 → b ≠ 46 → b ≠ 47 → b ≠ 48 → b ≠ 49 → M' b = M b) ∧ (∀ i, i < 44 → CS M' i = M (51 + (r + 19) % 20) i) ∧ M' 49 1 = (((r + 19) % 20 : Nat) : Int) ∧ M' 49 2 = ((q - 1 : Nat) : Int))) := by
  show ax_G L X SH 1 32 0 [(2, 49), (2, 45)] [] M _
  have hC := at32
  have hw : wok WU = true := by decide +kernel
  have hS : Sb WU M M := Sb.refl
  have hp : (r + 19) % 20 < 20 := Nat.mod_lt _ (by decide)
  have hp1 : (r + 20 - 1) % 20 = (r + 19) % 20 := by omega
  generalize hp0 : (r + 19) % 20 = p at *
  refine g3 hC rfl rfl ?_
  refine g3 hC rfl rfl ?_
  refine g19 hC rfl rfl (Nat.le_of_ble_eq_true rfl) rfl hr.1 ?_
  refine g0 hC rfl ?_
  refine g6a hC rfl ⟨by omega, by omega⟩ ?_
  refine g0 hC rfl ?_
  refine g6s hC rfl ⟨by omega, by omega⟩ ?_
  refine g0 hC rfl ?_
  refine g6rN (a := r + 20 - 1) (b := 20) hC rfl (by omega) rfl (by decide) (by omega) ?_
  rw [hp1]
  refine g20s hC rfl rfl (Nat.le_of_ble_eq_true rfl) rfl hS rfl (fun hS => ?_)
  refine g3 hC rfl rfl ?_
  refine g3 hC rfl rfl ?_
  refine g19 hC rfl rfl (Nat.le_of_ble_eq_true rfl) rfl ((hS.fix hw hF).g rfl) ?_
  refine g3 hC rfl rfl ?_
  refine g19 hC rfl rfl (Nat.le_of_ble_eq_true rfl) rfl ax_up_at ?_
  refine r21 (p) hC rfl rfl rfl (Or.inl rfl) hp ((hS.fix hw hF).r (n := 20) (v := 51) rfl hp) ?_
  refine c0 hC rfl rfl rfl (Nat.le_of_ble_eq_true rfl) (Nat.le_of_ble_eq_true rfl) rfl (m72 (hS.fix hw hF) (shR51 hp)) (Nat.le_of_ble_eq_true rfl) (fun M2 hrr => ?_)
  obtain ⟨hr0, hrr⟩ := hrr; have hS := hS.then hr0 rfl
  refine g3 hC rfl rfl ?_
  refine g16 hC rfl (by decide) ?_
  refine g19 hC rfl rfl (Nat.le_of_ble_eq_true rfl) rfl ((hr0 49 2 rfl).trans ((up2 (by decide)).trans hn.1)) ?_
  refine g0 hC rfl ?_
  refine g6s hC rfl ⟨by omega, by omega⟩ ?_
  refine g20s hC rfl rfl (Nat.le_of_ble_eq_true rfl) rfl hS rfl (fun hS => ?_)
  refine ret0 hC rfl ?_
  refine ⟨hS, fun b b5 b6 b7 b8 b9 => ?_, fun i hi => ?_, ?_, ?_⟩
  · rw [ax_up_ne b9, hrr, cpF_ne b5 b6 b7 b8, ax_up_ne b9]
  · have e : ∀ (M : ax_M) (x : Int) (i : Nat), CS (ax_up M 49 2 x) i = CS M i := fun M x i => rfl
    rw [e, hrr, cpF_at hi (by omega) (by omega) (by omega) (by omega), ax_up_ne (show 51 + p ≠ 49 by omega)]
  · rw [ax_up_of (by decide), hr0 49 1 rfl, ax_up_at]
  · rw [ax_up_at]; omega
theorem m131 (hF : Fix M) (hG : GG n h M) (hn : n ≤ 1000) : ax_Ev L X SH 2 131 [(2, 0)] M (R1 0 (fun x M' => (hN M = 0 ∧ x = 0 ∧ M' = ax_up M 140 4 (M 140 4 + 1)) ∨ (1 ≤ hN M ∧ x = 1 ∧ Sb WU M M' ∧ (∀ b, b ≠ 45 → b ≠ 46 → b ≠ 47 → b ≠ 48 → b ≠ 49 → M' b = M b) ∧ (∀ i, i < 44 → CS M' i = M (51 + (hR M + 19) % 20) i) ∧ M' 49 1 = (((hR M + 19) % 20 : Nat) : Int) ∧ M' 49 2 = ((hN M - 1 : Nat) : Int)))) := by
  show ax_G L X SH 2 131 0 [(2, 0)] [] M _
  have hC := at131
  have hw : wok WU = true := by decide +kernel
  have hS : Sb WU M M := Sb.refl
  have hN4 := hG.2.2.2.2.2.1 4 (by decide)
  obtain ⟨⟨b1, b2, b3⟩, ⟨b4, b5, b6⟩, -, -⟩ := hG.2.2.2.2.2.2.2.1
  clear hG
  generalize hN M = q at *
  refine g3 hC rfl rfl ?_
  refine g19 hC rfl rfl (Nat.le_of_ble_eq_true rfl) rfl ((hS.fix hw hF).g rfl) ?_
  refine g19 hC rfl rfl (Nat.le_of_ble_eq_true rfl) rfl b4 ?_
  refine g12n hC rfl (fun h3 => ?_) (fun h3 => ?_)
  ·
    refine g3 hC rfl rfl ?_
    refine g19 hC rfl rfl (Nat.le_of_ble_eq_true rfl) rfl ((hS.fix hw hF).g rfl) ?_
    refine g3 hC rfl rfl ?_
    refine g19 hC rfl rfl (Nat.le_of_ble_eq_true rfl) rfl ((hS.fix hw hF).g rfl) ?_
    refine c0 hC rfl rfl rfl (Nat.le_of_ble_eq_true rfl) (Nat.le_of_ble_eq_true rfl) rfl (m32 hF ⟨b1, b2⟩ ⟨b4, by omega, b5⟩) (Nat.le_of_ble_eq_true rfl) (fun M2 hr => ?_)
    refine g0 hC rfl ?_
    refine ret3 hC rfl ⟨by omega, by omega⟩ ?_
    exact Or.inr ⟨by omega, rfl, hr⟩
  ·
    refine g3 hC rfl rfl ?_
    refine g0 hC rfl ?_
    refine c1 hC rfl rfl rfl (Nat.le_of_ble_eq_true rfl) (Nat.le_of_ble_eq_true rfl) rfl (m139 (k := 4) hF (by decide) ⟨hN4.2.1, by omega⟩) (Nat.le_of_ble_eq_true rfl) (fun x M2 hr => ?_)
    obtain ⟨rfl, hr⟩ := hr
    refine ret3 hC rfl ⟨by omega, by omega⟩ ?_
    exact Or.inl ⟨by omega, rfl, hr⟩
theorem m255 (hF : Fix M) {r q : Nat} (hr : M 142 83 = (r : Int) ∧ r < 20) (hn : M 142 82 = (q : Int) ∧ q ≤ 20) (hN4 : 0 ≤ M 144 4 ∧ M 144 4 ≤ 1000000) : ax_Ev L X SH 1 255 [(2, 142)] M (R1 0 (fun x M' => (q = 0 ∧ x = 0 ∧ M' = ax_up M 144 4 (M 144 4 + 1)) ∨ (1 ≤ q ∧ x = 1 ∧ Sb XU M M' ∧ (∀ i, i < 44 → M' 185 i = M 203 (44 * r + i)) ∧ M' 142 83 = (((r + 19) % 20 : Nat) : Int) ∧ M' 142 82 = ((q - 1 : Nat) : Int)))) := by
  show ax_G L X SH 1 255 0 [(2, 142), (3, 0)] [] M _
  have hC := at255
  have hw : wok XU = true := by decide +kernel
  have hS : Sb XU M M := Sb.refl
  have hp1 : (r + 20 - 1) % 20 = (r + 19) % 20 := by omega
  have l1 : 1 ≤ q → ∀ (m k : Nat), k + m = 44 → ∀ ll M1, (ll = [(2, 142), (0, (k : Int))] ∧ Sb XU M M1 ∧ M1 142 83 = (r : Int) ∧ M1 142 82 = (q : Int) ∧ ∀ i, i < k → M1 185 i = M 203 (44 * r + i)) → ax_G L X SH 1 255 15 ll [] M1 (R1 0 (fun x M' => (q = 0 ∧ x = 0 ∧ M' = ax_up M 144 4 (M 144 4 + 1)) ∨ (1 ≤ q ∧ x = 1 ∧ Sb XU M M' ∧ (∀ i, i < 44 → M' 185 i = M 203 (44 * r + i)) ∧ M' 142 83 = (((r + 19) % 20 : Nat) : Int) ∧ M' 142 82 = ((q - 1 : Nat) : Int)))) := by
    intro hq
    refine lp ?_ ?_
    · rintro ll M1 ⟨rfl, hS, h1, h2, h3⟩
      refine g3 hC rfl rfl ?_
      refine g0 hC rfl ?_
      refine g13g hC rfl (fun h17 => ?_) (fun h17 => (by omega))
      refine g3 hC rfl rfl ?_
      refine g3 hC rfl rfl ?_
      refine g19 hC rfl sh142 (flt12 rfl) ft12_83 h1 ?_
      refine g0 hC rfl ?_
      refine g6a hC rfl ⟨by omega, by omega⟩ ?_
      refine g0 hC rfl ?_
      refine g6s hC rfl ⟨by omega, by omega⟩ ?_
      refine g0 hC rfl ?_
      refine g6rN (a := r + 20 - 1) (b := 20) hC rfl (by omega) rfl (by decide) (by omega) ?_
      rw [hp1]
      refine g20s hC rfl sh142 (flt12 rfl) (by rw [fy12_83]; rfl) hS rfl (fun hS => ?_)
      refine g3 hC rfl rfl ?_
      refine g16 hC rfl (by decide) ?_
      refine g19 hC rfl sh142 (flt12 rfl) ft12_82 ((up2 (by decide)).trans h2) ?_
      refine g0 hC rfl ?_
      refine g6s hC rfl ⟨by omega, by omega⟩ ?_
      refine g20s hC rfl sh142 (flt12 rfl) (by rw [fy12_82]; rfl) hS rfl (fun hS => ?_)
      refine g0 hC rfl ?_
      refine ret3 hC rfl ⟨by omega, by omega⟩ ?_
      refine Or.inr ⟨hq, rfl, hS, h3, ?_, ?_⟩
      · rw [ax_up_of (by decide), ax_up_at]
      · rw [ax_up_at]; omega
    · rintro k hk ll M1 ⟨rfl, hS, h1, h2, h3⟩ hnext
      refine g3 hC rfl rfl ?_
      refine g0 hC rfl ?_
      refine g13g hC rfl (fun h17 => (by omega)) (fun h17 => ?_)
      refine g3 hC rfl rfl ?_
      refine g19 hC rfl sh142 (flt12 rfl) ft12_54 ((hS.fix hw hF).g fx_142_54) ?_
      refine g3 hC rfl rfl ?_
      refine g3 hC rfl rfl ?_
      refine g19 hC rfl sh142 (flt12 rfl) ft12_81 ((hS.fix hw hF).g fx_142_81) ?_
      refine g0 hC rfl ?_
      refine g3 hC rfl rfl ?_
      refine g19 hC rfl sh142 (flt12 rfl) ft12_83 h1 ?_
      refine g6m hC rfl ⟨by omega, by omega⟩ ?_
      refine g3 hC rfl rfl ?_
      refine g6a hC rfl ⟨by omega, by omega⟩ ?_
      refine r21 (((44 * r) + k)) hC rfl (by omega) sh203 (Or.inl rfl) (by omega) (hS 203 (((44 * r) + k)) rfl) ?_
      refine r22s (k) hC rfl (by omega) sh185 (by omega) rfl hS rfl (fun hS => ?_)
      refine n1 hC rfl rfl ⟨by omega, by omega⟩ ?_
      refine g14 hC rfl ?_
      refine hnext _ _ ⟨rfl, hS, h1, h2, fun i hi => ?_⟩
      by_cases z : i = k
      · rw [z, ax_up_at]
      · rw [ax_up_of z]; exact h3 i (by omega)
  refine g3 hC rfl rfl ?_
  refine g19 hC rfl sh142 (flt12 rfl) ft12_82 hn.1 ?_
  refine g12n hC rfl (fun h2 => ?_) (fun h2 => ?_)
  ·
    refine g0 hC rfl ?_
    refine s1 hC rfl rfl rfl ?_
    exact l1 (by omega) 44 0 rfl _ _ ⟨rfl, hS, hr.1, hn.1, fun i hi => absurd hi (Nat.not_lt_zero i)⟩
  ·
    refine g3 hC rfl rfl ?_
    refine g19 hC rfl sh142 (flt12 rfl) ft12_9 ((hS.fix hw hF).g fx_142_9) ?_
    refine g0 hC rfl ?_
    refine g17 hC rfl (by decide) ?_
    refine r21 (4) hC rfl (by omega) sh144 (Or.inl rfl) (by omega) (hS 144 (4) rfl) ?_
    refine g0 hC rfl ?_
    refine g6a hC rfl ⟨by omega, by omega⟩ ?_
    refine r22 (4) hC rfl (by omega) sh144 (by omega) rfl ?_
    refine g0 hC rfl ?_
    refine ret3 hC rfl ⟨by omega, by omega⟩ ?_
    exact Or.inl ⟨by omega, rfl, rfl⟩
theorem op31 (hR0 : Rel n M) (hn : n ≤ 1000) : OP L X n 0 131 255 [(2, 0)] [(2, 142)] M := by
  have hR := hR0
  obtain ⟨h, hh, hF, hG⟩ := hR
  have hG0 := hG
  obtain ⟨hW, hSW, hPW, hRV, hGT, hGN, hGM, hGH, hGS, hGX⟩ := hG
  have hV : HV M h M := HV.refl
  have hH3 : M 0 3 = (h : Int) := hGX.1.1
  have hN4 := hGN 4 (by decide)
  have hGH0 := hGH
  obtain ⟨⟨b1, b2, b3⟩, ⟨b4, b5, b6⟩, b7, b8⟩ := hGH0
  refine OP.tw (d' := 1) (m131 hF hG0 hn) (Q := fun x M1 y M2 => (hN M = 0 ∧ y = 0 ∧ M2 = ax_up M1 144 4 (M1 144 4 + 1)) ∨ (1 ≤ hN M ∧ y = 1 ∧ Sb XU M1 M2 ∧ (∀ i, i < 44 → M2 185 i = M1 203 (44 * Jvm.Pilot.CFireDrillLaw_law_r2865_e29a64.hR M + i)) ∧ M2 142 83 = (((Jvm.Pilot.CFireDrillLaw_law_r2865_e29a64.hR M + 19) % 20 : Nat) : Int) ∧ M2 142 82 = ((hN M - 1 : Nat) : Int))) (fun x M1 hx => ?_) (fun x M1 y M2 hx hy => ?_) (by decide) (by decide)
  · rcases hx with ⟨-, -, rfl⟩ | ⟨-, -, hs, -⟩
    · exact m255 (hF.upA (t := 0) rfl (by decide)) ⟨b3, b2⟩ ⟨b6, b5⟩ (by rw [ax_up_ne (by decide)]; omega)
    · exact m255 (hs.fix (by decide +kernel) hF) ⟨(hs 142 83 rfl).trans b3, b2⟩ ⟨(hs 142 82 rfl).trans b6, b5⟩ (by rw [hs 144 4 rfl]; omega)
  · rcases hx with ⟨x1, rfl, rfl⟩ | ⟨x1, rfl, hs, f1, f2, f3, f4⟩
    · rcases hy with ⟨-, y2, y3⟩ | ⟨y1, -⟩
      · rw [ax_up_ne (show (144 : Nat) ≠ 140 by decide)] at y3
        exact ⟨y2, relInc hR0 y3⟩
      · exfalso; omega
    · rcases hy with ⟨y1, -⟩ | ⟨-, y2, hs2, e1, e2, e3⟩
      · exfalso; omega
      · have hT : Sb WXP M M2 := (hs.mono rfl).then hs2 rfl
        have c1 : ∀ c q, c ≠ 185 → c ≠ 142 → M2 c q = M1 c q := by
          intro c q h1 h2
          refine hs2 c q ?_
          cases z : wb XU c q with
          | false => rfl
          | true =>
            exfalso
            unfold wb XU at z
            simp only [List.any_cons, List.any_nil, Bool.or_false, Bool.or_eq_true, Bool.and_eq_true] at z
            rcases z with z | z | z
            · have := Nat.le_of_ble_eq_true z.1; have := Nat.le_of_ble_eq_true z.2; omega
            · exact h2 (Nat.eq_of_beq_eq_true z.1).symm
            · exact h2 (Nat.eq_of_beq_eq_true z.1).symm
        have c5 : ∀ i, CS M2 i = CS M1 i := fun i => by
          unfold CS; rw [c1 45 0 (by decide) (by decide), c1 46 _ (by decide) (by decide), c1 47 _ (by decide) (by decide), c1 48 _ (by decide) (by decide)]
        have hm : ((Jvm.Pilot.CFireDrillLaw_law_r2865_e29a64.hR M + 19) % 20 + 1) % 20 = Jvm.Pilot.CFireDrillLaw_law_r2865_e29a64.hR M := by omega
        have hK : RK (CS M2) (M2 185) := by
          have h0 := b7 ((Jvm.Pilot.CFireDrillLaw_law_r2865_e29a64.hR M + 19) % 20) (Nat.mod_lt _ (by decide))
          rw [hm] at h0
          refine h0.cg (fun i hi => (c5 i).trans (f2 i hi)) (fun i hi => ?_)
          rw [e1 i hi, f1 203 (by decide) (by decide) (by decide) (by decide) (by decide)]
        have n2 := (nREq hT (hokB (by decide +kernel) hh)).2.1
        refine ⟨y2, h, hh, hT.fix (by decide +kernel) hF, hG0.st hh hT rfl rfl rfl (Or.inl rfl) (Or.inl ⟨rfl, by omega⟩) rfl ?_ rfl hK (Or.inl ⟨rfl, fun s hs1 hs2 => ?_⟩)⟩
        · have r2 : Jvm.Pilot.CFireDrillLaw_law_r2865_e29a64.hR M2 = (Jvm.Pilot.CFireDrillLaw_law_r2865_e29a64.hR M + 19) % 20 := by
            unfold Jvm.Pilot.CFireDrillLaw_law_r2865_e29a64.hR at f3 ⊢; rw [c1 49 1 (by decide) (by decide), f3]; rfl
          have q2 : hN M2 = hN M - 1 := by
            unfold hN at f4 ⊢; rw [c1 49 2 (by decide) (by decide), f4]; rfl
          have e49 : M2 49 1 = (((Jvm.Pilot.CFireDrillLaw_law_r2865_e29a64.hR M + 19) % 20 : Nat) : Int) := (c1 49 1 (by decide) (by decide)).trans f3
          have e49' : M2 49 2 = ((hN M - 1 : Nat) : Int) := (c1 49 2 (by decide) (by decide)).trans f4
          have rows : ∀ r', r' < 20 → M2 (51 + r') = M (51 + r') := fun r' hr' => funext fun q => by rw [c1 _ _ (by omega) (by omega), f1 _ (by omega) (by omega) (by omega) (by omega) (by omega)]
          have m203 : M2 203 = M 203 := funext fun q => by rw [c1 _ _ (by omega) (by omega), f1 203 (by decide) (by decide) (by decide) (by decide) (by decide)]
          unfold GH
          rw [r2, q2, n2, m203]
          refine ⟨⟨e49, by omega, e2⟩, ⟨e49', by omega, e3⟩, fun r' hr' => ?_, fun j hj s hs1 hs2 => ?_⟩
          · rw [rows r' hr']; exact b7 r' hr'
          · rw [rows _ (Nat.mod_lt _ (by decide))]
            have := b8 (j + 1) (by omega) s hs1 hs2
            rw [show ((Jvm.Pilot.CFireDrillLaw_law_r2865_e29a64.hR M + 19) % 20 + 19 - j) % 20 = (Jvm.Pilot.CFireDrillLaw_law_r2865_e29a64.hR M + 19 - (j + 1)) % 20 by omega]
            exact this
        · have := b8 0 (by omega) s hs1 hs2
          rw [Nat.sub_zero] at this
          have h3 := c5 (6 + s)
          rw [f2 _ (by omega), CS6 hs2, this] at h3
          exact h3
end UND
