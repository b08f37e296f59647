def W79 : ax_W := ([(123, 125)], [(122, 0)])
def W124 : ax_W := ([(123, 125)], [(1, 1), (122, 0)])
def X248 : ax_W := ([(200, 201)], [(142, 1), (142, 76)])
def WXS : ax_W := ([(123, 125), (200, 201)], [(1, 1), (122, 0), (142, 1), (142, 76)])
def WLR : ax_W := ([(140, 141), (144, 145)], [(1, 1), (142, 1)])
section SEE
variable {L : Nat} {X : Nat → Int} {M V : ax_M} {h n : Nat} {f g : Nat → Int}
theorem relIncT {M M2 : ax_M} {k : Nat} (hR : Rel n M) (h1 : M2 = ax_up (ax_up (ax_up (ax_up M 1 1 0) 140 k (M 140 k + 1)) 142 1 0) 144 k (M 144 k + 1)) : Rel (n + 1) M2 := by
  obtain ⟨h, hh, hF, hG⟩ := hR
  have hS : Sb WLR M M2 := by rw [h1]; exact (((Sb.refl.up rfl).up rfl).up rfl).up rfl
  refine ⟨h, hh, hS.fix (by decide +kernel) hF, hG.re hh hS rfl (Or.inl rfl) (Or.inl rfl) (Or.inl rfl) (Or.inr ?_) (Or.inr (hG.2.2.2.2.2.1.inc (k := k) (fun q hq => ?_) (fun q hq => ?_))) (Or.inl rfl) (Or.inl rfl) (Or.inl rfl) (Or.inl rfl)⟩
  · obtain ⟨a1, a2, a3, a4⟩ := hG.2.2.2.2.1
    rw [h1]
    refine ⟨⟨Int.le_refl 0, ?_, rfl⟩, fun i hi => a2 i hi, a3, a4⟩
    show (0 : Int) ≤ 1600; decide
  · rw [h1, ax_up_ne (by decide), ax_up_ne (by decide), ax_upf]; unfold up; split
    · rename_i e; rw [e]
    · rfl
  · rw [h1, ax_upf]; unfold up; split
    · rename_i e; rw [e]
    · rfl
theorem m136 (hF : Fix M) (hh : h = 9 ∨ h = 27) (hG : GG n h M) (hn : n ≤ 1000) : ax_Ev L X SH 3 136 [(2, 0)] M (R1 0 (fun x M' => (¬ isIm M h (M 2) (M 1 1) ∧ x = 0 ∧ M' = ax_up (ax_up M 1 1 0) 140 5 (M 140 5 + 1)) ∨ (isIm M h (M 2) (M 1 1) ∧ x = 1 ∧ Sb W136 M M' ∧ M' 1 1 = 0 ∧ M' 49 2 = 0 ∧ (∀ k, M' 140 k = M 140 k) ∧ HV (onV M h (M 2)) h M'))) := by
  show ax_G L X SH 3 136 0 [(2, 0), (3, 0)] [] M _
  have hC := at136
  have hw : wok W136 = true := by decide +kernel
  have hS : Sb W136 M M := Sb.refl
  have hV : HV M h M := HV.refl
  have hH3 : M 0 3 = (h : Int) := hG.2.2.2.2.2.2.2.2.2.1.1
  have hB : bB (M 2) := fun i hi => (hG.2.2.2.2.1.2.1 i hi).2
  have hN5 := hG.2.2.2.2.2.1 5 (by decide)
  by_cases z : isIm M h (M 2) (M 1 1)
  · skip
    refine g3 hC rfl rfl ?_
    refine g19 hC rfl rfl (Nat.le_of_ble_eq_true rfl) rfl ((hS _ _ rfl).trans hH3) ?_
    refine g3 hC rfl rfl ?_
    refine g19 hC rfl rfl (Nat.le_of_ble_eq_true rfl) rfl ((hS.fix hw hF).g rfl) ?_
    refine c1 hC rfl rfl rfl (Nat.le_of_ble_eq_true rfl) (Nat.le_of_ble_eq_true rfl) rfl (m76 hF hh hV hG.1 hB) (Nat.le_of_ble_eq_true rfl) (fun x M2 hr => ?_)
    obtain ⟨hx, hr⟩ := hr; replace hr := hr.symm; subst hr; have hx1 : x = 1 := by rcases hx with y | y; exact y.1; exact absurd z y.2
    refine s1 hC rfl rfl rfl ?_
    refine g3 hC rfl rfl ?_
    refine g12e hC rfl (fun h7 => (by omega)) (fun h7 => ?_)
    refine g3 hC rfl rfl ?_
    refine g19 hC rfl rfl (Nat.le_of_ble_eq_true rfl) rfl ((hS.fix hw hF).g rfl) ?_
    refine g3 hC rfl rfl ?_
    refine g19 hC rfl rfl (Nat.le_of_ble_eq_true rfl) rfl ((hS _ _ rfl).trans hH3) ?_
    refine g3 hC rfl rfl ?_
    refine g19 hC rfl rfl (Nat.le_of_ble_eq_true rfl) rfl ((hS.fix hw hF).g rfl) ?_
    refine g19 hC rfl rfl (Nat.le_of_ble_eq_true rfl) rfl ((hS.fix hw hF).g rfl) ?_
    refine c0 hC rfl rfl rfl (Nat.le_of_ble_eq_true rfl) (Nat.le_of_ble_eq_true rfl) rfl (m77 hF hh hV hG.1 hB) (Nat.le_of_ble_eq_true rfl) (fun M2 hr => ?_)
    obtain ⟨hr0, hr1⟩ := hr; have hS := hS.then hr0 rfl
    refine g3 hC rfl rfl ?_
    refine g19 hC rfl rfl (Nat.le_of_ble_eq_true rfl) rfl ((hS.fix hw hF).g rfl) ?_
    refine g0 hC rfl ?_
    refine g20s hC rfl rfl (Nat.le_of_ble_eq_true rfl) rfl hS rfl (fun hS => ?_)
    refine g3 hC rfl rfl ?_
    refine g19 hC rfl rfl (Nat.le_of_ble_eq_true rfl) rfl ((hS.fix hw hF).g rfl) ?_
    refine g0 hC rfl ?_
    refine g20s hC rfl rfl (Nat.le_of_ble_eq_true rfl) rfl hS rfl (fun hS => ?_)
    refine g3 hC rfl rfl ?_
    refine g12n hC rfl (fun h25 => ?_) (fun h25 => (by omega))
    refine g0 hC rfl ?_
    refine g14 hC rfl ?_
    refine ret3 hC rfl ⟨by omega, by omega⟩ ?_
    refine Or.inr ⟨z, rfl, hS, ax_up_at, ?_, fun k => ?_, ?_⟩
    · rw [ax_up2n (by decide), ax_up_at]
    · rw [ax_up2n (by decide), ax_up2n (by decide)]; exact hr0 140 k rfl
    · refine ⟨fun i k h1 h2 h3 => ?_, fun k => ?_⟩
      · rw [ax_up2n (by omega), ax_up2n (by omega)]; exact hr1.1 i k h1 h2 h3
      · rw [ax_up2n (by decide), ax_up2n (by decide), ax_up2n (by decide), ax_up2n (by decide), ax_up2n (by decide), ax_up2n (by decide), ax_up2n (by decide), ax_up2n (by decide)]; exact hr1.2 k
  · skip
    refine g3 hC rfl rfl ?_
    refine g19 hC rfl rfl (Nat.le_of_ble_eq_true rfl) rfl ((hS _ _ rfl).trans hH3) ?_
    refine g3 hC rfl rfl ?_
    refine g19 hC rfl rfl (Nat.le_of_ble_eq_true rfl) rfl ((hS.fix hw hF).g rfl) ?_
    refine c1 hC rfl rfl rfl (Nat.le_of_ble_eq_true rfl) (Nat.le_of_ble_eq_true rfl) rfl (m76 hF hh hV hG.1 hB) (Nat.le_of_ble_eq_true rfl) (fun x M2 hr => ?_)
    obtain ⟨hx, hr⟩ := hr; replace hr := hr.symm; subst hr; have hx1 : x = 0 := by rcases hx with y | y; exact absurd y.2 z; exact y.1
    refine s1 hC rfl rfl rfl ?_
    refine g3 hC rfl rfl ?_
    refine g12e hC rfl (fun h7 => ?_) (fun h7 => (by omega))
    refine g3 hC rfl rfl ?_
    refine g19 hC rfl rfl (Nat.le_of_ble_eq_true rfl) rfl ((hS.fix hw hF).g rfl) ?_
    refine g0 hC rfl ?_
    refine g20s hC rfl rfl (Nat.le_of_ble_eq_true rfl) rfl hS rfl (fun hS => ?_)
    refine g3 hC rfl rfl ?_
    refine g12n hC rfl (fun h25 => (by omega)) (fun h25 => ?_)
    refine g3 hC rfl rfl ?_
    refine g0 hC rfl ?_
    refine c1 hC rfl rfl rfl (Nat.le_of_ble_eq_true rfl) (Nat.le_of_ble_eq_true rfl) rfl (m139 (k := 5) (hS.fix hw hF) (by decide) (show 0 ≤ ax_up M 1 1 0 140 5 ∧ ax_up M 1 1 0 140 5 ≤ 1000000 by rw [ax_up2n (by decide)]; omega)) (Nat.le_of_ble_eq_true rfl) (fun x M2 hr => ?_)
    obtain ⟨rfl, hr⟩ := hr
    refine g12e hC rfl (fun h29 => ?_) (fun h29 => (by omega))
    refine g0 hC rfl ?_
    refine ret3 hC rfl ⟨by omega, by omega⟩ ?_
    exact Or.inl ⟨z, rfl, hr⟩
theorem op36 (hR0 : Rel n M) (hn : n ≤ 1000) : OP L X n 0 136 299 [(2, 0)] [(2, 142)] M := by
  have hR := hR0
  obtain ⟨h, hh, hF, hG⟩ := hR
  have hG0 := hG
  obtain ⟨hW, hSW, hPW, hRV, hGT, hGN, hGM, hGH, hGS, hGX⟩ := hG
  have hV : HV M h M := HV.refl
  have hH3 : M 0 3 = (h : Int) := hGX.1.1
  have hN5 := hGN 5 (by decide)
  have ht := hGT.1
  have hfg : ∀ i, i < 1600 → M 2 i = M 143 i := fun i hi => (hGT.2.1 i hi).1.symm
  have hB : bB (M 2) := fun i hi => (hGT.2.1 i hi).2
  have hB3 : bB (M 143) := fun i hi => by rw [(hGT.2.1 i hi).1]; exact hB i hi
  refine OP.tw (d' := 3) (m136 hF hh hG0 hn) (Q := fun x M1 y M2 => (¬ isIm M h (M1 143) (M1 142 1) ∧ y = 0 ∧ M2 = ax_up (ax_up M1 142 1 0) 144 5 (M1 144 5 + 1)) ∨ (isIm M h (M1 143) (M1 142 1) ∧ y = 1 ∧ Sb X299 M1 M2 ∧ M2 142 1 = 0 ∧ M2 142 82 = 0 ∧ (∀ k, M2 144 k = M1 144 k) ∧ RV (onV M h (M1 143)) h M2)) (fun x M1 hx => ?_) (fun x M1 y M2 hx hy => ?_) (by decide) (by decide)
  · have hs : Sb W136 M M1 := by
      rcases hx with ⟨-, -, rfl⟩ | ⟨-, -, hs, -⟩
      · exact (Sb.refl.up rfl).up rfl
      · exact hs
    have e3 : M1 143 = M 143 := funext fun k => hs 143 k rfl
    refine m299 (hs.fix (by decide +kernel) hF) hh (hRV.sb hs (rokB (by decide +kernel))) hW (by rw [e3]; exact hB3) (by rw [hs 142 1 rfl]; omega) (by rw [hs 144 5 rfl]; omega)
  · have him : isIm M h (M 2) (M 1 1) ↔ isIm M h (M 143) (M 142 1) := by
      rw [ht.2.2]
      exact ⟨im_cg hW hfg, im_cg hW (fun i hi => (hfg i hi).symm)⟩
    rcases hx with ⟨x1, rfl, rfl⟩ | ⟨x1, rfl, hs, f1, f2, f3, f4⟩
    · rcases hy with ⟨-, y2, y3⟩ | ⟨y1, -⟩
      · exact ⟨y2, relIncT (k := 5) hR0 y3⟩
      · exact absurd (him.2 y1) x1
    · have e3 : M1 143 = M 143 := funext fun k => hs 143 k rfl
      have e1 : M1 142 1 = M 142 1 := hs 142 1 rfl
      rw [e3, e1] at hy
      rcases hy with ⟨y1, -⟩ | ⟨-, y2, hs2, g1, g2, g3, g4⟩
      · exact absurd (him.1 x1) y1
      · have hT : Sb WXO M M2 := (hs.mono rfl).then hs2 rfl
        have eon : onV M h (M 143) = onV M h (M 2) := on_cg hW (fun i hi => (hfg i hi).symm)
        rw [eon] at g4
        have hSW2 := on_SW hW hSW hB x1
        have hwh : hok WXO h := hokB (by decide +kernel) hh
        obtain ⟨n1, n2, n3, n4⟩ := nREq hT hwh
        have s5 : M2 45 0 = onV M h (M 2) 45 0 := by rw [hs2 45 0 rfl]; exact (f4.2 0).1
        have s6 : ∀ q, M2 46 q = onV M h (M 2) 46 q := fun q => by rw [hs2 46 q rfl]; exact (f4.2 q).2.1
        have s7 : ∀ q, M2 47 q = onV M h (M 2) 47 q := fun q => by rw [hs2 47 q rfl]; exact (f4.2 q).2.2.1
        have s8 : ∀ q, M2 48 q = onV M h (M 2) 48 q := fun q => by rw [hs2 48 q rfl]; exact (f4.2 q).2.2.2
        have hK : RK (CS M2) (M2 185) := (RK.of (V := M) hSW2 g4).cg (fun i hi => by unfold CS; rw [s5, s6, s7, s8]) (fun i hi => rfl)
        refine ⟨y2, h, hh, hT.fix (by decide +kernel) hF, hG0.st hh hT rfl rfl rfl (Or.inr ?_) (Or.inr ?_) rfl ?_ rfl hK (Or.inl ⟨rfl, fun s hs1 hs3 => ?_⟩)⟩
        · obtain ⟨a1, a2, a3, a4⟩ := hGT
          have e11 : M2 1 1 = 0 := (hs2 1 1 rfl).trans f1
          refine ⟨⟨by omega, by omega, by omega⟩, fun i hi => ?_, ?_, ?_⟩
          · rw [hT 143 i rfl, hT 2 i rfl]; exact a2 i hi
          · rw [hT 142 7 rfl, hT 1 8 rfl]; exact a3
          · rw [hT 142 8 rfl, hT 1 9 rfl]; exact a4
        · intro k hk
          have := hGN k hk
          rw [g3 k, hs 144 k rfl, hs2 140 k rfl, f3 k]
          exact ⟨this.1, this.2.1, by omega⟩
        · obtain ⟨⟨b1, b2, b3⟩, ⟨b4, b5, b6⟩, b7, b8⟩ := hGH
          have e2 : M2 49 2 = 0 := (hs2 49 2 rfl).trans f2
          have q2 : hN M2 = 0 := by unfold hN; rw [e2]; rfl
          have r2 : Jvm.Pilot.CFireDrillLaw_law_r2865_e29a64.hR M2 = Jvm.Pilot.CFireDrillLaw_law_r2865_e29a64.hR M := by unfold Jvm.Pilot.CFireDrillLaw_law_r2865_e29a64.hR; rw [hT 49 1 rfl]
          refine ⟨⟨by rw [r2, hT 49 1 rfl]; exact b1, by rw [r2]; exact b2, by rw [r2, hT 142 83 rfl]; exact b3⟩, ⟨by rw [q2, e2]; rfl, by rw [q2]; omega, by rw [q2, g2]; rfl⟩, fun r hr => ?_, fun j hj => by rw [q2] at hj; omega⟩
          have c1 : M2 (51 + r) = M (51 + r) := funext fun k => hT _ _ (wbo 51 71 rfl (by omega) (by omega))
          have c2 : M2 203 = M 203 := funext fun k => hT _ _ rfl
          rw [c1, c2]; exact b7 r hr
        · rw [s7, on_47, if_neg (by omega)]; exact hGX.2.2.2.1 s hs1 hs3
def mnt (b : Int) : Prop := b < 9 ∨ b = 99 ∨ b = 255
def cv (b : Int) : Int := if b = 255 then -1 else b
def seeOk (c : Nat) (f : Nat → Int) (len : Int) : Prop := ∃ q : Nat, len = ((2 * q : Nat) : Int) ∧ 1 ≤ q ∧ q ≤ 16 ∧ ∀ j, j < q → f (2 * j) < (c : Int) ∧ mnt (f (2 * j + 1))
theorem m80 {b : Int} : ax_Ev L X SH 0 80 [(0, b)] M (R1 0 (fun x M' => ((x = 1 ∧ mnt b) ∨ (x = 0 ∧ ¬ mnt b)) ∧ M' = M)) := by
  show ax_G L X SH 0 80 0 [(0, b)] [] M _
  have hC := at80
  unfold mnt
  refine g3 hC rfl rfl ?_
  refine g0 hC rfl ?_
  refine g13l hC rfl (fun h2 => ?_) (fun h2 => ?_)
  ·
    refine g0 hC rfl ?_
    refine g14 hC rfl ?_
    refine ret3 hC rfl ⟨by omega, by omega⟩ ?_
    exact ⟨Or.inl ⟨rfl, by omega⟩, rfl⟩
  ·
    refine g3 hC rfl rfl ?_
    refine g0 hC rfl ?_
    refine g13e hC rfl (fun h5 => ?_) (fun h5 => ?_)
    ·
      refine g0 hC rfl ?_
      refine g14 hC rfl ?_
      refine ret3 hC rfl ⟨by omega, by omega⟩ ?_
      exact ⟨Or.inl ⟨rfl, by omega⟩, rfl⟩
    ·
      refine g3 hC rfl rfl ?_
      refine g0 hC rfl ?_
      refine g13n hC rfl (fun h8 => ?_) (fun h8 => ?_)
      ·
        refine g0 hC rfl ?_
        refine ret3 hC rfl ⟨by omega, by omega⟩ ?_
        exact ⟨Or.inr ⟨rfl, by omega⟩, rfl⟩
      ·
        refine g0 hC rfl ?_
        refine g14 hC rfl ?_
        refine ret3 hC rfl ⟨by omega, by omega⟩ ?_
        exact ⟨Or.inl ⟨rfl, by omega⟩, rfl⟩
theorem m79 (hF : Fix M) (hB : bB (M 2)) (hlen : 0 ≤ M 1 1 ∧ M 1 1 ≤ 1600) {c : Nat} (hc : c ≤ 8) : ax_Ev L X SH 1 79 [(2, 122), (2, 1), (0, (c : Int))] M (R1 0 (fun x M' => (x = 0 ∧ ¬ seeOk c (M 2) (M 1 1) ∧ M' = M) ∨ (x = 1 ∧ seeOk c (M 2) (M 1 1) ∧ Sb W79 M M' ∧ M' 122 0 = M 1 1 / 2 ∧ ∀ j : Nat, ((2 * j : Nat) : Int) < M 1 1 → M' 123 j = M 2 (2 * j) ∧ M' 124 j = cv (M 2 (2 * j + 1))))) := by
  show ax_G L X SH 1 79 0 [(2, 122), (2, 1), (0, (c : Int)), (3, 0), (3, 0)] [] M _
  obtain ⟨P, hP⟩ : ∃ P, P = fun (x : Int) M' => (x = 0 ∧ ¬ seeOk c (M 2) (M 1 1) ∧ M' = M) ∨ (x = 1 ∧ seeOk c (M 2) (M 1 1) ∧ Sb W79 M M' ∧ M' 122 0 = M 1 1 / 2 ∧ ∀ j : Nat, ((2 * j : Nat) : Int) < M 1 1 → M' 123 j = M 2 (2 * j) ∧ M' 124 j = cv (M 2 (2 * j + 1))) := ⟨_, rfl⟩
  rw [← hP]
  have hC := at79
  have hw : wok W79 = true := by decide +kernel
  have hS : Sb W79 M M := Sb.refl
  obtain ⟨len, hl⟩ : ∃ len : Nat, M 1 1 = (len : Int) := ⟨(M 1 1).toNat, by omega⟩
  have l2 : ∀ q : Nat, len = 2 * q → q ≤ 16 → seeOk c (M 2) (M 1 1) → ∀ (m k : Nat), k + m = q → ∀ ll M1, (∃ v, ll = [(2, 122), (2, 1), (0, (c : Int)), (0, (k : Int)), v] ∧ Sb W79 M M1 ∧ M1 122 0 = (q : Int) ∧ ∀ j, j < k → M1 123 j = M 2 (2 * j) ∧ M1 124 j = cv (M 2 (2 * j + 1))) → ax_G L X SH 1 79 49 ll [] M1 (R1 0 P) := by
    intro q hq hq16 hok
    refine lp ?_ ?_
    · rintro ll M1 ⟨v, rfl, hS, e1, e2⟩
      refine g3 hC rfl rfl ?_
      refine g3 hC rfl rfl ?_
      refine g19 hC rfl sh122 (Nat.le_of_ble_eq_true rfl) rfl e1 ?_
      refine g13g hC rfl (fun h52 => ?_) (fun h52 => (by omega))
      refine g0 hC rfl ?_
      refine ret3 hC rfl ⟨by omega, by omega⟩ ?_
      rw [hP]
      exact Or.inr ⟨rfl, hok, hS, by rw [e1]; omega, fun j hj => e2 j (by omega)⟩
    · rintro k hk ll M1 ⟨v, rfl, hS, e1, e2⟩ hnext
      have nxD : ∀ y M3, y = cv (M 2 (2 * k + 1)) → Sb W79 M M3 → M3 = ax_up (ax_up M1 123 k (M 2 (2 * k))) 124 k y → ax_G L X SH 1 79 49 [(2, 122), (2, 1), (0, (c : Int)), (0, (k : Int) + 1), (0, M 2 (2 * k + 1))] [] M3 (R1 0 P) := by
        intro y M3 hy hS e
        refine hnext _ _ ⟨_, rfl, hS, by rw [e, ax_up2n (by decide), ax_up2n (by decide)]; exact e1, fun j hj => ?_⟩
        rw [e, ax_up2n (by decide), ax_upf, ax_upf, ax_up_ne (by decide)]
        unfold up
        by_cases z : j = k
        · rw [if_pos z, if_pos z, z]; exact ⟨rfl, hy⟩
        · rw [if_neg z, if_neg z]; exact e2 j (by omega)
      refine g3 hC rfl rfl ?_
      refine g3 hC rfl rfl ?_
      refine g19 hC rfl sh122 (Nat.le_of_ble_eq_true rfl) rfl e1 ?_
      refine g13g hC rfl (fun h52 => (by omega)) (fun h52 => ?_)
      refine g3 hC rfl rfl ?_
      refine g19 hC rfl rfl (Nat.le_of_ble_eq_true rfl) rfl ((hS.fix hw hF).g rfl) ?_
      refine g0 hC rfl ?_
      refine g3 hC rfl rfl ?_
      refine g6m hC rfl ⟨by omega, by omega⟩ ?_
      refine g0 hC rfl ?_
      refine g6a hC rfl ⟨by omega, by omega⟩ ?_
      refine r21 (((2 * k) + 1)) hC rfl (by omega) rfl (Or.inl rfl) (by omega) (hS 2 (((2 * k) + 1)) rfl) ?_
      refine s4 hC rfl rfl rfl ?_
      refine g3 hC rfl rfl ?_
      refine g19 hC rfl sh122 (Nat.le_of_ble_eq_true rfl) rfl ((hS.fix hw hF).g fx_122_1) ?_
      refine g3 hC rfl rfl ?_
      refine g3 hC rfl rfl ?_
      refine g19 hC rfl rfl (Nat.le_of_ble_eq_true rfl) rfl ((hS.fix hw hF).g rfl) ?_
      refine g0 hC rfl ?_
      refine g3 hC rfl rfl ?_
      refine g6m hC rfl ⟨by omega, by omega⟩ ?_
      refine r21 ((2 * k)) hC rfl (by omega) rfl (Or.inl rfl) (by omega) (hS 2 ((2 * k)) rfl) ?_
      refine r22s (k) hC rfl (by omega) sh123 (by omega) rfl hS rfl (fun hS => ?_)
      refine g3 hC rfl rfl ?_
      refine g19 hC rfl sh122 (Nat.le_of_ble_eq_true rfl) rfl ((hS.fix hw hF).g fx_122_2) ?_
      refine g3 hC rfl rfl ?_
      refine g3 hC rfl rfl ?_
      refine g0 hC rfl ?_
      refine g13n hC rfl (fun h77 => ?_) (fun h77 => ?_)
      ·
        refine g3 hC rfl rfl ?_
        refine r22s (k) hC rfl (by omega) sh124 (by omega) rfl hS rfl (fun hS => ?_)
        refine n3 hC rfl rfl ⟨by omega, by omega⟩ ?_
        refine g14 hC rfl ?_
        exact nxD _ _ (by unfold cv; rw [if_neg h77]) hS rfl
      ·
        refine g0 hC rfl ?_
        refine g14 hC rfl ?_
        refine r22s (k) hC rfl (by omega) sh124 (by omega) rfl hS rfl (fun hS => ?_)
        refine n3 hC rfl rfl ⟨by omega, by omega⟩ ?_
        refine g14 hC rfl ?_
        exact nxD _ _ (by unfold cv; rw [if_pos (by omega)]) hS rfl
  have l1 : ∀ q : Nat, len = 2 * q → 1 ≤ q → q ≤ 16 → ∀ (m k : Nat), k + m = q → ∀ ll M1, (∃ v, ll = [(2, 122), (2, 1), (0, (c : Int)), (0, ((2 * k : Nat) : Int)), v] ∧ M1 = M ∧ ∀ j, j < k → M 2 (2 * j) < (c : Int) ∧ mnt (M 2 (2 * j + 1))) → ax_G L X SH 1 79 17 ll [] M1 (R1 0 P) := by
    intro q hq hq1 hq16
    refine lp ?_ ?_
    · rintro ll M1 ⟨v, rfl, rfl, e1⟩
      refine g3 hC rfl rfl ?_
      refine g0 hC rfl ?_
      refine g6a hC rfl ⟨by omega, by omega⟩ ?_
      refine g3 hC rfl rfl ?_
      refine g19 hC rfl rfl (Nat.le_of_ble_eq_true rfl) rfl hl ?_
      refine g13g hC rfl (fun h22 => ?_) (fun h22 => (by omega))
      refine g3 hC rfl rfl ?_
      refine g3 hC rfl rfl ?_
      refine g19 hC rfl rfl (Nat.le_of_ble_eq_true rfl) rfl hl ?_
      refine g0 hC rfl ?_
      refine g6dN (a := len) (b := 2) hC rfl rfl rfl (by decide) (by omega) ?_
      refine g20s hC rfl sh122 (Nat.le_of_ble_eq_true rfl) rfl hS rfl (fun hS => ?_)
      refine g0 hC rfl ?_
      refine s3 hC rfl rfl rfl ?_
      exact l2 q hq hq16 ⟨q, by omega, hq1, hq16, e1⟩ q 0 (Nat.zero_add _) _ _ ⟨_, rfl, hS, by rw [ax_up_at]; omega, fun j hj => absurd hj (Nat.not_lt_zero j)⟩
    · rintro k hk ll M1 ⟨v, rfl, rfl, e1⟩ hnext
      have c1b := hB (2 * k) (by omega)
      have bad : ¬ (M1 2 (2 * k) < (c : Int) ∧ mnt (M1 2 (2 * k + 1))) → ¬ seeOk c (M1 2) (M1 1 1) := by
        rintro z ⟨q', w1, w2, w3, w4⟩
        exact z (w4 k (by omega))
      refine g3 hC rfl rfl ?_
      refine g0 hC rfl ?_
      refine g6a hC rfl ⟨by omega, by omega⟩ ?_
      refine g3 hC rfl rfl ?_
      refine g19 hC rfl rfl (Nat.le_of_ble_eq_true rfl) rfl hl ?_
      refine g13g hC rfl (fun h22 => (by omega)) (fun h22 => ?_)
      refine g3 hC rfl rfl ?_
      refine g19 hC rfl rfl (Nat.le_of_ble_eq_true rfl) rfl ((hS.fix hw hF).g rfl) ?_
      refine g3 hC rfl rfl ?_
      refine r21 ((2*k)) hC rfl (by omega) rfl (Or.inl rfl) (by omega) (hS 2 ((2*k)) rfl) ?_
      refine g3 hC rfl rfl ?_
      refine g13g hC rfl (fun h28 => ?_) (fun h28 => ?_)
      ·
        refine g0 hC rfl ?_
        refine ret3 hC rfl ⟨by omega, by omega⟩ ?_
        rw [hP]
        exact Or.inl ⟨rfl, bad (fun w => by omega), rfl⟩
      ·
        refine g3 hC rfl rfl ?_
        refine g19 hC rfl rfl (Nat.le_of_ble_eq_true rfl) rfl ((hS.fix hw hF).g rfl) ?_
        refine g3 hC rfl rfl ?_
        refine g0 hC rfl ?_
        refine g6a hC rfl ⟨by omega, by omega⟩ ?_
        refine r21 (((2*k) + 1)) hC rfl (by omega) rfl (Or.inl rfl) (by omega) (hS 2 (((2*k) + 1)) rfl) ?_
        refine c1 hC rfl rfl rfl (Nat.le_of_ble_eq_true rfl) (Nat.le_of_ble_eq_true rfl) rfl (m80) (Nat.le_of_ble_eq_true rfl) (fun x M2 hr => ?_)
        obtain ⟨hx, hr⟩ := hr; replace hr := hr.symm; subst hr
        refine g12n hC rfl (fun h36 => ?_) (fun h36 => ?_)
        ·
          refine n3 hC rfl rfl ⟨by omega, by omega⟩ ?_
          refine g14 hC rfl ?_
          refine hnext _ _ ⟨v, by rw [show ((2 * k : Nat) : Int) + 2 = ((2 * (k + 1) : Nat) : Int) by omega], rfl, fun j hj => ?_⟩
          by_cases z : j = k
          · rw [z]
            refine ⟨by omega, ?_⟩
            rcases hx with y | y
            · exact y.2
            · exact absurd y.1 h36
          · exact e1 j (by omega)
        ·
          refine g0 hC rfl ?_
          refine ret3 hC rfl ⟨by omega, by omega⟩ ?_
          rw [hP]
          refine Or.inl ⟨rfl, bad (fun w => ?_), rfl⟩
          rcases hx with y | y
          · omega
          · exact y.2 w.2
  refine g3 hC rfl rfl ?_
  refine g19 hC rfl rfl (Nat.le_of_ble_eq_true rfl) rfl hl ?_
  refine g0 hC rfl ?_
  refine g13l hC rfl (fun h3 => ?_) (fun h3 => ?_)
  ·
    refine g0 hC rfl ?_
    refine ret3 hC rfl ⟨by omega, by omega⟩ ?_
    rw [hP]
    exact Or.inl ⟨rfl, fun ⟨q', w1, w2, w3, w4⟩ => by omega, rfl⟩
  ·
    refine g3 hC rfl rfl ?_
    refine g19 hC rfl rfl (Nat.le_of_ble_eq_true rfl) rfl hl ?_
    refine g0 hC rfl ?_
    refine g13t hC rfl (fun h7 => ?_) (fun h7 => ?_)
    ·
      refine g0 hC rfl ?_
      refine ret3 hC rfl ⟨by omega, by omega⟩ ?_
      rw [hP]
      exact Or.inl ⟨rfl, fun ⟨q', w1, w2, w3, w4⟩ => by omega, rfl⟩
    ·
      refine g3 hC rfl rfl ?_
      refine g19 hC rfl rfl (Nat.le_of_ble_eq_true rfl) rfl hl ?_
      refine g0 hC rfl ?_
      refine g6rN (a := len) (b := 2) hC rfl rfl rfl (by decide) (by omega) ?_
      refine g12e hC rfl (fun h12 => ?_) (fun h12 => ?_)
      ·
        refine g0 hC rfl ?_
        refine s3 hC rfl rfl rfl ?_
        exact l1 (len / 2) (by omega) (by omega) (by omega) (len / 2) 0 (Nat.zero_add _) _ _ ⟨_, rfl, rfl, fun j hj => absurd hj (Nat.not_lt_zero j)⟩
      ·
        refine g0 hC rfl ?_
        refine ret3 hC rfl ⟨by omega, by omega⟩ ?_
        rw [hP]
        exact Or.inl ⟨rfl, fun ⟨q', w1, w2, w3, w4⟩ => by omega, rfl⟩
end SEE
