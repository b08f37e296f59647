section ACT
variable {L : Nat} {X : Nat → Int} {M V M1 M2 : ax_M} {h n : Nat}
def okPo (V : ax_M) (h : Nat) (a b : Int) : Prop := (0 ≤ a ∧ a < (nQ V h : Int)) ∧ (0 ≤ b ∧ b ≤ 20) ∧ V 46 a.toNat ≠ b
theorem m127 (hF : Fix M) (hh : h = 9 ∨ h = 27) (hG : GG n h M) (hn : n ≤ 1000) {a b : Int} : ax_Ev L X SH 2 127 [(2, 0), (0, a), (0, b)] M (R1 0 (fun x M' => (¬ okPo M h a b ∧ x = 0 ∧ M' = ax_up M 140 2 (M 140 2 + 1)) ∨ (okPo M h a b ∧ x = 1 ∧ ∃ Ma, Sb WA M Ma ∧ ((∀ b, b ≠ 51 + hR M → b ≠ 49 → Ma b = M b) ∧ (∀ i, i < 44 → Ma (51 + hR M) i = CS M i) ∧ Ma 49 1 = (((hR M + 1) % 20 : Nat) : Int) ∧ Ma 49 2 = ((min 20 (hN M + 1) : Nat) : Int)) ∧ M' = ax_up Ma 46 a.toNat b))) := by
  show ax_G L X SH 2 127 0 [(2, 0), (0, a), (0, b)] [] M _
  have hC := at127
  have hw : wok WP = true := by decide +kernel
  have hwh : hok WP h := hokB (by decide +kernel) hh
  have hS : Sb WP M M := Sb.refl
  have hV : HV M h M := HV.refl
  have hH3 : M 0 3 = (h : Int) := hG.2.2.2.2.2.2.2.2.2.1.1
  have hW := hG.1
  have hbn : nQ M h ≤ 5 := hW.1.2.2.1.2
  have hN2 := hG.2.2.2.2.2.1 2 (by decide)
  have hgh := hG.2.2.2.2.2.2.2.1
  have nok : ¬ okPo M h a b → ∀ d0, 1 ≤ d0 → ax_G L X SH d0 127 17 [(2, 0), (0, a), (0, b)] [] M (R1 0 (fun x M' => (¬ okPo M h a b ∧ x = 0 ∧ M' = ax_up M 140 2 (M 140 2 + 1)) ∨ (okPo M h a b ∧ x = 1 ∧ ∃ Ma, Sb WA M Ma ∧ ((∀ b, b ≠ 51 + hR M → b ≠ 49 → Ma b = M b) ∧ (∀ i, i < 44 → Ma (51 + hR M) i = CS M i) ∧ Ma 49 1 = (((hR M + 1) % 20 : Nat) : Int) ∧ Ma 49 2 = ((min 20 (hN M + 1) : Nat) : Int)) ∧ M' = ax_up Ma 46 a.toNat b))) := by
    intro z d0 hd0
    refine ax_G.mono (d := 1) ?_ hd0
    refine g3 hC rfl rfl ?_
    refine g0 hC rfl ?_
    refine c1 hC rfl rfl rfl (Nat.le_of_ble_eq_true rfl) (Nat.le_of_ble_eq_true rfl) rfl (m139 (k := 2) hF (by decide) ⟨hN2.2.1, by omega⟩) (Nat.le_of_ble_eq_true rfl) (fun x M2 hr => ?_)
    obtain ⟨rfl, hr⟩ := hr
    refine ret3 hC rfl ⟨by omega, by omega⟩ ?_
    exact Or.inl ⟨z, rfl, hr⟩
  by_cases z : 0 ≤ a ∧ a < (nQ M h : Int)
  · obtain ⟨k, rfl⟩ : ∃ k : Nat, a = (k : Int) := ⟨a.toNat, by omega⟩
    by_cases y : 0 ≤ b ∧ b ≤ 20
    · skip
      refine g3 hC rfl rfl ?_
      refine g3 hC rfl rfl ?_
      refine g19 hC rfl rfl (Nat.le_of_ble_eq_true rfl) rfl ((hS _ _ rfl).trans hH3) ?_
      refine g19 hC rfl (shH hh) (Nat.le_of_ble_eq_true rfl) rfl (rd2 hS hwh hV hW) ?_
      refine c1 hC rfl rfl rfl (Nat.le_of_ble_eq_true rfl) (Nat.le_of_ble_eq_true rfl) rfl (m140) (Nat.le_of_ble_eq_true rfl) (fun x M2 hr => ?_)
      obtain ⟨rfl, hr⟩ := hr; replace hr := hr.symm; subst hr; rw [if_pos (by omega)]
      refine g12e hC rfl (fun h5 => (by omega)) (fun h5 => ?_)
      refine g3 hC rfl rfl ?_
      refine g0 hC rfl ?_
      refine c1 hC rfl rfl rfl (Nat.le_of_ble_eq_true rfl) (Nat.le_of_ble_eq_true rfl) rfl (m140) (Nat.le_of_ble_eq_true rfl) (fun x M2 hr => ?_)
      obtain ⟨rfl, hr⟩ := hr; replace hr := hr.symm; subst hr; rw [if_pos (by omega)]
      refine g12e hC rfl (fun h9 => (by omega)) (fun h9 => ?_)
      refine g3 hC rfl rfl ?_
      refine g19 hC rfl rfl (Nat.le_of_ble_eq_true rfl) rfl ((hS.fix hw hF).g rfl) ?_
      refine g19 hC rfl rfl (Nat.le_of_ble_eq_true rfl) rfl ((hS.fix hw hF).g rfl) ?_
      refine g3 hC rfl rfl ?_
      refine r21 (k) hC rfl (by omega) rfl (Or.inl rfl) (by omega) (rfl : M 46 k = M 46 k) ?_
      refine g3 hC rfl rfl ?_
      refine g13n hC rfl (fun h16 => ?_) (fun h16 => ?_)
      ·
        refine g3 hC rfl rfl ?_
        refine g19 hC rfl rfl (Nat.le_of_ble_eq_true rfl) rfl ((hS.fix hw hF).g rfl) ?_
        refine g3 hC rfl rfl ?_
        refine g19 hC rfl rfl (Nat.le_of_ble_eq_true rfl) rfl ((hS.fix hw hF).g rfl) ?_
        refine c0 hC rfl rfl rfl (Nat.le_of_ble_eq_true rfl) (Nat.le_of_ble_eq_true rfl) rfl (m31 hF ⟨hgh.1.1, hgh.1.2.1⟩ ⟨hgh.2.1.1, hgh.2.1.2.1⟩) (Nat.le_of_ble_eq_true rfl) (fun M2 hr => ?_)
        obtain ⟨hr0, hr⟩ := hr; have hS := hS.then hr0 rfl
        refine g3 hC rfl rfl ?_
        refine g19 hC rfl rfl (Nat.le_of_ble_eq_true rfl) rfl ((hS.fix hw hF).g rfl) ?_
        refine g19 hC rfl rfl (Nat.le_of_ble_eq_true rfl) rfl ((hS.fix hw hF).g rfl) ?_
        refine g3 hC rfl rfl ?_
        refine g3 hC rfl rfl ?_
        refine r22s (k) hC rfl (by omega) rfl (by omega) rfl hS rfl (fun hS => ?_)
        refine g0 hC rfl ?_
        refine ret3 hC rfl ⟨by omega, by omega⟩ ?_
        exact Or.inr ⟨⟨z, y, h16⟩, rfl, _, hr0, hr, rfl⟩
      ·
        refine nok (fun w => h16 w.2.2) 2 (by decide)
    · skip
      refine g3 hC rfl rfl ?_
      refine g3 hC rfl rfl ?_
      refine g19 hC rfl rfl (Nat.le_of_ble_eq_true rfl) rfl ((hS _ _ rfl).trans hH3) ?_
      refine g19 hC rfl (shH hh) (Nat.le_of_ble_eq_true rfl) rfl (rd2 hS hwh hV hW) ?_
      refine c1 hC rfl rfl rfl (Nat.le_of_ble_eq_true rfl) (Nat.le_of_ble_eq_true rfl) rfl m140 (Nat.le_of_ble_eq_true rfl) (fun x M2 hr => ?_)
      obtain ⟨rfl, hr⟩ := hr; replace hr := hr.symm; subst hr; rw [if_pos (by omega)]
      refine g12e hC rfl (fun h5 => (by omega)) (fun h5 => ?_)
      refine g3 hC rfl rfl ?_
      refine g0 hC rfl ?_
      refine c1 hC rfl rfl rfl (Nat.le_of_ble_eq_true rfl) (Nat.le_of_ble_eq_true rfl) rfl m140 (Nat.le_of_ble_eq_true rfl) (fun x M2 hr => ?_)
      obtain ⟨rfl, hr⟩ := hr; replace hr := hr.symm; subst hr; rw [if_neg (by omega)]
      refine g12e hC rfl (fun h9 => ?_) (fun h9 => (by omega))
      exact nok (fun w => y w.2.1) 2 (by decide)
  · skip
    refine g3 hC rfl rfl ?_
    refine g3 hC rfl rfl ?_
    refine g19 hC rfl rfl (Nat.le_of_ble_eq_true rfl) rfl ((hS _ _ rfl).trans hH3) ?_
    refine g19 hC rfl (shH hh) (Nat.le_of_ble_eq_true rfl) rfl (rd2 hS hwh hV hW) ?_
    refine c1 hC rfl rfl rfl (Nat.le_of_ble_eq_true rfl) (Nat.le_of_ble_eq_true rfl) rfl (m140) (Nat.le_of_ble_eq_true rfl) (fun x M2 hr => ?_)
    obtain ⟨rfl, hr⟩ := hr; replace hr := hr.symm; subst hr; rw [if_neg (by omega)]
    refine g12e hC rfl (fun h5 => ?_) (fun h5 => (by omega))
    exact nok (fun w => z w.1) 2 (by decide)
theorem m257 (hF : Fix M) (hV : RV V h M) (hW : HW V h) (hN2 : 0 ≤ M 144 2 ∧ M 144 2 ≤ 1000000) {r q : Nat} (hr1 : M 142 83 = (r : Int) ∧ r < 20) (hn1 : M 142 82 = (q : Int) ∧ q ≤ 20) {a b : Int} : ax_Ev L X SH 3 257 [(2, 142), (0, a), (0, b)] M (R1 0 (fun x M' => (¬ okPo V h a b ∧ x = 0 ∧ M' = ax_up M 144 2 (M 144 2 + 1)) ∨ (okPo V h a b ∧ x = 1 ∧ ∃ Ma, Sb XK M Ma ∧ ((∀ k, Ma 203 k = if 44 * ((r + 1) % 20) ≤ k ∧ k < 44 * ((r + 1) % 20) + 44 then M 185 (k - 44 * ((r + 1) % 20)) else M 203 k) ∧ Ma 142 83 = (((r + 1) % 20 : Nat) : Int) ∧ Ma 142 82 = ((min 20 (q + 1) : Nat) : Int)) ∧ M' = ax_up Ma 185 (1 + a.toNat) b))) := by
  show ax_G L X SH 3 257 0 [(2, 142), (0, a), (0, b)] [] M _
  have hC := at257
  have hw : wok XP = true := by decide +kernel
  have hS : Sb XP M M := Sb.refl
  have hbn : nQ V h ≤ 5 := hW.1.2.2.1.2
  have nok : ¬ okPo V h a b → ∀ d0, 1 ≤ d0 → ax_G L X SH d0 257 18 [(2, 142), (0, a), (0, b)] [] M (R1 0 (fun x M' => (¬ okPo V h a b ∧ x = 0 ∧ M' = ax_up M 144 2 (M 144 2 + 1)) ∨ (okPo V h a b ∧ x = 1 ∧ ∃ Ma, Sb XK M Ma ∧ ((∀ k, Ma 203 k = if 44 * ((r + 1) % 20) ≤ k ∧ k < 44 * ((r + 1) % 20) + 44 then M 185 (k - 44 * ((r + 1) % 20)) else M 203 k) ∧ Ma 142 83 = (((r + 1) % 20 : Nat) : Int) ∧ Ma 142 82 = ((min 20 (q + 1) : Nat) : Int)) ∧ M' = ax_up Ma 185 (1 + a.toNat) b))) := by
    intro z d0 hd0
    refine ax_G.mono (d := 1) ?_ hd0
    refine g3 hC rfl rfl ?_
    refine c1 hC rfl rfl rfl (Nat.le_of_ble_eq_true rfl) (Nat.le_of_ble_eq_true rfl) (mayR k256 rfl) (m256 hF hN2) (Nat.le_of_ble_eq_true rfl) (fun x M2 hr => ?_)
    obtain ⟨rfl, hr⟩ := hr
    refine ret3 hC rfl ⟨by omega, by omega⟩ ?_
    exact Or.inl ⟨z, rfl, hr⟩
  by_cases z : 0 ≤ a ∧ a < (nQ V h : Int)
  · obtain ⟨k, rfl⟩ : ∃ k : Nat, a = (k : Int) := ⟨a.toNat, by omega⟩
    have e1 : M 185 (1 + k) = V 46 k := hV.2.2.2.2.1.2.1 k (by omega)
    by_cases y : 0 ≤ b ∧ b ≤ 20
    · skip
      refine g3 hC rfl rfl ?_
      refine g3 hC rfl rfl ?_
      refine c1 hC rfl rfl rfl (Nat.le_of_ble_eq_true rfl) (Nat.le_of_ble_eq_true rfl) (mayR k188 rfl) (m188 hF hV hW) (Nat.le_of_ble_eq_true rfl) (fun x M2 hr => ?_)
      obtain ⟨rfl, hr⟩ := hr; replace hr := hr.symm; subst hr; rw [if_pos (by omega)]
      refine g12e hC rfl (fun h3 => (by omega)) (fun h3 => ?_)
      refine g3 hC rfl rfl ?_
      refine g9 hC rfl ?_
      refine g1 hC rfl ?_
      refine g1 hC rfl ?_
      refine c1 hC rfl rfl rfl (Nat.le_of_ble_eq_true rfl) (Nat.le_of_ble_eq_true rfl) (mayS k153 rfl) (m153) (Nat.le_of_ble_eq_true rfl) (fun x M2 hr => ?_)
      obtain ⟨rfl, hr⟩ := hr; replace hr := hr.symm; subst hr; rw [if_pos (by omega)]
      refine g12e hC rfl (fun h9 => (by omega)) (fun h9 => ?_)
      refine g3 hC rfl rfl ?_
      refine g19 hC rfl sh142 (flt12 rfl) ft12_54 ((hS.fix hw hF).g fx_142_54) ?_
      refine g0 hC rfl ?_
      refine g3 hC rfl rfl ?_
      refine g6a hC rfl ⟨by omega, by omega⟩ ?_
      refine r21 (1 + k) hC rfl (by omega) sh185 (Or.inl rfl) (by omega) e1 ?_
      refine g3 hC rfl rfl ?_
      refine g13n hC rfl (fun h17 => ?_) (fun h17 => ?_)
      ·
        refine g3 hC rfl rfl ?_
        refine c0 hC rfl rfl rfl (Nat.le_of_ble_eq_true rfl) (Nat.le_of_ble_eq_true rfl) (mayR k254 rfl) (m254 hF hr1 hn1) (Nat.le_of_ble_eq_true rfl) (fun M2 hr => ?_)
        obtain ⟨hr0, hr⟩ := hr; have hS := hS.then hr0 rfl
        refine g3 hC rfl rfl ?_
        refine g19 hC rfl sh142 (flt12 rfl) ft12_54 ((hS.fix hw hF).g fx_142_54) ?_
        refine g0 hC rfl ?_
        refine g3 hC rfl rfl ?_
        refine g6a hC rfl ⟨by omega, by omega⟩ ?_
        refine g3 hC rfl rfl ?_
        refine r22s ((1 + k)) hC rfl (by omega) sh185 (by omega) rfl hS rfl (fun hS => ?_)
        refine g0 hC rfl ?_
        refine ret3 hC rfl ⟨by omega, by omega⟩ ?_
        exact Or.inr ⟨⟨z, y, h17⟩, rfl, _, hr0, hr, rfl⟩
      ·
        refine nok (fun w => h17 w.2.2) 3 (by decide)
    · skip
      refine g3 hC rfl rfl ?_
      refine g3 hC rfl rfl ?_
      refine c1 hC rfl rfl rfl (Nat.le_of_ble_eq_true rfl) (Nat.le_of_ble_eq_true rfl) (mayR k188 rfl) (m188 hF hV hW) (Nat.le_of_ble_eq_true rfl) (fun x M2 hr => ?_)
      obtain ⟨rfl, hr⟩ := hr; replace hr := hr.symm; subst hr; rw [if_pos (by omega)]
      refine g12e hC rfl (fun h3 => (by omega)) (fun h3 => ?_)
      refine g3 hC rfl rfl ?_
      refine g9 hC rfl ?_
      refine g1 hC rfl ?_
      refine g1 hC rfl ?_
      refine c1 hC rfl rfl rfl (Nat.le_of_ble_eq_true rfl) (Nat.le_of_ble_eq_true rfl) (mayS k153 rfl) (m153) (Nat.le_of_ble_eq_true rfl) (fun x M2 hr => ?_)
      obtain ⟨rfl, hr⟩ := hr; replace hr := hr.symm; subst hr; rw [if_neg (by omega)]
      refine g12e hC rfl (fun h9 => ?_) (fun h9 => (by omega))
      exact nok (fun w => y w.2.1) 3 (by decide)
  · skip
    refine g3 hC rfl rfl ?_
    refine g3 hC rfl rfl ?_
    refine c1 hC rfl rfl rfl (Nat.le_of_ble_eq_true rfl) (Nat.le_of_ble_eq_true rfl) (mayR k188 rfl) (m188 hF hV hW) (Nat.le_of_ble_eq_true rfl) (fun x M2 hr => ?_)
    obtain ⟨rfl, hr⟩ := hr; replace hr := hr.symm; subst hr; rw [if_neg (by omega)]
    refine g12e hC rfl (fun h3 => ?_) (fun h3 => (by omega))
    exact nok (fun w => z w.1) 3 (by decide)
theorem RK.po {f g : Nat → Int} (hK : RK f g) {k : Nat} (hk : k < 5) {b : Int} (hb : 0 ≤ b ∧ b ≤ 20) : RK (up f (1 + k) b) (up g (1 + k) b) := by
  refine ⟨?_, fun q hq => ?_, fun s hs => ?_, fun a c hab hc => ?_, fun i hi => ?_⟩
  · rw [up_ne (by omega), up_ne (by omega)]; exact hK.1
  · have := hK.2.1 q hq
    by_cases z : q = k
    · rw [z, up_at, up_at]; exact ⟨rfl, hb⟩
    · rw [up_ne (by omega), up_ne (by omega)]; exact this
  · have := hK.2.2.1 s hs
    rw [up_ne (by omega), up_ne (by omega)]; exact this
  · rw [up_ne (by omega), up_ne (by omega)]; exact hK.2.2.2.1 a c hab hc
  · rw [up_ne (by omega)]; exact hK.2.2.2.2 i hi
theorem op27 (hR : Rel n M) (hn : n ≤ 1000) {a b : Int} : OP L X n 0 127 257 [(2, 0), (0, a), (0, b)] [(2, 142), (0, a), (0, b)] M := by
  have hR0 := hR
  obtain ⟨h, hh, hF, hG⟩ := hR
  have hG0 := hG
  obtain ⟨hW, hSW, hPW, hRV, hGT, hGN, hGM, hGH, hGS, hGX⟩ := hG
  have hV : HV M h M := HV.refl
  have hH3 : M 0 3 = (h : Int) := hGX.1.1
  have hN2 := hGN 2 (by decide)
  refine OP.tw (d' := 3) (m127 hF hh hG0 hn) (Q := fun x M1 y M2 => (¬ okPo M h a b ∧ y = 0 ∧ M2 = ax_up M1 144 2 (M1 144 2 + 1)) ∨ (okPo M h a b ∧ y = 1 ∧ ∃ Ma, Sb XK M1 Ma ∧ ((∀ k, Ma 203 k = if 44 * ((hR M + 1) % 20) ≤ k ∧ k < 44 * ((hR M + 1) % 20) + 44 then M1 185 (k - 44 * ((hR M + 1) % 20)) else M1 203 k) ∧ Ma 142 83 = (((hR M + 1) % 20 : Nat) : Int) ∧ Ma 142 82 = ((min 20 (hN M + 1) : Nat) : Int)) ∧ M2 = ax_up Ma 185 (1 + a.toNat) b)) (fun x M1 hx => ?_) (fun x M1 y M2 hx hy => ?_) (by decide) (by decide)
  · have key : ∀ M1 : ax_M, Sb WP M M1 ∨ Sb WR M M1 → Fix M1 ∧ RV M h M1 ∧ M1 144 2 = M 144 2 ∧ M1 142 83 = M 142 83 ∧ M1 142 82 = M 142 82 := by
      intro M1 hs
      rcases hs with hs | hs
      · exact ⟨hs.fix (by decide +kernel) hF, hRV.sb hs (rokB (by decide +kernel)), hs _ _ rfl, hs _ _ rfl, hs _ _ rfl⟩
      · exact ⟨hs.fix (by decide +kernel) hF, hRV.sb hs (rokB (by decide +kernel)), hs _ _ rfl, hs _ _ rfl, hs _ _ rfl⟩
    have hs : Sb WP M M1 ∨ Sb WR M M1 := by
      rcases hx with ⟨-, -, rfl⟩ | ⟨-, -, Ma, hs, -, rfl⟩
      · exact Or.inr (Sb.refl.up rfl)
      · exact Or.inl ((hs.mono rfl).up rfl)
    obtain ⟨k1, k2, k3, k4, k5⟩ := key M1 hs
    exact m257 k1 k2 hW (by rw [k3]; omega) ⟨k4.trans hGH.1.2.2, hGH.1.2.1⟩ ⟨k5.trans hGH.2.1.2.2, hGH.2.1.2.1⟩
  · rcases hx with ⟨x1, rfl, rfl⟩ | ⟨x1, rfl, Ma, hsa, ⟨f1, f2, f3, f4⟩, rfl⟩
    · rcases hy with ⟨-, y2, y3⟩ | ⟨y1, -⟩
      · rw [ax_up_ne (show (144 : Nat) ≠ 140 by decide)] at y3
        exact ⟨y2, relInc hR0 y3⟩
      · exact absurd y1 x1
    · rcases hy with ⟨y1, -⟩ | ⟨-, y2, Mb, hsb, ⟨e1, e2, e3⟩, y3⟩
      · exact absurd x1 y1
      · obtain ⟨k, rfl⟩ : ∃ k : Nat, a = (k : Int) := ⟨a.toNat, by have := x1.1; omega⟩
        simp only [Int.toNat_natCast] at y3 hsb e1
        have hkn : k < nQ M h := by have := x1.1; omega
        have hbn : nQ M h ≤ 5 := hW.1.2.2.1.2
        have hT : Sb WXP M M2 := by
          rw [y3]
          exact ((((hsa.mono rfl).up rfl).then hsb rfl).up rfl)
        have c1 : ∀ c q, c ≠ 185 → c ≠ 142 → c ≠ 203 → M2 c q = ax_up Ma 46 k b c q := by
          intro c q h1 h2 h3
          rw [y3, ax_up2n h1]
          exact hsb c q (by
            unfold wb XK
            simp only [List.any_cons, List.any_nil, Bool.or_false, Bool.or_eq_false_iff, Bool.and_eq_false_iff]
            refine ⟨?_, ?_, ?_⟩
            · cases u : Nat.ble 203 c with
              | false => exact Or.inl rfl
              | true => right; cases w : Nat.ble (c + 1) 204 with
                | false => rfl
                | true => exfalso; have := Nat.le_of_ble_eq_true u; have := Nat.le_of_ble_eq_true w; omega
            · left; cases u : Nat.beq 142 c with
              | false => rfl
              | true => exact absurd (Nat.eq_of_beq_eq_true u).symm h2
            · left; cases u : Nat.beq 142 c with
              | false => rfl
              | true => exact absurd (Nat.eq_of_beq_eq_true u).symm h2)
        have c2 : ∀ c q, c ≠ 185 → c ≠ 142 → c ≠ 203 → c ≠ 46 → c ≠ 49 → c ≠ 51 + hR M → M2 c q = M c q := by
          intro c q h1 h2 h3 h4 h5 h6
          rw [c1 c q h1 h2 h3, ax_up2n h4, f1 c h6 h5]
        have c3 : ∀ q, M2 46 q = up (M 46) k b q := by
          intro q
          rw [c1 46 q (by decide) (by decide) (by decide), ax_upf, f1 46 (by omega) (by decide)]
        have hr := hGH.1.2.1
        have c4 : ∀ q, M2 185 q = up (M 185) (1 + k) b q := by
          intro q
          rw [y3, ax_upf]
          have : Mb 185 = M 185 := by
            funext q
            rw [hsb 185 q rfl, ax_up2n (by decide), f1 185 (by omega) (by decide)]
          rw [this]
        have hK0 : RK (CS M) (M 185) := RK.of (V := M) hSW hRV
        have hK : RK (CS M2) (M2 185) := by
          refine (hK0.po (k := k) (by omega) x1.2.1).cg (fun i hi => ?_) (fun i hi => c4 i)
          have s5 := c2 45 0 (by decide) (by decide) (by decide) (by decide) (by decide) (by omega)
          have s7 : ∀ q, M2 47 q = M 47 q := fun q => c2 47 q (by decide) (by decide) (by decide) (by decide) (by decide) (by omega)
          have s8 : ∀ q, M2 48 q = M 48 q := fun q => c2 48 q (by decide) (by decide) (by decide) (by decide) (by decide) (by omega)
          unfold CS up
          dsimp only
          rw [s5, s7, s8, c3]
          unfold up
          by_cases z : i = 1 + k
          · rw [if_pos z, if_neg (by omega), if_pos (by omega), if_pos (by omega)]
          · rw [if_neg z]
            by_cases y0 : i = 0
            · rw [if_pos y0, if_pos y0]
            · rw [if_neg y0, if_neg y0, if_neg (show ¬ i - 1 = k by omega)]
        refine ⟨y2, h, hh, hT.fix (by decide +kernel) hF, hG0.st hh hT rfl rfl rfl (Or.inl rfl) (Or.inl ⟨rfl, by omega⟩) rfl ?_ rfl hK (Or.inl ⟨rfl, fun s hs1 hs2 => ?_⟩)⟩
        · refine GH.add hG0 (nREq hT (hokB (by decide +kernel) hh)).2.1 (fun c h1 h2 h3 => funext fun q => c2 c q (by omega) (by omega) (by omega) (by omega) (by omega) h3) (fun i hi => ?_) ?_ ?_ (fun k' => ?_) ?_ ?_
          · rw [c1 _ _ (by omega) (by omega) (by omega), ax_up2n (by omega)]; exact f2 i hi
          · rw [c1 49 1 (by decide) (by decide) (by decide), ax_up2n (by decide)]; exact f3
          · rw [c1 49 2 (by decide) (by decide) (by decide), ax_up2n (by decide)]; exact f4
          · rw [y3, ax_up2n (by decide), e1]
            have h1 : ∀ q, ax_up Ma 46 k b 185 q = M 185 q := fun q => by rw [ax_up2n (by decide), f1 185 (by omega) (by decide)]
            have h2 : ∀ q, ax_up Ma 46 k b 203 q = M 203 q := fun q => by rw [ax_up2n (by decide), f1 203 (by omega) (by decide)]
            rw [h1, h2]
          · rw [y3, ax_up2n (by decide)]; exact e2
          · rw [y3, ax_up2n (by decide)]; exact e3
        · rw [c2 47 s (by decide) (by decide) (by decide) (by decide) (by decide) (by omega)]; exact hGX.2.2.2.1 s hs1 hs2
def okSh (V : ax_M) (h : Nat) (a b : Int) : Prop := (0 ≤ a ∧ a < (nS V h : Int)) ∧ (0 ≤ b ∧ b ≤ 1) ∧ V 47 a.toNat ≠ b
theorem m128 (hF : Fix M) (hh : h = 9 ∨ h = 27) (hG : GG n h M) (hn : n ≤ 1000) {a b : Int} : ax_Ev L X SH 2 128 [(2, 0), (0, a), (0, b)] M (R1 0 (fun x M' => (¬ okSh M h a b ∧ x = 0 ∧ M' = ax_up M 140 2 (M 140 2 + 1)) ∨ (okSh M h a b ∧ x = 1 ∧ ∃ Ma, Sb WA M Ma ∧ ((∀ b, b ≠ 51 + hR M → b ≠ 49 → Ma b = M b) ∧ (∀ i, i < 44 → Ma (51 + hR M) i = CS M i) ∧ Ma 49 1 = (((hR M + 1) % 20 : Nat) : Int) ∧ Ma 49 2 = ((min 20 (hN M + 1) : Nat) : Int)) ∧ M' = ax_up Ma 47 a.toNat b))) := by
  show ax_G L X SH 2 128 0 [(2, 0), (0, a), (0, b)] [] M _
  have hC := at128
  have hw : wok WP = true := by decide +kernel
  have hwh : hok WP h := hokB (by decide +kernel) hh
  have hS : Sb WP M M := Sb.refl
  have hV : HV M h M := HV.refl
  have hH3 : M 0 3 = (h : Int) := hG.2.2.2.2.2.2.2.2.2.1.1
  have hW := hG.1
  have hbn : nS M h ≤ 10 := hW.1.2.1.2
  have hN2 := hG.2.2.2.2.2.1 2 (by decide)
  have hgh := hG.2.2.2.2.2.2.2.1
  have nok : ¬ okSh M h a b → ∀ d0, 1 ≤ d0 → ax_G L X SH d0 128 17 [(2, 0), (0, a), (0, b)] [] M (R1 0 (fun x M' => (¬ okSh M h a b ∧ x = 0 ∧ M' = ax_up M 140 2 (M 140 2 + 1)) ∨ (okSh M h a b ∧ x = 1 ∧ ∃ Ma, Sb WA M Ma ∧ ((∀ b, b ≠ 51 + hR M → b ≠ 49 → Ma b = M b) ∧ (∀ i, i < 44 → Ma (51 + hR M) i = CS M i) ∧ Ma 49 1 = (((hR M + 1) % 20 : Nat) : Int) ∧ Ma 49 2 = ((min 20 (hN M + 1) : Nat) : Int)) ∧ M' = ax_up Ma 47 a.toNat b))) := by
    intro z d0 hd0
    refine ax_G.mono (d := 1) ?_ hd0
    refine g3 hC rfl rfl ?_
    refine g0 hC rfl ?_
    refine c1 hC rfl rfl rfl (Nat.le_of_ble_eq_true rfl) (Nat.le_of_ble_eq_true rfl) rfl (m139 (k := 2) hF (by decide) ⟨hN2.2.1, by omega⟩) (Nat.le_of_ble_eq_true rfl) (fun x M2 hr => ?_)
    obtain ⟨rfl, hr⟩ := hr
    refine ret3 hC rfl ⟨by omega, by omega⟩ ?_
    exact Or.inl ⟨z, rfl, hr⟩
  by_cases z : 0 ≤ a ∧ a < (nS M h : Int)
  · obtain ⟨k, rfl⟩ : ∃ k : Nat, a = (k : Int) := ⟨a.toNat, by omega⟩
    by_cases y : 0 ≤ b ∧ b ≤ 1
    · skip
      refine g3 hC rfl rfl ?_
      refine g3 hC rfl rfl ?_
      refine g19 hC rfl rfl (Nat.le_of_ble_eq_true rfl) rfl ((hS _ _ rfl).trans hH3) ?_
      refine g19 hC rfl (shH hh) (Nat.le_of_ble_eq_true rfl) rfl (rd1 hS hwh hV hW) ?_
      refine c1 hC rfl rfl rfl (Nat.le_of_ble_eq_true rfl) (Nat.le_of_ble_eq_true rfl) rfl (m140) (Nat.le_of_ble_eq_true rfl) (fun x M2 hr => ?_)
      obtain ⟨rfl, hr⟩ := hr; replace hr := hr.symm; subst hr; rw [if_pos (by omega)]
      refine g12e hC rfl (fun h5 => (by omega)) (fun h5 => ?_)
      refine g3 hC rfl rfl ?_
      refine g0 hC rfl ?_
      refine c1 hC rfl rfl rfl (Nat.le_of_ble_eq_true rfl) (Nat.le_of_ble_eq_true rfl) rfl (m140) (Nat.le_of_ble_eq_true rfl) (fun x M2 hr => ?_)
      obtain ⟨rfl, hr⟩ := hr; replace hr := hr.symm; subst hr; rw [if_pos (by omega)]
      refine g12e hC rfl (fun h9 => (by omega)) (fun h9 => ?_)
      refine g3 hC rfl rfl ?_
      refine g19 hC rfl rfl (Nat.le_of_ble_eq_true rfl) rfl ((hS.fix hw hF).g rfl) ?_
      refine g19 hC rfl rfl (Nat.le_of_ble_eq_true rfl) rfl ((hS.fix hw hF).g rfl) ?_
      refine g3 hC rfl rfl ?_
      refine r21 (k) hC rfl (by omega) rfl (Or.inl rfl) (by omega) (rfl : M 47 k = M 47 k) ?_
      refine g3 hC rfl rfl ?_
      refine g13n hC rfl (fun h16 => ?_) (fun h16 => ?_)
      ·
        refine g3 hC rfl rfl ?_
        refine g19 hC rfl rfl (Nat.le_of_ble_eq_true rfl) rfl ((hS.fix hw hF).g rfl) ?_
        refine g3 hC rfl rfl ?_
        refine g19 hC rfl rfl (Nat.le_of_ble_eq_true rfl) rfl ((hS.fix hw hF).g rfl) ?_
        refine c0 hC rfl rfl rfl (Nat.le_of_ble_eq_true rfl) (Nat.le_of_ble_eq_true rfl) rfl (m31 hF ⟨hgh.1.1, hgh.1.2.1⟩ ⟨hgh.2.1.1, hgh.2.1.2.1⟩) (Nat.le_of_ble_eq_true rfl) (fun M2 hr => ?_)
        obtain ⟨hr0, hr⟩ := hr; have hS := hS.then hr0 rfl
        refine g3 hC rfl rfl ?_
        refine g19 hC rfl rfl (Nat.le_of_ble_eq_true rfl) rfl ((hS.fix hw hF).g rfl) ?_
        refine g19 hC rfl rfl (Nat.le_of_ble_eq_true rfl) rfl ((hS.fix hw hF).g rfl) ?_
        refine g3 hC rfl rfl ?_
        refine g3 hC rfl rfl ?_
        refine r22s (k) hC rfl (by omega) rfl (by omega) rfl hS rfl (fun hS => ?_)
        refine g0 hC rfl ?_
        refine ret3 hC rfl ⟨by omega, by omega⟩ ?_
        exact Or.inr ⟨⟨z, y, h16⟩, rfl, _, hr0, hr, rfl⟩
      ·
        refine nok (fun w => h16 w.2.2) 2 (by decide)
    · skip
      refine g3 hC rfl rfl ?_
      refine g3 hC rfl rfl ?_
      refine g19 hC rfl rfl (Nat.le_of_ble_eq_true rfl) rfl ((hS _ _ rfl).trans hH3) ?_
      refine g19 hC rfl (shH hh) (Nat.le_of_ble_eq_true rfl) rfl (rd1 hS hwh hV hW) ?_
      refine c1 hC rfl rfl rfl (Nat.le_of_ble_eq_true rfl) (Nat.le_of_ble_eq_true rfl) rfl m140 (Nat.le_of_ble_eq_true rfl) (fun x M2 hr => ?_)
      obtain ⟨rfl, hr⟩ := hr; replace hr := hr.symm; subst hr; rw [if_pos (by omega)]
      refine g12e hC rfl (fun h5 => (by omega)) (fun h5 => ?_)
      refine g3 hC rfl rfl ?_
      refine g0 hC rfl ?_
      refine c1 hC rfl rfl rfl (Nat.le_of_ble_eq_true rfl) (Nat.le_of_ble_eq_true rfl) rfl m140 (Nat.le_of_ble_eq_true rfl) (fun x M2 hr => ?_)
      obtain ⟨rfl, hr⟩ := hr; replace hr := hr.symm; subst hr; rw [if_neg (by omega)]
      refine g12e hC rfl (fun h9 => ?_) (fun h9 => (by omega))
      exact nok (fun w => y w.2.1) 2 (by decide)
  · skip
    refine g3 hC rfl rfl ?_
    refine g3 hC rfl rfl ?_
    refine g19 hC rfl rfl (Nat.le_of_ble_eq_true rfl) rfl ((hS _ _ rfl).trans hH3) ?_
    refine g19 hC rfl (shH hh) (Nat.le_of_ble_eq_true rfl) rfl (rd1 hS hwh hV hW) ?_
    refine c1 hC rfl rfl rfl (Nat.le_of_ble_eq_true rfl) (Nat.le_of_ble_eq_true rfl) rfl (m140) (Nat.le_of_ble_eq_true rfl) (fun x M2 hr => ?_)
    obtain ⟨rfl, hr⟩ := hr; replace hr := hr.symm; subst hr; rw [if_neg (by omega)]
    refine g12e hC rfl (fun h5 => ?_) (fun h5 => (by omega))
    exact nok (fun w => z w.1) 2 (by decide)
theorem m258 (hF : Fix M) (hV : RV V h M) (hW : HW V h) (hN2 : 0 ≤ M 144 2 ∧ M 144 2 ≤ 1000000) {r q : Nat} (hr1 : M 142 83 = (r : Int) ∧ r < 20) (hn1 : M 142 82 = (q : Int) ∧ q ≤ 20) {a b : Int} : ax_Ev L X SH 3 258 [(2, 142), (0, a), (0, b)] M (R1 0 (fun x M' => (¬ okSh V h a b ∧ x = 0 ∧ M' = ax_up M 144 2 (M 144 2 + 1)) ∨ (okSh V h a b ∧ x = 1 ∧ ∃ Ma, Sb XK M Ma ∧ ((∀ k, Ma 203 k = if 44 * ((r + 1) % 20) ≤ k ∧ k < 44 * ((r + 1) % 20) + 44 then M 185 (k - 44 * ((r + 1) % 20)) else M 203 k) ∧ Ma 142 83 = (((r + 1) % 20 : Nat) : Int) ∧ Ma 142 82 = ((min 20 (q + 1) : Nat) : Int)) ∧ M' = ax_up Ma 185 (6 + a.toNat) b))) := by
  show ax_G L X SH 3 258 0 [(2, 142), (0, a), (0, b)] [] M _
  have hC := at258
  have hw : wok XP = true := by decide +kernel
  have hS : Sb XP M M := Sb.refl
  have hbn : nS V h ≤ 10 := hW.1.2.1.2
  have nok : ¬ okSh V h a b → ∀ d0, 1 ≤ d0 → ax_G L X SH d0 258 18 [(2, 142), (0, a), (0, b)] [] M (R1 0 (fun x M' => (¬ okSh V h a b ∧ x = 0 ∧ M' = ax_up M 144 2 (M 144 2 + 1)) ∨ (okSh V h a b ∧ x = 1 ∧ ∃ Ma, Sb XK M Ma ∧ ((∀ k, Ma 203 k = if 44 * ((r + 1) % 20) ≤ k ∧ k < 44 * ((r + 1) % 20) + 44 then M 185 (k - 44 * ((r + 1) % 20)) else M 203 k) ∧ Ma 142 83 = (((r + 1) % 20 : Nat) : Int) ∧ Ma 142 82 = ((min 20 (q + 1) : Nat) : Int)) ∧ M' = ax_up Ma 185 (6 + a.toNat) b))) := by
    intro z d0 hd0
    refine ax_G.mono (d := 1) ?_ hd0
    refine g3 hC rfl rfl ?_
    refine c1 hC rfl rfl rfl (Nat.le_of_ble_eq_true rfl) (Nat.le_of_ble_eq_true rfl) (mayR k256 rfl) (m256 hF hN2) (Nat.le_of_ble_eq_true rfl) (fun x M2 hr => ?_)
    obtain ⟨rfl, hr⟩ := hr
    refine ret3 hC rfl ⟨by omega, by omega⟩ ?_
    exact Or.inl ⟨z, rfl, hr⟩
  by_cases z : 0 ≤ a ∧ a < (nS V h : Int)
  · obtain ⟨k, rfl⟩ : ∃ k : Nat, a = (k : Int) := ⟨a.toNat, by omega⟩
    have e1 : M 185 (6 + k) = V 47 k := hV.2.2.2.2.1.2.2.1 k (by omega)
    by_cases y : 0 ≤ b ∧ b ≤ 1
    · skip
      refine g3 hC rfl rfl ?_
      refine g3 hC rfl rfl ?_
      refine c1 hC rfl rfl rfl (Nat.le_of_ble_eq_true rfl) (Nat.le_of_ble_eq_true rfl) (mayR k187 rfl) (m187 hF hV hW) (Nat.le_of_ble_eq_true rfl) (fun x M2 hr => ?_)
      obtain ⟨rfl, hr⟩ := hr; replace hr := hr.symm; subst hr; rw [if_pos (by omega)]
      refine g12e hC rfl (fun h3 => (by omega)) (fun h3 => ?_)
      refine g3 hC rfl rfl ?_
      refine g9 hC rfl ?_
      refine g1 hC rfl ?_
      refine g1 hC rfl ?_
      refine c1 hC rfl rfl rfl (Nat.le_of_ble_eq_true rfl) (Nat.le_of_ble_eq_true rfl) (mayS k153 rfl) (m153) (Nat.le_of_ble_eq_true rfl) (fun x M2 hr => ?_)
      obtain ⟨rfl, hr⟩ := hr; replace hr := hr.symm; subst hr; rw [if_pos (by omega)]
      refine g12e hC rfl (fun h9 => (by omega)) (fun h9 => ?_)
      refine g3 hC rfl rfl ?_
      refine g19 hC rfl sh142 (flt12 rfl) ft12_54 ((hS.fix hw hF).g fx_142_54) ?_
      refine g0 hC rfl ?_
      refine g3 hC rfl rfl ?_
      refine g6a hC rfl ⟨by omega, by omega⟩ ?_
      refine r21 (6 + k) hC rfl (by omega) sh185 (Or.inl rfl) (by omega) e1 ?_
      refine g3 hC rfl rfl ?_
      refine g13n hC rfl (fun h17 => ?_) (fun h17 => ?_)
      ·
        refine g3 hC rfl rfl ?_
        refine c0 hC rfl rfl rfl (Nat.le_of_ble_eq_true rfl) (Nat.le_of_ble_eq_true rfl) (mayR k254 rfl) (m254 hF hr1 hn1) (Nat.le_of_ble_eq_true rfl) (fun M2 hr => ?_)
        obtain ⟨hr0, hr⟩ := hr; have hS := hS.then hr0 rfl
        refine g3 hC rfl rfl ?_
        refine g19 hC rfl sh142 (flt12 rfl) ft12_54 ((hS.fix hw hF).g fx_142_54) ?_
        refine g0 hC rfl ?_
        refine g3 hC rfl rfl ?_
        refine g6a hC rfl ⟨by omega, by omega⟩ ?_
        refine g3 hC rfl rfl ?_
        refine r22s ((6 + k)) hC rfl (by omega) sh185 (by omega) rfl hS rfl (fun hS => ?_)
        refine g0 hC rfl ?_
        refine ret3 hC rfl ⟨by omega, by omega⟩ ?_
        exact Or.inr ⟨⟨z, y, h17⟩, rfl, _, hr0, hr, rfl⟩
      ·
        refine nok (fun w => h17 w.2.2) 3 (by decide)
    · skip
      refine g3 hC rfl rfl ?_
      refine g3 hC rfl rfl ?_
      refine c1 hC rfl rfl rfl (Nat.le_of_ble_eq_true rfl) (Nat.le_of_ble_eq_true rfl) (mayR k187 rfl) (m187 hF hV hW) (Nat.le_of_ble_eq_true rfl) (fun x M2 hr => ?_)
      obtain ⟨rfl, hr⟩ := hr; replace hr := hr.symm; subst hr; rw [if_pos (by omega)]
      refine g12e hC rfl (fun h3 => (by omega)) (fun h3 => ?_)
      refine g3 hC rfl rfl ?_
      refine g9 hC rfl ?_
      refine g1 hC rfl ?_
      refine g1 hC rfl ?_
      refine c1 hC rfl rfl rfl (Nat.le_of_ble_eq_true rfl) (Nat.le_of_ble_eq_true rfl) (mayS k153 rfl) (m153) (Nat.le_of_ble_eq_true rfl) (fun x M2 hr => ?_)
      obtain ⟨rfl, hr⟩ := hr; replace hr := hr.symm; subst hr; rw [if_neg (by omega)]
      refine g12e hC rfl (fun h9 => ?_) (fun h9 => (by omega))
      exact nok (fun w => y w.2.1) 3 (by decide)
  · skip
    refine g3 hC rfl rfl ?_
    refine g3 hC rfl rfl ?_
    refine c1 hC rfl rfl rfl (Nat.le_of_ble_eq_true rfl) (Nat.le_of_ble_eq_true rfl) (mayR k187 rfl) (m187 hF hV hW) (Nat.le_of_ble_eq_true rfl) (fun x M2 hr => ?_)
    obtain ⟨rfl, hr⟩ := hr; replace hr := hr.symm; subst hr; rw [if_neg (by omega)]
    refine g12e hC rfl (fun h3 => ?_) (fun h3 => (by omega))
    exact nok (fun w => z w.1) 3 (by decide)
theorem RK.shu {f g : Nat → Int} (hK : RK f g) {k : Nat} (hk : k < 10) {b : Int} (hb : 0 ≤ b ∧ b ≤ 1) : RK (up f (6 + k) b) (up g (6 + k) b) := by
  refine ⟨?_, fun q hq => ?_, fun s hs => ?_, fun a c hab hc => ?_, fun i hi => ?_⟩
  · rw [up_ne (by omega), up_ne (by omega)]; exact hK.1
  · have := hK.2.1 q hq
    rw [up_ne (by omega), up_ne (by omega)]; exact this
  · have := hK.2.2.1 s hs
    by_cases z : s = k
    · rw [z, up_at, up_at]; exact ⟨rfl, by omega⟩
    · rw [up_ne (by omega), up_ne (by omega)]; exact this
  · rw [up_ne (by omega), up_ne (by omega)]; exact hK.2.2.2.1 a c hab hc
  · rw [up_ne (by omega)]; exact hK.2.2.2.2 i hi
theorem op28 (hR : Rel n M) (hn : n ≤ 1000) {a b : Int} : OP L X n 0 128 258 [(2, 0), (0, a), (0, b)] [(2, 142), (0, a), (0, b)] M := by
  have hR0 := hR
  obtain ⟨h, hh, hF, hG⟩ := hR
  have hG0 := hG
  obtain ⟨hW, hSW, hPW, hRV, hGT, hGN, hGM, hGH, hGS, hGX⟩ := hG
  have hV : HV M h M := HV.refl
  have hH3 : M 0 3 = (h : Int) := hGX.1.1
  have hN2 := hGN 2 (by decide)
  refine OP.tw (d' := 3) (m128 hF hh hG0 hn) (Q := fun x M1 y M2 => (¬ okSh M h a b ∧ y = 0 ∧ M2 = ax_up M1 144 2 (M1 144 2 + 1)) ∨ (okSh M h a b ∧ y = 1 ∧ ∃ Ma, Sb XK M1 Ma ∧ ((∀ k, Ma 203 k = if 44 * ((hR M + 1) % 20) ≤ k ∧ k < 44 * ((hR M + 1) % 20) + 44 then M1 185 (k - 44 * ((hR M + 1) % 20)) else M1 203 k) ∧ Ma 142 83 = (((hR M + 1) % 20 : Nat) : Int) ∧ Ma 142 82 = ((min 20 (hN M + 1) : Nat) : Int)) ∧ M2 = ax_up Ma 185 (6 + a.toNat) b)) (fun x M1 hx => ?_) (fun x M1 y M2 hx hy => ?_) (by decide) (by decide)
  · have key : ∀ M1 : ax_M, Sb WP M M1 ∨ Sb WR M M1 → Fix M1 ∧ RV M h M1 ∧ M1 144 2 = M 144 2 ∧ M1 142 83 = M 142 83 ∧ M1 142 82 = M 142 82 := by
      intro M1 hs
      rcases hs with hs | hs
      · exact ⟨hs.fix (by decide +kernel) hF, hRV.sb hs (rokB (by decide +kernel)), hs _ _ rfl, hs _ _ rfl, hs _ _ rfl⟩
      · exact ⟨hs.fix (by decide +kernel) hF, hRV.sb hs (rokB (by decide +kernel)), hs _ _ rfl, hs _ _ rfl, hs _ _ rfl⟩
    have hs : Sb WP M M1 ∨ Sb WR M M1 := by
      rcases hx with ⟨-, -, rfl⟩ | ⟨-, -, Ma, hs, -, rfl⟩
      · exact Or.inr (Sb.refl.up rfl)
      · exact Or.inl ((hs.mono rfl).up rfl)
    obtain ⟨k1, k2, k3, k4, k5⟩ := key M1 hs
    exact m258 k1 k2 hW (by rw [k3]; omega) ⟨k4.trans hGH.1.2.2, hGH.1.2.1⟩ ⟨k5.trans hGH.2.1.2.2, hGH.2.1.2.1⟩
  · rcases hx with ⟨x1, rfl, rfl⟩ | ⟨x1, rfl, Ma, hsa, ⟨f1, f2, f3, f4⟩, rfl⟩
    · rcases hy with ⟨-, y2, y3⟩ | ⟨y1, -⟩
      · rw [ax_up_ne (show (144 : Nat) ≠ 140 by decide)] at y3
        exact ⟨y2, relInc hR0 y3⟩
      · exact absurd y1 x1
    · rcases hy with ⟨y1, -⟩ | ⟨-, y2, Mb, hsb, ⟨e1, e2, e3⟩, y3⟩
      · exact absurd x1 y1
      · obtain ⟨k, rfl⟩ : ∃ k : Nat, a = (k : Int) := ⟨a.toNat, by have := x1.1; omega⟩
        simp only [Int.toNat_natCast] at y3 hsb e1
        have hkn : k < nS M h := by have := x1.1; omega
        have hbn : nS M h ≤ 10 := hW.1.2.1.2
        have hT : Sb WXP M M2 := by
          rw [y3]
          exact ((((hsa.mono rfl).up rfl).then hsb rfl).up rfl)
        have c1 : ∀ c q, c ≠ 185 → c ≠ 142 → c ≠ 203 → M2 c q = ax_up Ma 47 k b c q := by
          intro c q h1 h2 h3
          rw [y3, ax_up2n h1]
          exact hsb c q (by
            unfold wb XK
            simp only [List.any_cons, List.any_nil, Bool.or_false, Bool.or_eq_false_iff, Bool.and_eq_false_iff]
            refine ⟨?_, ?_, ?_⟩
            · cases u : Nat.ble 203 c with
              | false => exact Or.inl rfl
              | true => right; cases w : Nat.ble (c + 1) 204 with
                | false => rfl
                | true => exfalso; have := Nat.le_of_ble_eq_true u; have := Nat.le_of_ble_eq_true w; omega
            · left; cases u : Nat.beq 142 c with
              | false => rfl
              | true => exact absurd (Nat.eq_of_beq_eq_true u).symm h2
            · left; cases u : Nat.beq 142 c with
              | false => rfl
              | true => exact absurd (Nat.eq_of_beq_eq_true u).symm h2)
        have c2 : ∀ c q, c ≠ 185 → c ≠ 142 → c ≠ 203 → c ≠ 47 → c ≠ 49 → c ≠ 51 + hR M → M2 c q = M c q := by
          intro c q h1 h2 h3 h4 h5 h6
          rw [c1 c q h1 h2 h3, ax_up2n h4, f1 c h6 h5]
        have c3 : ∀ q, M2 47 q = up (M 47) k b q := by
          intro q
          rw [c1 47 q (by decide) (by decide) (by decide), ax_upf, f1 47 (by omega) (by decide)]
        have hr := hGH.1.2.1
        have c4 : ∀ q, M2 185 q = up (M 185) (6 + k) b q := by
          intro q
          rw [y3, ax_upf]
          have : Mb 185 = M 185 := by
            funext q
            rw [hsb 185 q rfl, ax_up2n (by decide), f1 185 (by omega) (by decide)]
          rw [this]
        have hK0 : RK (CS M) (M 185) := RK.of (V := M) hSW hRV
        have hK : RK (CS M2) (M2 185) := by
          refine (hK0.shu (k := k) (by omega) x1.2.1).cg (fun i hi => ?_) (fun i hi => c4 i)
          have s5 := c2 45 0 (by decide) (by decide) (by decide) (by decide) (by decide) (by omega)
          have s7 : ∀ q, M2 46 q = M 46 q := fun q => c2 46 q (by decide) (by decide) (by decide) (by decide) (by decide) (by omega)
          have s8 : ∀ q, M2 48 q = M 48 q := fun q => c2 48 q (by decide) (by decide) (by decide) (by decide) (by decide) (by omega)
          unfold CS up
          dsimp only
          rw [s5, s7, s8, c3]
          unfold up
          by_cases z : i = 6 + k
          · rw [if_pos z, if_neg (by omega), if_neg (by omega), if_pos (by omega), if_pos (by omega)]
          · rw [if_neg z]
            by_cases y0 : i < 6
            · by_cases y1 : i = 0
              · rw [if_pos y1, if_pos y1]
              · rw [if_neg y1, if_neg y1, if_pos y0, if_pos y0]
            · rw [if_neg (show ¬ i = 0 by omega), if_neg (show ¬ i = 0 by omega), if_neg y0, if_neg y0, if_neg (show ¬ i - 6 = k by omega)]
        refine ⟨y2, h, hh, hT.fix (by decide +kernel) hF, hG0.st hh hT rfl rfl rfl (Or.inl rfl) (Or.inl ⟨rfl, by omega⟩) rfl ?_ rfl hK (Or.inl ⟨rfl, fun s hs1 hs2 => ?_⟩)⟩
        · refine GH.add hG0 (nREq hT (hokB (by decide +kernel) hh)).2.1 (fun c h1 h2 h3 => funext fun q => c2 c q (by omega) (by omega) (by omega) (by omega) (by omega) h3) (fun i hi => ?_) ?_ ?_ (fun k' => ?_) ?_ ?_
          · rw [c1 _ _ (by omega) (by omega) (by omega), ax_up2n (by omega)]; exact f2 i hi
          · rw [c1 49 1 (by decide) (by decide) (by decide), ax_up2n (by decide)]; exact f3
          · rw [c1 49 2 (by decide) (by decide) (by decide), ax_up2n (by decide)]; exact f4
          · rw [y3, ax_up2n (by decide), e1]
            have h1 : ∀ q, ax_up Ma 47 k b 185 q = M 185 q := fun q => by rw [ax_up2n (by decide), f1 185 (by omega) (by decide)]
            have h2 : ∀ q, ax_up Ma 47 k b 203 q = M 203 q := fun q => by rw [ax_up2n (by decide), f1 203 (by omega) (by decide)]
            rw [h1, h2]
          · rw [y3, ax_up2n (by decide)]; exact e2
          · rw [y3, ax_up2n (by decide)]; exact e3
        · rw [c3 s, up_ne (by omega)]; exact hGX.2.2.2.1 s hs1 hs2
end ACT
