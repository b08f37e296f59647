def sp (V : ax_M) (h a b : Nat) : Nat := pa V h + 2 * (cntP (nC V h) a + (b - a - 1))
def onV (V : ax_M) (h : Nat) (f : Nat → Int) : ax_M := fun a k => if a = 45 ∧ k = 0 then 256 * f 0 + f 1 else if a = 46 ∧ k < nQ V h then f (2 + k) else if a = 47 ∧ k < nS V h then f (2 + nQ V h + k) else if a = 48 ∧ k < 28 ∧ prB k < nC V h then 256 * f (sp V h (prA k) (prB k)) + f (sp V h (prA k) (prB k) + 1) else V a k
theorem cnt_sp : ∀ c, c < 9 → ∀ a, a < c → ∀ b, b < c → a < b → cntP c a + (b - a - 1) < cntP c c := by decide +kernel
section ONR
variable {L : Nat} {X : Nat → Int} {M V : ax_M} {h n : Nat} {f : Nat → Int}
theorem on_ne {a k : Nat} (h5 : a ≠ 45) (h6 : a ≠ 46) (h7 : a ≠ 47) (h8 : a ≠ 48) : onV V h f a k = V a k := by
  unfold onV; rw [if_neg (fun z => h5 z.1), if_neg (fun z => h6 z.1), if_neg (fun z => h7 z.1), if_neg (fun z => h8 z.1)]
theorem on_45 : onV V h f 45 0 = 256 * f 0 + f 1 := if_pos ⟨rfl, rfl⟩
theorem on_45o {k : Nat} (hk : k ≠ 0) : onV V h f 45 k = V 45 k := by
  unfold onV; rw [if_neg (fun z => hk z.2), if_neg (fun z => absurd z.1 (by decide)), if_neg (fun z => absurd z.1 (by decide)), if_neg (fun z => absurd z.1 (by decide))]
theorem on_46 {k : Nat} : onV V h f 46 k = if k < nQ V h then f (2 + k) else V 46 k := by
  unfold onV; rw [if_neg (fun z => absurd z.1 (by decide))]
  by_cases z : k < nQ V h
  · rw [if_pos ⟨rfl, z⟩, if_pos z]
  · rw [if_neg (fun w => z w.2), if_neg (fun z => absurd z.1 (by decide)), if_neg (fun z => absurd z.1 (by decide)), if_neg z]
theorem on_47 {k : Nat} : onV V h f 47 k = if k < nS V h then f (2 + nQ V h + k) else V 47 k := by
  unfold onV; rw [if_neg (fun z => absurd z.1 (by decide)), if_neg (fun z => absurd z.1 (by decide))]
  by_cases z : k < nS V h
  · rw [if_pos ⟨rfl, z⟩, if_pos z]
  · rw [if_neg (fun w => z w.2), if_neg (fun z => absurd z.1 (by decide)), if_neg z]
theorem on_48 {k : Nat} : onV V h f 48 k = if k < 28 ∧ prB k < nC V h then 256 * f (sp V h (prA k) (prB k)) + f (sp V h (prA k) (prB k) + 1) else V 48 k := by
  unfold onV; rw [if_neg (fun z => absurd z.1 (by decide)), if_neg (fun z => absurd z.1 (by decide)), if_neg (fun z => absurd z.1 (by decide))]
  by_cases z : k < 28 ∧ prB k < nC V h
  · rw [if_pos ⟨rfl, z⟩, if_pos z]
  · rw [if_neg (fun w => z w.2), if_neg z]
theorem on_sb : Sb W72 V (onV V h f) := by
  intro a k hk
  by_cases h5 : a = 45
  · rw [h5] at hk ⊢
    refine on_45o (fun z => ?_)
    rw [z] at hk; cases hk
  · refine on_ne h5 (fun z => ?_) (fun z => ?_) (fun z => ?_) <;> (rw [z] at hk; cases hk)
theorem on_SW (hW : HW V h) (hSW : SW V) (hB : bB f) {len : Int} (hI : isIm V h f len) : SW (onV V h f) := by
  obtain ⟨i1, i2, i3, i4, i5, i6⟩ := hI
  obtain ⟨q1, q2, q3, q4⟩ := lst_b hW
  have h2 := hW.1.2.1.2; have h3 := hW.1.2.2.1.2; have h4 := hW.1.2.2.2.2
  have b0 := hB 0 (by decide)
  have b1 := hB 1 (by decide)
  refine ⟨by rw [on_45]; omega, fun q hq => ?_, fun s hs => ?_, fun i hi => ?_⟩
  · rw [on_46]; split
    · have := hB (2 + q) (by omega); have := i4 (2 + q) (by omega) (by omega); omega
    · exact hSW.2.1 q hq
  · rw [on_47]; split
    · have := hB (2 + nQ V h + s) (by omega); have := i5 (2 + nQ V h + s) (by omega) (by omega); omega
    · exact hSW.2.2.1 s hs
  · rw [on_48]; split
    · rename_i z
      have hp := pO_pr i hi
      have hc := cnt_sp (nC V h) (by omega) (prA i) (by omega) (prB i) z.2 hp.1
      have := i6 _ hc
      have e : sp V h (prA i) (prB i) = pa V h + 2 * (cntP (nC V h) (prA i) + (prB i - prA i - 1)) := rfl
      rw [e]
      have := hB (pa V h + 2 * (cntP (nC V h) (prA i) + (prB i - prA i - 1))) (by omega)
      have := hB (pa V h + 2 * (cntP (nC V h) (prA i) + (prB i - prA i - 1)) + 1) (by omega)
      omega
    · exact hSW.2.2.2 i hi
theorem m77 (hF : Fix M) (hh : h = 9 ∨ h = 27) (hV : HV V h M) (hW : HW V h) (hB : bB (M 2)) : ax_Ev L X SH 2 77 [(2, 45), (2, (h : Int)), (2, 2)] M (R0 (fun M' => Sb W72 M M' ∧ HV (onV V h (M 2)) h M')) := by
  show ax_G L X SH 2 77 0 [(2, 45), (2, (h : Int)), (2, 2), (3, 0), (3, 0), (3, 0)] [] M _
  obtain ⟨P, hP⟩ : ∃ P, P = fun M' => Sb W72 M M' ∧ HV (onV V h (M 2)) h M' := ⟨_, rfl⟩
  rw [← hP]
  have hC := at77
  have hw : wok W72 = true := by decide +kernel
  have hwh : hok W72 h := hokB (by decide +kernel) hh
  have h2 := hW.1.2.1.2; have h3 := hW.1.2.2.1.2; have h4 := hW.1.2.2.2.2
  obtain ⟨q1, q2, q3, q4⟩ := lst_b hW
  have b0 := hB 0 (by decide)
  have b1 := hB 1 (by decide)
  have l3 : ∀ (m a : Nat), a + m = nC V h → ∀ ll M1, (∃ v, ll = [(2, 45), (2, (h : Int)), (2, 2), (0, ((pa V h + 2 * cntP (nC V h) a : Nat) : Int)), (0, (a : Int)), v] ∧ Sb W72 M M1 ∧ M1 45 0 = onV V h (M 2) 45 0 ∧ (∀ k, M1 46 k = onV V h (M 2) 46 k) ∧ (∀ k, M1 47 k = onV V h (M 2) 47 k) ∧ ∀ k, M1 48 k = if k < 28 ∧ prA k < a then onV V h (M 2) 48 k else V 48 k) → ax_G L X SH 2 77 47 ll [] M1 (R0 P) := by
    refine lp ?_ ?_
    · rintro ll M1 ⟨v, rfl, hS, e5, e6, e7, e8⟩
      refine g3 hC rfl rfl ?_
      refine g3 hC rfl rfl ?_
      refine g19 hC rfl (shH hh) (Nat.le_of_ble_eq_true rfl) rfl (rd3 hS hwh hV hW) ?_
      refine g13g hC rfl (fun h50 => ?_) (fun h50 => (by omega))
      refine ret0 hC rfl ?_
      rw [hP]
      refine ⟨hS, fun i k h1 h2 h3 => ?_, fun k => ⟨?_, e6 k, e7 k, ?_⟩⟩
      · rw [on_ne (by omega) (by omega) (by omega) (by omega)]; exact (hS _ _ (hwh i k h1 h2 h3)).trans (hV.1 i k h1 h2 h3)
      · by_cases z : k = 0
        · rw [z]; exact e5
        · rw [on_45o z]
          refine ((hS 45 k ?_).trans (hV.2 k).1)
          unfold wb W72
          cases u : Nat.beq 0 k with
          | false => simp [u]
          | true => exact absurd (Nat.eq_of_beq_eq_true u).symm z
      · rw [e8 k]
        by_cases z : k < 28 ∧ prA k < nC V h
        · rw [if_pos z]
        · rw [if_neg z, on_48, if_neg (fun w => z ⟨w.1, by have := pO_pr k w.1; omega⟩)]
    · rintro a ha ll M1 ⟨v, rfl, hS, e5, e6, e7, e8⟩ hnext
      have hcb := cntP_b (nC V h) (by omega) a ha
      have ecs : cntP (nC V h) (a + 1) = cntP (nC V h) a + (nC V h - 1 - a) := rfl
      have hmono : cntP (nC V h) a + (nC V h - 1 - a) ≤ cntP (nC V h) (nC V h) := by
        have : ∀ c, c < 9 → ∀ a, a < c → cntP c a + (c - 1 - a) ≤ cntP c c := by decide +kernel
        exact this _ (by omega) a ha
      have l2 : ∀ (m k : Nat), k + m = nC V h - 1 - a → ∀ ll M1, (ll = [(2, 45), (2, (h : Int)), (2, 2), (0, ((pa V h + 2 * (cntP (nC V h) a + k) : Nat) : Int)), (0, (a : Int)), (0, ((a + 1 + k : Nat) : Int))] ∧ Sb W72 M M1 ∧ M1 45 0 = onV V h (M 2) 45 0 ∧ (∀ k, M1 46 k = onV V h (M 2) 46 k) ∧ (∀ k, M1 47 k = onV V h (M 2) 47 k) ∧ ∀ i, M1 48 i = if i < 28 ∧ (prA i < a ∨ (prA i = a ∧ prB i < a + 1 + k)) then onV V h (M 2) 48 i else V 48 i) → ax_G L X SH 2 77 55 ll [] M1 (R0 P) := by
        refine lp ?_ ?_
        · rintro ll M1 ⟨rfl, hS, e5, e6, e7, e8⟩
          refine g3 hC rfl rfl ?_
          refine g3 hC rfl rfl ?_
          refine g19 hC rfl (shH hh) (Nat.le_of_ble_eq_true rfl) rfl (rd3 hS hwh hV hW) ?_
          refine g13g hC rfl (fun h58 => ?_) (fun h58 => (by omega))
          refine n4 hC rfl rfl ⟨by omega, by omega⟩ ?_
          refine g14 hC rfl ?_
          refine hnext _ _ ⟨_, by rw [ecs]; rfl, hS, e5, e6, e7, fun i => ?_⟩
          rw [e8 i]
          by_cases z : i < 28 ∧ (prA i < a ∨ (prA i = a ∧ prB i < a + 1 + (nC V h - 1 - a)))
          · rw [if_pos z, if_pos ⟨z.1, by omega⟩]
          · rw [if_neg z]
            by_cases y : i < 28 ∧ prA i < a + 1
            · rw [if_pos y, on_48, if_neg (by omega)]
            · rw [if_neg y]
        · rintro k hk ll M1 ⟨rfl, hS, e5, e6, e7, e8⟩ hnx
          have eb : pQ a (a + 1 + k) = pO a (a + 1 + k) := by unfold pQ; rw [if_pos (by omega)]
          have hlt := pO_lt (a := a) (b := a + 1 + k) (by omega) (by omega)
          have hpr := pr_pO (a + 1 + k) (by omega) a (by omega)
          have cb1 := hB (pa V h + 2 * (cntP (nC V h) a + k)) (by omega)
          have cb2 := hB (pa V h + 2 * (cntP (nC V h) a + k) + 1) (by omega)
          have ej : ((pa V h + 2 * (cntP (nC V h) a + k) : Nat) : Int) + 2 = ((pa V h + 2 * (cntP (nC V h) a + (k + 1)) : Nat) : Int) := by omega
          have hval : onV V h (M 2) 48 (pO a (a + 1 + k)) = 256 * M 2 (pa V h + 2 * (cntP (nC V h) a + k)) + M 2 (pa V h + 2 * (cntP (nC V h) a + k) + 1) := by
            rw [on_48, hpr.1, hpr.2, if_pos ⟨hlt, by omega⟩]
            have : sp V h a (a + 1 + k) = pa V h + 2 * (cntP (nC V h) a + k) := by unfold sp; congr 3; omega
            rw [this]
          refine g3 hC rfl rfl ?_
          refine g3 hC rfl rfl ?_
          refine g19 hC rfl (shH hh) (Nat.le_of_ble_eq_true rfl) rfl (rd3 hS hwh hV hW) ?_
          refine g13g hC rfl (fun h58 => (by omega)) (fun h58 => ?_)
          refine g3 hC rfl rfl ?_
          refine g19 hC rfl rfl (Nat.le_of_ble_eq_true rfl) rfl ((hS.fix hw hF).g rfl) ?_
          refine g3 hC rfl rfl ?_
          refine g3 hC rfl rfl ?_
          refine c1 hC rfl rfl rfl (Nat.le_of_ble_eq_true rfl) (Nat.le_of_ble_eq_true rfl) rfl (m66 (by omega) (by omega)) (Nat.le_of_ble_eq_true rfl) (fun x M2 hr => ?_)
          obtain ⟨rfl, hr⟩ := hr; replace hr := hr.symm; subst hr; rw [eb]
          refine g0 hC rfl ?_
          refine g3 hC rfl rfl ?_
          refine g3 hC rfl rfl ?_
          refine r21 ((pa V h+2*(cntP (nC V h) a+k))) hC rfl (by omega) rfl (Or.inl rfl) (by omega) (hS 2 ((pa V h+2*(cntP (nC V h) a+k))) rfl) ?_
          refine g6m hC rfl ⟨by omega, by omega⟩ ?_
          refine g3 hC rfl rfl ?_
          refine g3 hC rfl rfl ?_
          refine g0 hC rfl ?_
          refine g6a hC rfl ⟨by omega, by omega⟩ ?_
          refine r21 (((pa V h+2*(cntP (nC V h) a+k)) + 1)) hC rfl (by omega) rfl (Or.inl rfl) (by omega) (hS 2 (((pa V h+2*(cntP (nC V h) a+k)) + 1)) rfl) ?_
          refine g6a hC rfl ⟨by omega, by omega⟩ ?_
          refine r22s (pO a (a + 1 + k)) hC rfl rfl rfl (by omega) rfl hS rfl (fun hS => ?_)
          refine n5 hC rfl rfl ⟨by omega, by omega⟩ ?_
          refine n3 hC rfl rfl ⟨by omega, by omega⟩ ?_
          refine g14 hC rfl ?_
          refine hnx _ _ ⟨by rw [ej]; rfl, hS, e5, e6, e7, fun i => ?_⟩
          rw [ax_upf]; unfold up
          by_cases z : i = pO a (a + 1 + k)
          · rw [if_pos z, if_pos ⟨by omega, by rw [z, hpr.1, hpr.2]; omega⟩, z, hval]
          · rw [if_neg z, e8 i]
            by_cases y : i < 28 ∧ (prA i < a ∨ (prA i = a ∧ prB i < a + 1 + k))
            · rw [if_pos y, if_pos ⟨y.1, by omega⟩]
            · rw [if_neg y, if_neg (fun w => ?_)]
              have hp := pO_pr i w.1
              have q1 : prA i = a := by omega
              have q2 : prB i = a + 1 + k := by omega
              rw [q1, q2] at hp
              exact z hp.2.2.symm
      refine g3 hC rfl rfl ?_
      refine g3 hC rfl rfl ?_
      refine g19 hC rfl (shH hh) (Nat.le_of_ble_eq_true rfl) rfl (rd3 hS hwh hV hW) ?_
      refine g13g hC rfl (fun h50 => (by omega)) (fun h50 => ?_)
      refine g3 hC rfl rfl ?_
      refine g0 hC rfl ?_
      refine g6a hC rfl ⟨by omega, by omega⟩ ?_
      refine s5 hC rfl rfl rfl ?_
      refine l2 (nC V h - 1 - a) 0 (Nat.zero_add _) _ _ ⟨rfl, hS, e5, e6, e7, fun i => ?_⟩
      rw [e8 i]
      by_cases z : i < 28 ∧ prA i < a
      · rw [if_pos z, if_pos ⟨z.1, Or.inl z.2⟩]
      · rw [if_neg z, if_neg (fun w => by have := pO_pr i w.1; omega)]
  have l2 : ∀ (m k : Nat), k + m = nS V h → ∀ ll M1, (∃ v, ll = [(2, 45), (2, (h : Int)), (2, 2), (0, ((2 + nQ V h + k : Nat) : Int)), (0, (k : Int)), v] ∧ Sb W72 M M1 ∧ M1 45 0 = onV V h (M 2) 45 0 ∧ (∀ k, M1 46 k = onV V h (M 2) 46 k) ∧ (∀ i, M1 47 i = if i < k then M 2 (2 + nQ V h + i) else V 47 i) ∧ ∀ i, M1 48 i = V 48 i) → ax_G L X SH 2 77 31 ll [] M1 (R0 P) := by
    refine lp ?_ ?_
    · rintro ll M1 ⟨v, rfl, hS, e5, e6, e7, e8⟩
      refine g3 hC rfl rfl ?_
      refine g3 hC rfl rfl ?_
      refine g19 hC rfl (shH hh) (Nat.le_of_ble_eq_true rfl) rfl (rd1 hS hwh hV hW) ?_
      refine g13g hC rfl (fun h34 => ?_) (fun h34 => (by omega))
      refine g0 hC rfl ?_
      refine s4 hC rfl rfl rfl ?_
      exact l3 (nC V h) 0 (Nat.zero_add _) _ _ ⟨_, rfl, hS, e5, e6, fun k => by rw [e7 k, on_47], fun k => by rw [e8 k, if_neg (fun w => by omega)]⟩
    · rintro k hk ll M1 ⟨v, rfl, hS, e5, e6, e7, e8⟩ hnext
      refine g3 hC rfl rfl ?_
      refine g3 hC rfl rfl ?_
      refine g19 hC rfl (shH hh) (Nat.le_of_ble_eq_true rfl) rfl (rd1 hS hwh hV hW) ?_
      refine g13g hC rfl (fun h34 => (by omega)) (fun h34 => ?_)
      refine g3 hC rfl rfl ?_
      refine g19 hC rfl rfl (Nat.le_of_ble_eq_true rfl) rfl ((hS.fix hw hF).g rfl) ?_
      refine g3 hC rfl rfl ?_
      refine g3 hC rfl rfl ?_
      refine g3 hC rfl rfl ?_
      refine r21 ((2+nQ V h+k)) hC rfl (by omega) rfl (Or.inl rfl) (by omega) (hS 2 ((2+nQ V h+k)) rfl) ?_
      refine r22s (k) hC rfl (by omega) rfl (by omega) rfl hS rfl (fun hS => ?_)
      refine n4 hC rfl rfl ⟨by omega, by omega⟩ ?_
      refine n3 hC rfl rfl ⟨by omega, by omega⟩ ?_
      refine g14 hC rfl ?_
      refine hnext _ _ ⟨v, rfl, hS, e5, e6, fun i => ?_, e8⟩
      rw [ax_upf]; unfold up
      by_cases z : i = k
      · rw [if_pos z, if_pos (by omega), z]
      · rw [if_neg z, e7 i]
        by_cases y : i < k
        · rw [if_pos y, if_pos (by omega)]
        · rw [if_neg y, if_neg (by omega)]
  have l1 : ∀ (m k : Nat), k + m = nQ V h → ∀ ll M1, (∃ v, ll = [(2, 45), (2, (h : Int)), (2, 2), (0, ((2 + k : Nat) : Int)), (0, (k : Int)), v] ∧ Sb W72 M M1 ∧ M1 45 0 = onV V h (M 2) 45 0 ∧ (∀ i, M1 46 i = if i < k then M 2 (2 + i) else V 46 i) ∧ (∀ i, M1 47 i = V 47 i) ∧ ∀ i, M1 48 i = V 48 i) → ax_G L X SH 2 77 15 ll [] M1 (R0 P) := by
    refine lp ?_ ?_
    · rintro ll M1 ⟨v, rfl, hS, e5, e6, e7, e8⟩
      refine g3 hC rfl rfl ?_
      refine g3 hC rfl rfl ?_
      refine g19 hC rfl (shH hh) (Nat.le_of_ble_eq_true rfl) rfl (rd2 hS hwh hV hW) ?_
      refine g13g hC rfl (fun h18 => ?_) (fun h18 => (by omega))
      refine g0 hC rfl ?_
      refine s4 hC rfl rfl rfl ?_
      exact l2 (nS V h) 0 (Nat.zero_add _) _ _ ⟨_, rfl, hS, e5, fun k => by rw [e6 k, on_46], fun k => by rw [e7 k, if_neg (by omega)], e8⟩
    · rintro k hk ll M1 ⟨v, rfl, hS, e5, e6, e7, e8⟩ hnext
      refine g3 hC rfl rfl ?_
      refine g3 hC rfl rfl ?_
      refine g19 hC rfl (shH hh) (Nat.le_of_ble_eq_true rfl) rfl (rd2 hS hwh hV hW) ?_
      refine g13g hC rfl (fun h18 => (by omega)) (fun h18 => ?_)
      refine g3 hC rfl rfl ?_
      refine g19 hC rfl rfl (Nat.le_of_ble_eq_true rfl) rfl ((hS.fix hw hF).g rfl) ?_
      refine g3 hC rfl rfl ?_
      refine g3 hC rfl rfl ?_
      refine g3 hC rfl rfl ?_
      refine r21 ((2+k)) hC rfl (by omega) rfl (Or.inl rfl) (by omega) (hS 2 ((2+k)) rfl) ?_
      refine r22s (k) hC rfl (by omega) rfl (by omega) rfl hS rfl (fun hS => ?_)
      refine n4 hC rfl rfl ⟨by omega, by omega⟩ ?_
      refine n3 hC rfl rfl ⟨by omega, by omega⟩ ?_
      refine g14 hC rfl ?_
      refine hnext _ _ ⟨v, rfl, hS, e5, fun i => ?_, e7, e8⟩
      rw [ax_upf]; unfold up
      by_cases z : i = k
      · rw [if_pos z, if_pos (by omega), z]
      · rw [if_neg z, e6 i]
        by_cases y : i < k
        · rw [if_pos y, if_pos (by omega)]
        · rw [if_neg y, if_neg (by omega)]
  have hS : Sb W72 M M := Sb.refl
  refine g3 hC rfl rfl ?_
  refine g0 hC rfl ?_
  refine g3 hC rfl rfl ?_
  refine g0 hC rfl ?_
  refine r21 (0) hC rfl (by omega) rfl (Or.inl rfl) (by omega) (hS 2 (0) rfl) ?_
  refine g6m hC rfl ⟨by omega, by omega⟩ ?_
  refine g3 hC rfl rfl ?_
  refine g0 hC rfl ?_
  refine r21 (1) hC rfl (by omega) rfl (Or.inl rfl) (by omega) (hS 2 (1) rfl) ?_
  refine g6a hC rfl ⟨by omega, by omega⟩ ?_
  refine g20s hC rfl rfl (Nat.le_of_ble_eq_true rfl) rfl hS rfl (fun hS => ?_)
  refine g0 hC rfl ?_
  refine s3 hC rfl rfl rfl ?_
  refine g0 hC rfl ?_
  refine s4 hC rfl rfl rfl ?_
  exact l1 (nQ V h) 0 (Nat.zero_add _) _ _ ⟨_, rfl, hS, by rw [ax_up_at, on_45], fun i => by rw [if_neg (by omega)]; exact (hV.2 i).2.1, fun i => (hV.2 i).2.2.1, fun i => (hV.2 i).2.2.2⟩
end ONR
