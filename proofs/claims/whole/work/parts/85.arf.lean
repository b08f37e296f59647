section ARF
variable {L : Nat} {X : Nat → Int} {M V : ax_M} {h n : Nat} {T : Nat → Int} {q : PS}
theorem m289 (hF : Fix M) (hn : n ≤ 1600) (hq : RT T n q M) (hqn : wq T n q) (hW : Wd M) : ax_Ev L X SH 4 289 [(2, 142)] M (R1 0 (fun x M' => Sb XAK M M' ∧ ((fnd T n q 0 qst = -1 ∧ x = 5 ∧ BF 1 (q.1 : Int) M') ∨ (¬ fnd T n q 0 qst = -1 ∧ x = fnd T n q 0 qst ∧ RT T n (nx T n q) M')))) := by
  show ax_G L X SH 4 289 0 [(2, 142), (3, 0)] [] M _
  obtain ⟨P, hP⟩ : ∃ P, P = fun (x : Int) (M' : ax_M) => Sb XAK M M' ∧ ((fnd T n q 0 qst = -1 ∧ x = 5 ∧ BF 1 (q.1 : Int) M') ∨ (¬ fnd T n q 0 qst = -1 ∧ x = fnd T n q 0 qst ∧ RT T n (nx T n q) M')) := ⟨_, rfl⟩
  rw [← hP]
  have hC := at289
  have hw : wok XAK = true := by decide +kernel
  have hS : Sb XAK M M := Sb.refl
  have e0 : fnd T n q 0 qst = if isW T n q w_first = true then 0 else if isW T n q w_last = true then 1 else if isW T n q w_often = true then 2 else if isW T n q w_total = true then 3 else if isW T n q w_most = true then 4 else if isW T n q w_least = true then 5 else -1 := rfl
  have fin : ∀ (i : Int) M2, fnd T n q 0 qst = i → 0 ≤ i → i < 5 → Sb XAK M M2 → RT T n (nx T n q) M2 → ax_G L X SH 4 289 36 [(2, 142), (3, 0)] [(0, i)] M2 (R1 0 P) := by
    intro i M2 e h0 h5 hS hr
    refine s1 hC rfl rfl rfl ?_
    refine g3 hC rfl rfl ?_
    refine g0 hC rfl ?_
    refine g13n hC rfl (fun h39 => ?_) (fun h39 => (by omega))
    refine g3 hC rfl rfl ?_
    refine ret1 hC rfl rfl ?_
    rw [hP]; exact ⟨hS, Or.inr ⟨by omega, e.symm, hr⟩⟩
  have lst : ∀ M2, Sb XAK M M2 → RT T n q M2 → (fnd T n q 0 qst = if isW T n q w_least = true then 5 else -1) → ax_G L X SH 4 289 36 [(2, 142), (3, 0)] [(0, 5)] M2 (R1 0 P) := by
    intro M2 hS hr e
    have hF2 := hS.fix hw hF
    refine s1 hC rfl rfl rfl ?_
    refine g3 hC rfl rfl ?_
    refine g0 hC rfl ?_
    refine g13n hC rfl (fun h39 => (by omega)) (fun h39 => ?_)
    refine g3 hC rfl rfl ?_
    refine g3 hC rfl rfl ?_
    refine g19 hC rfl sh142 (flt12 rfl) ft12_90 (hF2.g fx_142_90) ?_
    refine c0 hC rfl rfl rfl (Nat.le_of_ble_eq_true rfl) (Nat.le_of_ble_eq_true rfl) (mayR k162 rfl) (m162 hF2 hn hr hqn.1 (c := 209) (w := w_least) sh209 (wa209 (hW.sb hS rfl)) (by decide)) (Nat.le_of_ble_eq_true rfl) (fun M3 hr3 => ?_)
    refine g3 hC rfl rfl ?_
    refine ret1 hC rfl rfl ?_
    rw [hP]
    refine ⟨hS.then hr3.1 rfl, ?_⟩
    have hrr := hr3.2
    unfold wdR at hrr
    by_cases z : isW T n q w_least = true
    · rw [if_pos z] at hrr e
      rcases hrr with ⟨f, p, e2, _⟩ | ⟨_, y, _⟩
      · cases e2
      · exact Or.inr ⟨by omega, e.symm, y⟩
    · rw [if_neg z] at hrr e
      rcases hrr with ⟨f, p, e2, _, y⟩ | ⟨e2, _⟩
      · cases e2; exact Or.inl ⟨e, rfl, y⟩
      · cases e2
  refine g3 hC rfl rfl ?_
  refine g3 hC rfl rfl ?_
  refine g19 hC rfl sh142 (flt12 rfl) ft12_85 ((hS.fix hw hF).g fx_142_85) ?_
  refine c1 hC rfl rfl rfl (Nat.le_of_ble_eq_true rfl) (Nat.le_of_ble_eq_true rfl) (mayR k161 rfl) (m161 (hS.fix hw hF) hn hq hqn.1 (c := 204) (w := w_first) sh204 (wa204 (hW.sb hS rfl)) (by decide)) (Nat.le_of_ble_eq_true rfl) (fun x0 M2 hr => ?_)
  obtain ⟨hr0, hr1⟩ := hr; have hS := hS.then hr0 rfl
  refine g12e hC rfl (fun h4 => ?_) (fun h4 => ?_)
  ·
    have n0w : isW T n q w_first = false ∧ RT T n q M2 := by { rcases hr1 with y | y; exact absurd (y.2.1.symm.trans h4) (by decide); exact ⟨y.1, y.2.2.1⟩ }
    have hq := n0w.2
    refine g3 hC rfl rfl ?_
    refine g3 hC rfl rfl ?_
    refine g19 hC rfl sh142 (flt12 rfl) ft12_86 ((hS.fix hw hF).g fx_142_86) ?_
    refine c1 hC rfl rfl rfl (Nat.le_of_ble_eq_true rfl) (Nat.le_of_ble_eq_true rfl) (mayR k161 rfl) (m161 (hS.fix hw hF) hn hq hqn.1 (c := 205) (w := w_last) sh205 (wa205 (hW.sb hS rfl)) (by decide)) (Nat.le_of_ble_eq_true rfl) (fun x1 M2 hr => ?_)
    obtain ⟨hr0, hr2⟩ := hr; have hS := hS.then hr0 rfl
    refine g12e hC rfl (fun h11 => ?_) (fun h11 => ?_)
    ·
      have n1w : isW T n q w_last = false ∧ RT T n q M2 := by { rcases hr2 with y | y; exact absurd (y.2.1.symm.trans h11) (by decide); exact ⟨y.1, y.2.2.1⟩ }
      have hq := n1w.2
      refine g3 hC rfl rfl ?_
      refine g3 hC rfl rfl ?_
      refine g19 hC rfl sh142 (flt12 rfl) ft12_87 ((hS.fix hw hF).g fx_142_87) ?_
      refine c1 hC rfl rfl rfl (Nat.le_of_ble_eq_true rfl) (Nat.le_of_ble_eq_true rfl) (mayR k161 rfl) (m161 (hS.fix hw hF) hn hq hqn.1 (c := 206) (w := w_often) sh206 (wa206 (hW.sb hS rfl)) (by decide)) (Nat.le_of_ble_eq_true rfl) (fun x2 M2 hr => ?_)
      obtain ⟨hr0, hr3⟩ := hr; have hS := hS.then hr0 rfl
      refine g12e hC rfl (fun h18 => ?_) (fun h18 => ?_)
      ·
        have n2w : isW T n q w_often = false ∧ RT T n q M2 := by { rcases hr3 with y | y; exact absurd (y.2.1.symm.trans h18) (by decide); exact ⟨y.1, y.2.2.1⟩ }
        have hq := n2w.2
        refine g3 hC rfl rfl ?_
        refine g3 hC rfl rfl ?_
        refine g19 hC rfl sh142 (flt12 rfl) ft12_88 ((hS.fix hw hF).g fx_142_88) ?_
        refine c1 hC rfl rfl rfl (Nat.le_of_ble_eq_true rfl) (Nat.le_of_ble_eq_true rfl) (mayR k161 rfl) (m161 (hS.fix hw hF) hn hq hqn.1 (c := 207) (w := w_total) sh207 (wa207 (hW.sb hS rfl)) (by decide)) (Nat.le_of_ble_eq_true rfl) (fun x3 M2 hr => ?_)
        obtain ⟨hr0, hr4⟩ := hr; have hS := hS.then hr0 rfl
        refine g12e hC rfl (fun h25 => ?_) (fun h25 => ?_)
        ·
          have n3w : isW T n q w_total = false ∧ RT T n q M2 := by { rcases hr4 with y | y; exact absurd (y.2.1.symm.trans h25) (by decide); exact ⟨y.1, y.2.2.1⟩ }
          have hq := n3w.2
          refine g3 hC rfl rfl ?_
          refine g3 hC rfl rfl ?_
          refine g19 hC rfl sh142 (flt12 rfl) ft12_89 ((hS.fix hw hF).g fx_142_89) ?_
          refine c1 hC rfl rfl rfl (Nat.le_of_ble_eq_true rfl) (Nat.le_of_ble_eq_true rfl) (mayR k161 rfl) (m161 (hS.fix hw hF) hn hq hqn.1 (c := 208) (w := w_most) sh208 (wa208 (hW.sb hS rfl)) (by decide)) (Nat.le_of_ble_eq_true rfl) (fun x4 M2 hr => ?_)
          obtain ⟨hr0, hr5⟩ := hr; have hS := hS.then hr0 rfl
          refine g12e hC rfl (fun h32 => ?_) (fun h32 => ?_)
          ·
            have n4w : isW T n q w_most = false ∧ RT T n q M2 := by { rcases hr5 with y | y; exact absurd (y.2.1.symm.trans h32) (by decide); exact ⟨y.1, y.2.2.1⟩ }
            have hq := n4w.2
            refine g0 hC rfl ?_
            exact lst _ hS hq (by rw [e0, n0w.1, n1w.1, n2w.1, n3w.1, n4w.1]; rfl)
          ·
            refine g0 hC rfl ?_
            refine g14 hC rfl ?_
            have y1 : isW T n q w_most = true ∧ RT T n (nx T n q) M2 := by { rcases hr5 with y | y; exact ⟨y.1, y.2.2⟩; exact absurd y.2.1 h32 }
            exact fin 4 _ (by rw [e0, n0w.1, n1w.1, n2w.1, n3w.1, y1.1]; rfl) (by decide) (by decide) hS y1.2
        ·
          refine g0 hC rfl ?_
          refine g14 hC rfl ?_
          have y1 : isW T n q w_total = true ∧ RT T n (nx T n q) M2 := by { rcases hr4 with y | y; exact ⟨y.1, y.2.2⟩; exact absurd y.2.1 h25 }
          exact fin 3 _ (by rw [e0, n0w.1, n1w.1, n2w.1, y1.1]; rfl) (by decide) (by decide) hS y1.2
      ·
        refine g0 hC rfl ?_
        refine g14 hC rfl ?_
        have y1 : isW T n q w_often = true ∧ RT T n (nx T n q) M2 := by { rcases hr3 with y | y; exact ⟨y.1, y.2.2⟩; exact absurd y.2.1 h18 }
        exact fin 2 _ (by rw [e0, n0w.1, n1w.1, y1.1]; rfl) (by decide) (by decide) hS y1.2
    ·
      refine g0 hC rfl ?_
      refine g14 hC rfl ?_
      have y1 : isW T n q w_last = true ∧ RT T n (nx T n q) M2 := by { rcases hr2 with y | y; exact ⟨y.1, y.2.2⟩; exact absurd y.2.1 h11 }
      exact fin 1 _ (by rw [e0, n0w.1, y1.1]; rfl) (by decide) (by decide) hS y1.2
  ·
    refine g0 hC rfl ?_
    refine g14 hC rfl ?_
    have y1 : isW T n q w_first = true ∧ RT T n (nx T n q) M2 := by { rcases hr1 with y | y; exact ⟨y.1, y.2.2⟩; exact absurd y.2.1 h4 }
    exact fin 0 _ (by rw [e0, y1.1]; rfl) (by decide) (by decide) hS y1.2
end ARF
