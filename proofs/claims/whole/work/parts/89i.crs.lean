theorem nuR_b {T : Nat → Int} {n : Nat} {q : PS} {lo hi : Int} (h : nuR T n q lo hi = none) : lo ≤ nuV T n q ∧ nuV T n q ≤ hi := by
  unfold nuR at h
  split at h
  · cases h
  · split at h
    · cases h
    · split at h
      · assumption
      · cases h
section CRS
variable {L : Nat} {X : Nat → Int} {M : ax_M} {h n : Nat} {s : HS} {T : Nat → Int} {q : PS}
theorem m50 (hF : Fix M) (hh : h = 9 ∨ h = 27) (hn : n ≤ 1600) (hq : CT T n q M) (hqn : q.1 ≤ n) : ax_Ev L X SH 3 50 [(2, 7), (2, (h : Int))] M (R1 0 (fun x M' => (∃ f p, x = 0 ∧ CF f p M' ∧ Sb WNU M M' ∧ ∀ k, numN T n 0 20 q k = .inl (f, p)) ∨ (x = 1 ∧ ∃ M2, Sb WNU M M2 ∧ CT T n (nx T n q) M2 ∧ M' = ax_up M2 h 17 (nuV T n q) ∧ (0 ≤ nuV T n q ∧ nuV T n q ≤ 20) ∧ ∀ k, numN T n 0 20 q k = k (nuV T n q) (nx T n q)))) := by
  show ax_G L X SH 3 50 0 [(2, 7), (2, (h : Int))] [] M _
  have hC := at50
  have hw : wok WNU = true := by decide +kernel
  have hS : Sb WNU M M := Sb.refl
  have c97 := m97r (L := L) (X := X) hF hn hq hqn (lo := 0) (hi := 20)
  cases r : nuR T n q 0 20 with
  | some e =>
    rw [r] at c97
    have eN : ∀ k, numN T n 0 20 q k = .inl (e.1, e.2) := fun k => by unfold numN tryR; rw [r]
    refine g3 hC rfl rfl ?_
    refine g19 hC rfl rfl (Nat.le_of_ble_eq_true rfl) rfl ((hS.fix hw hF).g rfl) ?_
    refine g0 hC rfl ?_
    refine g0 hC rfl ?_
    refine c1 hC rfl rfl rfl (Nat.le_of_ble_eq_true rfl) (Nat.le_of_ble_eq_true rfl) rfl c97 (Nat.le_of_ble_eq_true rfl) (fun x M2 hr => ?_)
    obtain ⟨hr0, hcr⟩ := hr; have hS := hS.then hr0 rfl; have hx : x = 0 ∧ CF e.1 e.2 M2 := by rcases hcr with ⟨f, p, w1, w2, w3⟩ | ⟨w1, -⟩; cases w1; exact ⟨w2, w3⟩; cases w1
    refine g12n hC rfl (fun h5 => (by have := hx.1; omega)) (fun h5 => ?_)
    refine g0 hC rfl ?_
    refine ret3 hC rfl ⟨by omega, by omega⟩ ?_
    exact Or.inl ⟨e.1, e.2, rfl, hx.2, hS, eN⟩
  | none =>
    rw [r] at c97
    have eN : ∀ k, numN T n 0 20 q k = k (nuV T n q) (nx T n q) := fun k => by unfold numN tryR; rw [r]
    refine g3 hC rfl rfl ?_
    refine g19 hC rfl rfl (Nat.le_of_ble_eq_true rfl) rfl ((hS.fix hw hF).g rfl) ?_
    refine g0 hC rfl ?_
    refine g0 hC rfl ?_
    refine c1 hC rfl rfl rfl (Nat.le_of_ble_eq_true rfl) (Nat.le_of_ble_eq_true rfl) rfl c97 (Nat.le_of_ble_eq_true rfl) (fun x M2 hr => ?_)
    obtain ⟨hr0, hcr⟩ := hr; have hS := hS.then hr0 rfl; have hx : x = 1 ∧ CT T n (nx T n q) M2 ∧ M2 1 6 = nuV T n q := by rcases hcr with ⟨f, p, w1, -⟩ | ⟨-, w2, w3, w4⟩; cases w1; exact ⟨w2, w3, w4⟩
    refine g12n hC rfl (fun h5 => ?_) (fun h5 => (by have := hx.1; omega))
    refine g3 hC rfl rfl ?_
    refine g3 hC rfl rfl ?_
    refine g19 hC rfl rfl (Nat.le_of_ble_eq_true rfl) rfl ((hS.fix hw hF).g rfl) ?_
    refine g19 hC rfl rfl (Nat.le_of_ble_eq_true rfl) rfl hx.2.2 ?_
    refine g20 hC rfl (shH hh) (Nat.le_of_ble_eq_true rfl) rfl ?_
    refine g0 hC rfl ?_
    refine ret3 hC rfl ⟨by omega, by omega⟩ ?_
    exact Or.inr ⟨rfl, M2, hr0, hx.2.1, rfl, nuR_b r, eN⟩
theorem m51 (hF : Fix M) (hh : h = 9 ∨ h = 27) (hn : n ≤ 1600) (hq : CT T n q M) (hqn : q.1 ≤ n) : ax_Ev L X SH 3 51 [(2, 7), (2, (h : Int))] M (R1 0 (fun x M' => (∃ f p, x = 0 ∧ CF f p M' ∧ Sb WNU M M' ∧ ∀ k, numN T n 1 9 q k = .inl (f, p)) ∨ (x = 1 ∧ ∃ M2, Sb WNU M M2 ∧ CT T n (nx T n q) M2 ∧ M' = ax_up M2 h 18 (nuV T n q) ∧ (1 ≤ nuV T n q ∧ nuV T n q ≤ 9) ∧ ∀ k, numN T n 1 9 q k = k (nuV T n q) (nx T n q)))) := by
  show ax_G L X SH 3 51 0 [(2, 7), (2, (h : Int))] [] M _
  have hC := at51
  have hw : wok WNU = true := by decide +kernel
  have hS : Sb WNU M M := Sb.refl
  have c97 := m97r (L := L) (X := X) hF hn hq hqn (lo := 1) (hi := 9)
  cases r : nuR T n q 1 9 with
  | some e =>
    rw [r] at c97
    have eN : ∀ k, numN T n 1 9 q k = .inl (e.1, e.2) := fun k => by unfold numN tryR; rw [r]
    refine g3 hC rfl rfl ?_
    refine g19 hC rfl rfl (Nat.le_of_ble_eq_true rfl) rfl ((hS.fix hw hF).g rfl) ?_
    refine g0 hC rfl ?_
    refine g0 hC rfl ?_
    refine c1 hC rfl rfl rfl (Nat.le_of_ble_eq_true rfl) (Nat.le_of_ble_eq_true rfl) rfl c97 (Nat.le_of_ble_eq_true rfl) (fun x M2 hr => ?_)
    obtain ⟨hr0, hcr⟩ := hr; have hS := hS.then hr0 rfl; have hx : x = 0 ∧ CF e.1 e.2 M2 := by rcases hcr with ⟨f, p, w1, w2, w3⟩ | ⟨w1, -⟩; cases w1; exact ⟨w2, w3⟩; cases w1
    refine g12n hC rfl (fun h5 => (by have := hx.1; omega)) (fun h5 => ?_)
    refine g0 hC rfl ?_
    refine ret3 hC rfl ⟨by omega, by omega⟩ ?_
    exact Or.inl ⟨e.1, e.2, rfl, hx.2, hS, eN⟩
  | none =>
    rw [r] at c97
    have eN : ∀ k, numN T n 1 9 q k = k (nuV T n q) (nx T n q) := fun k => by unfold numN tryR; rw [r]
    refine g3 hC rfl rfl ?_
    refine g19 hC rfl rfl (Nat.le_of_ble_eq_true rfl) rfl ((hS.fix hw hF).g rfl) ?_
    refine g0 hC rfl ?_
    refine g0 hC rfl ?_
    refine c1 hC rfl rfl rfl (Nat.le_of_ble_eq_true rfl) (Nat.le_of_ble_eq_true rfl) rfl c97 (Nat.le_of_ble_eq_true rfl) (fun x M2 hr => ?_)
    obtain ⟨hr0, hcr⟩ := hr; have hS := hS.then hr0 rfl; have hx : x = 1 ∧ CT T n (nx T n q) M2 ∧ M2 1 6 = nuV T n q := by rcases hcr with ⟨f, p, w1, -⟩ | ⟨-, w2, w3, w4⟩; cases w1; exact ⟨w2, w3, w4⟩
    refine g12n hC rfl (fun h5 => ?_) (fun h5 => (by have := hx.1; omega))
    refine g3 hC rfl rfl ?_
    refine g3 hC rfl rfl ?_
    refine g19 hC rfl rfl (Nat.le_of_ble_eq_true rfl) rfl ((hS.fix hw hF).g rfl) ?_
    refine g19 hC rfl rfl (Nat.le_of_ble_eq_true rfl) rfl hx.2.2 ?_
    refine g20 hC rfl (shH hh) (Nat.le_of_ble_eq_true rfl) rfl ?_
    refine g0 hC rfl ?_
    refine ret3 hC rfl ⟨by omega, by omega⟩ ?_
    exact Or.inr ⟨rfl, M2, hr0, hx.2.1, rfl, nuR_b r, eN⟩
theorem m52 (hF : Fix M) (hh : h = 9 ∨ h = 27) (hn : n ≤ 1600) (hq : CT T n q M) (hqn : q.1 ≤ n) : ax_Ev L X SH 3 52 [(2, 7), (2, (h : Int))] M (R1 0 (fun x M' => (∃ f p, x = 0 ∧ CF f p M' ∧ Sb WNU M M' ∧ ∀ k, numN T n 0 100 q k = .inl (f, p)) ∨ (x = 1 ∧ ∃ M2, Sb WNU M M2 ∧ CT T n (nx T n q) M2 ∧ M' = ax_up M2 h 19 (nuV T n q) ∧ (0 ≤ nuV T n q ∧ nuV T n q ≤ 100) ∧ ∀ k, numN T n 0 100 q k = k (nuV T n q) (nx T n q)))) := by
  show ax_G L X SH 3 52 0 [(2, 7), (2, (h : Int))] [] M _
  have hC := at52
  have hw : wok WNU = true := by decide +kernel
  have hS : Sb WNU M M := Sb.refl
  have c97 := m97r (L := L) (X := X) hF hn hq hqn (lo := 0) (hi := 100)
  cases r : nuR T n q 0 100 with
  | some e =>
    rw [r] at c97
    have eN : ∀ k, numN T n 0 100 q k = .inl (e.1, e.2) := fun k => by unfold numN tryR; rw [r]
    refine g3 hC rfl rfl ?_
    refine g19 hC rfl rfl (Nat.le_of_ble_eq_true rfl) rfl ((hS.fix hw hF).g rfl) ?_
    refine g0 hC rfl ?_
    refine g0 hC rfl ?_
    refine c1 hC rfl rfl rfl (Nat.le_of_ble_eq_true rfl) (Nat.le_of_ble_eq_true rfl) rfl c97 (Nat.le_of_ble_eq_true rfl) (fun x M2 hr => ?_)
    obtain ⟨hr0, hcr⟩ := hr; have hS := hS.then hr0 rfl; have hx : x = 0 ∧ CF e.1 e.2 M2 := by rcases hcr with ⟨f, p, w1, w2, w3⟩ | ⟨w1, -⟩; cases w1; exact ⟨w2, w3⟩; cases w1
    refine g12n hC rfl (fun h5 => (by have := hx.1; omega)) (fun h5 => ?_)
    refine g0 hC rfl ?_
    refine ret3 hC rfl ⟨by omega, by omega⟩ ?_
    exact Or.inl ⟨e.1, e.2, rfl, hx.2, hS, eN⟩
  | none =>
    rw [r] at c97
    have eN : ∀ k, numN T n 0 100 q k = k (nuV T n q) (nx T n q) := fun k => by unfold numN tryR; rw [r]
    refine g3 hC rfl rfl ?_
    refine g19 hC rfl rfl (Nat.le_of_ble_eq_true rfl) rfl ((hS.fix hw hF).g rfl) ?_
    refine g0 hC rfl ?_
    refine g0 hC rfl ?_
    refine c1 hC rfl rfl rfl (Nat.le_of_ble_eq_true rfl) (Nat.le_of_ble_eq_true rfl) rfl c97 (Nat.le_of_ble_eq_true rfl) (fun x M2 hr => ?_)
    obtain ⟨hr0, hcr⟩ := hr; have hS := hS.then hr0 rfl; have hx : x = 1 ∧ CT T n (nx T n q) M2 ∧ M2 1 6 = nuV T n q := by rcases hcr with ⟨f, p, w1, -⟩ | ⟨-, w2, w3, w4⟩; cases w1; exact ⟨w2, w3, w4⟩
    refine g12n hC rfl (fun h5 => ?_) (fun h5 => (by have := hx.1; omega))
    refine g3 hC rfl rfl ?_
    refine g3 hC rfl rfl ?_
    refine g19 hC rfl rfl (Nat.le_of_ble_eq_true rfl) rfl ((hS.fix hw hF).g rfl) ?_
    refine g19 hC rfl rfl (Nat.le_of_ble_eq_true rfl) rfl hx.2.2 ?_
    refine g20 hC rfl (shH hh) (Nat.le_of_ble_eq_true rfl) rfl ?_
    refine g0 hC rfl ?_
    refine ret3 hC rfl ⟨by omega, by omega⟩ ?_
    exact Or.inr ⟨rfl, M2, hr0, hx.2.1, rfl, nuR_b r, eN⟩
end CRS
