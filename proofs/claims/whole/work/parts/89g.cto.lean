section CTO
variable {L : Nat} {X : Nat → Int} {M : ax_M} {n : Nat} {T : Nat → Int} {q : PS}
theorem m44 (hF : Fix M) (hn : n ≤ 1600) {c len ct : Nat} (hc : SH[c]? = some (1, 0, len)) (hct : ct ≤ len) (hlen : len ≤ 1600) (hcW : ∀ k, wb WNA c k = false) {f : Nat → Nm} (hf : ∀ k, k < ct → M c k = (ncm (f k) : Int)) (hq : CT T n q M) (hqn : q.1 ≤ n) : ax_Ev L X SH 6 44 [(2, 7), (2, (c : Int)), (0, (ct : Int))] M (R1 0 (fun x M' => Sb WNA M M' ∧ ((∃ f' p, x = -1 ∧ CF f' p M' ∧ ∀ k, oldN T n f ct q k = .inl (f', p)) ∨ ∃ i : Nat, i < ct ∧ x = (i : Int) ∧ CT T n (nx T n q) M' ∧ M' 1 5 = (q.1 : Int) ∧ ∀ k, oldN T n f ct q k = k i (nx T n q)))) := by
  show ax_G L X SH 6 44 0 [(2, 7), (2, (c : Int)), (0, (ct : Int)), (3, 0)] [] M _
  have hC := at44
  have hw : wok WNA = true := by decide +kernel
  have hS : Sb WNA M M := Sb.refl
  have c98 := m98 (L := L) (X := X) hF hn hq hqn
  cases r : naR T n q with
  | some e =>
    rw [r] at c98
    have eN : ∀ k, oldN T n f ct q k = .inl (e.1, e.2) := fun k => by unfold oldN tryR; rw [r]
    refine g3 hC rfl rfl ?_
    refine g19 hC rfl rfl (Nat.le_of_ble_eq_true rfl) rfl ((hS.fix hw hF).g rfl) ?_
    refine c1 hC rfl rfl rfl (Nat.le_of_ble_eq_true rfl) (Nat.le_of_ble_eq_true rfl) rfl c98 (Nat.le_of_ble_eq_true rfl) (fun x M2 hr => ?_)
    obtain ⟨hr0, hcr⟩ := hr; have hS := hS.then hr0 rfl; have hx : x = 0 ∧ CF e.1 e.2 M2 := by rcases hcr with ⟨f, p, w1, w2, w3⟩ | ⟨w1, -⟩; cases w1; exact ⟨w2, w3⟩; cases w1
    refine g12n hC rfl (fun h3 => (by have := hx.1; omega)) (fun h3 => ?_)
    refine g0 hC rfl ?_
    refine ret1 hC rfl rfl ?_
    exact ⟨hS, Or.inl ⟨e.1, e.2, rfl, hx.2, eN⟩⟩
  | none =>
    rw [r] at c98
    have a1 : ∀ M2, Sb WNA M M2 → ∀ y, At1 (M2 c) ct (ncm (nmQ T n q) : Int) y → y = (match fdN f (nmQ T n q) ct with | some k => (k : Int) | none => -1) := fun M2 hs y => At1_nc (fun k hk => (hs c k (hcW k)).trans (hf k hk))
    cases z : fdN f (nmQ T n q) ct with
    | none =>
      rw [z] at a1
      have eN : ∀ k, oldN T n f ct q k = .inl (3, (q.1 : Int)) := fun k => by unfold oldN tryR; rw [r]; dsimp only; rw [z]
      refine g3 hC rfl rfl ?_
      refine g19 hC rfl rfl (Nat.le_of_ble_eq_true rfl) rfl ((hS.fix hw hF).g rfl) ?_
      refine c1 hC rfl rfl rfl (Nat.le_of_ble_eq_true rfl) (Nat.le_of_ble_eq_true rfl) rfl c98 (Nat.le_of_ble_eq_true rfl) (fun x M2 hr => ?_)
      obtain ⟨hr0, hcr⟩ := hr; have hS := hS.then hr0 rfl; have hx : x = 1 ∧ CT T n (nx T n q) M2 ∧ M2 1 7 = (ncm (nmQ T n q) : Int) ∧ M2 1 5 = (q.1 : Int) := by rcases hcr with ⟨f, p, w1, -⟩ | ⟨-, w2, w3, w4⟩; cases w1; exact ⟨w2, w3, w4⟩
      refine g12n hC rfl (fun h3 => ?_) (fun h3 => (by have := hx.1; omega))
      refine g3 hC rfl rfl ?_
      refine g3 hC rfl rfl ?_
      refine g3 hC rfl rfl ?_
      refine g19 hC rfl rfl (Nat.le_of_ble_eq_true rfl) rfl ((hS.fix hw hF).g rfl) ?_
      refine g19 hC rfl rfl (Nat.le_of_ble_eq_true rfl) rfl hx.2.2.1 ?_
      refine c1 hC rfl rfl rfl (Nat.le_of_ble_eq_true rfl) (Nat.le_of_ble_eq_true rfl) rfl (m35 hc hct hlen) (Nat.le_of_ble_eq_true rfl) (fun y M3 hr => ?_)
      obtain ⟨hr, hy⟩ := hr; replace hr := hr.symm; subst hr; have hy : y = -1 := a1 _ hS y hy; subst hy
      refine s3 hC rfl rfl rfl ?_
      refine g3 hC rfl rfl ?_
      refine g0 hC rfl ?_
      refine g13n hC rfl (fun h15 => (by omega)) (fun h15 => ?_)
      refine g3 hC rfl rfl ?_
      refine g19 hC rfl rfl (Nat.le_of_ble_eq_true rfl) rfl ((hS.fix hw hF).g rfl) ?_
      refine g0 hC rfl ?_
      refine g3 hC rfl rfl ?_
      refine g19 hC rfl rfl (Nat.le_of_ble_eq_true rfl) rfl ((hS.fix hw hF).g rfl) ?_
      refine g19 hC rfl rfl (Nat.le_of_ble_eq_true rfl) rfl hx.2.2.2 ?_
      refine c1 hC rfl rfl rfl (Nat.le_of_ble_eq_true rfl) (Nat.le_of_ble_eq_true rfl) rfl m89 (Nat.le_of_ble_eq_true rfl) (fun y M4 hr => ?_)
      obtain ⟨rfl, hr⟩ := hr; replace hr := hr.symm; subst hr
      refine g18 hC rfl (by decide) ?_
      refine g3 hC rfl rfl ?_
      refine ret1 hC rfl rfl ?_
      exact ⟨(hS.up rfl).up rfl, Or.inl ⟨3, _, rfl, CF.up, eN⟩⟩
    | some i =>
      rw [z] at a1
      have hi := (fdN_some ct z).1
      have eN : ∀ k, oldN T n f ct q k = k i (nx T n q) := fun k => by unfold oldN tryR; rw [r]; dsimp only; rw [z]
      refine g3 hC rfl rfl ?_
      refine g19 hC rfl rfl (Nat.le_of_ble_eq_true rfl) rfl ((hS.fix hw hF).g rfl) ?_
      refine c1 hC rfl rfl rfl (Nat.le_of_ble_eq_true rfl) (Nat.le_of_ble_eq_true rfl) rfl c98 (Nat.le_of_ble_eq_true rfl) (fun x M2 hr => ?_)
      obtain ⟨hr0, hcr⟩ := hr; have hS := hS.then hr0 rfl; have hx : x = 1 ∧ CT T n (nx T n q) M2 ∧ M2 1 7 = (ncm (nmQ T n q) : Int) ∧ M2 1 5 = (q.1 : Int) := by rcases hcr with ⟨f, p, w1, -⟩ | ⟨-, w2, w3, w4⟩; cases w1; exact ⟨w2, w3, w4⟩
      refine g12n hC rfl (fun h3 => ?_) (fun h3 => (by have := hx.1; omega))
      refine g3 hC rfl rfl ?_
      refine g3 hC rfl rfl ?_
      refine g3 hC rfl rfl ?_
      refine g19 hC rfl rfl (Nat.le_of_ble_eq_true rfl) rfl ((hS.fix hw hF).g rfl) ?_
      refine g19 hC rfl rfl (Nat.le_of_ble_eq_true rfl) rfl hx.2.2.1 ?_
      refine c1 hC rfl rfl rfl (Nat.le_of_ble_eq_true rfl) (Nat.le_of_ble_eq_true rfl) rfl (m35 hc hct hlen) (Nat.le_of_ble_eq_true rfl) (fun y M3 hr => ?_)
      obtain ⟨hr, hy⟩ := hr; replace hr := hr.symm; subst hr; have hy : y = (i : Int) := a1 _ hS y hy; subst hy
      refine s3 hC rfl rfl rfl ?_
      refine g3 hC rfl rfl ?_
      refine g0 hC rfl ?_
      refine g13n hC rfl (fun h15 => ?_) (fun h15 => (by omega))
      refine g3 hC rfl rfl ?_
      refine ret1 hC rfl rfl ?_
      exact ⟨hS, Or.inr ⟨i, hi, rfl, hx.2.1, hx.2.2.2, eN⟩⟩
theorem m45 (hF : Fix M) (hn : n ≤ 1600) (hq : CT T n q M) (hqn : q.1 ≤ n) (hqn2 : (nx T n q).1 ≤ n) {a lo hi : Int} (ha : ax_isS a = true) {w : List Int} (hb : ax_by (a - 1) = w) (hw0 : ∀ x ∈ w, x ≠ 32) : ax_Ev L X SH 6 45 [(2, 7), (2, a), (0, lo), (0, hi)] M (R1 0 (fun x M' => Sb WNU M M' ∧ ((∃ f p, x = 0 ∧ CF f p M' ∧ ∀ k, setN T n w lo hi q k = .inl (f, p)) ∨ (x = 1 ∧ CT T n (nx T n (nx T n q)) M' ∧ M' 1 6 = nuV T n (nx T n q) ∧ ∀ k, setN T n w lo hi q k = k (nuV T n (nx T n q)) (nx T n (nx T n q)))))) := by
  show ax_G L X SH 6 45 0 [(2, 7), (2, a), (0, lo), (0, hi)] [] M _
  have hC := at45
  have hw : wok WNU = true := by decide +kernel
  have hS : Sb WNU M M := Sb.refl
  have c95 := m95r (L := L) (X := X) hF hn hq hqn ha hb hw0
  cases r : wdR T n q w with
  | some e =>
    rw [r] at c95
    have eN : ∀ k, setN T n w lo hi q k = .inl (e.1, e.2) := fun k => by unfold setN wrdN tryR; rw [r]
    refine g3 hC rfl rfl ?_
    refine g19 hC rfl rfl (Nat.le_of_ble_eq_true rfl) rfl ((hS.fix hw hF).g rfl) ?_
    refine g3 hC rfl rfl ?_
    refine c1 hC rfl rfl rfl (Nat.le_of_ble_eq_true rfl) (Nat.le_of_ble_eq_true rfl) rfl c95 (Nat.le_of_ble_eq_true rfl) (fun x M2 hr => ?_)
    obtain ⟨hr0, hcr⟩ := hr; have hS := hS.then hr0 rfl; have hx : x = 0 ∧ CF e.1 e.2 M2 := by rcases hcr with ⟨f, p, w1, w2, w3⟩ | ⟨w1, -⟩; cases w1; exact ⟨w2, w3⟩; cases w1
    refine g12e hC rfl (fun h4 => ?_) (fun h4 => (by have := hx.1; omega))
    refine g0 hC rfl ?_
    refine ret3 hC rfl ⟨by omega, by omega⟩ ?_
    exact ⟨hS, Or.inl ⟨e.1, e.2, rfl, hx.2, eN⟩⟩
  | none =>
    rw [r] at c95
    cases r2 : nuR T n (nx T n q) lo hi with
    | some e =>
      have eN : ∀ k, setN T n w lo hi q k = .inl (e.1, e.2) := fun k => by unfold setN wrdN numN tryR; rw [r]; dsimp only; rw [r2]
      refine g3 hC rfl rfl ?_
      refine g19 hC rfl rfl (Nat.le_of_ble_eq_true rfl) rfl ((hS.fix hw hF).g rfl) ?_
      refine g3 hC rfl rfl ?_
      refine c1 hC rfl rfl rfl (Nat.le_of_ble_eq_true rfl) (Nat.le_of_ble_eq_true rfl) rfl c95 (Nat.le_of_ble_eq_true rfl) (fun x M2 hr => ?_)
      obtain ⟨hr0, hcr⟩ := hr; have hS := hS.then hr0 rfl; have hx : x = 1 ∧ CT T n (nx T n q) M2 := by rcases hcr with ⟨f, p, w1, -⟩ | ⟨-, w2, w3, w4⟩; cases w1; exact ⟨w2, w3⟩
      refine g12e hC rfl (fun h4 => (by have := hx.1; omega)) (fun h4 => ?_)
      refine g3 hC rfl rfl ?_
      refine g19 hC rfl rfl (Nat.le_of_ble_eq_true rfl) rfl ((hS.fix hw hF).g rfl) ?_
      refine g3 hC rfl rfl ?_
      refine g3 hC rfl rfl ?_
      refine c1 hC rfl rfl rfl (Nat.le_of_ble_eq_true rfl) (Nat.le_of_ble_eq_true rfl) rfl (m97r (hS.fix hw hF) hn hx.2 hqn2) (Nat.le_of_ble_eq_true rfl) (fun x2 M3 hr => ?_)
      obtain ⟨hr1, hcr2⟩ := hr; have hS := hS.then hr1 rfl; rw [r2] at hcr2; have hx2 : x2 = 0 ∧ CF e.1 e.2 M3 := by rcases hcr2 with ⟨f, p, w1, w2, w3⟩ | ⟨w1, -⟩; cases w1; exact ⟨w2, w3⟩; cases w1
      refine g12e hC rfl (fun h10 => ?_) (fun h10 => (by have := hx2.1; omega))
      refine g0 hC rfl ?_
      refine ret3 hC rfl ⟨by omega, by omega⟩ ?_
      exact ⟨hS, Or.inl ⟨e.1, e.2, rfl, hx2.2, eN⟩⟩
    | none =>
      have eN : ∀ k, setN T n w lo hi q k = k (nuV T n (nx T n q)) (nx T n (nx T n q)) := fun k => by unfold setN wrdN numN tryR; rw [r]; dsimp only; rw [r2]
      refine g3 hC rfl rfl ?_
      refine g19 hC rfl rfl (Nat.le_of_ble_eq_true rfl) rfl ((hS.fix hw hF).g rfl) ?_
      refine g3 hC rfl rfl ?_
      refine c1 hC rfl rfl rfl (Nat.le_of_ble_eq_true rfl) (Nat.le_of_ble_eq_true rfl) rfl c95 (Nat.le_of_ble_eq_true rfl) (fun x M2 hr => ?_)
      obtain ⟨hr0, hcr⟩ := hr; have hS := hS.then hr0 rfl; have hx : x = 1 ∧ CT T n (nx T n q) M2 := by rcases hcr with ⟨f, p, w1, -⟩ | ⟨-, w2, w3, w4⟩; cases w1; exact ⟨w2, w3⟩
      refine g12e hC rfl (fun h4 => (by have := hx.1; omega)) (fun h4 => ?_)
      refine g3 hC rfl rfl ?_
      refine g19 hC rfl rfl (Nat.le_of_ble_eq_true rfl) rfl ((hS.fix hw hF).g rfl) ?_
      refine g3 hC rfl rfl ?_
      refine g3 hC rfl rfl ?_
      refine c1 hC rfl rfl rfl (Nat.le_of_ble_eq_true rfl) (Nat.le_of_ble_eq_true rfl) rfl (m97r (hS.fix hw hF) hn hx.2 hqn2) (Nat.le_of_ble_eq_true rfl) (fun x2 M3 hr => ?_)
      obtain ⟨hr1, hcr2⟩ := hr; have hS := hS.then hr1 rfl; rw [r2] at hcr2; have hx2 : x2 = 1 ∧ CT T n (nx T n (nx T n q)) M3 ∧ M3 1 6 = nuV T n (nx T n q) := by rcases hcr2 with ⟨f, p, w1, -⟩ | ⟨-, w2, w3, w4⟩; cases w1; exact ⟨w2, w3, w4⟩
      refine g12e hC rfl (fun h10 => (by have := hx2.1; omega)) (fun h10 => ?_)
      refine g0 hC rfl ?_
      refine g14 hC rfl ?_
      refine ret3 hC rfl ⟨by omega, by omega⟩ ?_
      exact ⟨hS, Or.inr ⟨rfl, hx2.2.1, hx2.2.2, eN⟩⟩
end CTO
