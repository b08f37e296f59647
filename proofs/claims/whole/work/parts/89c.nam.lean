def lts (f : Nat → Nat) (n : Nat) : Prop := ∀ i, i < n → 1 ≤ f i ∧ f i ≤ 26
theorem nc_s {f : Nat → Nat} : ∀ n, nc f (n + 1) = f 0 + 32 * nc (fun i => f (i + 1)) n := by
  intro n
  induction n with
  | zero => show 0 + f 0 * 2 ^ (5 * 0) = f 0 + 32 * 0; simp
  | succ n ih =>
    show nc f (n + 1) + f (n + 1) * 2 ^ (5 * (n + 1)) = f 0 + 32 * (nc (fun i => f (i + 1)) n + f (n + 1) * 2 ^ (5 * n))
    have e : 2 ^ (5 * (n + 1)) = 32 * 2 ^ (5 * n) := by
      rw [show 5 * (n + 1) = 5 * n + 5 by omega, Nat.pow_add, Nat.mul_comm]
    rw [ih, e, Nat.mul_add, ← Nat.mul_assoc, ← Nat.mul_assoc, Nat.mul_comm (f (n + 1)) 32, Nat.add_assoc]
theorem nc_inj : ∀ (n m : Nat) (f g : Nat → Nat), lts f n → lts g m → nc f n = nc g m → n = m ∧ ∀ i, i < n → f i = g i := by
  intro n
  induction n with
  | zero =>
    intro m f g _ hg h
    cases m with
    | zero => exact ⟨rfl, fun i hi => absurd hi (Nat.not_lt_zero i)⟩
    | succ m =>
      exfalso
      rw [nc_s] at h
      have := hg 0 (by omega)
      have h0 : nc f 0 = 0 := rfl
      omega
  | succ n ih =>
    intro m f g hf hg h
    cases m with
    | zero =>
      exfalso
      rw [nc_s] at h
      have := hf 0 (by omega)
      have h0 : nc g 0 = 0 := rfl
      omega
    | succ m =>
      rw [nc_s, nc_s] at h
      have h1 := hf 0 (by omega)
      have h2 := hg 0 (by omega)
      obtain ⟨e1, e2⟩ := ih m (fun i => f (i + 1)) (fun i => g (i + 1)) (fun i hi => hf (i + 1) (by omega)) (fun i hi => hg (i + 1) (by omega)) (by omega)
      refine ⟨by omega, fun i hi => ?_⟩
      cases i with
      | zero => omega
      | succ i => exact e2 i (by omega)
theorem nr_inj : ∀ (n m : Nat) (f g : Nat → Nat), lts f n → lts g m → nr f n = nr g m → n = m ∧ ∀ i, i < n → f i = g i := by
  intro n
  induction n with
  | zero =>
    intro m f g _ hg h
    cases m with
    | zero => exact ⟨rfl, fun i hi => absurd hi (Nat.not_lt_zero i)⟩
    | succ m =>
      exfalso
      have h1 : nr f 0 = 27 * nr g m + g m := h
      have := hg m (by omega)
      have h0 : nr f 0 = 0 := rfl
      omega
  | succ n ih =>
    intro m f g hf hg h
    cases m with
    | zero =>
      exfalso
      have h1 : 27 * nr f n + f n = nr g 0 := h
      have := hf n (by omega)
      have h0 : nr g 0 = 0 := rfl
      omega
    | succ m =>
      have h1 : 27 * nr f n + f n = 27 * nr g m + g m := h
      have h2 := hf n (by omega)
      have h3 := hg m (by omega)
      obtain ⟨e1, e2⟩ := ih m f g (fun i hi => hf i (by omega)) (fun i hi => hg i (by omega)) (by omega)
      subst e1
      refine ⟨rfl, fun i hi => ?_⟩
      by_cases z : i = n
      · rw [z]; omega
      · exact e2 i (by omega)
theorem nc_cg {f g : Nat → Nat} : ∀ n, (∀ i, i < n → f i = g i) → nc f n = nc g n := by
  intro n
  induction n with
  | zero => intro _; rfl
  | succ n ih =>
    intro h
    show nc f n + f n * _ = nc g n + g n * _
    rw [ih (fun i hi => h i (by omega)), h n (by omega)]
theorem nr_cg {f g : Nat → Nat} : ∀ n, (∀ i, i < n → f i = g i) → nr f n = nr g n := by
  intro n
  induction n with
  | zero => intro _; rfl
  | succ n ih =>
    intro h
    show 27 * nr f n + f n = 27 * nr g n + g n
    rw [ih (fun i hi => h i (by omega)), h n (by omega)]
theorem nm_iff {f g : Nat → Nat} {n m : Nat} (hf : lts f n) (hg : lts g m) : nc f n = nc g m ↔ nr f n = nr g m := by
  constructor
  · intro h
    obtain ⟨rfl, e⟩ := nc_inj n m f g hf hg h
    exact nr_cg n e
  · intro h
    obtain ⟨rfl, e⟩ := nr_inj n m f g hf hg h
    exact nc_cg n e
section NAM
variable {L : Nat} {X : Nat → Int} {M : ax_M}
def At1 (f : Nat → Int) (n : Nat) (x y : Int) : Prop := (∃ k, k < n ∧ y = (k : Int) ∧ f k = x ∧ ∀ k', k' < k → f k' ≠ x) ∨ (y = -1 ∧ ∀ k, k < n → f k ≠ x)
theorem m35 {c len n : Nat} (hc : SH[c]? = some (1, 0, len)) (hn : n ≤ len) (hl : len ≤ 1600) {x : Int} : ax_Ev L X SH 0 35 [(2, (c : Int)), (0, (n : Int)), (0, x)] M (R1 0 (fun y M' => M' = M ∧ At1 (M c) n x y)) := by
  show ax_G L X SH 0 35 0 [(2, (c : Int)), (0, (n : Int)), (0, x), (3, 0)] [] M _
  have hC := at35
  have l1 : ∀ (m k : Nat), k + m = n → ∀ ll M1, (ll = [(2, (c : Int)), (0, (n : Int)), (0, x), (0, (k : Int))] ∧ M1 = M ∧ ∀ i, i < k → M c i ≠ x) → ax_G L X SH 0 35 2 ll [] M1 (R1 0 (fun y M' => M' = M ∧ At1 (M c) n x y)) := by
    refine lp ?_ ?_
    · rintro ll M1 ⟨rfl, rfl, e1⟩
      refine g3 hC rfl rfl ?_
      refine g3 hC rfl rfl ?_
      refine g13g hC rfl (fun h4 => ?_) (fun h4 => (by omega))
      refine g0 hC rfl ?_
      refine ret1 hC rfl rfl ?_
      exact ⟨rfl, Or.inr ⟨rfl, e1⟩⟩
    · rintro k hk ll M1 ⟨rfl, rfl, e1⟩ hnext
      refine g3 hC rfl rfl ?_
      refine g3 hC rfl rfl ?_
      refine g13g hC rfl (fun h4 => (by omega)) (fun h4 => ?_)
      refine g3 hC rfl rfl ?_
      refine g3 hC rfl rfl ?_
      refine g23 hC rfl hc ?_
      refine g13g hC rfl (fun h8 => (by omega)) (fun h8 => ?_)
      refine g3 hC rfl rfl ?_
      refine g3 hC rfl rfl ?_
      refine r21 (k) hC rfl rfl hc (Or.inl rfl) (by omega) rfl ?_
      refine g3 hC rfl rfl ?_
      refine g13n hC rfl (fun h13 => ?_) (fun h13 => ?_)
      ·
        refine n3 hC rfl rfl ⟨by omega, by omega⟩ ?_
        refine g14 hC rfl ?_
        refine hnext _ _ ⟨rfl, rfl, fun i hi => ?_⟩
        by_cases z : i = k
        · rw [z]; assumption
        · exact e1 i (by omega)
      ·
        refine g3 hC rfl rfl ?_
        refine ret1 hC rfl rfl ?_
        exact ⟨rfl, Or.inl ⟨k, hk, rfl, by omega, e1⟩⟩
  refine g0 hC rfl ?_
  refine s3 hC rfl rfl rfl ?_
  exact l1 n 0 (Nat.zero_add _) _ _ ⟨rfl, rfl, fun i hi => absurd hi (Nat.not_lt_zero i)⟩
end NAM
