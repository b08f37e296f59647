section SMC
variable {L : Nat} {X : Nat → Int} {M V : ax_M} {h n : Nat}
def sumI (f : Nat → Int) (m : Nat) : Int := it (fun k (s : Int) => s + f k) m 0
def cnt (f : Nat → Int) (m : Nat) : Int := it (fun k (s : Int) => if f k = 1 then s + 1 else s) m 0
theorem sumI_b {f : Nat → Int} {b : Int} (hb : 0 ≤ b) : ∀ m, (∀ k, k < m → 0 ≤ f k ∧ f k ≤ b) → 0 ≤ sumI f m ∧ sumI f m ≤ b * m := by
  intro m
  induction m with
  | zero => intro _; constructor <;> simp [sumI, it]
  | succ m ih =>
    intro hf
    have e : sumI f (m + 1) = sumI f m + f m := rfl
    have := ih (fun k hk => hf k (by omega))
    have h1 := hf m (by omega)
    have h2 : b * ((m + 1 : Nat) : Int) = b * (m : Int) + b := by rw [Int.natCast_add, Int.mul_add]; simp
    rw [e, h2]; omega
theorem cnt_b {f : Nat → Int} : ∀ m : Nat, 0 ≤ cnt f m ∧ cnt f m ≤ m := by
  intro m
  induction m with
  | zero => exact ⟨Int.le_refl 0, Int.le_refl 0⟩
  | succ m ih =>
    have e : cnt f (m + 1) = if f m = 1 then cnt f m + 1 else cnt f m := rfl
    rw [e]; split <;> omega
theorem sum_cnt {f : Nat → Int} : ∀ m : Nat, (∀ k, k < m → f k = 0 ∨ f k = 1) → sumI f m = cnt f m := by
  intro m
  induction m with
  | zero => intro _; rfl
  | succ m ih =>
    intro hf
    have e : sumI f (m + 1) = sumI f m + f m := rfl
    have e2 : cnt f (m + 1) = if f m = 1 then cnt f m + 1 else cnt f m := rfl
    rw [e, e2, ih (fun k hk => hf k (by omega))]
    rcases hf m (by omega) with z | z
    · rw [z, if_neg (by decide)]; omega
    · rw [z, if_pos rfl]
theorem cnt_ext {f : Nat → Int} {n : Nat} : ∀ m : Nat, (∀ k, n ≤ k → k < n + m → f k ≠ 1) → cnt f (n + m) = cnt f n := by
  intro m
  induction m with
  | zero => intro _; rfl
  | succ m ih =>
    intro hf
    have e2 : cnt f (n + m + 1) = if f (n + m) = 1 then cnt f (n + m) + 1 else cnt f (n + m) := rfl
    rw [← Nat.add_assoc, e2, if_neg (hf _ (by omega) (by omega)), ih (fun k h1 h2 => hf k h1 (by omega))]
theorem m67 (hF : Fix M) (hSW : ∀ s, s < 10 → M 47 s = 0 ∨ M 47 s = 1) : ax_Ev L X SH 0 67 [(2, 45)] M (R1 0 (fun x M' => x = sumI (M 47) 10 ∧ M' = M)) := by
  show ax_G L X SH 0 67 0 [(2, 45), (3, 0), (3, 0)] [] M _
  have hC := at67
  have hw := wX0
  have l1 : ∀ (m k : Nat), k + m = 10 → ∀ ll M1, (ll = [(2, 45), (0, sumI (M 47) k), (0, (k : Int))] ∧ M1 = M) → ax_G L X SH 0 67 4 ll [] M1 (R1 0 (fun x M' => x = sumI (M 47) 10 ∧ M' = M)) := by
    refine lp ?_ ?_
    · rintro ll M1 ⟨rfl, rfl⟩
      have hS : Sb X0 M1 M1 := Sb.refl
      refine g3 hC rfl rfl ?_
      refine g0 hC rfl ?_
      refine g13g hC rfl (fun h6 => ?_) (fun h6 => (by omega))
      refine g3 hC rfl rfl ?_
      refine ret1 hC rfl rfl ?_
      exact ⟨rfl, rfl⟩
    · rintro k hk ll M1 ⟨rfl, rfl⟩ hnext
      have hS : Sb X0 M1 M1 := Sb.refl
      have b1 := sumI_b (f := M1 47) (b := 1) (by decide) k (fun q hq => by have := hSW q (by omega); omega)
      have b2 := hSW k hk
      refine g3 hC rfl rfl ?_
      refine g0 hC rfl ?_
      refine g13g hC rfl (fun h6 => (by omega)) (fun h6 => ?_)
      refine g3 hC rfl rfl ?_
      refine g3 hC rfl rfl ?_
      refine g19 hC rfl rfl (Nat.le_of_ble_eq_true rfl) rfl ((hS.fix hw hF).g rfl) ?_
      refine g3 hC rfl rfl ?_
      refine r21 (k) hC rfl (by omega) rfl (Or.inl rfl) (by omega) rfl ?_
      refine g6a hC rfl ⟨by omega, by omega⟩ ?_
      refine s1 hC rfl rfl rfl ?_
      refine n2 hC rfl rfl ⟨by omega, by omega⟩ ?_
      refine g14 hC rfl ?_
      exact hnext _ _ ⟨rfl, rfl⟩
  refine g0 hC rfl ?_
  refine s1 hC rfl rfl rfl ?_
  refine g0 hC rfl ?_
  refine s2 hC rfl rfl rfl ?_
  exact l1 10 0 rfl _ _ ⟨rfl, rfl⟩
theorem m68 (hF : Fix M) (hSW : ∀ i, i < 28 → 0 ≤ M 48 i ∧ M 48 i ≤ 9999) : ax_Ev L X SH 0 68 [(2, 45)] M (R1 0 (fun x M' => x = sumI (M 48) 28 ∧ M' = M)) := by
  show ax_G L X SH 0 68 0 [(2, 45), (3, 0), (3, 0)] [] M _
  have hC := at68
  have hw := wX0
  have l1 : ∀ (m k : Nat), k + m = 28 → ∀ ll M1, (ll = [(2, 45), (0, sumI (M 48) k), (0, (k : Int))] ∧ M1 = M) → ax_G L X SH 0 68 4 ll [] M1 (R1 0 (fun x M' => x = sumI (M 48) 28 ∧ M' = M)) := by
    refine lp ?_ ?_
    · rintro ll M1 ⟨rfl, rfl⟩
      have hS : Sb X0 M1 M1 := Sb.refl
      refine g3 hC rfl rfl ?_
      refine g0 hC rfl ?_
      refine g13g hC rfl (fun h6 => ?_) (fun h6 => (by omega))
      refine g3 hC rfl rfl ?_
      refine ret1 hC rfl rfl ?_
      exact ⟨rfl, rfl⟩
    · rintro k hk ll M1 ⟨rfl, rfl⟩ hnext
      have hS : Sb X0 M1 M1 := Sb.refl
      have b1 := sumI_b (f := M1 48) (b := 9999) (by decide) k (fun q hq => hSW q (by omega))
      have b2 := hSW k hk
      refine g3 hC rfl rfl ?_
      refine g0 hC rfl ?_
      refine g13g hC rfl (fun h6 => (by omega)) (fun h6 => ?_)
      refine g3 hC rfl rfl ?_
      refine g3 hC rfl rfl ?_
      refine g19 hC rfl rfl (Nat.le_of_ble_eq_true rfl) rfl ((hS.fix hw hF).g rfl) ?_
      refine g3 hC rfl rfl ?_
      refine r21 (k) hC rfl (by omega) rfl (Or.inl rfl) (by omega) rfl ?_
      refine g6a hC rfl ⟨by omega, by omega⟩ ?_
      refine s1 hC rfl rfl rfl ?_
      refine n2 hC rfl rfl ⟨by omega, by omega⟩ ?_
      refine g14 hC rfl ?_
      exact hnext _ _ ⟨rfl, rfl⟩
  refine g0 hC rfl ?_
  refine s1 hC rfl rfl rfl ?_
  refine g0 hC rfl ?_
  refine s2 hC rfl rfl rfl ?_
  exact l1 28 0 rfl _ _ ⟨rfl, rfl⟩
theorem m195 (hF : Fix M) (hSW : ∀ i, i < 28 → 0 ≤ M 185 (16 + i) ∧ M 185 (16 + i) ≤ 9999) : ax_Ev L X SH 0 195 [(2, 142)] M (R1 0 (fun x M' => x = sumI (fun k => M 185 (16 + k)) 28 ∧ M' = M)) := by
  show ax_G L X SH 0 195 0 [(2, 142), (3, 0), (3, 0)] [] M _
  have hC := at195
  have hw := wX0
  have l1 : ∀ (m k : Nat), k + m = 28 → ∀ ll M1, (ll = [(2, 142), (0, sumI (fun k => M 185 (16 + k)) k), (0, (k : Int))] ∧ M1 = M) → ax_G L X SH 0 195 4 ll [] M1 (R1 0 (fun x M' => x = sumI (fun k => M 185 (16 + k)) 28 ∧ M' = M)) := by
    refine lp ?_ ?_
    · rintro ll M1 ⟨rfl, rfl⟩
      have hS : Sb X0 M1 M1 := Sb.refl
      refine g3 hC rfl rfl ?_
      refine g0 hC rfl ?_
      refine g13g hC rfl (fun h6 => ?_) (fun h6 => (by omega))
      refine g3 hC rfl rfl ?_
      refine ret1 hC rfl rfl ?_
      exact ⟨rfl, rfl⟩
    · rintro k hk ll M1 ⟨rfl, rfl⟩ hnext
      have hS : Sb X0 M1 M1 := Sb.refl
      have b1 := sumI_b (f := fun k => M1 185 (16 + k)) (b := 9999) (by decide) k (fun q hq => hSW q (by omega))
      have b2 := hSW k hk
      refine g3 hC rfl rfl ?_
      refine g0 hC rfl ?_
      refine g13g hC rfl (fun h6 => (by omega)) (fun h6 => ?_)
      refine g3 hC rfl rfl ?_
      refine g3 hC rfl rfl ?_
      refine g19 hC rfl sh142 (flt12 rfl) ft12_54 ((hS.fix hw hF).g fx_142_54) ?_
      refine g0 hC rfl ?_
      refine g3 hC rfl rfl ?_
      refine g6a hC rfl ⟨by omega, by omega⟩ ?_
      refine r21 ((16 + k)) hC rfl (by omega) sh185 (Or.inl rfl) (by omega) (hS 185 ((16 + k)) rfl) ?_
      refine g6a hC rfl ⟨by omega, by omega⟩ ?_
      refine s1 hC rfl rfl rfl ?_
      refine n2 hC rfl rfl ⟨by omega, by omega⟩ ?_
      refine g14 hC rfl ?_
      exact hnext _ _ ⟨rfl, rfl⟩
  refine g0 hC rfl ?_
  refine s1 hC rfl rfl rfl ?_
  refine g0 hC rfl ?_
  refine s2 hC rfl rfl rfl ?_
  exact l1 28 0 rfl _ _ ⟨rfl, rfl⟩
theorem sum28 (hv : ∀ a b, a < b → b < 8 → M 185 (16 + pA a b) = V 48 (pO a b)) : sumI (fun k => M 185 (16 + k)) 28 = sumI (V 48) 28 := by
  have t0 : M 185 16 = V 48 0 := hv 0 1 (by decide) (by decide)
  have t1 : M 185 17 = V 48 1 := hv 0 2 (by decide) (by decide)
  have t2 : M 185 18 = V 48 3 := hv 0 3 (by decide) (by decide)
  have t3 : M 185 19 = V 48 6 := hv 0 4 (by decide) (by decide)
  have t4 : M 185 20 = V 48 10 := hv 0 5 (by decide) (by decide)
  have t5 : M 185 21 = V 48 15 := hv 0 6 (by decide) (by decide)
  have t6 : M 185 22 = V 48 21 := hv 0 7 (by decide) (by decide)
  have t7 : M 185 23 = V 48 2 := hv 1 2 (by decide) (by decide)
  have t8 : M 185 24 = V 48 4 := hv 1 3 (by decide) (by decide)
  have t9 : M 185 25 = V 48 7 := hv 1 4 (by decide) (by decide)
  have t10 : M 185 26 = V 48 11 := hv 1 5 (by decide) (by decide)
  have t11 : M 185 27 = V 48 16 := hv 1 6 (by decide) (by decide)
  have t12 : M 185 28 = V 48 22 := hv 1 7 (by decide) (by decide)
  have t13 : M 185 29 = V 48 5 := hv 2 3 (by decide) (by decide)
  have t14 : M 185 30 = V 48 8 := hv 2 4 (by decide) (by decide)
  have t15 : M 185 31 = V 48 12 := hv 2 5 (by decide) (by decide)
  have t16 : M 185 32 = V 48 17 := hv 2 6 (by decide) (by decide)
  have t17 : M 185 33 = V 48 23 := hv 2 7 (by decide) (by decide)
  have t18 : M 185 34 = V 48 9 := hv 3 4 (by decide) (by decide)
  have t19 : M 185 35 = V 48 13 := hv 3 5 (by decide) (by decide)
  have t20 : M 185 36 = V 48 18 := hv 3 6 (by decide) (by decide)
  have t21 : M 185 37 = V 48 24 := hv 3 7 (by decide) (by decide)
  have t22 : M 185 38 = V 48 14 := hv 4 5 (by decide) (by decide)
  have t23 : M 185 39 = V 48 19 := hv 4 6 (by decide) (by decide)
  have t24 : M 185 40 = V 48 25 := hv 4 7 (by decide) (by decide)
  have t25 : M 185 41 = V 48 20 := hv 5 6 (by decide) (by decide)
  have t26 : M 185 42 = V 48 26 := hv 5 7 (by decide) (by decide)
  have t27 : M 185 43 = V 48 27 := hv 6 7 (by decide) (by decide)
  simp only [sumI, it, Nat.reduceAdd]
  omega
theorem all28 (hv : ∀ a b, a < b → b < 8 → M 185 (16 + pA a b) = V 48 (pO a b)) {P : Int → Prop} (hP : ∀ i, i < 28 → P (V 48 i)) : ∀ i, i < 28 → P (M 185 (16 + i)) := by
  have t0 : M 185 16 = V 48 0 := hv 0 1 (by decide) (by decide)
  have t1 : M 185 17 = V 48 1 := hv 0 2 (by decide) (by decide)
  have t2 : M 185 18 = V 48 3 := hv 0 3 (by decide) (by decide)
  have t3 : M 185 19 = V 48 6 := hv 0 4 (by decide) (by decide)
  have t4 : M 185 20 = V 48 10 := hv 0 5 (by decide) (by decide)
  have t5 : M 185 21 = V 48 15 := hv 0 6 (by decide) (by decide)
  have t6 : M 185 22 = V 48 21 := hv 0 7 (by decide) (by decide)
  have t7 : M 185 23 = V 48 2 := hv 1 2 (by decide) (by decide)
  have t8 : M 185 24 = V 48 4 := hv 1 3 (by decide) (by decide)
  have t9 : M 185 25 = V 48 7 := hv 1 4 (by decide) (by decide)
  have t10 : M 185 26 = V 48 11 := hv 1 5 (by decide) (by decide)
  have t11 : M 185 27 = V 48 16 := hv 1 6 (by decide) (by decide)
  have t12 : M 185 28 = V 48 22 := hv 1 7 (by decide) (by decide)
  have t13 : M 185 29 = V 48 5 := hv 2 3 (by decide) (by decide)
  have t14 : M 185 30 = V 48 8 := hv 2 4 (by decide) (by decide)
  have t15 : M 185 31 = V 48 12 := hv 2 5 (by decide) (by decide)
  have t16 : M 185 32 = V 48 17 := hv 2 6 (by decide) (by decide)
  have t17 : M 185 33 = V 48 23 := hv 2 7 (by decide) (by decide)
  have t18 : M 185 34 = V 48 9 := hv 3 4 (by decide) (by decide)
  have t19 : M 185 35 = V 48 13 := hv 3 5 (by decide) (by decide)
  have t20 : M 185 36 = V 48 18 := hv 3 6 (by decide) (by decide)
  have t21 : M 185 37 = V 48 24 := hv 3 7 (by decide) (by decide)
  have t22 : M 185 38 = V 48 14 := hv 4 5 (by decide) (by decide)
  have t23 : M 185 39 = V 48 19 := hv 4 6 (by decide) (by decide)
  have t24 : M 185 40 = V 48 25 := hv 4 7 (by decide) (by decide)
  have t25 : M 185 41 = V 48 20 := hv 5 6 (by decide) (by decide)
  have t26 : M 185 42 = V 48 26 := hv 5 7 (by decide) (by decide)
  have t27 : M 185 43 = V 48 27 := hv 6 7 (by decide) (by decide)
  intro i hi
  have hi : i = 0 ∨ i = 1 ∨ i = 2 ∨ i = 3 ∨ i = 4 ∨ i = 5 ∨ i = 6 ∨ i = 7 ∨ i = 8 ∨ i = 9 ∨ i = 10 ∨ i = 11 ∨ i = 12 ∨ i = 13 ∨ i = 14 ∨ i = 15 ∨ i = 16 ∨ i = 17 ∨ i = 18 ∨ i = 19 ∨ i = 20 ∨ i = 21 ∨ i = 22 ∨ i = 23 ∨ i = 24 ∨ i = 25 ∨ i = 26 ∨ i = 27 := by omega
  rcases hi with rfl | rfl | rfl | rfl | rfl | rfl | rfl | rfl | rfl | rfl | rfl | rfl | rfl | rfl | rfl | rfl | rfl | rfl | rfl | rfl | rfl | rfl | rfl | rfl | rfl | rfl | rfl | rfl
  · rw [show 16 + 0 = 16 from rfl, t0]; exact hP _ (by decide)
  · rw [show 16 + 1 = 17 from rfl, t1]; exact hP _ (by decide)
  · rw [show 16 + 2 = 18 from rfl, t2]; exact hP _ (by decide)
  · rw [show 16 + 3 = 19 from rfl, t3]; exact hP _ (by decide)
  · rw [show 16 + 4 = 20 from rfl, t4]; exact hP _ (by decide)
  · rw [show 16 + 5 = 21 from rfl, t5]; exact hP _ (by decide)
  · rw [show 16 + 6 = 22 from rfl, t6]; exact hP _ (by decide)
  · rw [show 16 + 7 = 23 from rfl, t7]; exact hP _ (by decide)
  · rw [show 16 + 8 = 24 from rfl, t8]; exact hP _ (by decide)
  · rw [show 16 + 9 = 25 from rfl, t9]; exact hP _ (by decide)
  · rw [show 16 + 10 = 26 from rfl, t10]; exact hP _ (by decide)
  · rw [show 16 + 11 = 27 from rfl, t11]; exact hP _ (by decide)
  · rw [show 16 + 12 = 28 from rfl, t12]; exact hP _ (by decide)
  · rw [show 16 + 13 = 29 from rfl, t13]; exact hP _ (by decide)
  · rw [show 16 + 14 = 30 from rfl, t14]; exact hP _ (by decide)
  · rw [show 16 + 15 = 31 from rfl, t15]; exact hP _ (by decide)
  · rw [show 16 + 16 = 32 from rfl, t16]; exact hP _ (by decide)
  · rw [show 16 + 17 = 33 from rfl, t17]; exact hP _ (by decide)
  · rw [show 16 + 18 = 34 from rfl, t18]; exact hP _ (by decide)
  · rw [show 16 + 19 = 35 from rfl, t19]; exact hP _ (by decide)
  · rw [show 16 + 20 = 36 from rfl, t20]; exact hP _ (by decide)
  · rw [show 16 + 21 = 37 from rfl, t21]; exact hP _ (by decide)
  · rw [show 16 + 22 = 38 from rfl, t22]; exact hP _ (by decide)
  · rw [show 16 + 23 = 39 from rfl, t23]; exact hP _ (by decide)
  · rw [show 16 + 24 = 40 from rfl, t24]; exact hP _ (by decide)
  · rw [show 16 + 25 = 41 from rfl, t25]; exact hP _ (by decide)
  · rw [show 16 + 26 = 42 from rfl, t26]; exact hP _ (by decide)
  · rw [show 16 + 27 = 43 from rfl, t27]; exact hP _ (by decide)
theorem m216 (hF : Fix M) (hV : RV V h M) (hW : HW V h) : ax_Ev L X SH 1 216 [(2, 142)] M (R1 0 (fun x M' => x = cnt (V 47) (nS V h) ∧ M' = M)) := by
  show ax_G L X SH 1 216 0 [(2, 142), (3, 0), (3, 0)] [] M _
  have hC := at216
  have hw := wX0
  have hb := hW.1.2.1.2
  have l1 : ∀ (m k : Nat), k + m = nS V h → ∀ ll M1, (ll = [(2, 142), (0, cnt (V 47) k), (0, (k : Int))] ∧ M1 = M) → ax_G L X SH 1 216 4 ll [] M1 (R1 0 (fun x M' => x = cnt (V 47) (nS V h) ∧ M' = M)) := by
    refine lp ?_ ?_
    · rintro ll M1 ⟨rfl, rfl⟩
      have hS : Sb X0 M1 M1 := Sb.refl
      refine g3 hC rfl rfl ?_
      refine g3 hC rfl rfl ?_
      refine c1 hC rfl rfl rfl (Nat.le_of_ble_eq_true rfl) (Nat.le_of_ble_eq_true rfl) (mayR k184 rfl) (m184 hF hV hW) (Nat.le_of_ble_eq_true rfl) (fun x M2 hr => ?_)
      obtain ⟨rfl, hr⟩ := hr
      replace hr := hr.symm
      subst hr
      refine g13g hC rfl (fun h7 => ?_) (fun h7 => (by omega))
      refine g3 hC rfl rfl ?_
      refine ret1 hC rfl rfl ?_
      exact ⟨rfl, rfl⟩
    · rintro k hk ll M1 ⟨rfl, rfl⟩ hnext
      have hS : Sb X0 M1 M1 := Sb.refl
      have b1 := cnt_b (f := V 47) k
      have e2 : cnt (V 47) (k + 1) = if V 47 k = 1 then cnt (V 47) k + 1 else cnt (V 47) k := rfl
      refine g3 hC rfl rfl ?_
      refine g3 hC rfl rfl ?_
      refine c1 hC rfl rfl rfl (Nat.le_of_ble_eq_true rfl) (Nat.le_of_ble_eq_true rfl) (mayR k184 rfl) (m184 hF hV hW) (Nat.le_of_ble_eq_true rfl) (fun x M2 hr => ?_)
      obtain ⟨rfl, hr⟩ := hr
      replace hr := hr.symm
      subst hr
      refine g13g hC rfl (fun h7 => (by omega)) (fun h7 => ?_)
      refine g3 hC rfl rfl ?_
      refine g3 hC rfl rfl ?_
      refine c1 hC rfl rfl rfl (Nat.le_of_ble_eq_true rfl) (Nat.le_of_ble_eq_true rfl) (mayR k192 rfl) (m192 hF hV hW (by omega)) (Nat.le_of_ble_eq_true rfl) (fun x M2 hr => ?_)
      obtain ⟨rfl, hr⟩ := hr
      replace hr := hr.symm
      subst hr
      refine g12e hC rfl (fun h11 => ?_) (fun h11 => ?_)
      ·
        refine n2 hC rfl rfl ⟨by omega, by omega⟩ ?_
        refine g14 hC rfl ?_
        refine hnext _ _ ⟨?_, rfl⟩
        rw [e2, if_neg (fun z => by rw [if_pos z] at h11; omega)]; rfl
      ·
        refine n1 hC rfl rfl ⟨by omega, by omega⟩ ?_
        refine n2 hC rfl rfl ⟨by omega, by omega⟩ ?_
        refine g14 hC rfl ?_
        refine hnext _ _ ⟨?_, rfl⟩
        rw [e2, if_pos (by by_cases z : V 47 k = 1; exact z; rw [if_neg z] at h11; omega)]; rfl
  refine g0 hC rfl ?_
  refine s1 hC rfl rfl rfl ?_
  refine g0 hC rfl ?_
  refine s2 hC rfl rfl rfl ?_
  exact l1 (nS V h) 0 (Nat.zero_add _) _ _ ⟨rfl, rfl⟩
def hasV (V : ax_M) (h : Nat) (a : Int) : Int := if a = 0 then nR V h else if a = 1 then nS V h else if a = 2 then nQ V h else if a = 3 then nC V h else if a = 4 then V 45 0 else if a = 5 then cnt (V 47) (nS V h) else if a = 6 then sumI (V 48) 28 else if a = 7 then V 122 0 else if a = 8 then V 49 2 else -1
theorem m104 (hF : Fix M) (hh : h = 9 ∨ h = 27) (hG : GG n h M) {a : Int} : ax_Ev L X SH 1 104 [(2, 0), (0, a)] M (R1 0 (fun x M' => x = hasV M h a ∧ M' = M)) := by
  show ax_G L X SH 1 104 0 [(2, 0), (0, a)] [] M _
  have hC := at104
  have hw := wX0
  have hwh : hok X0 h := hokB (by decide +kernel) hh
  have hS : Sb X0 M M := Sb.refl
  have hV : HV M h M := HV.refl
  have hH3 : M 0 3 = (h : Int) := hG.2.2.2.2.2.2.2.2.2.1.1
  have hW := hG.1
  have hSW := hG.2.1
  have e5 : sumI (M 47) 10 = cnt (M 47) (nS M h) := by
    rw [sum_cnt 10 hSW.2.2.1]
    have hb := hW.1.2.1.2
    have := cnt_ext (f := M 47) (n := nS M h) (10 - nS M h) (fun k h1 h2 => by rw [hG.2.2.2.2.2.2.2.2.2.2.2.2.1 k h1 (by omega)]; decide)
    rw [show nS M h + (10 - nS M h) = 10 by omega] at this
    exact this
  refine g3 hC rfl rfl ?_
  by_cases k1_0 : a = 0
  ·
    refine g15k (key := 0) (i' := 2) hC rfl rfl k1_0 rfl ?_
    refine g3 hC rfl rfl ?_
    refine g19 hC rfl rfl (Nat.le_of_ble_eq_true rfl) rfl ((hS _ _ rfl).trans hH3) ?_
    refine g19 hC rfl (shH hh) (Nat.le_of_ble_eq_true rfl) rfl (rd0 hS hwh hV hW) ?_
    refine ret1 hC rfl rfl ?_
    refine ⟨?_, rfl⟩; unfold hasV; rw [if_pos (by omega)]
  by_cases k1_1 : a = 1
  ·
    refine g15k (key := 1) (i' := 6) hC rfl rfl k1_1 rfl ?_
    refine g3 hC rfl rfl ?_
    refine g19 hC rfl rfl (Nat.le_of_ble_eq_true rfl) rfl ((hS _ _ rfl).trans hH3) ?_
    refine g19 hC rfl (shH hh) (Nat.le_of_ble_eq_true rfl) rfl (rd1 hS hwh hV hW) ?_
    refine ret1 hC rfl rfl ?_
    refine ⟨?_, rfl⟩; unfold hasV; rw [if_neg (by omega), if_pos (by omega)]
  by_cases k1_2 : a = 2
  ·
    refine g15k (key := 2) (i' := 10) hC rfl rfl k1_2 rfl ?_
    refine g3 hC rfl rfl ?_
    refine g19 hC rfl rfl (Nat.le_of_ble_eq_true rfl) rfl ((hS _ _ rfl).trans hH3) ?_
    refine g19 hC rfl (shH hh) (Nat.le_of_ble_eq_true rfl) rfl (rd2 hS hwh hV hW) ?_
    refine ret1 hC rfl rfl ?_
    refine ⟨?_, rfl⟩; unfold hasV; rw [if_neg (by omega), if_neg (by omega), if_pos (by omega)]
  by_cases k1_3 : a = 3
  ·
    refine g15k (key := 3) (i' := 14) hC rfl rfl k1_3 rfl ?_
    refine g3 hC rfl rfl ?_
    refine g19 hC rfl rfl (Nat.le_of_ble_eq_true rfl) rfl ((hS _ _ rfl).trans hH3) ?_
    refine g19 hC rfl (shH hh) (Nat.le_of_ble_eq_true rfl) rfl (rd3 hS hwh hV hW) ?_
    refine ret1 hC rfl rfl ?_
    refine ⟨?_, rfl⟩; unfold hasV; rw [if_neg (by omega), if_neg (by omega), if_neg (by omega), if_pos (by omega)]
  by_cases k1_4 : a = 4
  ·
    refine g15k (key := 4) (i' := 18) hC rfl rfl k1_4 rfl ?_
    refine g3 hC rfl rfl ?_
    refine g19 hC rfl rfl (Nat.le_of_ble_eq_true rfl) rfl ((hS.fix hw hF).g rfl) ?_
    refine g19 hC rfl rfl (Nat.le_of_ble_eq_true rfl) rfl rfl ?_
    refine ret1 hC rfl rfl ?_
    refine ⟨?_, rfl⟩; unfold hasV; rw [if_neg (by omega), if_neg (by omega), if_neg (by omega), if_neg (by omega), if_pos (by omega)]
  by_cases k1_5 : a = 5
  ·
    refine g15k (key := 5) (i' := 22) hC rfl rfl k1_5 rfl ?_
    refine g3 hC rfl rfl ?_
    refine g19 hC rfl rfl (Nat.le_of_ble_eq_true rfl) rfl ((hS.fix hw hF).g rfl) ?_
    refine c1 hC rfl rfl rfl (Nat.le_of_ble_eq_true rfl) (Nat.le_of_ble_eq_true rfl) rfl (m67 hF hSW.2.2.1) (Nat.le_of_ble_eq_true rfl) (fun x M2 hr => ?_)
    obtain ⟨rfl, hr⟩ := hr
    replace hr := hr.symm
    subst hr
    refine ret1 hC rfl rfl ?_
    refine ⟨?_, rfl⟩; unfold hasV; rw [if_neg (by omega), if_neg (by omega), if_neg (by omega), if_neg (by omega), if_neg (by omega), if_pos (by omega)]; exact e5
  by_cases k1_6 : a = 6
  ·
    refine g15k (key := 6) (i' := 26) hC rfl rfl k1_6 rfl ?_
    refine g3 hC rfl rfl ?_
    refine g19 hC rfl rfl (Nat.le_of_ble_eq_true rfl) rfl ((hS.fix hw hF).g rfl) ?_
    refine c1 hC rfl rfl rfl (Nat.le_of_ble_eq_true rfl) (Nat.le_of_ble_eq_true rfl) rfl (m68 hF hSW.2.2.2) (Nat.le_of_ble_eq_true rfl) (fun x M2 hr => ?_)
    obtain ⟨rfl, hr⟩ := hr
    replace hr := hr.symm
    subst hr
    refine ret1 hC rfl rfl ?_
    refine ⟨?_, rfl⟩; unfold hasV; rw [if_neg (by omega), if_neg (by omega), if_neg (by omega), if_neg (by omega), if_neg (by omega), if_neg (by omega), if_pos (by omega)]
  by_cases k1_7 : a = 7
  ·
    refine g15k (key := 7) (i' := 30) hC rfl rfl k1_7 rfl ?_
    refine g3 hC rfl rfl ?_
    refine g19 hC rfl rfl (Nat.le_of_ble_eq_true rfl) rfl ((hS.fix hw hF).g rfl) ?_
    refine g19 hC rfl sh122 (Nat.le_of_ble_eq_true rfl) rfl (hS 122 0 rfl) ?_
    refine ret1 hC rfl rfl ?_
    refine ⟨?_, rfl⟩; unfold hasV; rw [if_neg (by omega), if_neg (by omega), if_neg (by omega), if_neg (by omega), if_neg (by omega), if_neg (by omega), if_neg (by omega), if_pos (by omega)]
  by_cases k1_8 : a = 8
  ·
    refine g15k (key := 8) (i' := 34) hC rfl rfl k1_8 rfl ?_
    refine g3 hC rfl rfl ?_
    refine g19 hC rfl rfl (Nat.le_of_ble_eq_true rfl) rfl ((hS.fix hw hF).g rfl) ?_
    refine g19 hC rfl rfl (Nat.le_of_ble_eq_true rfl) rfl (hS 49 2 rfl) ?_
    refine ret1 hC rfl rfl ?_
    refine ⟨?_, rfl⟩; unfold hasV; rw [if_neg (by omega), if_neg (by omega), if_neg (by omega), if_neg (by omega), if_neg (by omega), if_neg (by omega), if_neg (by omega), if_neg (by omega), if_pos (by omega)]
  refine g15d (i' := 38) hC rfl rfl (by show ¬ ((0 : Int) ≤ _ ∧ _ ≤ (8 : Int)); omega) rfl ?_
  refine g0 hC rfl ?_
  refine ret1 hC rfl rfl ?_
  refine ⟨?_, rfl⟩; unfold hasV; rw [if_neg (by omega), if_neg (by omega), if_neg (by omega), if_neg (by omega), if_neg (by omega), if_neg (by omega), if_neg (by omega), if_neg (by omega), if_neg (by omega)]
theorem m217 (hF : Fix M) (hG : GG n h M) {a : Int} : ax_Ev L X SH 2 217 [(2, 142), (0, a)] M (R1 0 (fun x M' => x = hasV M h a ∧ M' = M)) := by
  show ax_G L X SH 2 217 0 [(2, 142), (0, a)] [] M _
  have hC := at217
  have hw := wX0
  have hwr := rX0
  have hS : Sb X0 M M := Sb.refl
  have hV := hG.2.2.2.1
  have hW := hG.1
  have hSW := hG.2.1
  have e7 : M 142 76 = M 122 0 := by rw [hG.2.2.2.2.2.2.2.2.1.1.2.2, ← hG.2.2.2.2.2.2.2.2.1.1.1]
  have e8 : M 142 82 = M 49 2 := by rw [hG.2.2.2.2.2.2.2.1.2.1.2.2, ← hG.2.2.2.2.2.2.2.1.2.1.1]
  have hp := hV.2.2.2.2.1.2.2.2
  have e6 := sum28 hp
  refine g3 hC rfl rfl ?_
  by_cases k1_0 : a = 0
  ·
    refine g15k (key := 0) (i' := 2) hC rfl rfl k1_0 rfl ?_
    refine g3 hC rfl rfl ?_
    refine c1 hC rfl rfl rfl (Nat.le_of_ble_eq_true rfl) (Nat.le_of_ble_eq_true rfl) (mayR k183 rfl) (m183 hF hV hW) (Nat.le_of_ble_eq_true rfl) (fun x M2 hr => ?_)
    obtain ⟨rfl, hr⟩ := hr
    replace hr := hr.symm
    subst hr
    refine ret1 hC rfl rfl ?_
    refine ⟨?_, rfl⟩; unfold hasV; rw [if_pos (by omega)]
  by_cases k1_1 : a = 1
  ·
    refine g15k (key := 1) (i' := 5) hC rfl rfl k1_1 rfl ?_
    refine g3 hC rfl rfl ?_
    refine c1 hC rfl rfl rfl (Nat.le_of_ble_eq_true rfl) (Nat.le_of_ble_eq_true rfl) (mayR k184 rfl) (m184 hF hV hW) (Nat.le_of_ble_eq_true rfl) (fun x M2 hr => ?_)
    obtain ⟨rfl, hr⟩ := hr
    replace hr := hr.symm
    subst hr
    refine ret1 hC rfl rfl ?_
    refine ⟨?_, rfl⟩; unfold hasV; rw [if_neg (by omega), if_pos (by omega)]
  by_cases k1_2 : a = 2
  ·
    refine g15k (key := 2) (i' := 8) hC rfl rfl k1_2 rfl ?_
    refine g3 hC rfl rfl ?_
    refine c1 hC rfl rfl rfl (Nat.le_of_ble_eq_true rfl) (Nat.le_of_ble_eq_true rfl) (mayR k185 rfl) (m185 hF hV hW) (Nat.le_of_ble_eq_true rfl) (fun x M2 hr => ?_)
    obtain ⟨rfl, hr⟩ := hr
    replace hr := hr.symm
    subst hr
    refine ret1 hC rfl rfl ?_
    refine ⟨?_, rfl⟩; unfold hasV; rw [if_neg (by omega), if_neg (by omega), if_pos (by omega)]
  by_cases k1_3 : a = 3
  ·
    refine g15k (key := 3) (i' := 11) hC rfl rfl k1_3 rfl ?_
    refine g3 hC rfl rfl ?_
    refine c1 hC rfl rfl rfl (Nat.le_of_ble_eq_true rfl) (Nat.le_of_ble_eq_true rfl) (mayR k186 rfl) (m186 hF hV hW) (Nat.le_of_ble_eq_true rfl) (fun x M2 hr => ?_)
    obtain ⟨rfl, hr⟩ := hr
    replace hr := hr.symm
    subst hr
    refine ret1 hC rfl rfl ?_
    refine ⟨?_, rfl⟩; unfold hasV; rw [if_neg (by omega), if_neg (by omega), if_neg (by omega), if_pos (by omega)]
  by_cases k1_4 : a = 4
  ·
    refine g15k (key := 4) (i' := 14) hC rfl rfl k1_4 rfl ?_
    refine g3 hC rfl rfl ?_
    refine g19 hC rfl sh142 (flt12 rfl) ft12_54 ((hS.fix hw hF).g fx_142_54) ?_
    refine g0 hC rfl ?_
    refine r21 (0) hC rfl (by omega) sh185 (Or.inl rfl) (by omega) (rmdr hS hwr hV hW) ?_
    refine ret1 hC rfl rfl ?_
    refine ⟨?_, rfl⟩; unfold hasV; rw [if_neg (by omega), if_neg (by omega), if_neg (by omega), if_neg (by omega), if_pos (by omega)]
  by_cases k1_5 : a = 5
  ·
    refine g15k (key := 5) (i' := 19) hC rfl rfl k1_5 rfl ?_
    refine g3 hC rfl rfl ?_
    refine c1 hC rfl rfl rfl (Nat.le_of_ble_eq_true rfl) (Nat.le_of_ble_eq_true rfl) (mayR k216 rfl) (m216 hF hV hW) (Nat.le_of_ble_eq_true rfl) (fun x M2 hr => ?_)
    obtain ⟨rfl, hr⟩ := hr
    replace hr := hr.symm
    subst hr
    refine ret1 hC rfl rfl ?_
    refine ⟨?_, rfl⟩; unfold hasV; rw [if_neg (by omega), if_neg (by omega), if_neg (by omega), if_neg (by omega), if_neg (by omega), if_pos (by omega)]
  by_cases k1_6 : a = 6
  ·
    refine g15k (key := 6) (i' := 22) hC rfl rfl k1_6 rfl ?_
    refine g3 hC rfl rfl ?_
    refine c1 hC rfl rfl rfl (Nat.le_of_ble_eq_true rfl) (Nat.le_of_ble_eq_true rfl) (mayR k195 rfl) (m195 hF (all28 hp (P := fun x => 0 ≤ x ∧ x ≤ 9999) hSW.2.2.2)) (Nat.le_of_ble_eq_true rfl) (fun x M2 hr => ?_)
    obtain ⟨rfl, hr⟩ := hr
    replace hr := hr.symm
    subst hr
    refine ret1 hC rfl rfl ?_
    refine ⟨?_, rfl⟩; unfold hasV; rw [if_neg (by omega), if_neg (by omega), if_neg (by omega), if_neg (by omega), if_neg (by omega), if_neg (by omega), if_pos (by omega)]; exact e6
  by_cases k1_7 : a = 7
  ·
    refine g15k (key := 7) (i' := 25) hC rfl rfl k1_7 rfl ?_
    refine g3 hC rfl rfl ?_
    refine g19 hC rfl sh142 (flt12 rfl) ft12_76 e7 ?_
    refine ret1 hC rfl rfl ?_
    refine ⟨?_, rfl⟩; unfold hasV; rw [if_neg (by omega), if_neg (by omega), if_neg (by omega), if_neg (by omega), if_neg (by omega), if_neg (by omega), if_neg (by omega), if_pos (by omega)]
  by_cases k1_8 : a = 8
  ·
    refine g15k (key := 8) (i' := 28) hC rfl rfl k1_8 rfl ?_
    refine g3 hC rfl rfl ?_
    refine g19 hC rfl sh142 (flt12 rfl) ft12_82 e8 ?_
    refine ret1 hC rfl rfl ?_
    refine ⟨?_, rfl⟩; unfold hasV; rw [if_neg (by omega), if_neg (by omega), if_neg (by omega), if_neg (by omega), if_neg (by omega), if_neg (by omega), if_neg (by omega), if_neg (by omega), if_pos (by omega)]
  refine g15d (i' := 31) hC rfl rfl (by show ¬ ((0 : Int) ≤ _ ∧ _ ≤ (8 : Int)); omega) rfl ?_
  refine g0 hC rfl ?_
  refine ret1 hC rfl rfl ?_
  refine ⟨?_, rfl⟩; unfold hasV; rw [if_neg (by omega), if_neg (by omega), if_neg (by omega), if_neg (by omega), if_neg (by omega), if_neg (by omega), if_neg (by omega), if_neg (by omega), if_neg (by omega)]
theorem op4 (hR : Rel n M) {a : Int} : OP L X n 0 104 217 [(2, 0), (0, a)] [(2, 142), (0, a)] M := by
  have hR0 := hR
  obtain ⟨h, hh, hF, hG⟩ := hR
  have hG0 := hG
  obtain ⟨hW, hSW, hPW, hRV, hGT, hGN, hGM, hGH, hGS, hGX⟩ := hG
  have hV : HV M h M := HV.refl
  have hH3 : M 0 3 = (h : Int) := hGX.1.1
  exact OP.ro hR0 (m104 hF hh hG0) (m217 hF hG0) (by decide) (by decide)
theorem pO_lt {a b : Nat} (hab : a < b) (hb : b < 8) : pO a b < 28 := by
  have : b = 0 ∨ b = 1 ∨ b = 2 ∨ b = 3 ∨ b = 4 ∨ b = 5 ∨ b = 6 ∨ b = 7 := by omega
  unfold pO
  rcases this with rfl | rfl | rfl | rfl | rfl | rfl | rfl | rfl <;> omega
theorem pA_lt {a b : Nat} (hab : a < b) (hb : b < 8) : pA a b < 28 := by
  have : a = 0 ∨ a = 1 ∨ a = 2 ∨ a = 3 ∨ a = 4 ∨ a = 5 ∨ a = 6 ∨ a = 7 := by omega
  unfold pA
  rcases this with rfl | rfl | rfl | rfl | rfl | rfl | rfl | rfl <;> omega
def pQ (a b : Nat) : Nat := if a < b then pO a b else pO b a
def pB (a b : Nat) : Nat := if a < b then pA a b else pA b a
theorem pQ_lt {a b : Nat} (h : a ≠ b) (ha : a < 8) (hb : b < 8) : pQ a b < 28 := by
  unfold pQ; split
  · exact pO_lt (by omega) hb
  · exact pO_lt (by omega) ha
theorem pB_lt {a b : Nat} (h : a ≠ b) (ha : a < 8) (hb : b < 8) : pB a b < 28 := by
  unfold pB; split
  · exact pA_lt (by omega) hb
  · exact pA_lt (by omega) ha
theorem m66 {a b : Nat} (ha : a < 8) (hb : b < 8) : ax_Ev L X SH 1 66 [(0, (a : Int)), (0, (b : Int))] M (R1 0 (fun x M' => x = (pQ a b : Int) ∧ M' = M)) := by
  show ax_G L X SH 1 66 0 [(0, (a : Int)), (0, (b : Int)), (3, 0), (3, 0)] [] M _
  have hC := at66
  have key : ∀ lo hi : Nat, hi < 8 → lo < 8 → max (a : Int) (b : Int) = (hi : Int) → min (a : Int) (b : Int) = (lo : Int) → pQ a b = pO lo hi → ax_G L X SH 1 66 0 [(0, (a : Int)), (0, (b : Int)), (3, 0), (3, 0)] [] M (R1 0 (fun x M' => x = (pQ a b : Int) ∧ M' = M)) := by
    intro lo hi h1 h2 e1 e2 e3
    have hm : hi * (hi - 1) ≤ 7 * 6 := Nat.mul_le_mul (by omega) (by omega)
    have ec : (hi : Int) * ((hi : Int) - 1) = ((hi * (hi - 1) : Nat) : Int) := by
      cases hi with
      | zero => rfl
      | succ q => rw [Int.natCast_mul, Nat.add_sub_cancel, Int.natCast_add]; congr 1; simp
    refine g3 hC rfl rfl ?_
    refine g3 hC rfl rfl ?_
    refine c1 hC rfl rfl rfl (Nat.le_of_ble_eq_true rfl) (Nat.le_of_ble_eq_true rfl) rfl (m306) (Nat.le_of_ble_eq_true rfl) (fun x M2 hr => ?_)
    obtain ⟨rfl, hr⟩ := hr; replace hr := hr.symm; subst hr; rw [e2]
    refine s2 hC rfl rfl rfl ?_
    refine g3 hC rfl rfl ?_
    refine g3 hC rfl rfl ?_
    refine c1 hC rfl rfl rfl (Nat.le_of_ble_eq_true rfl) (Nat.le_of_ble_eq_true rfl) rfl (m304) (Nat.le_of_ble_eq_true rfl) (fun x M2 hr => ?_)
    obtain ⟨rfl, hr⟩ := hr; replace hr := hr.symm; subst hr; rw [e1]
    refine s3 hC rfl rfl rfl ?_
    refine g3 hC rfl rfl ?_
    refine g3 hC rfl rfl ?_
    refine g0 hC rfl ?_
    refine g6s hC rfl ⟨by omega, by omega⟩ ?_
    refine g6m hC rfl (by rw [ec]; exact ⟨by omega, by omega⟩) ?_
    rw [ec]
    refine g0 hC rfl ?_
    refine g6dN (a := hi * (hi - 1)) (b := 2) hC rfl rfl rfl (by decide) (by omega) ?_
    refine g3 hC rfl rfl ?_
    refine g6a hC rfl ⟨by omega, by omega⟩ ?_
    refine ret1 hC rfl rfl ?_
    refine ⟨?_, rfl⟩
    rw [e3]; unfold pO; omega
  by_cases z : a < b
  · exact key a b hb ha (by rw [Int.max_def, if_pos (by omega)]) (by rw [Int.min_def, if_pos (by omega)]) (by unfold pQ; rw [if_pos z])
  · exact key b a ha hb (by rw [Int.max_def]; split <;> omega) (by rw [Int.min_def]; split <;> omega) (by unfold pQ; rw [if_neg z])
theorem m193 {a b : Nat} (hab : a ≠ b) (ha : a < 8) (hb : b < 8) : ax_Ev L X SH 1 193 [(0, (a : Int)), (0, (b : Int))] M (R1 0 (fun x M' => x = ((16 + pB a b : Nat) : Int) ∧ M' = M)) := by
  show ax_G L X SH 1 193 0 [(0, (a : Int)), (0, (b : Int)), (3, 0), (3, 0)] [] M _
  have hC := at193
  have ec : ∀ lo : Nat, lo < 8 → (lo : Int) * (15 - (lo : Int)) = ((lo * (15 - lo) : Nat) : Int) := by
    intro lo hl
    rw [Int.natCast_mul]; congr 1; omega
  have hm : ∀ lo : Nat, lo < 8 → lo * (15 - lo) ≤ 7 * 15 := fun lo hl => Nat.mul_le_mul (by omega) (by omega)
  have fin : ∀ lo hi : Nat, lo < hi → hi < 8 → (16 : Int) + ((lo * (15 - lo) / 2 : Nat) : Int) + (hi : Int) - (lo : Int) - 1 = ((16 + pA lo hi : Nat) : Int) := by
    intro lo hi h1 h2
    unfold pA
    omega
  have ea := ec a ha
  have eb := ec b hb
  have ma := hm a ha
  have mb := hm b hb
  refine g3 hC rfl rfl ?_
  refine g3 hC rfl rfl ?_
  refine g13g hC rfl (fun h2 => ?_) (fun h2 => ?_)
  ·
    refine g3 hC rfl rfl ?_
    refine s2 hC rfl rfl rfl ?_
    refine g3 hC rfl rfl ?_
    refine g3 hC rfl rfl ?_
    refine g13g hC rfl (fun h9 => ?_) (fun h9 => ?_)
    ·
      refine g3 hC rfl rfl ?_
      refine s3 hC rfl rfl rfl ?_
      refine g0 hC rfl ?_
      refine g3 hC rfl rfl ?_
      refine g0 hC rfl ?_
      refine g3 hC rfl rfl ?_
      refine g6s hC rfl ⟨by omega, by omega⟩ ?_
      first | (refine g6m hC rfl (by rw [ea]; exact ⟨by omega, by omega⟩) ?_; rw [ea]; refine g0 hC rfl ?_; refine g6dN (a := a * (15 - a)) (b := 2) hC rfl rfl rfl (by decide) (by omega) ?_) | (refine g6m hC rfl (by rw [eb]; exact ⟨by omega, by omega⟩) ?_; rw [eb]; refine g0 hC rfl ?_; refine g6dN (a := b * (15 - b)) (b := 2) hC rfl rfl rfl (by decide) (by omega) ?_)
      skip
      skip
      refine g6a hC rfl ⟨by omega, by omega⟩ ?_
      refine g3 hC rfl rfl ?_
      refine g6a hC rfl ⟨by omega, by omega⟩ ?_
      refine g3 hC rfl rfl ?_
      refine g6s hC rfl ⟨by omega, by omega⟩ ?_
      refine g0 hC rfl ?_
      refine g6s hC rfl ⟨by omega, by omega⟩ ?_
      refine ret1 hC rfl rfl ?_
      refine ⟨?_, rfl⟩
      unfold pB; rw [if_neg (by omega)]; exact fin b a (by omega) ha
    ·
      refine g3 hC rfl rfl ?_
      refine g14 hC rfl ?_
      refine s3 hC rfl rfl rfl ?_
      refine g0 hC rfl ?_
      refine g3 hC rfl rfl ?_
      refine g0 hC rfl ?_
      refine g3 hC rfl rfl ?_
      refine g6s hC rfl ⟨by omega, by omega⟩ ?_
      first | (refine g6m hC rfl (by rw [ea]; exact ⟨by omega, by omega⟩) ?_; rw [ea]; refine g0 hC rfl ?_; refine g6dN (a := a * (15 - a)) (b := 2) hC rfl rfl rfl (by decide) (by omega) ?_) | (refine g6m hC rfl (by rw [eb]; exact ⟨by omega, by omega⟩) ?_; rw [eb]; refine g0 hC rfl ?_; refine g6dN (a := b * (15 - b)) (b := 2) hC rfl rfl rfl (by decide) (by omega) ?_)
      skip
      skip
      refine g6a hC rfl ⟨by omega, by omega⟩ ?_
      refine g3 hC rfl rfl ?_
      refine g6a hC rfl ⟨by omega, by omega⟩ ?_
      refine g3 hC rfl rfl ?_
      refine g6s hC rfl ⟨by omega, by omega⟩ ?_
      refine g0 hC rfl ?_
      refine g6s hC rfl ⟨by omega, by omega⟩ ?_
      refine ret1 hC rfl rfl ?_
      exfalso; omega
  ·
    refine g3 hC rfl rfl ?_
    refine g14 hC rfl ?_
    refine s2 hC rfl rfl rfl ?_
    refine g3 hC rfl rfl ?_
    refine g3 hC rfl rfl ?_
    refine g13g hC rfl (fun h9 => ?_) (fun h9 => ?_)
    ·
      refine g3 hC rfl rfl ?_
      refine s3 hC rfl rfl rfl ?_
      refine g0 hC rfl ?_
      refine g3 hC rfl rfl ?_
      refine g0 hC rfl ?_
      refine g3 hC rfl rfl ?_
      refine g6s hC rfl ⟨by omega, by omega⟩ ?_
      first | (refine g6m hC rfl (by rw [ea]; exact ⟨by omega, by omega⟩) ?_; rw [ea]; refine g0 hC rfl ?_; refine g6dN (a := a * (15 - a)) (b := 2) hC rfl rfl rfl (by decide) (by omega) ?_) | (refine g6m hC rfl (by rw [eb]; exact ⟨by omega, by omega⟩) ?_; rw [eb]; refine g0 hC rfl ?_; refine g6dN (a := b * (15 - b)) (b := 2) hC rfl rfl rfl (by decide) (by omega) ?_)
      skip
      skip
      refine g6a hC rfl ⟨by omega, by omega⟩ ?_
      refine g3 hC rfl rfl ?_
      refine g6a hC rfl ⟨by omega, by omega⟩ ?_
      refine g3 hC rfl rfl ?_
      refine g6s hC rfl ⟨by omega, by omega⟩ ?_
      refine g0 hC rfl ?_
      refine g6s hC rfl ⟨by omega, by omega⟩ ?_
      refine ret1 hC rfl rfl ?_
      exfalso; omega
    ·
      refine g3 hC rfl rfl ?_
      refine g14 hC rfl ?_
      refine s3 hC rfl rfl rfl ?_
      refine g0 hC rfl ?_
      refine g3 hC rfl rfl ?_
      refine g0 hC rfl ?_
      refine g3 hC rfl rfl ?_
      refine g6s hC rfl ⟨by omega, by omega⟩ ?_
      first | (refine g6m hC rfl (by rw [ea]; exact ⟨by omega, by omega⟩) ?_; rw [ea]; refine g0 hC rfl ?_; refine g6dN (a := a * (15 - a)) (b := 2) hC rfl rfl rfl (by decide) (by omega) ?_) | (refine g6m hC rfl (by rw [eb]; exact ⟨by omega, by omega⟩) ?_; rw [eb]; refine g0 hC rfl ?_; refine g6dN (a := b * (15 - b)) (b := 2) hC rfl rfl rfl (by decide) (by omega) ?_)
      skip
      skip
      refine g6a hC rfl ⟨by omega, by omega⟩ ?_
      refine g3 hC rfl rfl ?_
      refine g6a hC rfl ⟨by omega, by omega⟩ ?_
      refine g3 hC rfl rfl ?_
      refine g6s hC rfl ⟨by omega, by omega⟩ ?_
      refine g0 hC rfl ?_
      refine g6s hC rfl ⟨by omega, by omega⟩ ?_
      refine ret1 hC rfl rfl ?_
      refine ⟨?_, rfl⟩
      unfold pB; rw [if_pos (by omega)]; exact fin a b (by omega) hb
end SMC
