section CHS
variable {L : Nat} {X : Nat → Int} {M : ax_M} {h n : Nat} {s : HS}
def CHt (h : Nat) (v : Vc (Nat × Nat × Int)) (M : ax_M) : Prop := ∀ k, k < v.1 → M (h + 4) k = ((v.2 k).1 : Int) ∧ M (h + 5) k = ((v.2 k).2.1 : Int) ∧ M (h + 6) k = (v.2 k).2.2
theorem shn4 (hh : h = 9 ∨ h = 27) : SH[h + 4]? = some (1, 0, 10) ∧ SH[h + 5]? = some (1, 0, 10) ∧ SH[h + 6]? = some (1, 0, 10) := by
  rcases hh with rfl | rfl <;> decide +kernel
theorem m38s (hF : Fix M) (hh : h = 9 ∨ h = 27) {k : Nat} (hk : k < 10) {r : Int} : ax_Ev L X SH 0 38 [(2, (h : Int)), (0, (k : Int)), (0, r)] M (R1 0 (fun x M' => M' = M ∧ x = (if M (h + 4) k = r then M (h + 5) k else if M (h + 5) k = r then M (h + 4) k else -1))) := by
  show ax_G L X SH 0 38 0 [(2, (h : Int)), (0, (k : Int)), (0, r)] [] M _
  have hC := at38
  have hw := wX0
  have hS : Sb X0 M M := Sb.refl
  have sh := shn4 hh
  refine g3 hC rfl rfl ?_
  refine g19 hC rfl (shH hh) (Nat.le_of_ble_eq_true rfl) rfl ((hS.fix hw hF).h (v := 4) hh rfl rfl) ?_
  refine g3 hC rfl rfl ?_
  refine r21 (k) hC rfl rfl sh.1 (Or.inl rfl) (by omega) rfl ?_
  refine g3 hC rfl rfl ?_
  refine g13n hC rfl (fun h5 => ?_) (fun h5 => ?_)
  ·
    refine g3 hC rfl rfl ?_
    refine g19 hC rfl (shH hh) (Nat.le_of_ble_eq_true rfl) rfl ((hS.fix hw hF).h (v := 5) hh rfl rfl) ?_
    refine g3 hC rfl rfl ?_
    refine r21 (k) hC rfl rfl sh.2.1 (Or.inl rfl) (by omega) rfl ?_
    refine g3 hC rfl rfl ?_
    refine g13n hC rfl (fun h16 => ?_) (fun h16 => ?_)
    ·
      refine g0 hC rfl ?_
      refine ret1 hC rfl rfl ?_
      exact ⟨rfl, by rw [if_neg h5, if_neg h16]⟩
    ·
      refine g3 hC rfl rfl ?_
      refine g19 hC rfl (shH hh) (Nat.le_of_ble_eq_true rfl) rfl ((hS.fix hw hF).h (v := 4) hh rfl rfl) ?_
      refine g3 hC rfl rfl ?_
      refine r21 (k) hC rfl rfl sh.1 (Or.inl rfl) (by omega) rfl ?_
      refine g14 hC rfl ?_
      refine ret1 hC rfl rfl ?_
      exact ⟨rfl, by rw [if_neg h5, if_pos (by omega)]⟩
  ·
    refine g3 hC rfl rfl ?_
    refine g19 hC rfl (shH hh) (Nat.le_of_ble_eq_true rfl) rfl ((hS.fix hw hF).h (v := 5) hh rfl rfl) ?_
    refine g3 hC rfl rfl ?_
    refine r21 (k) hC rfl rfl sh.2.1 (Or.inl rfl) (by omega) rfl ?_
    refine ret1 hC rfl rfl ?_
    exact ⟨rfl, by rw [if_pos (by omega)]⟩
theorem m37 (hF : Fix M) (hh : h = 9 ∨ h = 27) {v : Vc (Nat × Nat × Int)} (hv : M h 1 = (v.1 : Int)) (hb : v.1 ≤ 10) (ht : CHt h v M) {a b : Nat} (hab : a ≠ b) : ax_Ev L X SH 1 37 [(2, (h : Int)), (0, (a : Int)), (0, (b : Int))] M (R1 0 (fun x M' => M' = M ∧ x = (if hasS v a b = true then 1 else 0))) := by
  show ax_G L X SH 1 37 0 [(2, (h : Int)), (0, (a : Int)), (0, (b : Int)), (3, 0)] [] M _
  have hC := at37
  have hw := wX0
  have key : ∀ k, k < v.1 → ((if M (h + 4) k = (a : Int) then M (h + 5) k else if M (h + 5) k = (a : Int) then M (h + 4) k else -1) = (b : Int) ↔ (((v.2 k).1 == a && (v.2 k).2.1 == b) || ((v.2 k).1 == b && (v.2 k).2.1 == a)) = true) := by
    intro k hk
    obtain ⟨t1, t2, -⟩ := ht k hk
    rw [t1, t2, Bool.or_eq_true, Bool.and_eq_true, Bool.and_eq_true, beq_iff_eq, beq_iff_eq, beq_iff_eq, beq_iff_eq]
    constructor
    · intro w
      split at w
      · left; omega
      · split at w
        · right; omega
        · omega
    · rintro (w | w)
      · rw [if_pos (by omega)]; omega
      · rw [if_neg (by omega), if_pos (by omega)]; omega
  have l1 : ∀ (m k : Nat), k + m = v.1 → ∀ ll M1, (ll = [(2, (h : Int)), (0, (a : Int)), (0, (b : Int)), (0, (k : Int))] ∧ M1 = M ∧ ∀ i, i < k → ¬ (((v.2 i).1 == a && (v.2 i).2.1 == b) || ((v.2 i).1 == b && (v.2 i).2.1 == a)) = true) → ax_G L X SH 1 37 2 ll [] M1 (R1 0 (fun x M' => M' = M ∧ x = (if hasS v a b = true then 1 else 0))) := by
    refine lp ?_ ?_
    · rintro ll M1 ⟨rfl, rfl, e1⟩
      have hS : Sb X0 M1 M1 := Sb.refl
      have hz : ¬ hasS v a b = true := by
        intro w
        unfold hasS at w
        obtain ⟨i, hi, w⟩ := List.any_eq_true.mp w
        exact e1 i (List.mem_range.mp hi) w
      refine g3 hC rfl rfl ?_
      refine g3 hC rfl rfl ?_
      refine g19 hC rfl (shH hh) (Nat.le_of_ble_eq_true rfl) rfl hv ?_
      refine g13g hC rfl (fun h5 => ?_) (fun h5 => (by omega))
      refine g0 hC rfl ?_
      refine ret3 hC rfl ⟨by omega, by omega⟩ ?_
      exact ⟨rfl, by rw [if_neg hz]⟩
    · rintro k hk ll M1 ⟨rfl, rfl, e1⟩ hnext
      have hS : Sb X0 M1 M1 := Sb.refl
      refine g3 hC rfl rfl ?_
      refine g3 hC rfl rfl ?_
      refine g19 hC rfl (shH hh) (Nat.le_of_ble_eq_true rfl) rfl hv ?_
      refine g13g hC rfl (fun h5 => (by omega)) (fun h5 => ?_)
      refine g3 hC rfl rfl ?_
      refine g3 hC rfl rfl ?_
      refine g3 hC rfl rfl ?_
      refine c1 hC rfl rfl rfl (Nat.le_of_ble_eq_true rfl) (Nat.le_of_ble_eq_true rfl) (mayH hh rfl rfl) (m38s hF hh (show k < 10 by omega)) (Nat.le_of_ble_eq_true rfl) (fun y M2 hr => ?_)
      obtain ⟨hr, hy⟩ := hr; replace hr := hr.symm; subst hr; rw [hy]
      refine g3 hC rfl rfl ?_
      refine g13n hC rfl (fun h11 => ?_) (fun h11 => ?_)
      ·
        refine n3 hC rfl rfl ⟨by omega, by omega⟩ ?_
        refine g14 hC rfl ?_
        refine hnext _ _ ⟨rfl, rfl, fun i hi => ?_⟩
        by_cases z : i = k
        · rw [z]; exact fun w => h11 ((key k hk).2 w)
        · exact e1 i (by omega)
      ·
        refine g0 hC rfl ?_
        refine ret3 hC rfl ⟨by omega, by omega⟩ ?_
        have hz : hasS v a b = true := List.any_eq_true.mpr ⟨k, List.mem_range.mpr hk, (key k hk).1 (Classical.not_not.mp h11)⟩
        exact ⟨rfl, by rw [if_pos hz]⟩
  refine g0 hC rfl ?_
  refine s3 hC rfl rfl rfl ?_
  exact l1 v.1 0 (Nat.zero_add _) _ _ ⟨rfl, rfl, fun i hi => absurd hi (Nat.not_lt_zero i)⟩
end CHS
