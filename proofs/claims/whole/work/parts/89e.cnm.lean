section CNM
variable {L : Nat} {X : Nat → Int} {M : ax_M} {h : Nat} {s : HS}
def CHn (h : Nat) (s : HS) (M : ax_M) : Prop := ((M h 0 = (s.1.1 : Int) ∧ s.1.1 ≤ 8) ∧ (M h 1 = (s.2.1.1 : Int) ∧ s.2.1.1 ≤ 10) ∧ (M h 2 = (s.2.2.1.1 : Int) ∧ s.2.2.1.1 ≤ 5) ∧ (M h 3 = (s.2.2.2.1.1 : Int) ∧ s.2.2.2.1.1 ≤ 8)) ∧ (∀ k, k < s.1.1 → M (h + 1) k = (ncm (s.1.2 k) : Int)) ∧ (∀ k, k < s.2.2.1.1 → M (h + 2) k = (ncm (s.2.2.1.2 k).1 : Int)) ∧ ∀ k, k < s.2.2.2.1.1 → M (h + 3) k = (ncm (s.2.2.2.1.2 k).1 : Int)
theorem shn1 (hh : h = 9 ∨ h = 27) : SH[h + 1]? = some (1, 0, 8) ∧ SH[h + 2]? = some (1, 0, 5) ∧ SH[h + 3]? = some (1, 0, 8) := by
  rcases hh with rfl | rfl <;> decide +kernel
theorem m36 (hF : Fix M) (hh : h = 9 ∨ h = 27) (hN : CHn h s M) {x : Nm} : ax_Ev L X SH 1 36 [(2, (h : Int)), (0, (ncm x : Int))] M (R1 0 (fun y M' => M' = M ∧ y = (if nmd s x = true then 1 else 0))) := by
  show ax_G L X SH 1 36 0 [(2, (h : Int)), (0, (ncm x : Int))] [] M _
  have hC := at36
  have hw := wX0
  have hS : Sb X0 M M := Sb.refl
  have sh := shn1 hh
  have e0 := hN.1.1.1
  have e2 := hN.1.2.2.1.1
  have e3 := hN.1.2.2.2.1
  have b0 := hN.1.1.2
  have b2 := hN.1.2.2.1.2
  have b3 := hN.1.2.2.2.2
  have c1' := m35 (L := L) (X := X) (M := M) sh.1 (n := s.1.1) (by omega) (by decide) (x := (ncm x : Int))
  have c2' := m35 (L := L) (X := X) (M := M) sh.2.1 (n := s.2.2.1.1) (by omega) (by decide) (x := (ncm x : Int))
  have c3' := m35 (L := L) (X := X) (M := M) sh.2.2 (n := s.2.2.2.1.1) (by omega) (by decide) (x := (ncm x : Int))
  have a1 := fun y => At1_nc (y := y) (x := x) hN.2.1
  have a2 := fun y => At1_nc (f := fun k => (s.2.2.1.2 k).1) (y := y) (x := x) hN.2.2.1
  have a3 := fun y => At1_nc (f := fun k => (s.2.2.2.1.2 k).1) (y := y) (x := x) hN.2.2.2
  unfold nmd
  cases f1 : fdN s.1.2 x s.1.1 with
  | some k =>
    rw [f1] at a1
    refine g3 hC rfl rfl ?_
    refine g19 hC rfl (shH hh) (Nat.le_of_ble_eq_true rfl) rfl ((hS.fix hw hF).h (v := 1) hh rfl rfl) ?_
    refine g3 hC rfl rfl ?_
    refine g19 hC rfl (shH hh) (Nat.le_of_ble_eq_true rfl) rfl e0 ?_
    refine g3 hC rfl rfl ?_
    refine c1 hC rfl rfl rfl (Nat.le_of_ble_eq_true rfl) (Nat.le_of_ble_eq_true rfl) rfl c1' (Nat.le_of_ble_eq_true rfl) (fun y M2 hr => ?_)
    obtain ⟨hr, hy⟩ := hr; replace hr := hr.symm; subst hr; have hy : y = (k : Int) := a1 y hy
    refine g0 hC rfl ?_
    refine g13n hC rfl (fun h7 => ?_) (fun h7 => (by omega))
    refine g0 hC rfl ?_
    refine g14 hC rfl ?_
    refine ret3 hC rfl ⟨by omega, by omega⟩ ?_
    exact ⟨rfl, rfl⟩
  | none =>
    rw [f1] at a1
    cases f2 : fdN (fun k => (s.2.2.1.2 k).1) x s.2.2.1.1 with
    | some k =>
      rw [f2] at a2
      refine g3 hC rfl rfl ?_
      refine g19 hC rfl (shH hh) (Nat.le_of_ble_eq_true rfl) rfl ((hS.fix hw hF).h (v := 1) hh rfl rfl) ?_
      refine g3 hC rfl rfl ?_
      refine g19 hC rfl (shH hh) (Nat.le_of_ble_eq_true rfl) rfl e0 ?_
      refine g3 hC rfl rfl ?_
      refine c1 hC rfl rfl rfl (Nat.le_of_ble_eq_true rfl) (Nat.le_of_ble_eq_true rfl) rfl c1' (Nat.le_of_ble_eq_true rfl) (fun y M2 hr => ?_)
      obtain ⟨hr, hy⟩ := hr; replace hr := hr.symm; subst hr; have hy := a1 y hy; dsimp only at hy
      refine g0 hC rfl ?_
      refine g13n hC rfl (fun h7 => (by omega)) (fun h7 => ?_)
      refine g3 hC rfl rfl ?_
      refine g19 hC rfl (shH hh) (Nat.le_of_ble_eq_true rfl) rfl ((hS.fix hw hF).h (v := 2) hh rfl rfl) ?_
      refine g3 hC rfl rfl ?_
      refine g19 hC rfl (shH hh) (Nat.le_of_ble_eq_true rfl) rfl e2 ?_
      refine g3 hC rfl rfl ?_
      refine c1 hC rfl rfl rfl (Nat.le_of_ble_eq_true rfl) (Nat.le_of_ble_eq_true rfl) rfl c2' (Nat.le_of_ble_eq_true rfl) (fun y M2 hr => ?_)
      obtain ⟨hr, hy⟩ := hr; replace hr := hr.symm; subst hr; have hy : y = (k : Int) := a2 y hy
      refine g0 hC rfl ?_
      refine g13n hC rfl (fun h15 => ?_) (fun h15 => (by omega))
      refine g0 hC rfl ?_
      refine g14 hC rfl ?_
      refine ret3 hC rfl ⟨by omega, by omega⟩ ?_
      exact ⟨rfl, rfl⟩
    | none =>
      rw [f2] at a2
      cases f3 : fdN (fun k => (s.2.2.2.1.2 k).1) x s.2.2.2.1.1 with
      | some k =>
        rw [f3] at a3
        refine g3 hC rfl rfl ?_
        refine g19 hC rfl (shH hh) (Nat.le_of_ble_eq_true rfl) rfl ((hS.fix hw hF).h (v := 1) hh rfl rfl) ?_
        refine g3 hC rfl rfl ?_
        refine g19 hC rfl (shH hh) (Nat.le_of_ble_eq_true rfl) rfl e0 ?_
        refine g3 hC rfl rfl ?_
        refine c1 hC rfl rfl rfl (Nat.le_of_ble_eq_true rfl) (Nat.le_of_ble_eq_true rfl) rfl c1' (Nat.le_of_ble_eq_true rfl) (fun y M2 hr => ?_)
        obtain ⟨hr, hy⟩ := hr; replace hr := hr.symm; subst hr; have hy := a1 y hy; dsimp only at hy
        refine g0 hC rfl ?_
        refine g13n hC rfl (fun h7 => (by omega)) (fun h7 => ?_)
        refine g3 hC rfl rfl ?_
        refine g19 hC rfl (shH hh) (Nat.le_of_ble_eq_true rfl) rfl ((hS.fix hw hF).h (v := 2) hh rfl rfl) ?_
        refine g3 hC rfl rfl ?_
        refine g19 hC rfl (shH hh) (Nat.le_of_ble_eq_true rfl) rfl e2 ?_
        refine g3 hC rfl rfl ?_
        refine c1 hC rfl rfl rfl (Nat.le_of_ble_eq_true rfl) (Nat.le_of_ble_eq_true rfl) rfl c2' (Nat.le_of_ble_eq_true rfl) (fun y M2 hr => ?_)
        obtain ⟨hr, hy⟩ := hr; replace hr := hr.symm; subst hr; have hy := a2 y hy; dsimp only at hy
        refine g0 hC rfl ?_
        refine g13n hC rfl (fun h15 => (by omega)) (fun h15 => ?_)
        refine g3 hC rfl rfl ?_
        refine g19 hC rfl (shH hh) (Nat.le_of_ble_eq_true rfl) rfl ((hS.fix hw hF).h (v := 3) hh rfl rfl) ?_
        refine g3 hC rfl rfl ?_
        refine g19 hC rfl (shH hh) (Nat.le_of_ble_eq_true rfl) rfl e3 ?_
        refine g3 hC rfl rfl ?_
        refine c1 hC rfl rfl rfl (Nat.le_of_ble_eq_true rfl) (Nat.le_of_ble_eq_true rfl) rfl c3' (Nat.le_of_ble_eq_true rfl) (fun y M2 hr => ?_)
        obtain ⟨hr, hy⟩ := hr; replace hr := hr.symm; subst hr; have hy : y = (k : Int) := a3 y hy
        refine g0 hC rfl ?_
        refine g13e hC rfl (fun h23 => (by omega)) (fun h23 => ?_)
        refine g0 hC rfl ?_
        refine g14 hC rfl ?_
        refine ret3 hC rfl ⟨by omega, by omega⟩ ?_
        exact ⟨rfl, rfl⟩
      | none =>
        rw [f3] at a3
        refine g3 hC rfl rfl ?_
        refine g19 hC rfl (shH hh) (Nat.le_of_ble_eq_true rfl) rfl ((hS.fix hw hF).h (v := 1) hh rfl rfl) ?_
        refine g3 hC rfl rfl ?_
        refine g19 hC rfl (shH hh) (Nat.le_of_ble_eq_true rfl) rfl e0 ?_
        refine g3 hC rfl rfl ?_
        refine c1 hC rfl rfl rfl (Nat.le_of_ble_eq_true rfl) (Nat.le_of_ble_eq_true rfl) rfl c1' (Nat.le_of_ble_eq_true rfl) (fun y M2 hr => ?_)
        obtain ⟨hr, hy⟩ := hr; replace hr := hr.symm; subst hr; have hy := a1 y hy; dsimp only at hy
        refine g0 hC rfl ?_
        refine g13n hC rfl (fun h7 => (by omega)) (fun h7 => ?_)
        refine g3 hC rfl rfl ?_
        refine g19 hC rfl (shH hh) (Nat.le_of_ble_eq_true rfl) rfl ((hS.fix hw hF).h (v := 2) hh rfl rfl) ?_
        refine g3 hC rfl rfl ?_
        refine g19 hC rfl (shH hh) (Nat.le_of_ble_eq_true rfl) rfl e2 ?_
        refine g3 hC rfl rfl ?_
        refine c1 hC rfl rfl rfl (Nat.le_of_ble_eq_true rfl) (Nat.le_of_ble_eq_true rfl) rfl c2' (Nat.le_of_ble_eq_true rfl) (fun y M2 hr => ?_)
        obtain ⟨hr, hy⟩ := hr; replace hr := hr.symm; subst hr; have hy := a2 y hy; dsimp only at hy
        refine g0 hC rfl ?_
        refine g13n hC rfl (fun h15 => (by omega)) (fun h15 => ?_)
        refine g3 hC rfl rfl ?_
        refine g19 hC rfl (shH hh) (Nat.le_of_ble_eq_true rfl) rfl ((hS.fix hw hF).h (v := 3) hh rfl rfl) ?_
        refine g3 hC rfl rfl ?_
        refine g19 hC rfl (shH hh) (Nat.le_of_ble_eq_true rfl) rfl e3 ?_
        refine g3 hC rfl rfl ?_
        refine c1 hC rfl rfl rfl (Nat.le_of_ble_eq_true rfl) (Nat.le_of_ble_eq_true rfl) rfl c3' (Nat.le_of_ble_eq_true rfl) (fun y M2 hr => ?_)
        obtain ⟨hr, hy⟩ := hr; replace hr := hr.symm; subst hr; have hy := a3 y hy; dsimp only at hy
        refine g0 hC rfl ?_
        refine g13e hC rfl (fun h23 => ?_) (fun h23 => (by omega))
        refine g0 hC rfl ?_
        refine ret3 hC rfl ⟨by omega, by omega⟩ ?_
        exact ⟨rfl, rfl⟩
theorem m170 (hF : Fix M) {t n : Nat} (ht : t < 3) (hm : M 176 t = (n : Int)) (hn : n ≤ 8) {x : Int} : ax_Ev L X SH 0 170 [(2, 142), (0, (t : Int)), (1, x)] M (R1 0 (fun y M' => M' = M ∧ At1 (fun k => M 177 (8 * t + k)) n x y)) := by
  show ax_G L X SH 0 170 0 [(2, 142), (0, (t : Int)), (1, x), (3, 0), (3, 0)] [] M _
  have hC := at170
  have hw := wX0
  have l1 : ∀ (m k : Nat), k + m = n → ∀ ll M1, (ll = [(2, 142), (0, (t : Int)), (1, x), (3, 0), (0, (k : Int))] ∧ M1 = M ∧ ∀ i, i < k → M 177 (8 * t + i) ≠ x) → ax_G L X SH 0 170 2 ll [] M1 (R1 0 (fun y M' => M' = M ∧ At1 (fun k => M 177 (8 * t + k)) n x y)) := by
    refine lp ?_ ?_
    · rintro ll M1 ⟨rfl, rfl, e1⟩
      have hS : Sb X0 M1 M1 := Sb.refl
      refine g3 hC rfl rfl ?_
      refine g3 hC rfl rfl ?_
      refine g19 hC rfl sh142 (flt12 rfl) ft12_42 ((hS.fix hw hF).g fx_142_42) ?_
      refine g3 hC rfl rfl ?_
      refine r21 (t) hC rfl rfl sh176 (Or.inl rfl) (by omega) hm ?_
      refine g13g hC rfl (fun h7 => ?_) (fun h7 => (by omega))
      refine g0 hC rfl ?_
      refine ret1 hC rfl rfl ?_
      exact ⟨rfl, Or.inr ⟨rfl, e1⟩⟩
    · rintro k hk ll M1 ⟨rfl, rfl, e1⟩ hnext
      have hS : Sb X0 M1 M1 := Sb.refl
      have hc0 := @cmp0 (M1 177 (8 * t + k)) x
      refine g3 hC rfl rfl ?_
      refine g3 hC rfl rfl ?_
      refine g19 hC rfl sh142 (flt12 rfl) ft12_42 ((hS.fix hw hF).g fx_142_42) ?_
      refine g3 hC rfl rfl ?_
      refine r21 (t) hC rfl rfl sh176 (Or.inl rfl) (by omega) hm ?_
      refine g13g hC rfl (fun h7 => (by omega)) (fun h7 => ?_)
      refine g3 hC rfl rfl ?_
      refine g19 hC rfl sh142 (flt12 rfl) ft12_43 ((hS.fix hw hF).g fx_142_43) ?_
      refine g0 hC rfl ?_
      refine g3 hC rfl rfl ?_
      refine g6m hC rfl ⟨by omega, by omega⟩ ?_
      refine g3 hC rfl rfl ?_
      refine g6a hC rfl ⟨by omega, by omega⟩ ?_
      refine r21 (8 * t + k) hC rfl (by omega) sh177 (Or.inl rfl) (by omega) rfl ?_
      refine g3 hC rfl rfl ?_
      refine g11 hC rfl ?_
      refine g12n hC rfl (fun h18 => ?_) (fun h18 => ?_)
      ·
        refine n4 hC rfl rfl ⟨by omega, by omega⟩ ?_
        refine g14 hC rfl ?_
        refine hnext _ _ ⟨rfl, rfl, fun i hi => ?_⟩
        by_cases z : i = k
        · rw [z]; omega
        · exact e1 i (by omega)
      ·
        refine g3 hC rfl rfl ?_
        refine ret1 hC rfl rfl ?_
        exact ⟨rfl, Or.inl ⟨k, hk, rfl, by show M1 177 (8 * t + k) = x; omega, e1⟩⟩
  refine g0 hC rfl ?_
  refine s4 hC rfl rfl rfl ?_
  exact l1 n 0 (Nat.zero_add _) _ _ ⟨rfl, rfl, fun i hi => absurd hi (Nat.not_lt_zero i)⟩
end CNM
