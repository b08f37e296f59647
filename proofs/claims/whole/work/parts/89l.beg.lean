section CBG
variable {L : Nat} {X : Nat → Int} {M : ax_M} {h n : Nat} {s : HS}
def beP (h c : Nat) (M M' : ax_M) : Prop := M' 45 0 = 0 ∧ (∀ q, q < 5 → M' 46 q = if q < c then M (h + 7) q else 0)
theorem m65 (hF : Fix M) (hh : h = 9 ∨ h = 27) {c : Nat} (hc : M h 2 = (c : Int)) (hc5 : c ≤ 5) : ax_Ev L X SH 0 65 [(2, 45), (2, (h : Int))] M (R0 (fun M' => Sb W72 M M' ∧ beP h c M M' ∧ (∀ k, k < 10 → M' 47 k = 0) ∧ ∀ k, k < 28 → M' 48 k = 0)) := by
  show ax_G L X SH 0 65 0 [(2, 45), (2, (h : Int)), (3, 0)] [] M _
  obtain ⟨P, hP⟩ : ∃ P, P = fun M' => Sb W72 M M' ∧ beP h c M M' ∧ (∀ k, k < 10 → M' 47 k = 0) ∧ ∀ k, k < 28 → M' 48 k = 0 := ⟨_, rfl⟩
  rw [← hP]
  have hC := at65
  have hw : wok W72 = true := by decide +kernel
  have sh7 := shn7 hh
  have l3 : ∀ (m k : Nat), k + m = 28 → ∀ ll M1, (ll = [(2, 45), (2, (h : Int)), (0, (k : Int))] ∧ Sb W72 M M1 ∧ beP h c M M1 ∧ (∀ i, i < 10 → M1 47 i = 0) ∧ ∀ i, i < k → M1 48 i = 0) → ax_G L X SH 0 65 38 ll [] M1 (R0 P) := by
    refine lp ?_ ?_
    · rintro ll M1 ⟨rfl, hS, e1, e2, e3⟩
      refine g3 hC rfl rfl ?_
      refine g0 hC rfl ?_
      refine g13g hC rfl (fun h40 => ?_) (fun h40 => (by omega))
      refine ret0 hC rfl ?_
      rw [hP]; exact ⟨hS, e1, e2, e3⟩
    · rintro k hk ll M1 ⟨rfl, hS, e1, e2, e3⟩ hnext
      refine g3 hC rfl rfl ?_
      refine g0 hC rfl ?_
      refine g13g hC rfl (fun h40 => (by omega)) (fun h40 => ?_)
      refine g3 hC rfl rfl ?_
      refine g19 hC rfl rfl (Nat.le_of_ble_eq_true rfl) rfl ((hS.fix hw hF).g rfl) ?_
      refine g3 hC rfl rfl ?_
      refine g0 hC rfl ?_
      refine r22s (k) hC rfl (by omega) rfl (by omega) rfl hS rfl (fun hS => ?_)
      refine n2 hC rfl rfl ⟨by omega, by omega⟩ ?_
      refine g14 hC rfl ?_
      refine hnext _ _ ⟨rfl, hS, ⟨(ax_up2n (by decide)).trans e1.1, fun q hq => (ax_up2n (by decide)).trans (e1.2 q hq)⟩, fun i hi => (ax_up2n (by decide)).trans (e2 i hi), fun i hi => ?_⟩
      by_cases z : i = k
      · rw [z, ax_up_at]
      · rw [ax_up_of z]; exact e3 i (by omega)
  have l2 : ∀ (m k : Nat), k + m = 10 → ∀ ll M1, (ll = [(2, 45), (2, (h : Int)), (0, (k : Int))] ∧ Sb W72 M M1 ∧ beP h c M M1 ∧ ∀ i, i < k → M1 47 i = 0) → ax_G L X SH 0 65 26 ll [] M1 (R0 P) := by
    refine lp ?_ ?_
    · rintro ll M1 ⟨rfl, hS, e1, e2⟩
      refine g3 hC rfl rfl ?_
      refine g0 hC rfl ?_
      refine g13g hC rfl (fun h28 => ?_) (fun h28 => (by omega))
      refine g0 hC rfl ?_
      refine s2 hC rfl rfl rfl ?_
      exact l3 28 0 rfl _ _ ⟨rfl, hS, e1, e2, fun i hi => absurd hi (Nat.not_lt_zero i)⟩
    · rintro k hk ll M1 ⟨rfl, hS, e1, e2⟩ hnext
      refine g3 hC rfl rfl ?_
      refine g0 hC rfl ?_
      refine g13g hC rfl (fun h28 => (by omega)) (fun h28 => ?_)
      refine g3 hC rfl rfl ?_
      refine g19 hC rfl rfl (Nat.le_of_ble_eq_true rfl) rfl ((hS.fix hw hF).g rfl) ?_
      refine g3 hC rfl rfl ?_
      refine g0 hC rfl ?_
      refine r22s (k) hC rfl (by omega) rfl (by omega) rfl hS rfl (fun hS => ?_)
      refine n2 hC rfl rfl ⟨by omega, by omega⟩ ?_
      refine g14 hC rfl ?_
      refine hnext _ _ ⟨rfl, hS, ⟨(ax_up2n (by decide)).trans e1.1, fun q hq => (ax_up2n (by decide)).trans (e1.2 q hq)⟩, fun i hi => ?_⟩
      by_cases z : i = k
      · rw [z, ax_up_at]
      · rw [ax_up_of z]; exact e2 i (by omega)
  have hh2 : ∀ M1, Sb W72 M M1 → ∀ k, M1 h k = M h k ∧ M1 (h + 7) k = M (h + 7) k := by
    intro M1 hs k
    rcases hh with rfl | rfl <;> exact ⟨hs _ _ rfl, hs _ _ rfl⟩
  have l1 : ∀ (m k : Nat), k + m = 5 → ∀ ll M1, (ll = [(2, 45), (2, (h : Int)), (0, (k : Int))] ∧ Sb W72 M M1 ∧ M1 45 0 = 0 ∧ ∀ q, q < k → M1 46 q = if q < c then M (h + 7) q else 0) → ax_G L X SH 0 65 5 ll [] M1 (R0 P) := by
    refine lp ?_ ?_
    · rintro ll M1 ⟨rfl, hS, e1, e2⟩
      refine g3 hC rfl rfl ?_
      refine g0 hC rfl ?_
      refine g13g hC rfl (fun h7 => ?_) (fun h7 => (by omega))
      refine g0 hC rfl ?_
      refine s2 hC rfl rfl rfl ?_
      exact l2 10 0 rfl _ _ ⟨rfl, hS, ⟨e1, e2⟩, fun i hi => absurd hi (Nat.not_lt_zero i)⟩
    · rintro k hk ll M1 ⟨rfl, hS, e1, e2⟩ hnext
      have ec := ((hh2 M1 hS 2).1).trans hc
      have e7 := (hh2 M1 hS k).2
      refine g3 hC rfl rfl ?_
      refine g0 hC rfl ?_
      refine g13g hC rfl (fun h7 => (by omega)) (fun h7 => ?_)
      refine g3 hC rfl rfl ?_
      refine g19 hC rfl rfl (Nat.le_of_ble_eq_true rfl) rfl ((hS.fix hw hF).g rfl) ?_
      refine g3 hC rfl rfl ?_
      refine g3 hC rfl rfl ?_
      refine g3 hC rfl rfl ?_
      refine g19 hC rfl (shH hh) (Nat.le_of_ble_eq_true rfl) rfl ec ?_
      refine g13g hC rfl (fun h14 => ?_) (fun h14 => ?_)
      ·
        refine g0 hC rfl ?_
        refine r22s (k) hC rfl (by omega) rfl (by omega) rfl hS rfl (fun hS => ?_)
        refine n2 hC rfl rfl ⟨by omega, by omega⟩ ?_
        refine g14 hC rfl ?_
        refine hnext _ _ ⟨rfl, hS, (ax_up2n (by decide)).trans e1, fun q hq => ?_⟩
        by_cases z : q = k
        · rw [z, ax_up_at, if_neg (by omega)]
        · rw [ax_up_of z]; exact e2 q (by omega)
      ·
        refine g3 hC rfl rfl ?_
        refine g19 hC rfl (shH hh) (Nat.le_of_ble_eq_true rfl) rfl ((hS.fix hw hF).h (v := 7) hh rfl rfl) ?_
        refine g3 hC rfl rfl ?_
        refine r21 (k) hC rfl rfl sh7 (Or.inl rfl) (by omega) e7 ?_
        refine g14 hC rfl ?_
        refine r22s (k) hC rfl (by omega) rfl (by omega) rfl hS rfl (fun hS => ?_)
        refine n2 hC rfl rfl ⟨by omega, by omega⟩ ?_
        refine g14 hC rfl ?_
        refine hnext _ _ ⟨rfl, hS, (ax_up2n (by decide)).trans e1, fun q hq => ?_⟩
        by_cases z : q = k
        · rw [z, ax_up_at, if_pos (by omega)]
        · rw [ax_up_of z]; exact e2 q (by omega)
  have hS : Sb W72 M M := Sb.refl
  refine g3 hC rfl rfl ?_
  refine g0 hC rfl ?_
  refine g20s hC rfl rfl (Nat.le_of_ble_eq_true rfl) rfl hS rfl (fun hS => ?_)
  refine g0 hC rfl ?_
  refine s2 hC rfl rfl rfl ?_
  exact l1 5 0 rfl _ _ ⟨rfl, hS, ax_up_at, fun q hq => absurd hq (Nat.not_lt_zero q)⟩
end CBG
