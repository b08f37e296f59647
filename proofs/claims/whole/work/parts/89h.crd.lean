section CRD
variable {L : Nat} {X : Nat → Int} {M : ax_M} {h n : Nat} {s : HS} {T : Nat → Int} {q : PS}
theorem m46 (hF : Fix M) (hh : h = 9 ∨ h = 27) (hn : n ≤ 1600) (hN : CHn h s M) (hlt : s.1.1 < 8) (hq : CT T n q M) (hqn : q.1 ≤ n) : ax_Ev L X SH 7 46 [(2, 7), (2, (h : Int))] M (R1 0 (fun x M' => (∃ f p, x = 0 ∧ CF f p M' ∧ Sb WNA M M' ∧ ∀ k, newN T n s q k = .inl (f, p)) ∨ (x = 1 ∧ ∃ M2, Sb WNA M M2 ∧ CT T n (nx T n q) M2 ∧ M' = ax_up (ax_up M2 (h + 1) s.1.1 (ncm (nmQ T n q) : Int)) h 0 ((s.1.1 : Int) + 1) ∧ ∀ k, newN T n s q k = k (nmQ T n q) (nx T n q)))) := by
  show ax_G L X SH 7 46 0 [(2, 7), (2, (h : Int))] [] M _
  have hC := at46
  have hw : wok WNA = true := by decide +kernel
  have hck : cnk WNA = true := by decide +kernel
  have hS : Sb WNA M M := Sb.refl
  have sh := shn1 hh
  refine g3 hC rfl rfl ?_
  refine g3 hC rfl rfl ?_
  refine c1 hC rfl rfl rfl (Nat.le_of_ble_eq_true rfl) (Nat.le_of_ble_eq_true rfl) rfl (m43 hF hh hn hN hq hqn) (Nat.le_of_ble_eq_true rfl) (fun x M2 hr => ?_)
  obtain ⟨hr0, hr1⟩ := hr; have hS := hS.then hr0 rfl; have hN2 := hN.sb hh hr0 hck; have e0 := hN2.1.1.1
  refine g12e hC rfl (fun h3 => ?_) (fun h3 => ?_)
  ·
    refine g0 hC rfl ?_
    refine ret3 hC rfl ⟨by omega, by omega⟩ ?_
    rcases hr1 with ⟨f, p, -, w2, w3⟩ | ⟨w1, -⟩
    · exact Or.inl ⟨f, p, rfl, w2, hS, w3⟩
    · omega
  ·
    refine g3 hC rfl rfl ?_
    refine g19 hC rfl (shH hh) (Nat.le_of_ble_eq_true rfl) rfl e0 ?_
    refine g0 hC rfl ?_
    refine g13l hC rfl (fun h7 => ?_) (fun h7 => (by omega))
    refine g3 hC rfl rfl ?_
    refine g19 hC rfl (shH hh) (Nat.le_of_ble_eq_true rfl) rfl ((hS.fix hw hF).h (v := 1) hh rfl rfl) ?_
    refine g3 hC rfl rfl ?_
    refine g19 hC rfl (shH hh) (Nat.le_of_ble_eq_true rfl) rfl e0 ?_
    refine g3 hC rfl rfl ?_
    refine g19 hC rfl rfl (Nat.le_of_ble_eq_true rfl) rfl ((hS.fix hw hF).g rfl) ?_
    refine g19 hC rfl rfl (Nat.le_of_ble_eq_true rfl) rfl (rfl : M2 1 7 = M2 1 7) ?_
    refine r22 (s.1.1) hC rfl rfl sh.1 (by omega) rfl ?_
    refine g3 hC rfl rfl ?_
    refine g16 hC rfl (by decide) ?_
    refine g19 hC rfl (shH hh) (Nat.le_of_ble_eq_true rfl) rfl ((ax_up2n (by omega)).trans e0) ?_
    refine g0 hC rfl ?_
    refine g6a hC rfl ⟨by omega, by omega⟩ ?_
    refine g20 hC rfl (shH hh) (Nat.le_of_ble_eq_true rfl) rfl ?_
    refine g0 hC rfl ?_
    refine ret3 hC rfl ⟨by omega, by omega⟩ ?_
    rcases hr1 with ⟨f, p, w1, -⟩ | ⟨-, w2, w3, w4⟩
    · omega
    · exact Or.inr ⟨rfl, M2, hr0, w2, by rw [w3.1], w4⟩
end CRD
