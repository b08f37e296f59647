section RFU
variable {L : Nat} {X : Nat → Int} {M : ax_M}
theorem m169 (hF : Fix M) (h0 : M 142 5 = 0) {t n mo : Nat} (ht : t < 4) (hm : M 176 t = (n : Int)) {p : Int} : ax_Ev L X SH 1 169 [(2, 142), (0, (t : Int)), (0, (mo : Int)), (0, p)] M (R1 0 (fun y M' => (n = mo ∧ y = 1 ∧ M' = ax_up (ax_up M 142 5 5) 142 6 p) ∨ (n ≠ mo ∧ y = 0 ∧ M' = M))) := by
  show ax_G L X SH 1 169 0 [(2, 142), (0, (t : Int)), (0, (mo : Int)), (0, p)] [] M _
  have hC := at169
  have hw := wX0
  have hS : Sb X0 M M := Sb.refl
  by_cases z : n = mo
  · have e5 : ax_up (ax_up M 142 5 5) 142 6 p 142 5 = 5 := BF.up.1
    refine g3 hC rfl rfl ?_
    refine g19 hC rfl sh142 (flt12 rfl) ft12_5 h0 ?_
    refine g12n hC rfl (fun h2 => (by omega)) (fun h2 => ?_)
    refine g3 hC rfl rfl ?_
    refine g19 hC rfl sh142 (flt12 rfl) ft12_42 ((hS.fix hw hF).g fx_142_42) ?_
    refine g3 hC rfl rfl ?_
    refine r21 (t) hC rfl rfl sh176 (Or.inl rfl) (by omega) hm ?_
    refine g3 hC rfl rfl ?_
    refine g13n hC rfl (fun h8 => (by omega)) (fun h8 => ?_)
    refine g3 hC rfl rfl ?_
    refine g0 hC rfl ?_
    refine g3 hC rfl rfl ?_
    refine c0 hC rfl rfl rfl (Nat.le_of_ble_eq_true rfl) (Nat.le_of_ble_eq_true rfl) (mayR k156 rfl) (m156 h0) (Nat.le_of_ble_eq_true rfl) (fun M2 hr => ?_)
    subst hr
    refine g3 hC rfl rfl ?_
    first | refine g19 hC rfl sh142 (flt12 rfl) ft12_5 e5 ?_
    refine g12e hC rfl (fun h15 => (by omega)) (fun h15 => ?_)
    refine g0 hC rfl ?_
    refine g14 hC rfl ?_
    refine ret3 hC rfl ⟨by omega, by omega⟩ ?_
    exact Or.inl ⟨z, rfl, rfl⟩
  · skip
    refine g3 hC rfl rfl ?_
    refine g19 hC rfl sh142 (flt12 rfl) ft12_5 h0 ?_
    refine g12n hC rfl (fun h2 => (by omega)) (fun h2 => ?_)
    refine g3 hC rfl rfl ?_
    refine g19 hC rfl sh142 (flt12 rfl) ft12_42 ((hS.fix hw hF).g fx_142_42) ?_
    refine g3 hC rfl rfl ?_
    refine r21 (t) hC rfl rfl sh176 (Or.inl rfl) (by omega) hm ?_
    refine g3 hC rfl rfl ?_
    refine g13n hC rfl (fun h8 => ?_) (fun h8 => (by omega))
    refine g3 hC rfl rfl ?_
    refine g19 hC rfl sh142 (flt12 rfl) ft12_5 h0 ?_
    refine g12e hC rfl (fun h15 => ?_) (fun h15 => (by omega))
    refine g0 hC rfl ?_
    refine ret3 hC rfl ⟨by omega, by omega⟩ ?_
    exact Or.inr ⟨z, rfl, rfl⟩
end RFU
