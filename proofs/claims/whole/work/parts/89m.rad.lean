section RAD
variable {L : Nat} {X : Nat → Int} {M : ax_M}
theorem m173 (hF : Fix M) {t n : Nat} (ht : t < 3) (hm : M 176 t = (n : Int)) (hn : n < 8) {x : Int} : ax_Ev L X SH 0 173 [(2, 142), (0, (t : Int)), (1, x)] M (R1 0 (fun y M' => y = (n : Int) ∧ M' = ax_up (ax_up M 177 (8 * t + n) x) 176 t ((n : Int) + 1))) := by
  show ax_G L X SH 0 173 0 [(2, 142), (0, (t : Int)), (1, x), (3, 0)] [] M _
  have hC := at173
  have hw := wX0
  have hS : Sb X0 M M := Sb.refl
  have hf : ∀ c : Nat, c < 176 → M 142 0 = M 142 0 := fun _ _ => rfl
  refine g3 hC rfl rfl ?_
  refine g19 hC rfl sh142 (flt12 rfl) ft12_43 ((hS.fix hw hF).g fx_142_43) ?_
  refine g0 hC rfl ?_
  refine g3 hC rfl rfl ?_
  refine g6m hC rfl ⟨by omega, by omega⟩ ?_
  refine g3 hC rfl rfl ?_
  refine g19 hC rfl sh142 (flt12 rfl) ft12_42 ((hS.fix hw hF).g fx_142_42) ?_
  refine g3 hC rfl rfl ?_
  refine r21 (t) hC rfl rfl sh176 (Or.inl rfl) (by omega) hm ?_
  refine g6a hC rfl ⟨by omega, by omega⟩ ?_
  refine g3 hC rfl rfl ?_
  refine r22 (8 * t + n) hC rfl (by omega) sh177 (by omega) rfl ?_
  refine g3 hC rfl rfl ?_
  refine g19 hC rfl sh142 (flt12 rfl) ft12_42 ((ax_up2n (show 142 ≠ 177 by decide)).trans ((hS.fix hw hF).g fx_142_42)) ?_
  refine g3 hC rfl rfl ?_
  refine g17 hC rfl (by decide) ?_
  refine r21 (t) hC rfl rfl sh176 (Or.inl rfl) (by omega) ((ax_up2n (show 176 ≠ 177 by decide)).trans hm) ?_
  refine g0 hC rfl ?_
  refine g6a hC rfl ⟨by omega, by omega⟩ ?_
  refine r22 (t) hC rfl rfl sh176 (by omega) rfl ?_
  refine g3 hC rfl rfl ?_
  refine g19 hC rfl sh142 (flt12 rfl) ft12_42 ((ax_up2n (show 142 ≠ 176 by decide)).trans ((ax_up2n (show 142 ≠ 177 by decide)).trans ((hS.fix hw hF).g fx_142_42))) ?_
  refine g3 hC rfl rfl ?_
  refine r21 (t) hC rfl rfl sh176 (Or.inl rfl) (by omega) ax_up_at ?_
  refine g0 hC rfl ?_
  refine g6s hC rfl ⟨by omega, by omega⟩ ?_
  refine ret1 hC rfl rfl ?_
  exact ⟨by omega, rfl⟩
end RAD
