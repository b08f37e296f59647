section BEG
theorem zr {a : Nat} (h : eqR (T0.getD a ([], 0)) ([], 0) = true) : ∀ i, ofT T0 a i = 0 := by
  intro i
  unfold ofT
  rw [eqR_ok _ _ h]
  unfold getR
  simp
theorem z2 : ∀ i, ofT T0 2 i = 0 := zr (by decide +kernel)
theorem z143 : ∀ i, ofT T0 143 i = 0 := zr (by decide +kernel)
theorem z46 : ∀ i, ofT T0 46 i = 0 := zr (by decide +kernel)
theorem z47 : ∀ i, ofT T0 47 i = 0 := zr (by decide +kernel)
theorem z48 : ∀ i, ofT T0 48 i = 0 := zr (by decide +kernel)
theorem z185 : ∀ i, ofT T0 185 i = 0 := zr (by decide +kernel)
theorem z203 : ∀ i, ofT T0 203 i = 0 := zr (by decide +kernel)
theorem z140 : ∀ i, ofT T0 140 i = 0 := zr (by decide +kernel)
theorem z144 : ∀ i, ofT T0 144 i = 0 := zr (by decide +kernel)
theorem z51 : ∀ r, r < 20 → ∀ i, ofT T0 (51 + r) i = 0 := by
  have : ∀ r, r < 20 → eqR (T0.getD (51 + r) ([], 0)) ([], 0) = true := by decide +kernel
  intro r hr
  exact zr (this r hr)
theorem fix0 : Fix (ofT T0) := by
  refine ⟨?_, ?_⟩
  · have : ax_fx.all (fun e => decide (ofT T0 e.1 e.2.1 = (e.2.2 : Int))) = true := by decide +kernel
    exact fun e he => of_decide_eq_true (List.all_eq_true.mp this e he)
  · have : ax_fr.all (fun e => (List.range e.2.1).all (fun k => decide (ofT T0 e.1 k = ((e.2.2 + k : Nat) : Int)))) = true := by decide +kernel
    exact fun e he k hk => of_decide_eq_true (List.all_eq_true.mp (List.all_eq_true.mp this e he) k (List.mem_range.mpr hk))
theorem wd0 : Wd (ofT T0) := by
  have : wdT.all (fun e => (List.range e.2.length).all (fun k => decide (ofT T0 e.1 k = e.2.getD k 0))) = true := by decide +kernel
  exact fun e he k hk => of_decide_eq_true (List.all_eq_true.mp (List.all_eq_true.mp this e he) k (List.mem_range.mpr hk))
theorem rel0 : Rel 0 (ofT T0) := by
  have n0 : nR (ofT T0) 9 = 0 := by decide +kernel
  have n1 : nS (ofT T0) 9 = 0 := by decide +kernel
  have n2 : nQ (ofT T0) 9 = 0 := by decide +kernel
  have n3 : nC (ofT T0) 9 = 0 := by decide +kernel
  have b1 : ofT T0 9 0 = 0 ∧ ofT T0 9 1 = 0 ∧ ofT T0 9 2 = 0 ∧ ofT T0 9 3 = 0 := by decide +kernel
  have b2 : (0 ≤ ofT T0 9 17 ∧ ofT T0 9 17 ≤ 20) ∧ (1 ≤ ofT T0 9 18 ∧ ofT T0 9 18 ≤ 9) ∧ (0 ≤ ofT T0 9 19 ∧ ofT T0 9 19 ≤ 100) := by decide +kernel
  have nl : ∀ {P : Prop} {k : Nat}, k < 0 → P := fun h => absurd h (Nat.not_lt_zero _)
  have r0 : hR (ofT T0) = 0 := by decide +kernel
  have r1 : hN (ofT T0) = 0 := by decide +kernel
  have r2 : sN (ofT T0) = 0 := by decide +kernel
  refine ⟨9, Or.inl rfl, fix0, ⟨?_, ?_, ?_, ?_, ?_, ?_, ?_, ?_, ?_, ?_⟩⟩
  · unfold HW
    rw [n0, n1, n2, n3]
    exact ⟨⟨⟨b1.1, by decide⟩, ⟨b1.2.1, by decide⟩, ⟨b1.2.2.1, by decide⟩, ⟨b1.2.2.2, by decide⟩⟩, fun s hs => nl hs, fun s s' hs => nl hs, fun c hc => nl hc, b2⟩
  · exact ⟨by decide +kernel, fun q _ => by rw [z46]; decide, fun s _ => Or.inl (z47 s), fun i _ => by rw [z48]; decide⟩
  · exact ⟨Or.inl (by decide +kernel), Or.inl (by decide +kernel)⟩
  · refine ⟨by decide +kernel, fun s hs => nl (n1 ▸ hs), fun c hc => nl (n3 ▸ hc), by decide +kernel, ⟨?_, fun q _ => by rw [z185, z46], fun s _ => by rw [z185, z47], fun a b _ _ => by rw [z185, z48]⟩, rfl, rfl, rfl, rfl, fun _ _ => rfl⟩
    rw [z185]; decide +kernel
  · exact ⟨by decide +kernel, fun i _ => by rw [z143, z2]; decide, by decide +kernel, by decide +kernel⟩
  · exact fun k _ => by rw [z144, z140]; decide
  · exact ⟨fun k hk => nl (n0 ▸ hk), fun k hk => nl (n2 ▸ hk), fun k hk => nl (n3 ▸ hk)⟩
  · unfold GH
    rw [r0, r1]
    refine ⟨by decide +kernel, by decide +kernel, fun r hr => ?_, fun j hj => nl hj⟩
    have zz := z51 r hr
    unfold RK
    refine ⟨?_, fun q _ => ?_, fun s _ => ?_, fun a b _ _ => ?_, fun i _ => ?_⟩
    · rw [zz]; dsimp only; rw [z203]; decide
    · rw [zz]; dsimp only; rw [z203]; decide
    · rw [zz]; dsimp only; rw [z203]; decide
    · rw [zz]; dsimp only; rw [z203]
    · rw [zz]; decide
  · unfold GS
    rw [r2]
    exact ⟨by decide +kernel, fun k hk => nl hk⟩
  · refine ⟨by decide +kernel, by decide +kernel, by decide +kernel, fun s _ _ => z47 s, by decide +kernel, fun k _ h => ?_⟩
    have : ofT T0 0 14 = 0 := by decide +kernel
    rw [this] at h; omega
end BEG
