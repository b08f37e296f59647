def WFz (h : Nat) : ax_W := ([(8, 9), (h + 1, h + 12), (h + 13, h + 14), (h + 16, h + 17), (140, 141), (144, 145), (176, 185), (228, 230)], [(1, 1), (1, 2), (1, 3), (1, 4), (1, 5), (1, 6), (1, 7), (1, 8), (1, 9), (6, 1), (6, 2), (6, 3), (h, 0), (h, 1), (h, 2), (h, 3), (h, 17), (h, 18), (h, 19), (h + 12, 1), (h + 15, 1), (142, 1), (142, 2), (142, 3), (142, 4), (142, 5), (142, 6), (142, 7), (142, 8), (142, 41), (142, 51), (142, 52), (142, 53), (142, 110), (142, 112), (142, 113), (142, 114)])
section OP2
variable {L : Nat} {X : Nat → Int} {M M1 M2 : ax_M} {h n N : Nat} {s : HS} {T : Nat → Int}
theorem Typed.cg {c c' : Nat → Int} {n : Nat} {b : Bool} (h : Typed c n b) (e : ∀ k, k < n → c k = c' k) : Typed c' n b := by
  have t : ∀ k, k ≤ n → tys c' k = tys c k := fun k hk => it_cg rfl k (fun j z hj => by show tst (c' j) z = tst (c j) z; rw [e j (by omega)])
  refine ⟨fun k hk => ?_, ?_, ?_⟩
  · rw [t k (by omega), ← e k hk]; exact h.1 k hk
  · rw [t n (Nat.le_refl n)]; exact h.2.1
  · rw [t n (Nat.le_refl n)]; exact h.2.2
theorem PW.kh (hP : PW M h) (hS : ∀ i k, i < 18 → i ≠ 14 → i ≠ 17 → M2 (h + i) k = M (h + i) k) (hk : KH M M2) : PW M2 h := by
  have e22 : M2 182 2 = M 182 2 := hk 182 2 (by decide) (by decide) (by decide) (by decide)
  have e23 : M2 182 3 = M 182 3 := hk 182 3 (by decide) (by decide) (by decide) (by decide)
  have e32 : M2 183 2 = M 183 2 := hk 183 2 (by decide) (by decide) (by decide) (by decide)
  have e33 : M2 183 3 = M 183 3 := hk 183 3 (by decide) (by decide) (by decide) (by decide)
  have e4 : ∀ k, 1600 ≤ k → M2 184 k = M 184 k := fun k z => hk 184 k (by decide) (by decide) (by decide) z
  have f1 : tf M2 = tf M := by unfold tf; rw [e22]
  have f2 : tn M2 = tn M := by unfold tn; rw [e22, e32]
  have f3 : tc M2 = tc M := funext fun k => by unfold tc; rw [f1]; exact e4 _ (by omega)
  have g1' : df M2 = df M := by unfold df; rw [e23]
  have g2' : dn M2 = dn M := by unfold dn; rw [e23, e33]
  have g3' : dc M2 = dc M := funext fun k => by unfold dc; rw [g1']; exact e4 _ (by omega)
  have e12 : ∀ k, M2 (h + 12) k = M (h + 12) k := fun k => hS 12 k (by decide) (by decide) (by decide)
  have e15 : ∀ k, M2 (h + 15) k = M (h + 15) k := fun k => hS 15 k (by decide) (by decide) (by decide)
  have e16 : ∀ k, M2 (h + 16) k = M (h + 16) k := fun k => hS 16 k (by decide) (by decide) (by decide)
  unfold PW
  rw [f1, f2, f3, g1', g2', g3', e22, e23, e32, e33, e12, e15, e16]
  refine ⟨?_, ?_⟩
  · rcases hP.1 with z | ⟨z1, z2, z3, z4, z5⟩
    · exact Or.inl z
    · exact Or.inr ⟨z1, z2, z3, z4.of (e12 1) (fun k => hS 13 k (by decide) (by decide) (by decide)), z5⟩
  · rcases hP.2 with z | ⟨z1, z2, z3, z4, z5⟩
    · exact Or.inl z
    · exact Or.inr ⟨z1, z2, z3, z4.of (e15 1) (fun k => e16 k), z5⟩
theorem RV.kh (hV : RV M h M) (hS : ∀ i k, i < 18 → i ≠ 14 → i ≠ 17 → M2 (h + i) k = M (h + i) k) (hk : KH M M2) (h5 : ∀ a k, (45 ≤ a ∧ a ≤ 48) ∨ a = 185 → M2 a k = M a k) : RV M2 h M2 := by
  have e0 : ∀ k, M2 h k = M h k := fun k => hS 0 k (by decide) (by decide) (by decide)
  have e : ∀ a k, (176 ≤ a ∧ a ≤ 184 ∧ a ≠ 179) ∧ hlf a ≤ k → M2 a k = M a k := fun a k z => hk a k z.1.1 z.1.2.1 z.1.2.2 z.2
  have l8 : hlf 178 = 30 := rfl
  have l0 : hlf 180 = 32 := rfl
  obtain ⟨h1, h2, h3, h4, h5', -⟩ := hV
  have n1' : nS M2 h = nS M h := by unfold nS; rw [e0]
  have n2' : nC M2 h = nC M h := by unfold nC; rw [e0]
  refine ⟨?_, ?_, ?_, ?_, ?_, ⟨rfl, rfl, rfl, rfl, fun _ _ => rfl⟩⟩
  · rw [e0, e0, e0, e0, e 176 4 (by decide), e 176 7 (by decide), e 176 5 (by decide), e 176 6 (by decide)]; exact h1
  · intro s hs; rw [n1'] at hs
    rw [hS 4 s (by decide) (by decide) (by decide), hS 5 s (by decide) (by decide) (by decide), hS 6 s (by decide) (by decide) (by decide), e 178 _ ⟨by decide, by omega⟩, e 178 _ ⟨by decide, by omega⟩, e 178 _ ⟨by decide, by omega⟩]; exact h2 s hs
  · intro s hs; rw [n2'] at hs
    rw [hS 8 s (by decide) (by decide) (by decide), hS 9 s (by decide) (by decide) (by decide), hS 10 s (by decide) (by decide) (by decide), hS 11 s (by decide) (by decide) (by decide), e 180 _ ⟨by decide, by omega⟩, e 180 _ ⟨by decide, by omega⟩, e 180 _ ⟨by decide, by omega⟩, e 180 _ ⟨by decide, by omega⟩]; exact h3 s hs
  · rw [e0, e0, e0, e 181 3 (by decide), e 181 4 (by decide), e 181 5 (by decide)]; exact h4
  · rw [h5 185 0 (Or.inr rfl), h5 45 0 (Or.inl (by decide))]
    refine ⟨h5'.1, fun q hq => ?_, fun q hq => ?_, fun a b hab hb => ?_⟩
    · rw [h5 185 _ (Or.inr rfl), h5 46 _ (Or.inl (by decide))]; exact h5'.2.1 q hq
    · rw [h5 185 _ (Or.inr rfl), h5 47 _ (Or.inl (by decide))]; exact h5'.2.2.1 q hq
    · rw [h5 185 _ (Or.inr rfl), h5 48 _ (Or.inl (by decide))]; exact h5'.2.2.2 a b hab hb
theorem GM.kh (hG : GM h M) (hS : ∀ i k, i < 18 → i ≠ 14 → i ≠ 17 → M2 (h + i) k = M (h + i) k) (hk : KH M M2) : GM h M2 := by
  have e0 : ∀ k, M2 h k = M h k := fun k => hS 0 k (by decide) (by decide) (by decide)
  have l7 : hlf 177 = 24 := rfl
  have e : ∀ k, 24 ≤ k → M2 177 k = M 177 k := fun k z => hk 177 k (by decide) (by decide) (by decide) (by omega)
  have r1 : nR M2 h = nR M h := by unfold nR; rw [e0]
  have r2 : nQ M2 h = nQ M h := by unfold nQ; rw [e0]
  have r3 : nC M2 h = nC M h := by unfold nC; rw [e0]
  unfold GM
  rw [r1, r2, r3]
  refine ⟨fun k hk' => ?_, fun k hk' => ?_, fun k hk' => ?_⟩
  · rw [e _ (by omega), hS 1 k (by decide) (by decide) (by decide)]; exact hG.1 k hk'
  · rw [e _ (by omega), hS 2 k (by decide) (by decide) (by decide)]; exact hG.2.1 k hk'
  · rw [e _ (by omega), hS 3 k (by decide) (by decide) (by decide)]; exact hG.2.2 k hk'
theorem op2_f (hh : h = 9 ∨ h = 27) (hF : Fix M) (hG : GG n (36 - h) M) {x y : Int} (h1 : HFl h T N M x M1) (h2 : RFl T N M1 y M2) : y = x ∧ Rel (n + 1) M2 := by
  obtain ⟨f, p, A, eF, rfl, hA, hcf, hM1⟩ := h1
  obtain ⟨f', p', B, eF', rfl, ⟨hB, hkB⟩, b1, hM2⟩ := h2
  rw [eF] at eF'
  injection eF' with e
  injection e with e1' e2'
  subst e1'
  subst e2'
  have hgg : 36 - h = 9 ∨ 36 - h = 27 := by omega
  have hwz : wok (WFz h) = true := by rcases hh with rfl | rfl <;> decide +kernel
  have s1' : Sb (WFz h) M M1 := by
    rw [hM1]
    exact (((Sb.refl.then hA (by rcases hh with rfl | rfl <;> rfl)).up (by rcases hh with rfl | rfl <;> rfl)).up (by rcases hh with rfl | rfl <;> rfl))
  have s2' : Sb (WFz h) M B := s1'.then hB (by rcases hh with rfl | rfl <;> rfl)
  have hS : Sb (WFz h) M M2 := by
    rw [hM2]
    exact ((s2'.up (by rcases hh with rfl | rfl <;> rfl)).up (by rcases hh with rfl | rfl <;> rfl)).up (by rcases hh with rfl | rfl <;> rfl)
  have hwh : hok (WFz h) (36 - h) := by
    intro i k a b c
    rcases hh with rfl | rfl
    · exact wbo 27 45 rfl (by omega) (by omega)
    · exact wbo 9 27 rfl (by omega) (by omega)
  have hcell : ∀ i k, i < 18 → i ≠ 14 → i ≠ 17 → M2 (36 - h + i) k = M (36 - h + i) k := fun i k a b c => hS _ _ (hwh i k a b c)
  have m1 : ∀ a k, 176 ≤ a → M1 a k = M a k := fun a k z => by
    rw [hM1, ax_up2n (by omega), ax_up2n (by omega)]
    exact hA a k (by
      rcases hh with rfl | rfl
      · unfold wb WHo
        simp only [List.any_cons, List.any_nil, Bool.or_false, Bool.or_eq_false_iff, Bool.and_eq_false_iff]
        refine ⟨⟨Or.inr ?_, Or.inr ?_, Or.inr ?_, Or.inr ?_⟩, Or.inl ?_, Or.inl ?_, Or.inl ?_, Or.inl ?_, Or.inl ?_, Or.inl ?_, Or.inl ?_, Or.inl ?_, Or.inl ?_, Or.inl ?_, Or.inl ?_, Or.inl ?_, Or.inl ?_, Or.inl ?_, Or.inl ?_, Or.inl ?_, Or.inl ?_, Or.inl ?_, Or.inl ?_, Or.inl ?_⟩
        all_goals refine Bool.eq_false_iff.mpr (fun x => ?_)
        all_goals first | (have := Nat.le_of_ble_eq_true x; omega) | (have := Nat.eq_of_beq_eq_true x; omega)
      · unfold wb WHo
        simp only [List.any_cons, List.any_nil, Bool.or_false, Bool.or_eq_false_iff, Bool.and_eq_false_iff]
        refine ⟨⟨Or.inr ?_, Or.inr ?_, Or.inr ?_, Or.inr ?_⟩, Or.inl ?_, Or.inl ?_, Or.inl ?_, Or.inl ?_, Or.inl ?_, Or.inl ?_, Or.inl ?_, Or.inl ?_, Or.inl ?_, Or.inl ?_, Or.inl ?_, Or.inl ?_, Or.inl ?_, Or.inl ?_, Or.inl ?_, Or.inl ?_, Or.inl ?_, Or.inl ?_, Or.inl ?_, Or.inl ?_⟩
        all_goals refine Bool.eq_false_iff.mpr (fun x => ?_)
        all_goals first | (have := Nat.le_of_ble_eq_true x; omega) | (have := Nat.eq_of_beq_eq_true x; omega))
  have hk : KH M M2 := by
    have k1 : KH M B := fun a k z1 z2 z3 z4 => (hkB a k z1 z2 z3 z4).trans (m1 a k z1)
    rw [hM2]
    exact ((k1.up (by decide)).up (by decide)).up (by decide)
  obtain ⟨a1, a2, a3, a4, a5, a6, a7, a8, a9, a10⟩ := hG
  have g1' : M2 1 1 = 0 := by rw [hM2, ax_up2n (by decide), ax_up2n (by decide), ax_up2n (by decide), hB 1 1 rfl, hM1, ax_up2n (by decide), ax_up_at]
  have c8 : M2 1 8 = f := by rw [hM2, ax_up2n (by decide), ax_up2n (by decide), ax_up2n (by decide), hB 1 8 rfl, hM1, ax_up2n (by decide), ax_up_of (by decide)]; exact hcf.1
  have c9 : M2 1 9 = p := by rw [hM2, ax_up2n (by decide), ax_up2n (by decide), ax_up2n (by decide), hB 1 9 rfl, hM1, ax_up2n (by decide), ax_up_of (by decide)]; exact hcf.2
  refine ⟨rfl, 36 - h, hgg, hS.fix hwz hF, a1.sbb hS hwh, a2.sb hS (sokB (by rcases hh with rfl | rfl <;> decide +kernel)), a3.kh hcell hk, a4.kh hcell hk (fun a k z => hS a k ?_), ?_, a6.inc (k := 1) (fun q hq => ?_) (fun q hq => ?_), a7.kh hcell hk, a8.sb hS hwh (by rcases hh with rfl | rfl <;> decide +kernel), a9.sb hS hwh (by rcases hh with rfl | rfl <;> decide +kernel) (by rcases hh with rfl | rfl <;> decide +kernel), a10.sb hS hwh (by rcases hh with rfl | rfl <;> decide +kernel) (by rcases hh with rfl | rfl <;> decide +kernel)⟩
  · rcases z with z | z
    · rcases hh with rfl | rfl <;> exact wbo 45 49 rfl (by omega) (by omega)
    · subst z
      rcases hh with rfl | rfl <;> rfl
  · refine ⟨⟨by rw [g1']; decide, by rw [g1']; decide, ?_⟩, fun i hi => ?_, ?_, ?_⟩
    · rw [g1', hM2, ax_up2n (by decide), ax_up_of (by decide), ax_up_of (by decide)]; exact b1
    · rw [hS 143 i (by rcases hh with rfl | rfl <;> rfl), hS 2 i (by rcases hh with rfl | rfl <;> rfl)]; exact a5.2.1 i hi
    · rw [c8, hM2, ax_up2n (by decide), ax_up_of (by decide), ax_up_at]
    · rw [c9, hM2, ax_up2n (by decide), ax_up_at]
  · have e : M2 140 q = M1 140 q := by rw [hM2, ax_up2n (by decide), ax_up2n (by decide), ax_up2n (by decide), hB 140 q rfl]
    have e0 : A 140 q = M 140 q := hA 140 q (by rcases hh with rfl | rfl <;> rfl)
    rw [e, hM1]
    by_cases z : q = 1
    · rw [if_pos z, z, ax_up_at]
    · rw [if_neg z, ax_up_of z, ax_up2n (by decide), e0]
  · have e1 : ∀ j, M1 144 j = M 144 j := fun j => by rw [hM1, ax_up2n (by decide), ax_up2n (by decide)]; exact hA 144 j (by rcases hh with rfl | rfl <;> rfl)
    rw [hM2]
    by_cases z : q = 1
    · rw [if_pos z, z, ax_up_at, e1]
    · rw [if_neg z, ax_up_of z, ax_up2n (by decide), ax_up2n (by decide), hB 144 q rfl, e1]
end OP2
