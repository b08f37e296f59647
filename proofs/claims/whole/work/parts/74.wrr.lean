section WRR
variable {L : Nat} {X : Nat → Int} {M V : ax_M} {h n : Nat}
theorem m234 {s0 : Nat} (hs0 : s0 < 256) : ax_Ev L X SH 0 234 [(0, (s0 : Int))] M (R1 0 (fun x M' => x = (pcn s0 : Int) ∧ M' = M)) := by
  show ax_G L X SH 0 234 0 [(0, (s0 : Int)), (3, 0), (3, 0)] [] M _
  have hC := at234
  have pb : ∀ s, pcn s ≤ 8 := fun s => by unfold pcn; omega
  have l1 : ∀ (b s : Nat), s < b → s < 256 → ∀ c : Nat, c + pcn s = pcn s0 → ax_G L X SH 0 234 4 [(0, (s0 : Int)), (0, (c : Int)), (0, (s : Int))] [] M (R1 0 (fun x M' => x = (pcn s0 : Int) ∧ M' = M)) := by
    intro b
    induction b with
    | zero => intro s hs; omega
    | succ b ih =>
      intro s hs hs2 c hc
      have hb := pb s0
      by_cases z : s = 0
      · rw [z] at hc ⊢
        have e0 : pcn 0 = 0 := rfl
        refine g3 hC rfl rfl ?_
        refine g12e hC rfl (fun h5 => ?_) (fun h5 => (by omega))
        refine g3 hC rfl rfl ?_
        refine ret1 hC rfl rfl ?_
        exact ⟨by omega, rfl⟩
      · obtain ⟨p1, p2⟩ := pcn_s s hs2 z
        have es : (s : Int) - 1 = ((s - 1 : Nat) : Int) := by omega
        refine g3 hC rfl rfl ?_
        refine g12e hC rfl (fun h5 => (by omega)) (fun h5 => ?_)
        refine n1 hC rfl rfl ⟨by omega, by omega⟩ ?_
        refine g3 hC rfl rfl ?_
        refine g3 hC rfl rfl ?_
        refine g0 hC rfl ?_
        refine g6s hC rfl ⟨by omega, by omega⟩ ?_
        rw [es]
        refine g6 hC rfl (congrArg some (andN (a := s) (b := s - 1) (by omega))) ?_
        refine s2 hC rfl rfl rfl ?_
        refine g14 hC rfl ?_
        exact ih _ (by omega) (by omega) (c + 1) (by omega)
  refine g0 hC rfl ?_
  refine s1 hC rfl rfl rfl ?_
  refine g3 hC rfl rfl ?_
  refine s2 hC rfl rfl rfl ?_
  exact l1 (s0 + 1) s0 (by omega) hs0 0 (Nat.zero_add _)
theorem m235 (hF : Fix M) (hV : RV V h M) (hW : HW V h) (hSW : SW V) {r : Nat} (hr0 : r < 256) : ax_Ev L X SH 1 235 [(2, 142), (0, (r : Int))] M (R1 0 (fun x M' => ((x = 1 ∧ Tch V h r) ∨ (x = 0 ∧ ¬ Tch V h r)) ∧ M' = M)) := by
  show ax_G L X SH 1 235 0 [(2, 142), (0, (r : Int)), (3, 0)] [] M _
  have hC := at235
  have hw := wX0
  have hwr := rX0
  have hb := hW.1.2.1.2
  have hbR := hW.1.1.2
  have l1 : ∀ (m k : Nat), k + m = nS V h → ∀ ll M1, (ll = [(2, 142), (0, (r : Int)), (0, (k : Int))] ∧ M1 = M ∧ ∀ s, s < k → V 47 s = 0 → ¬ (r >>> sa V h s &&& 1 = 0 ∧ r >>> sb V h s &&& 1 = 0)) → ax_G L X SH 1 235 2 ll [] M1 (R1 0 (fun x M' => ((x = 1 ∧ Tch V h r) ∨ (x = 0 ∧ ¬ Tch V h r)) ∧ M' = M)) := by
    refine lp ?_ ?_
    · rintro ll M1 ⟨rfl, rfl, e1⟩
      have hS : Sb X0 M1 M1 := Sb.refl
      refine g3 hC rfl rfl ?_
      refine g3 hC rfl rfl ?_
      refine c1 hC rfl rfl rfl (Nat.le_of_ble_eq_true rfl) (Nat.le_of_ble_eq_true rfl) (mayR k184 rfl) (m184 hF hV hW) (Nat.le_of_ble_eq_true rfl) (fun x M2 hr => ?_)
      obtain ⟨rfl, hr⟩ := hr
      replace hr := hr.symm
      subst hr
      refine g13g hC rfl (fun h5 => ?_) (fun h5 => (by omega))
      refine g0 hC rfl ?_
      refine ret3 hC rfl ⟨by omega, by omega⟩ ?_
      exact ⟨Or.inl ⟨rfl, e1⟩, rfl⟩
    · rintro k hk ll M1 ⟨rfl, rfl, e1⟩ hnext
      have hS : Sb X0 M1 M1 := Sb.refl
      have hs := hW.2.1 k hk
      have hsk := hSW.2.2.1 k (by omega)
      have w1 : r >>> sa V h k < 2147483648 := by rw [Nat.shiftRight_eq_div_pow]; exact Nat.lt_of_le_of_lt (Nat.div_le_self _ _) (by omega)
      have w2 : r >>> sb V h k < 2147483648 := by rw [Nat.shiftRight_eq_div_pow]; exact Nat.lt_of_le_of_lt (Nat.div_le_self _ _) (by omega)
      have nxD : (V 47 k = 0 → ¬ (r >>> sa V h k &&& 1 = 0 ∧ r >>> sb V h k &&& 1 = 0)) → ax_G L X SH 1 235 2 [(2, 142), (0, (r : Int)), (0, (k : Int) + 1)] [] M1 (R1 0 (fun x M' => ((x = 1 ∧ Tch V h r) ∨ (x = 0 ∧ ¬ Tch V h r)) ∧ M' = M1)) := by
        intro hv
        refine hnext _ _ ⟨rfl, rfl, fun s hs => ?_⟩
        by_cases z : s = k
        · rw [z]; exact hv
        · exact e1 s (by omega)
      refine g3 hC rfl rfl ?_
      refine g3 hC rfl rfl ?_
      refine c1 hC rfl rfl rfl (Nat.le_of_ble_eq_true rfl) (Nat.le_of_ble_eq_true rfl) (mayR k184 rfl) (m184 hF hV hW) (Nat.le_of_ble_eq_true rfl) (fun x M2 hr => ?_)
      obtain ⟨rfl, hr⟩ := hr
      replace hr := hr.symm
      subst hr
      refine g13g hC rfl (fun h5 => (by omega)) (fun h5 => ?_)
      refine g3 hC rfl rfl ?_
      refine g3 hC rfl rfl ?_
      refine c1 hC rfl rfl rfl (Nat.le_of_ble_eq_true rfl) (Nat.le_of_ble_eq_true rfl) (mayR k192 rfl) (m192 hF hV hW (by omega)) (Nat.le_of_ble_eq_true rfl) (fun x M2 hr => ?_)
      obtain ⟨rfl, hr⟩ := hr
      replace hr := hr.symm
      subst hr
      refine g12n hC rfl (fun h9 => ?_) (fun h9 => ?_)
      ·
        refine n2 hC rfl rfl ⟨by omega, by omega⟩ ?_
        refine g14 hC rfl ?_
        refine nxD (fun z => ?_)
        rw [if_neg (by omega)] at h9; omega
      ·
        refine g3 hC rfl rfl ?_
        refine g3 hC rfl rfl ?_
        refine g19 hC rfl sh142 (flt12 rfl) ft12_44 ((hS.fix hw hF).g fx_142_44) ?_
        refine g0 hC rfl ?_
        refine g0 hC rfl ?_
        refine g3 hC rfl rfl ?_
        refine g6m hC rfl ⟨by omega, by omega⟩ ?_
        refine g6a hC rfl ⟨by omega, by omega⟩ ?_
        refine r21 ((30 + (3 * k))) hC rfl (by omega) sh178 (Or.inl rfl) (by omega) (rmA hS hwr hV hW (by omega)) ?_
        refine g6 hC rfl (congrArg some (shrN (a := r) (k := sa V h k) (by omega) (by omega))) ?_
        refine g0 hC rfl ?_
        refine g6 hC rfl (congrArg some (andN (a := r >>> sa V h k) (b := 1) w1)) ?_
        refine g12n hC rfl (fun h22 => ?_) (fun h22 => ?_)
        ·
          refine n2 hC rfl rfl ⟨by omega, by omega⟩ ?_
          refine g14 hC rfl ?_
          exact nxD (fun _ w => h22 (by rw [w.1]; rfl))
        ·
          refine g3 hC rfl rfl ?_
          refine g3 hC rfl rfl ?_
          refine g19 hC rfl sh142 (flt12 rfl) ft12_44 ((hS.fix hw hF).g fx_142_44) ?_
          refine g0 hC rfl ?_
          refine g0 hC rfl ?_
          refine g3 hC rfl rfl ?_
          refine g6m hC rfl ⟨by omega, by omega⟩ ?_
          refine g6a hC rfl ⟨by omega, by omega⟩ ?_
          refine r21 ((31 + (3 * k))) hC rfl (by omega) sh178 (Or.inl rfl) (by omega) (rmB hS hwr hV hW (by omega)) ?_
          refine g6 hC rfl (congrArg some (shrN (a := r) (k := sb V h k) (by omega) (by omega))) ?_
          refine g0 hC rfl ?_
          refine g6 hC rfl (congrArg some (andN (a := r >>> sb V h k) (b := 1) w2)) ?_
          refine g12n hC rfl (fun h35 => ?_) (fun h35 => ?_)
          ·
            refine n2 hC rfl rfl ⟨by omega, by omega⟩ ?_
            refine g14 hC rfl ?_
            exact nxD (fun _ w => h35 (by rw [w.2]; rfl))
          ·
            refine g0 hC rfl ?_
            refine ret3 hC rfl ⟨by omega, by omega⟩ ?_
            refine ⟨Or.inr ⟨rfl, fun w => w k hk ?_ ⟨Int.ofNat_eq_zero.mp (by omega), Int.ofNat_eq_zero.mp (by omega)⟩⟩, rfl⟩
            rcases hsk with y | y
            · exact y
            · rw [if_pos y] at h9; omega
  refine g0 hC rfl ?_
  refine s2 hC rfl rfl rfl ?_
  exact l1 (nS V h) 0 (Nat.zero_add _) _ _ ⟨rfl, rfl, fun s hs => absurd hs (Nat.not_lt_zero s)⟩
theorem m236 (hF : Fix M) (hV : RV V h M) (hW : HW V h) (hSW : SW V) : ax_Ev L X SH 2 236 [(2, 142)] M (R1 0 (fun x M' => (∃ r : Nat, x = (r : Int) ∧ isWr V h r) ∧ M' = M)) := by
  show ax_G L X SH 2 236 0 [(2, 142), (3, 0), (3, 0)] [] M _
  have hC := at236
  have hw := wX0
  have hwr := rX0
  have hbR := hW.1.1.2
  have hR := shR (nR V h) (by omega)
  have hfull : Tch V h (1 <<< nR V h - 1) := by
    intro s hs _ w
    exact tfull (nR V h) (by omega) (sa V h s) (hW.2.1 s hs).1.2 w.1
  obtain ⟨N, hN⟩ : ∃ N, N = 1 <<< nR V h := ⟨_, rfl⟩
  have hsh : (Int32.ofInt ((1 : Nat) : Int) <<< (Int32.ofInt ((nR V h : Nat) : Int) &&& 31)).toInt = ((N : Nat) : Int) := by rw [shlN (a := 1) (k := nR V h) (by omega) (by omega), hN]
  rw [← hN] at hR hfull
  have l1 : ∀ (m k : Nat), k + m = N → ∀ ll M1, (∃ b : Int, ll = [(2, 142), (0, b), (0, (k : Int))] ∧ M1 = M ∧ ((b = -1 ∧ ∀ s, s < k → ¬ Tch V h s) ∨ (∃ r : Nat, b = (r : Int) ∧ r < k ∧ Tch V h r ∧ ∀ s, s < k → Tch V h s → lex r s))) → ax_G L X SH 2 236 4 ll [] M1 (R1 0 (fun x M' => (∃ r : Nat, x = (r : Int) ∧ isWr V h r) ∧ M' = M)) := by
    refine lp ?_ ?_
    · rintro ll M1 ⟨b, rfl, rfl, hb⟩
      have hS : Sb X0 M1 M1 := Sb.refl
      refine g3 hC rfl rfl ?_
      refine g0 hC rfl ?_
      refine g3 hC rfl rfl ?_
      refine c1 hC rfl rfl rfl (Nat.le_of_ble_eq_true rfl) (Nat.le_of_ble_eq_true rfl) (mayR k183 rfl) (m183 hF hV hW) (Nat.le_of_ble_eq_true rfl) (fun x M2 hr => ?_)
      obtain ⟨rfl, hr⟩ := hr
      replace hr := hr.symm
      subst hr
      refine g6 hC rfl (congrArg some hsh) ?_
      refine g13g hC rfl (fun h9 => ?_) (fun h9 => (by clear hb; omega))
      refine g3 hC rfl rfl ?_
      refine ret1 hC rfl rfl ?_
      refine ⟨?_, rfl⟩
      rcases hb with ⟨z1, z2⟩ | ⟨r, z1, z2, z3, z4⟩
      · exact absurd hfull (z2 (N - 1) (by omega))
      · exact ⟨r, z1, by rw [← hN]; exact z2, z3, fun s hs => z4 s (by rw [← hN] at hs; exact hs)⟩
    · rintro k hk ll M1 ⟨b, rfl, rfl, hb⟩ hnext
      have hS : Sb X0 M1 M1 := Sb.refl
      rcases hb with ⟨rfl, z2⟩ | ⟨r, rfl, z2, z3, z4⟩
      · have tk : ∀ x, ((x = 1 ∧ Tch V h k) ∨ (x = 0 ∧ ¬ Tch V h k)) → True := fun _ _ => trivial
        refine g3 hC rfl rfl ?_
        refine g0 hC rfl ?_
        refine g3 hC rfl rfl ?_
        refine c1 hC rfl rfl rfl (Nat.le_of_ble_eq_true rfl) (Nat.le_of_ble_eq_true rfl) (mayR k183 rfl) (m183 hF hV hW) (Nat.le_of_ble_eq_true rfl) (fun x M2 hr => ?_)
        obtain ⟨rfl, hr⟩ := hr
        replace hr := hr.symm
        subst hr
        refine g6 hC rfl (congrArg some hsh) ?_
        refine g13g hC rfl (fun h9 => (by omega)) (fun h9 => ?_)
        refine g3 hC rfl rfl ?_
        refine g0 hC rfl ?_
        refine g13e hC rfl (fun h12 => ?_) (fun h12 => (by omega))
        refine g3 hC rfl rfl ?_
        refine g3 hC rfl rfl ?_
        refine c1 hC rfl rfl rfl (Nat.le_of_ble_eq_true rfl) (Nat.le_of_ble_eq_true rfl) (mayR k235 rfl) (m235 hF hV hW hSW (by omega)) (Nat.le_of_ble_eq_true rfl) (fun x M2 hr => ?_)
        obtain ⟨hx, hr⟩ := hr; replace hr := hr.symm; subst hr
        refine g12e hC rfl (fun h21 => ?_) (fun h21 => ?_)
        ·
          refine n2 hC rfl rfl ⟨by omega, by omega⟩ ?_
          refine g14 hC rfl ?_
          refine hnext _ _ ⟨-1, rfl, rfl, Or.inl ⟨rfl, fun s hs => ?_⟩⟩
          by_cases y : s = k
          · rw [y]; rcases hx with w | w
            · omega
            · exact w.2
          · exact z2 s (by omega)
        ·
          refine g3 hC rfl rfl ?_
          refine s1 hC rfl rfl rfl ?_
          refine n2 hC rfl rfl ⟨by omega, by omega⟩ ?_
          refine g14 hC rfl ?_
          have ht : Tch V h k := by
            rcases hx with w | w
            · exact w.2
            · omega
          refine hnext _ _ ⟨_, rfl, rfl, Or.inr ⟨k, rfl, by omega, ht, fun s hs hs2 => ?_⟩⟩
          by_cases y : s = k
          · rw [y]; exact Or.inr ⟨rfl, Nat.le_refl _⟩
          · exact absurd hs2 (z2 s (by omega))
      · have keep : ¬ (pcn k < pcn r ∧ Tch V h k) → ax_G L X SH 2 236 4 [(2, 142), (0, (r : Int)), (0, (k : Int) + 1)] [] M1 (R1 0 (fun x M' => (∃ r : Nat, x = (r : Int) ∧ isWr V h r) ∧ M' = M1)) := by
          intro hno
          refine hnext _ _ ⟨_, rfl, rfl, Or.inr ⟨r, rfl, by omega, z3, fun s hs hs2 => ?_⟩⟩
          by_cases y : s = k
          · rw [y] at hs2 ⊢
            unfold lex
            by_cases u : pcn k < pcn r
            · exact absurd ⟨u, hs2⟩ hno
            · omega
          · exact z4 s (by omega) hs2
        refine g3 hC rfl rfl ?_
        refine g0 hC rfl ?_
        refine g3 hC rfl rfl ?_
        refine c1 hC rfl rfl rfl (Nat.le_of_ble_eq_true rfl) (Nat.le_of_ble_eq_true rfl) (mayR k183 rfl) (m183 hF hV hW) (Nat.le_of_ble_eq_true rfl) (fun x M2 hr => ?_)
        obtain ⟨rfl, hr⟩ := hr
        replace hr := hr.symm
        subst hr
        refine g6 hC rfl (congrArg some hsh) ?_
        refine g13g hC rfl (fun h9 => (by omega)) (fun h9 => ?_)
        refine g3 hC rfl rfl ?_
        refine g0 hC rfl ?_
        refine g13e hC rfl (fun h12 => (by omega)) (fun h12 => ?_)
        refine g3 hC rfl rfl ?_
        refine c1 hC rfl rfl rfl (Nat.le_of_ble_eq_true rfl) (Nat.le_of_ble_eq_true rfl) (mayS k234 rfl) (m234 (by omega)) (Nat.le_of_ble_eq_true rfl) (fun x M2 hr => ?_)
        obtain ⟨rfl, hr⟩ := hr
        replace hr := hr.symm
        subst hr
        refine g3 hC rfl rfl ?_
        refine c1 hC rfl rfl rfl (Nat.le_of_ble_eq_true rfl) (Nat.le_of_ble_eq_true rfl) (mayS k234 rfl) (m234 (by omega)) (Nat.le_of_ble_eq_true rfl) (fun x M2 hr => ?_)
        obtain ⟨rfl, hr⟩ := hr
        replace hr := hr.symm
        subst hr
        refine g13g hC rfl (fun h17 => ?_) (fun h17 => ?_)
        ·
          refine n2 hC rfl rfl ⟨by omega, by omega⟩ ?_
          refine g14 hC rfl ?_
          exact keep (fun w => by omega)
        ·
          refine g3 hC rfl rfl ?_
          refine g3 hC rfl rfl ?_
          refine c1 hC rfl rfl rfl (Nat.le_of_ble_eq_true rfl) (Nat.le_of_ble_eq_true rfl) (mayR k235 rfl) (m235 hF hV hW hSW (by omega)) (Nat.le_of_ble_eq_true rfl) (fun x M2 hr => ?_)
          obtain ⟨hx, hr⟩ := hr; replace hr := hr.symm; subst hr
          refine g12e hC rfl (fun h21 => ?_) (fun h21 => ?_)
          ·
            refine n2 hC rfl rfl ⟨by omega, by omega⟩ ?_
            refine g14 hC rfl ?_
            refine keep (fun w => ?_)
            rcases hx with y | y
            · omega
            · exact y.2 w.2
          ·
            refine g3 hC rfl rfl ?_
            refine s1 hC rfl rfl rfl ?_
            refine n2 hC rfl rfl ⟨by omega, by omega⟩ ?_
            refine g14 hC rfl ?_
            have ht : Tch V h k := by
              rcases hx with w | w
              · exact w.2
              · omega
            refine hnext _ _ ⟨_, rfl, rfl, Or.inr ⟨k, rfl, by omega, ht, fun s hs hs2 => ?_⟩⟩
            by_cases y : s = k
            · rw [y]; exact Or.inr ⟨rfl, Nat.le_refl _⟩
            · have := z4 s (by omega) hs2
              unfold lex at this ⊢; omega
  refine g0 hC rfl ?_
  refine s1 hC rfl rfl rfl ?_
  refine g0 hC rfl ?_
  refine s2 hC rfl rfl rfl ?_
  exact l1 N 0 (Nat.zero_add _) _ _ ⟨_, rfl, rfl, Or.inl ⟨rfl, fun s hs => absurd hs (Nat.not_lt_zero s)⟩⟩
theorem op19 (hR0 : Rel n M) : OP L X n 0 119 236 [(2, 0)] [(2, 142)] M := by
  have hR := hR0
  obtain ⟨h, hh, hF, hG⟩ := hR
  have hG0 := hG
  obtain ⟨hW, hSW, hPW, hRV, hGT, hGN, hGM, hGH, hGS, hGX⟩ := hG
  have hV : HV M h M := HV.refl
  have hH3 : M 0 3 = (h : Int) := hGX.1.1
  refine OP.tw (d' := 2) (m119 hF hh hG0) (Q := fun x M1 y M2 => (∃ r : Nat, y = (r : Int) ∧ isWr M h r) ∧ M2 = M) (fun x M1 hx => ?_) (fun x M1 y M2 hx hy => ?_) (by decide) (by decide)
  · rw [hx.2]; exact m236 hF hRV hW hSW
  · obtain ⟨⟨r, rfl, h1⟩, -⟩ := hx
    obtain ⟨⟨r2, rfl, h2⟩, rfl⟩ := hy
    exact ⟨by rw [isW_u h2 h1], h, hh, hF, hG0.up (by omega)⟩
end WRR
