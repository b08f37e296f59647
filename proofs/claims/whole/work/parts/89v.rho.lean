def XHO : ax_W := ([(176, 185), (228, 230)], [(142, 2), (142, 4), (142, 5), (142, 6), (142, 41), (142, 51), (142, 53), (142, 110), (142, 112), (142, 113), (142, 114)])
def hlf (a : Nat) : Nat := if a = 176 then 4 else if a = 177 then 24 else if a = 178 then 30 else if a = 180 then 32 else if a = 181 then 3 else if a = 184 then 1600 else 2
def KH (M M' : ax_M) : Prop := ∀ a k, 176 ≤ a → a ≤ 184 → a ≠ 179 → hlf a ≤ k → M' a k = M a k
theorem KH.refl {M : ax_M} : KH M M := fun _ _ _ _ _ _ => rfl
theorem KH.trans {M M1 M2 : ax_M} (h : KH M M1) (h' : KH M1 M2) : KH M M2 := fun a k h1 h2 h3 h4 => (h' a k h1 h2 h3 h4).trans (h a k h1 h2 h3 h4)
theorem KH.sb {M M1 M2 : ax_M} {W : ax_W} (h : KH M M1) (hS : Sb W M1 M2) (hr : rok W) : KH M M2 := fun a k h1 h2 h3 h4 => (hS a k (hr a k h1 (by omega))).trans (h a k h1 h2 h3 h4)
theorem KH.up {M M1 : ax_M} (h : KH M M1) {a i : Nat} {x : Int} (hi : a = 179 ∨ i < hlf a ∨ a < 176) : KH M (ax_up M1 a i x) := fun b k h1 h2 h3 h4 => by
  by_cases z : b = a
  · subst z
    have : k ≠ i := by omega
    rw [ax_up_of this]; exact h b k h1 h2 h3 h4
  · rw [ax_up2n z]; exact h b k h1 h2 h3 h4
def RCd (M : ax_M) (w cd : Nat) (o : Option (List Int)) : Prop := (o = none ∧ M 182 w = -1) ∨ ∃ (c : List Int) (f : Nat), o = some c ∧ M 182 w = (f : Int) ∧ M 183 w = ((f + c.length : Nat) : Int) ∧ f + c.length ≤ cd ∧ ∀ i, i < c.length → M 184 (f + i) = c.getD i 0
def cdl (s : HS) : Nat := (s.2.2.2.2.1.getD []).length + (s.2.2.2.2.2.1.getD []).length
def RHo (s : HS) (M : ax_M) : Prop :=
  (M 176 0 = (s.1.1 : Int) ∧ M 176 1 = (s.2.2.1.1 : Int) ∧ M 176 2 = (s.2.2.2.1.1 : Int) ∧ M 176 3 = (s.2.1.1 : Int)) ∧
  ((∀ k, k < s.1.1 → M 177 (8 * 0 + k) = (nrm (s.1.2 k) : Int)) ∧ (∀ k, k < s.2.2.1.1 → M 177 (8 * 1 + k) = (nrm (s.2.2.1.2 k).1 : Int)) ∧ ∀ k, k < s.2.2.2.1.1 → M 177 (8 * 2 + k) = (nrm (s.2.2.2.1.2 k).1 : Int)) ∧
  (∀ k, k < s.2.1.1 → M 178 (3 * k) = ((s.2.1.2 k).1 : Int) ∧ M 178 (3 * k + 1) = ((s.2.1.2 k).2.1 : Int) ∧ M 178 (3 * k + 2) = (s.2.1.2 k).2.2) ∧
  (∀ k, k < s.2.2.1.1 → M 179 k = (s.2.2.1.2 k).2) ∧
  (∀ k, k < s.2.2.2.1.1 → M 180 (4 * k) = ((s.2.2.2.1.2 k).2.1 : Int) ∧ M 180 (4 * k + 1) = ((s.2.2.2.1.2 k).2.2.1 : Int) ∧ M 180 (4 * k + 2) = (s.2.2.2.1.2 k).2.2.2.1 ∧ M 180 (4 * k + 3) = (s.2.2.2.1.2 k).2.2.2.2) ∧
  (M 181 0 = s.2.2.2.2.2.2.1 ∧ M 181 1 = s.2.2.2.2.2.2.2.1 ∧ M 181 2 = s.2.2.2.2.2.2.2.2) ∧
  M 142 51 = ((cdl s : Nat) : Int) ∧ RCd M 0 (cdl s) s.2.2.2.2.1 ∧ RCd M 1 (cdl s) s.2.2.2.2.2.1
section RHO
variable {L : Nat} {X : Nat → Int} {M M1 : ax_M} {n l : Nat} {s : HS} {T : Nat → Int} {q : PS} {W : ax_W}
theorem RCd.of {w cd cd' : Nat} {o : Option (List Int)} (h : RCd M w cd o) (hcd : cd ≤ cd') (e2 : M1 182 w = M 182 w) (e3 : M1 183 w = M 183 w) (e4 : ∀ i, i < cd → M1 184 i = M 184 i) : RCd M1 w cd' o := by
  rcases h with ⟨a, b⟩ | ⟨c, f, a, b, d, e, g⟩
  · exact Or.inl ⟨a, e2.trans b⟩
  · exact Or.inr ⟨c, f, a, e2.trans b, e3.trans d, Nat.le_trans e hcd, fun i hi => (e4 (f + i) (by omega)).trans (g i hi)⟩
theorem RHo.of (h : RHo s M) (e : ∀ a k, 176 ≤ a → a ≤ 184 → M1 a k = M a k) (e51 : M1 142 51 = M 142 51) : RHo s M1 := by
  obtain ⟨⟨a1, a2, a3, a4⟩, ⟨b1, b2, b3⟩, t, p, c, ⟨d1, d2, d3⟩, f, r1, r2⟩ := h
  exact ⟨⟨(e 176 _ (by decide) (by decide)).trans a1, (e 176 _ (by decide) (by decide)).trans a2, (e 176 _ (by decide) (by decide)).trans a3, (e 176 _ (by decide) (by decide)).trans a4⟩, ⟨fun k hk => (e 177 _ (by decide) (by decide)).trans (b1 k hk), fun k hk => (e 177 _ (by decide) (by decide)).trans (b2 k hk), fun k hk => (e 177 _ (by decide) (by decide)).trans (b3 k hk)⟩, fun k hk => ⟨(e 178 _ (by decide) (by decide)).trans (t k hk).1, (e 178 _ (by decide) (by decide)).trans (t k hk).2.1, (e 178 _ (by decide) (by decide)).trans (t k hk).2.2⟩, fun k hk => (e 179 _ (by decide) (by decide)).trans (p k hk), fun k hk => ⟨(e 180 _ (by decide) (by decide)).trans (c k hk).1, (e 180 _ (by decide) (by decide)).trans (c k hk).2.1, (e 180 _ (by decide) (by decide)).trans (c k hk).2.2.1, (e 180 _ (by decide) (by decide)).trans (c k hk).2.2.2⟩, ⟨(e 181 _ (by decide) (by decide)).trans d1, (e 181 _ (by decide) (by decide)).trans d2, (e 181 _ (by decide) (by decide)).trans d3⟩, e51.trans f, r1.of (Nat.le_refl _) (e 182 _ (by decide) (by decide)) (e 183 _ (by decide) (by decide)) (fun i _ => e 184 i (by decide) (by decide)), r2.of (Nat.le_refl _) (e 182 _ (by decide) (by decide)) (e 183 _ (by decide) (by decide)) (fun i _ => e 184 i (by decide) (by decide))⟩
theorem RHo.sb (h : RHo s M) (hS : Sb W M M1) (hr : rok W) (h51 : wb W 142 51 = false) : RHo s M1 := h.of (fun a k h1 h2 => hS a k (hr a k h1 (by omega))) (hS _ _ h51)
theorem rNM : rok XNM := rokB (by decide +kernel)
theorem rAK : rok XAK := rokB (by decide +kernel)
theorem RHo.nm (h : RHo s M) (hS : Sb XNM M M1) : RHo s M1 := h.sb hS rNM rfl
def fkN (s : HS) (x : Nm) (t : Nat) : Option Nat := if t = 0 then fdN s.1.2 x s.1.1 else if t = 1 then fdN (fun k => (s.2.2.1.2 k).1) x s.2.2.1.1 else fdN (fun k => (s.2.2.2.1.2 k).1) x s.2.2.2.1.1
theorem e170 (hF : Fix M) (hR : RHo s M) (hWf : WfH l s) {x : Nm} (hx : nmOk x) {t : Nat} (ht : t < 3) : ax_Ev L X SH 0 170 [(2, 142), (0, (t : Int)), (1, (nrm x : Int))] M (R1 0 (fun y M' => M' = M ∧ y = (match fkN s x t with | some k => (k : Int) | none => -1))) := by
  have hx2 := hx.2.2
  have ht3 : t = 0 ∨ t = 1 ∨ t = 2 := by omega
  rcases ht3 with rfl | rfl | rfl
  · refine (m170 hF (t := 0) (n := s.1.1) (by decide) hR.1.1 hWf.1.1).imp (fun r M' hp => ?_)
    obtain ⟨y, e1, e2, e3⟩ := hp
    exact ⟨y, e1, e2, At1_nr (f := s.1.2) (fun k hk => (hWf.2.1 k hk).2.2) hx2 hR.2.1.1 e3⟩
  · refine (m170 hF (t := 1) (n := s.2.2.1.1) (by decide) hR.1.2.1 (Nat.le_trans hWf.1.2.2.1 (by decide))).imp (fun r M' hp => ?_)
    obtain ⟨y, e1, e2, e3⟩ := hp
    exact ⟨y, e1, e2, At1_nr (f := fun k => (s.2.2.1.2 k).1) (fun k hk => (hWf.2.2.2.1 k hk).1.2.2) hx2 hR.2.1.2.1 e3⟩
  · refine (m170 hF (t := 2) (n := s.2.2.2.1.1) (by decide) hR.1.2.2.1 hWf.1.2.2.2).imp (fun r M' hp => ?_)
    obtain ⟨y, e1, e2, e3⟩ := hp
    exact ⟨y, e1, e2, At1_nr (f := fun k => (s.2.2.2.1.2 k).1) (fun k hk => (hWf.2.2.2.2.1 k hk).1.2.2) hx2 hR.2.1.2.2 e3⟩
theorem newN_i {f p : Int} (r : naR T n q = some (f, p)) (k : Nm → PS → SRs) : newN T n s q k = .inl (f, p) := by unfold newN tryR; rw [r]
theorem newN_d (r : naR T n q = none) (z : nmd s (nmQ T n q) = true) (k : Nm → PS → SRs) : newN T n s q k = .inl (3, (q.1 : Int)) := by unfold newN tryR; rw [r]; dsimp only; rw [z, if_pos rfl]
theorem newN_o (r : naR T n q = none) (z : nmd s (nmQ T n q) = false) (k : Nm → PS → SRs) : newN T n s q k = k (nmQ T n q) (nx T n q) := by unfold newN tryR; rw [r]; dsimp only; rw [z, if_neg Bool.false_ne_true]
theorem m171 (hF : Fix M) (hn : n ≤ 1600) (hR : RHo s M) (hWf : WfH l s) (hWd : Wd M) (hq : RT T n q M) (hqn : q.1 ≤ n) : ax_Ev L X SH 4 171 [(2, 142)] M (R1 1 (fun x M' => Sb XNM M M' ∧ ((∃ f p, f ≠ 0 ∧ BF f p M' ∧ ∀ k, newN T n s q k = .inl (f, p)) ∨ (x = (nrm (nmQ T n q) : Int) ∧ RT T n (nx T n q) M' ∧ ∀ k, newN T n s q k = k (nmQ T n q) (nx T n q))))) := by
  show ax_G L X SH 4 171 0 [(2, 142), (3, 0), (3, 0), (3, 0)] [] M _
  obtain ⟨P, hP⟩ : ∃ P, P = fun (x : Int) (M' : ax_M) => Sb XNM M M' ∧ ((∃ f p, f ≠ 0 ∧ BF f p M' ∧ ∀ k, newN T n s q k = .inl (f, p)) ∨ (x = (nrm (nmQ T n q) : Int) ∧ RT T n (nx T n q) M' ∧ ∀ k, newN T n s q k = k (nmQ T n q) (nx T n q))) := ⟨_, rfl⟩
  rw [← hP]
  have hC := at171
  have hw : wok XNM = true := by decide +kernel
  have lpf : ∀ (x : Int) (Mx : ax_M), Sb XNM M Mx → (∃ f p, f ≠ 0 ∧ BF f p Mx ∧ ∀ k, newN T n s q k = .inl (f, p)) ∨ (naR T n q = none ∧ x = (nrm (nmQ T n q) : Int) ∧ RT T n (nx T n q) Mx ∧ Mx 142 41 = (q.1 : Int)) → ∀ (m k : Nat), k + m = 3 → ∀ ll M1, (ll = [(2, 142), (1, x), (3, 0), (0, (k : Int))] ∧ ((M1 = Mx ∧ M1 142 5 = 0 ∧ ∀ t, t < k → fkN s (nmQ T n q) t = none) ∨ (¬ M1 142 5 = 0 ∧ P x M1))) → ax_G L X SH 4 171 5 ll [] M1 (R1 1 P) := by
    intro x Mx hSx hx
    refine lp ?_ ?_
    · rintro ll M1 ⟨rfl, hI⟩
      have hS : Sb XNM M M := Sb.refl
      refine g3 hC rfl rfl ?_
      refine g0 hC rfl ?_
      refine g13g hC rfl (fun h7 => ?_) (fun h7 => (by omega))
      refine g3 hC rfl rfl ?_
      refine ret1 hC rfl rfl ?_
      rcases hI with ⟨rfl, h5, hI⟩ | ⟨-, hI⟩
      · rcases hx with ⟨f, p, a, b, -⟩ | ⟨a, b, c, -⟩
        · exact absurd (b.1.symm.trans h5) a
        · rw [hP]
          refine ⟨hSx, Or.inr ⟨b, c, fun k => newN_o a ?_ k⟩⟩
          have i0 : fdN s.1.2 (nmQ T n q) s.1.1 = none := hI 0 (by decide)
          have i1 : fdN (fun k => (s.2.2.1.2 k).1) (nmQ T n q) s.2.2.1.1 = none := hI 1 (by decide)
          have i2 : fdN (fun k => (s.2.2.2.1.2 k).1) (nmQ T n q) s.2.2.2.1.1 = none := hI 2 (by decide)
          unfold nmd
          rw [i0, i1, i2]; rfl
      · exact hI
    · rintro k hk ll M1 ⟨rfl, hI⟩ hnext
      have hS : Sb XNM M M := Sb.refl
      rcases hI with ⟨rfl, h5, hI⟩ | ⟨h5, hI⟩
      · obtain ⟨a, b, c, d⟩ : naR T n q = none ∧ x = (nrm (nmQ T n q) : Int) ∧ RT T n (nx T n q) M1 ∧ M1 142 41 = (q.1 : Int) := by
          rcases hx with ⟨f, p, a, b, -⟩ | y
          · exact absurd (b.1.symm.trans h5) a
          · exact y
        subst b
        have hF1 := hSx.fix hw hF
        have c170 := e170 (L := L) (X := X) hF1 (hR.nm hSx) hWf (nmQ_ok hqn a) hk
        cases z : fkN s (nmQ T n q) k with
        | none =>
          rw [z] at c170
          refine g3 hC rfl rfl ?_
          refine g0 hC rfl ?_
          refine g13g hC rfl (fun h7 => (by omega)) (fun h7 => ?_)
          refine g3 hC rfl rfl ?_
          refine g19 hC rfl sh142 (flt12 rfl) ft12_5 h5 ?_
          refine g12n hC rfl (fun h10 => (by omega)) (fun h10 => ?_)
          refine g3 hC rfl rfl ?_
          refine g3 hC rfl rfl ?_
          refine g3 hC rfl rfl ?_
          refine c1 hC rfl rfl rfl (Nat.le_of_ble_eq_true rfl) (Nat.le_of_ble_eq_true rfl) (mayR k170 rfl) c170 (Nat.le_of_ble_eq_true rfl) (fun y M2 hr => ?_)
          obtain ⟨hr, hy⟩ := hr; replace hr := hr.symm; subst hr; replace hy : y = -1 := hy; subst hy
          refine g0 hC rfl ?_
          refine g13e hC rfl (fun h16 => ?_) (fun h16 => (by omega))
          refine n3 hC rfl rfl ⟨by omega, by omega⟩ ?_
          refine g14 hC rfl ?_
          refine hnext _ _ ⟨rfl, Or.inl ⟨rfl, h5, fun t ht => ?_⟩⟩
          by_cases y : t = k
          · rw [y]; exact z
          · exact hI t (by omega)
        | some i =>
          rw [z] at c170
          refine g3 hC rfl rfl ?_
          refine g0 hC rfl ?_
          refine g13g hC rfl (fun h7 => (by omega)) (fun h7 => ?_)
          refine g3 hC rfl rfl ?_
          refine g19 hC rfl sh142 (flt12 rfl) ft12_5 h5 ?_
          refine g12n hC rfl (fun h10 => (by omega)) (fun h10 => ?_)
          refine g3 hC rfl rfl ?_
          refine g3 hC rfl rfl ?_
          refine g3 hC rfl rfl ?_
          refine c1 hC rfl rfl rfl (Nat.le_of_ble_eq_true rfl) (Nat.le_of_ble_eq_true rfl) (mayR k170 rfl) c170 (Nat.le_of_ble_eq_true rfl) (fun y M2 hr => ?_)
          obtain ⟨hr, hy⟩ := hr; replace hr := hr.symm; subst hr; replace hy : y = (i : Int) := hy; subst hy
          refine g0 hC rfl ?_
          refine g13e hC rfl (fun h16 => (by omega)) (fun h16 => ?_)
          refine g3 hC rfl rfl ?_
          refine g0 hC rfl ?_
          refine g3 hC rfl rfl ?_
          refine g19 hC rfl sh142 (flt12 rfl) ft12_41 d ?_
          refine c0 hC rfl rfl rfl (Nat.le_of_ble_eq_true rfl) (Nat.le_of_ble_eq_true rfl) (mayR k156 rfl) (m156 h5) (Nat.le_of_ble_eq_true rfl) (fun M3 hr => ?_)
          refine n3 hC rfl rfl ⟨by omega, by omega⟩ ?_
          refine g14 hC rfl ?_
          subst hr
          have hnd : nmd s (nmQ T n q) = true := by
            unfold nmd
            have hk3 : k = 0 ∨ k = 1 ∨ k = 2 := by omega
            rcases hk3 with rfl | rfl | rfl
            · have z' : fdN s.1.2 (nmQ T n q) s.1.1 = some i := z
              rw [z']; rfl
            · have z' : fdN (fun k => (s.2.2.1.2 k).1) (nmQ T n q) s.2.2.1.1 = some i := z
              rw [z', Bool.or_eq_true, Bool.or_eq_true]; exact Or.inr (Or.inl rfl)
            · have z' : fdN (fun k => (s.2.2.2.1.2 k).1) (nmQ T n q) s.2.2.2.1.1 = some i := z
              rw [z', Bool.or_eq_true, Bool.or_eq_true]; exact Or.inr (Or.inr rfl)
          refine hnext _ _ ⟨rfl, Or.inr ⟨?_, ?_⟩⟩
          · rw [BF.up.1]; decide
          · rw [hP]; exact ⟨(hSx.up rfl).up rfl, Or.inl ⟨3, _, by decide, BF.up, newN_d a hnd⟩⟩
      · skip
        refine g3 hC rfl rfl ?_
        refine g0 hC rfl ?_
        refine g13g hC rfl (fun h7 => (by omega)) (fun h7 => ?_)
        refine g3 hC rfl rfl ?_
        refine g19 hC rfl sh142 (flt12 rfl) ft12_5 (Eq.refl (M1 142 5)) ?_
        refine g12n hC rfl (fun h10 => ?_) (fun h10 => (by omega))
        refine n3 hC rfl rfl ⟨by omega, by omega⟩ ?_
        refine g14 hC rfl ?_
        exact hnext _ _ ⟨rfl, Or.inr ⟨h5, hI⟩⟩
  have hS : Sb XNM M M := Sb.refl
  refine g3 hC rfl rfl ?_
  refine c1 hC rfl rfl rfl (Nat.le_of_ble_eq_true rfl) (Nat.le_of_ble_eq_true rfl) (mayR k167 rfl) (m167 hF hn hq hqn hWd) (Nat.le_of_ble_eq_true rfl) (fun x Mx hr => ?_)
  refine sl1 hC rfl rfl ?_
  refine g0 hC rfl ?_
  refine s3 hC rfl rfl rfl ?_
  obtain ⟨hSx, hr⟩ := hr
  rcases hr with ⟨f, p, e, hf, hb⟩ | ⟨e, hrt, hx, hm⟩
  · refine lpf x Mx hSx (Or.inl ⟨f, p, hf, hb, newN_i e⟩) 3 0 rfl _ _ ⟨rfl, Or.inr ⟨by rw [hb.1]; exact hf, ?_⟩⟩
    rw [hP]; exact ⟨hSx, Or.inl ⟨f, p, hf, hb, newN_i e⟩⟩
  · exact lpf x Mx hSx (Or.inr ⟨e, hx, hrt, hm⟩) 3 0 rfl _ _ ⟨rfl, Or.inl ⟨rfl, hrt.2.2.2.2.1, fun t ht => absurd ht (Nat.not_lt_zero t)⟩⟩
theorem m172b (hF : Fix M) (hb : ¬ M 142 5 = 0) {t ct : Nat} (ht : t < 3) (hm : M 176 t = (ct : Int)) (hct : ct ≤ 8) : ax_Ev L X SH 4 172 [(2, 142), (0, (t : Int))] M (R1 0 (fun x M' => x = 0 ∧ M' = M)) := by
  show ax_G L X SH 4 172 0 [(2, 142), (0, (t : Int)), (3, 0), (3, 0), (3, 0)] [] M _
  have hC := at172
  have hS : Sb XNM M M := Sb.refl
  refine g3 hC rfl rfl ?_
  refine c1 hC rfl rfl rfl (Nat.le_of_ble_eq_true rfl) (Nat.le_of_ble_eq_true rfl) (mayR k167 rfl) (m167b hb) (Nat.le_of_ble_eq_true rfl) (fun x Mx hr => ?_)
  obtain ⟨rfl, hr⟩ := hr; replace hr := hr.symm; subst hr
  refine sl2 hC rfl rfl ?_
  refine g3 hC rfl rfl ?_
  refine g3 hC rfl rfl ?_
  refine g3 hC rfl rfl ?_
  refine c1 hC rfl rfl rfl (Nat.le_of_ble_eq_true rfl) (Nat.le_of_ble_eq_true rfl) (mayR k170 rfl) (m170 hF ht hm hct) (Nat.le_of_ble_eq_true rfl) (fun y M2 hr => ?_)
  obtain ⟨hr, hy⟩ := hr; replace hr := hr.symm; subst hr
  refine s4 hC rfl rfl rfl ?_
  refine g3 hC rfl rfl ?_
  refine g19 hC rfl sh142 (flt12 rfl) ft12_5 (Eq.refl (M 142 5)) ?_
  refine g12n hC rfl (fun h10 => ?_) (fun h10 => (by omega))
  refine g3 hC rfl rfl ?_
  refine g19 hC rfl sh142 (flt12 rfl) ft12_5 (Eq.refl (M 142 5)) ?_
  refine g12n hC rfl (fun h21 => ?_) (fun h21 => (by omega))
  refine g0 hC rfl ?_
  refine ret1 hC rfl rfl ?_
  exact ⟨rfl, rfl⟩
theorem m172 (hF : Fix M) (hn : n ≤ 1600) (hWd : Wd M) (hq : RT T n q M) (hqn : q.1 ≤ n) {t ct : Nat} {f : Nat → Nm} (ht : t < 3) (hm : M 176 t = (ct : Int)) (hct : ct ≤ 8) (hg : ∀ k, k < ct → M 177 (8 * t + k) = (nrm (f k) : Int)) (hf : ∀ k, k < ct → nmOk (f k)) : ax_Ev L X SH 4 172 [(2, 142), (0, (t : Int))] M (R1 0 (fun x M' => Sb XNM M M' ∧ ((∃ f' p, f' ≠ 0 ∧ x = 0 ∧ BF f' p M' ∧ ∀ k, oldN T n f ct q k = .inl (f', p)) ∨ ∃ i, i < ct ∧ x = (i : Int) ∧ RT T n (nx T n q) M' ∧ M' 142 41 = (q.1 : Int) ∧ ∀ k, oldN T n f ct q k = k i (nx T n q)))) := by
  show ax_G L X SH 4 172 0 [(2, 142), (0, (t : Int)), (3, 0), (3, 0), (3, 0)] [] M _
  have hC := at172
  have hw : wok XNM = true := by decide +kernel
  have hS : Sb XNM M M := Sb.refl
  refine g3 hC rfl rfl ?_
  refine c1 hC rfl rfl rfl (Nat.le_of_ble_eq_true rfl) (Nat.le_of_ble_eq_true rfl) (mayR k167 rfl) (m167 hF hn hq hqn hWd) (Nat.le_of_ble_eq_true rfl) (fun x Mx hr => ?_)
  obtain ⟨hSx, hr⟩ := hr
  have hFx := hSx.fix hw hF
  have hmx : Mx 176 t = (ct : Int) := (hSx _ _ (rNM _ _ (by decide) (by decide))).trans hm
  rcases hr with ⟨f', p, e, hf', hb⟩ | ⟨e, hrt, hx, h41⟩
  · have eN : ∀ k, oldN T n f ct q k = .inl (f', p) := fun k => by unfold oldN tryR; rw [e]
    refine sl2 hC rfl rfl ?_
    refine g3 hC rfl rfl ?_
    refine g3 hC rfl rfl ?_
    refine g3 hC rfl rfl ?_
    refine c1 hC rfl rfl rfl (Nat.le_of_ble_eq_true rfl) (Nat.le_of_ble_eq_true rfl) (mayR k170 rfl) (m170 hFx ht hmx hct) (Nat.le_of_ble_eq_true rfl) (fun y M2 hr => ?_)
    obtain ⟨hr, hy⟩ := hr; replace hr := hr.symm; subst hr
    refine s4 hC rfl rfl rfl ?_
    refine g3 hC rfl rfl ?_
    refine g19 hC rfl sh142 (flt12 rfl) ft12_5 hb.1 ?_
    refine g12n hC rfl (fun h10 => ?_) (fun h10 => (by omega))
    refine g3 hC rfl rfl ?_
    refine g19 hC rfl sh142 (flt12 rfl) ft12_5 hb.1 ?_
    refine g12n hC rfl (fun h21 => ?_) (fun h21 => (by omega))
    refine g0 hC rfl ?_
    refine ret1 hC rfl rfl ?_
    exact ⟨hSx, Or.inl ⟨f', p, hf', rfl, hb, eN⟩⟩
  · have h5 := hrt.2.2.2.2.1
    have hgx : ∀ k, k < ct → Mx 177 (8 * t + k) = (nrm (f k) : Int) := fun k hk => (hSx _ _ (rNM _ _ (by decide) (by decide))).trans (hg k hk)
    have a1 : ∀ y, At1 (fun k => Mx 177 (8 * t + k)) ct x y → y = (match fdN f (nmQ T n q) ct with | some k => (k : Int) | none => -1) := fun y hy => by rw [hx] at hy; exact At1_nr (fun k hk => (hf k hk).2.2) (nmQ_ok hqn e).2.2 hgx hy
    cases z : fdN f (nmQ T n q) ct with
    | none =>
      rw [z] at a1
      have eN : ∀ k, oldN T n f ct q k = .inl (3, (q.1 : Int)) := fun k => by unfold oldN tryR; rw [e]; dsimp only; rw [z]
      refine sl2 hC rfl rfl ?_
      refine g3 hC rfl rfl ?_
      refine g3 hC rfl rfl ?_
      refine g3 hC rfl rfl ?_
      refine c1 hC rfl rfl rfl (Nat.le_of_ble_eq_true rfl) (Nat.le_of_ble_eq_true rfl) (mayR k170 rfl) (m170 hFx ht hmx hct) (Nat.le_of_ble_eq_true rfl) (fun y M2 hr => ?_)
      obtain ⟨hr, hy⟩ := hr; replace hr := hr.symm; subst hr; replace hy : y = -1 := a1 y hy; subst hy
      refine s4 hC rfl rfl rfl ?_
      refine g3 hC rfl rfl ?_
      refine g19 hC rfl sh142 (flt12 rfl) ft12_5 h5 ?_
      refine g12n hC rfl (fun h10 => (by omega)) (fun h10 => ?_)
      refine g3 hC rfl rfl ?_
      refine g0 hC rfl ?_
      refine g13n hC rfl (fun h13 => (by omega)) (fun h13 => ?_)
      refine g3 hC rfl rfl ?_
      refine g0 hC rfl ?_
      refine g3 hC rfl rfl ?_
      refine g19 hC rfl sh142 (flt12 rfl) ft12_41 h41 ?_
      refine c0 hC rfl rfl rfl (Nat.le_of_ble_eq_true rfl) (Nat.le_of_ble_eq_true rfl) (mayR k156 rfl) (m156 h5) (Nat.le_of_ble_eq_true rfl) (fun M3 hr => ?_)
      subst hr; have e5 : ax_up (ax_up Mx 142 5 3) 142 6 (q.1 : Int) 142 5 = 3 := BF.up.1
      refine g3 hC rfl rfl ?_
      refine g19 hC rfl sh142 (flt12 rfl) ft12_5 e5 ?_
      refine g12n hC rfl (fun h21 => ?_) (fun h21 => (by omega))
      refine g0 hC rfl ?_
      refine ret1 hC rfl rfl ?_
      exact ⟨(hSx.up rfl).up rfl, Or.inl ⟨3, _, by decide, rfl, BF.up, eN⟩⟩
    | some i =>
      rw [z] at a1
      have hi := (fdN_some ct z).1
      have eN : ∀ k, oldN T n f ct q k = k i (nx T n q) := fun k => by unfold oldN tryR; rw [e]; dsimp only; rw [z]
      refine sl2 hC rfl rfl ?_
      refine g3 hC rfl rfl ?_
      refine g3 hC rfl rfl ?_
      refine g3 hC rfl rfl ?_
      refine c1 hC rfl rfl rfl (Nat.le_of_ble_eq_true rfl) (Nat.le_of_ble_eq_true rfl) (mayR k170 rfl) (m170 hFx ht hmx hct) (Nat.le_of_ble_eq_true rfl) (fun y M2 hr => ?_)
      obtain ⟨hr, hy⟩ := hr; replace hr := hr.symm; subst hr; replace hy : y = (i : Int) := a1 y hy; subst hy
      refine s4 hC rfl rfl rfl ?_
      refine g3 hC rfl rfl ?_
      refine g19 hC rfl sh142 (flt12 rfl) ft12_5 h5 ?_
      refine g12n hC rfl (fun h10 => (by omega)) (fun h10 => ?_)
      refine g3 hC rfl rfl ?_
      refine g0 hC rfl ?_
      refine g13n hC rfl (fun h13 => ?_) (fun h13 => (by omega))
      refine g3 hC rfl rfl ?_
      refine g19 hC rfl sh142 (flt12 rfl) ft12_5 h5 ?_
      refine g12n hC rfl (fun h21 => (by omega)) (fun h21 => ?_)
      refine g3 hC rfl rfl ?_
      refine g14 hC rfl ?_
      refine ret1 hC rfl rfl ?_
      exact ⟨hSx, Or.inr ⟨i, hi, rfl, hrt, h41, eN⟩⟩
end RHO
