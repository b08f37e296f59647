def XCB : ax_W := ([], [(142, 53), (142, 110), (142, 112), (142, 113), (142, 114)])
def XCL : ax_W := ([(184, 185)], [(142, 51)])
section RCO
variable {L : Nat} {X : Nat → Int} {M M1 : ax_M} {n l : Nat} {s : HS} {T : Nat → Int} {q : PS} {W : ax_W}
theorem RT.sbf (h : RT T n q M) (hS : Sb W M M1) (h2 : wb W 142 2 = false) (h3 : wb W 142 3 = false) (h4 : wb W 142 4 = false) (h5 : wb W 142 5 = false) (h6 : wb W 142 6 = false) (h43 : ∀ i, wb W 143 i = false) : RT T n q M1 := by
  obtain ⟨a1, ⟨a, a2, a3⟩, a4, a5, a6, a7⟩ := h
  exact ⟨(hS _ _ h3).trans a1, ⟨a, (hS _ _ h2).trans a2, a3⟩, by rw [hS _ _ h4]; exact a4, fun i hi => (hS _ _ (h43 i)).trans (a5 i hi), (hS _ _ h5).trans a6, (hS _ _ h6).trans a7⟩
theorem RT.cl2 (h : RT T n q M) (e : ∀ k, 2 ≤ k ∧ k ≤ 6 → M1 142 k = M 142 k) (e2 : ∀ k, M1 143 k = M 143 k) : RT T n q M1 := by
  obtain ⟨a1, ⟨a, a2, a3⟩, a4, a5, a6, a7⟩ := h
  exact ⟨(e 3 (by decide)).trans a1, ⟨a, (e 2 (by decide)).trans a2, a3⟩, by rw [e 4 (by decide)]; exact a4, fun i hi => (e2 i).trans (a5 i hi), (e 5 (by decide)).trans a6, (e 6 (by decide)).trans a7⟩
theorem rFO : rok XFO := rokB (by decide +kernel)
theorem rCB : rok XCB := rokB (by decide +kernel)
theorem RHo.cod (h : RHo s M) {t d : Option (List Int)} (e : ∀ a k, 176 ≤ a → a ≤ 181 → M1 a k = M a k) (h51 : M1 142 51 = (((t.getD []).length + (d.getD []).length : Nat) : Int)) (r1 : RCd M1 0 ((t.getD []).length + (d.getD []).length) t) (r2 : RCd M1 1 ((t.getD []).length + (d.getD []).length) d) : RHo (s.1, s.2.1, s.2.2.1, s.2.2.2.1, t, d, s.2.2.2.2.2.2) M1 := by
  obtain ⟨⟨a1, a2, a3, a4⟩, ⟨b1, b2, b3⟩, t', p, c, ⟨d1, d2, d3⟩, -, -, -⟩ := h
  exact ⟨⟨(e 176 _ (by decide) (by decide)).trans a1, (e 176 _ (by decide) (by decide)).trans a2, (e 176 _ (by decide) (by decide)).trans a3, (e 176 _ (by decide) (by decide)).trans a4⟩, ⟨fun k hk => (e 177 _ (by decide) (by decide)).trans (b1 k hk), fun k hk => (e 177 _ (by decide) (by decide)).trans (b2 k hk), fun k hk => (e 177 _ (by decide) (by decide)).trans (b3 k hk)⟩, fun k hk => ⟨(e 178 _ (by decide) (by decide)).trans (t' k hk).1, (e 178 _ (by decide) (by decide)).trans (t' k hk).2.1, (e 178 _ (by decide) (by decide)).trans (t' k hk).2.2⟩, fun k hk => (e 179 _ (by decide) (by decide)).trans (p k hk), fun k hk => ⟨(e 180 _ (by decide) (by decide)).trans (c k hk).1, (e 180 _ (by decide) (by decide)).trans (c k hk).2.1, (e 180 _ (by decide) (by decide)).trans (c k hk).2.2.1, (e 180 _ (by decide) (by decide)).trans (c k hk).2.2.2⟩, ⟨(e 181 _ (by decide) (by decide)).trans d1, (e 181 _ (by decide) (by decide)).trans d2, (e 181 _ (by decide) (by decide)).trans d3⟩, h51, r1, r2⟩
def opt (s : HS) (w : Nat) : Option (List Int) := if w = 0 then s.2.2.2.2.1 else s.2.2.2.2.2.1
def codF (T : Nat → Int) (n : Nat) (s : HS) (w : Nat) (p : Int) (q : PS) : SRs := if w = 0 then turnF T n s p q else dearF T n s p q
def codP (T : Nat → Int) (n w : Nat) (q : PS) : PRs := if w = 0 then tsL T n 0 6 q else smL T n 1 6 q
def codS (s : HS) (w : Nat) (c : List Int) : HS := if w = 0 then (s.1, s.2.1, s.2.2.1, s.2.2.2.1, some c, s.2.2.2.2.2) else (s.1, s.2.1, s.2.2.1, s.2.2.2.1, s.2.2.2.2.1, some c, s.2.2.2.2.2.2)
theorem codF_e {w : Nat} {p : Int} : codF T n s w p q = if (opt s w).isSome = true then .inl (5, p) else (match codP T n w q with | .inl e => .inl e | .inr (q1, c) => .inr (q1, codS s w c)) := by
  unfold codF opt codP codS
  by_cases z : w = 0
  · simp only [if_pos z]; rfl
  · simp only [if_neg z]; rfl
theorem opt_r {w : Nat} (hw : w < 2) (h : RHo s M) : RCd M w (cdl s) (opt s w) := by
  unfold opt
  have : w = 0 ∨ w = 1 := by omega
  rcases this with rfl | rfl
  · exact h.2.2.2.2.2.2.2.1
  · exact h.2.2.2.2.2.2.2.2
theorem m178 (hF : Fix M) (hn : n ≤ 1600) (hR : RHo s M) (hWf : WfH q.1 s) (hWd : Wd M) (hq : RT T n q M) (hqn : wq T n q) {w : Nat} (hw2 : w < 2) {pp : Int} : ax_Ev L X SH 9 178 [(2, 142), (0, (w : Int)), (0, pp)] M (R0 (RPo T n (codF T n s w pp q) M)) := by
  show ax_G L X SH 9 178 0 [(2, 142), (0, (w : Int)), (0, pp), (3, 0)] [] M _
  obtain ⟨P, hP⟩ : ∃ P, P = RPo T n (codF T n s w pp q) M := ⟨_, rfl⟩
  rw [← hP]
  have hC := at178
  have hw := wXHO
  have h5 := hq.2.2.2.2.1
  have fl : ∀ f p M', f ≠ 0 → BF f p M' → KX M M' → codF T n s w pp q = .inl (f, p) → P M' := fun f p M' a b c d => by rw [hP]; exact ⟨c, Or.inl ⟨f, p, a, b, d⟩⟩
  obtain ⟨d, hd⟩ : ∃ d, d = cdl s := ⟨_, rfl⟩
  have hdl : d ≤ q.1 := by rw [hd]; exact hWf.2.2.2.2.2.1.2.2
  have h51 : M 142 51 = (d : Int) := by rw [hd]; exact hR.2.2.2.2.2.2.1
  have l2 : hlf 182 = 2 := rfl
  have l3 : hlf 183 = 2 := rfl
  have t51 : ∀ (M3 : ax_M) (q' : PS) (c : List Int), KX M M3 → RHo s M3 → RT T n q' M3 → RC M3 c → d + c.length ≤ 1600 → opt s w = none → codF T n s w pp q = .inr (q', codS s w c) → ∀ (m i : Nat), i + m = c.length → ∀ ll M4, (ll = [(2, 142), (0, (w : Int)), (0, pp), (0, (i : Int))] ∧ Sb XCL (ax_up M3 182 w (d : Int)) M4 ∧ M4 142 51 = ((d + i : Nat) : Int) ∧ (∀ j, j < i → M4 184 (d + j) = c.getD j 0) ∧ ∀ j, (j < d ∨ 1600 ≤ j) → M4 184 j = M3 184 j) → ax_G L X SH 9 178 51 ll [] M4 (R0 P) := by
    intro M3 q' c hk hR3 hrt hrc hl ho eq
    have hkb : KX M (ax_up M3 182 w (d : Int)) := hk.up rfl (by omega)
    refine lp ?_ ?_
    · rintro ll M4 ⟨rfl, hs4, e51, e1, e2⟩
      have hS := hkb.1.then hs4 rfl
      have e110 : M4 142 110 = (c.length : Int) := (hs4 _ _ rfl).trans ((ax_up2n (by decide)).trans hrc.1)
      refine g3 hC rfl rfl ?_
      refine g3 hC rfl rfl ?_
      refine g19 hC rfl sh142 (flt12 rfl) ft12_110 e110 ?_
      refine g13g hC rfl (fun h54 => ?_) (fun h54 => (by omega))
      refine g3 hC rfl rfl ?_
      refine g19 hC rfl sh142 (flt12 rfl) ft12_49 ((hS.fix hw hF).g fx_142_49) ?_
      refine g3 hC rfl rfl ?_
      refine g3 hC rfl rfl ?_
      refine g19 hC rfl sh142 (flt12 rfl) ft12_51 e51 ?_
      refine r22s (w) hC rfl (by omega) sh183 (by omega) rfl hS rfl (fun hS => ?_)
      refine ret0 hC rfl ?_
      rw [hP]
      have kh4 : KH M (ax_up M4 183 w ((d + c.length : Nat) : Int)) := by
        intro a k z1 z2 z3 z4
        by_cases y3 : a = 183
        · subst y3; rw [ax_up_of (by omega), hs4 _ _ rfl]; exact hkb.2 183 k z1 z2 z3 z4
        · rw [ax_up2n y3]
          by_cases y4 : a = 184
          · subst y4; rw [e2 k (Or.inr z4)]; exact hk.2 184 k z1 z2 z3 z4
          · rw [hs4 a k (by
              have h1 : wb XCL a k = false := by
                unfold wb XCL
                simp only [List.any_cons, List.any_nil, Bool.or_false, Bool.or_eq_false_iff, Bool.and_eq_false_iff]
                constructor
                · rcases Nat.lt_or_ge a 184 with y | y
                  · exact Or.inl (Bool.eq_false_iff.mpr (fun x => by have := Nat.le_of_ble_eq_true x; omega))
                  · exact Or.inr (Bool.eq_false_iff.mpr (fun x => by have := Nat.le_of_ble_eq_true x; omega))
                · exact Or.inl (Bool.eq_false_iff.mpr (fun x => by have := Nat.eq_of_beq_eq_true x; omega))
              exact h1)]
            exact hkb.2 a k z1 z2 z3 z4
      have f2 : ∀ k, ax_up M4 183 w ((d + c.length : Nat) : Int) 182 k = if k = w then (d : Int) else M3 182 k := fun k => by
        rw [ax_up2n (by decide), hs4 _ _ rfl]
        by_cases z : k = w
        · rw [if_pos z, z, ax_up_at]
        · rw [if_neg z, ax_up_of z]
      have f3 : ∀ k, ax_up M4 183 w ((d + c.length : Nat) : Int) 183 k = if k = w then ((d + c.length : Nat) : Int) else M3 183 k := fun k => by
        by_cases z : k = w
        · rw [if_pos z, z, ax_up_at]
        · rw [if_neg z, ax_up_of z, hs4 _ _ rfl, ax_up2n (by decide)]
      have f4 : ∀ j, ax_up M4 183 w ((d + c.length : Nat) : Int) 184 j = M4 184 j := fun j => ax_up2n (by decide)
      have rn' : RCd (ax_up M4 183 w ((d + c.length : Nat) : Int)) w (d + c.length) (some c) := Or.inr ⟨c, d, rfl, by rw [f2, if_pos rfl], by rw [f3, if_pos rfl], Nat.le_refl _, fun j hj => by rw [f4]; exact e1 j hj⟩
      have ro : ∀ w', w' ≠ w → w' < 2 → RCd (ax_up M4 183 w ((d + c.length : Nat) : Int)) w' (d + c.length) (opt s w') := fun w' z1 z2 => by
        have := opt_r z2 hR3
        rw [← hd] at this
        exact this.of (Nat.le_add_right _ _) (by rw [f2, if_neg z1]) (by rw [f3, if_neg z1]) (fun i hi => by rw [f4]; exact e2 i (Or.inl hi))
      have ea : ∀ a k, 176 ≤ a → a ≤ 181 → ax_up M4 183 w ((d + c.length : Nat) : Int) a k = M3 a k := fun a k z1 z2 => by
        rw [ax_up2n (by omega), hs4 a k (wbo 176 182 rfl z1 (by omega)), ax_up2n (by omega)]
      have e51' : ax_up M4 183 w ((d + c.length : Nat) : Int) 142 51 = ((d + c.length : Nat) : Int) := (ax_up2n (by decide)).trans e51
      refine ⟨⟨hS, kh4⟩, Or.inr ⟨q', codS s w c, eq, ?_, ?_⟩⟩
      · refine hrt.cl2 (fun k hk => ?_) (fun k => ?_)
        · rw [ax_up2n (by decide), hs4 142 k (by have : k = 2 ∨ k = 3 ∨ k = 4 ∨ k = 5 ∨ k = 6 := by omega
                                                 rcases this with rfl | rfl | rfl | rfl | rfl <;> rfl), ax_up2n (by decide)]
        · rw [ax_up2n (by decide), hs4 143 k rfl, ax_up2n (by decide)]
      · have w01 : w = 0 ∨ w = 1 := by omega
        rcases w01 with rfl | rfl
        · have ho' : s.2.2.2.2.1 = none := ho
          have hd' : d = (s.2.2.2.2.2.1.getD []).length := by rw [hd]; unfold cdl; rw [ho']; exact Nat.zero_add _
          have hcl : d + c.length = ((some c).getD []).length + (s.2.2.2.2.2.1.getD []).length := by show d + c.length = c.length + _; omega
          rw [hcl] at e51' rn' ro
          exact hR3.cod ea (by rw [hcl]; exact e51') (by rw [hcl]; exact rn') (by rw [hcl]; exact ro 1 (by decide) (by decide))
        · have ho' : s.2.2.2.2.2.1 = none := ho
          have hd' : d = (s.2.2.2.2.1.getD []).length := by rw [hd]; unfold cdl; rw [ho']; rfl
          have hcl : d + c.length = (s.2.2.2.2.1.getD []).length + ((some c).getD []).length := by show d + c.length = _ + c.length; omega
          rw [hcl] at e51' rn' ro
          exact hR3.cod ea (by rw [hcl]; exact e51') (by rw [hcl]; exact ro 0 (by decide) (by decide)) (by rw [hcl]; exact rn')
    · rintro i hi ll M4 ⟨rfl, hs4, e51, e1, e2⟩ hnext
      have hS := hkb.1.then hs4 rfl
      have e110 : M4 142 110 = (c.length : Int) := (hs4 _ _ rfl).trans ((ax_up2n (by decide)).trans hrc.1)
      have e228 : M4 228 i = c.getD i 0 := (hs4 _ _ rfl).trans ((ax_up2n (by decide)).trans (hrc.2 i hi))
      refine g3 hC rfl rfl ?_
      refine g3 hC rfl rfl ?_
      refine g19 hC rfl sh142 (flt12 rfl) ft12_110 e110 ?_
      refine g13g hC rfl (fun h54 => (by omega)) (fun h54 => ?_)
      refine g3 hC rfl rfl ?_
      refine g19 hC rfl sh142 (flt12 rfl) ft12_50 ((hS.fix hw hF).g fx_142_50) ?_
      refine g3 hC rfl rfl ?_
      refine g19 hC rfl sh142 (flt12 rfl) ft12_51 e51 ?_
      refine g3 hC rfl rfl ?_
      refine g19 hC rfl sh142 (flt12 rfl) ft12_109 ((hS.fix hw hF).g fx_142_109) ?_
      refine g3 hC rfl rfl ?_
      refine r21 (i) hC rfl rfl sh228 (Or.inl rfl) (by omega) e228 ?_
      refine r22 (d + i) hC rfl rfl sh184 (by omega) rfl ?_
      refine g3 hC rfl rfl ?_
      refine g16 hC rfl (by decide) ?_
      refine g19 hC rfl sh142 (flt12 rfl) ft12_51 ((ax_up2n (by decide)).trans e51) ?_
      refine g0 hC rfl ?_
      refine g6a hC rfl ⟨by omega, by omega⟩ ?_
      refine g20 hC rfl sh142 (flt12 rfl) (by rw [fy12_51]; rfl) ?_
      refine n3 hC rfl rfl ⟨by omega, by omega⟩ ?_
      refine g14 hC rfl ?_
      refine hnext _ _ ⟨rfl, (hs4.up rfl).up rfl, ?_, fun j hj => ?_, fun j hj => ?_⟩
      · rw [ax_up_at]; omega
      · rw [ax_up2n (by decide)]
        by_cases z : j = i
        · rw [z, ax_up_at]
        · rw [ax_up_of (by omega)]; exact e1 j (by omega)
      · rw [ax_up2n (by decide), ax_up_of (by omega)]; exact e2 j hj
  have t39 : ∀ (M3 : ax_M), KX M M3 → RHo s M3 → M3 142 51 = (d : Int) → opt s w = none → ((∃ f p, codP T n w q = .inl (f, p) ∧ BT f p M3) ∨ ∃ q' c, codP T n w q = .inr (q', c) ∧ RT T n q' M3 ∧ RC M3 c ∧ d + c.length ≤ 1600) → ax_G L X SH 9 178 39 [(2, 142), (0, (w : Int)), (0, pp), (3, 0)] [] M3 (R0 P) := by
    intro M3 hk hR3 e51 ho hr
    have hS := hk.1
    have eF := codF_e (T := T) (n := n) (s := s) (q := q) (w := w) (p := pp)
    rw [ho, if_neg (by decide)] at eF
    rcases hr with ⟨f, p, e, hb⟩ | ⟨q', c, e, hrt, hrc, hl⟩
    · rw [e] at eF
      refine g3 hC rfl rfl ?_
      refine g19 hC rfl sh142 (flt12 rfl) ft12_5 hb.1.1 ?_
      refine g12e hC rfl (fun h41 => (by have := hb.2; omega)) (fun h41 => ?_)
      refine ret0 hC rfl ?_
      exact fl f p _ hb.2 hb.1 hk eF
    · rw [e] at eF
      refine g3 hC rfl rfl ?_
      refine g19 hC rfl sh142 (flt12 rfl) ft12_5 hrt.2.2.2.2.1 ?_
      refine g12e hC rfl (fun h41 => ?_) (fun h41 => (by omega))
      refine g3 hC rfl rfl ?_
      refine g19 hC rfl sh142 (flt12 rfl) ft12_48 ((hS.fix hw hF).g fx_142_48) ?_
      refine g3 hC rfl rfl ?_
      refine g3 hC rfl rfl ?_
      refine g19 hC rfl sh142 (flt12 rfl) ft12_51 e51 ?_
      refine r22s (w) hC rfl (by omega) sh182 (by omega) rfl hS rfl (fun hS => ?_)
      refine g0 hC rfl ?_
      refine s3 hC rfl rfl rfl ?_
      exact t51 M3 q' c hk hR3 hrt hrc hl ho eF c.length 0 (Nat.zero_add _) _ _ ⟨rfl, Sb.refl, (ax_up2n (by decide)).trans e51, fun j hj => absurd hj (Nat.not_lt_zero j), fun j _ => ax_up2n (by decide)⟩
  have ro := opt_r hw2 hR
  rcases ro with ⟨ho, hr⟩ | ⟨c, f, ho, hr, -⟩
  · obtain ⟨Mi, hMi⟩ : ∃ Mi, Mi = ax_up (ax_up (ax_up (ax_up (ax_up M 142 53 (w : Int)) 142 110 0) 142 112 0) 142 113 0) 142 114 0 := ⟨_, rfl⟩
    have hsi : Sb XCB M Mi := by rw [hMi]; exact ((((Sb.refl.up rfl).up rfl).up rfl).up rfl).up rfl
    have hki : KX M Mi := KX.refl.th hsi rfl rCB
    have hFi := hki.1.fix hw hF
    have hRi := hR.sb hsi rCB rfl
    have hrti := hq.sbf hsi rfl rfl rfl rfl rfl (fun _ => rfl)
    have hEn : Env n w Mi := ⟨hn, by omega, hFi, hWd.sb hsi (by decide +kernel)⟩
    have hst : RSt T n w q [] [] 0 0 Mi := ⟨hrti, ⟨by rw [hMi, ax_up_of (by decide), ax_up_of (by decide), ax_up_of (by decide), ax_up_at]; rfl, fun i hi => absurd hi (Nat.not_lt_zero i)⟩, ⟨by rw [hMi, ax_up_of (by decide), ax_up_of (by decide), ax_up_at]; rfl, fun i hi => absurd hi (Nat.not_lt_zero i)⟩, by rw [hMi, ax_up_of (by decide), ax_up_at]; rfl, by rw [hMi, ax_up_at]; rfl, by rw [hMi, ax_up_of (by decide), ax_up_of (by decide), ax_up_of (by decide), ax_up_of (by decide), ax_up_at], Nat.zero_le _, hqn⟩
    have hS : Sb XHO M M := Sb.refl
    refine g3 hC rfl rfl ?_
    refine g19 hC rfl sh142 (flt12 rfl) ft12_5 h5 ?_
    refine g12n hC rfl (fun h2 => (by omega)) (fun h2 => ?_)
    refine g3 hC rfl rfl ?_
    refine g19 hC rfl sh142 (flt12 rfl) ft12_48 ((hS.fix hw hF).g fx_142_48) ?_
    refine g3 hC rfl rfl ?_
    refine r21 (w) hC rfl rfl sh182 (Or.inl rfl) (by omega) hr ?_
    refine g0 hC rfl ?_
    refine g13e hC rfl (fun h8 => ?_) (fun h8 => (by omega))
    refine g3 hC rfl rfl ?_
    refine g19 hC rfl sh142 (flt12 rfl) ft12_5 h5 ?_
    refine g12e hC rfl (fun h15 => ?_) (fun h15 => (by omega))
    refine g3 hC rfl rfl ?_
    refine g3 hC rfl rfl ?_
    refine g20s hC rfl sh142 (flt12 rfl) (by rw [fy12_53]; rfl) hS rfl (fun hS => ?_)
    refine g3 hC rfl rfl ?_
    refine g0 hC rfl ?_
    refine g20s hC rfl sh142 (flt12 rfl) (by rw [fy12_110]; rfl) hS rfl (fun hS => ?_)
    refine g3 hC rfl rfl ?_
    refine g0 hC rfl ?_
    refine g20s hC rfl sh142 (flt12 rfl) (by rw [fy12_112]; rfl) hS rfl (fun hS => ?_)
    refine g3 hC rfl rfl ?_
    refine g0 hC rfl ?_
    refine g20s hC rfl sh142 (flt12 rfl) (by rw [fy12_113]; rfl) hS rfl (fun hS => ?_)
    refine g3 hC rfl rfl ?_
    refine g0 hC rfl ?_
    refine g20s hC rfl sh142 (flt12 rfl) (by rw [fy12_114]; rfl) hS rfl (fun hS => ?_)
    rw [← hMi]
    refine g3 hC rfl rfl ?_
    have w01 : w = 0 ∨ w = 1 := by omega
    rcases w01 with rfl | rfl
    · refine g12n hC rfl (fun y => absurd rfl y) (fun _ => ?_)
      refine g3 hC rfl rfl ?_
      refine c0 hC rfl rfl rfl (Nat.le_of_ble_eq_true rfl) (Nat.le_of_ble_eq_true rfl) (mayR k280 rfl) (m280 hEn hst) (Nat.le_of_ble_eq_true rfl) (fun M3 hr => ?_)
      refine g14 hC rfl ?_
      have hk3 := hki.th hr.1 rfl rFO
      refine t39 M3 hk3 (hRi.sb hr.1 rFO rfl) ((hr.1 _ _ rfl).trans ((hsi _ _ rfl).trans h51)) ho ?_
      rcases hr.2 with ⟨f, p, e, y⟩ | ⟨q', c, e, y⟩
      · exact Or.inl ⟨f, p, e, y⟩
      · have gd := good_ts (T := T) (n := n) (k := 0) (r := 6) q hqn.1 q' c e
        exact Or.inr ⟨q', c, e, y.1, y.2.1, by have := gd.1; have := gd.2.2.1; omega⟩
    · refine g12n hC rfl (fun _ => ?_) (fun y => absurd (by decide) y)
      refine g3 hC rfl rfl ?_
      refine c0 hC rfl rfl rfl (Nat.le_of_ble_eq_true rfl) (Nat.le_of_ble_eq_true rfl) (mayR k276 rfl) (m276 hEn hst (by decide) (by decide)) (Nat.le_of_ble_eq_true rfl) (fun M3 hr => ?_)
      have hk3 := hki.th hr.1 rfl rFO
      refine t39 M3 hk3 (hRi.sb hr.1 rFO rfl) ((hr.1 _ _ rfl).trans ((hsi _ _ rfl).trans h51)) ho ?_
      rcases hr.2 with ⟨f, p, e, y⟩ | ⟨q', c, e, y⟩
      · exact Or.inl ⟨f, p, e, y.1, y.2.1⟩
      · have gd := good_sm (T := T) (n := n) (k := 1) (r := 6) q hqn.1 q' c e
        exact Or.inr ⟨q', c, e, y.1, y.2.1, by have := gd.1; have := gd.2.2.1; omega⟩
  · have hS : Sb XHO M M := Sb.refl
    have e5 : ax_up (ax_up M 142 5 5) 142 6 pp 142 5 = 5 := BF.up.1
    refine g3 hC rfl rfl ?_
    refine g19 hC rfl sh142 (flt12 rfl) ft12_5 h5 ?_
    refine g12n hC rfl (fun h2 => (by omega)) (fun h2 => ?_)
    refine g3 hC rfl rfl ?_
    refine g19 hC rfl sh142 (flt12 rfl) ft12_48 ((hS.fix hw hF).g fx_142_48) ?_
    refine g3 hC rfl rfl ?_
    refine r21 (w) hC rfl rfl sh182 (Or.inl rfl) (by omega) hr ?_
    refine g0 hC rfl ?_
    refine g13e hC rfl (fun h8 => (by omega)) (fun h8 => ?_)
    refine g3 hC rfl rfl ?_
    refine g0 hC rfl ?_
    refine g3 hC rfl rfl ?_
    refine c0 hC rfl rfl rfl (Nat.le_of_ble_eq_true rfl) (Nat.le_of_ble_eq_true rfl) (mayR k156 rfl) (m156 h5) (Nat.le_of_ble_eq_true rfl) (fun M2 hr => ?_)
    subst hr
    refine g3 hC rfl rfl ?_
    refine g19 hC rfl sh142 (flt12 rfl) ft12_5 e5 ?_
    refine g12e hC rfl (fun h15 => (by omega)) (fun h15 => ?_)
    refine ret0 hC rfl ?_
    refine fl 5 pp _ (by decide) BF.up ((KX.refl.up rfl (by decide)).up rfl (by decide)) ?_
    rw [codF_e, ho]; rfl
end RCO
