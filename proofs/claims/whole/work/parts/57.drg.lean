def W70 : ax_W := ([(48, 49)], [(45, 0)])
def WH : ax_W := ([(48, 49), (72, 75), (76, 85), (86, 94), (95, 107), (5, 6), (23, 24), (26, 27), (41, 42), (44, 45)], [(45, 0), (71, 6)])
def XE : ax_W := ([(185, 186), (187, 195), (230, 231)], [(142, 53), (142, 56), (142, 57), (142, 67), (142, 116)])
def XEc : ax_W := ([(185, 186), (187, 195), (230, 231)], [(142, 69), (142, 53), (142, 56), (142, 57), (142, 67), (142, 116)])
def WLA : ax_W := ([(46, 49), (141, 142), (72, 75), (76, 85), (86, 94), (95, 107), (5, 6), (23, 24), (26, 27), (41, 42), (44, 45)], [(45, 0), (71, 6)])
def XLA : ax_W := ([(185, 187), (187, 195), (230, 231)], [(142, 53), (142, 56), (142, 57), (142, 67), (142, 116)])
def WXL : ax_W := ([(46, 49), (141, 142), (185, 187), (187, 195), (230, 231), (72, 75), (76, 85), (86, 94), (95, 107), (5, 6), (23, 24), (26, 27), (41, 42), (44, 45)], [(45, 0), (71, 6), (142, 53), (142, 56), (142, 57), (142, 67), (142, 116)])
def WDR : ax_W := ([(48, 49), (51, 71), (141, 142), (72, 75), (76, 85), (86, 94), (95, 107), (5, 6), (23, 24), (26, 27), (41, 42), (44, 45)], [(45, 0), (49, 1), (49, 2), (71, 6)])
def XDR : ax_W := ([(185, 186), (187, 195), (203, 204), (230, 231)], [(142, 82), (142, 83), (142, 53), (142, 56), (142, 57), (142, 67), (142, 116)])
def WXD : ax_W := ([(48, 49), (51, 71), (141, 142), (185, 186), (187, 195), (203, 204), (230, 231), (72, 75), (76, 85), (86, 94), (95, 107), (5, 6), (23, 24), (26, 27), (41, 42), (44, 45)], [(45, 0), (49, 1), (49, 2), (71, 6), (142, 82), (142, 83), (142, 53), (142, 56), (142, 57), (142, 67), (142, 116)])
def WCH : ax_W := ([(48, 49), (51, 71), (141, 142), (72, 75), (76, 85), (86, 94), (95, 107), (5, 6), (23, 24), (26, 27), (41, 42), (44, 45)], [(0, 16), (45, 0), (49, 1), (49, 2), (71, 6)])
def XCH : ax_W := ([(185, 186), (187, 195), (203, 204), (230, 231)], [(142, 69), (142, 82), (142, 83), (142, 84), (142, 53), (142, 56), (142, 57), (142, 67), (142, 116)])
def XCI : ax_W := ([(185, 186), (187, 195), (203, 204), (230, 231)], [(142, 82), (142, 83), (142, 84), (142, 53), (142, 56), (142, 57), (142, 67), (142, 116)])
def WXC : ax_W := ([(48, 49), (51, 71), (141, 142), (185, 186), (187, 195), (203, 204), (230, 231), (72, 75), (76, 85), (86, 94), (95, 107), (5, 6), (23, 24), (26, 27), (41, 42), (44, 45)], [(0, 16), (45, 0), (49, 1), (49, 2), (71, 6), (142, 82), (142, 83), (142, 84), (142, 53), (142, 56), (142, 57), (142, 67), (142, 116)])
def WHs : ax_W := ([(48, 49), (72, 75), (76, 85), (86, 94), (95, 107), (5, 6), (23, 24), (26, 27), (41, 42), (44, 45)], [(0, 16), (45, 0), (71, 6)])
def XEs : ax_W := ([(185, 186), (187, 195), (230, 231)], [(142, 69), (142, 84), (142, 53), (142, 56), (142, 57), (142, 67), (142, 116)])
def prs : List (Nat × Nat) := [(0, 1), (0, 2), (1, 2), (0, 3), (1, 3), (2, 3), (0, 4), (1, 4), (2, 4), (3, 4), (0, 5), (1, 5), (2, 5), (3, 5), (4, 5), (0, 6), (1, 6), (2, 6), (3, 6), (4, 6), (5, 6), (0, 7), (1, 7), (2, 7), (3, 7), (4, 7), (5, 7), (6, 7)]
def prA (k : Nat) : Nat := (prs.getD k (0, 0)).1
def prB (k : Nat) : Nat := (prs.getD k (0, 0)).2
theorem pr_pO : ∀ b, b < 8 → ∀ a, a < b → prA (pO a b) = a ∧ prB (pO a b) = b := by decide +kernel
theorem pO_pr : ∀ k, k < 28 → prA k < prB k ∧ prB k < 8 ∧ pO (prA k) (prB k) = k := by decide +kernel
theorem pA_inj0 : (List.range 8).all (fun y => (List.range y).all (fun x => (List.range 8).all (fun y' => (List.range y').all (fun x' => !(pA x y == pA x' y') || (x == x' && y == y'))))) = true := by decide +kernel
theorem pA_inj (y : Nat) (hy : y < 8) (x : Nat) (hx : x < y) (y' : Nat) (hy' : y' < 8) (x' : Nat) (hx' : x' < y') (e : pA x y = pA x' y') : x = x' ∧ y = y' := by
  have h1 := List.all_eq_true.mp pA_inj0 y (List.mem_range.mpr hy)
  have h2 := List.all_eq_true.mp h1 x (List.mem_range.mpr hx)
  have h3 := List.all_eq_true.mp h2 y' (List.mem_range.mpr hy')
  have h4 := List.all_eq_true.mp h3 x' (List.mem_range.mpr hx')
  rw [e] at h4
  simp only [beq_self_eq_true, Bool.not_true, Bool.false_or, Bool.and_eq_true, beq_iff_eq] at h4
  exact h4
def sgP (V : ax_M) (h : Nat) (sm : Int) (k : Nat) : Int := if prB k < nC V h ∧ V h 18 ≤ mt V h sm (-1) (prA k) (prB k) then min 9999 (V 48 k + 1) else V 48 k
def nxD (V : ax_M) (h : Nat) (sm : Int) : ax_M := fun a k => if a = 45 ∧ k = 0 then min 999 (V 45 0 + 1) else if a = 48 ∧ k < 28 then sgP V h sm k else V a k
theorem nx_ne {V : ax_M} {h : Nat} {sm : Int} {a k : Nat} (h5 : a ≠ 45) (h8 : a ≠ 48) : nxD V h sm a k = V a k := by
  unfold nxD; rw [if_neg (fun z => h5 z.1), if_neg (fun z => h8 z.1)]
theorem nx_45 {V : ax_M} {h : Nat} {sm : Int} : nxD V h sm 45 0 = min 999 (V 45 0 + 1) := if_pos ⟨rfl, rfl⟩
theorem nx_48 {V : ax_M} {h : Nat} {sm : Int} {k : Nat} (hk : k < 28) : nxD V h sm 48 k = sgP V h sm k := by
  unfold nxD; rw [if_neg (fun z => absurd z.1 (by decide)), if_pos ⟨rfl, hk⟩]
theorem nx_48o {V : ax_M} {h : Nat} {sm : Int} {k : Nat} (hk : ¬ k < 28) : nxD V h sm 48 k = V 48 k := by
  unfold nxD; rw [if_neg (fun z => absurd z.1 (by decide)), if_neg (fun z => hk z.2)]
theorem nx_45o {V : ax_M} {h : Nat} {sm : Int} {k : Nat} (hk : k ≠ 0) : nxD V h sm 45 k = V 45 k := by
  unfold nxD; rw [if_neg (fun z => hk z.2), if_neg (fun z => absurd z.1 (by decide))]
theorem nx_sb {V : ax_M} {h : Nat} {sm : Int} : Sb W70 V (nxD V h sm) := by
  intro a k hk
  unfold nxD
  by_cases z : a = 45 ∧ k = 0
  · rw [z.1, z.2] at hk; cases hk
  rw [if_neg z]
  by_cases y : a = 48
  · rw [y] at hk; cases hk
  · rw [if_neg (fun w => y w.1)]
theorem nxHW {V : ax_M} {h : Nat} {sm : Int} (hh : h = 9 ∨ h = 27) (hW : HW V h) : HW (nxD V h sm) h := hW.sbb nx_sb (hokB (by decide +kernel) hh)
theorem nxPW {V : ax_M} {h : Nat} {sm : Int} (hh : h = 9 ∨ h = 27) (hW : PW V h) : PW (nxD V h sm) h := hW.sb2 nx_sb (hokB (by decide +kernel) hh) rfl
theorem nxn {V : ax_M} {h : Nat} {sm : Int} (hh : h = 9 ∨ h = 27) : nR (nxD V h sm) h = nR V h ∧ nS (nxD V h sm) h = nS V h ∧ nQ (nxD V h sm) h = nQ V h ∧ nC (nxD V h sm) h = nC V h := nREq (W := W70) nx_sb (hokB (by decide +kernel) hh)
theorem nxSW {V : ax_M} {h : Nat} {sm : Int} (hS : SW V) : SW (nxD V h sm) := by
  obtain ⟨h1, h2, h3, h4⟩ := hS
  refine ⟨?_, fun q hq => ?_, fun q hq => ?_, fun i hi => ?_⟩
  · unfold nxD; rw [if_pos ⟨rfl, rfl⟩]; omega
  · rw [nx_ne (by decide) (by decide)]; exact h2 q hq
  · rw [nx_ne (by decide) (by decide)]; exact h3 q hq
  · unfold nxD; rw [if_neg (fun z => by omega), if_pos ⟨rfl, hi⟩]
    have := h4 i hi
    unfold sgP; split <;> omega
section DRG
variable {L : Nat} {X : Nat → Int} {M V : ax_M} {h n : Nat}
def dnA (V : ax_M) (h : Nat) (sm : Int) (a b i : Nat) : Int := if i < 28 ∧ (prA i < a ∨ (prA i = a ∧ prB i < b)) then sgP V h sm i else V 48 i
theorem m70 (hF : Fix M) (hh : h = 9 ∨ h = 27) (hV : HV V h M) (hW : HW V h) (hSW : SW V) {sm : Int} (hm : ∀ a b, a < 8 → b < 8 → M (95 + a) b = mt V h sm (-1) a b) : ax_Ev L X SH 2 70 [(2, 45), (2, (h : Int)), (2, 71)] M (R1 0 (fun x M' => x = sgC V h (mt V h sm (-1)) ∧ Sb W70 M M' ∧ HV (nxD V h sm) h M')) := by
  show ax_G L X SH 2 70 0 [(2, 45), (2, (h : Int)), (2, 71), (3, 0), (3, 0), (3, 0), (3, 0)] [] M _
  obtain ⟨mm, hmm⟩ : ∃ mm, mm = mt V h sm (-1) := ⟨_, rfl⟩
  rw [← hmm] at hm ⊢
  obtain ⟨P, hP⟩ : ∃ P, P = fun (x : Int) M' => x = sgC V h mm ∧ Sb W70 M M' ∧ HV (nxD V h sm) h M' := ⟨_, rfl⟩
  rw [← hP]
  have hC := at70
  have hw : wok W70 = true := by decide +kernel
  have hwh : hok W70 h := hokB (by decide +kernel) hh
  have hb := hW.1.2.2.2.2
  have hs1 := hSW.1
  have l1 : ∀ (m a : Nat), a + m = nC V h → ∀ ll M1, (∃ v5 v6, ll = [(2, 45), (2, (h : Int)), (2, 71), (0, sumI (fun a => sumI (fun k => sgn V h mm a (a + 1 + k)) (nC V h - 1 - a)) a), (0, (a : Int)), v5, v6] ∧ Sb W70 M M1 ∧ M1 45 0 = V 45 0 ∧ ∀ i, M1 48 i = dnA V h sm a (a + 1) i) → ax_G L X SH 2 70 4 ll [] M1 (R1 0 P) := by
    refine lp ?_ ?_
    · rintro ll M1 ⟨v5, v6, rfl, hS, h45, h48⟩
      refine g3 hC rfl rfl ?_
      refine g3 hC rfl rfl ?_
      refine g19 hC rfl (shH hh) (Nat.le_of_ble_eq_true rfl) rfl (rd3 hS hwh hV hW) ?_
      refine g13g hC rfl (fun h7 => ?_) (fun h7 => (by omega))
      refine g3 hC rfl rfl ?_
      refine g0 hC rfl ?_
      refine g3 hC rfl rfl ?_
      refine g19 hC rfl rfl (Nat.le_of_ble_eq_true rfl) rfl h45 ?_
      refine g0 hC rfl ?_
      refine g6a hC rfl ⟨by omega, by omega⟩ ?_
      refine c1 hC rfl rfl rfl (Nat.le_of_ble_eq_true rfl) (Nat.le_of_ble_eq_true rfl) rfl (m306) (Nat.le_of_ble_eq_true rfl) (fun x M2 hr => ?_)
      obtain ⟨rfl, hr⟩ := hr
      replace hr := hr.symm
      subst hr
      refine g20s hC rfl rfl (Nat.le_of_ble_eq_true rfl) rfl hS rfl (fun hS => ?_)
      refine g3 hC rfl rfl ?_
      refine ret1 hC rfl rfl ?_
      rw [hP]
      refine ⟨rfl, hS, fun i k h1 h2 h3 => ?_, fun k => ⟨?_, ?_, ?_, ?_⟩⟩
      · rw [nx_ne (by omega) (by omega)]; exact (hS _ _ (hwh i k h1 h2 h3)).trans (hV.1 i k h1 h2 h3)
      · by_cases z : k = 0
        · rw [z, ax_up_at, nx_45]
        · rw [nx_45o z]
          refine ((hS 45 k ?_).trans (hV.2 k).1)
          unfold wb W70
          cases u : Nat.beq 0 k with
          | false => simp [u]
          | true => exact absurd (Nat.eq_of_beq_eq_true u).symm z
      · rw [nx_ne (by decide) (by decide), ax_up_ne (by decide)]; exact (hS 46 k rfl).trans (hV.2 k).2.1
      · rw [nx_ne (by decide) (by decide), ax_up_ne (by decide)]; exact (hS 47 k rfl).trans (hV.2 k).2.2.1
      · rw [ax_up_ne (by decide), h48 k]
        by_cases z : k < 28
        · rw [nx_48 z]
          unfold dnA
          by_cases y : k < 28 ∧ (prA k < nC V h ∨ (prA k = nC V h ∧ prB k < nC V h + 1))
          · rw [if_pos y]
          · rw [if_neg y]
            unfold sgP
            rw [if_neg (fun w => y ⟨z, Or.inl (by have := (pO_pr k z).1; omega)⟩)]
        · rw [nx_48o z]; unfold dnA; rw [if_neg (fun w => z w.1)]
    · rintro a ha ll M1 ⟨v5, v6, rfl, hS, h45, h48⟩ hnext
      have b1 := sumI_b (f := fun a => sumI (fun k => sgn V h mm a (a + 1 + k)) (nC V h - 1 - a)) (b := 8) (by decide) a (fun k _ => sgn_s1 _ (by omega))
      have l2 : ∀ (m k : Nat), k + m = nC V h - 1 - a → ∀ ll M1, (∃ v6, ll = [(2, 45), (2, (h : Int)), (2, 71), (0, sumI (fun a => sumI (fun k => sgn V h mm a (a + 1 + k)) (nC V h - 1 - a)) a + sumI (fun k => sgn V h mm a (a + 1 + k)) k), (0, (a : Int)), (0, ((a + 1 + k : Nat) : Int)), v6] ∧ Sb W70 M M1 ∧ M1 45 0 = V 45 0 ∧ ∀ i, M1 48 i = dnA V h sm a (a + 1 + k) i) → ax_G L X SH 2 70 12 ll [] M1 (R1 0 P) := by
        refine lp ?_ ?_
        · rintro ll M1 ⟨v6, rfl, hS, h45, h48⟩
          refine g3 hC rfl rfl ?_
          refine g3 hC rfl rfl ?_
          refine g19 hC rfl (shH hh) (Nat.le_of_ble_eq_true rfl) rfl (rd3 hS hwh hV hW) ?_
          refine g13g hC rfl (fun h15 => ?_) (fun h15 => (by omega))
          refine n4 hC rfl rfl ⟨by omega, by omega⟩ ?_
          refine g14 hC rfl ?_
          refine hnext _ _ ⟨_, _, rfl, hS, h45, fun i => ?_⟩
          rw [h48 i]
          unfold dnA
          by_cases z : i < 28
          · have hp := pO_pr i z
            by_cases y : i < 28 ∧ (prA i < a ∨ (prA i = a ∧ prB i < a + 1 + (nC V h - 1 - a)))
            · rw [if_pos y, if_pos ⟨z, Or.inl (by omega)⟩]
            · rw [if_neg y]
              by_cases w : i < 28 ∧ (prA i < a + 1 ∨ (prA i = a + 1 ∧ prB i < a + 1 + 1))
              · rw [if_pos w]
                unfold sgP
                rw [if_neg (by omega)]
              · rw [if_neg w]
          · rw [if_neg (fun w => z w.1), if_neg (fun w => z w.1)]
        · rintro k hk ll M1 ⟨v6, rfl, hS, h45, h48⟩ hnx
          have b2 := sgn_s1 (V := V) (h := h) (mm := mm) (a := a) k (by omega)
          have e : sumI (fun k => sgn V h mm a (a + 1 + k)) (k + 1) = sumI (fun k => sgn V h mm a (a + 1 + k)) k + sgn V h mm a (a + 1 + k) := rfl
          have eb : pQ a (a + 1 + k) = pO a (a + 1 + k) := by unfold pQ; rw [if_pos (by omega)]
          have hlt := pO_lt (a := a) (b := a + 1 + k) (by omega) (by omega)
          have hpr := pr_pO (a + 1 + k) (by omega) a (by omega)
          have hmet : M1 (95 + a) (a + 1 + k) = mm a (a + 1 + k) := (hS _ _ (wbo 95 103 rfl (by omega) (by omega))).trans (hm a (a + 1 + k) (by omega) (by omega))
          have hv0 : M1 48 (pO a (a + 1 + k)) = V 48 (pO a (a + 1 + k)) := by
            rw [h48]; unfold dnA; rw [if_neg (fun w => by omega)]
          have hv1 := hSW.2.2.2 _ hlt
          have hnew : ∀ i, dnA V h sm a (a + 1 + (k + 1)) i = up (dnA V h sm a (a + 1 + k)) (pO a (a + 1 + k)) (sgP V h sm (pO a (a + 1 + k))) i := by
            intro i
            unfold up
            by_cases z : i = pO a (a + 1 + k)
            · rw [if_pos z, z]; unfold dnA; rw [if_pos ⟨hlt, by omega⟩]
            · rw [if_neg z]; unfold dnA
              by_cases y : i < 28 ∧ (prA i < a ∨ (prA i = a ∧ prB i < a + 1 + k))
              · rw [if_pos y, if_pos ⟨y.1, by omega⟩]
              · rw [if_neg y, if_neg (fun w => ?_)]
                have hp := pO_pr i w.1
                have q1 : prA i = a := by omega
                have q2 : prB i = a + 1 + k := by omega
                rw [q1, q2] at hp
                exact z hp.2.2.symm
          refine g3 hC rfl rfl ?_
          refine g3 hC rfl rfl ?_
          refine g19 hC rfl (shH hh) (Nat.le_of_ble_eq_true rfl) rfl (rd3 hS hwh hV hW) ?_
          refine g13g hC rfl (fun h15 => (by omega)) (fun h15 => ?_)
          refine g3 hC rfl rfl ?_
          refine g19 hC rfl rfl (Nat.le_of_ble_eq_true rfl) rfl ((hS.fix hw hF).g fx_71_5) ?_
          refine g3 hC rfl rfl ?_
          refine r21 (a) hC rfl (by omega) sh94 (Or.inl rfl) (by omega) ((hS.fix hw hF).r (n := 8) (v := 95) rfl (by omega)) ?_
          refine g3 hC rfl rfl ?_
          refine r21 (a + 1 + k) hC rfl rfl (shR95 (by omega)) (Or.inl rfl) (by omega) hmet ?_
          refine g3 hC rfl rfl ?_
          refine g19 hC rfl (shH hh) (Nat.le_of_ble_eq_true rfl) rfl (rdi0 hS hwh hV 18) ?_
          refine g13l hC rfl (fun h24 => ?_) (fun h24 => ?_)
          ·
            refine n5 hC rfl rfl ⟨by omega, by omega⟩ ?_
            refine g14 hC rfl ?_
            have h0 : ¬ V h 18 ≤ mm a (a + 1 + k) := by omega
            refine hnx _ _ ⟨v6, ?_, hS, h45, fun i => ?_⟩
            · rw [e, show sgn V h mm a (a + 1 + k) = 0 from if_neg h0, Int.add_zero]; rfl
            · rw [hnew i, h48 i]
              unfold up
              by_cases z : i = pO a (a + 1 + k)
              · rw [if_pos z, z, ← h48, hv0]
                unfold sgP
                rw [hpr.1, hpr.2, ← hmm, if_neg (fun w => h0 w.2)]
              · rw [if_neg z]
          ·
            refine g3 hC rfl rfl ?_
            refine g3 hC rfl rfl ?_
            refine c1 hC rfl rfl rfl (Nat.le_of_ble_eq_true rfl) (Nat.le_of_ble_eq_true rfl) rfl (m66 (by omega) (by omega)) (Nat.le_of_ble_eq_true rfl) (fun x M2 hr => ?_)
            obtain ⟨rfl, hr⟩ := hr; replace hr := hr.symm; subst hr; rw [eb]
            refine s6 hC rfl rfl rfl ?_
            refine g3 hC rfl rfl ?_
            refine g19 hC rfl rfl (Nat.le_of_ble_eq_true rfl) rfl ((hS.fix hw hF).g rfl) ?_
            refine g3 hC rfl rfl ?_
            refine g0 hC rfl ?_
            refine g3 hC rfl rfl ?_
            refine g19 hC rfl rfl (Nat.le_of_ble_eq_true rfl) rfl ((hS.fix hw hF).g rfl) ?_
            refine g3 hC rfl rfl ?_
            refine r21 (pO a (a + 1 + k)) hC rfl rfl rfl (Or.inl rfl) (by omega) hv0 ?_
            refine g0 hC rfl ?_
            refine g6a hC rfl ⟨by omega, by omega⟩ ?_
            refine c1 hC rfl rfl rfl (Nat.le_of_ble_eq_true rfl) (Nat.le_of_ble_eq_true rfl) rfl (m306) (Nat.le_of_ble_eq_true rfl) (fun x M2 hr => ?_)
            obtain ⟨rfl, hr⟩ := hr
            replace hr := hr.symm
            subst hr
            refine r22s (pO a (a + 1 + k)) hC rfl rfl rfl (by omega) rfl hS rfl (fun hS => ?_)
            refine n3 hC rfl rfl ⟨by omega, by omega⟩ ?_
            refine n5 hC rfl rfl ⟨by omega, by omega⟩ ?_
            refine g14 hC rfl ?_
            have h0 : V h 18 ≤ mm a (a + 1 + k) := by omega
            refine hnx _ _ ⟨(0, ((pO a (a + 1 + k) : Nat) : Int)), ?_, hS, h45, fun i => ?_⟩
            · rw [e, show sgn V h mm a (a + 1 + k) = 1 from if_pos h0, ← Int.add_assoc]; rfl
            · rw [hnew i, ax_upf]
              unfold up
              by_cases z : i = pO a (a + 1 + k)
              · rw [if_pos z, if_pos z]
                unfold sgP
                rw [hpr.1, hpr.2, ← hmm, if_pos ⟨by omega, h0⟩]
              · rw [if_neg z, if_neg z]; exact h48 i
      refine g3 hC rfl rfl ?_
      refine g3 hC rfl rfl ?_
      refine g19 hC rfl (shH hh) (Nat.le_of_ble_eq_true rfl) rfl (rd3 hS hwh hV hW) ?_
      refine g13g hC rfl (fun h7 => (by omega)) (fun h7 => ?_)
      refine g3 hC rfl rfl ?_
      refine g0 hC rfl ?_
      refine g6a hC rfl ⟨by omega, by omega⟩ ?_
      refine s5 hC rfl rfl rfl ?_
      exact l2 (nC V h - 1 - a) 0 (Nat.zero_add _) _ _ ⟨_, by rw [show sumI (fun k => sgn V h mm a (a + 1 + k)) 0 = 0 from rfl, Int.add_zero]; rfl, hS, h45, h48⟩
  have hS : Sb W70 M M := Sb.refl
  refine g0 hC rfl ?_
  refine s3 hC rfl rfl rfl ?_
  refine g0 hC rfl ?_
  refine s4 hC rfl rfl rfl ?_
  refine l1 (nC V h) 0 (Nat.zero_add _) _ _ ⟨_, _, rfl, hS, (hV.2 0).1, fun i => ?_⟩
  rw [(hV.2 i).2.2.2]; unfold dnA
  rw [if_neg (fun w => by have := pO_pr i w.1; omega)]
theorem m211 (hF : Fix M) (hh : h = 9 ∨ h = 27) (hV : RV V h M) (hW : HW V h) (hSW : SW V) (hPW : PW V h) {sm : Int} (hsm : M 142 69 = sm) (hwd : M 142 70 = -1) (hd : V 45 0 ≤ 998) : ax_Ev L X SH 7 211 [(2, 142)] M (R1 0 (fun x M' => x = sgRr V h (mt V h sm (-1)) ∧ Sb XE M M' ∧ RV (nxD V h sm) h M')) := by
  show ax_G L X SH 7 211 0 [(2, 142), (3, 0), (3, 0)] [] M _
  obtain ⟨mm, hmm⟩ : ∃ mm, mm = mt V h sm (-1) := ⟨_, rfl⟩
  have hmms : ∀ a b, mm a b = mm b a := by rw [hmm]; exact fun a b => mt_s
  rw [← hmm]
  obtain ⟨P, hP⟩ : ∃ P, P = fun (x : Int) M' => x = sgRr V h mm ∧ Sb XE M M' ∧ RV (nxD V h sm) h M' := ⟨_, rfl⟩
  rw [← hP]
  have hC := at211
  have hw : wok XE = true := by decide +kernel
  have hb := hW.1.2.2.2.2
  have hs1 := hSW.1
  have hgen : ∀ M1, Sb XE M M1 → (∀ i, i < 16 → M1 185 i = M 185 i) → (∀ x y, x < y → y < 8 → ∃ q, M1 185 (16 + pA x y) = q) → Fix M1 := fun M1 hS _ _ => hS.fix hw hF
  have hRV2 : ∀ M1, Sb XE M M1 → (M1 176 4 = V h 0 ∧ M1 176 7 = V h 1 ∧ M1 176 5 = V h 2 ∧ M1 176 6 = V h 3) ∧ (M1 181 3 = V h 17 ∧ M1 181 4 = V h 18 ∧ M1 181 5 = V h 19) := by
    intro M1 hS
    rw [hS 176 4 rfl, hS 176 7 rfl, hS 176 5 rfl, hS 176 6 rfl, hS 181 3 rfl, hS 181 4 rfl, hS 181 5 rfl]
    exact ⟨hV.1, hV.2.2.2.1⟩
  have h186 : ∀ M1, Sb XE M M1 → ax_Ev L X SH 0 186 [(2, 142)] M1 (R1 0 (fun x M' => x = (nC V h : Int) ∧ M' = M1)) := by
    intro M1 hS
    show ax_G L X SH 0 186 0 [(2, 142)] [] M1 _
    have hC := at186
    have h6 : M1 176 6 = (nC V h : Int) := ((hRV2 M1 hS).1.2.2.2).trans hW.1.2.2.2.1
    refine g3 hC rfl rfl ?_
    refine g19 hC rfl sh142 (flt12 rfl) ft12_42 ((hS.fix hw hF).g fx_142_42) ?_
    refine g0 hC rfl ?_
    refine r21 (6) hC rfl (by omega) sh176 (Or.inl rfl) (by omega) h6 ?_
    refine ret1 hC rfl rfl ?_
    exact ⟨rfl, rfl⟩
  have h209 : ∀ M1, Sb XE M M1 → (∀ a b, a < 8 → b < 8 → M1 193 (8 * a + b) = mm a b) → ∀ a b : Nat, a < 8 → b < 8 → ax_Ev L X SH 0 209 [(2, 142), (0, (a : Int)), (0, (b : Int))] M1 (R1 0 (fun x M' => x = sgn V h mm a b ∧ M' = M1)) := by
    intro M1 hS hm a b ha hb
    show ax_G L X SH 0 209 0 [(2, 142), (0, (a : Int)), (0, (b : Int))] [] M1 _
    have hC := at209
    have h6 : M1 181 4 = V h 18 := (hRV2 M1 hS).2.2.1
    refine g3 hC rfl rfl ?_
    refine g19 hC rfl sh142 (flt12 rfl) ft12_66 ((hS.fix hw hF).g fx_142_66) ?_
    refine g0 hC rfl ?_
    refine g3 hC rfl rfl ?_
    refine g6m hC rfl ⟨by omega, by omega⟩ ?_
    refine g3 hC rfl rfl ?_
    refine g6a hC rfl ⟨by omega, by omega⟩ ?_
    refine r21 (((8 * a) + b)) hC rfl (by omega) sh193 (Or.inl rfl) (by omega) (hm a b ha hb) ?_
    refine g3 hC rfl rfl ?_
    refine g19 hC rfl sh142 (flt12 rfl) ft12_47 ((hS.fix hw hF).g fx_142_47) ?_
    refine g0 hC rfl ?_
    refine r21 (4) hC rfl (by omega) sh181 (Or.inl rfl) (by omega) h6 ?_
    refine g13l hC rfl (fun h12 => ?_) (fun h12 => ?_)
    ·
      refine g0 hC rfl ?_
      refine ret3 hC rfl ⟨by omega, by omega⟩ ?_
      exact ⟨(if_neg (by omega)).symm, rfl⟩
    ·
      refine g0 hC rfl ?_
      refine g14 hC rfl ?_
      refine ret3 hC rfl ⟨by omega, by omega⟩ ?_
      exact ⟨(if_pos (by omega)).symm, rfl⟩
  have l1 : ∀ (m a : Nat), a + m = nC V h → ∀ ll M1, (∃ v, ll = [(2, 142), (0, (a : Int)), v] ∧ Sb XE M M1 ∧ (∀ a b, a < 8 → b < 8 → M1 193 (8 * a + b) = mm a b) ∧ (∀ i, i < 16 → M1 185 i = M 185 i) ∧ ∀ x y, x < y → y < 8 → M1 185 (16 + pA x y) = if y < a then sgP V h sm (pO x y) else V 48 (pO x y)) → ax_G L X SH 7 211 4 ll [] M1 (R1 0 P) := by
    refine lp ?_ ?_
    · rintro ll M1 ⟨v, rfl, hS, hm, h16, hp⟩
      have hSf : ∀ M3, Sb XE M M3 → M3 = ax_up M1 185 0 (V 45 0 + 1) → RV (nxD V h sm) h M3 := by
        intro M3 hS3 e3
        obtain ⟨n1, n2, n3, n4⟩ := nxn (V := V) (h := h) (sm := sm) hh
        have nn : ∀ i k, i < 18 → nxD V h sm (h + i) k = V (h + i) k := fun i k hi => nx_ne (by omega) (by omega)
        have n0 : ∀ k, nxD V h sm h k = V h k := fun k => nx_ne (by omega) (by omega)
        have o : ∀ c q, 176 ≤ c → c < 185 → M3 c q = M c q := fun c q h1 h2 => hS3 c q (wbo 176 185 rfl h1 h2)
        refine ⟨?_, fun s hs => ?_, fun c hc => ?_, ?_, ⟨?_, fun q hq => ?_, fun s hs => ?_, fun x y hxy hy => ?_⟩, ?_⟩
        · rw [n0, n0, n0, n0]; exact (hRV2 M3 hS3).1
        · rw [n2] at hs; rw [nn 4 s (by decide), nn 5 s (by decide), nn 6 s (by decide), o _ _ (by decide) (by decide), o _ _ (by decide) (by decide), o _ _ (by decide) (by decide)]; exact hV.2.1 s hs
        · rw [n4] at hc; rw [nn 8 c (by decide), nn 9 c (by decide), nn 10 c (by decide), nn 11 c (by decide), o _ _ (by decide) (by decide), o _ _ (by decide) (by decide), o _ _ (by decide) (by decide), o _ _ (by decide) (by decide)]; exact hV.2.2.1 c hc
        · rw [n0, n0, n0]; exact (hRV2 M3 hS3).2
        · rw [e3, ax_up_at, nx_45]; omega
        · rw [e3, ax_up_of (by omega), h16 _ (by omega), nx_ne (by decide) (by decide)]; exact hV.2.2.2.2.1.2.1 q hq
        · rw [e3, ax_up_of (by omega), h16 _ (by omega), nx_ne (by decide) (by decide)]; exact hV.2.2.2.2.1.2.2.1 s hs
        · rw [e3, ax_up_of (by omega), hp x y hxy hy]
          have hlt := pO_lt hxy hy
          rw [nx_48 hlt]
          split
          · rfl
          · have hpr := pr_pO y hy x hxy
            unfold sgP
            rw [if_neg (fun w => by omega)]
        · have h6 := hV.2.2.2.2.2
          rw [nx_ne (by decide) (by decide), nx_ne (by decide) (by decide), nx_ne (by decide) (by decide), nx_ne (by decide) (by decide), o 182 _ (by decide) (by decide), o 182 _ (by decide) (by decide), o 183 _ (by decide) (by decide), o 183 _ (by decide) (by decide)]
          refine ⟨h6.1, h6.2.1, h6.2.2.1, h6.2.2.2.1, fun k hk => ?_⟩
          rw [nx_ne (by decide) (by decide), o 184 _ (by decide) (by decide)]; exact h6.2.2.2.2 k hk
      have h0 : M1 185 0 = V 45 0 := (h16 0 (by decide)).trans hV.2.2.2.2.1.1
      refine g3 hC rfl rfl ?_
      refine g3 hC rfl rfl ?_
      refine c1 hC rfl rfl rfl (Nat.le_of_ble_eq_true rfl) (Nat.le_of_ble_eq_true rfl) (mayR k186 rfl) (h186 _ hS) (Nat.le_of_ble_eq_true rfl) (fun x M2 hr => ?_)
      obtain ⟨rfl, hr⟩ := hr
      replace hr := hr.symm
      subst hr
      refine g13g hC rfl (fun h7 => ?_) (fun h7 => (by omega))
      refine g3 hC rfl rfl ?_
      refine g19 hC rfl sh142 (flt12 rfl) ft12_54 ((hS.fix hw hF).g fx_142_54) ?_
      refine g0 hC rfl ?_
      refine g17 hC rfl (by decide) ?_
      refine r21 (0) hC rfl (by omega) sh185 (Or.inl rfl) (by omega) h0 ?_
      refine g0 hC rfl ?_
      refine g6a hC rfl ⟨by omega, by omega⟩ ?_
      refine r22s (0) hC rfl (by omega) sh185 (by omega) rfl hS rfl (fun hS => ?_)
      refine g3 hC rfl rfl ?_
      refine c1 hC rfl rfl rfl (Nat.le_of_ble_eq_true rfl) (Nat.le_of_ble_eq_true rfl) (mayR k210 rfl) (m210 (hS.fix hw hF) (hSf _ hS rfl) (nxHW hh hW) (mm := mm) hm) (Nat.le_of_ble_eq_true rfl) (fun x M2 hr => ?_)
      obtain ⟨rfl, hr⟩ := hr; replace hr := hr.symm; subst hr
      refine ret1 hC rfl rfl ?_
      rw [hP]
      refine ⟨?_, hS, hSf _ hS rfl⟩
      unfold sgRr sgn
      rw [(nxn (V := V) (h := h) (sm := sm) hh).2.2.2, nx_ne (by omega) (by omega)]
    · rintro a ha ll M1 ⟨v, rfl, hS, hm, h16, hp⟩ hnext
      have l2 : ∀ (m b : Nat), b + m = a → ∀ ll M1, (ll = [(2, 142), (0, (a : Int)), (0, (b : Int))] ∧ Sb XE M M1 ∧ (∀ a b, a < 8 → b < 8 → M1 193 (8 * a + b) = mm a b) ∧ (∀ i, i < 16 → M1 185 i = M 185 i) ∧ ∀ x y, x < y → y < 8 → M1 185 (16 + pA x y) = if y < a ∨ (y = a ∧ x < b) then sgP V h sm (pO x y) else V 48 (pO x y)) → ax_G L X SH 7 211 10 ll [] M1 (R1 0 P) := by
        refine lp ?_ ?_
        · rintro ll M1 ⟨rfl, hS, hm, h16, hp⟩
          refine g3 hC rfl rfl ?_
          refine g3 hC rfl rfl ?_
          refine g13g hC rfl (fun h12 => ?_) (fun h12 => (by omega))
          refine n1 hC rfl rfl ⟨by omega, by omega⟩ ?_
          refine g14 hC rfl ?_
          refine hnext _ _ ⟨_, rfl, hS, hm, h16, fun x y hxy hy => ?_⟩
          rw [hp x y hxy hy]
          by_cases z : y < a + 1
          · rw [if_pos (by omega), if_pos z]
          · rw [if_neg (by omega), if_neg z]
        · rintro b hb2 ll M1 ⟨rfl, hS, hm, h16, hp⟩ hnx
          have ea : pB a b = pA b a := by unfold pB; rw [if_neg (by omega)]
          have hlt := pA_lt (a := b) (b := a) (by omega) (by omega)
          have hlo := pO_lt (a := b) (b := a) (by omega) (by omega)
          have hpr := pr_pO a (by omega) b (by omega)
          have hv0 : M1 185 (16 + pA b a) = V 48 (pO b a) := by rw [hp b a (by omega) (by omega), if_neg (by omega)]
          have hv1 := hSW.2.2.2 _ hlo
          have same : sgP V h sm (pO b a) = V 48 (pO b a) → ax_G L X SH 7 211 10 [(2, 142), (0, (a : Int)), (0, (b : Int) + 1)] [] M1 (R1 0 P) := by
            intro e
            refine hnx _ _ ⟨rfl, hS, hm, h16, fun x y hxy hy => ?_⟩
            rw [hp x y hxy hy]
            by_cases z : y < a ∨ (y = a ∧ x < b)
            · rw [if_pos z, if_pos (by omega)]
            · rw [if_neg z]
              by_cases w : y < a ∨ (y = a ∧ x < b + 1)
              · rw [if_pos w]
                have q1 : y = a := by omega
                have q2 : x = b := by omega
                rw [q1, q2, e]
              · rw [if_neg w]
          refine g3 hC rfl rfl ?_
          refine g3 hC rfl rfl ?_
          refine g13g hC rfl (fun h12 => (by omega)) (fun h12 => ?_)
          refine g3 hC rfl rfl ?_
          refine g3 hC rfl rfl ?_
          refine g3 hC rfl rfl ?_
          refine c1 hC rfl rfl rfl (Nat.le_of_ble_eq_true rfl) (Nat.le_of_ble_eq_true rfl) (mayR k209 rfl) (h209 _ hS hm _ _ (by omega) (by omega)) (Nat.le_of_ble_eq_true rfl) (fun x M2 hr => ?_)
          obtain ⟨rfl, hr⟩ := hr
          replace hr := hr.symm
          subst hr
          refine g12e hC rfl (fun h17 => ?_) (fun h17 => ?_)
          ·
            refine n2 hC rfl rfl ⟨by omega, by omega⟩ ?_
            refine g14 hC rfl ?_
            refine same ?_
            unfold sgP
            rw [hpr.1, hpr.2, ← hmm, if_neg (fun w => ?_)]
            unfold sgn at h17
            rw [hmms, if_pos w.2] at h17; omega
          ·
            refine g3 hC rfl rfl ?_
            refine g19 hC rfl sh142 (flt12 rfl) ft12_54 ((hS.fix hw hF).g fx_142_54) ?_
            refine g3 hC rfl rfl ?_
            refine g3 hC rfl rfl ?_
            refine c1 hC rfl rfl rfl (Nat.le_of_ble_eq_true rfl) (Nat.le_of_ble_eq_true rfl) (mayS k193 rfl) (m193 (by omega) (by omega) (by omega)) (Nat.le_of_ble_eq_true rfl) (fun x M2 hr => ?_)
            obtain ⟨rfl, hr⟩ := hr; replace hr := hr.symm; subst hr; rw [ea]
            refine r21 (16 + pA b a) hC rfl rfl sh185 (Or.inl rfl) (by omega) hv0 ?_
            refine g0 hC rfl ?_
            refine g13g hC rfl (fun h25 => ?_) (fun h25 => ?_)
            ·
              refine n2 hC rfl rfl ⟨by omega, by omega⟩ ?_
              refine g14 hC rfl ?_
              refine same ?_
              unfold sgP
              split <;> omega
            ·
              refine g3 hC rfl rfl ?_
              refine g19 hC rfl sh142 (flt12 rfl) ft12_54 ((hS.fix hw hF).g fx_142_54) ?_
              refine g3 hC rfl rfl ?_
              refine g3 hC rfl rfl ?_
              refine c1 hC rfl rfl rfl (Nat.le_of_ble_eq_true rfl) (Nat.le_of_ble_eq_true rfl) (mayS k193 rfl) (m193 (by omega) (by omega) (by omega)) (Nat.le_of_ble_eq_true rfl) (fun x M2 hr => ?_)
              obtain ⟨rfl, hr⟩ := hr; replace hr := hr.symm; subst hr; rw [ea]
              refine g17 hC rfl (by decide) ?_
              refine r21 (16 + pA b a) hC rfl rfl sh185 (Or.inl rfl) (by omega) hv0 ?_
              refine g0 hC rfl ?_
              refine g6a hC rfl ⟨by omega, by omega⟩ ?_
              refine r22s (16 + pA b a) hC rfl rfl sh185 (by omega) rfl hS rfl (fun hS => ?_)
              refine n2 hC rfl rfl ⟨by omega, by omega⟩ ?_
              refine g14 hC rfl ?_
              refine hnx _ _ ⟨rfl, hS, hm, fun i hi => ?_, fun x y hxy hy => ?_⟩
              · rw [ax_up_of (by omega)]; exact h16 i hi
              · rw [ax_upf]; unfold up
                by_cases z : x = b ∧ y = a
                · rw [if_pos (by rw [z.1, z.2]), if_pos (by omega), z.1, z.2]
                  unfold sgP
                  rw [hpr.1, hpr.2, ← hmm, if_pos]
                  · omega
                  · refine ⟨by omega, ?_⟩
                    by_cases w : V h 18 ≤ mm b a
                    · exact w
                    · unfold sgn at h17; rw [hmms, if_neg w] at h17; omega
                · rw [if_neg (fun w => z (pA_inj y hy x hxy a (by omega) b (by omega) (by omega))), hp x y hxy hy]
                  by_cases w : y < a ∨ (y = a ∧ x < b)
                  · rw [if_pos w, if_pos (by omega)]
                  · rw [if_neg w, if_neg (by omega)]
      refine g3 hC rfl rfl ?_
      refine g3 hC rfl rfl ?_
      refine c1 hC rfl rfl rfl (Nat.le_of_ble_eq_true rfl) (Nat.le_of_ble_eq_true rfl) (mayR k186 rfl) (h186 _ hS) (Nat.le_of_ble_eq_true rfl) (fun x M2 hr => ?_)
      obtain ⟨rfl, hr⟩ := hr
      replace hr := hr.symm
      subst hr
      refine g13g hC rfl (fun h7 => (by omega)) (fun h7 => ?_)
      refine g0 hC rfl ?_
      refine s2 hC rfl rfl rfl ?_
      refine l2 a 0 (Nat.zero_add _) _ _ ⟨rfl, hS, hm, h16, fun x y hxy hy => ?_⟩
      rw [hp x y hxy hy]
      by_cases z : y < a
      · rw [if_pos z, if_pos (by omega)]
      · rw [if_neg z, if_neg (by omega)]
  have hS : Sb XE M M := Sb.refl
  refine g3 hC rfl rfl ?_
  refine c0 hC rfl rfl rfl (Nat.le_of_ble_eq_true rfl) (Nat.le_of_ble_eq_true rfl) (mayR k208 rfl) (m208 hF hV hW hSW hPW hsm hwd) (Nat.le_of_ble_eq_true rfl) (fun M2 hr => ?_)
  obtain ⟨hr0, hr⟩ := hr; have hS := hS.then hr0 rfl
  refine g0 hC rfl ?_
  refine s1 hC rfl rfl rfl ?_
  refine l1 (nC V h) 0 (Nat.zero_add _) _ _ ⟨_, rfl, hS, ?_, fun i hi => hr0 185 i rfl, fun x y hxy hy => ?_⟩
  · rw [hmm]; exact hr.2.2.2
  · rw [hr0 185 _ rfl, if_neg (by omega)]; exact hV.2.2.2.2.1.2.2.2 x y hxy hy
end DRG
