section CST
variable {L : Nat} {X : Nat → Int} {M : ax_M} {h n : Nat} {s : HS} {T : Nat → Int} {q : PS}
theorem wrdN_y {w : List Int} {k : PS → SRs} (e : wdR T n q w = none) : wrdN T n w q k = k (nx T n q) := by unfold wrdN tryR; rw [e]
theorem wrdN_n {w : List Int} {k : PS → SRs} {f p : Int} (e : wdR T n q w = some (f, p)) : wrdN T n w q k = .inl (f, p) := by unfold wrdN tryR; rw [e]
theorem m47 (hF : Fix M) (hh : h = 9 ∨ h = 27) (hn : n ≤ 1600) (hH : CHo h s M) (hlt : s.2.1.1 < 10) (hq : CT T n q M) (hqn : q.1 ≤ n) {pp : Int} : ax_Ev L X SH 8 47 [(2, 7), (2, (h : Int))] M (R1 0 (fun x M' => (∃ f p, x = 0 ∧ CF f p M' ∧ Sb WNS M M' ∧ stairF T n s pp q = .inl (f, p)) ∨ (x = 1 ∧ ∃ (M2 : ax_M) (a b : Nat) (v : Int) (q' : PS), Sb WNS M M2 ∧ CT T n q' M2 ∧ M' = ax_up (ax_up (ax_up (ax_up M2 (h + 4) s.2.1.1 (a : Int)) (h + 5) s.2.1.1 (b : Int)) (h + 6) s.2.1.1 v) h 1 ((s.2.1.1 : Int) + 1) ∧ stairF T n s pp q = .inr (q', (s.1, vadd s.2.1 (a, b, v), s.2.2))))) := by
  show ax_G L X SH 8 47 0 [(2, 7), (2, (h : Int)), (3, 0), (3, 0)] [] M _
  obtain ⟨P, hP⟩ : ∃ P, P = fun (x : Int) (M' : ax_M) => (∃ f p, x = 0 ∧ CF f p M' ∧ Sb WNS M M' ∧ stairF T n s pp q = .inl (f, p)) ∨ (x = 1 ∧ ∃ (M2 : ax_M) (a b : Nat) (v : Int) (q' : PS), Sb WNS M M2 ∧ CT T n q' M2 ∧ M' = ax_up (ax_up (ax_up (ax_up M2 (h + 4) s.2.1.1 (a : Int)) (h + 5) s.2.1.1 (b : Int)) (h + 6) s.2.1.1 v) h 1 ((s.2.1.1 : Int) + 1) ∧ stairF T n s pp q = .inr (q', (s.1, vadd s.2.1 (a, b, v), s.2.2))) := ⟨_, rfl⟩
  rw [← hP]
  have hC := at47
  have hw : wok WNS = true := by decide +kernel
  have hck : cnk WNS = true := by decide +kernel
  have sh := shn1 hh
  have sh4 := shn4 hh
  have hcW : ∀ k, wb WNA (h + 1) k = false := fun k => by rcases hh with rfl | rfl <;> rfl
  have b0 := hH.1.1.1.2
  have eS : stairF T n s pp q = oldN T n s.1.2 s.1.1 q (fun a q1 => wrdN T n w_to q1 (fun q2 => oldN T n s.1.2 s.1.1 q2 (fun b q3 => if (a == b || hasS s.2.1 a b) = true then .inl (3, (q2.1 : Int)) else setN T n w_wide 1 4 q3 (fun x q4 => .inr (q4, (s.1, vadd s.2.1 (a, b, x), s.2.2)))))) := by unfold stairF; rw [if_neg (by omega)]
  have fl : ∀ f p M', CF f p M' → Sb WNS M M' → stairF T n s pp q = .inl (f, p) → P 0 M' := fun f p M' a b c => by rw [hP]; exact Or.inl ⟨f, p, rfl, a, b, c⟩
  have t45 : ∀ (M5 : ax_M) (i j : Nat) (q3 : PS), Sb WNS M M5 → CT T n q3 M5 → q3.1 ≤ n → stairF T n s pp q = setN T n w_wide 1 4 q3 (fun x q4 => .inr (q4, (s.1, vadd s.2.1 (i, j, x), s.2.2))) → ax_G L X SH 8 47 45 [(2, 7), (2, (h : Int)), (0, (i : Int)), (0, (j : Int))] [] M5 (R1 0 P) := by
    intro M5 i j q3 hS ct hq3 eq
    have hq4 := (wq_nx (T := T) hq3).1
    refine g3 hC rfl rfl ?_
    refine g2 hC rfl ?_
    refine g0 hC rfl ?_
    refine g0 hC rfl ?_
    refine c1 hC rfl rfl rfl (Nat.le_of_ble_eq_true rfl) (Nat.le_of_ble_eq_true rfl) rfl (m45 (hS.fix hw hF) hn ct hq3 hq4 ts18 (tb18.trans (List.append_nil w_wide)) tbn18.1) (Nat.le_of_ble_eq_true rfl) (fun x M6 hr => ?_)
    obtain ⟨hr2, hr3⟩ := hr; have hS := hS.then hr2 rfl; have hN6 := hH.1.sb hh hS hck; have e1 := hN6.1.2.1.1; have hF6 := hS.fix hw hF
    refine g12e hC rfl (fun h50 => ?_) (fun h50 => ?_)
    ·
      refine g0 hC rfl ?_
      refine ret3 hC rfl ⟨by omega, by omega⟩ ?_
      rcases hr3 with ⟨f, p, -, v2, v3⟩ | ⟨v1, -⟩
      · exact fl f p _ v2 hS (eq.trans (v3 _))
      · omega
    ·
      refine g3 hC rfl rfl ?_
      refine g19 hC rfl (shH hh) (Nat.le_of_ble_eq_true rfl) rfl e1 ?_
      refine g0 hC rfl ?_
      refine g13l hC rfl (fun h54 => ?_) (fun h54 => (by omega))
      refine g3 hC rfl rfl ?_
      refine g19 hC rfl (shH hh) (Nat.le_of_ble_eq_true rfl) rfl (hF6.h (v := 4) hh rfl rfl) ?_
      refine g3 hC rfl rfl ?_
      refine g19 hC rfl (shH hh) (Nat.le_of_ble_eq_true rfl) rfl e1 ?_
      refine g3 hC rfl rfl ?_
      refine r22 (s.2.1.1) hC rfl rfl sh4.1 (by omega) rfl ?_
      refine g3 hC rfl rfl ?_
      refine g19 hC rfl (shH hh) (Nat.le_of_ble_eq_true rfl) rfl ((ax_up2n (by omega)).trans (hF6.h (v := 5) hh rfl rfl)) ?_
      refine g3 hC rfl rfl ?_
      refine g19 hC rfl (shH hh) (Nat.le_of_ble_eq_true rfl) rfl ((ax_up2n (by omega)).trans e1) ?_
      refine g3 hC rfl rfl ?_
      refine r22 (s.2.1.1) hC rfl rfl sh4.2.1 (by omega) rfl ?_
      refine g3 hC rfl rfl ?_
      refine g19 hC rfl (shH hh) (Nat.le_of_ble_eq_true rfl) rfl ((ax_up2n (by omega)).trans ((ax_up2n (by omega)).trans (hF6.h (v := 6) hh rfl rfl))) ?_
      refine g3 hC rfl rfl ?_
      refine g19 hC rfl (shH hh) (Nat.le_of_ble_eq_true rfl) rfl ((ax_up2n (by omega)).trans ((ax_up2n (by omega)).trans e1)) ?_
      refine g3 hC rfl rfl ?_
      refine g19 hC rfl rfl (Nat.le_of_ble_eq_true rfl) rfl ((ax_up2n (show 7 ≠ h + 5 by omega)).trans ((ax_up2n (show 7 ≠ h + 4 by omega)).trans (hF6.f (a := 7) (k := 0) (v := 1) rfl))) ?_
      refine g19 hC rfl rfl (Nat.le_of_ble_eq_true rfl) rfl ((ax_up2n (show 1 ≠ h + 5 by omega)).trans (ax_up2n (show 1 ≠ h + 4 by omega))) ?_
      refine r22 (s.2.1.1) hC rfl rfl sh4.2.2 (by omega) rfl ?_
      refine g3 hC rfl rfl ?_
      refine g16 hC rfl (by decide) ?_
      refine g19 hC rfl (shH hh) (Nat.le_of_ble_eq_true rfl) rfl ((ax_up2n (by omega)).trans ((ax_up2n (by omega)).trans ((ax_up2n (by omega)).trans e1))) ?_
      refine g0 hC rfl ?_
      refine g6a hC rfl ⟨by omega, by omega⟩ ?_
      refine g20 hC rfl (shH hh) (Nat.le_of_ble_eq_true rfl) rfl ?_
      refine g0 hC rfl ?_
      refine ret3 hC rfl ⟨by omega, by omega⟩ ?_
      rcases hr3 with ⟨f, p, v1, -⟩ | ⟨-, v2, v3, v4⟩
      · omega
      · rw [hP]; exact Or.inr ⟨rfl, M6, i, j, _, _, hS, v2, by rw [v3], eq.trans (v4 _)⟩
  have t29 : ∀ (M4 : ax_M) (i j : Nat) (q2 : PS), Sb WNS M M4 → CT T n (nx T n q2) M4 → (nx T n q2).1 ≤ n → M4 1 5 = (q2.1 : Int) → stairF T n s pp q = (if (i == j || hasS s.2.1 i j) = true then .inl (3, (q2.1 : Int)) else setN T n w_wide 1 4 (nx T n q2) (fun x q4 => .inr (q4, (s.1, vadd s.2.1 (i, j, x), s.2.2)))) → ax_G L X SH 8 47 29 [(2, 7), (2, (h : Int)), (0, (i : Int)), (0, (j : Int))] [] M4 (R1 0 P) := by
    intro M4 i j q2 hS ct hq3 e5 eq
    have hN4 := hH.1.sb hh hS hck
    have tF : (i == j || hasS s.2.1 i j) = true → P 0 (ax_up (ax_up M4 1 8 3) 1 9 (q2.1 : Int)) := fun z => fl 3 _ _ CF.up ((hS.up rfl).up rfl) (by rw [eq, if_pos z])
    by_cases z : i = j
    · have z1 : (i == j || hasS s.2.1 i j) = true := by rw [beq_iff_eq.mpr z]; rfl
      refine g3 hC rfl rfl ?_
      refine g3 hC rfl rfl ?_
      refine g13e hC rfl (fun h31 => ?_) (fun h31 => (by omega))
      refine g3 hC rfl rfl ?_
      refine g19 hC rfl rfl (Nat.le_of_ble_eq_true rfl) rfl ((hS.fix hw hF).g rfl) ?_
      refine g0 hC rfl ?_
      refine g3 hC rfl rfl ?_
      refine g19 hC rfl rfl (Nat.le_of_ble_eq_true rfl) rfl ((hS.fix hw hF).g rfl) ?_
      refine g19 hC rfl rfl (Nat.le_of_ble_eq_true rfl) rfl e5 ?_
      refine c1 hC rfl rfl rfl (Nat.le_of_ble_eq_true rfl) (Nat.le_of_ble_eq_true rfl) rfl (m89) (Nat.le_of_ble_eq_true rfl) (fun x M2 hr => ?_)
      obtain ⟨rfl, hr⟩ := hr; replace hr := hr.symm; subst hr
      refine ret3 hC rfl ⟨by omega, by omega⟩ ?_
      exact tF z1
    · have ht : CHt h s.2.1 M4 := (hH.nu hh hS).2.1
      cases y : hasS s.2.1 i j with
      | true =>
        have z1 : (i == j || hasS s.2.1 i j) = true := by rw [y]; exact Bool.or_true _
        refine g3 hC rfl rfl ?_
        refine g3 hC rfl rfl ?_
        refine g13e hC rfl (fun h31 => (by omega)) (fun h31 => ?_)
        refine g3 hC rfl rfl ?_
        refine g3 hC rfl rfl ?_
        refine g3 hC rfl rfl ?_
        refine c1 hC rfl rfl rfl (Nat.le_of_ble_eq_true rfl) (Nat.le_of_ble_eq_true rfl) (mayH hh rfl rfl) (m37 (hS.fix hw hF) hh hN4.1.2.1.1 hN4.1.2.1.2 ht z) (Nat.le_of_ble_eq_true rfl) (fun x M5 hr => ?_)
        obtain ⟨hr, hy⟩ := hr; replace hr := hr.symm; subst hr; rw [y] at hy; replace hy : x = 1 := hy; subst hy
        refine g12e hC rfl (fun h36 => (by omega)) (fun h36 => ?_)
        refine g3 hC rfl rfl ?_
        refine g19 hC rfl rfl (Nat.le_of_ble_eq_true rfl) rfl ((hS.fix hw hF).g rfl) ?_
        refine g0 hC rfl ?_
        refine g3 hC rfl rfl ?_
        refine g19 hC rfl rfl (Nat.le_of_ble_eq_true rfl) rfl ((hS.fix hw hF).g rfl) ?_
        refine g19 hC rfl rfl (Nat.le_of_ble_eq_true rfl) rfl e5 ?_
        refine c1 hC rfl rfl rfl (Nat.le_of_ble_eq_true rfl) (Nat.le_of_ble_eq_true rfl) rfl (m89) (Nat.le_of_ble_eq_true rfl) (fun x M2 hr => ?_)
        obtain ⟨rfl, hr⟩ := hr; replace hr := hr.symm; subst hr
        refine ret3 hC rfl ⟨by omega, by omega⟩ ?_
        exact tF z1
      | false =>
        refine g3 hC rfl rfl ?_
        refine g3 hC rfl rfl ?_
        refine g13e hC rfl (fun h31 => (by omega)) (fun h31 => ?_)
        refine g3 hC rfl rfl ?_
        refine g3 hC rfl rfl ?_
        refine g3 hC rfl rfl ?_
        refine c1 hC rfl rfl rfl (Nat.le_of_ble_eq_true rfl) (Nat.le_of_ble_eq_true rfl) (mayH hh rfl rfl) (m37 (hS.fix hw hF) hh hN4.1.2.1.1 hN4.1.2.1.2 ht z) (Nat.le_of_ble_eq_true rfl) (fun x M5 hr => ?_)
        obtain ⟨hr, hy⟩ := hr; replace hr := hr.symm; subst hr; rw [y] at hy; replace hy : x = 0 := hy; subst hy
        refine g12e hC rfl (fun h36 => ?_) (fun h36 => (by omega))
        exact t45 _ i j (nx T n q2) hS ct hq3 (by rw [eq, if_neg (by rw [y, Bool.or_false, beq_iff_eq]; exact z)])
  have t17 : ∀ (M3 : ax_M) (i : Nat) (q2 : PS), Sb WNS M M3 → CT T n q2 M3 → q2.1 ≤ n → stairF T n s pp q = oldN T n s.1.2 s.1.1 q2 (fun b q3 => if (i == b || hasS s.2.1 i b) = true then .inl (3, (q2.1 : Int)) else setN T n w_wide 1 4 q3 (fun x q4 => .inr (q4, (s.1, vadd s.2.1 (i, b, x), s.2.2)))) → ax_G L X SH 8 47 17 [(2, 7), (2, (h : Int)), (0, (i : Int)), (3, 0)] [] M3 (R1 0 P) := by
    intro M3 i q2 hS ct hq2 eq
    have hN3 := hH.1.sb hh hS hck
    have e0 := hN3.1.1.1
    refine g3 hC rfl rfl ?_
    refine g3 hC rfl rfl ?_
    refine g19 hC rfl (shH hh) (Nat.le_of_ble_eq_true rfl) rfl ((hS.fix hw hF).h (v := 1) hh rfl rfl) ?_
    refine g3 hC rfl rfl ?_
    refine g19 hC rfl (shH hh) (Nat.le_of_ble_eq_true rfl) rfl e0 ?_
    refine c1 hC rfl rfl rfl (Nat.le_of_ble_eq_true rfl) (Nat.le_of_ble_eq_true rfl) rfl (m44 (hS.fix hw hF) hn sh.1 (by omega) (by decide) hcW hN3.2.1 ct hq2) (Nat.le_of_ble_eq_true rfl) (fun x M4 hr => ?_)
    obtain ⟨hr0, hr1⟩ := hr; have hS := hS.then hr0 rfl
    refine s3 hC rfl rfl rfl ?_
    refine g3 hC rfl rfl ?_
    refine g0 hC rfl ?_
    refine g13n hC rfl (fun h26 => ?_) (fun h26 => ?_)
    ·
      rcases hr1 with ⟨f, p, v1, -⟩ | ⟨b, hb, v1, w2, w3, w4⟩
      · omega
      · subst v1; exact t29 _ i b q2 hS w2 (wq_nx hq2).1 w3 (eq.trans (w4 _))
    ·
      refine g0 hC rfl ?_
      refine ret3 hC rfl ⟨by omega, by omega⟩ ?_
      rcases hr1 with ⟨f, p, -, w2, w3⟩ | ⟨b, hb, v1, -⟩
      · exact fl f p _ w2 hS (eq.trans (w3 _))
      · omega
  have e0 := hH.1.1.1.1
  have hq1 := (wq_nx (T := T) hqn).1
  have hS : Sb WNS M M := Sb.refl
  refine g3 hC rfl rfl ?_
  refine g3 hC rfl rfl ?_
  refine g19 hC rfl (shH hh) (Nat.le_of_ble_eq_true rfl) rfl ((hS.fix hw hF).h (v := 1) hh rfl rfl) ?_
  refine g3 hC rfl rfl ?_
  refine g19 hC rfl (shH hh) (Nat.le_of_ble_eq_true rfl) rfl e0 ?_
  refine c1 hC rfl rfl rfl (Nat.le_of_ble_eq_true rfl) (Nat.le_of_ble_eq_true rfl) rfl (m44 hF hn sh.1 (by omega) (by decide) hcW hH.1.2.1 hq hqn) (Nat.le_of_ble_eq_true rfl) (fun x M2 hr => ?_)
  obtain ⟨hr0, hr1⟩ := hr; have hS : Sb WNS M M2 := hr0.mono rfl
  refine s2 hC rfl rfl rfl ?_
  refine g3 hC rfl rfl ?_
  refine g0 hC rfl ?_
  refine g13e hC rfl (fun h9 => ?_) (fun h9 => ?_)
  ·
    refine g0 hC rfl ?_
    refine ret3 hC rfl ⟨by omega, by omega⟩ ?_
    rcases hr1 with ⟨f, p, -, w2, w3⟩ | ⟨b, hb, v1, -⟩
    · exact fl f p _ w2 hS (eS.trans (w3 _))
    · omega
  ·
    refine g3 hC rfl rfl ?_
    refine g19 hC rfl rfl (Nat.le_of_ble_eq_true rfl) rfl ((hS.fix hw hF).g rfl) ?_
    refine g2 hC rfl ?_
    have hr2 : ∃ i : Nat, i < s.1.1 ∧ x = (i : Int) ∧ CT T n (nx T n q) M2 ∧ M2 1 5 = (q.1 : Int) ∧ ∀ k, oldN T n s.1.2 s.1.1 q k = k i (nx T n q) := by { rcases hr1 with ⟨f, p, v1, -⟩ | y; omega; exact y }
    obtain ⟨i, hi, hx, w2, w3, w4⟩ := hr2; subst hx
    refine c1 hC rfl rfl rfl (Nat.le_of_ble_eq_true rfl) (Nat.le_of_ble_eq_true rfl) rfl (m95r (hS.fix hw hF) hn w2 hq1 ts16 (tb16.trans (List.append_nil w_to)) tbn16.1) (Nat.le_of_ble_eq_true rfl) (fun y M3 hr => ?_)
    obtain ⟨hr3, hr4⟩ := hr; have hS := hS.then hr3 rfl
    refine g12n hC rfl (fun h14 => ?_) (fun h14 => ?_)
    ·
      rcases hr4 with ⟨f, p, -, v1, -⟩ | ⟨e, v1, v2, -⟩
      · omega
      · exact t17 M3 i _ hS v2 (wq_nx hq1).1 (by rw [eS, w4, wrdN_y e])
    ·
      refine g0 hC rfl ?_
      refine ret3 hC rfl ⟨by omega, by omega⟩ ?_
      rcases hr4 with ⟨f, p, e, -, v2⟩ | ⟨e, v1, v2, -⟩
      · exact fl f p _ v2 hS (by rw [eS, w4, wrdN_n e])
      · omega
end CST
