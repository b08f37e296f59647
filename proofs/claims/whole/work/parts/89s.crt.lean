def WPR : ax_W := ([(8, 9)], [(1, 2), (1, 3), (1, 4)])
def stw : List (List Int) := [w_room, w_stair, w_part, w_clerk, w_turns, w_dear, w_hears, w_signs, w_smoke]
section CRT
variable {L : Nat} {X : Nat → Int} {M : ax_M} {h n c k : Nat} {s : HS} {T : Nat → Int} {q : PS} {P : Int → ax_M → Prop}
theorem c92 (hF : Fix M) (hn : n ≤ 1600) (hq : CT T n q M) (hqn : q.1 ≤ n) : ax_Ev L X SH 4 92 [(2, 1), (2, -12)] M (R1 0 (fun x M' => x = fnd T n q 0 stw ∧ M' = M)) := m92 hF hn hq hqn ts12 tb12 tbn12.1 tbn12.2
theorem st42a (hF : Fix M) (hn : n ≤ 1600) (hq : CT T n q M) (hqn : q.1 ≤ n) (hf : fnd T n q 0 stw = -1) (hP : P 0 (ax_up (ax_up M 1 8 1) 1 9 (q.1 : Int))) : ax_G L X SH 37 42 0 [(2, 7), (2, (h : Int)), (3, 0)] [] M (R1 0 P) := by
  have hC := at42
  have hw : wok WPR = true := by decide +kernel
  have hS : Sb WPR M M := Sb.refl
  refine g3 hC rfl rfl ?_
  refine g19 hC rfl rfl (Nat.le_of_ble_eq_true rfl) rfl ((hS.fix hw hF).g rfl) ?_
  refine g2 hC rfl ?_
  refine c1 hC rfl rfl rfl (Nat.le_of_ble_eq_true rfl) (Nat.le_of_ble_eq_true rfl) rfl (c92 hF hn hq hqn) (Nat.le_of_ble_eq_true rfl) (fun x M2 hr => ?_)
  obtain ⟨hx, hr⟩ := hr; replace hr := hr.symm; subst hr; rw [hf] at hx; subst hx
  refine s2 hC rfl rfl rfl ?_
  refine g3 hC rfl rfl ?_
  refine g0 hC rfl ?_
  refine g13n hC rfl (fun h7 => (by omega)) (fun h7 => ?_)
  refine g3 hC rfl rfl ?_
  refine g19 hC rfl rfl (Nat.le_of_ble_eq_true rfl) rfl ((hS.fix hw hF).g rfl) ?_
  refine g0 hC rfl ?_
  refine g3 hC rfl rfl ?_
  refine g19 hC rfl rfl (Nat.le_of_ble_eq_true rfl) rfl ((hS.fix hw hF).g rfl) ?_
  refine g19 hC rfl rfl (Nat.le_of_ble_eq_true rfl) rfl hq.2.2.1 ?_
  refine c1 hC rfl rfl rfl (Nat.le_of_ble_eq_true rfl) (Nat.le_of_ble_eq_true rfl) rfl (m89) (Nat.le_of_ble_eq_true rfl) (fun x M2 hr => ?_)
  obtain ⟨rfl, hr⟩ := hr; replace hr := hr.symm; subst hr
  refine ret3 hC rfl ⟨by omega, by omega⟩ ?_
  exact hP
theorem st42b (hF : Fix M) (hn : n ≤ 1600) (hq : CT T n q M) (hqn : q.1 ≤ n) (hk : k < 9) (hf : fnd T n q 0 stw = (k : Int)) (hm : ax_mo.getD k 0 ≤ M 8 k) (hP : P 0 (ax_up (ax_up M 1 8 5) 1 9 (q.1 : Int))) : ax_G L X SH 37 42 0 [(2, 7), (2, (h : Int)), (3, 0)] [] M (R1 0 P) := by
  have hC := at42
  have hw : wok WPR = true := by decide +kernel
  have hS : Sb WPR M M := Sb.refl
  refine g3 hC rfl rfl ?_
  refine g19 hC rfl rfl (Nat.le_of_ble_eq_true rfl) rfl ((hS.fix hw hF).g rfl) ?_
  refine g2 hC rfl ?_
  refine c1 hC rfl rfl rfl (Nat.le_of_ble_eq_true rfl) (Nat.le_of_ble_eq_true rfl) rfl (c92 hF hn hq hqn) (Nat.le_of_ble_eq_true rfl) (fun x M2 hr => ?_)
  obtain ⟨hx, hr⟩ := hr; replace hr := hr.symm; subst hr; rw [hf] at hx; subst hx
  refine s2 hC rfl rfl rfl ?_
  refine g3 hC rfl rfl ?_
  refine g0 hC rfl ?_
  refine g13n hC rfl (fun h7 => ?_) (fun h7 => (by omega))
  refine g3 hC rfl rfl ?_
  refine g19 hC rfl rfl (Nat.le_of_ble_eq_true rfl) rfl ((hS.fix hw hF).g rfl) ?_
  refine g3 hC rfl rfl ?_
  refine r21 (k) hC rfl rfl (show SH[8]? = some (1, 0, 9) from rfl) (Or.inl rfl) hk (Eq.refl (M 8 k)) ?_
  refine g2 hC rfl ?_
  refine g3 hC rfl rfl ?_
  refine g21m hC rfl hk ?_
  refine g13l hC rfl (fun h23 => (by omega)) (fun h23 => ?_)
  refine g3 hC rfl rfl ?_
  refine g19 hC rfl rfl (Nat.le_of_ble_eq_true rfl) rfl ((hS.fix hw hF).g rfl) ?_
  refine g0 hC rfl ?_
  refine g3 hC rfl rfl ?_
  refine g19 hC rfl rfl (Nat.le_of_ble_eq_true rfl) rfl ((hS.fix hw hF).g rfl) ?_
  refine g19 hC rfl rfl (Nat.le_of_ble_eq_true rfl) rfl hq.2.2.1 ?_
  refine c1 hC rfl rfl rfl (Nat.le_of_ble_eq_true rfl) (Nat.le_of_ble_eq_true rfl) rfl (m89) (Nat.le_of_ble_eq_true rfl) (fun x M2 hr => ?_)
  obtain ⟨rfl, hr⟩ := hr; replace hr := hr.symm; subst hr
  refine ret3 hC rfl ⟨by omega, by omega⟩ ?_
  exact hP
theorem st42c (hF : Fix M) (hn : n ≤ 1600) (hq : CT T n q M) (hqn : q.1 ≤ n) (hk : k < 9) (hf : fnd T n q 0 stw = (k : Int)) (hm : M 8 k < ax_mo.getD k 0) (hb : 0 ≤ M 8 k ∧ M 8 k ≤ 80) (hP : ∀ M1, Sb WPR M M1 → CT T n (nx T n q) M1 → M1 8 k = M 8 k + 1 → (∀ i, i ≠ k → M1 8 i = M 8 i) → ax_G L X SH 37 42 43 [(2, 7), (2, (h : Int)), (0, (k : Int))] [] M1 (R1 0 P)) : ax_G L X SH 37 42 0 [(2, 7), (2, (h : Int)), (3, 0)] [] M (R1 0 P) := by
  have hC := at42
  have hw : wok WPR = true := by decide +kernel
  have hS : Sb WPR M M := Sb.refl
  have ct1 : CT T n q (ax_up M 8 k (M 8 k + 1)) := hq.same (fun i => ax_up2n (by decide)) (fun i => ax_up2n (by decide))
  refine g3 hC rfl rfl ?_
  refine g19 hC rfl rfl (Nat.le_of_ble_eq_true rfl) rfl ((hS.fix hw hF).g rfl) ?_
  refine g2 hC rfl ?_
  refine c1 hC rfl rfl rfl (Nat.le_of_ble_eq_true rfl) (Nat.le_of_ble_eq_true rfl) rfl (c92 hF hn hq hqn) (Nat.le_of_ble_eq_true rfl) (fun x M2 hr => ?_)
  obtain ⟨hx, hr⟩ := hr; replace hr := hr.symm; subst hr; rw [hf] at hx; subst hx
  refine s2 hC rfl rfl rfl ?_
  refine g3 hC rfl rfl ?_
  refine g0 hC rfl ?_
  refine g13n hC rfl (fun h7 => ?_) (fun h7 => (by omega))
  refine g3 hC rfl rfl ?_
  refine g19 hC rfl rfl (Nat.le_of_ble_eq_true rfl) rfl ((hS.fix hw hF).g rfl) ?_
  refine g3 hC rfl rfl ?_
  refine r21 (k) hC rfl rfl (show SH[8]? = some (1, 0, 9) from rfl) (Or.inl rfl) hk (Eq.refl (M 8 k)) ?_
  refine g2 hC rfl ?_
  refine g3 hC rfl rfl ?_
  refine g21m hC rfl hk ?_
  refine g13l hC rfl (fun h23 => ?_) (fun h23 => (by omega))
  refine g3 hC rfl rfl ?_
  refine g19 hC rfl rfl (Nat.le_of_ble_eq_true rfl) rfl ((hS.fix hw hF).g rfl) ?_
  refine g3 hC rfl rfl ?_
  refine g17 hC rfl (by decide) ?_
  refine r21 (k) hC rfl rfl (show SH[8]? = some (1, 0, 9) from rfl) (Or.inl rfl) hk (Eq.refl (M 8 k)) ?_
  refine g0 hC rfl ?_
  refine g6a hC rfl ⟨by omega, by omega⟩ ?_
  refine r22s (k) hC rfl rfl (show SH[8]? = some (1, 0, 9) from rfl) hk rfl hS rfl (fun hS => ?_)
  refine g3 hC rfl rfl ?_
  refine g19 hC rfl rfl (Nat.le_of_ble_eq_true rfl) rfl ((hS.fix hw hF).g rfl) ?_
  refine c0 hC rfl rfl rfl (Nat.le_of_ble_eq_true rfl) (Nat.le_of_ble_eq_true rfl) rfl (m90q (hS.fix hw hF) hn ct1 hqn) (Nat.le_of_ble_eq_true rfl) (fun M2 hr => ?_)
  refine hP M2 (hS.then hr.1 rfl) hr.2 ((hr.1 _ _ rfl).trans ax_up_at) (fun i hi => (hr.1 _ _ rfl).trans (ax_up_of hi))
theorem TO.l {M' : ax_M} (hT : TO c s M) (hk : k < 9) (e1 : M' 8 k = M 8 k + 1) (e2 : ∀ i, i ≠ k → M' 8 i = M 8 i) : ∀ i, i < 9 → 0 ≤ M' 8 i ∧ M' 8 i ≤ ((c + 1 : Nat) : Int) := by
  intro i hi
  by_cases z : i = k
  · rw [z, e1]; have := hT.2.2 k hk; omega
  · rw [e2 i z]; have := hT.2.2 i hi; omega
theorem wPn (hh : h = 9 ∨ h = 27) : wle WPR (WHo h) = true := by rcases hh with rfl | rfl <;> rfl
theorem m42 (hF : Fix M) (hh : h = 9 ∨ h = 27) (hn : n ≤ 1600) (hc : c < 80) (hH : CHo h s M) (hT : TO c s M) (hq : CT T n q M) (hqn : q.1 ≤ n) : ax_Ev L X SH 37 42 [(2, 7), (2, (h : Int))] M (R1 0 (fun x M' => Sb (WHo h) M M' ∧ ((∃ f p, x = 0 ∧ CF f p M' ∧ stmF T n s q = .inl (f, p)) ∨ ∃ q' s', x = 1 ∧ stmF T n s q = .inr (q', s') ∧ CT T n q' M' ∧ CHo h s' M' ∧ TO (c + 1) s' M'))) := by
  show ax_G L X SH 37 42 0 [(2, 7), (2, (h : Int)), (3, 0)] [] M _
  obtain ⟨P, hP⟩ : ∃ P, P = fun (x : Int) (M' : ax_M) => Sb (WHo h) M M' ∧ ((∃ f p, x = 0 ∧ CF f p M' ∧ stmF T n s q = .inl (f, p)) ∨ ∃ q' s', x = 1 ∧ stmF T n s q = .inr (q', s') ∧ CT T n q' M' ∧ CHo h s' M' ∧ TO (c + 1) s' M') := ⟨_, rfl⟩
  rw [← hP]
  have hC := at42
  have hw := wHo hh
  have fl : ∀ f p M', CF f p M' → Sb (WHo h) M M' → stmF T n s q = .inl (f, p) → P 0 M' := fun f p M' a b c => by rw [hP]; exact ⟨b, Or.inl ⟨f, p, rfl, a, c⟩⟩
  have ff : ∀ f : Int, Sb (WHo h) M (ax_up (ax_up M 1 8 f) 1 9 (q.1 : Int)) := fun f => (Sb.refl.up (by rcases hh with rfl | rfl <;> rfl)).up (by rcases hh with rfl | rfl <;> rfl)
  have hb9 : ∀ k, k < 9 → 0 ≤ M 8 k ∧ M 8 k ≤ 80 := fun k hk => by have := hT.2.2 k hk; omega
  have v1 := (wq_nx (T := T) hqn).1
  have nu : ∀ {W' : ax_W} {M1 M2 : ax_M}, wle W' WNS = true → Sb WPR M M1 → Sb W' M1 M2 → Sb (WHo h) M M2 := fun w a b => (Sb.refl.then a (wPn hh)).then (b.mono w) (wHn hh)
  have hp1 : ∀ M1, Sb WPR M M1 → CHo h s M1 := fun M1 a => hH.sb a (hokB (by decide +kernel) hh)
  cases z0 : isW T n q w_room with
  | true =>
    have hf : fnd T n q 0 stw = ((0 : Nat) : Int) := by simp [stw, fnd, z0]
    have eq : stmF T n s q = roomF T n s q.1 (nx T n q) := by unfold stmF; rw [z0, if_pos rfl]
    have b0 := hH.1.1.1.2
    have t0 := hT.1.1
    by_cases z : s.1.1 = 8
    · exact st42b hF hn hq hqn (by decide) hf (by rw [t0, z]; decide) (fl 5 _ _ CF.up (ff 5) (by rw [eq]; unfold roomF; rw [if_pos z]))
    · refine st42c hF hn hq hqn (by decide) hf (by rw [t0]; show (s.1.1 : Int) < 8; omega) (hb9 0 (by decide)) (fun M1 hs1 ct1 e1 e2 => ?_)
      have hF1 := (Sb.refl.then hs1 (wPn hh)).fix hw hF
      have hc1 := hp1 M1 hs1
      refine g3 hC rfl rfl ?_
      refine g15k (key := 0) (i' := 45) hC rfl rfl rfl rfl ?_
      refine g3 hC rfl rfl ?_
      refine g3 hC rfl rfl ?_
      refine c1 hC rfl rfl rfl (Nat.le_of_ble_eq_true rfl) (Nat.le_of_ble_eq_true rfl) rfl (m46 hF1 hh hn hc1.1 (by omega) ct1 v1) (Nat.le_of_ble_eq_true rfl) (fun x M2 hr => ?_)
      rcases hr with ⟨f, p, rfl, w2, w3, w4⟩ | ⟨rfl, M3, w1, w2, rfl, w4⟩
      · refine ret3 hC rfl ⟨by omega, by omega⟩ (fl f p _ w2 (nu (W' := WNA) rfl hs1 w3) ?_)
        rw [eq]; unfold roomF; rw [if_neg z]; exact w4 _
      · refine ret3 hC rfl ⟨by omega, by omega⟩ ?_
        rw [hP]
        have hs3 := nu (W' := WNA) rfl hs1 w1
        refine ⟨(hs3.up (by rcases hh with rfl | rfl <;> rfl)).up (by rcases hh with rfl | rfl <;> rfl), Or.inr ⟨_, _, rfl, ?_, w2.same (fun i => (ax_up2n (by omega)).trans (ax_up2n (by omega))) (fun i => (ax_up2n (by omega)).trans (ax_up2n (by omega))), (hc1.nu hh (w1.mono rfl)).room (by omega), ?_⟩⟩
        · rw [eq]; unfold roomF; rw [if_neg z]; exact w4 _
        · have g8 : ∀ i, ax_up (ax_up M3 (h + 1) s.1.1 (ncm (nmQ T n (nx T n q)) : Int)) h 0 ((s.1.1 : Int) + 1) 8 i = M1 8 i := fun i => (ax_up2n (by omega)).trans ((ax_up2n (by omega)).trans (w1 8 i rfl))
          refine ⟨⟨?_, ?_, ?_, ?_⟩, ⟨?_, ?_⟩, hT.l (k := 0) (by decide) ((g8 0).trans e1) (fun i hi => (g8 i).trans (e2 i hi))⟩
          · rw [g8, e1, t0]; rfl
          · rw [g8, e2 1 (by decide)]; exact hT.1.2.1
          · rw [g8, e2 2 (by decide)]; exact hT.1.2.2.1
          · rw [g8, e2 3 (by decide)]; exact hT.1.2.2.2
          · rw [g8, e2 4 (by decide)]; exact hT.2.1.1
          · rw [g8, e2 5 (by decide)]; exact hT.2.1.2
  | false =>
  cases z1 : isW T n q w_stair with
  | true =>
    have hf : fnd T n q 0 stw = ((1 : Nat) : Int) := by simp [stw, fnd, z0, z1]
    have eq : stmF T n s q = stairF T n s q.1 (nx T n q) := by unfold stmF; rw [z0, z1, if_neg Bool.false_ne_true, if_pos rfl]
    have b0 := hH.1.1.2.1.2
    have t0 := hT.1.2.1
    by_cases z : s.2.1.1 = 10
    · exact st42b hF hn hq hqn (by decide) hf (by rw [t0, z]; decide) (fl 5 _ _ CF.up (ff 5) (by rw [eq]; unfold stairF; rw [if_pos z]))
    · refine st42c hF hn hq hqn (by decide) hf (by rw [t0]; show (s.2.1.1 : Int) < 10; omega) (hb9 1 (by decide)) (fun M1 hs1 ct1 e1 e2 => ?_)
      have hF1 := (Sb.refl.then hs1 (wPn hh)).fix hw hF
      have hc1 := hp1 M1 hs1
      refine g3 hC rfl rfl ?_
      refine g15k (key := 1) (i' := 49) hC rfl rfl rfl rfl ?_
      refine g3 hC rfl rfl ?_
      refine g3 hC rfl rfl ?_
      refine c1 hC rfl rfl rfl (Nat.le_of_ble_eq_true rfl) (Nat.le_of_ble_eq_true rfl) rfl (m47 hF1 hh hn hc1 (by omega) ct1 v1 (pp := (q.1 : Int))) (Nat.le_of_ble_eq_true rfl) (fun x M2 hr => ?_)
      rcases hr with ⟨f, p, rfl, w2, w3, w4⟩ | ⟨rfl, M3, a, b, v, q', w1, w2, rfl, w4⟩
      · exact ret3 hC rfl ⟨by omega, by omega⟩ (fl f p _ w2 (nu (W' := WNS) rfl hs1 w3) (eq.trans w4))
      · refine ret3 hC rfl ⟨by omega, by omega⟩ ?_
        rw [hP]
        have hs3 := nu (W' := WNS) rfl hs1 w1
        refine ⟨(((hs3.up (by rcases hh with rfl | rfl <;> rfl)).up (by rcases hh with rfl | rfl <;> rfl)).up (by rcases hh with rfl | rfl <;> rfl)).up (by rcases hh with rfl | rfl <;> rfl), Or.inr ⟨_, _, rfl, eq.trans w4, w2.same (fun i => (ax_up2n (by omega)).trans ((ax_up2n (by omega)).trans ((ax_up2n (by omega)).trans (ax_up2n (by omega))))) (fun i => (ax_up2n (by omega)).trans ((ax_up2n (by omega)).trans ((ax_up2n (by omega)).trans (ax_up2n (by omega))))), (hc1.nu hh w1).stair (by omega), ?_⟩⟩
        have g8 : ∀ i, ax_up (ax_up (ax_up (ax_up M3 (h + 4) s.2.1.1 (a : Int)) (h + 5) s.2.1.1 (b : Int)) (h + 6) s.2.1.1 v) h 1 ((s.2.1.1 : Int) + 1) 8 i = M1 8 i := fun i => (ax_up2n (by omega)).trans ((ax_up2n (by omega)).trans ((ax_up2n (by omega)).trans ((ax_up2n (by omega)).trans (w1 8 i rfl))))
        refine ⟨⟨?_, ?_, ?_, ?_⟩, ⟨?_, ?_⟩, hT.l (k := 1) (by decide) ((g8 1).trans e1) (fun i hi => (g8 i).trans (e2 i hi))⟩
        · rw [g8, e2 0 (by decide)]; exact hT.1.1
        · rw [g8, e1, t0]; rfl
        · rw [g8, e2 2 (by decide)]; exact hT.1.2.2.1
        · rw [g8, e2 3 (by decide)]; exact hT.1.2.2.2
        · rw [g8, e2 4 (by decide)]; exact hT.2.1.1
        · rw [g8, e2 5 (by decide)]; exact hT.2.1.2
  | false =>
  cases z2 : isW T n q w_part with
  | true =>
    have hf : fnd T n q 0 stw = ((2 : Nat) : Int) := by simp [stw, fnd, z0, z1, z2]
    have eq : stmF T n s q = sectF T n s q.1 (nx T n q) := by unfold stmF; rw [z0, z1, z2, if_neg Bool.false_ne_true, if_neg Bool.false_ne_true, if_pos rfl]
    have b0 := hH.1.1.2.2.1.2
    have t0 := hT.1.2.2.1
    by_cases z : s.2.2.1.1 = 5
    · exact st42b hF hn hq hqn (by decide) hf (by rw [t0, z]; decide) (fl 5 _ _ CF.up (ff 5) (by rw [eq]; unfold sectF; rw [if_pos z]))
    · refine st42c hF hn hq hqn (by decide) hf (by rw [t0]; show (s.2.2.1.1 : Int) < 5; omega) (hb9 2 (by decide)) (fun M1 hs1 ct1 e1 e2 => ?_)
      have hF1 := (Sb.refl.then hs1 (wPn hh)).fix hw hF
      have hc1 := hp1 M1 hs1
      refine g3 hC rfl rfl ?_
      refine g15k (key := 2) (i' := 53) hC rfl rfl rfl rfl ?_
      refine g3 hC rfl rfl ?_
      refine g3 hC rfl rfl ?_
      refine c1 hC rfl rfl rfl (Nat.le_of_ble_eq_true rfl) (Nat.le_of_ble_eq_true rfl) rfl (m48 hF1 hh hn hc1.1 (by omega) ct1 v1) (Nat.le_of_ble_eq_true rfl) (fun x M2 hr => ?_)
      rcases hr with ⟨f, p, rfl, w2, w3, w4⟩ | ⟨rfl, M3, w1, w2, rfl, w3, w4⟩
      · refine ret3 hC rfl ⟨by omega, by omega⟩ (fl f p _ w2 (nu (W' := WNS) rfl hs1 w3) ?_)
        rw [eq]; unfold sectF; rw [if_neg z]; exact w4 (fun m x q2 => .inr (q2, (s.1, s.2.1, vadd s.2.2.1 (m, x), s.2.2.2)))
      · refine ret3 hC rfl ⟨by omega, by omega⟩ ?_
        rw [hP]
        have hs3 := nu (W' := WNS) rfl hs1 w1
        refine ⟨((hs3.up (by rcases hh with rfl | rfl <;> rfl)).up (by rcases hh with rfl | rfl <;> rfl)).up (by rcases hh with rfl | rfl <;> rfl), Or.inr ⟨_, _, rfl, ?_, w2.same (fun i => (ax_up2n (by omega)).trans ((ax_up2n (by omega)).trans (ax_up2n (by omega)))) (fun i => (ax_up2n (by omega)).trans ((ax_up2n (by omega)).trans (ax_up2n (by omega)))), (hc1.nu hh w1).sect (by omega), ?_⟩⟩
        · rw [eq]; unfold sectF; rw [if_neg z]; exact w4 (fun m x q2 => .inr (q2, (s.1, s.2.1, vadd s.2.2.1 (m, x), s.2.2.2)))
        · have g8 : ∀ i, ax_up (ax_up (ax_up M3 (h + 2) s.2.2.1.1 (ncm (nmQ T n (nx T n q)) : Int)) (h + 7) s.2.2.1.1 (nuV T n (nx T n (nx T n (nx T n q))))) h 2 ((s.2.2.1.1 : Int) + 1) 8 i = M1 8 i := fun i => (ax_up2n (by omega)).trans ((ax_up2n (by omega)).trans ((ax_up2n (by omega)).trans (w1 8 i rfl)))
          refine ⟨⟨?_, ?_, ?_, ?_⟩, ⟨?_, ?_⟩, hT.l (k := 2) (by decide) ((g8 2).trans e1) (fun i hi => (g8 i).trans (e2 i hi))⟩
          · rw [g8, e2 0 (by decide)]; exact hT.1.1
          · rw [g8, e2 1 (by decide)]; exact hT.1.2.1
          · rw [g8, e1, t0]; rfl
          · rw [g8, e2 3 (by decide)]; exact hT.1.2.2.2
          · rw [g8, e2 4 (by decide)]; exact hT.2.1.1
          · rw [g8, e2 5 (by decide)]; exact hT.2.1.2
  | false =>
  cases z3 : isW T n q w_clerk with
  | true =>
    have hf : fnd T n q 0 stw = ((3 : Nat) : Int) := by simp [stw, fnd, z0, z1, z2, z3]
    have eq : stmF T n s q = clerkF T n s q.1 (nx T n q) := by unfold stmF; rw [z0, z1, z2, z3, if_neg Bool.false_ne_true, if_neg Bool.false_ne_true, if_neg Bool.false_ne_true, if_pos rfl]
    have b0 := hH.1.1.2.2.2.2
    have t0 := hT.1.2.2.2
    by_cases z : s.2.2.2.1.1 = 8
    · exact st42b hF hn hq hqn (by decide) hf (by rw [t0, z]; decide) (fl 5 _ _ CF.up (ff 5) (by rw [eq]; unfold clerkF; rw [if_pos z]))
    · refine st42c hF hn hq hqn (by decide) hf (by rw [t0]; show (s.2.2.2.1.1 : Int) < 8; omega) (hb9 3 (by decide)) (fun M1 hs1 ct1 e1 e2 => ?_)
      have hF1 := (Sb.refl.then hs1 (wPn hh)).fix hw hF
      have hc1 := hp1 M1 hs1
      refine g3 hC rfl rfl ?_
      refine g15k (key := 3) (i' := 57) hC rfl rfl rfl rfl ?_
      refine g3 hC rfl rfl ?_
      refine g3 hC rfl rfl ?_
      refine c1 hC rfl rfl rfl (Nat.le_of_ble_eq_true rfl) (Nat.le_of_ble_eq_true rfl) rfl (m49 hF1 hh hn hc1 (by omega) ct1 v1 (pp := (q.1 : Int))) (Nat.le_of_ble_eq_true rfl) (fun x M2 hr => ?_)
      obtain ⟨w0, g8, hr⟩ := hr
      have hs3 := (Sb.refl.then hs1 (wPn hh)).trans w0
      rcases hr with ⟨f, p, rfl, w2, w4⟩ | ⟨rfl, m, a, b, v, w, q', w2, w3, w4⟩
      · exact ret3 hC rfl ⟨by omega, by omega⟩ (fl f p _ w2 hs3 (eq.trans w4))
      · refine ret3 hC rfl ⟨by omega, by omega⟩ ?_
        rw [hP]
        refine ⟨hs3, Or.inr ⟨_, _, rfl, eq.trans w4, w2, w3, ?_⟩⟩
        refine ⟨⟨?_, ?_, ?_, ?_⟩, ⟨?_, ?_⟩, hT.l (k := 3) (by decide) ((g8 3).trans e1) (fun i hi => (g8 i).trans (e2 i hi))⟩
        · rw [g8, e2 0 (by decide)]; exact hT.1.1
        · rw [g8, e2 1 (by decide)]; exact hT.1.2.1
        · rw [g8, e2 2 (by decide)]; exact hT.1.2.2.1
        · rw [g8, e1, t0]; rfl
        · rw [g8, e2 4 (by decide)]; exact hT.2.1.1
        · rw [g8, e2 5 (by decide)]; exact hT.2.1.2
  | false =>
  cases z4 : isW T n q w_turns with
  | true =>
    have hf : fnd T n q 0 stw = ((4 : Nat) : Int) := by simp [stw, fnd, z0, z1, z2, z3, z4]
    have eq : stmF T n s q = turnF T n s q.1 (nx T n q) := by unfold stmF; rw [z0, z1, z2, z3, z4, if_neg Bool.false_ne_true, if_neg Bool.false_ne_true, if_neg Bool.false_ne_true, if_neg Bool.false_ne_true, if_pos rfl]
    have t0 := hT.2.1.1
    by_cases z : s.2.2.2.2.1.isSome = true
    · exact st42b hF hn hq hqn (by decide) hf (by rw [t0, if_pos z]; decide) (fl 5 _ _ CF.up (ff 5) (by rw [eq]; unfold turnF; rw [if_pos z]))
    · have hn0 : s.2.2.2.2.1 = none := by
        cases e2 : s.2.2.2.2.1 with
        | none => rfl
        | some y => rw [e2] at z; exact absurd rfl z
      refine st42c hF hn hq hqn (by decide) hf (by rw [t0, if_neg z]; decide) (hb9 4 (by decide)) (fun M1 hs1 ct1 e1 e2 => ?_)
      have hs1' := Sb.refl.then hs1 (wPn hh)
      have hF1 := hs1'.fix hw hF
      have hc1 := hp1 M1 hs1
      refine g3 hC rfl rfl ?_
      refine g15k (key := 4) (i' := 61) hC rfl rfl rfl rfl ?_
      refine g3 hC rfl rfl ?_
      refine g19 hC rfl rfl (Nat.le_of_ble_eq_true rfl) rfl (hF1.f (a := 7) (k := 1) (v := 6) rfl) ?_
      refine g3 hC rfl rfl ?_
      refine g19 hC rfl (shH hh) (Nat.le_of_ble_eq_true rfl) rfl (hF1.h (v := 12) hh rfl rfl) ?_
      refine g2 hC rfl ?_
      refine g0 hC rfl ?_
      refine c0 hC rfl rfl rfl (Nat.le_of_ble_eq_true rfl) (Nat.le_of_ble_eq_true rfl) rfl (m20 (p := ((h + 12 : Nat) : Int)) (a := -30) (b := 0) (Or.inl rfl)) (Nat.le_of_ble_eq_true rfl) (fun M2 hr => ?_)
      have hb2 : Sb WBG M1 M2 := by rw [hr]; exact ((Sb.refl.up rfl).up rfl).up rfl
      have hs2 : Sb (WHo h) M M2 := hs1'.then hb2 (by rcases hh with rfl | rfl <;> rfl)
      have hF2 := hs2.fix hw hF
      have hc2 := hc1.sb hb2 (hokB (by decide +kernel) hh)
      have ct2 : CT T n (nx T n q) M2 := ct1.same (fun i => hb2 _ _ rfl) (fun i => hb2 _ _ rfl)
      have pc2 : PC M2 (h + 12) 0 [] := by have := hc2.2.2.2.2.1.1; rw [hn0] at this; exact this
      have fm2 : FM (h + 12) 0 M2 := by rw [hr]; exact ⟨rfl, rfl, rfl⟩
      refine g3 hC rfl rfl ?_
      refine g19 hC rfl rfl (Nat.le_of_ble_eq_true rfl) rfl (hF2.f (a := 7) (k := 1) (v := 6) rfl) ?_
      refine g0 hC rfl ?_
      refine c1 hC rfl rfl rfl (Nat.le_of_ble_eq_true rfl) (Nat.le_of_ble_eq_true rfl) rfl (show ax_Ev L X SH 36 21 [(2, 6), (0, 0)] M2 (R1 0 (FP T n (h + 12) 0 [] M2 (tsL T n 0 6 (nx T n q)))) from cTs hn (isP12 hh) (by decide) 6 (by decide) M2 (nx T n q) [] hF2 ⟨ct2, pc2, Nat.zero_le _, v1, fm2⟩) (Nat.le_of_ble_eq_true rfl) (fun x M3 hr => ?_)
      obtain ⟨w1, w2, hr⟩ := hr
      have hs3 := hs2.trans (sbp12 hh w1 w2)
      rcases hr with ⟨f, p, w3, rfl, w4⟩ | ⟨q', cc, w3, rfl, w4, w5⟩
      · refine ret3 hC rfl ⟨by omega, by omega⟩ (fl f p _ w4 hs3 ?_)
        rw [eq]; unfold turnF; rw [if_neg z, w3]
      · refine ret3 hC rfl ⟨by omega, by omega⟩ ?_
        rw [hP]
        refine ⟨hs3, Or.inr ⟨_, _, rfl, by rw [eq]; unfold turnF; rw [if_neg z, w3], w4, ?_, ?_⟩⟩
        · exact hc2.pr (fun i k hi => w1 _ _ (wfoh hh hi)) (t := some cc) w5 (hc2.2.2.2.2.1.2 |> fun y => ⟨((w2 (h + 15) (isP15 hh) (by omega)).1).trans y.1, fun i hi => ((w2 (h + 15) (isP15 hh) (by omega)).2 i).trans (y.2 i hi)⟩)
        · have g8 : ∀ i, M3 8 i = M1 8 i := fun i => (w1 8 i rfl).trans (hb2 8 i rfl)
          refine ⟨⟨?_, ?_, ?_, ?_⟩, ⟨?_, ?_⟩, hT.l (k := 4) (by decide) ((g8 4).trans e1) (fun i hi => (g8 i).trans (e2 i hi))⟩
          · rw [g8, e2 0 (by decide)]; exact hT.1.1
          · rw [g8, e2 1 (by decide)]; exact hT.1.2.1
          · rw [g8, e2 2 (by decide)]; exact hT.1.2.2.1
          · rw [g8, e2 3 (by decide)]; exact hT.1.2.2.2
          · rw [g8, e1, t0, if_neg z]; rfl
          · rw [g8, e2 5 (by decide)]; exact hT.2.1.2
  | false =>
  cases z5 : isW T n q w_dear with
  | true =>
    have hf : fnd T n q 0 stw = ((5 : Nat) : Int) := by simp [stw, fnd, z0, z1, z2, z3, z4, z5]
    have eq : stmF T n s q = dearF T n s q.1 (nx T n q) := by unfold stmF; rw [z0, z1, z2, z3, z4, z5, if_neg Bool.false_ne_true, if_neg Bool.false_ne_true, if_neg Bool.false_ne_true, if_neg Bool.false_ne_true, if_neg Bool.false_ne_true, if_pos rfl]
    have t0 := hT.2.1.2
    by_cases z : s.2.2.2.2.2.1.isSome = true
    · exact st42b hF hn hq hqn (by decide) hf (by rw [t0, if_pos z]; decide) (fl 5 _ _ CF.up (ff 5) (by rw [eq]; unfold dearF; rw [if_pos z]))
    · refine st42c hF hn hq hqn (by decide) hf (by rw [t0, if_neg z]; decide) (hb9 5 (by decide)) (fun M1 hs1 ct1 e1 e2 => ?_)
      have hs1' := Sb.refl.then hs1 (wPn hh)
      have hF1 := hs1'.fix hw hF
      have hc1 := hp1 M1 hs1
      have hs1u : Sb (WHo h) M (ax_up M1 (h + 15) 1 0) := hs1'.up (by rcases hh with rfl | rfl <;> rfl)
      have hF1u := hs1u.fix hw hF
      refine g3 hC rfl rfl ?_
      refine g15k (key := 5) (i' := 73) hC rfl rfl rfl rfl ?_
      refine g3 hC rfl rfl ?_
      refine g19 hC rfl (shH hh) (Nat.le_of_ble_eq_true rfl) rfl (hF1.h (v := 15) hh rfl rfl) ?_
      refine g0 hC rfl ?_
      refine g20 hC rfl (shPg (isP15 hh)) (Nat.le_of_ble_eq_true rfl) rfl ?_
      refine g3 hC rfl rfl ?_
      refine g19 hC rfl rfl (Nat.le_of_ble_eq_true rfl) rfl (hF1u.f (a := 7) (k := 1) (v := 6) rfl) ?_
      refine g3 hC rfl rfl ?_
      refine g19 hC rfl (shH hh) (Nat.le_of_ble_eq_true rfl) rfl (hF1u.h (v := 15) hh rfl rfl) ?_
      refine g2 hC rfl ?_
      refine g0 hC rfl ?_
      refine c0 hC rfl rfl rfl (Nat.le_of_ble_eq_true rfl) (Nat.le_of_ble_eq_true rfl) rfl (m20 (p := ((h + 15 : Nat) : Int)) (a := -46) (b := 0) (Or.inl rfl)) (Nat.le_of_ble_eq_true rfl) (fun M2 hr => ?_)
      have hb2 : Sb WBG (ax_up M1 (h + 15) 1 0) M2 := by rw [hr]; exact ((Sb.refl.up rfl).up rfl).up rfl
      have hs2 : Sb (WHo h) M M2 := hs1u.then hb2 (by rcases hh with rfl | rfl <;> rfl)
      have hF2 := hs2.fix hw hF
      have ct2 : CT T n (nx T n q) M2 := ct1.same (fun i => (hb2 _ _ rfl).trans (ax_up2n (by omega))) (fun i => (hb2 _ _ rfl).trans (ax_up2n (by omega)))
      have b15 : ∀ i k, i < 18 → i ≠ 14 → i ≠ 17 → M2 (h + i) k = ax_up M1 (h + 15) 1 0 (h + i) k := fun i k z1 z2 z3 => hb2 _ _ ((hokB (W := WBG) (by decide +kernel) hh) i k z1 z2 z3)
      have pc2 : PC M2 (h + 15) 1 [] := ⟨(b15 15 1 (by decide) (by decide) (by decide)).trans ax_up_at, fun i hi => absurd hi (Nat.not_lt_zero i)⟩
      have fm2 : FM (h + 15) 1 M2 := by rw [hr]; exact ⟨rfl, rfl, rfl⟩
      refine g3 hC rfl rfl ?_
      refine g19 hC rfl rfl (Nat.le_of_ble_eq_true rfl) rfl (hF2.f (a := 7) (k := 1) (v := 6) rfl) ?_
      refine g0 hC rfl ?_
      refine c1 hC rfl rfl rfl (Nat.le_of_ble_eq_true rfl) (Nat.le_of_ble_eq_true rfl) rfl (show ax_Ev L X SH 33 25 [(2, 6), (0, 0)] M2 (R1 0 (FP T n (h + 15) 1 [] M2 (smL T n 1 6 (nx T n q)))) from cSm hn (isP15 hh) (by decide) 6 (by decide) M2 (nx T n q) [] hF2 ⟨ct2, pc2, Nat.zero_le _, v1, fm2⟩) (Nat.le_of_ble_eq_true rfl) (fun x M3 hr => ?_)
      obtain ⟨w1, w2, hr⟩ := hr
      have hs3 := hs2.trans (sbp15 hh w1 w2)
      rcases hr with ⟨f, p, w3, rfl, w4⟩ | ⟨q', cc, w3, rfl, w4, w5⟩
      · refine ret3 hC rfl ⟨by omega, by omega⟩ (fl f p _ w4 hs3 ?_)
        rw [eq]; unfold dearF; rw [if_neg z, w3]
      · refine ret3 hC rfl ⟨by omega, by omega⟩ ?_
        rw [hP]
        refine ⟨hs3, Or.inr ⟨_, _, rfl, by rw [eq]; unfold dearF; rw [if_neg z, w3], w4, ?_, ?_⟩⟩
        · have e12 := w2 (h + 12) (isP12 hh) (by omega)
          refine hc1.pr (fun i k hi => (w1 _ _ (wfoh hh hi)).trans ((b15 i k (by omega) (by omega) (by omega)).trans (ax_up2n (by omega)))) (d := some cc) ⟨e12.1.trans ((b15 12 1 (by decide) (by decide) (by decide)).trans ((ax_up2n (by omega)).trans hc1.2.2.2.2.1.1.1)), fun i hi => (e12.2 i).trans ((b15 13 i (by decide) (by decide) (by decide)).trans ((ax_up2n (by omega)).trans (hc1.2.2.2.2.1.1.2 i hi)))⟩ w5
        · have g8 : ∀ i, M3 8 i = M1 8 i := fun i => (w1 8 i rfl).trans ((hb2 8 i rfl).trans (ax_up2n (by omega)))
          refine ⟨⟨?_, ?_, ?_, ?_⟩, ⟨?_, ?_⟩, hT.l (k := 5) (by decide) ((g8 5).trans e1) (fun i hi => (g8 i).trans (e2 i hi))⟩
          · rw [g8, e2 0 (by decide)]; exact hT.1.1
          · rw [g8, e2 1 (by decide)]; exact hT.1.2.1
          · rw [g8, e2 2 (by decide)]; exact hT.1.2.2.1
          · rw [g8, e2 3 (by decide)]; exact hT.1.2.2.2
          · rw [g8, e2 4 (by decide)]; exact hT.2.1.1
          · rw [g8, e1, t0, if_neg z]; rfl
  | false =>
  have tset : ∀ (k i : Nat) (M1 M3 : ax_M) (v : Int) (s' : HS), (k = 6 ∨ k = 7 ∨ k = 8) → Sb WPR M M1 → Sb WNU M1 M3 → M1 8 k = M 8 k + 1 → (∀ i, i ≠ k → M1 8 i = M 8 i) → s'.1 = s.1 → s'.2.1 = s.2.1 → s'.2.2.1 = s.2.2.1 → s'.2.2.2.1 = s.2.2.2.1 → s'.2.2.2.2.1 = s.2.2.2.2.1 → s'.2.2.2.2.2.1 = s.2.2.2.2.2.1 → TO (c + 1) s' (ax_up M3 h i v) := by
    intro k i M1 M3 v s' hk hs1 w1 e1 e2 r1 r2 r3 r4 r5 r6
    have g8 : ∀ j, ax_up M3 h i v 8 j = M1 8 j := fun j => (ax_up2n (by omega)).trans (w1 8 j rfl)
    refine ⟨⟨?_, ?_, ?_, ?_⟩, ⟨?_, ?_⟩, hT.l (k := k) (by omega) ((g8 k).trans e1) (fun i hi => (g8 i).trans (e2 i hi))⟩
    · rw [g8, e2 0 (by omega), r1]; exact hT.1.1
    · rw [g8, e2 1 (by omega), r2]; exact hT.1.2.1
    · rw [g8, e2 2 (by omega), r3]; exact hT.1.2.2.1
    · rw [g8, e2 3 (by omega), r4]; exact hT.1.2.2.2
    · rw [g8, e2 4 (by omega), r5]; exact hT.2.1.1
    · rw [g8, e2 5 (by omega), r6]; exact hT.2.1.2
  cases z6 : isW T n q w_hears with
  | true =>
    have hf : fnd T n q 0 stw = ((6 : Nat) : Int) := by simp [stw, fnd, z0, z1, z2, z3, z4, z5, z6]
    have eq : stmF T n s q = hearF T n s (nx T n q) := by unfold stmF; rw [z0, z1, z2, z3, z4, z5, z6, if_neg Bool.false_ne_true, if_neg Bool.false_ne_true, if_neg Bool.false_ne_true, if_neg Bool.false_ne_true, if_neg Bool.false_ne_true, if_neg Bool.false_ne_true, if_pos rfl]
    refine st42c hF hn hq hqn (by decide) hf (by have := hT.2.2 6 (by decide); show M 8 6 < 80; omega) (hb9 6 (by decide)) (fun M1 hs1 ct1 e1 e2 => ?_)
    have hF1 := (Sb.refl.then hs1 (wPn hh)).fix hw hF
    have hc1 := hp1 M1 hs1
    refine g3 hC rfl rfl ?_
    refine g15k (key := 6) (i' := 89) hC rfl rfl rfl rfl ?_
    refine g3 hC rfl rfl ?_
    refine g3 hC rfl rfl ?_
    refine c1 hC rfl rfl rfl (Nat.le_of_ble_eq_true rfl) (Nat.le_of_ble_eq_true rfl) rfl (m50 hF1 hh hn ct1 v1) (Nat.le_of_ble_eq_true rfl) (fun x M2 hr => ?_)
    rcases hr with ⟨f, p, rfl, w2, w3, w4⟩ | ⟨rfl, M3, w1, w2, rfl, w3, w4⟩
    · exact ret3 hC rfl ⟨by omega, by omega⟩ (fl f p _ w2 (nu (W' := WNU) rfl hs1 w3) (by rw [eq]; exact w4 _))
    · refine ret3 hC rfl ⟨by omega, by omega⟩ ?_
      rw [hP]
      refine ⟨(nu (W' := WNU) rfl hs1 w1).up (by rcases hh with rfl | rfl <;> rfl), Or.inr ⟨_, _, rfl, by rw [eq]; exact w4 _, w2.same (fun i => ax_up2n (by omega)) (fun i => ax_up2n (by omega)), (hc1.nu hh (w1.mono rfl)).st (Or.inl rfl) rfl rfl rfl, tset 6 17 M1 M3 _ _ (by decide) hs1 w1 e1 e2 rfl rfl rfl rfl rfl rfl⟩⟩
  | false =>
  cases z7 : isW T n q w_signs with
  | true =>
    have hf : fnd T n q 0 stw = ((7 : Nat) : Int) := by simp [stw, fnd, z0, z1, z2, z3, z4, z5, z6, z7]
    have eq : stmF T n s q = signF T n s (nx T n q) := by unfold stmF; rw [z0, z1, z2, z3, z4, z5, z6, z7, if_neg Bool.false_ne_true, if_neg Bool.false_ne_true, if_neg Bool.false_ne_true, if_neg Bool.false_ne_true, if_neg Bool.false_ne_true, if_neg Bool.false_ne_true, if_neg Bool.false_ne_true, if_pos rfl]
    refine st42c hF hn hq hqn (by decide) hf (by have := hT.2.2 7 (by decide); show M 8 7 < 80; omega) (hb9 7 (by decide)) (fun M1 hs1 ct1 e1 e2 => ?_)
    have hF1 := (Sb.refl.then hs1 (wPn hh)).fix hw hF
    have hc1 := hp1 M1 hs1
    refine g3 hC rfl rfl ?_
    refine g15k (key := 7) (i' := 93) hC rfl rfl rfl rfl ?_
    refine g3 hC rfl rfl ?_
    refine g3 hC rfl rfl ?_
    refine c1 hC rfl rfl rfl (Nat.le_of_ble_eq_true rfl) (Nat.le_of_ble_eq_true rfl) rfl (m51 hF1 hh hn ct1 v1) (Nat.le_of_ble_eq_true rfl) (fun x M2 hr => ?_)
    rcases hr with ⟨f, p, rfl, w2, w3, w4⟩ | ⟨rfl, M3, w1, w2, rfl, w3, w4⟩
    · exact ret3 hC rfl ⟨by omega, by omega⟩ (fl f p _ w2 (nu (W' := WNU) rfl hs1 w3) (by rw [eq]; exact w4 _))
    · refine ret3 hC rfl ⟨by omega, by omega⟩ ?_
      rw [hP]
      refine ⟨(nu (W' := WNU) rfl hs1 w1).up (by rcases hh with rfl | rfl <;> rfl), Or.inr ⟨_, _, rfl, by rw [eq]; exact w4 _, w2.same (fun i => ax_up2n (by omega)) (fun i => ax_up2n (by omega)), (hc1.nu hh (w1.mono rfl)).st (Or.inr (Or.inl rfl)) rfl rfl rfl, tset 7 18 M1 M3 _ _ (by decide) hs1 w1 e1 e2 rfl rfl rfl rfl rfl rfl⟩⟩
  | false =>
  have eq : stmF T n s q = wrdN T n w_smoke q (fun q1 => smokF T n s q1) := by unfold stmF; rw [z0, z1, z2, z3, z4, z5, z6, z7, if_neg Bool.false_ne_true, if_neg Bool.false_ne_true, if_neg Bool.false_ne_true, if_neg Bool.false_ne_true, if_neg Bool.false_ne_true, if_neg Bool.false_ne_true, if_neg Bool.false_ne_true, if_neg Bool.false_ne_true]
  cases z8 : isW T n q w_smoke with
  | true =>
    have hf : fnd T n q 0 stw = ((8 : Nat) : Int) := by simp [stw, fnd, z0, z1, z2, z3, z4, z5, z6, z7, z8]
    have eq : stmF T n s q = smokF T n s (nx T n q) := by rw [eq]; exact wrdN_y (by unfold wdR; rw [z8, if_pos rfl])
    refine st42c hF hn hq hqn (by decide) hf (by have := hT.2.2 8 (by decide); show M 8 8 < 80; omega) (hb9 8 (by decide)) (fun M1 hs1 ct1 e1 e2 => ?_)
    have hF1 := (Sb.refl.then hs1 (wPn hh)).fix hw hF
    have hc1 := hp1 M1 hs1
    refine g3 hC rfl rfl ?_
    refine g15d (i' := 97) hC rfl rfl (by decide) rfl ?_
    refine g3 hC rfl rfl ?_
    refine g3 hC rfl rfl ?_
    refine c1 hC rfl rfl rfl (Nat.le_of_ble_eq_true rfl) (Nat.le_of_ble_eq_true rfl) rfl (m52 hF1 hh hn ct1 v1) (Nat.le_of_ble_eq_true rfl) (fun x M2 hr => ?_)
    rcases hr with ⟨f, p, rfl, w2, w3, w4⟩ | ⟨rfl, M3, w1, w2, rfl, w3, w4⟩
    · exact ret3 hC rfl ⟨by omega, by omega⟩ (fl f p _ w2 (nu (W' := WNU) rfl hs1 w3) (by rw [eq]; exact w4 _))
    · refine ret3 hC rfl ⟨by omega, by omega⟩ ?_
      rw [hP]
      refine ⟨(nu (W' := WNU) rfl hs1 w1).up (by rcases hh with rfl | rfl <;> rfl), Or.inr ⟨_, _, rfl, by rw [eq]; exact w4 _, w2.same (fun i => ax_up2n (by omega)) (fun i => ax_up2n (by omega)), (hc1.nu hh (w1.mono rfl)).st (Or.inr (Or.inr rfl)) rfl rfl rfl, tset 8 19 M1 M3 _ _ (by decide) hs1 w1 e1 e2 rfl rfl rfl rfl rfl rfl⟩⟩
  | false =>
    have hf : fnd T n q 0 stw = -1 := by simp [stw, fnd, z0, z1, z2, z3, z4, z5, z6, z7, z8]
    exact st42a hF hn hq hqn hf (fl 1 _ _ CF.up (ff 1) (by rw [eq]; exact wrdN_n (by unfold wdR; rw [z8, if_neg Bool.false_ne_true])))
end CRT
