def WFB : ax_W := ([(4, 5), (22, 23), (25, 26), (40, 41), (43, 44)], [(1, 2), (1, 3), (1, 4), (1, 6), (1, 8), (1, 9), (3, 1), (21, 1), (24, 1), (39, 1), (42, 1), (6, 1), (6, 2), (6, 3)])
def WBG : ax_W := ([], [(6, 1), (6, 2), (6, 3)])
def WASK : ax_W := ([(72, 75), (76, 85), (86, 94), (95, 107), (5, 6), (23, 24), (26, 27), (41, 42), (44, 45), (4, 5), (138, 139)], [(71, 6), (1, 1), (1, 2), (1, 3), (1, 4), (1, 6), (1, 8), (1, 9), (3, 1), (6, 1), (6, 2), (6, 3)])
def qst : List (List Int) := [w_first, w_last, w_often, w_total, w_most, w_least]
def qz (T : Nat → Int) (n : Nat) : PS := (rn isBb T n 0, false)
def askF (T : Nat → Int) (n : Nat) : (Int × Int) ⊕ (Nat × List Int) := if fnd T n (qz T n) 0 qst = -1 then .inl (1, ((qz T n).1 : Int)) else match (if fnd T n (qz T n) 0 qst ≤ 2 then tsL T n 2 6 (nx T n (qz T n)) else smL T n 2 6 (nx T n (qz T n))) with
  | .inl e => .inl e
  | .inr (q1, c) => if kd T n q1 = 0 then .inr ((fnd T n (qz T n) 0 qst).toNat, c) else .inl (1, (q1.1 : Int))
section ASK
variable {L : Nat} {X : Nat → Int} {M V : ax_M} {h n : Nat} {T : Nat → Int}
theorem sb_p3 {M' : ax_M} (hS : Sb WFB M M') (ho : OPr 3 M M') : Sb WAQ M M' := by
  intro a k hk
  cases u : wb WFB a k with
  | false => exact hS a k u
  | true =>
    unfold wb WFB at u
    simp only [List.any_cons, List.any_nil, Bool.or_false, Bool.or_eq_true, Bool.and_eq_true] at u
    rcases u with (u | u | u | u | u) | (u | u | u | u | u | u | u | u | u | u | u | u | u | u)
    · have h1 := Nat.le_of_ble_eq_true u.1
      have h2 := Nat.le_of_ble_eq_true u.2
      have ha : a = 4 := by omega
      subst ha
      have e : wb WAQ 4 k = true := rfl
      rw [e] at hk; cases hk
    · have h1 := Nat.le_of_ble_eq_true u.1
      have h2 := Nat.le_of_ble_eq_true u.2
      have ha : a = 22 := by omega
      subst ha
      exact (ho 21 (by simp [isP]) (by decide)).2 k
    · have h1 := Nat.le_of_ble_eq_true u.1
      have h2 := Nat.le_of_ble_eq_true u.2
      have ha : a = 25 := by omega
      subst ha
      exact (ho 24 (by simp [isP]) (by decide)).2 k
    · have h1 := Nat.le_of_ble_eq_true u.1
      have h2 := Nat.le_of_ble_eq_true u.2
      have ha : a = 40 := by omega
      subst ha
      exact (ho 39 (by simp [isP]) (by decide)).2 k
    · have h1 := Nat.le_of_ble_eq_true u.1
      have h2 := Nat.le_of_ble_eq_true u.2
      have ha : a = 43 := by omega
      subst ha
      exact (ho 42 (by simp [isP]) (by decide)).2 k
    all_goals (have h1 := Nat.eq_of_beq_eq_true u.1; have h2 := Nat.eq_of_beq_eq_true u.2; subst h1; subst h2)
    all_goals first
      | (exact absurd hk (by decide))
      | (exact (ho 21 (by simp [isP]) (by decide)).1)
      | (exact (ho 24 (by simp [isP]) (by decide)).1)
      | (exact (ho 39 (by simp [isP]) (by decide)).1)
      | (exact (ho 42 (by simp [isP]) (by decide)).1)
theorem m88 (hF : Fix M) (hn : n ≤ 1600) (h1 : M 1 1 = (n : Int)) (hT : ∀ i, i < 1600 → M 2 i = T i) : ax_Ev L X SH 2 88 [(2, 1)] M (R0 (fun M' => Sb WNU M M' ∧ CT T n (qz T n) M')) := by
  show ax_G L X SH 2 88 0 [(2, 1)] [] M _
  have hC := at88
  have hw : wok WNU = true := by decide +kernel
  have hS : Sb WNU M M := Sb.refl
  refine g3 hC rfl rfl ?_
  refine g0 hC rfl ?_
  refine g20s hC rfl rfl (Nat.le_of_ble_eq_true rfl) rfl hS rfl (fun hS => ?_)
  refine g3 hC rfl rfl ?_
  refine g0 hC rfl ?_
  refine g20s hC rfl rfl (Nat.le_of_ble_eq_true rfl) rfl hS rfl (fun hS => ?_)
  refine g3 hC rfl rfl ?_
  refine g0 hC rfl ?_
  refine g20s hC rfl rfl (Nat.le_of_ble_eq_true rfl) rfl hS rfl (fun hS => ?_)
  refine g3 hC rfl rfl ?_
  refine g0 hC rfl ?_
  refine g20s hC rfl rfl (Nat.le_of_ble_eq_true rfl) rfl hS rfl (fun hS => ?_)
  refine g3 hC rfl rfl ?_
  refine c0 hC rfl rfl rfl (Nat.le_of_ble_eq_true rfl) (Nat.le_of_ble_eq_true rfl) rfl (m90 (T := T) (k := 3) (a := 0) (hS.fix hw hF) hn ((hS 1 1 rfl).trans h1) (fun i hi => (hS 2 i rfl).trans (hT i hi)) rfl rfl (Nat.zero_le _) ⟨rfl, rfl⟩) (Nat.le_of_ble_eq_true rfl) (fun M2 hr => ?_)
  refine ret0 hC rfl ?_
  refine ⟨hS.then hr.1 rfl, ?_⟩
  have e : decide (((3 : Int) = 1 ∨ (3 : Int) = 2) ∧ rn isBb T n 0 = 0) = false := decide_eq_false (by omega)
  have hc := hr.2
  rw [e] at hc
  exact hc
theorem m20 {p a b : Int} (hb : b = 0 ∨ b = 1) : ax_Ev L X SH 0 20 [(2, 6), (2, p), (2, a), (0, b)] M (R0 (fun M' => M' = ax_up (ax_up (ax_up M 6 1 p) 6 2 a) 6 3 b)) := by
  show ax_G L X SH 0 20 0 [(2, 6), (2, p), (2, a), (0, b)] [] M _
  have hC := at20
  have hS : Sb WBG M M := Sb.refl
  refine g3 hC rfl rfl ?_
  refine g3 hC rfl rfl ?_
  refine g20s hC rfl rfl (Nat.le_of_ble_eq_true rfl) rfl hS rfl (fun hS => ?_)
  refine g3 hC rfl rfl ?_
  refine g3 hC rfl rfl ?_
  refine g20s hC rfl rfl (Nat.le_of_ble_eq_true rfl) rfl hS rfl (fun hS => ?_)
  refine g3 hC rfl rfl ?_
  refine g3 hC rfl rfl ?_
  refine g20s hC rfl rfl (Nat.le_of_ble_eq_true rfl) (decide_eq_true ⟨rfl, by omega, by omega⟩) hS rfl (fun hS => ?_)
  refine ret0 hC rfl ?_
  rfl
theorem m148 (hF : Fix M) (hn : n ≤ 1600) (h1 : M 1 1 = (n : Int)) (hT : ∀ i, i < 1600 → M 2 i = T i) : ax_Ev L X SH 37 148 [(2, 0)] M (R1 0 (fun x M' => Sb WAQ M M' ∧ ((∃ f p, askF T n = .inl (f, p) ∧ x = -1 ∧ CF f p M') ∨ ∃ kd c, askF T n = .inr (kd, c) ∧ x = (kd : Int) ∧ PC M' 3 2 c ∧ CF 0 (-1) M'))) := by
  show ax_G L X SH 37 148 0 [(2, 0), (3, 0), (3, 0)] [] M _
  obtain ⟨P, hP⟩ : ∃ P, P = fun (x : Int) (M' : ax_M) => Sb WAQ M M' ∧ ((∃ f p, askF T n = .inl (f, p) ∧ x = -1 ∧ CF f p M') ∨ ∃ kd c, askF T n = .inr (kd, c) ∧ x = (kd : Int) ∧ PC M' 3 2 c ∧ CF 0 (-1) M') := ⟨_, rfl⟩
  rw [← hP]
  have hC := at148
  have hw : wok WFB = true := by decide +kernel
  have hS : Sb WFB M M := Sb.refl
  have hp : isP 3 := Or.inl rfl
  obtain ⟨q0, hq0⟩ : ∃ q0, q0 = qz T n := ⟨_, rfl⟩
  have hqn : q0.1 ≤ n := by rw [hq0]; exact rn_le (Nat.zero_le _)
  have eA : askF T n = if fnd T n q0 0 qst = -1 then .inl (1, (q0.1 : Int)) else match (if fnd T n q0 0 qst ≤ 2 then tsL T n 2 6 (nx T n q0) else smL T n 2 6 (nx T n q0)) with | .inl e => .inl e | .inr (q1, c) => if kd T n q1 = 0 then .inr ((fnd T n q0 0 qst).toNat, c) else .inl (1, (q1.1 : Int)) := by rw [hq0]; rfl
  have hfb := fnd_b (T := T) (n := n) (q := q0) (ws := qst) 0
  have e6 : (qst.length : Int) = 6 := rfl
  have fin : ∀ (x : Int) (M4 M5 : ax_M) (F : PRs), Sb WFB M M4 → OPr 3 M M4 → ¬ fnd T n q0 0 qst = -1 → F = (if fnd T n q0 0 qst ≤ 2 then tsL T n 2 6 (nx T n q0) else smL T n 2 6 (nx T n q0)) → (∀ q1 c, F = .inr (q1, c) → q1.1 ≤ n) → FP T n 3 2 [] M4 F x M5 → ∀ v2, ax_G L X SH 37 148 47 [(2, 0), (0, fnd T n q0 0 qst), v2] [(0, x)] M5 (R1 0 P) := by
    intro x M4 M5 F hs4 o4 hne hFe hgd hfp v2
    have hs5 : Sb WFB M M5 := hs4.then hfp.1 rfl
    have o5 := o4.trans hfp.2.1
    have hF5 := hs5.fix hw hF
    rcases hfp.2.2 with ⟨f, pl, e, hx, hc⟩ | ⟨q1, c, e, hx, hct, hpc⟩
    · subst hx
      refine s2 hC rfl rfl rfl ?_
      refine g3 hC rfl rfl ?_
      refine g12e hC rfl (fun h49 => ?_) (fun h49 => (by omega))
      refine g3 hC rfl rfl ?_
      refine g12e hC rfl (fun h63 => ?_) (fun h63 => (by omega))
      refine g0 hC rfl ?_
      refine ret1 hC rfl rfl ?_
      rw [hP]
      refine ⟨sb_p3 hs5 o5, Or.inl ⟨f, pl, ?_, rfl, hc⟩⟩
      rw [eA, if_neg hne, ← hFe, e]
    · subst hx
      have hS := hs5
      have hq1n := hgd q1 c e
      have hk0 := kd_0 (T := T) (n := n) (q := q1)
      by_cases z : kd T n q1 = 0
      · skip
        refine s2 hC rfl rfl rfl ?_
        refine g3 hC rfl rfl ?_
        refine g12e hC rfl (fun h49 => (by omega)) (fun h49 => ?_)
        refine g3 hC rfl rfl ?_
        refine g19 hC rfl rfl (Nat.le_of_ble_eq_true rfl) rfl ((hS.fix hw hF).g rfl) ?_
        refine g19 hC rfl rfl (Nat.le_of_ble_eq_true rfl) rfl hct.2.1 ?_
        refine g12e hC rfl (fun h53 => ?_) (fun h53 => (by omega))
        refine g3 hC rfl rfl ?_
        refine g12e hC rfl (fun h63 => (by omega)) (fun h63 => ?_)
        refine g3 hC rfl rfl ?_
        refine g14 hC rfl ?_
        refine ret1 hC rfl rfl ?_
        rw [hP]
        refine ⟨sb_p3 hS o5, Or.inr ⟨(fnd T n q0 0 qst).toNat, c, ?_, by omega, hpc, hct.2.2.2.2.2.1, hct.2.2.2.2.2.2⟩⟩
        rw [eA, if_neg hne, ← hFe, e]
        exact if_pos z
      · skip
        refine s2 hC rfl rfl rfl ?_
        refine g3 hC rfl rfl ?_
        refine g12e hC rfl (fun h49 => (by omega)) (fun h49 => ?_)
        refine g3 hC rfl rfl ?_
        refine g19 hC rfl rfl (Nat.le_of_ble_eq_true rfl) rfl ((hS.fix hw hF).g rfl) ?_
        refine g19 hC rfl rfl (Nat.le_of_ble_eq_true rfl) rfl hct.2.1 ?_
        refine g12e hC rfl (fun h53 => (by omega)) (fun h53 => ?_)
        refine g3 hC rfl rfl ?_
        refine g19 hC rfl rfl (Nat.le_of_ble_eq_true rfl) rfl ((hS.fix hw hF).g rfl) ?_
        refine g0 hC rfl ?_
        refine g3 hC rfl rfl ?_
        refine g19 hC rfl rfl (Nat.le_of_ble_eq_true rfl) rfl ((hS.fix hw hF).g rfl) ?_
        refine g19 hC rfl rfl (Nat.le_of_ble_eq_true rfl) rfl hct.2.2.1 ?_
        refine c1 hC rfl rfl rfl (Nat.le_of_ble_eq_true rfl) (Nat.le_of_ble_eq_true rfl) rfl (m89) (Nat.le_of_ble_eq_true rfl) (fun x M2 hr => ?_)
        obtain ⟨rfl, hr⟩ := hr; replace hr := hr.symm; subst hr
        refine s2 hC rfl rfl rfl ?_
        refine g3 hC rfl rfl ?_
        refine g12e hC rfl (fun h63 => ?_) (fun h63 => (by omega))
        refine g0 hC rfl ?_
        refine ret1 hC rfl rfl ?_
        rw [hP]
        refine ⟨sb_p3 ((hS.up rfl).up rfl) (o5.trans (OPr.tx ((Sb.refl.up rfl).up rfl))), Or.inl ⟨1, (q1.1 : Int), ?_, rfl, CF.up⟩⟩
        rw [eA, if_neg hne, ← hFe, e]
        exact if_neg z
  have w1 := wq_nx (T := T) hqn
  refine g3 hC rfl rfl ?_
  refine g19 hC rfl rfl (Nat.le_of_ble_eq_true rfl) rfl ((hS.fix hw hF).g rfl) ?_
  refine c0 hC rfl rfl rfl (Nat.le_of_ble_eq_true rfl) (Nat.le_of_ble_eq_true rfl) rfl (m88 hF hn h1 hT) (Nat.le_of_ble_eq_true rfl) (fun M1 hr => ?_)
  obtain ⟨hr0, ct1⟩ := hr; rw [← hq0] at ct1; have hS := hS.then hr0 rfl; have o1 : OPr 3 M M1 := OPr.tx hr0
  refine g3 hC rfl rfl ?_
  refine g19 hC rfl rfl (Nat.le_of_ble_eq_true rfl) rfl ((hS.fix hw hF).g rfl) ?_
  refine g0 hC rfl ?_
  refine g20s hC rfl rfl (Nat.le_of_ble_eq_true rfl) rfl hS rfl (fun hS => ?_)
  refine g3 hC rfl rfl ?_
  refine g19 hC rfl rfl (Nat.le_of_ble_eq_true rfl) rfl ((hS.fix hw hF).g rfl) ?_
  refine g3 hC rfl rfl ?_
  refine g19 hC rfl rfl (Nat.le_of_ble_eq_true rfl) rfl ((hS.fix hw hF).g rfl) ?_
  refine g2 hC rfl ?_
  refine g0 hC rfl ?_
  refine c0 hC rfl rfl rfl (Nat.le_of_ble_eq_true rfl) (Nat.le_of_ble_eq_true rfl) rfl (m20 (Or.inr rfl)) (Nat.le_of_ble_eq_true rfl) (fun M2 hr => ?_)
  have hb2 : Sb WBG (ax_up M1 3 1 0) M2 := by { rw [hr]; exact ((Sb.refl.up rfl).up rfl).up rfl }
  have hS2 : Sb WFB M M2 := hS.then hb2 rfl
  have o2 : OPr 3 M M2 := o1.trans (fun p' hp' hne => by { rcases hp' with rfl | rfl | rfl | rfl | rfl; exact absurd rfl hne; all_goals exact ⟨(hb2 _ _ rfl).trans (ax_up2n (by decide)), fun i => (hb2 _ _ rfl).trans (ax_up2n (by decide))⟩ })
  have ct2 : CT T n q0 M2 := CT.same ct1 (fun i => (hb2 _ _ rfl).trans (ax_up2n (by decide))) (fun i => (hb2 _ _ rfl).trans (ax_up2n (by decide)))
  have pc2 : PC M2 3 2 [] := ⟨(hb2 _ _ rfl).trans ax_up_at, fun i hi => absurd hi (Nat.not_lt_zero i)⟩
  have fm2 : FM 3 2 M2 := by { rw [hr]; exact ⟨rfl, rfl, rfl⟩ }
  have hF2 := hS2.fix hw hF; have hS := hS2
  refine g3 hC rfl rfl ?_
  refine g19 hC rfl rfl (Nat.le_of_ble_eq_true rfl) rfl ((hS.fix hw hF).g rfl) ?_
  refine g2 hC rfl ?_
  refine c1 hC rfl rfl rfl (Nat.le_of_ble_eq_true rfl) (Nat.le_of_ble_eq_true rfl) rfl (show ax_Ev L X SH 4 92 [(2, 1), (2, -50)] M2 (R1 0 (fun x M' => x = fnd T n q0 0 qst ∧ M' = M2)) from m92 hF2 hn ct2 hqn ts50 tb50 tbn50.1 tbn50.2) (Nat.le_of_ble_eq_true rfl) (fun x MX hr => ?_)
  obtain ⟨rfl, hr⟩ := hr; replace hr := hr.symm; subst hr
  refine s1 hC rfl rfl rfl ?_
  refine g3 hC rfl rfl ?_
  refine g0 hC rfl ?_
  refine g13n hC rfl (fun h21 => ?_) (fun h21 => ?_)
  ·
    refine g3 hC rfl rfl ?_
    refine g19 hC rfl rfl (Nat.le_of_ble_eq_true rfl) rfl ((hS.fix hw hF).g rfl) ?_
    refine c0 hC rfl rfl rfl (Nat.le_of_ble_eq_true rfl) (Nat.le_of_ble_eq_true rfl) rfl (m90q hF2 hn ct2 hqn) (Nat.le_of_ble_eq_true rfl) (fun M3 hr => ?_)
    obtain ⟨hr3, ct3⟩ := hr; have hS := hS.then hr3 rfl; have o3 := o2.trans (OPr.tx (p := 3) (hr3.mono rfl)); have hI : FI T n 3 2 [] (nx T n q0) M3 := ⟨ct3, pc2.tx hp (hr3.mono rfl), Nat.zero_le _, w1.1, fm2.sb (hr3.mono rfl)⟩
    refine g3 hC rfl rfl ?_
    refine g0 hC rfl ?_
    refine g13t hC rfl (fun h37 => ?_) (fun h37 => ?_)
    ·
      refine g3 hC rfl rfl ?_
      refine g19 hC rfl rfl (Nat.le_of_ble_eq_true rfl) rfl ((hS.fix hw hF).g rfl) ?_
      refine g0 hC rfl ?_
      refine c1 hC rfl rfl rfl (Nat.le_of_ble_eq_true rfl) (Nat.le_of_ble_eq_true rfl) rfl (show ax_Ev L X SH 33 25 [(2, 6), (0, 0)] M3 (R1 0 (FP T n 3 2 [] M3 (smL T n 2 6 (nx T n q0)))) from cSm hn hp (by decide) 6 (by decide) M3 (nx T n q0) [] (hS.fix hw hF) hI) (Nat.le_of_ble_eq_true rfl) (fun x M4 hr => ?_)
      exact fin x M3 M4 _ hS o3 h21 (by rw [if_neg (by omega)]) (fun q1 c e => (good_sm _ w1.1 q1 c e).2.2.1) hr _
    ·
      refine g3 hC rfl rfl ?_
      refine g19 hC rfl rfl (Nat.le_of_ble_eq_true rfl) rfl ((hS.fix hw hF).g rfl) ?_
      refine g0 hC rfl ?_
      refine c1 hC rfl rfl rfl (Nat.le_of_ble_eq_true rfl) (Nat.le_of_ble_eq_true rfl) rfl (show ax_Ev L X SH 36 21 [(2, 6), (0, 0)] M3 (R1 0 (FP T n 3 2 [] M3 (tsL T n 2 6 (nx T n q0)))) from cTs hn hp (by decide) 6 (by decide) M3 (nx T n q0) [] (hS.fix hw hF) hI) (Nat.le_of_ble_eq_true rfl) (fun x M4 hr => ?_)
      refine g14 hC rfl ?_
      exact fin x M3 M4 _ hS o3 h21 (by rw [if_pos (by omega)]) (fun q1 c e => (good_ts _ w1.1 q1 c e).2.2.1) hr _
  ·
    refine g3 hC rfl rfl ?_
    refine g19 hC rfl rfl (Nat.le_of_ble_eq_true rfl) rfl ((hS.fix hw hF).g rfl) ?_
    refine g0 hC rfl ?_
    refine g3 hC rfl rfl ?_
    refine g19 hC rfl rfl (Nat.le_of_ble_eq_true rfl) rfl ((hS.fix hw hF).g rfl) ?_
    refine g19 hC rfl rfl (Nat.le_of_ble_eq_true rfl) rfl ct2.2.2.1 ?_
    refine c1 hC rfl rfl rfl (Nat.le_of_ble_eq_true rfl) (Nat.le_of_ble_eq_true rfl) rfl (m89) (Nat.le_of_ble_eq_true rfl) (fun x M2 hr => ?_)
    obtain ⟨rfl, hr⟩ := hr; replace hr := hr.symm; subst hr
    refine g18 hC rfl (by decide) ?_
    refine g0 hC rfl ?_
    refine ret1 hC rfl rfl ?_
    rw [hP]
    refine ⟨sb_p3 ((hS.up rfl).up rfl) (o2.trans (OPr.tx ((Sb.refl.up rfl).up rfl))), Or.inl ⟨1, (q0.1 : Int), ?_, rfl, CF.up⟩⟩
    rw [eA, if_pos (by omega)]
end ASK
