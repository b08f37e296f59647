def XASK : ax_W := ([(187, 195), (228, 231)], [(142, 1), (142, 2), (142, 3), (142, 4), (142, 5), (142, 6), (142, 7), (142, 8), (142, 53), (142, 56), (142, 57), (142, 67), (142, 110), (142, 112), (142, 113), (142, 114), (142, 116), (142, 117), (142, 118)])
def WXA : ax_W := ([(72, 75), (76, 85), (86, 94), (95, 107), (5, 6), (23, 24), (26, 27), (41, 42), (44, 45), (4, 5), (138, 139), (187, 195), (228, 231)], [(71, 6), (1, 1), (1, 2), (1, 3), (1, 4), (1, 6), (1, 8), (1, 9), (3, 1), (6, 1), (6, 2), (6, 3), (142, 1), (142, 2), (142, 3), (142, 4), (142, 5), (142, 6), (142, 7), (142, 8), (142, 53), (142, 56), (142, 57), (142, 67), (142, 110), (142, 112), (142, 113), (142, 114), (142, 116), (142, 117), (142, 118)])
section ASZ
variable {L : Nat} {X : Nat → Int} {M V : ax_M} {h n : Nat} {T : Nat → Int}
theorem ask_ok {kd : Nat} {c : List Int} (hn : n ≤ 1600) (h : askF T n = .inr (kd, c)) : c.length ≤ 1600 ∧ kd ≤ 5 ∧ lalL 2 c ∧ (kd ≤ 2 → Psh c true 24) ∧ (3 ≤ kd → Psh c false 21) := by
  unfold askF at h
  have hq : (qz T n).1 ≤ n := rn_le (Nat.zero_le _)
  have w1 := wq_nx (T := T) hq
  have hfb := fnd_b (T := T) (n := n) (q := qz T n) (ws := qst) 0
  have e6 : (qst.length : Int) = 6 := rfl
  split at h
  · cases h
  · by_cases z : fnd T n (qz T n) 0 qst ≤ 2
    · rw [if_pos z] at h
      split at h
      · cases h
      · rename_i q1 c1' e
        have g := good_ts _ w1.1 q1 c1' e
        have w := wl_ts (T := T) (n := n) (k := 2) (by decide) 6 _ q1 c1' e
        have g1 := g.2.2.1
        split at h
        · cases h
          exact ⟨by omega, by omega, w.2, fun _ => w.1, fun y => by omega⟩
        · cases h
    · rw [if_neg z] at h
      split at h
      · cases h
      · rename_i q1 c1' e
        have g := good_sm _ w1.1 q1 c1' e
        have w := wl_sm (T := T) (n := n) (k := 2) (by decide) 6 _ q1 c1' e
        have g1 := g.2.2.1
        split at h
        · cases h
          exact ⟨by omega, by omega, w.2, fun y => by omega, fun _ => w.1⟩
        · cases h
theorem code_q {M' : ax_M} {c : List Int} (h : PC M' 3 2 c) (hl : c.length ≤ 1600) (hla : lalL 2 c) : Code M' 3 2 (fun i => c.getD i 0) c.length := by
  refine ⟨h.1, hl, h.2, fun i hi => hla _ ?_⟩
  show c.getD i 0 ∈ c
  rw [List.getD_eq_getElem?_getD, List.getElem?_eq_getElem hi]
  exact List.getElem_mem hi
abbrev OUq (V : ax_M) (h : Nat) : Nat → Int := (DD V h (-1) (-1) 9).2.2.1
abbrev MMq (V : ax_M) (h : Nat) : Nat → Nat → Int := mt V h (-1) (-1)
def ansV (V : ax_M) (h kd : Nat) (c : List Int) : Int := ansQ kd (qv V h (OUq V h) (MMq V h) (fun i => c.getD i 0) c.length) (nC V h)
theorem ouq : ouB V h (OUq V h) := fun c _ => ou_b 9 (Nat.le_refl _) c
theorem mmq0 (a b : Nat) (hz : nC V h ≤ b ∨ a = b) : MMq V h a b = 0 := by
  rcases hz with z | rfl
  · show mt V h (-1) (-1) a b = 0
    unfold mt; rw [if_neg (by omega)]
  · exact mt_self
theorem m133 (hF : Fix M) (hh : h = 9 ∨ h = 27) (hW : HW M h) (hSW : SW M) (hPW : PW M h) (hH3 : M 0 3 = (h : Int)) (hn : n ≤ 1600) (h1 : M 1 1 = (n : Int)) : ax_Ev L X SH 38 133 [(2, 0)] M (R1 1 (fun x M' => Sb WASK M M' ∧ M' 1 1 = 0 ∧ ((∃ f p, askF (M 2) n = .inl (f, p) ∧ x = NOTH ∧ CF f p M') ∨ ∃ kd c, askF (M 2) n = .inr (kd, c) ∧ x = ansV M h kd c ∧ CF 0 (-1) M'))) := by
  show ax_G L X SH 38 133 0 [(2, 0), (3, 0)] [] M _
  have hC := at133
  have hw : wok WASK = true := by decide +kernel
  have hwh : hok WASK h := hokB (by decide +kernel) hh
  have hso : sok WASK := sokB (by decide +kernel)
  have hS : Sb WASK M M := Sb.refl
  have hV0 : HV M h M := HV.refl
  refine g3 hC rfl rfl ?_
  refine c1 hC rfl rfl rfl (Nat.le_of_ble_eq_true rfl) (Nat.le_of_ble_eq_true rfl) rfl (m148 (T := M 2) hF hn h1 (fun i hi => rfl)) (Nat.le_of_ble_eq_true rfl) (fun x M1 hr => ?_)
  obtain ⟨hr0, hr1⟩ := hr; have hS := hS.then hr0 rfl
  refine s1 hC rfl rfl rfl ?_
  rcases hr1 with ⟨f, p, e, rfl, hc⟩ | ⟨kd, c, e, rfl, hpc, hc⟩
  · refine g3 hC rfl rfl ?_
    refine g19 hC rfl rfl (Nat.le_of_ble_eq_true rfl) rfl ((hS.fix hw hF).g rfl) ?_
    refine g0 hC rfl ?_
    refine g20s hC rfl rfl (Nat.le_of_ble_eq_true rfl) rfl hS rfl (fun hS => ?_)
    refine g3 hC rfl rfl ?_
    refine g0 hC rfl ?_
    refine g13n hC rfl (fun z => absurd rfl z) (fun _ => ?_)
    refine g1 hC rfl ?_
    refine ret1 hC rfl rfl ⟨hS, ax_up_at, Or.inl ⟨f, p, e, rfl, ?_⟩⟩
    exact ⟨(ax_up_of (by decide)).trans hc.1, (ax_up_of (by decide)).trans hc.2⟩
  · obtain ⟨k1, k2, k3, k4, k5⟩ := ask_ok hn e
    refine g3 hC rfl rfl ?_
    refine g19 hC rfl rfl (Nat.le_of_ble_eq_true rfl) rfl ((hS.fix hw hF).g rfl) ?_
    refine g0 hC rfl ?_
    refine g20s hC rfl rfl (Nat.le_of_ble_eq_true rfl) rfl hS rfl (fun hS => ?_)
    refine g3 hC rfl rfl ?_
    refine g0 hC rfl ?_
    refine g13n hC rfl (fun _ => ?_) (fun z => by omega)
    refine g3 hC rfl rfl ?_
    refine c0 hC rfl rfl rfl (Nat.le_of_ble_eq_true rfl) (Nat.le_of_ble_eq_true rfl) rfl (m143 (V := M) (hS.fix hw hF) hh (hV0.sb hS hwh hso) hW hSW hPW ((hS 0 3 rfl).trans hH3)) (Nat.le_of_ble_eq_true rfl) (fun M2 hr => ?_)
    obtain ⟨hd0, hd⟩ := hr
    have hS := hS.then hd0 rfl
    have hpc2 : PC M2 3 2 c := ⟨(hd0 _ _ rfl).trans ((ax_up2n (by decide)).trans hpc.1), fun i hi => (hd0 _ _ rfl).trans ((ax_up2n (by decide)).trans (hpc.2 i hi))⟩
    have hqc : QC M h (OUq M h) (MMq M h) (fun i => c.getD i 0) c.length M2 := ⟨hV0.sb hS hwh hso, (hS 0 3 rfl).trans hH3, fun q hq => (hd.2.1 q hq).1, fun a b ha hb => hd.2.2.2.2 a b ha hb, code_q hpc2 k1 k3⟩
    have e11 : M2 1 1 = 0 := (hd0 _ _ rfl).trans ax_up_at
    have hc2 : CF 0 (-1) M2 := ⟨(hd0 _ _ rfl).trans ((ax_up_of (by decide)).trans hc.1), (hd0 _ _ rfl).trans ((ax_up_of (by decide)).trans hc.2)⟩
    have fin : ∀ x M3, x = ansV M h kd c → Sb WVQ M2 M3 → Sb WASK M M3 ∧ M3 1 1 = 0 ∧ ((∃ f p, askF (M 2) n = .inl (f, p) ∧ x = NOTH ∧ CF f p M3) ∨ ∃ kd c, askF (M 2) n = .inr (kd, c) ∧ x = ansV M h kd c ∧ CF 0 (-1) M3) := by
      intro x M3 hx hs
      exact ⟨hS.then hs rfl, (hs _ _ rfl).trans e11, Or.inr ⟨kd, c, e, hx, (hs _ _ rfl).trans hc2.1, (hs _ _ rfl).trans hc2.2⟩⟩
    refine g3 hC rfl rfl ?_
    refine g0 hC rfl ?_
    refine g13t hC rfl (fun z => ?_) (fun z => ?_)
    · refine g3 hC rfl rfl ?_
      refine g3 hC rfl rfl ?_
      refine c1 hC rfl rfl rfl (Nat.le_of_ble_eq_true rfl) (Nat.le_of_ble_eq_true rfl) rfl (m151 (hS.fix hw hF) hh hW hSW ouq (fun a b => mt_b) mmq0 hqc (typ_of (k5 (by omega)) (by decide)) (by omega) k2) (Nat.le_of_ble_eq_true rfl) (fun x M3 hr => ?_)
      exact ret1 hC rfl rfl (fin _ _ hr.1 hr.2)
    · refine g3 hC rfl rfl ?_
      refine g3 hC rfl rfl ?_
      refine c1 hC rfl rfl rfl (Nat.le_of_ble_eq_true rfl) (Nat.le_of_ble_eq_true rfl) rfl (m150 (hS.fix hw hF) hh hW hSW ouq (fun a b => mt_b) mmq0 hqc (typ_of (k4 (by omega)) (by decide)) (by omega)) (Nat.le_of_ble_eq_true rfl) (fun x M3 hr => ?_)
      refine g14 hC rfl ?_
      exact ret1 hC rfl rfl (fin _ _ hr.1 hr.2)
end ASZ
