def WNS : ax_W := ([], [(1, 2), (1, 3), (1, 4), (1, 5), (1, 6), (1, 7), (1, 8), (1, 9)])
section CSE
variable {L : Nat} {X : Nat → Int} {M : ax_M} {h n : Nat} {s : HS} {T : Nat → Int} {q : PS}
theorem shn7 (hh : h = 9 ∨ h = 27) : SH[h + 7]? = some (1, 0, 5) := by
  rcases hh with rfl | rfl <;> decide +kernel
theorem setN_b {w : List Int} {lo hi : Int} {q2 : PS} (hs : ∀ k, setN T n w lo hi q k = k (nuV T n (nx T n q)) q2) : lo ≤ nuV T n (nx T n q) ∧ nuV T n (nx T n q) ≤ hi := by
  have h1 := hs (fun _ _ => .inl (7, 7))
  unfold setN wrdN numN tryR at h1
  cases r1 : wdR T n q w with
  | some e =>
    have h2 := hs (fun _ _ => .inl (8, 8))
    unfold setN wrdN numN tryR at h2
    rw [r1] at h1 h2
    dsimp only at h1 h2
    rw [h1] at h2
    cases h2
  | none =>
    cases r2 : nuR T n (nx T n q) lo hi with
    | none => exact nuR_b r2
    | some e =>
      have h2 := hs (fun _ _ => .inl (8, 8))
      unfold setN wrdN numN tryR at h2
      rw [r1] at h1 h2
      dsimp only at h1 h2
      rw [r2] at h1 h2
      dsimp only at h1 h2
      rw [h1] at h2
      cases h2
theorem m48 (hF : Fix M) (hh : h = 9 ∨ h = 27) (hn : n ≤ 1600) (hN : CHn h s M) (hlt : s.2.2.1.1 < 5) (hq : CT T n q M) (hqn : q.1 ≤ n) : ax_Ev L X SH 8 48 [(2, 7), (2, (h : Int))] M (R1 0 (fun x M' => (∃ f p, x = 0 ∧ CF f p M' ∧ Sb WNS M M' ∧ ∀ k : Nm → Int → PS → SRs, newN T n s q (fun m q1 => setN T n w_post 0 20 q1 (k m)) = .inl (f, p)) ∨ (x = 1 ∧ ∃ M2, Sb WNS M M2 ∧ CT T n (nx T n (nx T n (nx T n q))) M2 ∧ M' = ax_up (ax_up (ax_up M2 (h + 2) s.2.2.1.1 (ncm (nmQ T n q) : Int)) (h + 7) s.2.2.1.1 (nuV T n (nx T n (nx T n q)))) h 2 ((s.2.2.1.1 : Int) + 1) ∧ (0 ≤ nuV T n (nx T n (nx T n q)) ∧ nuV T n (nx T n (nx T n q)) ≤ 20) ∧ ∀ k : Nm → Int → PS → SRs, newN T n s q (fun m q1 => setN T n w_post 0 20 q1 (k m)) = k (nmQ T n q) (nuV T n (nx T n (nx T n q))) (nx T n (nx T n (nx T n q)))))) := by
  show ax_G L X SH 8 48 0 [(2, 7), (2, (h : Int)), (3, 0)] [] M _
  have hC := at48
  have hw : wok WNS = true := by decide +kernel
  have hck : cnk WNS = true := by decide +kernel
  have hS : Sb WNS M M := Sb.refl
  have sh := shn1 hh
  have sh7 := shn7 hh
  refine g3 hC rfl rfl ?_
  refine g3 hC rfl rfl ?_
  refine c1 hC rfl rfl rfl (Nat.le_of_ble_eq_true rfl) (Nat.le_of_ble_eq_true rfl) rfl (m43 hF hh hn hN hq hqn) (Nat.le_of_ble_eq_true rfl) (fun x M2 hr => ?_)
  obtain ⟨hr0, hr1⟩ := hr
  have hS := hS.then hr0 rfl
  have hN2 := hN.sb hh hS hck
  rcases hr1 with ⟨f, p, w1, w2, w3⟩ | ⟨w1, w2, w3, w4⟩
  · subst w1
    refine g12n hC rfl (fun w => absurd rfl w) (fun _ => ?_)
    refine g0 hC rfl ?_
    exact ret3 hC rfl ⟨by decide, by decide⟩ (Or.inl ⟨f, p, rfl, w2, hS, fun k => w3 _⟩)
  · subst w1
    refine g12n hC rfl (fun _ => ?_) (fun w => absurd (by decide) w)
    have hq1 : (nx T n q).1 ≤ n := (wq_nx hqn).1
    have hq2 : (nx T n (nx T n q)).1 ≤ n := (wq_nx hq1).1
    refine g3 hC rfl rfl ?_
    refine g19 hC rfl rfl (Nat.le_of_ble_eq_true rfl) rfl ((hS.fix hw hF).g rfl) ?_
    refine g19 hC rfl rfl (Nat.le_of_ble_eq_true rfl) rfl w3.1 ?_
    refine s2 hC rfl rfl rfl ?_
    refine g3 hC rfl rfl ?_
    refine g2 hC rfl ?_
    refine g0 hC rfl ?_
    refine g0 hC rfl ?_
    refine c1 hC rfl rfl rfl (Nat.le_of_ble_eq_true rfl) (Nat.le_of_ble_eq_true rfl) rfl (m45 (hS.fix hw hF) hn w2 hq1 hq2 ts20 (tb20.trans (List.append_nil w_post)) tbn20.1) (Nat.le_of_ble_eq_true rfl) (fun x M3 hr => ?_)
    obtain ⟨hr2, hr3⟩ := hr; have hS := hS.then hr2 rfl; have hN3 := hN.sb hh hS hck; have e0 := hN3.1.2.2.1.1
    refine g12e hC rfl (fun h15 => ?_) (fun h15 => ?_)
    ·
      refine g0 hC rfl ?_
      refine ret3 hC rfl ⟨by omega, by omega⟩ ?_
      rcases hr3 with ⟨f, p, -, v2, v3⟩ | ⟨v1, -⟩
      · exact Or.inl ⟨f, p, rfl, v2, hS, fun k => by rw [w4]; exact v3 _⟩
      · omega
    ·
      refine g3 hC rfl rfl ?_
      refine g19 hC rfl (shH hh) (Nat.le_of_ble_eq_true rfl) rfl e0 ?_
      refine g0 hC rfl ?_
      refine g13l hC rfl (fun h19 => ?_) (fun h19 => (by omega))
      refine g3 hC rfl rfl ?_
      refine g19 hC rfl (shH hh) (Nat.le_of_ble_eq_true rfl) rfl ((hS.fix hw hF).h (v := 2) hh rfl rfl) ?_
      refine g3 hC rfl rfl ?_
      refine g19 hC rfl (shH hh) (Nat.le_of_ble_eq_true rfl) rfl e0 ?_
      refine g3 hC rfl rfl ?_
      refine r22 (s.2.2.1.1) hC rfl rfl sh.2.1 (by omega) rfl ?_
      refine g3 hC rfl rfl ?_
      refine g19 hC rfl (shH hh) (Nat.le_of_ble_eq_true rfl) rfl ((ax_up2n (by omega)).trans ((hS.fix hw hF).h (v := 7) hh rfl rfl)) ?_
      refine g3 hC rfl rfl ?_
      refine g19 hC rfl (shH hh) (Nat.le_of_ble_eq_true rfl) rfl ((ax_up2n (by omega)).trans e0) ?_
      refine g3 hC rfl rfl ?_
      refine g19 hC rfl rfl (Nat.le_of_ble_eq_true rfl) rfl ((ax_up2n (show 7 ≠ h + 2 by omega)).trans ((hS.fix hw hF).f (a := 7) (k := 0) (v := 1) rfl)) ?_
      refine g19 hC rfl rfl (Nat.le_of_ble_eq_true rfl) rfl (ax_up2n (show 1 ≠ h + 2 by omega)) ?_
      refine r22 (s.2.2.1.1) hC rfl rfl sh7 (by omega) rfl ?_
      refine g3 hC rfl rfl ?_
      refine g16 hC rfl (by decide) ?_
      refine g19 hC rfl (shH hh) (Nat.le_of_ble_eq_true rfl) rfl ((ax_up2n (by omega)).trans ((ax_up2n (by omega)).trans e0)) ?_
      refine g0 hC rfl ?_
      refine g6a hC rfl ⟨by omega, by omega⟩ ?_
      refine g20 hC rfl (shH hh) (Nat.le_of_ble_eq_true rfl) rfl ?_
      refine g0 hC rfl ?_
      refine ret3 hC rfl ⟨by omega, by omega⟩ ?_
      rcases hr3 with ⟨f, p, v1, -⟩ | ⟨-, v2, v3, v4⟩
      · omega
      · exact Or.inr ⟨rfl, M3, hS, v2, by rw [v3], setN_b v4, fun k => by rw [w4]; exact v4 _⟩
end CSE
