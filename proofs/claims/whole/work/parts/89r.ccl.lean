section CCL
variable {L : Nat} {X : Nat → Int} {M : ax_M} {h n : Nat} {s : HS} {T : Nat → Int} {q : PS}
def KC (h c : Nat) (nm : Int) (M M5 : ax_M) : Prop := Sb (WHo h) M M5 ∧ (∀ i k, i < 18 ∧ i ≠ 14 ∧ i ≠ 17 ∧ i ≠ 3 ∧ i ≠ 10 → M5 (h + i) k = M (h + i) k) ∧ (∀ k, M5 (h + 3) k = if k = c then nm else M (h + 3) k) ∧ (∀ k, k ≠ c → M5 (h + 10) k = M (h + 10) k) ∧ ∀ k, M5 8 k = M 8 k
theorem KC.tx {c : Nat} {nm : Int} {M5 M6 : ax_M} (hk : KC h c nm M M5) (hh : h = 9 ∨ h = 27) (hS : Sb WNS M5 M6) : KC h c nm M M6 := by
  have e : ∀ i k, i < 18 → i ≠ 14 → i ≠ 17 → M6 (h + i) k = M5 (h + i) k := fun i k a b c => hS _ _ ((hokB (W := WNS) (by decide +kernel) hh) i k a b c)
  exact ⟨hk.1.then hS (wHn hh), fun i k z => (e i k z.1 z.2.1 z.2.2.1).trans (hk.2.1 i k z), fun k => (e 3 k (by decide) (by decide) (by decide)).trans (hk.2.2.1 k), fun k z => (e 10 k (by decide) (by decide) (by decide)).trans (hk.2.2.2.1 k z), fun k => (hS 8 k rfl).trans (hk.2.2.2.2 k)⟩
theorem shn8 (hh : h = 9 ∨ h = 27) : SH[h + 8]? = some (1, 0, 8) ∧ SH[h + 9]? = some (1, 0, 8) ∧ SH[h + 10]? = some (1, 0, 8) ∧ SH[h + 11]? = some (1, 0, 8) := by
  rcases hh with rfl | rfl <;> decide +kernel
theorem m49 (hF : Fix M) (hh : h = 9 ∨ h = 27) (hn : n ≤ 1600) (hH : CHo h s M) (hlt : s.2.2.2.1.1 < 8) (hq : CT T n q M) (hqn : q.1 ≤ n) {pp : Int} : ax_Ev L X SH 8 49 [(2, 7), (2, (h : Int))] M (R1 0 (fun x M' => Sb (WHo h) M M' ∧ (∀ k, M' 8 k = M 8 k) ∧ ((∃ f p, x = 0 ∧ CF f p M' ∧ clerkF T n s pp q = .inl (f, p)) ∨ (x = 1 ∧ ∃ (m : Nm) (a b : Nat) (v w : Int) (q' : PS), CT T n q' M' ∧ CHo h (s.1, s.2.1, s.2.2.1, vadd s.2.2.2.1 (m, a, b, v, w), s.2.2.2.2) M' ∧ clerkF T n s pp q = .inr (q', (s.1, s.2.1, s.2.2.1, vadd s.2.2.2.1 (m, a, b, v, w), s.2.2.2.2)))))) := by
  show ax_G L X SH 8 49 0 [(2, 7), (2, (h : Int)), (3, 0), (3, 0), (3, 0)] [] M _
  obtain ⟨P, hP⟩ : ∃ P, P = fun (x : Int) (M' : ax_M) => Sb (WHo h) M M' ∧ (∀ k, M' 8 k = M 8 k) ∧ ((∃ f p, x = 0 ∧ CF f p M' ∧ clerkF T n s pp q = .inl (f, p)) ∨ (x = 1 ∧ ∃ (m : Nm) (a b : Nat) (v w : Int) (q' : PS), CT T n q' M' ∧ CHo h (s.1, s.2.1, s.2.2.1, vadd s.2.2.2.1 (m, a, b, v, w), s.2.2.2.2) M' ∧ clerkF T n s pp q = .inr (q', (s.1, s.2.1, s.2.2.1, vadd s.2.2.2.1 (m, a, b, v, w), s.2.2.2.2)))) := ⟨_, rfl⟩
  rw [← hP]
  have hC := at49
  have hw := wHo hh
  have hwN : wok WNS = true := by decide +kernel
  have hck : cnk WNS = true := by decide +kernel
  have sh := shn1 hh
  have sh8 := shn8 hh
  obtain ⟨c, hc⟩ : ∃ c, c = s.2.2.2.1.1 := ⟨_, rfl⟩
  rw [← hc] at hlt
  obtain ⟨m, hm⟩ : ∃ m, m = nmQ T n q := ⟨_, rfl⟩
  obtain ⟨q1, hq1⟩ : ∃ q1, q1 = nx T n q := ⟨_, rfl⟩
  have hcW1 : ∀ k, wb WNA (h + 1) k = false := fun k => by rcases hh with rfl | rfl <;> rfl
  have hcW2 : ∀ k, wb WNA (h + 2) k = false := fun k => by rcases hh with rfl | rfl <;> rfl
  have b0 := hH.1.1.1.2
  have b2 := hH.1.1.2.2.1.2
  have u3 : ∀ k, wb (WHo h) (h + 3) k = true := fun k => by rcases hh with rfl | rfl <;> rfl
  have u8 : ∀ k, wb (WHo h) (h + 8) k = true := fun k => by rcases hh with rfl | rfl <;> rfl
  have u9 : ∀ k, wb (WHo h) (h + 9) k = true := fun k => by rcases hh with rfl | rfl <;> rfl
  have u10 : ∀ k, wb (WHo h) (h + 10) k = true := fun k => by rcases hh with rfl | rfl <;> rfl
  have u11 : ∀ k, wb (WHo h) (h + 11) k = true := fun k => by rcases hh with rfl | rfl <;> rfl
  have u03 : wb (WHo h) h 3 = true := by rcases hh with rfl | rfl <;> rfl
  have n8 : ∀ i, h + i ≠ 8 := fun i => by omega
  obtain ⟨G, hG⟩ : ∃ G : Nat → Nat → Int → Int → PS → SRs, G = fun r cc x y q7 => .inr (q7, (s.1, s.2.1, s.2.2.1, vadd s.2.2.2.1 (m, r, cc, x, y), s.2.2.2.2)) := ⟨_, rfl⟩
  have eC : clerkF T n s pp q = newN T n s q (fun m q1 => wrdN T n w_in q1 (fun q2 => oldN T n s.1.2 s.1.1 q2 (fun r q3 => wrdN T n w_of q3 (fun q4 => oldN T n (fun k => (s.2.2.1.2 k).1) s.2.2.1.1 q4 (fun c q5 => setN T n w_pace 1 3 q5 (fun x q6 => setN T n w_bag 0 9 q6 (fun y q7 => .inr (q7, (s.1, s.2.1, s.2.2.1, vadd s.2.2.2.1 (m, r, c, x, y), s.2.2.2.2))))))))) := by unfold clerkF; rw [if_neg (by omega)]
  have fl : ∀ f p M', CF f p M' → KC h c (ncm m : Int) M M' → clerkF T n s pp q = .inl (f, p) → P 0 M' := fun f p M' a b c => by rw [hP]; exact ⟨b.1, b.2.2.2.2, Or.inl ⟨f, p, rfl, a, c⟩⟩
  have cn : ∀ M5, KC h c (ncm m : Int) M M5 → (M5 h 0 = (s.1.1 : Int) ∧ M5 h 2 = (s.2.2.1.1 : Int) ∧ M5 h 3 = (c : Int)) ∧ (∀ k, k < s.1.1 → M5 (h + 1) k = (ncm (s.1.2 k) : Int)) ∧ ∀ k, k < s.2.2.1.1 → M5 (h + 2) k = (ncm (s.2.2.1.2 k).1 : Int) := fun M5 hk => ⟨⟨(hk.2.1 0 0 (by decide)).trans hH.1.1.1.1, (hk.2.1 0 2 (by decide)).trans hH.1.1.2.2.1.1, (hk.2.1 0 3 (by decide)).trans (hH.1.1.2.2.2.1.trans (by rw [hc]))⟩, fun k z => (hk.2.1 1 k (by decide)).trans (hH.1.2.1 k z), fun k z => (hk.2.1 2 k (by decide)).trans (hH.1.2.2.1 k z)⟩
  have t78 : ∀ (M7 : ax_M) (r cc : Nat) (v w : Int) (q7 : PS), KC h c (ncm m : Int) M M7 → CT T n q7 M7 → M7 1 6 = w → M7 (h + 10) c = v → clerkF T n s pp q = G r cc v w q7 → ax_G L X SH 8 49 78 [(2, 7), (2, (h : Int)), (0, (c : Int)), (0, (r : Int)), (0, (cc : Int))] [] M7 (R1 0 P) := by
    intro M7 r cc v w q7 hk ct e6 e10 eq
    have hF7 := hk.1.fix hw hF
    have hS := hk.1
    have e3 := (cn M7 hk).1.2.2
    refine g3 hC rfl rfl ?_
    refine g19 hC rfl (shH hh) (Nat.le_of_ble_eq_true rfl) rfl (hF7.h (v := 11) hh rfl rfl) ?_
    refine g3 hC rfl rfl ?_
    refine g3 hC rfl rfl ?_
    refine g19 hC rfl rfl (Nat.le_of_ble_eq_true rfl) rfl (hF7.f (a := 7) (k := 0) (v := 1) rfl) ?_
    refine g19 hC rfl rfl (Nat.le_of_ble_eq_true rfl) rfl e6 ?_
    refine r22 (c) hC rfl rfl sh8.2.2.2 (by omega) rfl ?_
    refine g3 hC rfl rfl ?_
    refine g19 hC rfl (shH hh) (Nat.le_of_ble_eq_true rfl) rfl ((ax_up2n (by omega)).trans (hF7.h (v := 8) hh rfl rfl)) ?_
    refine g3 hC rfl rfl ?_
    refine g3 hC rfl rfl ?_
    refine r22 (c) hC rfl rfl sh8.1 (by omega) rfl ?_
    refine g3 hC rfl rfl ?_
    refine g19 hC rfl (shH hh) (Nat.le_of_ble_eq_true rfl) rfl ((ax_up2n (by omega)).trans ((ax_up2n (by omega)).trans (hF7.h (v := 9) hh rfl rfl))) ?_
    refine g3 hC rfl rfl ?_
    refine g3 hC rfl rfl ?_
    refine r22 (c) hC rfl rfl sh8.2.1 (by omega) rfl ?_
    refine g3 hC rfl rfl ?_
    refine g16 hC rfl (by decide) ?_
    refine g19 hC rfl (shH hh) (Nat.le_of_ble_eq_true rfl) rfl ((ax_up2n (by omega)).trans ((ax_up2n (by omega)).trans ((ax_up2n (by omega)).trans e3))) ?_
    refine g0 hC rfl ?_
    refine g6a hC rfl ⟨by omega, by omega⟩ ?_
    refine g20 hC rfl (shH hh) (Nat.le_of_ble_eq_true rfl) rfl ?_
    refine g0 hC rfl ?_
    refine ret3 hC rfl ⟨by omega, by omega⟩ ?_
    rw [hP]
    obtain ⟨M', hM⟩ : ∃ M', M' = ax_up (ax_up (ax_up (ax_up M7 (h + 11) c w) (h + 8) c (r : Int)) (h + 9) c (cc : Int)) h 3 ((c : Int) + 1) := ⟨_, rfl⟩
    rw [← hM]
    have f1 : ∀ a k, a ≠ h → a ≠ h + 8 → a ≠ h + 9 → a ≠ h + 11 → M' a k = M7 a k := fun a k z1 z2 z3 z4 => by rw [hM, ax_up2n z1, ax_up2n z3, ax_up2n z2, ax_up2n z4]
    have ct' : CT T n q7 M' := ct.same (fun i => f1 1 i (by omega) (by omega) (by omega) (by omega)) (fun i => f1 2 i (by omega) (by omega) (by omega) (by omega))
    refine ⟨by rw [hM]; exact (((hS.up (u11 _)).up (u8 _)).up (u9 _)).up u03, fun k => (f1 8 k (by omega) (by omega) (by omega) (by omega)).trans (hk.2.2.2.2 k), Or.inr ⟨rfl, m, r, cc, v, w, q7, ct', ?_, by rw [eq, hG]⟩⟩
    refine hH.clerk (by omega) (fun k z => ?_) ?_ (fun i k z1 z2 z3 z4 z5 z6 z7 z8 z9 => ?_) (fun k => ?_) (fun k => ?_) (fun k => ?_) (fun k => ?_) (fun k => ?_)
    · rw [hM, ax_up_of z, ax_up2n (by omega), ax_up2n (by omega), ax_up2n (by omega)]; exact hk.2.1 0 k (by decide)
    · rw [hM, ax_up_at, hc]
    · rw [f1 _ _ (by omega) (by omega) (by omega) (by omega)]; exact hk.2.1 i k ⟨z2, z3, z4, z5, z8⟩
    · rw [f1 _ _ (by omega) (by omega) (by omega) (by omega), ← hc]; exact hk.2.2.1 k
    · rw [hM, ax_up2n (by omega), ax_up2n (by omega), ← hc]
      by_cases z : k = c
      · rw [if_pos z, z, ax_up_at]
      · rw [if_neg z, ax_up_of z, ax_up2n (by omega)]; exact hk.2.1 8 k (by decide)
    · rw [hM, ax_up2n (by omega), ← hc]
      by_cases z : k = c
      · rw [if_pos z, z, ax_up_at]
      · rw [if_neg z, ax_up_of z, ax_up2n (by omega), ax_up2n (by omega)]; exact hk.2.1 9 k (by decide)
    · rw [f1 _ _ (by omega) (by omega) (by omega) (by omega), ← hc]
      by_cases z : k = c
      · rw [if_pos z, z]; exact e10
      · rw [if_neg z]; exact hk.2.2.2.1 k z
    · rw [hM, ax_up2n (by omega), ax_up2n (by omega), ax_up2n (by omega), ← hc]
      by_cases z : k = c
      · rw [if_pos z, z, ax_up_at]
      · rw [if_neg z, ax_up_of z]; exact hk.2.1 11 k (by decide)
  have t63 : ∀ (M6 : ax_M) (r cc : Nat) (v : Int) (q6 : PS), KC h c (ncm m : Int) M M6 → CT T n q6 M6 → q6.1 ≤ n → M6 1 6 = v → clerkF T n s pp q = setN T n w_bag 0 9 q6 (fun y q7 => G r cc v y q7) → ax_G L X SH 8 49 63 [(2, 7), (2, (h : Int)), (0, (c : Int)), (0, (r : Int)), (0, (cc : Int))] [] M6 (R1 0 P) := by
    intro M6 r cc v q6 hk ct hq6 e6 eq
    have hF6 := hk.1.fix hw hF
    have hq7 := (wq_nx (T := T) hq6).1
    have hk2 : KC h c (ncm m : Int) M (ax_up M6 (h + 10) c v) := ⟨hk.1.up (u10 _), fun i k z => (ax_up2n (by omega)).trans (hk.2.1 i k z), fun k => (ax_up2n (by omega)).trans (hk.2.2.1 k), fun k z => (ax_up_of z).trans (hk.2.2.2.1 k z), fun k => (ax_up2n (by omega)).trans (hk.2.2.2.2 k)⟩
    have ct2 : CT T n q6 (ax_up M6 (h + 10) c v) := ct.same (fun i => ax_up2n (by omega)) (fun i => ax_up2n (by omega))
    refine g3 hC rfl rfl ?_
    refine g19 hC rfl (shH hh) (Nat.le_of_ble_eq_true rfl) rfl (hF6.h (v := 10) hh rfl rfl) ?_
    refine g3 hC rfl rfl ?_
    refine g3 hC rfl rfl ?_
    refine g19 hC rfl rfl (Nat.le_of_ble_eq_true rfl) rfl (hF6.f (a := 7) (k := 0) (v := 1) rfl) ?_
    refine g19 hC rfl rfl (Nat.le_of_ble_eq_true rfl) rfl e6 ?_
    refine r22 (c) hC rfl rfl sh8.2.2.1 (by omega) rfl ?_
    refine g3 hC rfl rfl ?_
    refine g2 hC rfl ?_
    refine g0 hC rfl ?_
    refine g0 hC rfl ?_
    refine c1 hC rfl rfl rfl (Nat.le_of_ble_eq_true rfl) (Nat.le_of_ble_eq_true rfl) rfl (m45 (hk2.1.fix hw hF) hn ct2 hq6 hq7 ts28 (tb28.trans (List.append_nil w_bag)) tbn28.1) (Nat.le_of_ble_eq_true rfl) (fun x M7 hr => ?_)
    obtain ⟨hr2, hr3⟩ := hr; have hk3 := hk2.tx hh (hr2.mono rfl)
    refine g12n hC rfl (fun h75 => ?_) (fun h75 => ?_)
    ·
      rcases hr3 with ⟨f, p, v1, -⟩ | ⟨-, v2, v3, v4⟩
      · omega
      · exact t78 M7 r cc v _ _ hk3 v2 v3 ((hr2 _ _ (by rcases hh with rfl | rfl <;> rfl)).trans ax_up_at) (eq.trans (v4 _))
    ·
      refine g0 hC rfl ?_
      refine ret3 hC rfl ⟨by omega, by omega⟩ ?_
      rcases hr3 with ⟨f, p, -, v2, v3⟩ | ⟨v1, -⟩
      · exact fl f p _ v2 hk3 (eq.trans (v3 _))
      · omega
  have t55 : ∀ (M5 : ax_M) (r cc : Nat) (q5 : PS), KC h c (ncm m : Int) M M5 → CT T n q5 M5 → q5.1 ≤ n → clerkF T n s pp q = setN T n w_pace 1 3 q5 (fun x q6 => setN T n w_bag 0 9 q6 (fun y q7 => G r cc x y q7)) → ax_G L X SH 8 49 55 [(2, 7), (2, (h : Int)), (0, (c : Int)), (0, (r : Int)), (0, (cc : Int))] [] M5 (R1 0 P) := by
    intro M5 r cc q5 hk ct hq5 eq
    have hq6 := (wq_nx (T := T) hq5).1
    refine g3 hC rfl rfl ?_
    refine g2 hC rfl ?_
    refine g0 hC rfl ?_
    refine g0 hC rfl ?_
    refine c1 hC rfl rfl rfl (Nat.le_of_ble_eq_true rfl) (Nat.le_of_ble_eq_true rfl) rfl (m45 (hk.1.fix hw hF) hn ct hq5 hq6 ts26 (tb26.trans (List.append_nil w_pace)) tbn26.1) (Nat.le_of_ble_eq_true rfl) (fun x M6 hr => ?_)
    obtain ⟨hr2, hr3⟩ := hr; have hk3 := hk.tx hh (hr2.mono rfl)
    refine g12n hC rfl (fun h60 => ?_) (fun h60 => ?_)
    ·
      rcases hr3 with ⟨f, p, v1, -⟩ | ⟨-, v2, v3, v4⟩
      · omega
      · exact t63 M6 r cc _ _ hk3 v2 (wq_nx hq6).1 v3 (eq.trans (v4 _))
    ·
      refine g0 hC rfl ?_
      refine ret3 hC rfl ⟨by omega, by omega⟩ ?_
      rcases hr3 with ⟨f, p, -, v2, v3⟩ | ⟨v1, -⟩
      · exact fl f p _ v2 hk3 (eq.trans (v3 _))
      · omega
  have t38 : ∀ (M4 : ax_M) (r : Nat) (q3 : PS), KC h c (ncm m : Int) M M4 → CT T n q3 M4 → q3.1 ≤ n → clerkF T n s pp q = wrdN T n w_of q3 (fun q4 => oldN T n (fun k => (s.2.2.1.2 k).1) s.2.2.1.1 q4 (fun cc q5 => setN T n w_pace 1 3 q5 (fun x q6 => setN T n w_bag 0 9 q6 (fun y q7 => G r cc x y q7)))) → ax_G L X SH 8 49 38 [(2, 7), (2, (h : Int)), (0, (c : Int)), (0, (r : Int)), (3, 0)] [] M4 (R1 0 P) := by
    intro M4 r q3 hk ct hq3 eq
    have hF4 := hk.1.fix hw hF
    have hq4 := (wq_nx (T := T) hq3).1
    refine g3 hC rfl rfl ?_
    refine g19 hC rfl rfl (Nat.le_of_ble_eq_true rfl) rfl (hF4.f (a := 7) (k := 0) (v := 1) rfl) ?_
    refine g2 hC rfl ?_
    refine c1 hC rfl rfl rfl (Nat.le_of_ble_eq_true rfl) (Nat.le_of_ble_eq_true rfl) rfl (m95r hF4 hn ct hq3 ts24 (tb24.trans (List.append_nil w_of)) tbn24.1) (Nat.le_of_ble_eq_true rfl) (fun y M5 hr => ?_)
    obtain ⟨hr3, hr4⟩ := hr; have hk3 := hk.tx hh (hr3.mono rfl); have hF5 := hk3.1.fix hw hF
    refine g12e hC rfl (fun h42 => ?_) (fun h42 => ?_)
    ·
      refine g0 hC rfl ?_
      refine s4 hC rfl rfl rfl ?_
      refine g3 hC rfl rfl ?_
      refine g0 hC rfl ?_
      refine g13e hC rfl (fun h54 => ?_) (fun h54 => ?_)
      ·
        refine g0 hC rfl ?_
        refine ret3 hC rfl ⟨by omega, by omega⟩ ?_
        rcases hr4 with ⟨f, p, e, -, v2⟩ | ⟨e, v1, v2, -⟩
        · exact fl f p _ v2 hk3 (by rw [eq, wrdN_n e])
        · omega
      ·
        omega
    ·
      refine g3 hC rfl rfl ?_
      refine g3 hC rfl rfl ?_
      refine g19 hC rfl (shH hh) (Nat.le_of_ble_eq_true rfl) rfl (hF5.h (v := 2) hh rfl rfl) ?_
      refine g3 hC rfl rfl ?_
      refine g19 hC rfl (shH hh) (Nat.le_of_ble_eq_true rfl) rfl (cn M5 hk3).1.2.1 ?_
      have hr5 : wdR T n q3 w_of = none ∧ CT T n (nx T n q3) M5 := by { rcases hr4 with ⟨f, p, e, v1, -⟩ | ⟨e, v1, v2, -⟩; omega; exact ⟨e, v2⟩ }
      refine c1 hC rfl rfl rfl (Nat.le_of_ble_eq_true rfl) (Nat.le_of_ble_eq_true rfl) rfl (m44 (f := fun k => (s.2.2.1.2 k).1) hF5 hn sh.2.1 (by omega) (by decide) hcW2 (cn M5 hk3).2.2 hr5.2 hq4) (Nat.le_of_ble_eq_true rfl) (fun x M6 hr => ?_)
      obtain ⟨hr6, hr7⟩ := hr; have hk4 := hk3.tx hh (hr6.mono rfl)
      refine g14 hC rfl ?_
      refine s4 hC rfl rfl rfl ?_
      refine g3 hC rfl rfl ?_
      refine g0 hC rfl ?_
      refine g13e hC rfl (fun h54 => ?_) (fun h54 => ?_)
      ·
        refine g0 hC rfl ?_
        refine ret3 hC rfl ⟨by omega, by omega⟩ ?_
        rcases hr7 with ⟨f, p, -, w2, w3⟩ | ⟨b, hb, v1, -⟩
        · exact fl f p _ w2 hk4 (by rw [eq, wrdN_y hr5.1]; exact w3 _)
        · omega
      ·
        rcases hr7 with ⟨f, p, v1, -⟩ | ⟨b, hb, v1, w2, w3, w4⟩
        · omega
        · subst v1; exact t55 M6 r b _ hk4 w2 (wq_nx hq4).1 (by rw [eq, wrdN_y hr5.1]; exact w4 _)
  have t19 : ∀ (M3 : ax_M), KC h c (ncm m : Int) M M3 → CT T n q1 M3 → q1.1 ≤ n → clerkF T n s pp q = wrdN T n w_in q1 (fun q2 => oldN T n s.1.2 s.1.1 q2 (fun r q3 => wrdN T n w_of q3 (fun q4 => oldN T n (fun k => (s.2.2.1.2 k).1) s.2.2.1.1 q4 (fun cc q5 => setN T n w_pace 1 3 q5 (fun x q6 => setN T n w_bag 0 9 q6 (fun y q7 => G r cc x y q7)))))) → ax_G L X SH 8 49 19 [(2, 7), (2, (h : Int)), (0, (c : Int)), (3, 0), (3, 0)] [] M3 (R1 0 P) := by
    intro M3 hk ct hq1n eq
    have hF4 := hk.1.fix hw hF
    have hq4 := (wq_nx (T := T) hq1n).1
    refine g3 hC rfl rfl ?_
    refine g19 hC rfl rfl (Nat.le_of_ble_eq_true rfl) rfl (hF4.f (a := 7) (k := 0) (v := 1) rfl) ?_
    refine g2 hC rfl ?_
    refine c1 hC rfl rfl rfl (Nat.le_of_ble_eq_true rfl) (Nat.le_of_ble_eq_true rfl) rfl (m95r hF4 hn ct hq1n ts22 (tb22.trans (List.append_nil w_in)) tbn22.1) (Nat.le_of_ble_eq_true rfl) (fun y M5 hr => ?_)
    obtain ⟨hr3, hr4⟩ := hr; have hk3 := hk.tx hh (hr3.mono rfl); have hF5 := hk3.1.fix hw hF
    refine g12e hC rfl (fun h23 => ?_) (fun h23 => ?_)
    ·
      refine g0 hC rfl ?_
      refine s3 hC rfl rfl rfl ?_
      refine g3 hC rfl rfl ?_
      refine g0 hC rfl ?_
      refine g13n hC rfl (fun h35 => ?_) (fun h35 => ?_)
      ·
        omega
      ·
        refine g0 hC rfl ?_
        refine ret3 hC rfl ⟨by omega, by omega⟩ ?_
        rcases hr4 with ⟨f, p, e, -, v2⟩ | ⟨e, v1, v2, -⟩
        · exact fl f p _ v2 hk3 (by rw [eq, wrdN_n e])
        · omega
    ·
      refine g3 hC rfl rfl ?_
      refine g3 hC rfl rfl ?_
      refine g19 hC rfl (shH hh) (Nat.le_of_ble_eq_true rfl) rfl (hF5.h (v := 1) hh rfl rfl) ?_
      refine g3 hC rfl rfl ?_
      refine g19 hC rfl (shH hh) (Nat.le_of_ble_eq_true rfl) rfl (cn M5 hk3).1.1 ?_
      have hr5 : wdR T n q1 w_in = none ∧ CT T n (nx T n q1) M5 := by { rcases hr4 with ⟨f, p, e, v1, -⟩ | ⟨e, v1, v2, -⟩; omega; exact ⟨e, v2⟩ }
      refine c1 hC rfl rfl rfl (Nat.le_of_ble_eq_true rfl) (Nat.le_of_ble_eq_true rfl) rfl (m44 (f := s.1.2) hF5 hn sh.1 (by omega) (by decide) hcW1 (cn M5 hk3).2.1 hr5.2 hq4) (Nat.le_of_ble_eq_true rfl) (fun x M6 hr => ?_)
      obtain ⟨hr6, hr7⟩ := hr; have hk4 := hk3.tx hh (hr6.mono rfl)
      refine g14 hC rfl ?_
      refine s3 hC rfl rfl rfl ?_
      refine g3 hC rfl rfl ?_
      refine g0 hC rfl ?_
      refine g13n hC rfl (fun h35 => ?_) (fun h35 => ?_)
      ·
        rcases hr7 with ⟨f, p, v1, -⟩ | ⟨b, hb, v1, w2, w3, w4⟩
        · omega
        · subst v1; exact t38 M6 b _ hk4 w2 (wq_nx hq4).1 (by rw [eq, wrdN_y hr5.1]; exact w4 _)
      ·
        refine g0 hC rfl ?_
        refine ret3 hC rfl ⟨by omega, by omega⟩ ?_
        rcases hr7 with ⟨f, p, -, w2, w3⟩ | ⟨b, hb, v1, -⟩
        · exact fl f p _ w2 hk4 (by rw [eq, wrdN_y hr5.1]; exact w3 _)
        · omega
  have hS : Sb WNS M M := Sb.refl
  have e03 : M h 3 = (c : Int) := by rw [hc]; exact hH.1.1.2.2.2.1
  have c43 := m43 (L := L) (X := X) hF hh hn hH.1 hq hqn
  refine g3 hC rfl rfl ?_
  refine g19 hC rfl (shH hh) (Nat.le_of_ble_eq_true rfl) rfl e03 ?_
  refine s2 hC rfl rfl rfl ?_
  refine g3 hC rfl rfl ?_
  refine g3 hC rfl rfl ?_
  refine c1 hC rfl rfl rfl (Nat.le_of_ble_eq_true rfl) (Nat.le_of_ble_eq_true rfl) rfl c43 (Nat.le_of_ble_eq_true rfl) (fun x M2 hr => ?_)
  obtain ⟨hr0, hr1⟩ := hr; have hS : Sb WNS M M2 := hr0.mono rfl; have hF2 := hS.fix hwN hF
  refine g12e hC rfl (fun h6 => ?_) (fun h6 => ?_)
  ·
    refine g0 hC rfl ?_
    refine ret3 hC rfl ⟨by omega, by omega⟩ ?_
    rcases hr1 with ⟨f, p, -, w2, w3⟩ | ⟨w1, -⟩
    · rw [hP]; exact ⟨Sb.refl.then hS (wHn hh), fun k => hS 8 k rfl, Or.inl ⟨f, p, rfl, w2, eC.trans (w3 _)⟩⟩
    · omega
  ·
    refine g3 hC rfl rfl ?_
    refine g0 hC rfl ?_
    refine g13l hC rfl (fun h9 => ?_) (fun h9 => (by omega))
    refine g3 hC rfl rfl ?_
    refine g19 hC rfl (shH hh) (Nat.le_of_ble_eq_true rfl) rfl (hF2.h (v := 3) hh rfl rfl) ?_
    refine g3 hC rfl rfl ?_
    refine g3 hC rfl rfl ?_
    refine g19 hC rfl rfl (Nat.le_of_ble_eq_true rfl) rfl (hF2.f (a := 7) (k := 0) (v := 1) rfl) ?_
    refine g19 hC rfl rfl (Nat.le_of_ble_eq_true rfl) rfl (rfl : M2 1 7 = M2 1 7) ?_
    refine r22 (c) hC rfl rfl sh.2.2 (by omega) rfl ?_
    rcases hr1 with ⟨f, p, w1, -⟩ | ⟨-, w2, w3, w4⟩
    · omega
    · have eh : ∀ i k, i < 18 → i ≠ 14 → i ≠ 17 → M2 (h + i) k = M (h + i) k := fun i k a b c => hS _ _ ((hokB (W := WNS) (by decide +kernel) hh) i k a b c)
      refine t19 _ ⟨(Sb.refl.then hS (wHn hh)).up (u3 _), fun i k z => (ax_up2n (by omega)).trans (eh i k z.1 z.2.1 z.2.2.1), fun k => ?_, fun k z => (ax_up2n (by omega)).trans (eh 10 k (by decide) (by decide) (by decide)), fun k => (ax_up2n (by omega)).trans (hS 8 k rfl)⟩ (by rw [hq1]; exact w2.same (fun i => ax_up2n (by omega)) (fun i => ax_up2n (by omega))) (by rw [hq1]; exact (wq_nx hqn).1) (by rw [eC, w4, hG, hm, hq1])
      by_cases z : k = c
      · rw [if_pos z, z, ax_up_at, w3.1, hm]
      · rw [if_neg z, ax_up_of z]; exact eh 3 k (by decide) (by decide) (by decide)
end CCL
