def XHQ : ax_W := ([(176, 185), (228, 230)], [(142, 2), (142, 4), (142, 5), (142, 6), (142, 41), (142, 51), (142, 52), (142, 53), (142, 110), (142, 112), (142, 113), (142, 114), (142, 1), (142, 3)])
section RHU
variable {L : Nat} {X : Nat → Int} {M : ax_M} {n : Nat} {T : Nat → Int}
def RFl (T : Nat → Int) (n : Nat) (M : ax_M) (x : Int) (M' : ax_M) : Prop := ∃ f p M1, houF T n 80 0 (qz T n) hs0 = .inl (f, p) ∧ x = -1 ∧ (Sb XHQ M M1 ∧ KH M M1) ∧ M1 142 1 = 0 ∧ M' = ax_up (ax_up (ax_up M1 142 7 f) 142 8 p) 144 1 (M 144 1 + 1)
def RSd (T : Nat → Int) (n : Nat) (M : ax_M) (x : Int) (M' : ax_M) : Prop := ∃ (c : Nat) (s : HS) (M1 : ax_M), houF T n 80 0 (qz T n) hs0 = .inr (c, s) ∧ x = (c : Int) ∧ (Sb XHQ M M1 ∧ KH M M1) ∧ M1 142 1 = 0 ∧ RHo s M1 ∧ SDp (cdl s) s.2.2.1.1 (ax_up (ax_up M1 142 7 0) 142 8 (-1)) M'
theorem wXHQ : wok XHQ = true := by decide +kernel
theorem m180 (hF : Fix M) (hWd : Wd M) (hn : n ≤ 1600) (h1 : M 142 1 = (n : Int)) (hT : ∀ i, i < 1600 → M 143 i = T i) (hB : ∀ i, i < 1600 → 0 ≤ T i) (hb : 0 ≤ M 144 1 ∧ M 144 1 ≤ 1000000) : ax_Ev L X SH 11 180 [(2, 142)] M (R1 0 (fun x M' => RFl T n M x M' ∨ RSd T n M x M')) := by
  show ax_G L X SH 11 180 0 [(2, 142), (3, 0)] [] M _
  obtain ⟨P, hP⟩ : ∃ P, P = fun (x : Int) (M' : ax_M) => RFl T n M x M' ∨ RSd T n M x M' := ⟨_, rfl⟩
  rw [← hP]
  have hC := at180
  have hw := wXHQ
  have t72b : ∀ (M1 : ax_M) (f p : Int) (v : ax_V), Sb XHQ M M1 → KH M M1 → M1 142 1 = 0 → f ≠ 0 → BF f p M1 → houF T n 80 0 (qz T n) hs0 = .inl (f, p) → ax_G L X SH 11 180 72 [(2, 142), v] [] M1 (R1 0 P) := by
    intro M1 f p v hS hk e1 hf hbf eq
    have hF1 := hS.fix hw hF
    have e144 : M1 144 1 = M 144 1 := hS 144 1 rfl
    have hs7 : Sb ([], [(142, 7), (142, 8)]) M1 (ax_up (ax_up M1 142 7 f) 142 8 p) := (Sb.refl.up rfl).up rfl
    have hF7 : Fix (ax_up (ax_up M1 142 7 f) 142 8 p) := hs7.fix (by decide +kernel) hF1
    refine g3 hC rfl rfl ?_
    refine g3 hC rfl rfl ?_
    refine g19 hC rfl sh142 (flt12 rfl) ft12_5 hbf.1 ?_
    refine g20 hC rfl sh142 (flt12 rfl) (by rw [fy12_7]; rfl) ?_
    refine g3 hC rfl rfl ?_
    refine g3 hC rfl rfl ?_
    refine g19 hC rfl sh142 (flt12 rfl) ft12_6 ((ax_up_of (by decide)).trans hbf.2) ?_
    refine g20 hC rfl sh142 (flt12 rfl) (by rw [fy12_8]; rfl) ?_
    refine g3 hC rfl rfl ?_
    refine g19 hC rfl sh142 (flt12 rfl) ft12_5 ((hs7 142 5 rfl).trans hbf.1) ?_
    refine g12e hC rfl (fun y => absurd y hf) (fun _ => ?_)
    refine g3 hC rfl rfl ?_
    refine g19 hC rfl sh142 (flt12 rfl) ft12_9 (hF7.g fx_142_9) ?_
    refine g0 hC rfl ?_
    refine g17 hC rfl (by decide) ?_
    refine r21 (1) hC rfl rfl sh144 (Or.inl rfl) (by decide) ((hs7 144 1 rfl).trans e144) ?_
    refine g0 hC rfl ?_
    refine g6a hC rfl ⟨by omega, by omega⟩ ?_
    refine r22 (1) hC rfl rfl sh144 (by decide) rfl ?_
    refine g0 hC rfl ?_
    refine ret1 hC rfl rfl ?_
    rw [hP]
    exact Or.inl ⟨f, p, M1, eq, rfl, ⟨hS, hk⟩, e1, rfl⟩
  have t72g : ∀ (M1 : ax_M) (c : Nat) (s : HS) (v : ax_V), Sb XHQ M M1 → KH M M1 → M1 142 1 = 0 → M1 142 5 = 0 → M1 142 6 = -1 → M1 142 52 = (c : Int) → RHo s M1 → cdl s ≤ 1600 → s.2.2.1.1 ≤ 5 → houF T n 80 0 (qz T n) hs0 = .inr (c, s) → ax_G L X SH 11 180 72 [(2, 142), v] [] M1 (R1 0 P) := by
    intro M1 c s v hS hk e1 e5 e6 e52 hR hcd hc5 eq
    have hF1 := hS.fix hw hF
    obtain ⟨M7, hM7⟩ : ∃ M7, M7 = ax_up (ax_up M1 142 7 0) 142 8 (-1) := ⟨_, rfl⟩
    have hs7 : Sb ([], [(142, 7), (142, 8)]) M1 M7 := by rw [hM7]; exact (Sb.refl.up rfl).up rfl
    have hF7 : Fix M7 := hs7.fix (by decide +kernel) hF1
    have hR7 := hR.sb hs7 (rokB (by decide +kernel)) rfl
    refine g3 hC rfl rfl ?_
    refine g3 hC rfl rfl ?_
    refine g19 hC rfl sh142 (flt12 rfl) ft12_5 e5 ?_
    refine g20 hC rfl sh142 (flt12 rfl) (by rw [fy12_7]; rfl) ?_
    refine g3 hC rfl rfl ?_
    refine g3 hC rfl rfl ?_
    refine g19 hC rfl sh142 (flt12 rfl) ft12_6 ((ax_up_of (by decide)).trans e6) ?_
    refine g20 hC rfl sh142 (flt12 rfl) (by rw [fy12_8]; rfl) ?_
    rw [← hM7]
    refine g3 hC rfl rfl ?_
    refine g19 hC rfl sh142 (flt12 rfl) ft12_5 ((hs7 142 5 rfl).trans e5) ?_
    refine g12e hC rfl (fun _ => ?_) (fun y => absurd rfl y)
    refine g3 hC rfl rfl ?_
    refine c0 hC rfl rfl rfl (Nat.le_of_ble_eq_true rfl) (Nat.le_of_ble_eq_true rfl) (mayR k181 rfl) (m181 hF7 hR7.2.2.2.2.2.2.1 hcd hR7.1.2.1 hc5) (Nat.le_of_ble_eq_true rfl) (fun M8 hr => ?_)
    refine g3 hC rfl rfl ?_
    refine g19 hC rfl sh142 (flt12 rfl) ft12_52 ((hr.1 142 52 rfl).trans ((hs7 142 52 rfl).trans e52)) ?_
    refine ret1 hC rfl rfl ?_
    rw [hP]
    exact Or.inr ⟨c, s, M1, eq, rfl, ⟨hS, hk⟩, e1, hR, by rw [← hM7]; exact hr⟩
  have t62b : ∀ (M1 : ax_M) (f p : Int) (v : ax_V), Sb XHQ M M1 → KH M M1 → M1 142 1 = 0 → f ≠ 0 → BF f p M1 → houF T n 80 0 (qz T n) hs0 = .inl (f, p) → ax_G L X SH 11 180 62 [(2, 142), v] [] M1 (R1 0 P) := by
    intro M1 f p v hS hk e1 hf hbf eq
    refine g3 hC rfl rfl ?_
    refine g19 hC rfl sh142 (flt12 rfl) ft12_5 hbf.1 ?_
    refine g12n hC rfl (fun _ => ?_) (fun y => absurd hf y)
    exact t72b M1 f p v hS hk e1 hf hbf eq
  have t62 : ∀ (f c : Nat) (q : PS) (s : HS) (M1 : ax_M) (v : ax_V), f + c = 80 → Sb XHQ M M1 → KH M M1 → M1 142 1 = 0 → RT T n q M1 → q.1 ≤ n → RHo s M1 → WfH q.1 s → M1 142 52 = (c : Int) → houF T n 80 0 (qz T n) hs0 = houF T n f c q s → ax_G L X SH 11 180 62 [(2, 142), v] [] M1 (R1 0 P) := by
    intro f
    induction f with
    | zero =>
      intro c q s M1 v hfc hS hk e1 hrt hqn hR hwf e52 eq
      rw [houF_z c q s] at eq
      have hF1 := hS.fix hw hF
      have hke := lkE (T := T) (n := n) (q := q)
      have hk0 := kd_0 (T := T) (n := n) (q := q)
      refine g3 hC rfl rfl ?_
      refine g19 hC rfl sh142 (flt12 rfl) ft12_5 hrt.2.2.2.2.1 ?_
      refine g12n hC rfl (fun y => absurd rfl y) (fun _ => ?_)
      refine g3 hC rfl rfl ?_
      refine c1 hC rfl rfl rfl (Nat.le_of_ble_eq_true rfl) (Nat.le_of_ble_eq_true rfl) (mayR k159 rfl) (m159 hF1 hn hrt hqn) (Nat.le_of_ble_eq_true rfl) (fun x M2 hr => ?_)
      obtain ⟨hx, hr0, hr1⟩ := hr
      have hS2 := hS.then hr0 rfl
      have hk2 := hk.sb hr0 (rokB (by decide +kernel))
      have e12 := (hr0 142 1 rfl).trans e1
      refine g0 hC rfl ?_
      by_cases z : kd T n q = 0
      · rw [if_pos z] at eq
        refine g13e hC rfl (fun _ => ?_) (fun y => absurd (hx.trans (hke.2 (Or.inl (hk0.1 z)))) y)
        have hwn := hwf.mono hqn
        exact t72g M2 c s v hS2 hk2 e12 ((hr0 142 5 rfl).trans hrt.2.2.2.2.1) ((hr0 142 6 rfl).trans hrt.2.2.2.2.2) ((hr0 142 52 rfl).trans e52) (hR.sb hr0 (rokB (by decide +kernel)) rfl) (Nat.le_trans hwn.2.2.2.2.2.1.2.2 hn) hwn.1.2.2.1 eq
      · rw [if_neg z] at eq
        have hlt : q.1 < n := by
          rcases Nat.lt_or_ge q.1 n with y | y
          · exact y
          · exact absurd (hk0.2 y) z
        have hlk : ¬ x = -1 := by
          rw [hx]; unfold lk; rw [if_pos hlt]; have := hB q.1 (by omega); omega
        refine g13e hC rfl (fun y => absurd y hlk) (fun _ => ?_)
        refine g3 hC rfl rfl ?_
        refine c0 hC rfl rfl rfl (Nat.le_of_ble_eq_true rfl) (Nat.le_of_ble_eq_true rfl) (mayR k179 rfl) (m179f (hS2.fix hw hF) (hrt.lk hr0 hr1) hr1 (by rw [hr0 142 52 rfl, e52]; omega)) (Nat.le_of_ble_eq_true rfl) (fun M3 hr => ?_)
        subst hr
        refine g14 hC rfl ?_
        exact t62b _ 5 _ v ((hS2.up rfl).up rfl) ((hk2.up (by decide)).up (by decide)) ((ax_up_of (by decide)).trans ((ax_up_of (by decide)).trans e12)) (by decide) BF.up eq
    | succ f ih =>
      intro c q s M1 v hfc hS hk e1 hrt hqn hR hwf e52 eq
      rw [houF_s f c q s] at eq
      have hF1 := hS.fix hw hF
      have hke := lkE (T := T) (n := n) (q := q)
      have hk0 := kd_0 (T := T) (n := n) (q := q)
      refine g3 hC rfl rfl ?_
      refine g19 hC rfl sh142 (flt12 rfl) ft12_5 hrt.2.2.2.2.1 ?_
      refine g12n hC rfl (fun y => absurd rfl y) (fun _ => ?_)
      refine g3 hC rfl rfl ?_
      refine c1 hC rfl rfl rfl (Nat.le_of_ble_eq_true rfl) (Nat.le_of_ble_eq_true rfl) (mayR k159 rfl) (m159 hF1 hn hrt hqn) (Nat.le_of_ble_eq_true rfl) (fun x M2 hr => ?_)
      obtain ⟨hx, hr0, hr1⟩ := hr
      have hS2 := hS.then hr0 rfl
      have hk2 := hk.sb hr0 (rokB (by decide +kernel))
      have e12 := (hr0 142 1 rfl).trans e1
      have hR2 := hR.sb hr0 (rokB (by decide +kernel)) rfl
      refine g0 hC rfl ?_
      by_cases z : kd T n q = 0
      · rw [if_pos z] at eq
        refine g13e hC rfl (fun _ => ?_) (fun y => absurd (hx.trans (hke.2 (Or.inl (hk0.1 z)))) y)
        have hwn := hwf.mono hqn
        exact t72g M2 c s v hS2 hk2 e12 ((hr0 142 5 rfl).trans hrt.2.2.2.2.1) ((hr0 142 6 rfl).trans hrt.2.2.2.2.2) ((hr0 142 52 rfl).trans e52) hR2 (Nat.le_trans hwn.2.2.2.2.2.1.2.2 hn) hwn.1.2.2.1 eq
      · rw [if_neg z] at eq
        have hlt : q.1 < n := by
          rcases Nat.lt_or_ge q.1 n with y | y
          · exact y
          · exact absurd (hk0.2 y) z
        have hlk : ¬ x = -1 := by
          rw [hx]; unfold lk; rw [if_pos hlt]; have := hB q.1 (by omega); omega
        refine g13e hC rfl (fun y => absurd y hlk) (fun _ => ?_)
        refine g3 hC rfl rfl ?_
        refine c0 hC rfl rfl rfl (Nat.le_of_ble_eq_true rfl) (Nat.le_of_ble_eq_true rfl) (mayR k179 rfl) (m179 (c := c) (hS2.fix hw hF) hn hR2 hwf (hWd.sb hS2 (by decide +kernel)) (hrt.lk hr0 hr1) hqn hr1 (by omega) ((hr0 142 52 rfl).trans e52)) (Nat.le_of_ble_eq_true rfl) (fun M3 hr => ?_)
        obtain ⟨hky, e52', hr⟩ := hr
        have hS3 := hS2.then hky.1 rfl
        have hk3 := hk2.trans hky.2
        have e13 := (hky.1 142 1 rfl).trans e12
        refine g14 hC rfl ?_
        rcases hr with ⟨f', p, hf, hbf, e⟩ | ⟨q', s', e, hrt', hR'⟩
        · exact t62b M3 f' p v hS3 hk3 e13 hf hbf (by rw [eq, e])
        · obtain ⟨y1, y2⟩ := sem_ok hqn hwf e
          exact ih (c + 1) q' s' M3 v (by omega) hS3 hk3 e13 hrt' y2 hR' y1 e52' (by rw [eq, e])
  obtain ⟨M0, hM0⟩ : ∃ M0, M0 = ax_up (ax_up (ax_up (ax_up (ax_up (ax_up (ax_up (ax_up M 142 3 (n : Int)) 142 1 0) 142 2 0) 142 4 (-1)) 142 5 0) 142 6 (-1)) 142 52 0) 142 51 0 := ⟨_, rfl⟩
  have hS0 : Sb XHQ M M0 := by rw [hM0]; exact (((((((Sb.refl.up rfl).up rfl).up rfl).up rfl).up rfl).up rfl).up rfl).up rfl
  have a0 : ∀ a k, a ≠ 142 → M0 a k = M a k := fun a k z => by rw [hM0, ax_up2n z, ax_up2n z, ax_up2n z, ax_up2n z, ax_up2n z, ax_up2n z, ax_up2n z, ax_up2n z]
  have b51 : M0 142 51 = 0 := by rw [hM0, ax_up_at]
  have b52 : M0 142 52 = 0 := by rw [hM0, ax_up_of (by decide), ax_up_at]
  have b6 : M0 142 6 = -1 := by rw [hM0, ax_up_of (by decide), ax_up_of (by decide), ax_up_at]
  have b5 : M0 142 5 = 0 := by rw [hM0, ax_up_of (by decide), ax_up_of (by decide), ax_up_of (by decide), ax_up_at]
  have b4 : M0 142 4 = -1 := by rw [hM0, ax_up_of (by decide), ax_up_of (by decide), ax_up_of (by decide), ax_up_of (by decide), ax_up_at]
  have b2 : M0 142 2 = 0 := by rw [hM0, ax_up_of (by decide), ax_up_of (by decide), ax_up_of (by decide), ax_up_of (by decide), ax_up_of (by decide), ax_up_at]
  have b1 : M0 142 1 = 0 := by rw [hM0, ax_up_of (by decide), ax_up_of (by decide), ax_up_of (by decide), ax_up_of (by decide), ax_up_of (by decide), ax_up_of (by decide), ax_up_at]
  have b3 : M0 142 3 = (n : Int) := by rw [hM0, ax_up_of (by decide), ax_up_of (by decide), ax_up_of (by decide), ax_up_of (by decide), ax_up_of (by decide), ax_up_of (by decide), ax_up_of (by decide), ax_up_at]
  have t27 : ∀ (m k : Nat), k + m = 4 → ∀ ll M1, (ll = [(2, 142), (0, (k : Int))] ∧ Sb ([(176, 177)], []) M0 M1 ∧ (∀ j, j < k → M1 176 j = 0) ∧ ∀ j, 4 ≤ j → M1 176 j = M 176 j) → ax_G L X SH 11 180 27 ll [] M1 (R1 0 P) := by
    refine lp ?_ ?_
    · rintro ll M1 ⟨rfl, h1', h2, h3⟩
      have hS := hS0.then h1' rfl
      refine g3 hC rfl rfl ?_
      refine g0 hC rfl ?_
      refine g13g hC rfl (fun h29 => ?_) (fun h29 => (by omega))
      refine g3 hC rfl rfl ?_
      refine g19 hC rfl sh142 (flt12 rfl) ft12_48 ((hS.fix hw hF).g fx_142_48) ?_
      refine g0 hC rfl ?_
      refine g0 hC rfl ?_
      refine r22s (0) hC rfl (by omega) sh182 (by omega) rfl hS rfl (fun hS => ?_)
      refine g3 hC rfl rfl ?_
      refine g19 hC rfl sh142 (flt12 rfl) ft12_48 ((hS.fix hw hF).g fx_142_48) ?_
      refine g0 hC rfl ?_
      refine g0 hC rfl ?_
      refine r22s (1) hC rfl (by omega) sh182 (by omega) rfl hS rfl (fun hS => ?_)
      refine g3 hC rfl rfl ?_
      refine g19 hC rfl sh142 (flt12 rfl) ft12_47 ((hS.fix hw hF).g fx_142_47) ?_
      refine g0 hC rfl ?_
      refine g0 hC rfl ?_
      refine r22s (0) hC rfl (by omega) sh181 (by omega) rfl hS rfl (fun hS => ?_)
      refine g3 hC rfl rfl ?_
      refine g19 hC rfl sh142 (flt12 rfl) ft12_47 ((hS.fix hw hF).g fx_142_47) ?_
      refine g0 hC rfl ?_
      refine g0 hC rfl ?_
      refine r22s (1) hC rfl (by omega) sh181 (by omega) rfl hS rfl (fun hS => ?_)
      refine g3 hC rfl rfl ?_
      refine g19 hC rfl sh142 (flt12 rfl) ft12_47 ((hS.fix hw hF).g fx_142_47) ?_
      refine g0 hC rfl ?_
      refine g0 hC rfl ?_
      refine r22s (2) hC rfl (by omega) sh181 (by omega) rfl hS rfl (fun hS => ?_)
      obtain ⟨M2, hM2⟩ : ∃ M2, M2 = ax_up (ax_up (ax_up (ax_up (ax_up M1 182 0 (-1)) 182 1 (-1)) 181 0 3) 181 1 2) 181 2 0 := ⟨_, rfl⟩
      rw [← hM2] at hS ⊢
      have c0' : ∀ a k, a ≠ 181 → a ≠ 182 → M2 a k = M1 a k := fun a k z1 z2 => by rw [hM2, ax_up2n z1, ax_up2n z1, ax_up2n z1, ax_up2n z2, ax_up2n z2]
      have c1' : ∀ k, M2 142 k = M0 142 k := fun k => (c0' 142 k (by decide) (by decide)).trans (h1' 142 k rfl)
      have l1' : hlf 181 = 3 := rfl
      have l2' : hlf 182 = 2 := rfl
      have l6' : hlf 176 = 4 := rfl
      refine t62 80 0 (qz T n) hs0 M2 _ rfl hS ?_ ((c1' 1).trans b1) ?_ (rn_le (Nat.zero_le _)) ?_ (WfH.z.mono (Nat.zero_le _)) ((c1' 52).trans b52) rfl
      · intro a k z1 z2 z3 z4
        by_cases y1 : a = 181
        · subst y1; rw [hM2, ax_up_of (by omega), ax_up_of (by omega), ax_up_of (by omega), ax_up2n (by decide), ax_up2n (by decide), h1' _ _ rfl]; exact a0 181 k (by decide)
        · by_cases y2 : a = 182
          · subst y2; rw [hM2, ax_up2n (by decide), ax_up2n (by decide), ax_up2n (by decide), ax_up_of (by omega), ax_up_of (by omega), h1' _ _ rfl]; exact a0 182 k (by decide)
          · rw [c0' a k y1 y2]
            by_cases y3 : a = 176
            · subst y3; exact h3 k (by omega)
            · rw [h1' a k (wbo 177 185 rfl (by omega) (by omega))]; exact a0 a k (by omega)
      · refine ⟨(c1' 3).trans b3, ⟨0, (c1' 2).trans b2, Nat.zero_le _, rfl⟩, ?_, fun i hi => ?_, (c1' 5).trans b5, (c1' 6).trans b6⟩
        · rw [c1' 4, b4]
          exact ⟨by omega, ⟨fun y => by omega, fun y => by cases y⟩⟩
        · rw [c0' 143 i (by decide) (by decide), h1' _ _ rfl, a0 143 i (by decide)]; exact hT i hi
      · refine ⟨⟨?_, ?_, ?_, ?_⟩, ⟨fun k hk => absurd hk (Nat.not_lt_zero k), fun k hk => absurd hk (Nat.not_lt_zero k), fun k hk => absurd hk (Nat.not_lt_zero k)⟩, fun k hk => absurd hk (Nat.not_lt_zero k), fun k hk => absurd hk (Nat.not_lt_zero k), fun k hk => absurd hk (Nat.not_lt_zero k), ⟨?_, ?_, ?_⟩, (c1' 51).trans b51, Or.inl ⟨rfl, ?_⟩, Or.inl ⟨rfl, ?_⟩⟩
        · rw [c0' _ _ (by decide) (by decide)]; exact h2 0 (by decide)
        · rw [c0' _ _ (by decide) (by decide)]; exact h2 1 (by decide)
        · rw [c0' _ _ (by decide) (by decide)]; exact h2 2 (by decide)
        · rw [c0' _ _ (by decide) (by decide)]; exact h2 3 (by decide)
        · rw [hM2, ax_up_of (by decide), ax_up_of (by decide), ax_up_at]; rfl
        · rw [hM2, ax_up_of (by decide), ax_up_at]; rfl
        · rw [hM2, ax_up_at]; rfl
        · rw [hM2, ax_up2n (by decide), ax_up2n (by decide), ax_up2n (by decide), ax_up_of (by decide), ax_up_at]
        · rw [hM2, ax_up2n (by decide), ax_up2n (by decide), ax_up2n (by decide), ax_up_at]
    · rintro k hk ll M1 ⟨rfl, h1', h2, h3⟩ hnext
      have hS := hS0.then h1' rfl
      refine g3 hC rfl rfl ?_
      refine g0 hC rfl ?_
      refine g13g hC rfl (fun h29 => (by omega)) (fun h29 => ?_)
      refine g3 hC rfl rfl ?_
      refine g19 hC rfl sh142 (flt12 rfl) ft12_42 ((hS.fix hw hF).g fx_142_42) ?_
      refine g3 hC rfl rfl ?_
      refine g0 hC rfl ?_
      refine r22 (k) hC rfl rfl sh176 (by omega) rfl ?_
      refine n1 hC rfl rfl ⟨by omega, by omega⟩ ?_
      refine g14 hC rfl ?_
      refine hnext _ _ ⟨rfl, h1'.up rfl, fun j hj => ?_, fun j hj => ?_⟩
      · by_cases z : j = k
        · rw [z, ax_up_at]
        · rw [ax_up_of z]; exact h2 j (by omega)
      · rw [ax_up_of (by omega)]; exact h3 j hj
  have hS : Sb XHQ M M := Sb.refl
  refine g3 hC rfl rfl ?_
  refine g3 hC rfl rfl ?_
  refine g19 hC rfl sh142 (flt12 rfl) ft12_1 h1 ?_
  refine g20s hC rfl sh142 (flt12 rfl) (by rw [fy12_3]; rfl) hS rfl (fun hS => ?_)
  refine g3 hC rfl rfl ?_
  refine g0 hC rfl ?_
  refine g20s hC rfl sh142 (flt12 rfl) (by rw [fy12_1]; rfl) hS rfl (fun hS => ?_)
  refine g3 hC rfl rfl ?_
  refine g0 hC rfl ?_
  refine g20s hC rfl sh142 (flt12 rfl) (by rw [fy12_2]; rfl) hS rfl (fun hS => ?_)
  refine g3 hC rfl rfl ?_
  refine g0 hC rfl ?_
  refine g20s hC rfl sh142 (flt12 rfl) (by rw [fy12_4]; rfl) hS rfl (fun hS => ?_)
  refine g3 hC rfl rfl ?_
  refine g0 hC rfl ?_
  refine g20s hC rfl sh142 (flt12 rfl) (by rw [fy12_5]; rfl) hS rfl (fun hS => ?_)
  refine g3 hC rfl rfl ?_
  refine g0 hC rfl ?_
  refine g20s hC rfl sh142 (flt12 rfl) (by rw [fy12_6]; rfl) hS rfl (fun hS => ?_)
  refine g3 hC rfl rfl ?_
  refine g0 hC rfl ?_
  refine g20s hC rfl sh142 (flt12 rfl) (by rw [fy12_52]; rfl) hS rfl (fun hS => ?_)
  refine g3 hC rfl rfl ?_
  refine g0 hC rfl ?_
  refine g20s hC rfl sh142 (flt12 rfl) (by rw [fy12_51]; rfl) hS rfl (fun hS => ?_)
  refine g0 hC rfl ?_
  refine s1 hC rfl rfl rfl ?_
  rw [← hM0]
  exact t27 4 0 rfl _ _ ⟨rfl, Sb.refl, fun j hj => absurd hj (Nat.not_lt_zero j), fun j _ => a0 176 j (by decide)⟩
end RHU
