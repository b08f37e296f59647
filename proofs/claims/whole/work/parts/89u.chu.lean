def WHst (h : Nat) : ax_W := ([(8, 9), (h + 1, h + 12), (h + 13, h + 14), (h + 16, h + 17), (46, 49)], [(1, 2), (1, 3), (1, 4), (1, 5), (1, 6), (1, 7), (1, 8), (1, 9), (6, 1), (6, 2), (6, 3), (h, 0), (h, 1), (h, 2), (h, 3), (h, 17), (h, 18), (h, 19), (h + 12, 1), (h + 15, 1), (1, 1), (0, 3), (0, 4), (45, 0), (49, 2), (122, 0)])
section CHU
variable {L : Nat} {X : Nat → Int} {M : ax_M} {h n : Nat} {T : Nat → Int}
def HFl (h : Nat) (T : Nat → Int) (n : Nat) (M : ax_M) (x : Int) (M' : ax_M) : Prop := ∃ f p M1, houF T n 80 0 (qz T n) hs0 = .inl (f, p) ∧ x = -1 ∧ Sb (WHo h) M M1 ∧ CF f p M1 ∧ M' = ax_up (ax_up M1 1 1 0) 140 1 (M 140 1 + 1)
def HSt (h : Nat) (T : Nat → Int) (n : Nat) (M : ax_M) (x : Int) (M' : ax_M) : Prop := ∃ (c : Nat) (s : HS), houF T n 80 0 (qz T n) hs0 = .inr (c, s) ∧ x = (c : Int) ∧ Sb (WHst h) M M' ∧ CHo h s M' ∧ CF 0 (-1) M' ∧ M' 1 1 = 0 ∧ (M' 0 3 = (h : Int) ∧ M' 0 4 = ((36 - h : Nat) : Int)) ∧ (M' 45 0 = 0 ∧ (∀ q, q < 5 → M' 46 q = if q < s.2.2.1.1 then (s.2.2.1.2 q).2 else 0) ∧ (∀ k, k < 10 → M' 47 k = 0) ∧ ∀ k, k < 28 → M' 48 k = 0) ∧ M' 49 2 = 0 ∧ M' 122 0 = 0
theorem m102 (hF : Fix M) (hh : h = 9 ∨ h = 27) (h3 : M 0 3 = ((36 - h : Nat) : Int)) (h4 : M 0 4 = (h : Int)) (hn : n ≤ 1600) (h1 : M 1 1 = (n : Int)) (hT : ∀ i, i < 1600 → M 2 i = T i) (hb : 0 ≤ M 140 1 ∧ M 140 1 ≤ 1000000) : ax_Ev L X SH 39 102 [(2, 0)] M (R1 0 (fun x M' => HFl h T n M x M' ∨ HSt h T n M x M')) := by
  show ax_G L X SH 39 102 0 [(2, 0), (3, 0), (3, 0)] [] M _
  have hC := at102
  have hw := wHo hh
  have hws : wok (WHst h) = true := by rcases hh with rfl | rfl <;> decide +kernel
  have hle : wle (WHo h) (WHst h) = true := by rcases hh with rfl | rfl <;> rfl
  refine g3 hC rfl rfl ?_
  refine g19 hC rfl rfl (Nat.le_of_ble_eq_true rfl) rfl (hF.f (a := 0) (k := 2) (v := 7) rfl) ?_
  refine g3 hC rfl rfl ?_
  refine g19 hC rfl rfl (Nat.le_of_ble_eq_true rfl) rfl h4 ?_
  refine c1 hC rfl rfl rfl (Nat.le_of_ble_eq_true rfl) (Nat.le_of_ble_eq_true rfl) rfl (m41 hF hh hn h1 hT) (Nat.le_of_ble_eq_true rfl) (fun x M1 hr => ?_)
  obtain ⟨hS, hr⟩ := hr
  have hF1 := hS.fix hw hF
  refine s1 hC rfl rfl rfl ?_
  refine g3 hC rfl rfl ?_
  refine g19 hC rfl rfl (Nat.le_of_ble_eq_true rfl) rfl (hF1.f (a := 0) (k := 0) (v := 1) rfl) ?_
  refine g0 hC rfl ?_
  refine g20 hC rfl rfl (Nat.le_of_ble_eq_true rfl) rfl ?_
  refine g3 hC rfl rfl ?_
  refine g0 hC rfl ?_
  rcases hr with ⟨f, p, e, rfl, hc⟩ | ⟨c, s, e, rfl, hc, hH⟩
  · refine g13n hC rfl (fun z => absurd rfl z) (fun _ => ?_)
    have e140 : ax_up M1 1 1 0 140 1 = M 140 1 := (ax_up2n (by decide)).trans (hS 140 1 (by rcases hh with rfl | rfl <;> rfl))
    have hFu : Fix (ax_up M1 1 1 0) := (((hS.mono hle).up (by rcases hh with rfl | rfl <;> rfl) : Sb (WHst h) M (ax_up M1 1 1 0))).fix hws hF
    refine g3 hC rfl rfl ?_
    refine g0 hC rfl ?_
    refine c1 hC rfl rfl rfl (Nat.le_of_ble_eq_true rfl) (Nat.le_of_ble_eq_true rfl) rfl (m138 hFu (k := 1) (by decide) (by rw [e140]; exact hb)) (Nat.le_of_ble_eq_true rfl) (fun y M2 hr => ?_)
    obtain ⟨rfl, hr⟩ := hr
    refine ret1 hC rfl rfl (Or.inl ⟨f, p, M1, e, rfl, hS, hc, ?_⟩)
    rw [hr, e140]
  · refine g13n hC rfl (fun _ => ?_) (fun z => by omega)
    obtain ⟨Ma, hMa⟩ : ∃ Ma, Ma = ax_up (ax_up (ax_up M1 1 1 0) 0 4 ((36 - h : Nat) : Int)) 0 3 (h : Int) := ⟨_, rfl⟩
    have hSa : Sb (WHst h) M Ma := by rw [hMa]; exact (((hS.mono hle).up (by rcases hh with rfl | rfl <;> rfl)).up (by rcases hh with rfl | rfl <;> rfl)).up (by rcases hh with rfl | rfl <;> rfl)
    have hFa := hSa.fix hws hF
    have m3 : M1 0 3 = ((36 - h : Nat) : Int) := (hS 0 3 (by rcases hh with rfl | rfl <;> rfl)).trans h3
    have m4 : M1 0 4 = (h : Int) := (hS 0 4 (by rcases hh with rfl | rfl <;> rfl)).trans h4
    have ai : ∀ a k, a ≠ 0 → a ≠ 1 → Ma a k = M1 a k := fun a k z1 z2 => by rw [hMa, ax_up2n z1, ax_up2n z1, ax_up2n z2]
    have hHa : CHo h s Ma := hH.sb (W := ([], [(1, 1), (0, 4), (0, 3)])) (by rw [hMa]; exact ((Sb.refl.up rfl).up rfl).up rfl) (hokB (by decide +kernel) hh)
    refine g3 hC rfl rfl ?_
    refine g19 hC rfl rfl (Nat.le_of_ble_eq_true rfl) rfl ((ax_up2n (by decide)).trans m4) ?_
    refine s2 hC rfl rfl rfl ?_
    refine g3 hC rfl rfl ?_
    refine g3 hC rfl rfl ?_
    refine g19 hC rfl rfl (Nat.le_of_ble_eq_true rfl) rfl ((ax_up2n (by decide)).trans m3) ?_
    refine g20 hC rfl rfl (Nat.le_of_ble_eq_true rfl) rfl ?_
    refine g3 hC rfl rfl ?_
    refine g3 hC rfl rfl ?_
    refine g20 hC rfl rfl (Nat.le_of_ble_eq_true rfl) rfl ?_
    rw [← hMa]
    refine g3 hC rfl rfl ?_
    refine g19 hC rfl rfl (Nat.le_of_ble_eq_true rfl) rfl (hFa.f (a := 0) (k := 5) (v := 45) rfl) ?_
    refine g3 hC rfl rfl ?_
    refine g19 hC rfl rfl (Nat.le_of_ble_eq_true rfl) rfl (show Ma 0 3 = (h : Int) by rw [hMa, ax_up_at]) ?_
    refine c0 hC rfl rfl rfl (Nat.le_of_ble_eq_true rfl) (Nat.le_of_ble_eq_true rfl) rfl (m65 hFa hh hHa.1.1.2.2.1.1 hHa.1.1.2.2.1.2) (Nat.le_of_ble_eq_true rfl) (fun Mb hr => ?_)
    obtain ⟨b0, ⟨b1, b2⟩, b3, b4⟩ := hr
    have hSb : Sb (WHst h) M Mb := hSa.then b0 (by rcases hh with rfl | rfl <;> rfl)
    have hFb := hSb.fix hws hF
    have hHb : CHo h s Mb := hHa.sb b0 (hokB (by decide +kernel) hh)
    refine g3 hC rfl rfl ?_
    refine g19 hC rfl rfl (Nat.le_of_ble_eq_true rfl) rfl (hFb.f (a := 0) (k := 6) (v := 49) rfl) ?_
    refine g0 hC rfl ?_
    refine g20 hC rfl rfl (Nat.le_of_ble_eq_true rfl) rfl ?_
    refine g3 hC rfl rfl ?_
    refine g19 hC rfl rfl (Nat.le_of_ble_eq_true rfl) rfl ((ax_up2n (by decide)).trans (hFb.f (a := 0) (k := 10) (v := 122) rfl)) ?_
    refine g0 hC rfl ?_
    refine g20 hC rfl rfl (Nat.le_of_ble_eq_true rfl) rfl ?_
    refine g3 hC rfl rfl ?_
    have bi : ∀ a k, a ≠ 49 → a ≠ 122 → ax_up (ax_up Mb 49 2 0) 122 0 0 a k = Mb a k := fun a k z1 z2 => by rw [ax_up2n z2, ax_up2n z1]
    refine ret1 hC rfl rfl (Or.inr ⟨c, s, e, rfl, (hSb.up (by rcases hh with rfl | rfl <;> rfl)).up (by rcases hh with rfl | rfl <;> rfl), hHb.sb (W := ([], [(49, 2), (122, 0)])) ((Sb.refl.up rfl).up rfl) (hokB (by decide +kernel) hh), ⟨?_, ?_⟩, ?_, ⟨?_, ?_⟩, ⟨?_, fun q hq => ?_, fun k hk => ?_, fun k hk => ?_⟩, ?_, ?_⟩)
    · rw [bi 1 8 (by decide) (by decide), b0 1 8 rfl, hMa, ax_up2n (by decide), ax_up2n (by decide), ax_up_of (by decide)]; exact hc.1
    · rw [bi 1 9 (by decide) (by decide), b0 1 9 rfl, hMa, ax_up2n (by decide), ax_up2n (by decide), ax_up_of (by decide)]; exact hc.2
    · rw [bi 1 1 (by decide) (by decide), b0 1 1 rfl, hMa, ax_up2n (by decide), ax_up2n (by decide), ax_up_at]
    · rw [bi 0 3 (by decide) (by decide), b0 0 3 rfl, hMa, ax_up_at]
    · rw [bi 0 4 (by decide) (by decide), b0 0 4 rfl, hMa, ax_up_of (by decide), ax_up_at]
    · rw [bi 45 0 (by decide) (by decide)]; exact b1
    · rw [bi 46 q (by decide) (by decide), b2 q hq]
      by_cases z : q < s.2.2.1.1
      · rw [if_pos z, if_pos z]; exact hHa.2.2.1 q z
      · rw [if_neg z, if_neg z]
    · rw [bi 47 k (by decide) (by decide)]; exact b3 k hk
    · rw [bi 48 k (by decide) (by decide)]; exact b4 k hk
    · rw [ax_up2n (by decide), ax_up_at]
    · rw [ax_up_at]
end CHU
