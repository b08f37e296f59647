section RST
variable {L : Nat} {X : Nat → Int} {M M1 : ax_M} {n l : Nat} {s : HS} {T : Nat → Int} {q : PS}
def wkS (v : Vc (Nat × Nat × Int)) (a b k : Nat) : Bool := a == b || (List.range k).any (fun k => ((v.2 k).1 == a && (v.2 k).2.1 == b) || ((v.2 k).1 == b && (v.2 k).2.1 == a))
theorem wkS_s {v : Vc (Nat × Nat × Int)} {a b k : Nat} : wkS v a b (k + 1) = true ↔ wkS v a b k = true ∨ ((v.2 k).1 = a ∧ (v.2 k).2.1 = b) ∨ ((v.2 k).1 = b ∧ (v.2 k).2.1 = a) := by
  unfold wkS
  rw [List.range_succ, List.any_append, Bool.or_eq_true, Bool.or_eq_true, Bool.or_eq_true]
  simp only [List.any_cons, List.any_nil, Bool.or_false, Bool.or_eq_true, Bool.and_eq_true, beq_iff_eq]
  exact ⟨fun h => by rcases h with h | h | h; exact Or.inl (Or.inl h); exact Or.inl (Or.inr h); exact Or.inr h, fun h => by rcases h with (h | h) | h; exact Or.inl h; exact Or.inr (Or.inl h); exact Or.inr (Or.inr h)⟩
theorem m175 (hF : Fix M) (hn : n ≤ 1600) (hR : RHo s M) (hWf : WfH l s) (hWd : Wd M) (hq : RT T n q M) (hqn : q.1 ≤ n) {pp : Int} : ax_Ev L X SH 5 175 [(2, 142), (0, pp)] M (R0 (RPo T n (stairF T n s pp q) M)) := by
  show ax_G L X SH 5 175 0 [(2, 142), (0, pp), (3, 0), (3, 0), (3, 0), (3, 0), (3, 0)] [] M _
  obtain ⟨P, hP⟩ : ∃ P, P = RPo T n (stairF T n s pp q) M := ⟨_, rfl⟩
  rw [← hP]
  have hC := at175
  have hw := wXHO
  have h5 := hq.2.2.2.2.1
  obtain ⟨c, hc⟩ : ∃ c, c = s.2.1.1 := ⟨_, rfl⟩
  have hb0 := hWf.1.2.1
  have hb8 := hWf.1.1
  rw [← hc] at hb0
  have fl : ∀ f p M', f ≠ 0 → BF f p M' → KX M M' → stairF T n s pp q = .inl (f, p) → P M' := fun f p M' a b c d => by rw [hP]; exact ⟨c, Or.inl ⟨f, p, a, b, d⟩⟩
  have b97 : ∀ (M1 : ax_M) (v2 v3 v4 v5 v6 : ax_V), P M1 → ¬ M1 142 5 = 0 → ax_G L X SH 5 175 97 [(2, 142), (0, pp), v2, v3, v4, v5, v6] [] M1 (R0 P) := by
    intro M1 v2 v3 v4 v5 v6 hp hb
    have hS : Sb XHO M1 M1 := Sb.refl
    refine g3 hC rfl rfl ?_
    refine g19 hC rfl sh142 (flt12 rfl) ft12_5 (Eq.refl (M1 142 5)) ?_
    refine g12e hC rfl (fun h99 => (by omega)) (fun h99 => ?_)
    refine ret0 hC rfl ?_
    exact hp
  have b92 : ∀ (M1 : ax_M) (a b v5 : Int) (v4 : Int) (v6 : ax_V), P M1 → ¬ M1 142 5 = 0 → ax_G L X SH 5 175 92 [(2, 142), (0, pp), (0, a), (0, b), (0, v4), (0, v5), v6] [] M1 (R0 P) := by
    intro M1 a b v5 v4 v6 hp hb
    have hS : Sb XHO M1 M1 := Sb.refl
    refine g3 hC rfl rfl ?_
    refine g0 hC rfl ?_
    refine g0 hC rfl ?_
    refine c1 hC rfl rfl rfl (Nat.le_of_ble_eq_true rfl) (Nat.le_of_ble_eq_true rfl) (mayR k165 rfl) (m165b hb) (Nat.le_of_ble_eq_true rfl) (fun y M2 hr => ?_)
    obtain ⟨rfl, hr⟩ := hr; replace hr := hr.symm; subst hr
    refine s5 hC rfl rfl rfl ?_
    exact b97 M1 _ _ _ _ _ hp hb
  have b88 : ∀ (M1 : ax_M) (a b v5 : Int) (v4 : Int) (v6 : ax_V), KX M M1 → P M1 → ¬ M1 142 5 = 0 → ax_G L X SH 5 175 88 [(2, 142), (0, pp), (0, a), (0, b), (0, v4), (0, v5), v6] [] M1 (R0 P) := by
    intro M1 a b v5 v4 v6 hk hp hb
    have hS := hk.1
    refine g3 hC rfl rfl ?_
    refine g3 hC rfl rfl ?_
    refine g19 hC rfl sh142 (flt12 rfl) ft12_13 ((hS.fix hw hF).g fx_142_13) ?_
    refine c0 hC rfl rfl rfl (Nat.le_of_ble_eq_true rfl) (Nat.le_of_ble_eq_true rfl) (mayR k162 rfl) (m162b hb) (Nat.le_of_ble_eq_true rfl) (fun M2 hr => ?_)
    subst hr; exact b92 _ _ _ _ _ _ hp hb
  have b78 : ∀ (M1 : ax_M) (a b v5 : Int) (v4 : Int) (v6 : ax_V), KX M M1 → P M1 → ¬ M1 142 5 = 0 → ax_G L X SH 5 175 78 [(2, 142), (0, pp), (0, a), (0, b), (0, v4), (0, v5), v6] [] M1 (R0 P) := by
    intro M1 a b v5 v4 v6 hk hp hb
    have hS := hk.1
    refine g3 hC rfl rfl ?_
    refine g19 hC rfl sh142 (flt12 rfl) ft12_5 (Eq.refl (M1 142 5)) ?_
    refine g12n hC rfl (fun h80 => ?_) (fun h80 => (by omega))
    exact b88 _ _ _ _ _ _ hk hp hb
  have l28 : ∀ (Mx : ax_M) (a b : Nat), KX M Mx → RHo s Mx → (∀ v : Int, v = (if (a == b || hasS s.2.1 a b) = true then 1 else 0) → ax_G L X SH 5 175 78 [(2, 142), (0, pp), (0, (a : Int)), (0, (b : Int)), (0, v), (0, (c : Int)), (3, 0)] [] Mx (R0 P)) → ∀ (m k : Nat), k + m = c → ∀ ll M2, (∃ v : Int, ll = [(2, 142), (0, pp), (0, (a : Int)), (0, (b : Int)), (0, v), (0, (k : Int)), (3, 0)] ∧ v = (if wkS s.2.1 a b k = true then 1 else 0) ∧ M2 = Mx) → ax_G L X SH 5 175 28 ll [] M2 (R0 P) := by
    intro Mx a b hk hRx kont
    have hS := hk.1
    have h3 : Mx 176 3 = (c : Int) := by rw [hc]; exact hRx.1.2.2.2
    refine lp ?_ ?_
    · rintro ll M2 ⟨v, rfl, hv, rfl⟩
      refine g3 hC rfl rfl ?_
      refine g3 hC rfl rfl ?_
      refine g19 hC rfl sh142 (flt12 rfl) ft12_42 ((hS.fix hw hF).g fx_142_42) ?_
      refine g0 hC rfl ?_
      refine r21 (3) hC rfl rfl sh176 (Or.inl rfl) (by decide) h3 ?_
      refine g13g hC rfl (fun h33 => ?_) (fun h33 => (by omega))
      refine kont v ?_
      rw [hv, hc]; rfl
    · rintro k hkc ll M2 ⟨v, rfl, hv, rfl⟩ hnext
      obtain ⟨t0, t1, -⟩ := hRx.2.2.1 k (by omega)
      have w1 : (wkS s.2.1 a b k = true ∨ ((s.2.1.2 k).1 = a ∧ (s.2.1.2 k).2.1 = b) ∨ ((s.2.1.2 k).1 = b ∧ (s.2.1.2 k).2.1 = a)) → (1 : Int) = (if wkS s.2.1 a b (k + 1) = true then 1 else 0) := fun z => by rw [if_pos (wkS_s.2 z)]
      have w0 : ¬ wkS s.2.1 a b k = true → ¬ (((s.2.1.2 k).1 = a ∧ (s.2.1.2 k).2.1 = b) ∨ ((s.2.1.2 k).1 = b ∧ (s.2.1.2 k).2.1 = a)) → (0 : Int) = (if wkS s.2.1 a b (k + 1) = true then 1 else 0) := fun z y => by
        rw [if_neg]
        intro x
        rcases wkS_s.1 x with x | x
        · exact z x
        · exact y x
      by_cases z : wkS s.2.1 a b k = true
      · rw [if_pos z] at hv
        refine g3 hC rfl rfl ?_
        refine g3 hC rfl rfl ?_
        refine g19 hC rfl sh142 (flt12 rfl) ft12_42 ((hS.fix hw hF).g fx_142_42) ?_
        refine g0 hC rfl ?_
        refine r21 (3) hC rfl rfl sh176 (Or.inl rfl) (by decide) h3 ?_
        refine g13g hC rfl (fun h33 => (by omega)) (fun h33 => ?_)
        refine g3 hC rfl rfl ?_
        refine g12n hC rfl (fun h35 => ?_) (fun h35 => (by omega))
        refine g0 hC rfl ?_
        refine g14 hC rfl ?_
        refine s4 hC rfl rfl rfl ?_
        refine n5 hC rfl rfl ⟨by omega, by omega⟩ ?_
        refine g14 hC rfl ?_
        exact hnext _ _ ⟨_, rfl, w1 (Or.inl z), rfl⟩
      · rw [if_neg z] at hv
        obtain ⟨sa0, hsa⟩ : ∃ sa0, sa0 = (s.2.1.2 k).1 := ⟨_, rfl⟩
        obtain ⟨sb0, hsb⟩ : ∃ sb0, sb0 = (s.2.1.2 k).2.1 := ⟨_, rfl⟩
        rw [← hsa] at t0 w1 w0
        rw [← hsb] at t1 w1 w0
        refine g3 hC rfl rfl ?_
        refine g3 hC rfl rfl ?_
        refine g19 hC rfl sh142 (flt12 rfl) ft12_42 ((hS.fix hw hF).g fx_142_42) ?_
        refine g0 hC rfl ?_
        refine r21 (3) hC rfl rfl sh176 (Or.inl rfl) (by decide) h3 ?_
        refine g13g hC rfl (fun h33 => (by omega)) (fun h33 => ?_)
        refine g3 hC rfl rfl ?_
        refine g12n hC rfl (fun h35 => (by omega)) (fun h35 => ?_)
        refine g3 hC rfl rfl ?_
        refine g19 hC rfl sh142 (flt12 rfl) ft12_44 ((hS.fix hw hF).g fx_142_44) ?_
        refine g0 hC rfl ?_
        refine g3 hC rfl rfl ?_
        refine g6m hC rfl ⟨by omega, by omega⟩ ?_
        refine r21 (3 * k) hC rfl (by omega) sh178 (Or.inl rfl) (by omega) t0 ?_
        refine g3 hC rfl rfl ?_
        refine g13n hC rfl (fun h43 => ?_) (fun h43 => ?_)
        ·
          refine g3 hC rfl rfl ?_
          refine g19 hC rfl sh142 (flt12 rfl) ft12_44 ((hS.fix hw hF).g fx_142_44) ?_
          refine g0 hC rfl ?_
          refine g3 hC rfl rfl ?_
          refine g6m hC rfl ⟨by omega, by omega⟩ ?_
          refine r21 (3 * k) hC rfl (by omega) sh178 (Or.inl rfl) (by omega) t0 ?_
          refine g3 hC rfl rfl ?_
          refine g13n hC rfl (fun h61 => ?_) (fun h61 => ?_)
          ·
            refine g0 hC rfl ?_
            refine s4 hC rfl rfl rfl ?_
            refine n5 hC rfl rfl ⟨by omega, by omega⟩ ?_
            refine g14 hC rfl ?_
            first | exact hnext _ _ ⟨_, rfl, w0 z (by omega), rfl⟩ | exact hnext _ _ ⟨_, rfl, w1 (Or.inr (by omega)), rfl⟩
          ·
            refine g3 hC rfl rfl ?_
            refine g19 hC rfl sh142 (flt12 rfl) ft12_44 ((hS.fix hw hF).g fx_142_44) ?_
            refine g0 hC rfl ?_
            refine g3 hC rfl rfl ?_
            refine g6m hC rfl ⟨by omega, by omega⟩ ?_
            refine g0 hC rfl ?_
            refine g6a hC rfl ⟨by omega, by omega⟩ ?_
            refine r21 (3 * k + 1) hC rfl (by omega) sh178 (Or.inl rfl) (by omega) t1 ?_
            refine g3 hC rfl rfl ?_
            refine g13n hC rfl (fun h71 => ?_) (fun h71 => ?_)
            ·
              refine g0 hC rfl ?_
              refine s4 hC rfl rfl rfl ?_
              refine n5 hC rfl rfl ⟨by omega, by omega⟩ ?_
              refine g14 hC rfl ?_
              first | exact hnext _ _ ⟨_, rfl, w0 z (by omega), rfl⟩ | exact hnext _ _ ⟨_, rfl, w1 (Or.inr (by omega)), rfl⟩
            ·
              refine g0 hC rfl ?_
              refine g14 hC rfl ?_
              refine s4 hC rfl rfl rfl ?_
              refine n5 hC rfl rfl ⟨by omega, by omega⟩ ?_
              refine g14 hC rfl ?_
              first | exact hnext _ _ ⟨_, rfl, w0 z (by omega), rfl⟩ | exact hnext _ _ ⟨_, rfl, w1 (Or.inr (by omega)), rfl⟩
        ·
          refine g3 hC rfl rfl ?_
          refine g19 hC rfl sh142 (flt12 rfl) ft12_44 ((hS.fix hw hF).g fx_142_44) ?_
          refine g0 hC rfl ?_
          refine g3 hC rfl rfl ?_
          refine g6m hC rfl ⟨by omega, by omega⟩ ?_
          refine g0 hC rfl ?_
          refine g6a hC rfl ⟨by omega, by omega⟩ ?_
          refine r21 (3 * k + 1) hC rfl (by omega) sh178 (Or.inl rfl) (by omega) t1 ?_
          refine g3 hC rfl rfl ?_
          refine g13e hC rfl (fun h53 => ?_) (fun h53 => ?_)
          ·
            refine g0 hC rfl ?_
            refine g14 hC rfl ?_
            refine s4 hC rfl rfl rfl ?_
            refine n5 hC rfl rfl ⟨by omega, by omega⟩ ?_
            refine g14 hC rfl ?_
            first | exact hnext _ _ ⟨_, rfl, w0 z (by omega), rfl⟩ | exact hnext _ _ ⟨_, rfl, w1 (Or.inr (by omega)), rfl⟩
          ·
            refine g3 hC rfl rfl ?_
            refine g19 hC rfl sh142 (flt12 rfl) ft12_44 ((hS.fix hw hF).g fx_142_44) ?_
            refine g0 hC rfl ?_
            refine g3 hC rfl rfl ?_
            refine g6m hC rfl ⟨by omega, by omega⟩ ?_
            refine r21 (3 * k) hC rfl (by omega) sh178 (Or.inl rfl) (by omega) t0 ?_
            refine g3 hC rfl rfl ?_
            refine g13n hC rfl (fun h61 => ?_) (fun h61 => ?_)
            ·
              refine g0 hC rfl ?_
              refine s4 hC rfl rfl rfl ?_
              refine n5 hC rfl rfl ⟨by omega, by omega⟩ ?_
              refine g14 hC rfl ?_
              first | exact hnext _ _ ⟨_, rfl, w0 z (by omega), rfl⟩ | exact hnext _ _ ⟨_, rfl, w1 (Or.inr (by omega)), rfl⟩
            ·
              refine g3 hC rfl rfl ?_
              refine g19 hC rfl sh142 (flt12 rfl) ft12_44 ((hS.fix hw hF).g fx_142_44) ?_
              refine g0 hC rfl ?_
              refine g3 hC rfl rfl ?_
              refine g6m hC rfl ⟨by omega, by omega⟩ ?_
              refine g0 hC rfl ?_
              refine g6a hC rfl ⟨by omega, by omega⟩ ?_
              refine r21 (3 * k + 1) hC rfl (by omega) sh178 (Or.inl rfl) (by omega) t1 ?_
              refine g3 hC rfl rfl ?_
              refine g13n hC rfl (fun h71 => ?_) (fun h71 => ?_)
              ·
                refine g0 hC rfl ?_
                refine s4 hC rfl rfl rfl ?_
                refine n5 hC rfl rfl ⟨by omega, by omega⟩ ?_
                refine g14 hC rfl ?_
                first | exact hnext _ _ ⟨_, rfl, w0 z (by omega), rfl⟩ | exact hnext _ _ ⟨_, rfl, w1 (Or.inr (by omega)), rfl⟩
              ·
                refine g0 hC rfl ?_
                refine g14 hC rfl ?_
                refine s4 hC rfl rfl rfl ?_
                refine n5 hC rfl rfl ⟨by omega, by omega⟩ ?_
                refine g14 hC rfl ?_
                first | exact hnext _ _ ⟨_, rfl, w0 z (by omega), rfl⟩ | exact hnext _ _ ⟨_, rfl, w1 (Or.inr (by omega)), rfl⟩
  have t19 : ∀ (Mx : ax_M) (a b : Nat), KX M Mx → RHo s Mx → (∀ v : Int, v = (if (a == b || hasS s.2.1 a b) = true then 1 else 0) → ax_G L X SH 5 175 78 [(2, 142), (0, pp), (0, (a : Int)), (0, (b : Int)), (0, v), (0, (c : Int)), (3, 0)] [] Mx (R0 P)) → ax_G L X SH 5 175 19 [(2, 142), (0, pp), (0, (a : Int)), (0, (b : Int)), (3, 0), (3, 0), (3, 0)] [] Mx (R0 P) := by
    intro Mx a b hk hRx kont
    have hS := hk.1
    have e1 : wkS s.2.1 a b 0 = true ↔ a = b := by unfold wkS; rw [List.range_zero, List.any_nil, Bool.or_false, beq_iff_eq]
    refine g3 hC rfl rfl ?_
    refine g3 hC rfl rfl ?_
    refine g13n hC rfl (fun h21 => ?_) (fun h21 => ?_)
    ·
      refine g0 hC rfl ?_
      refine s4 hC rfl rfl rfl ?_
      refine g0 hC rfl ?_
      refine s5 hC rfl rfl rfl ?_
      exact l28 Mx a b hk hRx kont c 0 (Nat.zero_add _) _ _ ⟨_, rfl, by rw [if_neg (fun y => by have := e1.1 y; omega)], rfl⟩
    ·
      refine g0 hC rfl ?_
      refine g14 hC rfl ?_
      refine s4 hC rfl rfl rfl ?_
      refine g0 hC rfl ?_
      refine s5 hC rfl rfl rfl ?_
      exact l28 Mx a b hk hRx kont c 0 (Nat.zero_add _) _ _ ⟨_, rfl, by rw [if_pos (e1.2 (by omega))], rfl⟩
  have b15 : ∀ (M1 : ax_M) (a : Nat), KX M M1 → RHo s M1 → P M1 → ¬ M1 142 5 = 0 → ax_G L X SH 5 175 15 [(2, 142), (0, pp), (0, (a : Int)), (3, 0), (3, 0), (3, 0), (3, 0)] [] M1 (R0 P) := by
    intro M1 a hk hR1 hp hb
    have hS := hk.1
    refine g3 hC rfl rfl ?_
    refine g0 hC rfl ?_
    refine c1 hC rfl rfl rfl (Nat.le_of_ble_eq_true rfl) (Nat.le_of_ble_eq_true rfl) (mayR k172 rfl) (m172b (hS.fix hw hF) hb (t := 0) (by decide) hR1.1.1 hb8) (Nat.le_of_ble_eq_true rfl) (fun y M2 hr => ?_)
    obtain ⟨rfl, hr⟩ := hr; replace hr := hr.symm; subst hr
    refine s3 hC rfl rfl rfl ?_
    exact t19 M1 a 0 hk hR1 (fun v _ => b78 M1 _ _ _ _ _ hk hp hb)
  have b11 : ∀ (M1 : ax_M) (a : Nat), KX M M1 → RHo s M1 → P M1 → ¬ M1 142 5 = 0 → ax_G L X SH 5 175 11 [(2, 142), (0, pp), (0, (a : Int)), (3, 0), (3, 0), (3, 0), (3, 0)] [] M1 (R0 P) := by
    intro M1 a hk hR1 hp hb
    have hS := hk.1
    refine g3 hC rfl rfl ?_
    refine g3 hC rfl rfl ?_
    refine g19 hC rfl sh142 (flt12 rfl) ft12_12 ((hS.fix hw hF).g fx_142_12) ?_
    refine c0 hC rfl rfl rfl (Nat.le_of_ble_eq_true rfl) (Nat.le_of_ble_eq_true rfl) (mayR k162 rfl) (m162b hb) (Nat.le_of_ble_eq_true rfl) (fun M2 hr => ?_)
    subst hr; exact b15 _ a hk hR1 hp hb
  have t88 : ∀ (M5 : ax_M) (a b : Nat) (v : Int) (q3 : PS), KX M M5 → RHo s M5 → RT T n q3 M5 → q3.1 ≤ n → c < 10 → stairF T n s pp q = setN T n w_wide 1 4 q3 (fun x q4 => .inr (q4, (s.1, vadd s.2.1 (a, b, x), s.2.2))) → ax_G L X SH 5 175 88 [(2, 142), (0, pp), (0, (a : Int)), (0, (b : Int)), (0, v), (0, (c : Int)), (3, 0)] [] M5 (R0 P) := by
    intro M5 a b v q3 hk hR5 hrt hq3 hc10 eq
    have hS := hk.1
    have hF5 := hS.fix hw hF
    have v1 := (wq_nx (T := T) hq3).1
    have hW5 : Wd M5 := hWd.sb hS wdX
    refine g3 hC rfl rfl ?_
    refine g3 hC rfl rfl ?_
    refine g19 hC rfl sh142 (flt12 rfl) ft12_13 (hF5.g fx_142_13) ?_
    refine c0 hC rfl rfl rfl (Nat.le_of_ble_eq_true rfl) (Nat.le_of_ble_eq_true rfl) (mayR k162 rfl) (m162 hF5 hn hrt hq3 (w := w_wide) sh148 (wa148 hW5) (by decide)) (Nat.le_of_ble_eq_true rfl) (fun M6 hr => ?_)
    obtain ⟨hS6, hr⟩ := hr
    have hk6 := hk.ak hS6
    have hF6 := hk6.1.fix hw hF
    have hR6 := hR5.sb hS6 rAK rfl
    rcases hr with ⟨f, p, e, hf, hb⟩ | ⟨e, hrt6, -⟩
    · exact b92 M6 _ _ _ _ _ (fl f p _ hf hb hk6 (eq.trans (wrdN_n e))) (hb.bad hf)
    · refine g3 hC rfl rfl ?_
      refine g0 hC rfl ?_
      refine g0 hC rfl ?_
      refine c1 hC rfl rfl rfl (Nat.le_of_ble_eq_true rfl) (Nat.le_of_ble_eq_true rfl) (mayR k165 rfl) (m165 hF6 hn hrt6 v1) (Nat.le_of_ble_eq_true rfl) (fun x M7 hr => ?_)
      obtain ⟨hS7, hxb, hr⟩ := hr
      have hk7 := hk6.ak hS7
      have hF7 := hk7.1.fix hw hF
      have hR7 := hR6.sb hS7 rAK rfl
      refine s5 hC rfl rfl rfl ?_
      rcases hr with ⟨f, p, e2, hf, hb⟩ | ⟨e2, hrt7, hx⟩
      · exact b97 M7 _ _ _ _ _ (fl f p _ hf hb hk7 (eq.trans ((wrdN_y e).trans (numN_n e2)))) (hb.bad hf)
      · have h3 : M7 176 3 = (c : Int) := by rw [hc]; exact hR7.1.2.2.2
        have hS := hk7.1
        refine g3 hC rfl rfl ?_
        refine g19 hC rfl sh142 (flt12 rfl) ft12_5 hrt7.2.2.2.2.1 ?_
        refine g12e hC rfl (fun h99 => ?_) (fun h99 => (by omega))
        refine g0 hC rfl ?_
        refine g3 hC rfl rfl ?_
        refine g19 hC rfl sh142 (flt12 rfl) ft12_42 ((hS.fix hw hF).g fx_142_42) ?_
        refine g0 hC rfl ?_
        refine r21 (3) hC rfl rfl sh176 (Or.inl rfl) (by decide) h3 ?_
        refine g6m hC rfl ⟨by omega, by omega⟩ ?_
        refine s6 hC rfl rfl rfl ?_
        refine g3 hC rfl rfl ?_
        refine g19 hC rfl sh142 (flt12 rfl) ft12_44 ((hS.fix hw hF).g fx_142_44) ?_
        refine g3 hC rfl rfl ?_
        refine g3 hC rfl rfl ?_
        refine r22s ((3 * c)) hC rfl (by omega) sh178 (by omega) rfl hS rfl (fun hS => ?_)
        refine g3 hC rfl rfl ?_
        refine g19 hC rfl sh142 (flt12 rfl) ft12_44 ((hS.fix hw hF).g fx_142_44) ?_
        refine g3 hC rfl rfl ?_
        refine g0 hC rfl ?_
        refine g6a hC rfl ⟨by omega, by omega⟩ ?_
        refine g3 hC rfl rfl ?_
        refine r22s (((3 * c) + 1)) hC rfl (by omega) sh178 (by omega) rfl hS rfl (fun hS => ?_)
        refine g3 hC rfl rfl ?_
        refine g19 hC rfl sh142 (flt12 rfl) ft12_44 ((hS.fix hw hF).g fx_142_44) ?_
        refine g3 hC rfl rfl ?_
        refine g0 hC rfl ?_
        refine g6a hC rfl ⟨by omega, by omega⟩ ?_
        refine g3 hC rfl rfl ?_
        refine r22s (((3 * c) + 2)) hC rfl (by omega) sh178 (by omega) rfl hS rfl (fun hS => ?_)
        refine g3 hC rfl rfl ?_
        refine g19 hC rfl sh142 (flt12 rfl) ft12_42 ((hS.fix hw hF).g fx_142_42) ?_
        refine g0 hC rfl ?_
        refine g17 hC rfl (by decide) ?_
        refine r21 (3) hC rfl rfl sh176 (Or.inl rfl) (by decide) ((ax_up2n (by decide)).trans ((ax_up2n (by decide)).trans ((ax_up2n (by decide)).trans h3))) ?_
        refine g0 hC rfl ?_
        refine g6a hC rfl ⟨by omega, by omega⟩ ?_
        refine r22s (3) hC rfl rfl sh176 (by decide) rfl hS rfl (fun hS => ?_)
        refine ret0 hC rfl ?_
        rw [hP]
        obtain ⟨M', hM⟩ : ∃ M', M' = ax_up (ax_up (ax_up (ax_up M7 178 (3 * c) (a : Int)) 178 (3 * c + 1) (b : Int)) 178 (3 * c + 2) x) 176 3 ((c : Int) + 1) := ⟨_, rfl⟩
        rw [← hM]
        have e0 : ∀ d k, d ≠ 176 → d ≠ 178 → M' d k = M7 d k := fun d k z1 z2 => by rw [hM, ax_up2n z1, ax_up2n z2, ax_up2n z2, ax_up2n z2]
        have hl : hlf 178 = 30 := rfl
        refine ⟨by rw [hM]; exact (((hk7.up rfl (by omega)).up rfl (by omega)).up rfl (by omega)).up rfl (by decide), Or.inr ⟨nx T n (nx T n q3), (s.1, vadd s.2.1 (a, b, x), s.2.2), ?_, hrt7.cl (fun d k z1 z2 => e0 d k (by omega) (by omega)), ?_⟩⟩
        · rw [eq, hx]; exact (wrdN_y e).trans (numN_y e2)
        · refine hR7.stair (fun d k z1 z2 z3 => e0 d k (by omega) z3) (e0 142 51 (by decide) (by decide)) (fun k hk => ?_) ?_ (fun k hk => ?_) ?_ ?_ ?_
          · rw [hM, ax_up_of hk, ax_up2n (by decide), ax_up2n (by decide), ax_up2n (by decide)]
          · rw [hM, ax_up_at, hc]
          · rw [← hc] at hk; rw [hM, ax_up2n (by decide), ax_up_of (by omega), ax_up_of (by omega), ax_up_of (by omega)]
          · rw [hM, ← hc, ax_up2n (by decide), ax_up_of (by omega), ax_up_of (by omega), ax_up_at]
          · rw [hM, ← hc, ax_up2n (by decide), ax_up_of (by omega), ax_up_at]
          · rw [hM, ← hc, ax_up2n (by decide), ax_up_at]
  have t78 : ∀ (M4 : ax_M) (a b : Nat) (v : Int) (q2 : PS), v = (if (a == b || hasS s.2.1 a b) = true then 1 else 0) → KX M M4 → RHo s M4 → RT T n (nx T n q2) M4 → (nx T n q2).1 ≤ n → M4 142 41 = (q2.1 : Int) → c < 10 → stairF T n s pp q = (if (a == b || hasS s.2.1 a b) = true then .inl (3, (q2.1 : Int)) else setN T n w_wide 1 4 (nx T n q2) (fun x q4 => .inr (q4, (s.1, vadd s.2.1 (a, b, x), s.2.2)))) → ax_G L X SH 5 175 78 [(2, 142), (0, pp), (0, (a : Int)), (0, (b : Int)), (0, v), (0, (c : Int)), (3, 0)] [] M4 (R0 P) := by
    intro M4 a b v q2 hv hk hR4 hrt hq3 h41 hc10 eq
    have hS := hk.1
    have hb4 := hrt.2.2.2.2.1
    by_cases z : (a == b || hasS s.2.1 a b) = true
    · rw [if_pos z] at hv eq
      refine g3 hC rfl rfl ?_
      refine g19 hC rfl sh142 (flt12 rfl) ft12_5 hb4 ?_
      refine g12n hC rfl (fun h80 => (by omega)) (fun h80 => ?_)
      refine g3 hC rfl rfl ?_
      refine g12e hC rfl (fun h82 => (by omega)) (fun h82 => ?_)
      refine g3 hC rfl rfl ?_
      refine g0 hC rfl ?_
      refine g3 hC rfl rfl ?_
      refine g19 hC rfl sh142 (flt12 rfl) ft12_41 h41 ?_
      refine c0 hC rfl rfl rfl (Nat.le_of_ble_eq_true rfl) (Nat.le_of_ble_eq_true rfl) (mayR k156 rfl) (m156 hb4) (Nat.le_of_ble_eq_true rfl) (fun M5 hr => ?_)
      subst hr
      have hk5 : KX M (ax_up (ax_up M4 142 5 3) 142 6 (q2.1 : Int)) := (hk.up rfl (by decide)).up rfl (by decide)
      exact b88 _ _ _ _ _ _ hk5 (fl 3 _ _ (by decide) BF.up hk5 eq) (BF.up.bad (by decide))
    · rw [if_neg z] at hv eq
      refine g3 hC rfl rfl ?_
      refine g19 hC rfl sh142 (flt12 rfl) ft12_5 hb4 ?_
      refine g12n hC rfl (fun h80 => (by omega)) (fun h80 => ?_)
      refine g3 hC rfl rfl ?_
      refine g12e hC rfl (fun h82 => ?_) (fun h82 => (by omega))
      exact t88 M4 a b v _ hk hR4 hrt hq3 hc10 eq
  refine g3 hC rfl rfl ?_
  refine g0 hC rfl ?_
  refine g0 hC rfl ?_
  refine g3 hC rfl rfl ?_
  refine c1 hC rfl rfl rfl (Nat.le_of_ble_eq_true rfl) (Nat.le_of_ble_eq_true rfl) (mayR k169 rfl) (m169 hF h5 (t := 3) (mo := 10) (by decide) hR.1.2.2.2) (Nat.le_of_ble_eq_true rfl) (fun x M1 hr => ?_)
  rcases hr with ⟨z, rfl, rfl⟩ | ⟨z, rfl, rfl⟩
  · refine g12e hC rfl (fun y => absurd y (by decide)) (fun _ => ?_)
    refine ret0 hC rfl (fl 5 pp _ (by decide) BF.up ((KX.refl.up rfl (by decide)).up rfl (by decide)) ?_)
    unfold stairF; rw [if_pos z]
  · refine g12e hC rfl (fun _ => ?_) (fun y => absurd rfl y)
    have eF : stairF T n s pp q = oldN T n s.1.2 s.1.1 q (fun a q1 => wrdN T n w_to q1 (fun q2 => oldN T n s.1.2 s.1.1 q2 (fun b q3 => if (a == b || hasS s.2.1 a b) = true then .inl (3, (q2.1 : Int)) else setN T n w_wide 1 4 q3 (fun x q4 => .inr (q4, (s.1, vadd s.2.1 (a, b, x), s.2.2)))))) := by unfold stairF; rw [if_neg z]
    refine g3 hC rfl rfl ?_
    refine g0 hC rfl ?_
    refine c1 hC rfl rfl rfl (Nat.le_of_ble_eq_true rfl) (Nat.le_of_ble_eq_true rfl) (mayR k172 rfl) (m172 hF hn hWd hq hqn (t := 0) (f := s.1.2) (by decide) hR.1.1 hb8 hR.2.1.1 hWf.2.1) (Nat.le_of_ble_eq_true rfl) (fun x M2 hr => ?_)
    obtain ⟨hS2, hr⟩ := hr
    have hk2 := KX.refl.nm hS2
    have hF2 := hk2.1.fix hw hF
    have hR2 := hR.nm hS2
    refine s2 hC rfl rfl rfl ?_
    rcases hr with ⟨f, p, hf, rfl, hb, w⟩ | ⟨a, ha, rfl, hrt, h41, w⟩
    · exact b11 M2 0 hk2 hR2 (fl f p _ hf hb hk2 (eF.trans (w _))) (hb.bad hf)
    · have v1 := (wq_nx (T := T) hqn).1
      have v2 := (wq_nx (T := T) v1).1
      have v3 := (wq_nx (T := T) v2).1
      have hW2 : Wd M2 := hWd.sb hk2.1 wdX
      refine g3 hC rfl rfl ?_
      refine g3 hC rfl rfl ?_
      refine g19 hC rfl sh142 (flt12 rfl) ft12_12 (hF2.g fx_142_12) ?_
      refine c0 hC rfl rfl rfl (Nat.le_of_ble_eq_true rfl) (Nat.le_of_ble_eq_true rfl) (mayR k162 rfl) (m162 hF2 hn hrt v1 (w := w_to) sh147 (wa147 hW2) (by decide)) (Nat.le_of_ble_eq_true rfl) (fun M3 hr => ?_)
      obtain ⟨hS3, hr⟩ := hr
      have hk3 := hk2.ak hS3
      have hF3 := hk3.1.fix hw hF
      have hR3 := hR2.sb hS3 rAK rfl
      have hW3 : Wd M3 := hWd.sb hk3.1 wdX
      rcases hr with ⟨f, p, e, hf, hb⟩ | ⟨e, hrt3, -⟩
      · exact b15 M3 a hk3 hR3 (fl f p _ hf hb hk3 (by rw [eF, w]; exact wrdN_n e)) (hb.bad hf)
      · refine g3 hC rfl rfl ?_
        refine g0 hC rfl ?_
        refine c1 hC rfl rfl rfl (Nat.le_of_ble_eq_true rfl) (Nat.le_of_ble_eq_true rfl) (mayR k172 rfl) (m172 hF3 hn hW3 hrt3 v2 (t := 0) (f := s.1.2) (by decide) hR3.1.1 hb8 hR3.2.1.1 hWf.2.1) (Nat.le_of_ble_eq_true rfl) (fun x M4 hr => ?_)
        obtain ⟨hS4, hr⟩ := hr
        have hk4 := hk3.nm hS4
        have hR4 := hR3.nm hS4
        refine s3 hC rfl rfl rfl ?_
        rcases hr with ⟨f, p, hf, rfl, hb, w2⟩ | ⟨b, hb', rfl, hrt4, h41', w2⟩
        · exact t19 M4 a 0 hk4 hR4 (fun v _ => b78 M4 _ _ _ _ _ hk4 (fl f p _ hf hb hk4 (by rw [eF, w, wrdN_y e]; exact w2 _)) (hb.bad hf))
        · exact t19 M4 a b hk4 hR4 (fun v hv => t78 M4 a b v _ hv hk4 hR4 hrt4 v3 h41' (by omega) (by rw [eF, w, wrdN_y e]; exact w2 _))
end RST
