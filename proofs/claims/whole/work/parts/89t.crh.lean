def W8 : ax_W := ([(8, 9)], [])
section CRH
variable {T : Nat → Int} {n : Nat}
theorem houF_z (c : Nat) (q : PS) (s : HS) : houF T n 0 c q s = if kd T n q = 0 then .inr (c, s) else .inl (5, (q.1 : Int)) := rfl
theorem houF_s (f c : Nat) (q : PS) (s : HS) : houF T n (f + 1) c q s = if kd T n q = 0 then .inr (c, s) else (match semF T n (stmF T n s q) with | .inl e => .inl e | .inr (q1, s1) => houF T n f (c + 1) q1 s1) := rfl
theorem hou_ok {c' : Nat} {s' : HS} : ∀ (f c : Nat) (q : PS) (s : HS), q.1 ≤ n → WfH q.1 s → houF T n f c q s = .inr (c', s') → WfH n s' ∧ c' ≤ c + f := by
  intro f
  induction f with
  | zero =>
    intro c q s hqn hW h
    unfold houF at h
    split at h
    · cases h; exact ⟨hW.mono hqn, Nat.le_refl _⟩
    · cases h
  | succ f ih =>
    intro c q s hqn hW h
    unfold houF at h
    split at h
    · cases h; exact ⟨hW.mono hqn, Nat.le_add_right _ _⟩
    · cases e : semF T n (stmF T n s q) with
      | inl x => rw [e] at h; cases h
      | inr x =>
        obtain ⟨q1, s1⟩ := x
        rw [e] at h
        obtain ⟨y1, y2⟩ := sem_ok hqn hW e
        obtain ⟨z1, z2⟩ := ih (c + 1) q1 s1 y2 y1 h
        exact ⟨z1, by omega⟩
end CRH
section CRG
variable {L : Nat} {X : Nat → Int} {M : ax_M} {h n : Nat} {T : Nat → Int}
theorem m41 (hF : Fix M) (hh : h = 9 ∨ h = 27) (hn : n ≤ 1600) (h1 : M 1 1 = (n : Int)) (hT : ∀ i, i < 1600 → M 2 i = T i) : ax_Ev L X SH 38 41 [(2, 7), (2, (h : Int))] M (R1 0 (fun x M' => Sb (WHo h) M M' ∧ ((∃ f p, houF T n 80 0 (qz T n) hs0 = .inl (f, p) ∧ x = -1 ∧ CF f p M') ∨ ∃ c s, houF T n 80 0 (qz T n) hs0 = .inr (c, s) ∧ x = (c : Int) ∧ CF 0 (-1) M' ∧ CHo h s M'))) := by
  show ax_G L X SH 38 41 0 [(2, 7), (2, (h : Int)), (3, 0)] [] M _
  obtain ⟨P, hP⟩ : ∃ P, P = fun (x : Int) (M' : ax_M) => Sb (WHo h) M M' ∧ ((∃ f p, houF T n 80 0 (qz T n) hs0 = .inl (f, p) ∧ x = -1 ∧ CF f p M') ∨ ∃ c s, houF T n 80 0 (qz T n) hs0 = .inr (c, s) ∧ x = (c : Int) ∧ CF 0 (-1) M' ∧ CHo h s M') := ⟨_, rfl⟩
  rw [← hP]
  have hC := at41
  have hw := wHo hh
  have u8 : wb (WHo h) 1 8 = true := by rcases hh with rfl | rfl <;> rfl
  have u9 : wb (WHo h) 1 9 = true := by rcases hh with rfl | rfl <;> rfl
  have fl : ∀ f p M', CF f p M' → Sb (WHo h) M M' → houF T n 80 0 (qz T n) hs0 = .inl (f, p) → P (-1) M' := fun f p M' a b c => by rw [hP]; exact ⟨b, Or.inl ⟨f, p, c, rfl, a⟩⟩
  have t41y : ∀ (M1 : ax_M) (c : Nat) (q : PS) (s : HS), Sb (WHo h) M M1 → CT T n q M1 → CHo h s M1 → kd T n q = 0 → houF T n 80 0 (qz T n) hs0 = .inr (c, s) → ax_G L X SH 38 41 41 [(2, 7), (2, (h : Int)), (0, (c : Int))] [] M1 (R1 0 P) := by
    intro M1 c q s hS ct hc hk eq
    have hF1 := hS.fix hw hF
    refine g3 hC rfl rfl ?_
    refine g19 hC rfl rfl (Nat.le_of_ble_eq_true rfl) rfl (hF1.f (a := 7) (k := 0) (v := 1) rfl) ?_
    refine g19 hC rfl rfl (Nat.le_of_ble_eq_true rfl) rfl ct.2.1 ?_
    refine g12e hC rfl (fun h44 => ?_) (fun h44 => (by omega))
    refine g3 hC rfl rfl ?_
    refine ret1 hC rfl rfl ?_
    rw [hP]; exact ⟨hS, Or.inr ⟨c, s, eq, rfl, ⟨ct.2.2.2.2.2.1, ct.2.2.2.2.2.2⟩, hc⟩⟩
  have t41n : ∀ (M1 : ax_M) (c : Nat) (q : PS), Sb (WHo h) M M1 → CT T n q M1 → ¬ kd T n q = 0 → houF T n 80 0 (qz T n) hs0 = .inl (5, (q.1 : Int)) → ax_G L X SH 38 41 41 [(2, 7), (2, (h : Int)), (0, (c : Int))] [] M1 (R1 0 P) := by
    intro M1 c q hS ct hk eq
    have hF1 := hS.fix hw hF
    refine g3 hC rfl rfl ?_
    refine g19 hC rfl rfl (Nat.le_of_ble_eq_true rfl) rfl (hF1.f (a := 7) (k := 0) (v := 1) rfl) ?_
    refine g19 hC rfl rfl (Nat.le_of_ble_eq_true rfl) rfl ct.2.1 ?_
    refine g12e hC rfl (fun h44 => (by omega)) (fun h44 => ?_)
    refine g3 hC rfl rfl ?_
    refine g19 hC rfl rfl (Nat.le_of_ble_eq_true rfl) rfl (hF1.f (a := 7) (k := 0) (v := 1) rfl) ?_
    refine g0 hC rfl ?_
    refine g3 hC rfl rfl ?_
    refine g19 hC rfl rfl (Nat.le_of_ble_eq_true rfl) rfl (hF1.f (a := 7) (k := 0) (v := 1) rfl) ?_
    refine g19 hC rfl rfl (Nat.le_of_ble_eq_true rfl) rfl ct.2.2.1 ?_
    refine c1 hC rfl rfl rfl (Nat.le_of_ble_eq_true rfl) (Nat.le_of_ble_eq_true rfl) rfl (m89) (Nat.le_of_ble_eq_true rfl) (fun x M2 hr => ?_)
    obtain ⟨rfl, hr⟩ := hr; replace hr := hr.symm; subst hr
    refine g18 hC rfl (by decide) ?_
    refine g0 hC rfl ?_
    refine ret1 hC rfl rfl ?_
    exact fl 5 _ _ CF.up ((hS.up u8).up u9) eq
  have t21 : ∀ (f c : Nat) (q : PS) (s : HS) (M1 : ax_M), f + c = 80 → Sb (WHo h) M M1 → CT T n q M1 → q.1 ≤ n → CHo h s M1 → TO c s M1 → WfH q.1 s → houF T n 80 0 (qz T n) hs0 = houF T n f c q s → ax_G L X SH 38 41 21 [(2, 7), (2, (h : Int)), (0, (c : Int))] [] M1 (R1 0 P) := by
    intro f
    induction f with
    | zero =>
      intro c q s M1 hfc hS ct hqn hc hto hwf eq
      rw [houF_z c q s] at eq
      refine g3 hC rfl rfl ?_
      refine g0 hC rfl ?_
      refine g13g hC rfl (fun h23 => ?_) (fun h23 => (by omega))
      by_cases z : kd T n q = 0
      · rw [if_pos z] at eq; exact t41y M1 c q s hS ct hc z eq
      · rw [if_neg z] at eq; exact t41n M1 c q hS ct z eq
    | succ f ih =>
      intro c q s M1 hfc hS ct hqn hc hto hwf eq
      have hF1 := hS.fix hw hF
      rw [houF_s f c q s] at eq
      by_cases z : kd T n q = 0
      · rw [if_pos z] at eq
        refine g3 hC rfl rfl ?_
        refine g0 hC rfl ?_
        refine g13g hC rfl (fun h23 => (by omega)) (fun h23 => ?_)
        refine g3 hC rfl rfl ?_
        refine g19 hC rfl rfl (Nat.le_of_ble_eq_true rfl) rfl (hF1.f (a := 7) (k := 0) (v := 1) rfl) ?_
        refine g19 hC rfl rfl (Nat.le_of_ble_eq_true rfl) rfl ct.2.1 ?_
        refine g12e hC rfl (fun h27 => ?_) (fun h27 => (by omega))
        exact t41y M1 c q s hS ct hc z eq
      · rw [if_neg z] at eq
        refine g3 hC rfl rfl ?_
        refine g0 hC rfl ?_
        refine g13g hC rfl (fun h23 => (by omega)) (fun h23 => ?_)
        refine g3 hC rfl rfl ?_
        refine g19 hC rfl rfl (Nat.le_of_ble_eq_true rfl) rfl (hF1.f (a := 7) (k := 0) (v := 1) rfl) ?_
        refine g19 hC rfl rfl (Nat.le_of_ble_eq_true rfl) rfl ct.2.1 ?_
        refine g12e hC rfl (fun h27 => (by omega)) (fun h27 => ?_)
        refine g3 hC rfl rfl ?_
        refine g3 hC rfl rfl ?_
        refine c1 hC rfl rfl rfl (Nat.le_of_ble_eq_true rfl) (Nat.le_of_ble_eq_true rfl) rfl (m42 hF1 hh hn (by omega) hc hto ct hqn) (Nat.le_of_ble_eq_true rfl) (fun x M2 hr => ?_)
        obtain ⟨hr0, hr1⟩ := hr; have hS := hS.trans hr0; have hF2 := hS.fix hw hF
        refine g12e hC rfl (fun h31 => ?_) (fun h31 => ?_)
        ·
          refine g0 hC rfl ?_
          refine ret1 hC rfl rfl ?_
          rcases hr1 with ⟨f', p, -, v2, v3⟩ | ⟨q', s', v1, -⟩
          · exact fl f' p _ v2 hS (by rw [eq, v3]; rfl)
          · omega
        ·
          refine g3 hC rfl rfl ?_
          refine g19 hC rfl rfl (Nat.le_of_ble_eq_true rfl) rfl (hF2.f (a := 7) (k := 0) (v := 1) rfl) ?_
          refine g0 hC rfl ?_
          obtain ⟨q1, s1, e1, ct1, hc1, hto1⟩ : ∃ q' s', stmF T n s q = .inr (q', s') ∧ CT T n q' M2 ∧ CHo h s' M2 ∧ TO (c + 1) s' M2 := by { rcases hr1 with ⟨f, p, v1, -⟩ | ⟨q', s', -, y⟩; omega; exact ⟨q', s', y⟩ }
          have hq1 : q1.1 ≤ n := (stm_ok hqn hwf e1).2
          refine c1 hC rfl rfl rfl (Nat.le_of_ble_eq_true rfl) (Nat.le_of_ble_eq_true rfl) rfl (m96r hF2 hn ct1 hq1) (Nat.le_of_ble_eq_true rfl) (fun y M3 hr => ?_)
          obtain ⟨hr2, hr3⟩ := hr; have hS := hS.then (hr2.mono (show wle WNU WNS = true from rfl)) (wHn hh)
          refine g12n hC rfl (fun h36 => ?_) (fun h36 => ?_)
          ·
            refine n2 hC rfl rfl ⟨by omega, by omega⟩ ?_
            refine g14 hC rfl ?_
            rcases hr3 with ⟨f', p, -, v1, -⟩ | ⟨e, v1, v2, -⟩
            · omega
            · refine ih (c + 1) (nx T n q1) s1 M3 (by omega) hS v2 (wq_nx hq1).1 (hc1.nu hh (hr2.mono rfl)) ?_ ((stm_ok hqn hwf e1).1.mono (nx_ge hq1)) ?_
              · have g8 : ∀ i, M3 8 i = M2 8 i := fun i => hr2 8 i rfl
                exact ⟨⟨(g8 0).trans hto1.1.1, (g8 1).trans hto1.1.2.1, (g8 2).trans hto1.1.2.2.1, (g8 3).trans hto1.1.2.2.2⟩, ⟨(g8 4).trans hto1.2.1.1, (g8 5).trans hto1.2.1.2⟩, fun k hk => by rw [g8]; exact hto1.2.2 k hk⟩
              · rw [eq, e1]; unfold semF tryR; dsimp only; rw [e]
          ·
            refine g0 hC rfl ?_
            refine ret1 hC rfl rfl ?_
            rcases hr3 with ⟨f', p, e, -, v2⟩ | ⟨e, v1, v2, -⟩
            · exact fl f' p _ v2 hS (by rw [eq, e1]; unfold semF tryR; dsimp only; rw [e])
            · omega
  have t4 : ∀ (Ma : ax_M), Sb (WHo h) M Ma → CHo h hs0 Ma → (∀ k, Ma 1 k = M 1 k) → (∀ k, Ma 2 k = M 2 k) → ∀ (m k : Nat), k + m = 9 → ∀ ll M1, (ll = [(2, 7), (2, (h : Int)), (0, (k : Int))] ∧ Sb W8 Ma M1 ∧ ∀ i, i < k → M1 8 i = 0) → ax_G L X SH 38 41 4 ll [] M1 (R1 0 P) := by
    intro Ma hSa hca ea1 ea2
    have hwn : wle W8 (WHo h) = true := by rcases hh with rfl | rfl <;> rfl
    refine lp ?_ ?_
    · rintro ll M1 ⟨rfl, hS8, e1⟩
      have hS := hSa.then hS8 hwn
      have hF1 := hS.fix hw hF
      refine g3 hC rfl rfl ?_
      refine g3 hC rfl rfl ?_
      refine g19 hC rfl rfl (Nat.le_of_ble_eq_true rfl) rfl (hF1.f (a := 7) (k := 2) (v := 8) rfl) ?_
      refine g23 hC rfl rfl ?_
      refine g13g hC rfl (fun h8 => ?_) (fun h8 => (by omega))
      refine g3 hC rfl rfl ?_
      refine g19 hC rfl rfl (Nat.le_of_ble_eq_true rfl) rfl (hF1.f (a := 7) (k := 0) (v := 1) rfl) ?_
      refine c0 hC rfl rfl rfl (Nat.le_of_ble_eq_true rfl) (Nat.le_of_ble_eq_true rfl) rfl (m88 hF1 hn ((hS8 _ _ rfl).trans ((ea1 1).trans h1)) (fun i hi => (hS8 _ _ rfl).trans ((ea2 i).trans (hT i hi)))) (Nat.le_of_ble_eq_true rfl) (fun M2 hr => ?_)
      refine g0 hC rfl ?_
      refine s2 hC rfl rfl rfl ?_
      obtain ⟨hr0, ct⟩ := hr
      have hS2 := hS.then (hr0.mono (show wle WNU WNS = true from rfl)) (wHn hh)
      have hc2 := (hca.sb hS8 (hokB (by decide +kernel) hh)).nu hh (hr0.mono rfl)
      have g8 : ∀ i, i < 9 → M2 8 i = 0 := fun i hi => (hr0 8 i rfl).trans (e1 i hi)
      refine t21 80 0 (qz T n) hs0 M2 rfl hS2 ct (rn_le (Nat.zero_le _)) hc2 ⟨⟨g8 0 (by decide), g8 1 (by decide), g8 2 (by decide), g8 3 (by decide)⟩, ⟨g8 4 (by decide), g8 5 (by decide)⟩, fun k hk => by rw [g8 k hk]; decide⟩ (WfH.z.mono (Nat.zero_le _)) rfl
    · rintro k hk ll M1 ⟨rfl, hS8, e1⟩ hnext
      have hS := hSa.then hS8 hwn
      have hF1 := hS.fix hw hF
      refine g3 hC rfl rfl ?_
      refine g3 hC rfl rfl ?_
      refine g19 hC rfl rfl (Nat.le_of_ble_eq_true rfl) rfl (hF1.f (a := 7) (k := 2) (v := 8) rfl) ?_
      refine g23 hC rfl rfl ?_
      refine g13g hC rfl (fun h8 => (by omega)) (fun h8 => ?_)
      refine g3 hC rfl rfl ?_
      refine g19 hC rfl rfl (Nat.le_of_ble_eq_true rfl) rfl (hF1.f (a := 7) (k := 2) (v := 8) rfl) ?_
      refine g3 hC rfl rfl ?_
      refine g0 hC rfl ?_
      refine r22 (k) hC rfl rfl (show SH[8]? = some (1, 0, 9) from rfl) hk rfl ?_
      refine n2 hC rfl rfl ⟨by omega, by omega⟩ ?_
      refine g14 hC rfl ?_
      refine hnext _ _ ⟨rfl, hS8.up rfl, fun i hi => ?_⟩
      by_cases z : i = k
      · rw [z, ax_up_at]
      · rw [ax_up_of z]; exact e1 i (by omega)
  refine g3 hC rfl rfl ?_
  refine c0 hC rfl rfl rfl (Nat.le_of_ble_eq_true rfl) (Nat.le_of_ble_eq_true rfl) (mayH hh rfl rfl) (m34 hF hh) (Nat.le_of_ble_eq_true rfl) (fun Ma hr => ?_)
  refine g0 hC rfl ?_
  refine s2 hC rfl rfl rfl ?_
  exact t4 Ma hr.1 hr.2.1 hr.2.2.1 hr.2.2.2 9 0 rfl _ _ ⟨rfl, Sb.refl, fun i hi => absurd hi (Nat.not_lt_zero i)⟩
end CRG
