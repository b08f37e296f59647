def W0 : ax_W := ([(5, 6), (23, 24), (26, 27), (41, 42), (44, 45)], [])
theorem W0s {p k : Nat} (hp : isP p) : wb W0 (p + 2) k = true := by rcases hp with rfl | rfl | rfl | rfl | rfl <;> rfl
theorem W0c {p k : Nat} (hp : isP p) : wb W0 (p + 1) k = false := by rcases hp with rfl | rfl | rfl | rfl | rfl <;> rfl
theorem W0o {p k : Nat} (hp : isP p) : wb W0 p k = false := by rcases hp with rfl | rfl | rfl | rfl | rfl <;> rfl
def lal (kind : Nat) (v : Int) : Prop := (40 ≤ v → v < 60 → v < 43 ∨ (kind = 0 ∧ v ≤ 44) ∨ (kind = 1 ∧ 45 ≤ v ∧ v ≤ 46) ∨ (kind = 2 ∧ 47 ≤ v ∧ v ≤ 50)) ∧ (60 ≤ v → v < 1000 → kind = 2)
def Code (M : ax_M) (p kind : Nat) (c : Nat → Int) (n : Nat) : Prop := M p 1 = (n : Int) ∧ n ≤ 1600 ∧ (∀ k, k < n → M (p + 1) k = cs kind (c k)) ∧ ∀ k, k < n → lal kind (c k)
def bnd (f : Int) : Prop := -1000000 ≤ f ∧ f ≤ 1000000
theorem ev_succ {lf : Nat → Int} {mt : Int → Int} {c : Nat → Int} {k : Nat} : ev lf mt c (k + 1) = e1 lf mt (c k) (ev lf mt c k) := rfl
section VAL
variable {L : Nat} {X : Nat → Int} {M : ax_M}
theorem m60l {p la nl mr kind n : Nat} {b : Bool} {c : Nat → Int} {lf : Nat → Int} {mt : Int → Int} (hF : Fix M) (hp : isP p) (hla : SH[la]? = some (1, 0, nl)) (hmr : SH[mr]? = some (1, 0, 8)) (hnl : nl = if kind = 2 then 7 else 5) (hc : Code M p kind c n) (hlv : ∀ v : Int, 40 ≤ v → v < 60 → lal kind v → M la (ci kind (v - 40)).toNat = lf (v - 40).toNat) (hT : Typed c n b) (hlb : ∀ i, bnd (lf i)) (hmb : ∀ i, bnd (mt i)) (hmt : kind = 2 → ∀ x : Int, (if 0 ≤ x ∧ x < 8 then M mr x.toNat else 0) = mt x) (wla : ∀ k, wb W0 la k = false) (wmr : ∀ k, wb W0 mr k = false) : ∀ (m k : Nat), k + m = n → ∀ ll M1, (∃ u v, ll = [(2, (p : Int)), (2, (la : Int)), (2, (mr : Int)), (0, ((ev lf mt c k).2 : Int)), (0, (k : Int)), u, v] ∧ Sb W0 M M1 ∧ ∀ q, q < (ev lf mt c k).2 → M1 (p + 2) q = (ev lf mt c k).1 q) → ax_G L X SH 2 60 4 ll [] M1 (R1 0 (fun x M' => x = pval lf mt c n ∧ Sb W0 M M')) := by
  have hC := at60
  have hw : wok W0 = true := by decide +kernel
  have hwp : ∀ (_ k : Nat), wb W0 (p + 2) k = true := fun _ _ => W0s hp
  obtain ⟨hn, hn2, hcc, hcl⟩ := hc
  obtain ⟨hT1, hT2, hT3⟩ := hT
  refine lp (n := n) ?_ ?_
  · rintro ll M1 ⟨u, v, rfl, hS, hq⟩
    have hv := vok_ev hlb hmb hT1 n (Nat.le_refl n)
    have ht : (ev lf mt c n).2 = 1 := hv.1.trans hT2
    have hq0 := hq 0 (by omega)
    rw [ht]
    refine g3 hC rfl rfl ?_
    refine g3 hC rfl rfl ?_
    refine g19 hC rfl (shPg hp) (Nat.le_of_ble_eq_true rfl) rfl ((hS _ _ (W0o hp)).trans hn) ?_
    refine g13g hC rfl (fun h7 => ?_) (fun h7 => (by omega))
    refine g3 hC rfl rfl ?_
    refine g12s hC rfl (fun h100 => (by omega)) (fun h100 => ?_)
    refine g3 hC rfl rfl ?_
    refine g19 hC rfl (shPg hp) (Nat.le_of_ble_eq_true rfl) rfl (prog2 (hS.fix hw hF) hp) ?_
    refine g0 hC rfl ?_
    refine r21 (0) hC rfl (by omega) (shPa2 hp) (Or.inl rfl) (by omega) hq0 ?_
    refine g14 hC rfl ?_
    refine ret1 hC rfl rfl ?_
    exact ⟨rfl, hS⟩
  · rintro k hk ll M1 ⟨u, v, rfl, hS, hq⟩ hnext
    have hv := vok_ev hlb hmb hT1 k (Nat.le_of_lt hk)
    have hok := hT1 k hk
    have h64 := tys_le hT1 k (Nat.le_of_lt hk)
    have hcl := hcl k hk
    have hcc := hcc k hk
    have hes := ev_succ (lf := lf) (mt := mt) (c := c) (k := k)
    generalize ev lf mt c k = x at *
    obtain ⟨s, t⟩ := x
    generalize tys c k = y at *
    obtain ⟨τ, t1⟩ := y
    obtain ⟨ht, hv⟩ := hv
    dsimp only at ht hv hq hes h64 ⊢
    subst ht
    generalize c k = w at *
    unfold tok at hok
    unfold e1 at hes
    dsimp only at hok hes
    have push : ∀ (M2 : ax_M) (z : Int) (u v : ax_V), Sb W0 M M2 → (∀ q, q < t → M2 (p + 2) q = s q) → ev lf mt c (k + 1) = (up s t z, t + 1) → ax_G L X SH 2 60 4 [(2, (p : Int)), (2, (la : Int)), (2, (mr : Int)), (0, (t : Int) + 1), (0, (k : Int) + 1), u, v] [] (ax_up M2 (p + 2) t z) (R1 0 (fun x M' => x = pval lf mt c n ∧ Sb W0 M M')) := by
      intro M2 z u v h1 h2 h3
      refine hnext _ _ ⟨u, v, ?_, h1.up (W0s hp), ?_⟩
      · rw [h3]; rfl
      · rw [h3]
        intro q hq
        rw [ax_upf]
        unfold up
        dsimp only at hq ⊢
        split
        · rfl
        · exact h2 q (by omega)
    have put : ∀ (M2 : ax_M) (z : Int) (i t' : Nat) (u v : ax_V), Sb W0 M M2 → (∀ q, q < t → M2 (p + 2) q = s q) → t' ≤ t → ev lf mt c (k + 1) = (up s i z, t') → ax_G L X SH 2 60 4 [(2, (p : Int)), (2, (la : Int)), (2, (mr : Int)), (0, (t' : Int)), (0, (k : Int) + 1), u, v] [] (ax_up M2 (p + 2) i z) (R1 0 (fun x M' => x = pval lf mt c n ∧ Sb W0 M M')) := by
      intro M2 z i t' u v h1 h2 ht h3
      refine hnext _ _ ⟨u, v, ?_, h1.up (W0s hp), ?_⟩
      · rw [h3]; rfl
      · rw [h3]
        intro q hq
        rw [ax_upf]
        unfold up
        dsimp only at hq ⊢
        split
        · rfl
        · exact h2 q (by omega)
    have hcode := (hS _ _ (W0c hp)).trans hcc
    have hS0 := hS
    have hnl7 : nl ≤ 7 := by rw [hnl]; split <;> omega
    by_cases h1 : 1000 ≤ w
    · rw [if_pos h1] at hok hes
      have e : cs kind w = w - 1000 := by unfold cs; rw [if_pos h1]
      refine g3 hC rfl rfl ?_
      refine g3 hC rfl rfl ?_
      refine g19 hC rfl (shPg hp) (Nat.le_of_ble_eq_true rfl) rfl ((hS _ _ (W0o hp)).trans hn) ?_
      refine g13g hC rfl (fun h7 => (by omega)) (fun h7 => ?_)
      refine g3 hC rfl rfl ?_
      refine g19 hC rfl (shPg hp) (Nat.le_of_ble_eq_true rfl) rfl (prog0 (hS.fix hw hF) hp) ?_
      refine g3 hC rfl rfl ?_
      refine r21 (k) hC rfl (by omega) (shPa0 hp) (Or.inl rfl) (by omega) (hcode.trans e) ?_
      refine s5 hC rfl rfl rfl ?_
      refine g3 hC rfl rfl ?_
      refine g12g hC rfl (fun h14 => ?_) (fun h14 => (by omega))
      refine g3 hC rfl rfl ?_
      refine g0 hC rfl ?_
      refine g13l hC rfl (fun h20 => ?_) (fun h20 => (by omega))
      refine g3 hC rfl rfl ?_
      refine g19 hC rfl (shPg hp) (Nat.le_of_ble_eq_true rfl) rfl (prog2 (hS.fix hw hF) hp) ?_
      refine g3 hC rfl rfl ?_
      refine g3 hC rfl rfl ?_
      refine g12l hC rfl (fun h27 => (by omega)) (fun h27 => ?_)
      refine g3 hC rfl rfl ?_
      refine g14 hC rfl ?_
      refine r22s (t) hC rfl (by omega) (shPa2 hp) (by omega) rfl hS (hwp 0 _) (fun hS => ?_)
      refine n3 hC rfl rfl ⟨by omega, by omega⟩ ?_
      refine g14 hC rfl ?_
      refine n4 hC rfl rfl ⟨by omega, by omega⟩ ?_
      refine g14 hC rfl ?_
      exact push _ _ _ _ (by assumption) hq hes
    rw [if_neg h1] at hok hes
    by_cases h2 : 60 ≤ w
    · rw [if_pos h2] at hok hes
      have e : cs kind w = -13 := by unfold cs; rw [if_neg h1, if_pos h2]
      have hk2 := hcl.2 h2 (by omega)
      have hz := hq (t - 1) (by omega)
      refine g3 hC rfl rfl ?_
      refine g3 hC rfl rfl ?_
      refine g19 hC rfl (shPg hp) (Nat.le_of_ble_eq_true rfl) rfl ((hS _ _ (W0o hp)).trans hn) ?_
      refine g13g hC rfl (fun h7 => (by omega)) (fun h7 => ?_)
      refine g3 hC rfl rfl ?_
      refine g19 hC rfl (shPg hp) (Nat.le_of_ble_eq_true rfl) rfl (prog0 (hS.fix hw hF) hp) ?_
      refine g3 hC rfl rfl ?_
      refine r21 (k) hC rfl (by omega) (shPa0 hp) (Or.inl rfl) (by omega) (hcode.trans e) ?_
      refine s5 hC rfl rfl rfl ?_
      refine g3 hC rfl rfl ?_
      refine g12g hC rfl (fun h14 => (by omega)) (fun h14 => ?_)
      refine g3 hC rfl rfl ?_
      refine g0 hC rfl ?_
      refine g13t hC rfl (fun h17 => ?_) (fun h17 => (by omega))
      refine g3 hC rfl rfl ?_
      refine g0 hC rfl ?_
      refine g13e hC rfl (fun h40 => (by omega)) (fun h40 => ?_)
      refine g3 hC rfl rfl ?_
      refine g0 hC rfl ?_
      refine g13n hC rfl (fun h43 => (by omega)) (fun h43 => ?_)
      refine g3 hC rfl rfl ?_
      refine g0 hC rfl ?_
      refine g13g hC rfl (fun h46 => ?_) (fun h46 => (by omega))
      refine g3 hC rfl rfl ?_
      refine g19 hC rfl (shPg hp) (Nat.le_of_ble_eq_true rfl) rfl (prog2 (hS.fix hw hF) hp) ?_
      refine g3 hC rfl rfl ?_
      refine g0 hC rfl ?_
      refine g6s hC rfl ⟨by omega, by omega⟩ ?_
      refine r21 ((t - 1)) hC rfl (by omega) (shPa2 hp) (Or.inl rfl) (by omega) hz ?_
      refine s6 hC rfl rfl rfl ?_
      refine g3 hC rfl rfl ?_
      refine g19 hC rfl (shPg hp) (Nat.le_of_ble_eq_true rfl) rfl (prog2 (hS.fix hw hF) hp) ?_
      refine g3 hC rfl rfl ?_
      refine g0 hC rfl ?_
      refine g6s hC rfl ⟨by omega, by omega⟩ ?_
      refine g3 hC rfl rfl ?_
      refine g0 hC rfl ?_
      refine g13n hC rfl (fun h63 => ?_) (fun h63 => (by omega))
      refine g3 hC rfl rfl ?_
      refine g3 hC rfl rfl ?_
      refine c1 hC rfl rfl rfl (Nat.le_of_ble_eq_true rfl) (Nat.le_of_ble_eq_true rfl) rfl (m61 hmr) (Nat.le_of_ble_eq_true rfl) (fun x M2 hr => ?_)
      obtain ⟨rfl, hr⟩ := hr
      replace hr := hr.symm
      subst hr
      refine r22s ((t - 1)) hC rfl (by omega) (shPa2 hp) (by omega) rfl hS (hwp 0 _) (fun hS => ?_)
      refine g14 hC rfl ?_
      refine n4 hC rfl rfl ⟨by omega, by omega⟩ ?_
      refine g14 hC rfl ?_
      have hm := hmt hk2 (s (t - 1))
      rw [show (if 0 ≤ s (t - 1) ∧ s (t - 1) < ((8 : Nat) : Int) then M1 mr (s (t - 1)).toNat else 0) = mt (s (t - 1)) by rw [← hm, hS0 _ _ (wmr _)]; rfl]
      exact put _ _ _ t _ _ (by assumption) hq (Nat.le_refl t) hes
    rw [if_neg h2] at hok hes
    by_cases h3 : 40 ≤ w
    · rw [if_pos h3] at hok hes
      have e : cs kind w = -100 - ci kind (w - 40) := by unfold cs; rw [if_neg h1, if_neg h2, if_pos h3]
      have hci : 0 ≤ ci kind (w - 40) ∧ ci kind (w - 40) < nl := by
        have h5 := hcl.1 h3 (by omega)
        unfold ci
        rw [hnl]
        repeat' split
        all_goals omega
      have hlw := hlv w h3 (by omega) hcl
      refine g3 hC rfl rfl ?_
      refine g3 hC rfl rfl ?_
      refine g19 hC rfl (shPg hp) (Nat.le_of_ble_eq_true rfl) rfl ((hS _ _ (W0o hp)).trans hn) ?_
      refine g13g hC rfl (fun h7 => (by omega)) (fun h7 => ?_)
      refine g3 hC rfl rfl ?_
      refine g19 hC rfl (shPg hp) (Nat.le_of_ble_eq_true rfl) rfl (prog0 (hS.fix hw hF) hp) ?_
      refine g3 hC rfl rfl ?_
      refine r21 (k) hC rfl (by omega) (shPa0 hp) (Or.inl rfl) (by omega) (hcode.trans e) ?_
      refine s5 hC rfl rfl rfl ?_
      refine g3 hC rfl rfl ?_
      refine g12g hC rfl (fun h14 => (by omega)) (fun h14 => ?_)
      refine g3 hC rfl rfl ?_
      refine g0 hC rfl ?_
      refine g13t hC rfl (fun h17 => (by omega)) (fun h17 => ?_)
      refine g3 hC rfl rfl ?_
      refine g0 hC rfl ?_
      refine g13l hC rfl (fun h20 => ?_) (fun h20 => (by omega))
      refine g3 hC rfl rfl ?_
      refine g19 hC rfl (shPg hp) (Nat.le_of_ble_eq_true rfl) rfl (prog2 (hS.fix hw hF) hp) ?_
      refine g3 hC rfl rfl ?_
      refine g3 hC rfl rfl ?_
      refine g12l hC rfl (fun h27 => ?_) (fun h27 => (by omega))
      refine g3 hC rfl rfl ?_
      refine g0 hC rfl ?_
      refine g3 hC rfl rfl ?_
      refine g6s hC rfl ⟨by omega, by omega⟩ ?_
      refine c1 hC rfl rfl rfl (Nat.le_of_ble_eq_true rfl) (Nat.le_of_ble_eq_true rfl) rfl (m61 hla) (Nat.le_of_ble_eq_true rfl) (fun x M2 hr => ?_)
      obtain ⟨rfl, hr⟩ := hr
      replace hr := hr.symm
      subst hr
      refine r22s (t) hC rfl (by omega) (shPa2 hp) (by omega) rfl hS (hwp 0 _) (fun hS => ?_)
      refine n3 hC rfl rfl ⟨by omega, by omega⟩ ?_
      refine g14 hC rfl ?_
      refine n4 hC rfl rfl ⟨by omega, by omega⟩ ?_
      refine g14 hC rfl ?_
      rw [if_pos (by omega), show (-100 - (-100 - ci kind (w - 40))).toNat = (ci kind (w - 40)).toNat by omega, hS0 _ _ (wla _), hlw]
      exact push _ _ _ _ (by assumption) hq hes
    rw [if_neg h3] at hok hes
    by_cases h4 : w = 13
    · rw [if_pos h4] at hok hes
      have e : cs kind w = 1 := by unfold cs; rw [if_neg h1, if_neg h2, if_neg h3, if_pos h4]
      refine g3 hC rfl rfl ?_
      refine g3 hC rfl rfl ?_
      refine g19 hC rfl (shPg hp) (Nat.le_of_ble_eq_true rfl) rfl ((hS _ _ (W0o hp)).trans hn) ?_
      refine g13g hC rfl (fun h7 => (by omega)) (fun h7 => ?_)
      refine g3 hC rfl rfl ?_
      refine g19 hC rfl (shPg hp) (Nat.le_of_ble_eq_true rfl) rfl (prog0 (hS.fix hw hF) hp) ?_
      refine g3 hC rfl rfl ?_
      refine r21 (k) hC rfl (by omega) (shPa0 hp) (Or.inl rfl) (by omega) (hcode.trans e) ?_
      refine s5 hC rfl rfl rfl ?_
      refine g3 hC rfl rfl ?_
      refine g12g hC rfl (fun h14 => ?_) (fun h14 => (by omega))
      refine g3 hC rfl rfl ?_
      refine g0 hC rfl ?_
      refine g13l hC rfl (fun h20 => ?_) (fun h20 => (by omega))
      refine g3 hC rfl rfl ?_
      refine g19 hC rfl (shPg hp) (Nat.le_of_ble_eq_true rfl) rfl (prog2 (hS.fix hw hF) hp) ?_
      refine g3 hC rfl rfl ?_
      refine g3 hC rfl rfl ?_
      refine g12l hC rfl (fun h27 => (by omega)) (fun h27 => ?_)
      refine g3 hC rfl rfl ?_
      refine g14 hC rfl ?_
      refine r22s (t) hC rfl (by omega) (shPa2 hp) (by omega) rfl hS (hwp 0 _) (fun hS => ?_)
      refine n3 hC rfl rfl ⟨by omega, by omega⟩ ?_
      refine g14 hC rfl ?_
      refine n4 hC rfl rfl ⟨by omega, by omega⟩ ?_
      refine g14 hC rfl ?_
      exact push _ _ _ _ (by assumption) hq hes
    rw [if_neg h4] at hok hes
    by_cases h5 : w = 12
    · rw [if_pos h5] at hok hes
      have e : cs kind w = -12 := by unfold cs; rw [if_neg h1, if_neg h2, if_neg h3, if_neg h4, if_pos h5]
      have hz := hq (t - 1) (by omega)
      have hvb := (hv (t - 1) (by omega)).1 hok.2
      refine g3 hC rfl rfl ?_
      refine g3 hC rfl rfl ?_
      refine g19 hC rfl (shPg hp) (Nat.le_of_ble_eq_true rfl) rfl ((hS _ _ (W0o hp)).trans hn) ?_
      refine g13g hC rfl (fun h7 => (by omega)) (fun h7 => ?_)
      refine g3 hC rfl rfl ?_
      refine g19 hC rfl (shPg hp) (Nat.le_of_ble_eq_true rfl) rfl (prog0 (hS.fix hw hF) hp) ?_
      refine g3 hC rfl rfl ?_
      refine r21 (k) hC rfl (by omega) (shPa0 hp) (Or.inl rfl) (by omega) (hcode.trans e) ?_
      refine s5 hC rfl rfl rfl ?_
      refine g3 hC rfl rfl ?_
      refine g12g hC rfl (fun h14 => (by omega)) (fun h14 => ?_)
      refine g3 hC rfl rfl ?_
      refine g0 hC rfl ?_
      refine g13t hC rfl (fun h17 => ?_) (fun h17 => (by omega))
      refine g3 hC rfl rfl ?_
      refine g0 hC rfl ?_
      refine g13e hC rfl (fun h40 => ?_) (fun h40 => (by omega))
      refine g3 hC rfl rfl ?_
      refine g0 hC rfl ?_
      refine g13g hC rfl (fun h46 => ?_) (fun h46 => (by omega))
      refine g3 hC rfl rfl ?_
      refine g19 hC rfl (shPg hp) (Nat.le_of_ble_eq_true rfl) rfl (prog2 (hS.fix hw hF) hp) ?_
      refine g3 hC rfl rfl ?_
      refine g0 hC rfl ?_
      refine g6s hC rfl ⟨by omega, by omega⟩ ?_
      refine r21 ((t - 1)) hC rfl (by omega) (shPa2 hp) (Or.inl rfl) (by omega) hz ?_
      refine s6 hC rfl rfl rfl ?_
      refine g3 hC rfl rfl ?_
      refine g19 hC rfl (shPg hp) (Nat.le_of_ble_eq_true rfl) rfl (prog2 (hS.fix hw hF) hp) ?_
      refine g3 hC rfl rfl ?_
      refine g0 hC rfl ?_
      refine g6s hC rfl ⟨by omega, by omega⟩ ?_
      refine g3 hC rfl rfl ?_
      refine g0 hC rfl ?_
      refine g13n hC rfl (fun h63 => (by omega)) (fun h63 => ?_)
      refine g0 hC rfl ?_
      refine g3 hC rfl rfl ?_
      refine g6s hC rfl ⟨by omega, by omega⟩ ?_
      refine g14 hC rfl ?_
      refine r22s ((t - 1)) hC rfl (by omega) (shPa2 hp) (by omega) rfl hS (hwp 0 _) (fun hS => ?_)
      refine g14 hC rfl ?_
      refine n4 hC rfl rfl ⟨by omega, by omega⟩ ?_
      refine g14 hC rfl ?_
      exact put _ _ _ t _ _ (by assumption) hq (Nat.le_refl t) hes
    rw [if_neg h5] at hok hes
    obtain ⟨a1, a2, a3, a4, a5⟩ := hok
    have hz := hq (t - 1) (by omega)
    have hz2 := hq (t - 2) (by omega)
    have k1 := hv (t - 1) (by omega)
    have k2 := hv (t - 2) (by omega)
    rw [a4] at k1
    rw [a5] at k2
    have r1 : -1000000 ≤ s (t - 1) ∧ s (t - 1) ≤ 1000000 := by
      by_cases q : 10 ≤ w
      · have := k1.1 (decide_eq_true q); omega
      · exact k1.2 (decide_eq_false q)
    have r2 : -1000000 ≤ s (t - 2) ∧ s (t - 2) ≤ 1000000 := by
      by_cases q : 10 ≤ w
      · have := k2.1 (decide_eq_true q); omega
      · exact k2.2 (decide_eq_false q)
    have e : -12 < cs kind w ∧ cs kind w < 0 := by
      unfold cs
      rw [if_neg h1, if_neg h2, if_neg h3, if_neg h4, if_neg h5]
      repeat' split
      all_goals omega
    refine g3 hC rfl rfl ?_
    refine g3 hC rfl rfl ?_
    refine g19 hC rfl (shPg hp) (Nat.le_of_ble_eq_true rfl) rfl ((hS _ _ (W0o hp)).trans hn) ?_
    refine g13g hC rfl (fun h7 => (by omega)) (fun h7 => ?_)
    refine g3 hC rfl rfl ?_
    refine g19 hC rfl (shPg hp) (Nat.le_of_ble_eq_true rfl) rfl (prog0 (hS.fix hw hF) hp) ?_
    refine g3 hC rfl rfl ?_
    refine r21 (k) hC rfl (by omega) (shPa0 hp) (Or.inl rfl) (by omega) hcode ?_
    refine s5 hC rfl rfl rfl ?_
    refine g3 hC rfl rfl ?_
    refine g12g hC rfl (fun h14 => (by omega)) (fun h14 => ?_)
    refine g3 hC rfl rfl ?_
    refine g0 hC rfl ?_
    refine g13t hC rfl (fun h17 => ?_) (fun h17 => (by omega))
    refine g3 hC rfl rfl ?_
    refine g0 hC rfl ?_
    refine g13e hC rfl (fun h40 => (by omega)) (fun h40 => ?_)
    refine g3 hC rfl rfl ?_
    refine g0 hC rfl ?_
    refine g13n hC rfl (fun h43 => ?_) (fun h43 => (by omega))
    refine g3 hC rfl rfl ?_
    refine g0 hC rfl ?_
    refine g13g hC rfl (fun h75 => ?_) (fun h75 => (by omega))
    refine n3 hC rfl rfl ⟨by omega, by omega⟩ ?_
    refine g3 hC rfl rfl ?_
    refine g19 hC rfl (shPg hp) (Nat.le_of_ble_eq_true rfl) rfl (prog2 (hS.fix hw hF) hp) ?_
    refine g3 hC rfl rfl ?_
    refine g0 hC rfl ?_
    refine g6s hC rfl ⟨by omega, by omega⟩ ?_
    refine g3 hC rfl rfl ?_
    refine g3 hC rfl rfl ?_
    refine g19 hC rfl (shPg hp) (Nat.le_of_ble_eq_true rfl) rfl (prog2 (hS.fix hw hF) hp) ?_
    refine g3 hC rfl rfl ?_
    refine g0 hC rfl ?_
    refine g6s hC rfl ⟨by omega, by omega⟩ ?_
    refine r21 (t - 2) hC rfl (by omega) (shPa2 hp) (Or.inl rfl) (by omega) hz2 ?_
    refine g3 hC rfl rfl ?_
    refine g19 hC rfl (shPg hp) (Nat.le_of_ble_eq_true rfl) rfl (prog2 (hS.fix hw hF) hp) ?_
    refine g3 hC rfl rfl ?_
    refine r21 (t - 1) hC rfl (by omega) (shPa2 hp) (Or.inl rfl) (by omega) hz ?_
    refine c1 hC rfl rfl rfl (Nat.le_of_ble_eq_true rfl) (Nat.le_of_ble_eq_true rfl) rfl (m62 r2 r1) (Nat.le_of_ble_eq_true rfl) (fun x M2 hr => ?_)
    obtain ⟨rfl, hr⟩ := hr
    replace hr := hr.symm
    subst hr
    refine r22s ((t - 2)) hC rfl (by omega) (shPa2 hp) (by omega) rfl hS (hwp 0 _) (fun hS => ?_)
    refine n4 hC rfl rfl ⟨by omega, by omega⟩ ?_
    refine g14 hC rfl ?_
    rw [jc_cs a1 a2 (fun q => k2.1 (decide_eq_true q)) (fun q => k1.1 (decide_eq_true q))]
    rw [show (t : Int) + -1 = ((t - 1 : Nat) : Int) by omega]
    exact put _ _ _ (t - 1) _ _ (by assumption) hq (Nat.sub_le t 1) hes
theorem m60 {p la nl mr kind n : Nat} {b : Bool} {c : Nat → Int} {lf : Nat → Int} {mt : Int → Int} (hF : Fix M) (hp : isP p) (hla : SH[la]? = some (1, 0, nl)) (hmr : SH[mr]? = some (1, 0, 8)) (hnl : nl = if kind = 2 then 7 else 5) (hc : Code M p kind c n) (hlv : ∀ v : Int, 40 ≤ v → v < 60 → lal kind v → M la (ci kind (v - 40)).toNat = lf (v - 40).toNat) (hT : Typed c n b) (hlb : ∀ i, bnd (lf i)) (hmb : ∀ i, bnd (mt i)) (hmt : kind = 2 → ∀ x : Int, (if 0 ≤ x ∧ x < 8 then M mr x.toNat else 0) = mt x) (wla : ∀ k, wb W0 la k = false) (wmr : ∀ k, wb W0 mr k = false) : ax_Ev L X SH 2 60 [(2, (p : Int)), (2, (la : Int)), (2, (mr : Int))] M (R1 0 (fun x M' => x = pval lf mt c n ∧ Sb W0 M M')) := by
  show ax_G L X SH 2 60 0 [(2, (p : Int)), (2, (la : Int)), (2, (mr : Int)), (3, 0), (3, 0), (3, 0), (3, 0)] [] M _
  have hC := at60
  refine g0 hC rfl ?_
  refine s3 hC rfl rfl rfl ?_
  refine g0 hC rfl ?_
  refine s4 hC rfl rfl rfl ?_
  exact m60l hF hp hla hmr hnl hc hlv hT hlb hmb hmt wla wmr n 0 (Nat.zero_add n) _ _ ⟨_, _, rfl, Sb.refl, fun q hq => absurd hq (Nat.not_lt_zero q)⟩
theorem m60z {p la mr : Nat} (hp : isP p) (h0 : M p 1 = 0) : ax_Ev L X SH 2 60 [(2, (p : Int)), (2, (la : Int)), (2, (mr : Int))] M (R1 0 (fun x M' => x = 0 ∧ M' = M)) := by
  show ax_G L X SH 2 60 0 [(2, (p : Int)), (2, (la : Int)), (2, (mr : Int)), (3, 0), (3, 0), (3, 0), (3, 0)] [] M _
  have hC := at60
  refine g0 hC rfl ?_
  refine s3 hC rfl rfl rfl ?_
  refine g0 hC rfl ?_
  refine s4 hC rfl rfl rfl ?_
  refine g3 hC rfl rfl ?_
  refine g3 hC rfl rfl ?_
  refine g19 hC rfl (shPg hp) (Nat.le_of_ble_eq_true rfl) rfl h0 ?_
  refine g13g hC rfl (fun h7 => ?_) (fun h7 => (by omega))
  refine g3 hC rfl rfl ?_
  refine g12s hC rfl (fun h100 => ?_) (fun h100 => (by omega))
  refine g0 hC rfl ?_
  refine ret1 hC rfl rfl ?_
  exact ⟨rfl, rfl⟩
end VAL
