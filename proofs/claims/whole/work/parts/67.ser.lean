section SER
variable {L : Nat} {X : Nat → Int} {M V : ax_M} {h n : Nat} {f g : Nat → Int}
theorem m124 (hF : Fix M) (hh : h = 9 ∨ h = 27) (hG : GG n h M) (hn : n ≤ 1000) : ax_Ev L X SH 3 124 [(2, 0)] M (R1 0 (fun x M' => (¬ seeOk (nC M h) (M 2) (M 1 1) ∧ x = -1 ∧ M' = ax_up (ax_up M 1 1 0) 140 1 (M 140 1 + 1)) ∨ (seeOk (nC M h) (M 2) (M 1 1) ∧ x = M 1 1 / 2 ∧ Sb W124 M M' ∧ M' 1 1 = 0 ∧ M' 122 0 = M 1 1 / 2 ∧ ∀ j : Nat, ((2 * j : Nat) : Int) < M 1 1 → M' 123 j = M 2 (2 * j) ∧ M' 124 j = cv (M 2 (2 * j + 1))))) := by
  show ax_G L X SH 3 124 0 [(2, 0), (3, 0)] [] M _
  have hC := at124
  have hw : wok W124 = true := by decide +kernel
  have hwh : hok W124 h := hokB (by decide +kernel) hh
  have hS : Sb W124 M M := Sb.refl
  have hV : HV M h M := HV.refl
  have hH3 : M 0 3 = (h : Int) := hG.2.2.2.2.2.2.2.2.2.1.1
  have hW := hG.1
  have hB : bB (M 2) := fun i hi => (hG.2.2.2.2.1.2.1 i hi).2
  have hN1 := hG.2.2.2.2.2.1 1 (by decide)
  have hl := hG.2.2.2.2.1.1
  have hc8 := hW.1.2.2.2.2
  by_cases z : seeOk (nC M h) (M 2) (M 1 1)
  · skip
    refine g3 hC rfl rfl ?_
    refine g19 hC rfl rfl (Nat.le_of_ble_eq_true rfl) rfl ((hS.fix hw hF).g rfl) ?_
    refine g3 hC rfl rfl ?_
    refine g19 hC rfl rfl (Nat.le_of_ble_eq_true rfl) rfl ((hS.fix hw hF).g rfl) ?_
    refine g3 hC rfl rfl ?_
    refine g19 hC rfl rfl (Nat.le_of_ble_eq_true rfl) rfl ((hS _ _ rfl).trans hH3) ?_
    refine g19 hC rfl (shH hh) (Nat.le_of_ble_eq_true rfl) rfl (rd3 hS hwh hV hW) ?_
    refine c1 hC rfl rfl rfl (Nat.le_of_ble_eq_true rfl) (Nat.le_of_ble_eq_true rfl) rfl (m79 hF hB ⟨hl.1, hl.2.1⟩ hc8) (Nat.le_of_ble_eq_true rfl) (fun x M2 hr => ?_)
    obtain ⟨hx1, hr0, hr1, hr2⟩ : x = 1 ∧ Sb W79 M M2 ∧ M2 122 0 = M 1 1 / 2 ∧ ∀ j : Nat, ((2 * j : Nat) : Int) < M 1 1 → M2 123 j = M 2 (2 * j) ∧ M2 124 j = cv (M 2 (2 * j + 1)) := (by rcases hr with y | y; exact absurd z y.2.1; exact ⟨y.1, y.2.2⟩); have hS := hS.then hr0 rfl
    refine s1 hC rfl rfl rfl ?_
    refine g3 hC rfl rfl ?_
    refine g19 hC rfl rfl (Nat.le_of_ble_eq_true rfl) rfl ((hS.fix hw hF).g rfl) ?_
    refine g0 hC rfl ?_
    refine g20s hC rfl rfl (Nat.le_of_ble_eq_true rfl) rfl hS rfl (fun hS => ?_)
    refine g3 hC rfl rfl ?_
    refine g12e hC rfl (fun h14 => (by omega)) (fun h14 => ?_)
    refine g3 hC rfl rfl ?_
    refine g19 hC rfl rfl (Nat.le_of_ble_eq_true rfl) rfl ((hS.fix hw hF).g rfl) ?_
    refine g19 hC rfl rfl (Nat.le_of_ble_eq_true rfl) rfl ((ax_up2n (by decide)).trans hr1) ?_
    refine g14 hC rfl ?_
    refine ret1 hC rfl rfl ?_
    exact Or.inr ⟨z, rfl, hS, ax_up_at, (ax_up2n (by decide)).trans hr1, hr2⟩
  · skip
    refine g3 hC rfl rfl ?_
    refine g19 hC rfl rfl (Nat.le_of_ble_eq_true rfl) rfl ((hS.fix hw hF).g rfl) ?_
    refine g3 hC rfl rfl ?_
    refine g19 hC rfl rfl (Nat.le_of_ble_eq_true rfl) rfl ((hS.fix hw hF).g rfl) ?_
    refine g3 hC rfl rfl ?_
    refine g19 hC rfl rfl (Nat.le_of_ble_eq_true rfl) rfl ((hS _ _ rfl).trans hH3) ?_
    refine g19 hC rfl (shH hh) (Nat.le_of_ble_eq_true rfl) rfl (rd3 hS hwh hV hW) ?_
    refine c1 hC rfl rfl rfl (Nat.le_of_ble_eq_true rfl) (Nat.le_of_ble_eq_true rfl) rfl (m79 hF hB ⟨hl.1, hl.2.1⟩ hc8) (Nat.le_of_ble_eq_true rfl) (fun x M2 hr => ?_)
    obtain ⟨hx1, hr0⟩ : x = 0 ∧ M2 = M := by rcases hr with y | y; exact ⟨y.1, y.2.2⟩; exact absurd y.2.1 z
    refine s1 hC rfl rfl rfl ?_
    subst hr0
    refine g3 hC rfl rfl ?_
    refine g19 hC rfl rfl (Nat.le_of_ble_eq_true rfl) rfl ((hS.fix hw hF).g rfl) ?_
    refine g0 hC rfl ?_
    refine g20s hC rfl rfl (Nat.le_of_ble_eq_true rfl) rfl hS rfl (fun hS => ?_)
    refine g3 hC rfl rfl ?_
    refine g12e hC rfl (fun h14 => ?_) (fun h14 => (by omega))
    refine g3 hC rfl rfl ?_
    refine g0 hC rfl ?_
    refine c1 hC rfl rfl rfl (Nat.le_of_ble_eq_true rfl) (Nat.le_of_ble_eq_true rfl) rfl (m138 (k := 1) (hS.fix hw hF) (by decide) (by rw [ax_up2n (by decide)]; omega)) (Nat.le_of_ble_eq_true rfl) (fun x M2 hr => ?_)
    obtain ⟨rfl, hr⟩ := hr
    refine ret1 hC rfl rfl ?_
    exact Or.inl ⟨z, rfl, hr⟩
theorem m248 (hF : Fix M) (hV : RV V h M) (hW : HW V h) (hB : bB (M 143)) (hlen : 0 ≤ M 142 1 ∧ M 142 1 ≤ 1600) (hN1 : 0 ≤ M 144 1 ∧ M 144 1 ≤ 1000000) : ax_Ev L X SH 3 248 [(2, 142)] M (R1 0 (fun x M' => (¬ seeOk (nC V h) (M 143) (M 142 1) ∧ x = -1 ∧ M' = ax_up (ax_up M 142 1 0) 144 1 (M 144 1 + 1)) ∨ (seeOk (nC V h) (M 143) (M 142 1) ∧ x = M 142 1 / 2 ∧ Sb X248 M M' ∧ M' 142 1 = 0 ∧ M' 142 76 = M 142 1 / 2 ∧ ∀ j : Nat, ((2 * j : Nat) : Int) < M 142 1 → M' 200 (2 * j) = M 143 (2 * j) ∧ M' 200 (2 * j + 1) = cv (M 143 (2 * j + 1))))) := by
  show ax_G L X SH 3 248 0 [(2, 142), (3, 0), (3, 0), (3, 0)] [] M _
  obtain ⟨P, hP⟩ : ∃ P, P = fun (x : Int) M' => (¬ seeOk (nC V h) (M 143) (M 142 1) ∧ x = -1 ∧ M' = ax_up (ax_up M 142 1 0) 144 1 (M 144 1 + 1)) ∨ (seeOk (nC V h) (M 143) (M 142 1) ∧ x = M 142 1 / 2 ∧ Sb X248 M M' ∧ M' 142 1 = 0 ∧ M' 142 76 = M 142 1 / 2 ∧ ∀ j : Nat, ((2 * j : Nat) : Int) < M 142 1 → M' 200 (2 * j) = M 143 (2 * j) ∧ M' 200 (2 * j + 1) = cv (M 143 (2 * j + 1))) := ⟨_, rfl⟩
  rw [← hP]
  have hC := at248
  have hw : wok X248 = true := by decide +kernel
  have hwr : rok X248 := rokB (by decide +kernel)
  have hS : Sb X248 M M := Sb.refl
  have hc8 := hW.1.2.2.2.2
  obtain ⟨len, hl⟩ : ∃ len : Nat, M 142 1 = (len : Int) := ⟨(M 142 1).toNat, by omega⟩
  have refu : ¬ seeOk (nC V h) (M 143) (M 142 1) → ∀ v3, ax_G L X SH 3 248 65 [(2, 142), (0, (len : Int)), (0, 0), v3] [] (ax_up M 142 1 0) (R1 0 P) := by
    intro z v3
    have hS := hS.up (a := 142) (k := 1) (x := 0) rfl
    refine g3 hC rfl rfl ?_
    refine g12n hC rfl (fun h66 => (by omega)) (fun h66 => ?_)
    refine g3 hC rfl rfl ?_
    refine g0 hC rfl ?_
    refine c1 hC rfl rfl rfl (Nat.le_of_ble_eq_true rfl) (Nat.le_of_ble_eq_true rfl) (mayR k247 rfl) (m247 (k := 1) (hS.fix hw hF) (by decide) (show 0 ≤ ax_up M 142 1 0 144 1 ∧ ax_up M 142 1 0 144 1 ≤ 1000000 by rw [ax_up2n (by decide)]; exact hN1)) (Nat.le_of_ble_eq_true rfl) (fun x M2 hr => ?_)
    obtain ⟨rfl, hr⟩ := hr
    refine ret1 hC rfl rfl ?_
    rw [hP]
    exact Or.inl ⟨z, rfl, hr⟩
  have l2 : ∀ q : Nat, len = 2 * q → q ≤ 16 → seeOk (nC V h) (M 143) (M 142 1) → ∀ (m k : Nat), k + m = q → ∀ ll M1, (ll = [(2, 142), (0, (len : Int)), (0, 1), (0, ((2 * k : Nat) : Int))] ∧ Sb X248 M M1 ∧ M1 142 1 = 0 ∧ ∀ j, j < k → M1 200 (2 * j) = M 143 (2 * j) ∧ M1 200 (2 * j + 1) = cv (M 143 (2 * j + 1))) → ax_G L X SH 3 248 73 ll [] M1 (R1 0 P) := by
    intro q hq hq16 hok
    refine lp ?_ ?_
    · rintro ll M1 ⟨rfl, hS, e1, e2⟩
      refine g3 hC rfl rfl ?_
      refine g3 hC rfl rfl ?_
      refine g13g hC rfl (fun h75 => ?_) (fun h75 => (by omega))
      refine g3 hC rfl rfl ?_
      refine g3 hC rfl rfl ?_
      refine g0 hC rfl ?_
      refine g6dN (a := len) (b := 2) hC rfl rfl rfl (by decide) (by omega) ?_
      refine g20s hC rfl sh142 (flt12 rfl) (by rw [fy12_76]; rfl) hS rfl (fun hS => ?_)
      refine g3 hC rfl rfl ?_
      refine g19 hC rfl sh142 (flt12 rfl) ft12_76 ax_up_at ?_
      refine ret1 hC rfl rfl ?_
      rw [hP]
      refine Or.inr ⟨hok, by omega, hS, (up2 (by decide)).trans e1, by rw [ax_up_at]; omega, fun j hj => e2 j (by omega)⟩
    · rintro k hk ll M1 ⟨rfl, hS, e1, e2⟩ hnext
      have nxD : ∀ y M3, y = cv (M 143 (2 * k + 1)) → Sb X248 M M3 → M3 = ax_up (ax_up M1 200 (2 * k) (M 143 (2 * k))) 200 (2 * k + 1) y → ax_G L X SH 3 248 73 [(2, 142), (0, (len : Int)), (0, 1), (0, ((2 * k : Nat) : Int) + 2)] [] M3 (R1 0 P) := by
        intro y M3 hy hS e
        refine hnext _ _ ⟨by rw [show ((2 * k : Nat) : Int) + 2 = ((2 * (k + 1) : Nat) : Int) by omega], hS, by rw [e, ax_up2n (by decide), ax_up2n (by decide)]; exact e1, fun j hj => ?_⟩
        rw [e, ax_upf, ax_upf]
        unfold up
        by_cases z : j = k
        · rw [if_neg (by omega), if_pos (by omega), if_pos (by omega), z]; exact ⟨rfl, hy⟩
        · rw [if_neg (by omega), if_neg (by omega), if_neg (by omega), if_neg (by omega)]; exact e2 j (by omega)
      refine g3 hC rfl rfl ?_
      refine g3 hC rfl rfl ?_
      refine g13g hC rfl (fun h75 => (by omega)) (fun h75 => ?_)
      refine g3 hC rfl rfl ?_
      refine g19 hC rfl sh142 (flt12 rfl) ft12_77 ((hS.fix hw hF).g fx_142_77) ?_
      refine g3 hC rfl rfl ?_
      refine g3 hC rfl rfl ?_
      refine g19 hC rfl sh142 (flt12 rfl) ft12_0 ((hS.fix hw hF).g fx_142_0) ?_
      refine g3 hC rfl rfl ?_
      refine r21 ((2*k)) hC rfl (by omega) sh143 (Or.inl rfl) (by omega) (hS 143 ((2*k)) rfl) ?_
      refine r22s ((2*k)) hC rfl (by omega) sh200 (by omega) rfl hS rfl (fun hS => ?_)
      refine g3 hC rfl rfl ?_
      refine g19 hC rfl sh142 (flt12 rfl) ft12_77 ((hS.fix hw hF).g fx_142_77) ?_
      refine g3 hC rfl rfl ?_
      refine g0 hC rfl ?_
      refine g6a hC rfl ⟨by omega, by omega⟩ ?_
      refine g3 hC rfl rfl ?_
      refine g19 hC rfl sh142 (flt12 rfl) ft12_0 ((hS.fix hw hF).g fx_142_0) ?_
      refine g3 hC rfl rfl ?_
      refine g0 hC rfl ?_
      refine g6a hC rfl ⟨by omega, by omega⟩ ?_
      refine r21 (((2*k) + 1)) hC rfl (by omega) sh143 (Or.inl rfl) (by omega) (hS 143 (((2*k) + 1)) rfl) ?_
      refine g0 hC rfl ?_
      refine g13n hC rfl (fun h96 => ?_) (fun h96 => ?_)
      ·
        refine g3 hC rfl rfl ?_
        refine g19 hC rfl sh142 (flt12 rfl) ft12_0 ((hS.fix hw hF).g fx_142_0) ?_
        refine g3 hC rfl rfl ?_
        refine g0 hC rfl ?_
        refine g6a hC rfl ⟨by omega, by omega⟩ ?_
        refine r21 (((2*k) + 1)) hC rfl (by omega) sh143 (Or.inl rfl) (by omega) (hS 143 (((2*k) + 1)) rfl) ?_
        refine r22s (((2*k) + 1)) hC rfl (by omega) sh200 (by omega) rfl hS rfl (fun hS => ?_)
        refine n3 hC rfl rfl ⟨by omega, by omega⟩ ?_
        refine g14 hC rfl ?_
        exact nxD _ _ (by unfold cv; rw [if_neg h96]) hS rfl
      ·
        refine g0 hC rfl ?_
        refine g14 hC rfl ?_
        refine r22s (((2*k) + 1)) hC rfl (by omega) sh200 (by omega) rfl hS rfl (fun hS => ?_)
        refine n3 hC rfl rfl ⟨by omega, by omega⟩ ?_
        refine g14 hC rfl ?_
        exact nxD _ _ (by unfold cv; rw [if_pos (by omega)]) hS rfl
  have l1 : ∀ q : Nat, len = 2 * q → 1 ≤ q → q ≤ 16 → ∀ (m k : Nat), k + m = q → ∀ ll M1, (∃ r : Int, ll = [(2, 142), (0, (len : Int)), (0, r), (0, ((2 * k : Nat) : Int))] ∧ M1 = ax_up M 142 1 0 ∧ ((r = 1 ∧ ∀ j, j < k → M 143 (2 * j) < (nC V h : Int) ∧ mnt (M 143 (2 * j + 1))) ∨ (r = 0 ∧ ¬ seeOk (nC V h) (M 143) (M 142 1)))) → ax_G L X SH 3 248 23 ll [] M1 (R1 0 P) := by
    intro q hq hq1 hq16
    refine lp ?_ ?_
    · rintro ll M1 ⟨r, rfl, rfl, e1⟩
      have hS := hS.up (a := 142) (k := 1) (x := 0) rfl
      rcases e1 with ⟨rfl, e1⟩ | ⟨rfl, e1⟩
      · skip
        refine g3 hC rfl rfl ?_
        refine g3 hC rfl rfl ?_
        refine g13g hC rfl (fun h25 => ?_) (fun h25 => (by omega))
        refine g3 hC rfl rfl ?_
        refine g12n hC rfl (fun h66 => ?_) (fun h66 => (by omega))
        refine g0 hC rfl ?_
        refine s3 hC rfl rfl rfl ?_
        exact l2 q hq hq16 ⟨q, by omega, hq1, hq16, e1⟩ q 0 (Nat.zero_add _) _ _ ⟨rfl, hS, ax_up_at, fun j hj => absurd hj (Nat.not_lt_zero j)⟩
      · skip
        refine g3 hC rfl rfl ?_
        refine g3 hC rfl rfl ?_
        refine g13g hC rfl (fun h25 => ?_) (fun h25 => (by omega))
        exact refu e1 _
    · rintro k hk ll M1 ⟨r, rfl, rfl, e1⟩ hnext
      have hS := hS.up (a := 142) (k := 1) (x := 0) rfl
      rcases e1 with ⟨rfl, e1⟩ | ⟨rfl, e1⟩
      · have c1b := hB (2 * k) (by omega)
        have bad : ¬ (M 143 (2 * k) < (nC V h : Int) ∧ mnt (M 143 (2 * k + 1))) → ¬ seeOk (nC V h) (M 143) (M 142 1) := by
          rintro z ⟨q', w1, w2, w3, w4⟩
          exact z (w4 k (by omega))
        have ej : ((2 * k : Nat) : Int) + 2 = ((2 * (k + 1) : Nat) : Int) := by omega
        have good : M 143 (2 * k) < (nC V h : Int) → mnt (M 143 (2 * k + 1)) → ∀ j, j < k + 1 → M 143 (2 * j) < (nC V h : Int) ∧ mnt (M 143 (2 * j + 1)) := by
          intro g1 g2 j hj
          by_cases z : j = k
          · rw [z]; exact ⟨g1, g2⟩
          · exact e1 j (by omega)
        unfold mnt at bad good
        refine g3 hC rfl rfl ?_
        refine g3 hC rfl rfl ?_
        refine g13g hC rfl (fun h25 => (by omega)) (fun h25 => ?_)
        refine g3 hC rfl rfl ?_
        refine g12e hC rfl (fun h27 => (by omega)) (fun h27 => ?_)
        refine g3 hC rfl rfl ?_
        refine g3 hC rfl rfl ?_
        refine g19 hC rfl sh142 (flt12 rfl) ft12_0 ((hS.fix hw hF).g fx_142_0) ?_
        refine g3 hC rfl rfl ?_
        refine r21 ((2*k)) hC rfl (by omega) sh143 (Or.inl rfl) (by omega) (hS 143 ((2*k)) rfl) ?_
        refine c1 hC rfl rfl rfl (Nat.le_of_ble_eq_true rfl) (Nat.le_of_ble_eq_true rfl) (mayR k189 rfl) (m189 (hS.fix hw hF) (hV.sb hS hwr) hW) (Nat.le_of_ble_eq_true rfl) (fun x M4 hr => ?_)
        obtain ⟨hx, hr⟩ := hr; replace hr := hr.symm; subst hr
        refine g12e hC rfl (fun h34 => ?_) (fun h34 => ?_)
        ·
          refine g0 hC rfl ?_
          refine s2 hC rfl rfl rfl ?_
          refine n3 hC rfl rfl ⟨by omega, by omega⟩ ?_
          refine g14 hC rfl ?_
          refine hnext _ _ ⟨0, by rw [ej], rfl, Or.inr ⟨rfl, bad (fun w => ?_)⟩⟩
          rw [if_pos ⟨c1b.1, w.1⟩] at hx; omega
        ·
          refine g3 hC rfl rfl ?_
          refine g19 hC rfl sh142 (flt12 rfl) ft12_0 ((hS.fix hw hF).g fx_142_0) ?_
          refine g3 hC rfl rfl ?_
          refine g0 hC rfl ?_
          refine g6a hC rfl ⟨by omega, by omega⟩ ?_
          refine r21 (((2*k) + 1)) hC rfl (by omega) sh143 (Or.inl rfl) (by omega) (hS 143 (((2*k) + 1)) rfl) ?_
          refine g0 hC rfl ?_
          refine g13l hC rfl (fun h42 => ?_) (fun h42 => ?_)
          ·
            refine g0 hC rfl ?_
            refine g14 hC rfl ?_
            refine s2 hC rfl rfl rfl ?_
            refine n3 hC rfl rfl ⟨by omega, by omega⟩ ?_
            refine g14 hC rfl ?_
            refine hnext _ _ ⟨1, by rw [ej], rfl, Or.inl ⟨rfl, good ?_ (by omega)⟩⟩
            by_cases w : M 143 (2 * k) < (nC V h : Int)
            · exact w
            · rw [if_neg (fun q => w q.2)] at hx; omega
          ·
            refine g3 hC rfl rfl ?_
            refine g19 hC rfl sh142 (flt12 rfl) ft12_0 ((hS.fix hw hF).g fx_142_0) ?_
            refine g3 hC rfl rfl ?_
            refine g0 hC rfl ?_
            refine g6a hC rfl ⟨by omega, by omega⟩ ?_
            refine r21 (((2*k) + 1)) hC rfl (by omega) sh143 (Or.inl rfl) (by omega) (hS 143 (((2*k) + 1)) rfl) ?_
            refine g0 hC rfl ?_
            refine g13e hC rfl (fun h50 => ?_) (fun h50 => ?_)
            ·
              refine g0 hC rfl ?_
              refine g14 hC rfl ?_
              refine s2 hC rfl rfl rfl ?_
              refine n3 hC rfl rfl ⟨by omega, by omega⟩ ?_
              refine g14 hC rfl ?_
              refine hnext _ _ ⟨1, by rw [ej], rfl, Or.inl ⟨rfl, good ?_ (by omega)⟩⟩
              by_cases w : M 143 (2 * k) < (nC V h : Int)
              · exact w
              · rw [if_neg (fun q => w q.2)] at hx; omega
            ·
              refine g3 hC rfl rfl ?_
              refine g19 hC rfl sh142 (flt12 rfl) ft12_0 ((hS.fix hw hF).g fx_142_0) ?_
              refine g3 hC rfl rfl ?_
              refine g0 hC rfl ?_
              refine g6a hC rfl ⟨by omega, by omega⟩ ?_
              refine r21 (((2*k) + 1)) hC rfl (by omega) sh143 (Or.inl rfl) (by omega) (hS 143 (((2*k) + 1)) rfl) ?_
              refine g0 hC rfl ?_
              refine g13n hC rfl (fun h58 => ?_) (fun h58 => ?_)
              ·
                refine g0 hC rfl ?_
                refine s2 hC rfl rfl rfl ?_
                refine n3 hC rfl rfl ⟨by omega, by omega⟩ ?_
                refine g14 hC rfl ?_
                exact hnext _ _ ⟨0, by rw [ej], rfl, Or.inr ⟨rfl, bad (fun w => by have := w.2; omega)⟩⟩
              ·
                refine g0 hC rfl ?_
                refine g14 hC rfl ?_
                refine s2 hC rfl rfl rfl ?_
                refine n3 hC rfl rfl ⟨by omega, by omega⟩ ?_
                refine g14 hC rfl ?_
                refine hnext _ _ ⟨1, by rw [ej], rfl, Or.inl ⟨rfl, good ?_ (by omega)⟩⟩
                by_cases w : M 143 (2 * k) < (nC V h : Int)
                · exact w
                · rw [if_neg (fun q => w q.2)] at hx; omega
      · skip
        refine g3 hC rfl rfl ?_
        refine g3 hC rfl rfl ?_
        refine g13g hC rfl (fun h25 => (by omega)) (fun h25 => ?_)
        refine g3 hC rfl rfl ?_
        refine g12e hC rfl (fun h27 => ?_) (fun h27 => (by omega))
        exact refu e1 _
  have l0 : (∀ q' : Nat, len = 2 * q' → 1 ≤ q' → q' ≤ 16 → False) → ¬ seeOk (nC V h) (M 143) (M 142 1) := by
    rintro z ⟨q', w1, w2, w3, w4⟩
    exact z q' (by omega) w2 w3
  have lz : ¬ seeOk (nC V h) (M 143) (M 142 1) → ax_G L X SH 3 248 23 [(2, 142), (0, (len : Int)), (0, 0), (0, 0)] [] (ax_up M 142 1 0) (R1 0 P) := by
    intro z
    have hS := hS.up (a := 142) (k := 1) (x := 0) rfl
    refine g3 hC rfl rfl ?_
    refine g3 hC rfl rfl ?_
    refine g13g hC rfl (fun h25 => ?_) (fun h25 => ?_)
    ·
      exact refu z _
    ·
      refine g3 hC rfl rfl ?_
      refine g12e hC rfl (fun h27 => ?_) (fun h27 => (by omega))
      exact refu z _
  refine g3 hC rfl rfl ?_
  refine g19 hC rfl sh142 (flt12 rfl) ft12_1 hl ?_
  refine s1 hC rfl rfl rfl ?_
  refine g3 hC rfl rfl ?_
  refine g0 hC rfl ?_
  refine g20s hC rfl sh142 (flt12 rfl) (by rw [fy12_1]; rfl) hS rfl (fun hS => ?_)
  refine g3 hC rfl rfl ?_
  refine g12s hC rfl (fun h7 => ?_) (fun h7 => ?_)
  ·
    refine g0 hC rfl ?_
    refine s2 hC rfl rfl rfl ?_
    refine g0 hC rfl ?_
    refine s3 hC rfl rfl rfl ?_
    exact lz (l0 (fun q' a b c => by omega))
  ·
    refine g3 hC rfl rfl ?_
    refine g0 hC rfl ?_
    refine g6rN (a := len) (b := 2) hC rfl rfl rfl (by decide) (by omega) ?_
    refine g12n hC rfl (fun h11 => ?_) (fun h11 => ?_)
    ·
      refine g0 hC rfl ?_
      refine s2 hC rfl rfl rfl ?_
      refine g0 hC rfl ?_
      refine s3 hC rfl rfl rfl ?_
      exact lz (l0 (fun q' a b c => by omega))
    ·
      refine g3 hC rfl rfl ?_
      refine g0 hC rfl ?_
      refine g6dN (a := len) (b := 2) hC rfl rfl rfl (by decide) (by omega) ?_
      refine g0 hC rfl ?_
      refine g13t hC rfl (fun h16 => ?_) (fun h16 => ?_)
      ·
        refine g0 hC rfl ?_
        refine s2 hC rfl rfl rfl ?_
        refine g0 hC rfl ?_
        refine s3 hC rfl rfl rfl ?_
        exact lz (l0 (fun q' a b c => by omega))
      ·
        refine g0 hC rfl ?_
        refine g14 hC rfl ?_
        refine s2 hC rfl rfl rfl ?_
        refine g0 hC rfl ?_
        refine s3 hC rfl rfl rfl ?_
        exact l1 (len / 2) (by omega) (by omega) (by omega) (len / 2) 0 (Nat.zero_add _) _ _ ⟨1, rfl, rfl, Or.inl ⟨rfl, fun j hj => absurd hj (Nat.not_lt_zero j)⟩⟩
theorem see_cg {c : Nat} {len : Int} (hl : len ≤ 1600) (hfg : ∀ i, i < 1600 → f i = g i) : seeOk c f len → seeOk c g len := by
  rintro ⟨q, w1, w2, w3, w4⟩
  refine ⟨q, w1, w2, w3, fun j hj => ?_⟩
  rw [← hfg _ (by omega), ← hfg _ (by omega)]; exact w4 j hj
theorem op24 (hR0 : Rel n M) (hn : n ≤ 1000) : OP L X n 0 124 248 [(2, 0)] [(2, 142)] M := by
  have hR := hR0
  obtain ⟨h, hh, hF, hG⟩ := hR
  have hG0 := hG
  obtain ⟨hW, hSW, hPW, hRV, hGT, hGN, hGM, hGH, hGS, hGX⟩ := hG
  have hV : HV M h M := HV.refl
  have hH3 : M 0 3 = (h : Int) := hGX.1.1
  have hN1 := hGN 1 (by decide)
  have ht := hGT.1
  have hfg : ∀ i, i < 1600 → M 2 i = M 143 i := fun i hi => (hGT.2.1 i hi).1.symm
  have hB : bB (M 2) := fun i hi => (hGT.2.1 i hi).2
  have hB3 : bB (M 143) := fun i hi => by rw [(hGT.2.1 i hi).1]; exact hB i hi
  refine OP.tw (d' := 3) (m124 hF hh hG0 hn) (Q := fun x M1 y M2 => (¬ seeOk (nC M h) (M1 143) (M1 142 1) ∧ y = -1 ∧ M2 = ax_up (ax_up M1 142 1 0) 144 1 (M1 144 1 + 1)) ∨ (seeOk (nC M h) (M1 143) (M1 142 1) ∧ y = M1 142 1 / 2 ∧ Sb X248 M1 M2 ∧ M2 142 1 = 0 ∧ M2 142 76 = M1 142 1 / 2 ∧ ∀ j : Nat, ((2 * j : Nat) : Int) < M1 142 1 → M2 200 (2 * j) = M1 143 (2 * j) ∧ M2 200 (2 * j + 1) = cv (M1 143 (2 * j + 1)))) (fun x M1 hx => ?_) (fun x M1 y M2 hx hy => ?_) (by decide) (by decide)
  · have hs : Sb (W124.1 ++ [(140, 141)], W124.2) M M1 := by
      rcases hx with ⟨-, -, rfl⟩ | ⟨-, -, hs, -⟩
      · exact (Sb.refl.up rfl).up rfl
      · exact hs.mono rfl
    have e3 : M1 143 = M 143 := funext fun k => hs 143 k rfl
    refine m248 (hs.fix (by decide +kernel) hF) (hRV.sb hs (rokB (by decide +kernel))) hW (by rw [e3]; exact hB3) (by rw [hs 142 1 rfl]; omega) (by rw [hs 144 1 rfl]; omega)
  · have him : seeOk (nC M h) (M 2) (M 1 1) ↔ seeOk (nC M h) (M 143) (M 142 1) := by
      rw [ht.2.2]
      exact ⟨see_cg ht.2.1 hfg, see_cg ht.2.1 (fun i hi => (hfg i hi).symm)⟩
    rcases hx with ⟨x1, rfl, rfl⟩ | ⟨x1, rfl, hs, f1, f2, f3⟩
    · rcases hy with ⟨-, y2, y3⟩ | ⟨y1, -⟩
      · exact ⟨y2, relIncT (k := 1) hR0 y3⟩
      · exact absurd (him.2 y1) x1
    · have e3 : M1 143 = M 143 := funext fun k => hs 143 k rfl
      have e1 : M1 142 1 = M 1 1 := (hs 142 1 rfl).trans ht.2.2
      rw [e3, e1] at hy
      rcases hy with ⟨y1, -⟩ | ⟨-, y2, hs2, g1, g2, g3⟩
      · rw [← ht.2.2] at y1; exact absurd (him.1 x1) y1
      · have hT : Sb WXS M M2 := (hs.mono rfl).then hs2 rfl
        obtain ⟨q, w1, w2, w3, w4⟩ := x1
        have hq : M 1 1 / 2 = (q : Int) := by omega
        refine ⟨y2, h, hh, hT.fix (by decide +kernel) hF, hG0.re hh hT rfl (Or.inl rfl) (Or.inl rfl) (Or.inl rfl) (Or.inr ?_) (Or.inl ⟨rfl, by omega⟩) (Or.inl rfl) (Or.inl rfl) (Or.inr ?_) (Or.inl rfl)⟩
        · obtain ⟨a1, a2, a3, a4⟩ := hGT
          have e11 : M2 1 1 = 0 := (hs2 1 1 rfl).trans f1
          refine ⟨⟨by omega, by omega, by omega⟩, fun i hi => ?_, ?_, ?_⟩
          · rw [hT 143 i rfl, hT 2 i rfl]; exact a2 i hi
          · rw [hT 142 7 rfl, hT 1 8 rfl]; exact a3
          · rw [hT 142 8 rfl, hT 1 9 rfl]; exact a4
        · have e122 : M2 122 0 = (q : Int) := by rw [hs2 122 0 rfl, f2, hq]
          have sq : sN M2 = q := by unfold sN; rw [e122]; rfl
          obtain ⟨n1, n2, n3, n4⟩ := nREq hT (hokB (by decide +kernel) hh)
          have hc8 := hW.1.2.2.2.2
          refine ⟨⟨by rw [sq, e122], by rw [sq]; exact w3, by rw [sq, g2, hq]⟩, fun k hk => ?_⟩
          rw [sq] at hk
          have c1 := f3 k (by omega)
          have c2 := g3 k (by omega)
          have b1 := hB (2 * k) (by omega)
          have b2 := (w4 k hk).1
          rw [hs2 123 k rfl, hs2 124 k rfl, n4, c1.1, c1.2, c2.1, c2.2, ← hfg _ (by omega), ← hfg _ (by omega)]
          exact ⟨⟨by omega, by omega, rfl⟩, rfl⟩
end SER
