def El (V : ax_M) (h : Nat) (fa fr : Nat → Int) (r s : Nat) : Prop := lead V h s r ≠ -1 ∧ 0 < fr s ∧ fa (lead V h s r).toNat ≠ -1 ∧ fa (lead V h s r).toNat = fa r - 1
theorem pk_min {V : ax_M} {h : Nat} (hW : HW V h) {fa fr : Nat → Int} {r : Nat} : (pk V h fa fr r = -1 ∧ ∀ s, s < nS V h → ¬ El V h fa fr r s) ∨ (∃ s, s < nS V h ∧ pk V h fa fr r = (s : Int) ∧ El V h fa fr r s ∧ ∀ s', s' < nS V h → El V h fa fr r s' → lead V h s r ≤ lead V h s' r) := by
  have hb := hW.1.1.2
  have : ∀ k, k ≤ nS V h → (pkI V h fa fr r k = (-1, 8) ∧ ∀ s, s < k → ¬ El V h fa fr r s) ∨ (∃ s, s < k ∧ pkI V h fa fr r k = ((s : Int), lead V h s r) ∧ El V h fa fr r s ∧ ∀ s', s' < k → El V h fa fr r s' → lead V h s r ≤ lead V h s' r) := by
    intro k
    induction k with
    | zero => intro _; exact Or.inl ⟨rfl, fun s hs => absurd hs (Nat.not_lt_zero s)⟩
    | succ k ih =>
      intro hk
      have e : pkI V h fa fr r (k + 1) = pk1 V h fa fr r k (pkI V h fa fr r k) := rfl
      have hl := lead_b (r := r) hW (show k < nS V h by omega)
      rcases ih (by omega) with ⟨h1, h2⟩ | ⟨s, h1, h2, h3, h4⟩
      · rw [e, h1]
        unfold pk1
        dsimp only
        by_cases z : El V h fa fr r k
        · rw [if_pos ⟨z.1, by omega, z.2⟩]
          refine Or.inr ⟨k, by omega, rfl, z, fun s' hs' hE => ?_⟩
          by_cases y : s' = k
          · rw [y]; omega
          · exact absurd hE (h2 s' (by omega))
        · rw [if_neg (fun y => z ⟨y.1, y.2.2⟩)]
          refine Or.inl ⟨rfl, fun s hs => ?_⟩
          by_cases y : s = k
          · rw [y]; exact z
          · exact h2 s (by omega)
      · rw [e, h2]
        unfold pk1
        dsimp only
        by_cases z : El V h fa fr r k ∧ lead V h k r < lead V h s r
        · rw [if_pos ⟨z.1.1, z.2, z.1.2⟩]
          refine Or.inr ⟨k, by omega, rfl, z.1, fun s' hs' hE => ?_⟩
          by_cases y : s' = k
          · rw [y]; omega
          · have := h4 s' (by omega) hE; omega
        · rw [if_neg (fun y => z ⟨⟨y.1, y.2.2⟩, y.2.1⟩)]
          refine Or.inr ⟨s, by omega, rfl, h3, fun s' hs' hE => ?_⟩
          by_cases y : s' = k
          · rw [y] at hE ⊢
            by_cases q : lead V h k r < lead V h s r
            · exact absurd ⟨hE, q⟩ z
            · omega
          · exact h4 s' (by omega) hE
  rcases this _ (Nat.le_refl _) with ⟨h1, h2⟩ | ⟨s, h1, h2, h3, h4⟩
  · exact Or.inl ⟨by unfold pk; rw [h1], h2⟩
  · exact Or.inr ⟨s, h1, by unfold pk; rw [h2], h3, h4⟩
def joins (V : ax_M) (h s r q : Nat) : Prop := (sa V h s = r ∧ sb V h s = q) ∨ (sa V h s = q ∧ sb V h s = r)
theorem lead_j {V : ax_M} {h s r q : Nat} (hW : HW V h) (hs : s < nS V h) : lead V h s r = (q : Int) ↔ joins V h s r q := by
  have := (hW.2.1 s hs).2.2.1
  unfold lead joins
  split
  · omega
  · split <;> omega
theorem joins_u {V : ax_M} {h s s' r q : Nat} (hW : HW V h) (hs : s < nS V h) (hs' : s' < nS V h) (h1 : joins V h s r q) (h2 : joins V h s' r q) : s = s' := by
  by_cases e : s = s'
  · exact e
  · have := hW.2.2.1 s s' hs hs' e
    unfold joins at h1 h2
    omega
section RST
variable {L : Nat} {X : Nat → Int} {M V : ax_M} {h : Nat}
theorem m199 (hF : Fix M) (hV : RV V h M) (hW : HW V h) {r q : Nat} : ax_Ev L X SH 1 199 [(2, 142), (0, (r : Int)), (0, (q : Int))] M (R1 0 (fun x M' => ((x = -1 ∧ ∀ s, s < nS V h → ¬ joins V h s r q) ∨ (∃ s, s < nS V h ∧ x = (s : Int) ∧ joins V h s r q)) ∧ M' = M)) := by
  show ax_G L X SH 1 199 0 [(2, 142), (0, (r : Int)), (0, (q : Int)), (3, 0), (3, 0), (3, 0)] [] M _
  have hC := at199
  have hw := wX0
  have hwr := rX0
  have hS : Sb X0 M M := Sb.refl
  have hb := hW.1.2.1.2
  have l1 : ∀ (m k : Nat), k + m = nS V h → ∀ ll M1, (∃ u v, ll = [(2, 142), (0, (r : Int)), (0, (q : Int)), (0, (k : Int)), u, v] ∧ (u.1 == 1) = false ∧ M1 = M ∧ ∀ s, s < k → ¬ joins V h s r q) → ax_G L X SH 1 199 2 ll [] M1 (R1 0 (fun x M' => ((x = -1 ∧ ∀ s, s < nS V h → ¬ joins V h s r q) ∨ (∃ s, s < nS V h ∧ x = (s : Int) ∧ joins V h s r q)) ∧ M' = M)) := by
    refine lp ?_ ?_
    · rintro ll M1 ⟨u, v, rfl, hu, rfl, h1⟩
      refine g3 hC rfl rfl ?_
      refine g3 hC rfl rfl ?_
      refine c1 hC rfl rfl rfl (Nat.le_of_ble_eq_true rfl) (Nat.le_of_ble_eq_true rfl) (mayR k184 rfl) (m184 (hS.fix hw hF) (hV.sb hS hwr) hW) (Nat.le_of_ble_eq_true rfl) (fun x M2 hr => ?_)
      obtain ⟨rfl, hr⟩ := hr
      replace hr := hr.symm
      subst hr
      refine g13g hC rfl (fun h5 => ?_) (fun h5 => (by omega))
      refine g0 hC rfl ?_
      refine ret1 hC rfl rfl ?_
      exact ⟨Or.inl ⟨rfl, h1⟩, rfl⟩
    · rintro k hk ll M1 ⟨u, v, rfl, hu, rfl, h1⟩ hnext
      have go : ¬ joins V h k r q → ∀ s, s < k + 1 → ¬ joins V h s r q := by
        intro z s hs
        by_cases e : s = k
        · rw [e]; exact z
        · exact h1 s (by omega)
      refine g3 hC rfl rfl ?_
      refine g3 hC rfl rfl ?_
      refine c1 hC rfl rfl rfl (Nat.le_of_ble_eq_true rfl) (Nat.le_of_ble_eq_true rfl) (mayR k184 rfl) (m184 (hS.fix hw hF) (hV.sb hS hwr) hW) (Nat.le_of_ble_eq_true rfl) (fun x M2 hr => ?_)
      obtain ⟨rfl, hr⟩ := hr
      replace hr := hr.symm
      subst hr
      refine g13g hC rfl (fun h5 => (by omega)) (fun h5 => ?_)
      refine g3 hC rfl rfl ?_
      refine g19 hC rfl sh142 (flt12 rfl) ft12_44 ((hS.fix hw hF).g fx_142_44) ?_
      refine g0 hC rfl ?_
      refine g0 hC rfl ?_
      refine g3 hC rfl rfl ?_
      refine g6m hC rfl ⟨by omega, by omega⟩ ?_
      refine g6a hC rfl ⟨by omega, by omega⟩ ?_
      refine r21 ((30 + (3 * k))) hC rfl (by omega) sh178 (Or.inl rfl) (by omega) (rmA hS hwr hV hW (by omega)) ?_
      refine s4 hC rfl rfl rfl ?_
      refine g3 hC rfl rfl ?_
      refine g19 hC rfl sh142 (flt12 rfl) ft12_44 ((hS.fix hw hF).g fx_142_44) ?_
      refine g0 hC rfl ?_
      refine g0 hC rfl ?_
      refine g3 hC rfl rfl ?_
      refine g6m hC rfl ⟨by omega, by omega⟩ ?_
      refine g6a hC rfl ⟨by omega, by omega⟩ ?_
      refine r21 ((31 + (3 * k))) hC rfl (by omega) sh178 (Or.inl rfl) (by omega) (rmB hS hwr hV hW (by omega)) ?_
      refine s5 hC rfl rfl rfl ?_
      refine g3 hC rfl rfl ?_
      refine g3 hC rfl rfl ?_
      refine g13n hC rfl (fun h26 => ?_) (fun h26 => ?_)
      ·
        refine g3 hC rfl rfl ?_
        refine g3 hC rfl rfl ?_
        refine g13n hC rfl (fun h32 => ?_) (fun h32 => ?_)
        ·
          refine n3 hC rfl rfl ⟨by omega, by omega⟩ ?_
          refine g14 hC rfl ?_
          first | exact hnext _ _ ⟨_, _, rfl, rfl, rfl, go (by unfold joins; omega)⟩ | exact ⟨Or.inr ⟨k, hk, rfl, by unfold joins; omega⟩, rfl⟩
        ·
          refine g3 hC rfl rfl ?_
          refine g3 hC rfl rfl ?_
          refine g13n hC rfl (fun h35 => ?_) (fun h35 => ?_)
          ·
            refine n3 hC rfl rfl ⟨by omega, by omega⟩ ?_
            refine g14 hC rfl ?_
            first | exact hnext _ _ ⟨_, _, rfl, rfl, rfl, go (by unfold joins; omega)⟩ | exact ⟨Or.inr ⟨k, hk, rfl, by unfold joins; omega⟩, rfl⟩
          ·
            refine g3 hC rfl rfl ?_
            refine ret1 hC rfl rfl ?_
            first | exact hnext _ _ ⟨_, _, rfl, rfl, rfl, go (by unfold joins; omega)⟩ | exact ⟨Or.inr ⟨k, hk, rfl, by unfold joins; omega⟩, rfl⟩
      ·
        refine g3 hC rfl rfl ?_
        refine g3 hC rfl rfl ?_
        refine g13e hC rfl (fun h29 => ?_) (fun h29 => ?_)
        ·
          refine g3 hC rfl rfl ?_
          refine ret1 hC rfl rfl ?_
          first | exact hnext _ _ ⟨_, _, rfl, rfl, rfl, go (by unfold joins; omega)⟩ | exact ⟨Or.inr ⟨k, hk, rfl, by unfold joins; omega⟩, rfl⟩
        ·
          refine g3 hC rfl rfl ?_
          refine g3 hC rfl rfl ?_
          refine g13n hC rfl (fun h32 => ?_) (fun h32 => ?_)
          ·
            refine n3 hC rfl rfl ⟨by omega, by omega⟩ ?_
            refine g14 hC rfl ?_
            first | exact hnext _ _ ⟨_, _, rfl, rfl, rfl, go (by unfold joins; omega)⟩ | exact ⟨Or.inr ⟨k, hk, rfl, by unfold joins; omega⟩, rfl⟩
          ·
            refine g3 hC rfl rfl ?_
            refine g3 hC rfl rfl ?_
            refine g13n hC rfl (fun h35 => ?_) (fun h35 => ?_)
            ·
              refine n3 hC rfl rfl ⟨by omega, by omega⟩ ?_
              refine g14 hC rfl ?_
              first | exact hnext _ _ ⟨_, _, rfl, rfl, rfl, go (by unfold joins; omega)⟩ | exact ⟨Or.inr ⟨k, hk, rfl, by unfold joins; omega⟩, rfl⟩
            ·
              refine g3 hC rfl rfl ?_
              refine ret1 hC rfl rfl ?_
              first | exact hnext _ _ ⟨_, _, rfl, rfl, rfl, go (by unfold joins; omega)⟩ | exact ⟨Or.inr ⟨k, hk, rfl, by unfold joins; omega⟩, rfl⟩
  refine g0 hC rfl ?_
  refine s3 hC rfl rfl rfl ?_
  exact l1 (nS V h) 0 (Nat.zero_add _) _ _ ⟨_, _, rfl, rfl, rfl, fun q hq => absurd hq (Nat.not_lt_zero q)⟩
def GF (V : ax_M) (h : Nat) (sm wd : Int) (gn fr : Nat → Int) : Prop := ∀ s, s < nS V h → (V 47 s = 1 ∨ (s : Int) = sm → fr s = 0) ∧ (¬ (V 47 s = 1 ∨ (s : Int) = sm) → gn s = wid V h sm wd s - fr s) ∧ 0 ≤ fr s ∧ fr s ≤ 5 ∧ 0 ≤ gn s ∧ gn s ≤ 5
theorem m200 (hF : Fix M) (hV : RV V h M) (hW : HW V h) {s : Nat} {sm wd : Int} {fr : Nat → Int} (hs : s < nS V h) (hsm : M 142 69 = sm) (hwd : M 142 70 = wd) (hG : GF V h sm wd (M 188) fr) : ax_Ev L X SH 2 200 [(2, 142), (0, (s : Int))] M (R1 0 (fun x M' => x = (if 0 < fr s then 1 else 0) ∧ M' = M)) := by
  show ax_G L X SH 2 200 0 [(2, 142), (0, (s : Int))] [] M _
  have hC := at200
  have hw := wX0
  have hwr := rX0
  have hS : Sb X0 M M := Sb.refl
  have hb := hW.1.2.1.2
  have hst := (hW.2.1 s hs).2.2.2
  have hg := hG s hs
  have hwi : ¬ (V 47 s = 1 ∨ (s : Int) = sm) → wid V h sm wd s = V (h + 6) s + (if (s : Int) = wd then 1 else 0) := fun z => by unfold wid; rw [if_neg z]
  have hcl : (if V 47 s = 1 ∨ (s : Int) = sm then (1 : Int) else 0) = 0 → ¬ (V 47 s = 1 ∨ (s : Int) = sm) := fun e z => by rw [if_pos z] at e; omega
  have hcl2 : ¬ (if V 47 s = 1 ∨ (s : Int) = sm then (1 : Int) else 0) = 0 → (V 47 s = 1 ∨ (s : Int) = sm) := fun e => by
    by_cases z : V 47 s = 1 ∨ (s : Int) = sm
    · exact z
    · rw [if_neg z] at e; omega
  refine g3 hC rfl rfl ?_
  refine g3 hC rfl rfl ?_
  refine c1 hC rfl rfl rfl (Nat.le_of_ble_eq_true rfl) (Nat.le_of_ble_eq_true rfl) (mayR k197 rfl) (m197 (hS.fix hw hF) (hV.sb hS hwr) hW (s := (s)) (by omega) ((hS 142 69 rfl).trans hsm)) (Nat.le_of_ble_eq_true rfl) (fun x M2 hr => ?_)
  obtain ⟨rfl, hr⟩ := hr
  replace hr := hr.symm
  subst hr
  refine g12n hC rfl (fun h3 => ?_) (fun h3 => ?_)
  ·
    refine g0 hC rfl ?_
    refine ret3 hC rfl ⟨by omega, by omega⟩ ?_
    have z := hg.1 (hcl2 h3)
    exact ⟨by rw [if_neg (by omega)], rfl⟩
  ·
    refine g3 hC rfl rfl ?_
    refine g19 hC rfl sh142 (flt12 rfl) ft12_61 ((hS.fix hw hF).g fx_142_61) ?_
    refine g3 hC rfl rfl ?_
    refine r21 (s) hC rfl (by omega) sh188 (Or.inl rfl) (by omega) (hS 188 (s) rfl) ?_
    refine g3 hC rfl rfl ?_
    refine g19 hC rfl sh142 (flt12 rfl) ft12_44 ((hS.fix hw hF).g fx_142_44) ?_
    refine g0 hC rfl ?_
    refine g0 hC rfl ?_
    refine g3 hC rfl rfl ?_
    refine g6m hC rfl ⟨by omega, by omega⟩ ?_
    refine g6a hC rfl ⟨by omega, by omega⟩ ?_
    refine r21 ((32 + (3 * s))) hC rfl (by omega) sh178 (Or.inl rfl) (by omega) (rmW hS hwr hV hW (by omega)) ?_
    refine g3 hC rfl rfl ?_
    refine g3 hC rfl rfl ?_
    refine g19 hC rfl sh142 (flt12 rfl) ft12_70 ((hS _ _ rfl).trans hwd) ?_
    refine g13n hC rfl (fun h19 => ?_) (fun h19 => ?_)
    ·
      refine g0 hC rfl ?_
      refine g6a hC rfl ⟨by omega, by omega⟩ ?_
      refine g13g hC rfl (fun h24 => ?_) (fun h24 => ?_)
      ·
        refine g0 hC rfl ?_
        refine ret3 hC rfl ⟨by omega, by omega⟩ ?_
        have z := hcl (by omega)
        have z1 := hg.2.1 z
        rw [hwi z, if_neg h19] at z1
        exact ⟨by rw [if_neg (by omega)], rfl⟩
      ·
        refine g0 hC rfl ?_
        refine g14 hC rfl ?_
        refine ret3 hC rfl ⟨by omega, by omega⟩ ?_
        have z := hcl (by omega)
        have z1 := hg.2.1 z
        rw [hwi z, if_neg h19] at z1
        exact ⟨by rw [if_pos (by omega)], rfl⟩
    ·
      refine g0 hC rfl ?_
      refine g14 hC rfl ?_
      refine g6a hC rfl ⟨by omega, by omega⟩ ?_
      refine g13g hC rfl (fun h24 => ?_) (fun h24 => ?_)
      ·
        refine g0 hC rfl ?_
        refine ret3 hC rfl ⟨by omega, by omega⟩ ?_
        have z := hcl (by omega)
        have z1 := hg.2.1 z
        rw [hwi z, if_pos (by omega)] at z1
        exact ⟨by rw [if_neg (by omega)], rfl⟩
      ·
        refine g0 hC rfl ?_
        refine g14 hC rfl ?_
        refine ret3 hC rfl ⟨by omega, by omega⟩ ?_
        have z := hcl (by omega)
        have z1 := hg.2.1 z
        rw [hwi z, if_pos (by omega)] at z1
        exact ⟨by rw [if_pos (by omega)], rfl⟩
theorem m201 (hF : Fix M) (hV : RV V h M) (hW : HW V h) {c : Nat} {a sm wd : Int} {fr : Nat → Int} (hc : c < nC V h) (hsm : M 142 69 = sm) (hwd : M 142 70 = wd) (hG : GF V h sm wd (M 188) fr) (hfa : on8 (M 187) (far V h sm wd)) (ha : M 189 c = a ∧ 0 ≤ a ∧ a < nR V h) : ax_Ev L X SH 3 201 [(2, 142), (0, (c : Int))] M (R1 0 (fun x M' => Sb X201 M M' ∧ ((x = 0 ∧ M' = M ∧ (a = 0 ∨ pk V h (far V h sm wd) fr a.toNat = -1)) ∨ (x = 1 ∧ a ≠ 0 ∧ pk V h (far V h sm wd) fr a.toNat ≠ -1 ∧ M' 189 = up (M 189) c (lead V h (pk V h (far V h sm wd) fr a.toNat).toNat a) ∧ M' 188 = up (M 188) (pk V h (far V h sm wd) fr a.toNat).toNat (M 188 (pk V h (far V h sm wd) fr a.toNat).toNat + 1))))) := by
  show ax_G L X SH 3 201 0 [(2, 142), (0, (c : Int)), (3, 0), (3, 0), (3, 0)] [] M _
  have hC := at201
  have hw : wok X201 = true := by decide +kernel
  have hwr : rok X201 := rokI rfl
  have hS : Sb X201 M M := Sb.refl
  have hb := hW.1.2.2.2.2
  have hb2 := hW.1.1.2
  have hb3 := hW.1.2.1.2
  have hfb : ∀ q, -1 ≤ far V h sm wd q ∧ far V h sm wd q ≤ 8 := far_b 8 (Nat.le_refl 8)
  have hfz : ∀ q, far V h sm wd q = 0 → q = 0 := far_z 8
  obtain ⟨r, rfl⟩ : ∃ r : Nat, a = (r : Int) := ⟨a.toNat, by omega⟩
  rw [Int.toNat_natCast]
  generalize hfd : far V h sm wd = fa at *
  have hpk := pk_min (V := V) (h := h) hW (fa := fa) (fr := fr) (r := r)
  have l1 : ∀ (m q : Nat), q + m = nR V h → ∀ ll M1, (∃ u, ll = [(2, 142), (0, (c : Int)), (0, (r : Int)), (0, (q : Int)), u] ∧ M1 = M ∧ r ≠ 0 ∧ fa r ≠ -1 ∧ ∀ s, s < nS V h → El V h fa fr r s → (q : Int) ≤ lead V h s r) → ax_G L X SH 3 201 17 ll [] M1 (R1 0 (fun x M' => Sb X201 M M' ∧ ((x = 0 ∧ M' = M ∧ ((r : Int) = 0 ∨ pk V h fa fr r = -1)) ∨ (x = 1 ∧ (r : Int) ≠ 0 ∧ pk V h fa fr r ≠ -1 ∧ M' 189 = up (M 189) c (lead V h (pk V h fa fr r).toNat r) ∧ M' 188 = up (M 188) (pk V h fa fr r).toNat (M 188 (pk V h fa fr r).toNat + 1))))) := by
    refine lp ?_ ?_
    · rintro ll M1 ⟨u, rfl, rfl, hr0, hr1, hno⟩
      refine g3 hC rfl rfl ?_
      refine g3 hC rfl rfl ?_
      refine c1 hC rfl rfl rfl (Nat.le_of_ble_eq_true rfl) (Nat.le_of_ble_eq_true rfl) (mayR k183 rfl) (m183 (hS.fix hw hF) (hV.sb hS hwr) hW) (Nat.le_of_ble_eq_true rfl) (fun x M2 hr => ?_)
      obtain ⟨rfl, hr⟩ := hr
      replace hr := hr.symm
      subst hr
      refine g13g hC rfl (fun h20 => ?_) (fun h20 => (by omega))
      refine g0 hC rfl ?_
      refine ret3 hC rfl ⟨by omega, by omega⟩ ?_
      refine ⟨hS, Or.inl ⟨rfl, rfl, Or.inr ?_⟩⟩
      rcases hpk with ⟨e, -⟩ | ⟨s, q1, q2, q3, q4⟩
      · exact e
      · have := hno s q1 q3
        have := (lead_b (r := r) hW q1).2
        omega
    · rintro q hq ll M1 ⟨u, rfl, rfl, hr0, hr1, hno⟩ hnext
      have next : (∀ s, s < nS V h → El V h fa fr r s → lead V h s r ≠ (q : Int)) → ∀ s, s < nS V h → El V h fa fr r s → ((q + 1 : Nat) : Int) ≤ lead V h s r := by
        intro z s hs hE
        have := hno s hs hE
        have := z s hs hE
        omega
      have fq := hfb q
      have fr1 := hfb r
      have fz := hfz q
      have fzr := hfz r
      refine g3 hC rfl rfl ?_
      refine g3 hC rfl rfl ?_
      refine c1 hC rfl rfl rfl (Nat.le_of_ble_eq_true rfl) (Nat.le_of_ble_eq_true rfl) (mayR k183 rfl) (m183 (hS.fix hw hF) (hV.sb hS hwr) hW) (Nat.le_of_ble_eq_true rfl) (fun x M2 hr => ?_)
      obtain ⟨rfl, hr⟩ := hr
      replace hr := hr.symm
      subst hr
      refine g13g hC rfl (fun h20 => (by omega)) (fun h20 => ?_)
      refine g3 hC rfl rfl ?_
      refine g19 hC rfl sh142 (flt12 rfl) ft12_60 ((hS.fix hw hF).g fx_142_60) ?_
      refine g3 hC rfl rfl ?_
      refine r21 (q) hC rfl (by omega) sh187 (Or.inl rfl) (by omega) (hfa q (by omega)) ?_
      refine g3 hC rfl rfl ?_
      refine g19 hC rfl sh142 (flt12 rfl) ft12_60 ((hS.fix hw hF).g fx_142_60) ?_
      refine g3 hC rfl rfl ?_
      refine r21 (r) hC rfl (by omega) sh187 (Or.inl rfl) (by omega) (hfa r (by omega)) ?_
      refine g0 hC rfl ?_
      refine g6s hC rfl ⟨by omega, by omega⟩ ?_
      refine g13e hC rfl (fun h31 => ?_) (fun h31 => ?_)
      ·
        refine g3 hC rfl rfl ?_
        refine g3 hC rfl rfl ?_
        refine g3 hC rfl rfl ?_
        refine c1 hC rfl rfl rfl (Nat.le_of_ble_eq_true rfl) (Nat.le_of_ble_eq_true rfl) (mayR k199 rfl) (m199 (hS.fix hw hF) (hV.sb hS hwr) hW) (Nat.le_of_ble_eq_true rfl) (fun x M2 hr => ?_)
        obtain ⟨hst, hr⟩ := hr; replace hr := hr.symm; subst hr
        refine s4 hC rfl rfl rfl ?_
        refine g3 hC rfl rfl ?_
        refine g0 hC rfl ?_
        refine g13e hC rfl (fun h40 => ?_) (fun h40 => ?_)
        ·
          refine n3 hC rfl rfl ⟨by omega, by omega⟩ ?_
          refine g14 hC rfl ?_
          refine hnext _ _ ⟨_, rfl, rfl, hr0, hr1, next (fun s hs hE e => ?_)⟩
          rcases hst with z | ⟨s0, q1, q2, -⟩
          · exact z.2 s hs ((lead_j hW hs).mp e)
          · omega
        ·
          refine g3 hC rfl rfl ?_
          have hst2 : ∃ s, s < nS V h ∧ x = (s : Int) ∧ joins V h s r q := by rcases hst with z | z; exact absurd z.1 h40; exact z
          obtain ⟨s0, hs0, rfl, hj0⟩ := hst2
          clear hst
          refine g3 hC rfl rfl ?_
          refine c1 hC rfl rfl rfl (Nat.le_of_ble_eq_true rfl) (Nat.le_of_ble_eq_true rfl) (mayR k200 rfl) (m200 (hS.fix hw hF) (hV.sb hS hwr) hW (s := s0) (fr := fr) hs0 hsm hwd hG) (Nat.le_of_ble_eq_true rfl) (fun x M2 hr => ?_)
          obtain ⟨rfl, hr⟩ := hr
          replace hr := hr.symm
          subst hr
          refine g12n hC rfl (fun h44 => ?_) (fun h44 => ?_)
          ·
            refine g3 hC rfl rfl ?_
            refine g19 hC rfl sh142 (flt12 rfl) ft12_61 ((hS.fix hw hF).g fx_142_61) ?_
            refine g3 hC rfl rfl ?_
            refine g17 hC rfl (by decide) ?_
            have hg0 := hG s0 hs0
            refine r21 (s0) hC rfl (by omega) sh188 (Or.inl rfl) (by omega) rfl ?_
            refine g0 hC rfl ?_
            refine g6a hC rfl ⟨by omega, by omega⟩ ?_
            refine r22s (s0) hC rfl (by omega) sh188 (by omega) rfl hS rfl (fun hS => ?_)
            refine g3 hC rfl rfl ?_
            refine g19 hC rfl sh142 (flt12 rfl) ft12_62 ((hS.fix hw hF).g fx_142_62) ?_
            refine g3 hC rfl rfl ?_
            refine g3 hC rfl rfl ?_
            refine r22s (c) hC rfl (by omega) sh189 (by omega) rfl hS rfl (fun hS => ?_)
            refine g0 hC rfl ?_
            refine ret3 hC rfl ⟨by omega, by omega⟩ ?_
            have hp0 : 0 < fr s0 := by
              by_cases z : 0 < fr s0
              · exact z
              · rw [if_neg z] at h44; omega
            have hl0 : lead V h s0 r = (q : Int) := (lead_j hW hs0).mpr hj0
            have hE0 : El V h fa fr r s0 := by
              unfold El
              rw [hl0, Int.toNat_natCast]
              exact ⟨by omega, hp0, by omega, by omega⟩
            have hpk0 : pk V h fa fr r = (s0 : Int) := by
              rcases hpk with ⟨-, z⟩ | ⟨s, q1, q2, q3, q4⟩
              · exact absurd hE0 (z s0 hs0)
              · have y1 := q4 s0 hs0 hE0
                have y2 := hno s q1 q3
                have y3 : lead V h s r = (q : Int) := by omega
                rw [q2, joins_u hW q1 hs0 ((lead_j hW q1).mp y3) hj0]
            refine ⟨hS, Or.inr ⟨rfl, by omega, by omega, ?_, ?_⟩⟩
            · rw [hpk0, Int.toNat_natCast, hl0, ax_upf, ax_up_ne (by decide)]
            · rw [hpk0, Int.toNat_natCast, ax_up_ne (by decide), ax_upf]
          ·
            refine g14 hC rfl ?_
            refine n3 hC rfl rfl ⟨by omega, by omega⟩ ?_
            refine g14 hC rfl ?_
            refine hnext _ _ ⟨_, rfl, rfl, hr0, hr1, next (fun s hs hE e => ?_)⟩
            have : s = s0 := joins_u hW hs hs0 ((lead_j hW hs).mp e) hj0
            rw [this] at hE
            rw [if_pos hE.2.1] at h44
            omega
      ·
        refine g14 hC rfl ?_
        refine n3 hC rfl rfl ⟨by omega, by omega⟩ ?_
        refine g14 hC rfl ?_
        refine hnext _ _ ⟨_, rfl, rfl, hr0, hr1, next (fun s hs hE e => ?_)⟩
        have := hE.2.2.2
        rw [e, Int.toNat_natCast] at this
        omega
  refine g3 hC rfl rfl ?_
  refine g19 hC rfl sh142 (flt12 rfl) ft12_62 ((hS.fix hw hF).g fx_142_62) ?_
  refine g3 hC rfl rfl ?_
  refine r21 (c) hC rfl (by omega) sh189 (Or.inl rfl) (by omega) ha.1 ?_
  refine s2 hC rfl rfl rfl ?_
  refine g3 hC rfl rfl ?_
  refine g12e hC rfl (fun h6 => ?_) (fun h6 => ?_)
  ·
    refine g0 hC rfl ?_
    refine ret3 hC rfl ⟨by omega, by omega⟩ ?_
    exact ⟨hS, Or.inl ⟨rfl, rfl, Or.inl (by omega)⟩⟩
  ·
    refine g3 hC rfl rfl ?_
    refine g19 hC rfl sh142 (flt12 rfl) ft12_60 ((hS.fix hw hF).g fx_142_60) ?_
    refine g3 hC rfl rfl ?_
    refine r21 (r) hC rfl (by omega) sh187 (Or.inl rfl) (by omega) (hfa r (by omega)) ?_
    refine g0 hC rfl ?_
    refine g13n hC rfl (fun h12 => ?_) (fun h12 => ?_)
    ·
      refine g0 hC rfl ?_
      refine s3 hC rfl rfl rfl ?_
      refine l1 (nR V h) 0 (Nat.zero_add _) _ _ ⟨_, rfl, rfl, by omega, by omega, fun s hs hE => ?_⟩
      have := lead_b (r := r) hW hs
      have := hE.1
      omega
    ·
      refine g0 hC rfl ?_
      refine ret3 hC rfl ⟨by omega, by omega⟩ ?_
      refine ⟨hS, Or.inl ⟨rfl, rfl, Or.inr ?_⟩⟩
      rcases hpk with ⟨e, -⟩ | ⟨s, q1, q2, q3, q4⟩
      · exact e
      · have := q3.2.2.2
        have := hfb (lead V h s r).toNat
        omega
end RST
