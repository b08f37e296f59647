theorem crI_w {a b a' b' : Nat → Int} {c : Nat} : ∀ k : Nat, (∀ q, q < k → ((a q = 0 ∧ b q = -1) ↔ (a' q = 0 ∧ b' q = -1))) → crI a b c k = crI a' b' c k := by
  intro k
  induction k with
  | zero => intro _; rfl
  | succ k ih =>
    intro h
    have e : ∀ a b : Nat → Int, crI a b c (k + 1) = if k ≠ c ∧ a k = 0 ∧ b k = -1 then crI a b c k + 1 else crI a b c k := fun _ _ => rfl
    rw [e, e, ih (fun q hq => h q (by omega))]
    simp only [h k (by omega)]
theorem wk_b {V : ax_M} {h : Nat} (hW : HW V h) {fa : Nat → Int} : ∀ (n : Nat) (x : Int × (Nat → Int)), (0 ≤ x.1 ∧ x.1 < nR V h) → (∀ s, s < nS V h → 0 ≤ x.2 s ∧ x.2 s ≤ 5) → (0 ≤ (wk V h fa n x).1 ∧ (wk V h fa n x).1 < nR V h) ∧ ∀ s, s < nS V h → 0 ≤ (wk V h fa n x).2 s ∧ (wk V h fa n x).2 s ≤ 5 := by
  intro n
  induction n with
  | zero => intro x h1 h2; exact ⟨h1, h2⟩
  | succ n ih =>
    intro x h1 h2
    unfold wk
    by_cases z : x.1 = 0
    · rw [if_pos z]; exact ⟨h1, h2⟩
    rw [if_neg z]
    by_cases y : pk V h fa x.2 x.1.toNat = -1
    · rw [if_pos y]; exact ⟨h1, h2⟩
    rw [if_neg y]
    have hpk := pk_b (V := V) (h := h) (fa := fa) (fr := x.2) (r := x.1.toNat) (Nat.le_refl _)
    change -1 ≤ pk V h fa x.2 x.1.toNat ∧ pk V h fa x.2 x.1.toNat < (nS V h : Int) ∧ _ ∧ (pk V h fa x.2 x.1.toNat ≠ -1 → _ = lead V h (pk V h fa x.2 x.1.toNat).toNat (x.1.toNat : Nat) ∧ _ ∧ 0 < x.2 (pk V h fa x.2 x.1.toNat).toNat) at hpk
    have q := hpk.2.2.2 y
    have hs : (pk V h fa x.2 x.1.toNat).toNat < nS V h := by omega
    have hl := lead_b (r := x.1) hW hs
    rw [show ((x.1.toNat : Nat) : Int) = x.1 by omega] at q
    refine ih _ ⟨?_, hl.2⟩ (fun s hs' => ?_)
    · dsimp only; have := q.1; have := q.2.1; omega
    · dsimp only
      have := h2 s hs'
      unfold up; split
      · rename_i e; rw [← e] at q ⊢; omega
      · exact this
theorem DK_D1 {V : ax_M} {h : Nat} (hW : HW V h) {fa : Nat → Int} {mi c : Nat} (hmi : mi < 9) {D : DT} (hc : c < nC V h) (hK : DK V h D) : DK V h (D1 V h fa mi c D) := by
  have g2 := hK.1 c hc
  have hcl := hW.2.2.2.1 c hc
  unfold D1
  by_cases h1 : D.2.1 c ≠ -1
  · rw [if_pos h1]; exact hK
  rw [if_neg h1]
  by_cases h2 : D.1 c = 0
  · rw [if_pos h2]
    split
    · refine ⟨fun q hq => ?_, hK.2⟩
      have := hK.1 q hq
      dsimp only
      by_cases z : q = c
      · rw [z, up_at, up_at]
        exact ⟨by omega, by omega, fun q => by omega, by omega, by omega⟩
      · rw [up_ne z, up_ne z]; exact this
    · exact hK
  · rw [if_neg h2]
    have hb := wk_b hW (fa := fa) (cp V h c) (D.1 c, D.2.2.2) ⟨g2.1, g2.2.1⟩ hK.2
    generalize wk V h fa (cp V h c) (D.1 c, D.2.2.2) = w at *
    refine ⟨fun q hq => ?_, hb.2⟩
    have gc := hK.1 q hq
    dsimp only
    by_cases z : q = c
    · rw [z] at gc ⊢
      rw [up_at]
      refine ⟨hb.1.1, hb.1.2, fun q1 q2 => ?_, gc.2.2.2⟩
      rw [if_neg q2]; exact gc.2.2.1 q1 h2
    · rw [up_ne z]
      refine ⟨gc.1, gc.2.1, fun q1 q2 => ?_, gc.2.2.2⟩
      by_cases y : w.1 = 0
      · rw [if_pos y, up_ne z]; exact gc.2.2.1 q1 q2
      · rw [if_neg y]; exact gc.2.2.1 q1 q2
def RD (V : ax_M) (h : Nat) (D : DT) (M : ax_M) : Prop := ∀ c, c < nC V h → (D.2.1 c = -1 → M 189 c = D.1 c) ∧ M 191 c = D.2.1 c ∧ M 190 c = D.2.2.1 c
theorem RD.ow {V M : ax_M} {h c : Nat} {D : DT} (hR : RD V h D M) (hc : c < nC V h) : (M 189 c = 0 ∧ M 191 c = -1) ↔ (D.1 c = 0 ∧ D.2.1 c = -1) := by
  have := hR c hc
  constructor
  · intro z; rw [this.2.1] at z; exact ⟨by rw [← this.1 z.2]; exact z.1, z.2⟩
  · intro z; rw [this.2.1, this.1 z.2]; exact z
theorem RD.of {V M M' : ax_M} {h : Nat} {D : DT} (hR : RD V h D M) (h1 : M' 189 = M 189) (h2 : M' 190 = M 190) (h3 : M' 191 = M 191) : RD V h D M' := fun c hc => by rw [h1, h2, h3]; exact hR c hc
section RMI
variable {L : Nat} {X : Nat → Int} {M V : ax_M} {h : Nat}
theorem m203 (hF : Fix M) (hV : RV V h M) (hW : HW V h) {c : Nat} : ax_Ev L X SH 1 203 [(2, 142), (0, (c : Int))] M (R1 0 (fun x M' => x = crI (M 189) (M 191) c (nC V h) ∧ M' = M)) := by
  show ax_G L X SH 1 203 0 [(2, 142), (0, (c : Int)), (3, 0), (3, 0)] [] M _
  have hC := at203
  have hw := wX0
  have hwr := rX0
  have hb := hW.1.2.2.2.2
  have l1 : ∀ (m k : Nat), k + m = nC V h → ∀ ll M1, (ll = [(2, 142), (0, (c : Int)), (0, crI (M 189) (M 191) c k), (0, (k : Int))] ∧ M1 = M) → ax_G L X SH 1 203 4 ll [] M1 (R1 0 (fun x M' => x = crI (M 189) (M 191) c (nC V h) ∧ M' = M)) := by
    refine lp ?_ ?_
    · rintro ll M1 ⟨rfl, rfl⟩
      have hS : Sb X0 M1 M1 := Sb.refl
      refine g3 hC rfl rfl ?_
      refine g3 hC rfl rfl ?_
      refine c1 hC rfl rfl rfl (Nat.le_of_ble_eq_true rfl) (Nat.le_of_ble_eq_true rfl) (mayR k186 rfl) (m186 (hS.fix hw hF) (hV.sb hS hwr) hW) (Nat.le_of_ble_eq_true rfl) (fun x M2 hr => ?_)
      obtain ⟨rfl, hr⟩ := hr
      replace hr := hr.symm
      subst hr
      refine g13g hC rfl (fun h7 => ?_) (fun h7 => (by omega))
      refine g3 hC rfl rfl ?_
      refine ret1 hC rfl rfl ?_
      exact ⟨rfl, rfl⟩
    · rintro k hk ll M1 ⟨rfl, rfl⟩ hnext
      have hS : Sb X0 M1 M1 := Sb.refl
      have hcb := crI_b (a := M1 189) (b := M1 191) (c := c) k
      have e : crI (M1 189) (M1 191) c (k + 1) = if k ≠ c ∧ M1 189 k = 0 ∧ M1 191 k = -1 then crI (M1 189) (M1 191) c k + 1 else crI (M1 189) (M1 191) c k := rfl
      refine g3 hC rfl rfl ?_
      refine g3 hC rfl rfl ?_
      refine c1 hC rfl rfl rfl (Nat.le_of_ble_eq_true rfl) (Nat.le_of_ble_eq_true rfl) (mayR k186 rfl) (m186 (hS.fix hw hF) (hV.sb hS hwr) hW) (Nat.le_of_ble_eq_true rfl) (fun x M2 hr => ?_)
      obtain ⟨rfl, hr⟩ := hr
      replace hr := hr.symm
      subst hr
      refine g13g hC rfl (fun h7 => (by omega)) (fun h7 => ?_)
      refine g3 hC rfl rfl ?_
      refine g3 hC rfl rfl ?_
      refine g13e hC rfl (fun h10 => ?_) (fun h10 => ?_)
      ·
        refine n3 hC rfl rfl ⟨by omega, by omega⟩ ?_
        refine g14 hC rfl ?_
        exact hnext _ _ ⟨by rw [e, if_neg (fun z => z.1 (by omega))]; rfl, rfl⟩
      ·
        refine g3 hC rfl rfl ?_
        refine g3 hC rfl rfl ?_
        refine c1 hC rfl rfl rfl (Nat.le_of_ble_eq_true rfl) (Nat.le_of_ble_eq_true rfl) (mayR k202 rfl) (m202 (hS.fix hw hF) (c := (k)) (by omega)) (Nat.le_of_ble_eq_true rfl) (fun x M2 hr => ?_)
        obtain ⟨rfl, hr⟩ := hr
        replace hr := hr.symm
        subst hr
        refine g12e hC rfl (fun h14 => ?_) (fun h14 => ?_)
        ·
          refine n3 hC rfl rfl ⟨by omega, by omega⟩ ?_
          refine g14 hC rfl ?_
          refine hnext _ _ ⟨?_, rfl⟩
          rw [e, if_neg (fun z => ?_)]
          · rfl
          · rw [if_pos z.2] at h14; omega
        ·
          refine n2 hC rfl rfl ⟨by omega, by omega⟩ ?_
          refine n3 hC rfl rfl ⟨by omega, by omega⟩ ?_
          refine g14 hC rfl ?_
          refine hnext _ _ ⟨?_, rfl⟩
          have z : M1 189 k = 0 ∧ M1 191 k = -1 := by
            by_cases z : M1 189 k = 0 ∧ M1 191 k = -1
            · exact z
            · rw [if_neg z] at h14; omega
          rw [e, if_pos ⟨by omega, z⟩]; rfl
  refine g0 hC rfl ?_
  refine s2 hC rfl rfl rfl ?_
  refine g0 hC rfl ?_
  refine s3 hC rfl rfl rfl ?_
  exact l1 (nC V h) 0 (Nat.zero_add _) _ _ ⟨rfl, rfl⟩
theorem m204 (hF : Fix M) (hV : RV V h M) (hW : HW V h) (hSW : SW V) (hPW : PW V h) {sm wd : Int} {mi c : Nat} (hmi : mi < 9) (hc : c < nC V h) (hsm : M 142 69 = sm) (hwd : M 142 70 = wd) {D : DT} (hG : GF V h sm wd (M 188) D.2.2.2) (hfa : on8 (M 187) (far V h sm wd)) (hR : RD V h D M) (hK : DK V h D) : ax_Ev L X SH 4 204 [(2, 142), (0, (c : Int)), (0, (mi : Int))] M (R0 (fun M' => Sb X204 M M' ∧ RD V h (D1 V h (far V h sm wd) mi c D) M' ∧ GF V h sm wd (M' 188) (D1 V h (far V h sm wd) mi c D).2.2.2)) := by
  show ax_G L X SH 4 204 0 [(2, 142), (0, (c : Int)), (0, (mi : Int)), (3, 0), (3, 0)] [] M _
  have hC := at204
  have hw : wok X204 = true := by decide +kernel
  have hwr : rok X204 := rokI rfl
  have hS : Sb X204 M M := Sb.refl
  have hb := hW.1.2.2.2.2
  have hcl := hW.2.2.2.1 c hc
  have gR1 := hR c hc
  have gR2 := hK.1 c hc
  have ecr : crI (M 189) (M 191) c (nC V h) = crI D.1 D.2.1 c (nC V h) := crI_w _ (fun q hq => hR.ow hq)
  have hcb := crI_b (a := D.1) (b := D.2.1) (c := c) (nC V h)
  have hs1 := hSW.1
  have l1 : D.2.1 c = -1 → D.1 c ≠ 0 → ∀ (m k : Nat), k + m = cp V h c → ∀ ll M1, (∃ (go a : Int) (fr1 : Nat → Int), ll = [(2, 142), (0, (c : Int)), (0, (mi : Int)), (0, go), (0, (k : Int))] ∧ Sb X204 M M1 ∧ M1 189 = up (M 189) c a ∧ (0 ≤ a ∧ a < nR V h) ∧ GF V h sm wd (M1 188) fr1 ∧ M1 190 = M 190 ∧ M1 191 = M 191 ∧ (go = 1 ∧ wk V h (far V h sm wd) (cp V h c - k) (a, fr1) = wk V h (far V h sm wd) (cp V h c) (D.1 c, D.2.2.2) ∨ go = 0 ∧ (a, fr1) = wk V h (far V h sm wd) (cp V h c) (D.1 c, D.2.2.2))) → ax_G L X SH 4 204 43 ll [] M1 (R0 (fun M' => Sb X204 M M' ∧ RD V h (D1 V h (far V h sm wd) mi c D) M' ∧ GF V h sm wd (M' 188) (D1 V h (far V h sm wd) mi c D).2.2.2)) := by
    intro hbk hat
    have e : D1 V h (far V h sm wd) mi c D = (up D.1 c (wk V h (far V h sm wd) (cp V h c) (D.1 c, D.2.2.2)).1, D.2.1, (if (wk V h (far V h sm wd) (cp V h c) (D.1 c, D.2.2.2)).1 = 0 then up D.2.2.1 c mi else D.2.2.1), (wk V h (far V h sm wd) (cp V h c) (D.1 c, D.2.2.2)).2) := by
      unfold D1; rw [if_neg (by omega), if_neg hat]
    rw [e]
    generalize wk V h (far V h sm wd) (cp V h c) (D.1 c, D.2.2.2) = fin at *
    have fin1 : ∀ (M1 : ax_M) (go k : ax_V) (a : Int) (fr1 : Nat → Int), Sb X204 M M1 → M1 189 = up (M 189) c a → GF V h sm wd (M1 188) fr1 → M1 190 = M 190 → M1 191 = M 191 → (a, fr1) = fin → ax_G L X SH 4 204 61 [(2, 142), (0, (c : Int)), (0, (mi : Int)), go, k] [] M1 (R0 (fun M' => Sb X204 M M' ∧ RD V h (up D.1 c fin.1, D.2.1, (if fin.1 = 0 then up D.2.2.1 c mi else D.2.2.1), fin.2) M' ∧ GF V h sm wd (M' 188) fin.2)) := by
      intro M1 go k a fr1 hS q1 q2 q3 q4 q5
      subst q5
      dsimp only
      have ea : M1 189 c = a := by rw [q1]; exact up_at
      have base : ∀ q, q < nC V h → (D.2.1 q = -1 → M1 189 q = up D.1 c a q) ∧ M1 191 q = D.2.1 q := by
        intro q hq
        have := hR q hq
        rw [q1, q4]
        refine ⟨fun z => ?_, this.2.1⟩
        exact up_c (this.1 z)
      refine g3 hC rfl rfl ?_
      refine g19 hC rfl sh142 (flt12 rfl) ft12_62 ((hS.fix hw hF).g fx_142_62) ?_
      refine g3 hC rfl rfl ?_
      refine r21 (c) hC rfl (by omega) sh189 (Or.inl rfl) (by omega) ea ?_
      refine g12n hC rfl (fun h65 => ?_) (fun h65 => ?_)
      ·
        refine ret0 hC rfl ?_
        refine ⟨hS, fun q hq => ⟨(base q hq).1, (base q hq).2, ?_⟩, q2⟩
        dsimp only
        rw [if_neg h65, q3]; exact (hR q hq).2.2
      ·
        refine g3 hC rfl rfl ?_
        refine g19 hC rfl sh142 (flt12 rfl) ft12_63 ((hS.fix hw hF).g fx_142_63) ?_
        refine g3 hC rfl rfl ?_
        refine g3 hC rfl rfl ?_
        refine r22s (c) hC rfl (by omega) sh190 (by omega) rfl hS rfl (fun hS => ?_)
        refine ret0 hC rfl ?_
        refine ⟨hS, fun q hq => ⟨fun z => ?_, ?_, ?_⟩, ?_⟩
        · rw [ax_up_ne (by decide)]; exact (base q hq).1 z
        · rw [ax_up_ne (by decide)]; exact (base q hq).2
        · dsimp only
          rw [if_pos (by omega), ax_upf, q3]; exact up_c (hR q hq).2.2
        · rw [ax_up_ne (by decide)]; exact q2
    refine lp ?_ ?_
    · rintro ll M1 ⟨go, a, fr1, rfl, hS, q1, q2, q3, q4, q5, q6⟩
      refine g3 hC rfl rfl ?_
      refine g3 hC rfl rfl ?_
      refine g19 hC rfl sh142 (flt12 rfl) ft12_46 ((hS.fix hw hF).g fx_142_46) ?_
      refine g0 hC rfl ?_
      refine g0 hC rfl ?_
      refine g3 hC rfl rfl ?_
      refine g6m hC rfl ⟨by omega, by omega⟩ ?_
      refine g6a hC rfl ⟨by omega, by omega⟩ ?_
      refine r21 ((34 + (4 * c))) hC rfl (by omega) sh180 (Or.inl rfl) (by omega) (rmP hS hwr hV hW (by omega)) ?_
      refine g13g hC rfl (fun h52 => ?_) (fun h52 => (by omega))
      refine fin1 _ _ _ a fr1 hS q1 q3 q4 q5 ?_
      rcases q6 with ⟨-, z⟩ | ⟨-, z⟩
      · rw [Nat.sub_self] at z; exact z
      · exact z
    · rintro k hk ll M1 ⟨go, a, fr1, rfl, hS, q1, q2, q3, q4, q5, q6⟩ hnext
      have ea : M1 189 c = a := by rw [q1]; exact up_at
      have hf2 : on8 (M1 187) (far V h sm wd) := fun q hq => by rw [hS 187 q rfl]; exact hfa q hq
      refine g3 hC rfl rfl ?_
      refine g3 hC rfl rfl ?_
      refine g19 hC rfl sh142 (flt12 rfl) ft12_46 ((hS.fix hw hF).g fx_142_46) ?_
      refine g0 hC rfl ?_
      refine g0 hC rfl ?_
      refine g3 hC rfl rfl ?_
      refine g6m hC rfl ⟨by omega, by omega⟩ ?_
      refine g6a hC rfl ⟨by omega, by omega⟩ ?_
      refine r21 ((34 + (4 * c))) hC rfl (by omega) sh180 (Or.inl rfl) (by omega) (rmP hS hwr hV hW (by omega)) ?_
      refine g13g hC rfl (fun h52 => (by omega)) (fun h52 => ?_)
      refine g3 hC rfl rfl ?_
      refine g12e hC rfl (fun h54 => ?_) (fun h54 => ?_)
      ·
        refine fin1 _ _ _ a fr1 hS q1 q3 q4 q5 ?_
        rcases q6 with ⟨z, -⟩ | ⟨-, z⟩
        · omega
        · exact z
      ·
        refine g3 hC rfl rfl ?_
        refine g3 hC rfl rfl ?_
        refine c1 hC rfl rfl rfl (Nat.le_of_ble_eq_true rfl) (Nat.le_of_ble_eq_true rfl) (mayR k201 rfl) (m201 (hS.fix hw hF) (hV.sb hS hwr) hW (fr := fr1) hc ((hS 142 69 rfl).trans hsm) ((hS 142 70 rfl).trans hwd) q3 hf2 ⟨ea, q2⟩) (Nat.le_of_ble_eq_true rfl) (fun x M2 hr => ?_)
        obtain ⟨hr0, hr⟩ := hr; have hS := hS.then hr0 rfl
        refine s3 hC rfl rfl rfl ?_
        refine n4 hC rfl rfl ⟨by omega, by omega⟩ ?_
        refine g14 hC rfl ?_
        have q7 : wk V h (far V h sm wd) (cp V h c - k) (a, fr1) = fin := by
          rcases q6 with ⟨-, z⟩ | ⟨z, -⟩
          · exact z
          · omega
        have e1 : cp V h c - k = (cp V h c - (k + 1)) + 1 := by omega
        rw [e1] at q7
        unfold wk at q7
        dsimp only at q7
        rcases hr with ⟨rfl, rfl, y⟩ | ⟨rfl, y1, y2, y3, y4⟩
        · refine hnext _ _ ⟨0, a, fr1, rfl, hS, q1, q2, q3, q4, q5, Or.inr ⟨rfl, ?_⟩⟩
          by_cases z : a = 0
          · rw [if_pos z] at q7; exact q7
          · rw [if_neg z, if_pos (by rcases y with y | y; exact absurd y z; exact y)] at q7; exact q7
        · rw [if_neg y1, if_neg y2] at q7
          have hpk := pk_b (V := V) (h := h) (fa := far V h sm wd) (fr := fr1) (r := a.toNat) (Nat.le_refl _)
          change -1 ≤ pk V h (far V h sm wd) fr1 a.toNat ∧ pk V h (far V h sm wd) fr1 a.toNat < (nS V h : Int) ∧ _ ∧ (pk V h (far V h sm wd) fr1 a.toNat ≠ -1 → _ = lead V h (pk V h (far V h sm wd) fr1 a.toNat).toNat (a.toNat : Nat) ∧ _ ∧ 0 < fr1 (pk V h (far V h sm wd) fr1 a.toNat).toNat) at hpk
          have hp2 := hpk.2.2.2 y2
          rw [show ((a.toNat : Nat) : Int) = a by omega] at hp2
          have hs0 : (pk V h (far V h sm wd) fr1 a.toNat).toNat < nS V h := by omega
          generalize (pk V h (far V h sm wd) fr1 a.toNat).toNat = s0 at *
          have hl := lead_b (r := a) hW hs0
          have hg0 := q3 s0 hs0
          have hop : ¬ (V 47 s0 = 1 ∨ (s0 : Int) = sm) := fun z => by have := hg0.1 z; omega
          have hwb := wid_b (sm := sm) (wd := wd) hW hs0
          have hg1 := hg0.2.1 hop
          refine hnext _ _ ⟨1, _, _, rfl, hS, ?_, ⟨?_, hl.2⟩, ?_, ?_, ?_, Or.inl ⟨rfl, q7⟩⟩
          · rw [y3, q1]; funext q; unfold up; split <;> rfl
          · have := hp2.1; have := hp2.2.1; omega
          · rw [y4]
            intro s hs
            have := q3 s hs
            unfold up
            by_cases z : s = s0
            · simp only [if_pos z]
              rw [z]
              exact ⟨fun y => absurd y hop, fun _ => by omega, by omega, by omega, by omega, by omega⟩
            · simp only [if_neg z]; exact this
          · funext q; rw [hr0 190 q rfl, q4]
          · funext q; rw [hr0 191 q rfl, q5]
  have hcall : V 182 2 ≠ -1 → ∀ M2, Fix M2 → RV V h M2 → M2 142 56 = (mi : Int) → M2 142 57 = crI D.1 D.2.1 c (nC V h) → ax_Ev L X SH 2 196 [(2, 142), (0, 0), (0, (c : Int))] M2 (R1 1 (fun x M' => x = tv V h c mi (crI D.1 D.2.1 c (nC V h)) ∧ Sb X196 M2 M')) := by
    intro hne M2 hF2 hV2 e1 e2
    rcases hPW.1 with ⟨z, -⟩ | ⟨z1, z2, z3, z4, z5⟩
    · exact absurd z hne
    · unfold tv
      rw [if_neg hne]
      have hv2 := hV2.2.2.2.2.2
      refine m196 (which := 0) (f0 := tf V) (n := tn V) (cc := tc V) (lf := lfT V h c mi (crI D.1 D.2.1 c (nC V h))) hF2 hV2 hW (by decide) hc (hv2.1.trans z1) (hv2.2.2.1.trans z2) z3 (fun k _ => hv2.2.2.2.2 _ (by omega)) z4.2.2.2 z5 ?_ ?_
      · intro i; unfold lfT bnd; repeat' split
        all_goals omega
      · intro v v1 v2 v3
        have hv := v3.1 v1 v2
        have hv : v = 40 ∨ v = 41 ∨ v = 42 ∨ v = 43 ∨ v = 44 := by omega
        rcases hv with rfl | rfl | rfl | rfl | rfl
        · rfl
        · rfl
        · rfl
        · exact e1
        · exact e2
  have htv : V 182 2 ≠ -1 → tv V h c mi (crI D.1 D.2.1 c (nC V h)) = 0 ∨ tv V h c mi (crI D.1 D.2.1 c (nC V h)) = 1 := by
    intro hne
    rcases hPW.1 with ⟨z, -⟩ | ⟨z1, z2, z3, z4, z5⟩
    · exact absurd z hne
    · unfold tv
      rw [if_neg hne]
      refine (pval_t (fun i => ?_) (fun _ => ⟨by omega, by omega⟩) z5).1 rfl
      unfold lfT bnd; repeat' split
      all_goals omega
  have hc2 := @cmp0 (tv V h c mi (crI D.1 D.2.1 c (nC V h))) 1
  refine g3 hC rfl rfl ?_
  refine g19 hC rfl sh142 (flt12 rfl) ft12_64 ((hS.fix hw hF).g fx_142_64) ?_
  refine g3 hC rfl rfl ?_
  refine r21 (c) hC rfl (by omega) sh191 (Or.inl rfl) (by omega) gR1.2.1 ?_
  refine g0 hC rfl ?_
  refine g13e hC rfl (fun h5 => ?_) (fun h5 => ?_)
  ·
    refine g3 hC rfl rfl ?_
    refine g19 hC rfl sh142 (flt12 rfl) ft12_62 ((hS.fix hw hF).g fx_142_62) ?_
    refine g3 hC rfl rfl ?_
    refine r21 (c) hC rfl (by omega) sh189 (Or.inl rfl) (by omega) rfl ?_
    refine g12n hC rfl (fun h11 => ?_) (fun h11 => ?_)
    ·
      refine g0 hC rfl ?_
      refine s3 hC rfl rfl rfl ?_
      refine g0 hC rfl ?_
      refine s4 hC rfl rfl rfl ?_
      refine l1 (by omega) (by rw [← gR1.1 (by omega)]; exact h11) (cp V h c) 0 (Nat.zero_add _) _ _ ⟨1, D.1 c, D.2.2.2, rfl, hS, ?_, ⟨gR2.1, gR2.2.1⟩, hG, rfl, rfl, Or.inl ⟨rfl, rfl⟩⟩
      funext q
      unfold up; split
      · rename_i z; rw [z]; exact gR1.1 (by omega)
      · rfl
    ·
      refine g3 hC rfl rfl ?_
      refine g3 hC rfl rfl ?_
      refine g20s hC rfl sh142 (flt12 rfl) (by rw [fy12_56]; rfl) hS rfl (fun hS => ?_)
      refine g3 hC rfl rfl ?_
      refine g3 hC rfl rfl ?_
      refine g3 hC rfl rfl ?_
      refine c1 hC rfl rfl rfl (Nat.le_of_ble_eq_true rfl) (Nat.le_of_ble_eq_true rfl) (mayR k203 rfl) (m203 (hS.fix hw hF) (hV.sb hS hwr) hW (c := c)) (Nat.le_of_ble_eq_true rfl) (fun x M2 hr => ?_)
      obtain ⟨hx, hr⟩ := hr; replace hr := hr.symm; subst hr; rw [ax_up_ne (by decide), ax_up_ne (by decide), ecr] at hx
      refine g20s hC rfl sh142 (flt12 rfl) (by rw [fy12_57]; rfl) hS rfl (fun hS => ?_)
      refine g3 hC rfl rfl ?_
      refine g19 hC rfl sh142 (flt12 rfl) ft12_48 ((hS.fix hw hF).g fx_142_48) ?_
      refine g0 hC rfl ?_
      refine r21 (2) hC rfl (by omega) sh182 (Or.inl rfl) (by omega) ((hS _ _ rfl).trans (hV.2.2.2.2.2.1)) ?_
      refine g0 hC rfl ?_
      refine g13e hC rfl (fun h25 => ?_) (fun h25 => ?_)
      ·
        refine ret0 hC rfl ?_
        have e : D1 V h (far V h sm wd) mi c D = D := by
          unfold D1; rw [if_neg (by omega), if_pos (by rw [← gR1.1 (by omega)]; omega), if_neg (by unfold tv; rw [if_pos h25]; exact fun z => z rfl)]
        rw [e]
        refine ⟨hS, hR.of ?_ ?_ ?_, ?_⟩
        all_goals rw [ax_up_ne (by decide), ax_up_ne (by decide)]
        exact hG
      ·
        refine g3 hC rfl rfl ?_
        refine g0 hC rfl ?_
        refine g3 hC rfl rfl ?_
        refine c1 hC rfl rfl rfl (Nat.le_of_ble_eq_true rfl) (Nat.le_of_ble_eq_true rfl) (mayR k196 rfl) (hcall h25 _ (hS.fix hw hF) (hV.sb hS hwr) (by rw [ax_up_of (by decide), ax_up_at]) (by rw [ax_up_at]; exact hx)) (Nat.le_of_ble_eq_true rfl) (fun x M2 hr => ?_)
        obtain ⟨rfl, hr0⟩ := hr; have hS' := hS; have hS := hS.then hr0 rfl
        refine g1 hC rfl ?_
        refine g11 hC rfl ?_
        refine g12n hC rfl (fun h32 => ?_) (fun h32 => ?_)
        ·
          refine ret0 hC rfl ?_
          have e : D1 V h (far V h sm wd) mi c D = D := by
            have := htv h25
            unfold D1; rw [if_neg (by omega), if_pos (by rw [← gR1.1 (by omega)]; omega), if_neg (by omega)]
          rw [e]
          refine ⟨hS, hR.of ?_ ?_ ?_, ?_⟩
          · funext q; rw [hr0 189 q rfl, ax_up_ne (by decide), ax_up_ne (by decide)]
          · funext q; rw [hr0 190 q rfl, ax_up_ne (by decide), ax_up_ne (by decide)]
          · funext q; rw [hr0 191 q rfl, ax_up_ne (by decide), ax_up_ne (by decide)]
          · have : M2 188 = M 188 := by funext q; rw [hr0 188 q rfl, ax_up_ne (by decide), ax_up_ne (by decide)]
            rw [this]; exact hG
        ·
          refine g3 hC rfl rfl ?_
          refine g19 hC rfl sh142 (flt12 rfl) ft12_64 ((hS.fix hw hF).g fx_142_64) ?_
          refine g3 hC rfl rfl ?_
          refine g3 hC rfl rfl ?_
          refine r22s (c) hC rfl (by omega) sh191 (by omega) rfl hS rfl (fun hS => ?_)
          refine ret0 hC rfl ?_
          have e : D1 V h (far V h sm wd) mi c D = (up D.1 c (ch V h c), up D.2.1 c mi, D.2.2.1, D.2.2.2) := by
            have := htv h25
            unfold D1; rw [if_neg (by omega), if_pos (by rw [← gR1.1 (by omega)]; omega), if_pos (by omega)]
          rw [e]
          have e1 : M2 188 = M 188 := by funext q; rw [hr0 188 q rfl, ax_up_ne (by decide), ax_up_ne (by decide)]
          have e2 : M2 189 = M 189 := by funext q; rw [hr0 189 q rfl, ax_up_ne (by decide), ax_up_ne (by decide)]
          have e3 : M2 190 = M 190 := by funext q; rw [hr0 190 q rfl, ax_up_ne (by decide), ax_up_ne (by decide)]
          have e4 : M2 191 = M 191 := by funext q; rw [hr0 191 q rfl, ax_up_ne (by decide), ax_up_ne (by decide)]
          refine ⟨hS, fun q hq => ⟨fun z => ?_, ?_, ?_⟩, ?_⟩
          · dsimp only at z ⊢
            rw [ax_up_ne (by decide), e2]
            by_cases y : q = c
            · rw [y, up_at] at z; omega
            · rw [up_ne y] at z ⊢; exact (hR q hq).1 z
          · rw [ax_upf, e4]; exact up_c (hR q hq).2.1
          · rw [ax_up_ne (by decide), e3]; exact (hR q hq).2.2
          · rw [ax_up_ne (by decide), e1]; exact hG
  ·
    refine ret0 hC rfl ?_
    have e : D1 V h (far V h sm wd) mi c D = D := by
      unfold D1; rw [if_pos (by omega)]
    rw [e]
    exact ⟨hS, hR, hG⟩
end RMI
