abbrev DT : Type := (Nat → Int) × (Nat → Int) × (Nat → Int) × (Nat → Int)
def D1 (V : ax_M) (h : Nat) (fa : Nat → Int) (mi : Nat) (c : Nat) (D : DT) : DT :=
  if D.2.1 c ≠ -1 then D
  else if D.1 c = 0 then (if tv V h c mi (crI D.1 D.2.1 c (nC V h)) ≠ 0 then (up D.1 c (ch V h c), up D.2.1 c mi, D.2.2.1, D.2.2.2) else D)
  else (up D.1 c (wk V h fa (cp V h c) (D.1 c, D.2.2.2)).1, D.2.1, (if (wk V h fa (cp V h c) (D.1 c, D.2.2.2)).1 = 0 then up D.2.2.1 c mi else D.2.2.1), (wk V h fa (cp V h c) (D.1 c, D.2.2.2)).2)
def Dmi (V : ax_M) (h : Nat) (sm wd : Int) (mi : Nat) (D : DT) : DT := it (D1 V h (far V h sm wd) mi) (nC V h) (D.1, D.2.1, D.2.2.1, wid V h sm wd)
def D0 (V : ax_M) (h : Nat) (sm wd : Int) : DT := (fun c => (ch V h c : Int), fun _ => -1, fun c => if ch V h c = 0 then -1 else 99, wid V h sm wd)
def DD (V : ax_M) (h : Nat) (sm wd : Int) (m : Nat) : DT := it (Dmi V h sm wd) m (D0 V h sm wd)
abbrev ow (D : DT) (c : Nat) : Prop := D.1 c = 0 ∧ D.2.1 c = -1
def DM (V : ax_M) (h : Nat) (D : DT) (M : ax_M) : Prop := (∀ c, c < nC V h → M 103 c = D.1 c ∧ M 74 c = D.2.1 c ∧ M 73 c = D.2.2.1 c) ∧ ∀ s, s < nS V h → M 105 s = D.2.2.2 s
def DK (V : ax_M) (h : Nat) (D : DT) : Prop := (∀ c, c < nC V h → 0 ≤ D.1 c ∧ D.1 c < nR V h ∧ (D.2.1 c = -1 → D.1 c ≠ 0 → D.2.2.1 c = 99) ∧ -1 ≤ D.2.1 c ∧ D.2.1 c < 9) ∧ ∀ s, s < nS V h → 0 ≤ D.2.2.2 s ∧ D.2.2.2 s ≤ 5
section MIN
variable {L : Nat} {X : Nat → Int} {M V : ax_M} {h : Nat}
theorem m10a (hF : Fix M) (hh : h = 9 ∨ h = 27) (hV : HV V h M) (hW : HW V h) (hSW : SW V) (hPW : PW V h) {sm wd : Int} {mi : Nat} (hmi : mi < 9) (hfa : on8 (M 72) (far V h sm wd)) {P : List ax_V → ax_M → Prop} {D : DT} (hend : ∀ M1 v, Sb W10 M M1 → DM V h (it (D1 V h (far V h sm wd) mi) (nC V h) D) M1 → DK V h (it (D1 V h (far V h sm wd) mi) (nC V h) D) → (∀ q k, 76 ≤ q → q < 94 → M1 q k = M q k) → ax_G L X SH 4 10 55 [(2, 71), (2, (h : Int)), (2, 45), (0, (mi : Int)), (0, 0), v] [] M1 P) : ∀ (m k : Nat), k + m = nC V h → ∀ ll M1, (∃ v, ll = [(2, 71), (2, (h : Int)), (2, 45), (0, (mi : Int)), (0, (k : Int)), v] ∧ Sb W10 M M1 ∧ DM V h (it (D1 V h (far V h sm wd) mi) k D) M1 ∧ DK V h (it (D1 V h (far V h sm wd) mi) k D) ∧ (∀ q k, 76 ≤ q → q < 94 → M1 q k = M q k)) → ax_G L X SH 4 10 10 ll [] M1 P := by
  have hC := at10
  have hw : wok W10 = true := by decide +kernel
  have hwh : hok W10 h := hokB (by decide +kernel) hh
  have hb := hW.1.2.2.2.2
  have hb3 := hW.1.2.1.2
  have hfb : ∀ q, -1 ≤ far V h sm wd q ∧ far V h sm wd q ≤ 8 := far_b 8 (Nat.le_refl 8)
  refine lp ?_ ?_
  · rintro ll M1 ⟨v, rfl, hS, h1, h2, h3⟩
    refine g3 hC rfl rfl ?_
    refine g3 hC rfl rfl ?_
    refine g19 hC rfl (shH hh) (Nat.le_of_ble_eq_true rfl) rfl (rd3 hS hwh hV hW) ?_
    refine g13g hC rfl (fun h13 => ?_) (fun h13 => (by omega))
    refine g0 hC rfl ?_
    refine s4 hC rfl rfl rfl ?_
    exact hend M1 _ hS h1 h2 h3
  · rintro k hk ll M1 ⟨v, rfl, hS, h1, h2, h3⟩ hnext
    have hcl := hW.2.2.2.1 k hk
    have hs : it (D1 V h (far V h sm wd) mi) (k + 1) D = D1 V h (far V h sm wd) mi k (it (D1 V h (far V h sm wd) mi) k D) := rfl
    generalize it (D1 V h (far V h sm wd) mi) k D = E at *
    have g1 := h1.1 k hk
    have g2 := h2.1 k hk
    have hV1 := hV.sb hS hwh (fun _ => ⟨rfl, rfl, rfl, rfl⟩)
    have hf72 : on8 (M1 72) (far V h sm wd) := fun q hq => by rw [hS 72 q rfl]; exact hfa q hq
    have ecr : crI (M1 103) (M1 74) k (nC V h) = crI E.1 E.2.1 k (nC V h) := crI_c _ (fun q hq => ⟨(h1.1 q hq).1, (h1.1 q hq).2.1⟩)
    have hM1 := h1
    refine g3 hC rfl rfl ?_
    refine g3 hC rfl rfl ?_
    refine g19 hC rfl (shH hh) (Nat.le_of_ble_eq_true rfl) rfl (rd3 hS hwh hV hW) ?_
    refine g13g hC rfl (fun h13 => (by omega)) (fun h13 => ?_)
    refine g3 hC rfl rfl ?_
    refine g3 hC rfl rfl ?_
    refine c1 hC rfl rfl rfl (Nat.le_of_ble_eq_true rfl) (Nat.le_of_ble_eq_true rfl) rfl (m8 (hS.fix hw hF) (c := (k)) (by omega)) (Nat.le_of_ble_eq_true rfl) (fun x M2 hr => ?_)
    obtain ⟨rfl, hr⟩ := hr
    replace hr := hr.symm
    subst hr
    refine g12e hC rfl (fun h17 => ?_) (fun h17 => ?_)
    ·
      refine g3 hC rfl rfl ?_
      refine g19 hC rfl rfl (Nat.le_of_ble_eq_true rfl) rfl ((hS.fix hw hF).g fx_71_2) ?_
      refine g3 hC rfl rfl ?_
      refine r21 (k) hC rfl (by omega) rfl (Or.inl rfl) (by omega) rfl ?_
      refine g0 hC rfl ?_
      refine g13n hC rfl (fun h45 => ?_) (fun h45 => ?_)
      ·
        refine n4 hC rfl rfl ⟨by omega, by omega⟩ ?_
        refine g14 hC rfl ?_
        have e : D1 V h (far V h sm wd) mi k E = E := by unfold D1; rw [if_pos (by rw [← g1.2.1]; exact h45)]
        exact hnext _ _ ⟨_, rfl, hS, by rw [hs, e]; exact h1, by rw [hs, e]; exact h2, h3⟩
      ·
        refine g3 hC rfl rfl ?_
        refine g3 hC rfl rfl ?_
        refine g3 hC rfl rfl ?_
        refine g3 hC rfl rfl ?_
        have hbk : M1 74 k = -1 := by omega
        have hat : M1 103 k ≠ 0 := fun z => by rw [if_pos ⟨z, hbk⟩] at h17; omega
        refine c0 hC rfl rfl rfl (Nat.le_of_ble_eq_true rfl) (Nat.le_of_ble_eq_true rfl) rfl (m12 (hS.fix hw hF) hh hV1 hW (fr := E.2.2.2) (a0 := E.1 k) hk hf72 hfb (fun s hs => ⟨h1.2 s hs, h2.2 s hs⟩) ⟨g1.1, g2.1, g2.2.1⟩ (by rw [g1.2.2]; exact g2.2.2.1 (by omega) (by omega))) (Nat.le_of_ble_eq_true rfl) (fun M2 hr => ?_)
        obtain ⟨hr, r1, r2, r3, r4⟩ := hr
        have hS := hS.then hr rfl
        refine n4 hC rfl rfl ⟨by omega, by omega⟩ ?_
        refine g14 hC rfl ?_
        have e : D1 V h (far V h sm wd) mi k E = (up E.1 k (wk V h (far V h sm wd) (cp V h k) (E.1 k, E.2.2.2)).1, E.2.1, (if (wk V h (far V h sm wd) (cp V h k) (E.1 k, E.2.2.2)).1 = 0 then up E.2.2.1 k mi else E.2.2.1), (wk V h (far V h sm wd) (cp V h k) (E.1 k, E.2.2.2)).2) := by
          unfold D1; rw [if_neg (by omega), if_neg (by rw [← g1.1]; exact hat)]
        generalize wk V h (far V h sm wd) (cp V h k) (E.1 k, E.2.2.2) = w at *
        refine hnext _ _ ⟨_, rfl, hS, ?_, ?_, fun q z q1 q2 => by rw [hr q z (wbo 76 94 rfl q1 q2)]; exact h3 q z q1 q2⟩
        · rw [hs, e]
          refine ⟨fun c hc => ?_, fun s hs => (r3 s hs).1⟩
          have gc := h1.1 c hc
          refine ⟨?_, ?_, ?_⟩
          · rw [r1]; exact up_c gc.1
          · rw [hr 74 c rfl]; exact gc.2.1
          · rw [r4]; dsimp only
            by_cases z : w.1 = 0
            · rw [if_pos z, if_pos z]; exact up_c gc.2.2
            · rw [if_neg z, if_neg z]; exact gc.2.2
        · rw [hs, e]
          refine ⟨fun c hc => ?_, fun s hs => (r3 s hs).2⟩
          have gc := h2.1 c hc
          dsimp only
          by_cases z : c = k
          · rw [z] at gc ⊢
            rw [up_at]
            refine ⟨r2.1, r2.2, fun _ q => ?_, gc.2.2.2⟩
            rw [if_neg q]; exact gc.2.2.1 (by omega) (by rw [← g1.1]; exact hat)
          · rw [up_ne z]
            refine ⟨gc.1, gc.2.1, fun q1 q2 => ?_, gc.2.2.2⟩
            by_cases y : w.1 = 0
            · rw [if_pos y, up_ne z]; exact gc.2.2.1 q1 q2
            · rw [if_neg y]; exact gc.2.2.1 q1 q2
    ·
      refine g3 hC rfl rfl ?_
      refine g3 hC rfl rfl ?_
      refine g3 hC rfl rfl ?_
      refine g19 hC rfl rfl (Nat.le_of_ble_eq_true rfl) rfl ((hS _ _ rfl).trans (hV.2 0).1) ?_
      refine g3 hC rfl rfl ?_
      refine g3 hC rfl rfl ?_
      refine c1 hC rfl rfl rfl (Nat.le_of_ble_eq_true rfl) (Nat.le_of_ble_eq_true rfl) rfl (m11 (hS.fix hw hF) hh hV1 hW hSW hPW hk ⟨by omega, by omega⟩) (Nat.le_of_ble_eq_true rfl) (fun x M2 hr => ?_)
      obtain ⟨rfl, hr⟩ := hr; have hS := hS.then hr rfl
      refine g12e hC rfl (fun h25 => ?_) (fun h25 => ?_)
      ·
        refine n4 hC rfl rfl ⟨by omega, by omega⟩ ?_
        refine g14 hC rfl ?_
        have z : M1 103 k = 0 ∧ M1 74 k = -1 := by
          by_cases z : M1 103 k = 0 ∧ M1 74 k = -1
          · exact z
          · rw [if_neg z] at h17; omega
        have e : D1 V h (far V h sm wd) mi k E = E := by
          unfold D1; rw [if_neg (by omega), if_pos (by omega), if_neg]
          rw [← ecr]
          intro q; rw [if_pos q] at h25; omega
        refine hnext _ _ ⟨_, rfl, hS, ?_, by rw [hs, e]; exact h2, fun q z q1 q2 => by rw [hr q z (wbo 76 94 rfl q1 q2)]; exact h3 q z q1 q2⟩
        rw [hs, e]
        exact ⟨fun c hc => by rw [hr 103 c rfl, hr 74 c rfl, hr 73 c rfl]; exact h1.1 c hc, fun s hs => by rw [hr 105 s rfl]; exact h1.2 s hs⟩
      ·
        refine g3 hC rfl rfl ?_
        refine g19 hC rfl rfl (Nat.le_of_ble_eq_true rfl) rfl ((hS.fix hw hF).g fx_71_2) ?_
        refine g3 hC rfl rfl ?_
        refine g3 hC rfl rfl ?_
        refine r22s (k) hC rfl (by omega) rfl (by omega) rfl hS rfl (fun hS => ?_)
        refine g3 hC rfl rfl ?_
        refine g19 hC rfl rfl (Nat.le_of_ble_eq_true rfl) rfl ((hS.fix hw hF).g fx_71_7) ?_
        refine g3 hC rfl rfl ?_
        refine g3 hC rfl rfl ?_
        refine g19 hC rfl (shH hh) (Nat.le_of_ble_eq_true rfl) rfl ((hS.fix hw hF).h (v := 8) hh rfl rfl) ?_
        refine g3 hC rfl rfl ?_
        refine r21 (k) hC rfl (by omega) (shA (v := 8) hh rfl rfl) (Or.inl rfl) (by omega) (rdH hS hwh hV hW (by omega)) ?_
        refine r22s (k) hC rfl (by omega) sh103 (by omega) rfl hS rfl (fun hS => ?_)
        refine g14 hC rfl ?_
        refine n4 hC rfl rfl ⟨by omega, by omega⟩ ?_
        refine g14 hC rfl ?_
        have z : M1 103 k = 0 ∧ M1 74 k = -1 := by
          by_cases z : M1 103 k = 0 ∧ M1 74 k = -1
          · exact z
          · rw [if_neg z] at h17; omega
        have e : D1 V h (far V h sm wd) mi k E = (up E.1 k (ch V h k), up E.2.1 k mi, E.2.2.1, E.2.2.2) := by
          unfold D1; rw [if_neg (by omega), if_pos (by omega), if_pos]
          rw [← ecr]
          intro q; rw [if_neg (fun y => y q)] at h25; omega
        refine hnext _ _ ⟨_, rfl, hS, ?_, ?_, fun q z q1 q2 => by rw [ax_up2n (by omega), ax_up2n (by omega), hr q z (wbo 76 94 rfl q1 q2)]; exact h3 q z q1 q2⟩
        · rw [hs, e]
          refine ⟨fun c hc => ?_, fun s hs => by rw [ax_up_ne (by decide), ax_up_ne (by decide), hr 105 s rfl]; exact h1.2 s hs⟩
          have gc := h1.1 c hc
          refine ⟨?_, ?_, ?_⟩
          · rw [ax_upf, ax_up_ne (by decide)]; exact up_c ((hr 103 c rfl).trans gc.1)
          · rw [ax_up_ne (by decide), ax_upf]; exact up_c ((hr 74 c rfl).trans gc.2.1)
          · rw [ax_up_ne (by decide), ax_up_ne (by decide), hr 73 c rfl]; exact gc.2.2
        · rw [hs, e]
          refine ⟨fun c hc => ?_, h2.2⟩
          have gc := h2.1 c hc
          dsimp only
          by_cases z : c = k
          · rw [z, up_at, up_at]
            exact ⟨by omega, by omega, fun q => by omega, by omega, by omega⟩
          · rw [up_ne z, up_ne z]; exact gc
end MIN
