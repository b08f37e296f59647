section MIB
variable {L : Nat} {X : Nat → Int} {M V : ax_M} {h : Nat}
theorem m10b (hF : Fix M) (hh : h = 9 ∨ h = 27) (hV : HV V h M) (hW : HW V h) {mi : Nat} (hmi : mi < 9) {P : ax_M → Prop} {D : DT} {T : Nat → Nat → Int} (hT : ∀ a b, a < nC V h → b < nC V h → 0 ≤ T a b ∧ T a b ≤ 100) (hend : ∀ M1, Sb W10 M M1 → DM V h D M1 → (∀ c, c < nC V h → M1 (76 + mi) c = D.1 c) → (∀ m' q, m' < 9 → m' ≠ mi → M1 (76 + m') q = M (76 + m') q) → (∀ a b, a < nC V h → b < nC V h → M1 (86 + a) b = T a b + (if a ≠ b ∧ ow D a ∧ ow D b then 1 else 0)) → P M1) : ∀ (m k : Nat), k + m = nC V h → ∀ ll M1, (∃ v, ll = [(2, 71), (2, (h : Int)), (2, 45), (0, (mi : Int)), (0, (k : Int)), v] ∧ Sb W10 M M1 ∧ DM V h D M1 ∧ (∀ c, c < k → M1 (76 + mi) c = D.1 c) ∧ (∀ m' q, m' < 9 → m' ≠ mi → M1 (76 + m') q = M (76 + m') q) ∧ (∀ a b, a < nC V h → b < nC V h → M1 (86 + a) b = T a b + (if a < k ∧ a ≠ b ∧ ow D a ∧ ow D b then 1 else 0))) → ax_G L X SH 4 10 55 ll [] M1 (R0 P) := by
  have hC := at10
  have hw : wok W10 = true := by decide +kernel
  have hwh : hok W10 h := hokB (by decide +kernel) hh
  have hb := hW.1.2.2.2.2
  refine lp ?_ ?_
  · rintro ll M1 ⟨v, rfl, hS, h1, h2, h3, h4⟩
    refine g3 hC rfl rfl ?_
    refine g3 hC rfl rfl ?_
    refine g19 hC rfl (shH hh) (Nat.le_of_ble_eq_true rfl) rfl (rd3 hS hwh hV hW) ?_
    refine g13g hC rfl (fun h58 => ?_) (fun h58 => (by omega))
    refine ret0 hC rfl ?_
    refine hend M1 hS h1 h2 h3 (fun a b ha hb => ?_)
    rw [h4 a b ha hb]
    simp only [ha, true_and]
  · rintro k hk ll M1 ⟨v, rfl, hS, h1, h2, h3, h4⟩ hnext
    have l2 : ∀ (m o : Nat), o + m = nC V h → ∀ ll M1, (ll = [(2, 71), (2, (h : Int)), (2, 45), (0, (mi : Int)), (0, (k : Int)), (0, (o : Int))] ∧ Sb W10 M M1 ∧ DM V h D M1 ∧ (∀ c, c < k + 1 → M1 (76 + mi) c = D.1 c) ∧ (∀ m' q, m' < 9 → m' ≠ mi → M1 (76 + m') q = M (76 + m') q) ∧ (∀ a b, a < nC V h → b < nC V h → M1 (86 + a) b = T a b + (if (a < k ∨ (a = k ∧ b < o)) ∧ a ≠ b ∧ ow D a ∧ ow D b then 1 else 0))) → ax_G L X SH 4 10 71 ll [] M1 (R0 P) := by
      refine lp ?_ ?_
      · rintro ll M1 ⟨rfl, hS, h1, h2, h3, h4⟩
        refine g3 hC rfl rfl ?_
        refine g3 hC rfl rfl ?_
        refine g19 hC rfl (shH hh) (Nat.le_of_ble_eq_true rfl) rfl (rd3 hS hwh hV hW) ?_
        refine g13g hC rfl (fun h74 => ?_) (fun h74 => (by omega))
        refine n4 hC rfl rfl ⟨by omega, by omega⟩ ?_
        refine g14 hC rfl ?_
        refine hnext _ _ ⟨_, rfl, hS, h1, h2, h3, fun a b ha hb => ?_⟩
        rw [h4 a b ha hb]
        have : (a < k ∨ (a = k ∧ b < nC V h)) ↔ a < k + 1 := by omega
        simp only [this]
      · rintro o ho ll M1 ⟨rfl, hS, h1, h2, h3, h4⟩ hnext
        have g1 := h1.1 k hk
        have g2 := h1.1 o ho
        have hTk := hT k o hk ho
        have hko := h4 k o hk ho
        rw [if_neg (by omega)] at hko
        have hstay : ¬ (k ≠ o ∧ ow D k ∧ ow D o) → ax_G L X SH 4 10 71 [(2, 71), (2, (h : Int)), (2, 45), (0, (mi : Int)), (0, (k : Int)), (0, (o : Int) + 1)] [] M1 (R0 P) := by
          intro hn
          refine hnext _ _ ⟨rfl, hS, h1, h2, h3, fun a b ha hb => ?_⟩
          rw [h4 a b ha hb]
          by_cases z : a = k ∧ b = o
          · rw [z.1, z.2, if_neg (fun y => hn y.2), if_neg (fun y => hn y.2)]
          · have : (a < k ∨ (a = k ∧ b < o)) ↔ (a < k ∨ (a = k ∧ b < o + 1)) := by omega
            simp only [this]
        refine g3 hC rfl rfl ?_
        refine g3 hC rfl rfl ?_
        refine g19 hC rfl (shH hh) (Nat.le_of_ble_eq_true rfl) rfl (rd3 hS hwh hV hW) ?_
        refine g13g hC rfl (fun h74 => (by omega)) (fun h74 => ?_)
        refine g3 hC rfl rfl ?_
        refine g3 hC rfl rfl ?_
        refine g13e hC rfl (fun h77 => ?_) (fun h77 => ?_)
        ·
          refine n5 hC rfl rfl ⟨by omega, by omega⟩ ?_
          refine g14 hC rfl ?_
          exact hstay (fun z => z.1 (by omega))
        ·
          refine g3 hC rfl rfl ?_
          refine g3 hC rfl rfl ?_
          refine c1 hC rfl rfl rfl (Nat.le_of_ble_eq_true rfl) (Nat.le_of_ble_eq_true rfl) rfl (m8 (hS.fix hw hF) (c := (k)) (by omega)) (Nat.le_of_ble_eq_true rfl) (fun x M2 hr => ?_)
          obtain ⟨rfl, hr⟩ := hr
          replace hr := hr.symm
          subst hr
          refine g12e hC rfl (fun h81 => ?_) (fun h81 => ?_)
          ·
            refine n5 hC rfl rfl ⟨by omega, by omega⟩ ?_
            refine g14 hC rfl ?_
            refine hstay (fun z => ?_)
            rw [if_pos (by rw [g1.1, g1.2.1]; exact z.2.1)] at h81; omega
          ·
            refine g3 hC rfl rfl ?_
            refine g3 hC rfl rfl ?_
            refine c1 hC rfl rfl rfl (Nat.le_of_ble_eq_true rfl) (Nat.le_of_ble_eq_true rfl) rfl (m8 (hS.fix hw hF) (c := (o)) (by omega)) (Nat.le_of_ble_eq_true rfl) (fun x M2 hr => ?_)
            obtain ⟨rfl, hr⟩ := hr
            replace hr := hr.symm
            subst hr
            refine g12e hC rfl (fun h85 => ?_) (fun h85 => ?_)
            ·
              refine n5 hC rfl rfl ⟨by omega, by omega⟩ ?_
              refine g14 hC rfl ?_
              refine hstay (fun z => ?_)
              rw [if_pos (by rw [g2.1, g2.2.1]; exact z.2.2)] at h85; omega
            ·
              refine g3 hC rfl rfl ?_
              refine g19 hC rfl rfl (Nat.le_of_ble_eq_true rfl) rfl ((hS.fix hw hF).g fx_71_4) ?_
              refine g3 hC rfl rfl ?_
              refine r21 (k) hC rfl (by omega) rfl (Or.inl rfl) (by omega) ((hS.fix hw hF).r (n := 8) (v := 86) rfl (by omega)) ?_
              refine g3 hC rfl rfl ?_
              refine g17 hC rfl (by decide) ?_
              refine r21 (o) hC rfl (by omega) (shR86 (by omega)) (Or.inl rfl) (by omega) hko ?_
              refine g0 hC rfl ?_
              refine g6a hC rfl ⟨by omega, by omega⟩ ?_
              refine r22s (o) hC rfl (by omega) (shR86 (by omega)) (by omega) rfl hS (wbr (lo := 86) (hi := 94) rfl (by omega) (by omega)) (fun hS => ?_)
              refine n5 hC rfl rfl ⟨by omega, by omega⟩ ?_
              refine g14 hC rfl ?_
              have y1 : ow D k := by
                by_cases z : M1 103 k = 0 ∧ M1 74 k = -1
                · rw [g1.1, g1.2.1] at z; exact z
                · rw [if_neg z] at h81; omega
              have y2 : ow D o := by
                by_cases z : M1 103 o = 0 ∧ M1 74 o = -1
                · rw [g2.1, g2.2.1] at z; exact z
                · rw [if_neg z] at h85; omega
              refine hnext _ _ ⟨rfl, hS, ?_, fun c hc => ?_, fun m' q q1 q2 => ?_, fun a b ha hb => ?_⟩
              · exact ⟨fun c hc => by rw [ax_up2n (by omega), ax_up2n (by omega), ax_up2n (by omega)]; exact h1.1 c hc, fun s hs => by rw [ax_up2n (by omega)]; exact h1.2 s hs⟩
              · rw [ax_up2n (by omega)]; exact h2 c hc
              · rw [ax_up2n (by omega)]; exact h3 m' q q1 q2
              · by_cases z : a = k ∧ b = o
                · rw [z.1, z.2, up1, if_pos ⟨Or.inr ⟨rfl, by omega⟩, by omega, y1, y2⟩]; omega
                · rw [up2 (by omega), h4 a b ha hb]
                  have : (a < k ∨ (a = k ∧ b < o)) ↔ (a < k ∨ (a = k ∧ b < o + 1)) := by omega
                  simp only [this]
    have g1 := h1.1 k hk
    refine g3 hC rfl rfl ?_
    refine g3 hC rfl rfl ?_
    refine g19 hC rfl (shH hh) (Nat.le_of_ble_eq_true rfl) rfl (rd3 hS hwh hV hW) ?_
    refine g13g hC rfl (fun h58 => (by omega)) (fun h58 => ?_)
    refine g3 hC rfl rfl ?_
    refine g19 hC rfl rfl (Nat.le_of_ble_eq_true rfl) rfl ((hS.fix hw hF).g fx_71_3) ?_
    refine g3 hC rfl rfl ?_
    refine r21 (mi) hC rfl (by omega) rfl (Or.inl rfl) (by omega) ((hS.fix hw hF).r (n := 9) (v := 76) rfl (by omega)) ?_
    refine g3 hC rfl rfl ?_
    refine g3 hC rfl rfl ?_
    refine g19 hC rfl rfl (Nat.le_of_ble_eq_true rfl) rfl ((hS.fix hw hF).g fx_71_7) ?_
    refine g3 hC rfl rfl ?_
    refine r21 (k) hC rfl (by omega) rfl (Or.inl rfl) (by omega) g1.1 ?_
    refine r22s (k) hC rfl (by omega) (shR76 (by omega)) (by omega) rfl hS (wbr (lo := 76) (hi := 85) rfl (by omega) (by omega)) (fun hS => ?_)
    refine g0 hC rfl ?_
    refine s5 hC rfl rfl rfl ?_
    refine l2 (nC V h) 0 (Nat.zero_add _) _ _ ⟨rfl, hS, ?_, fun c hc => ?_, fun m' q q1 q2 => ?_, fun a b ha hb => ?_⟩
    · exact ⟨fun c hc => by rw [ax_up2n (by omega), ax_up2n (by omega), ax_up2n (by omega)]; exact h1.1 c hc, fun s hs => by rw [ax_up2n (by omega)]; exact h1.2 s hs⟩
    · by_cases z : c = k
      · rw [z, up1]
      · rw [up2 (by omega)]; exact h2 c (by omega)
    · rw [ax_up2n (by omega)]; exact h3 m' q q1 q2
    · rw [ax_up2n (by omega), h4 a b ha hb]
      have : (a < k ∨ (a = k ∧ b < 0)) ↔ a < k := by omega
      simp only [this]
theorem m10 (hF : Fix M) (hh : h = 9 ∨ h = 27) (hV : HV V h M) (hW : HW V h) (hSW : SW V) (hPW : PW V h) {sm wd : Int} {mi : Nat} (hmi : mi < 9) (hfa : on8 (M 72) (far V h sm wd)) (hwi : ∀ s, s < nS V h → M 104 s = wid V h sm wd s) {D : DT} {T : Nat → Nat → Int} (hD : ∀ c, c < nC V h → M 103 c = D.1 c ∧ M 74 c = D.2.1 c ∧ M 73 c = D.2.2.1 c) (hK : DK V h D) (hT : ∀ a b, a < nC V h → b < nC V h → M (86 + a) b = T a b ∧ 0 ≤ T a b ∧ T a b ≤ 100) : ax_Ev L X SH 4 10 [(2, 71), (2, (h : Int)), (2, 45), (0, (mi : Int))] M (R0 (fun M' => Sb W10 M M' ∧ DM V h (Dmi V h sm wd mi D) M' ∧ DK V h (Dmi V h sm wd mi D) ∧ (∀ c, c < nC V h → M' (76 + mi) c = (Dmi V h sm wd mi D).1 c) ∧ (∀ m' q, m' < 9 → m' ≠ mi → M' (76 + m') q = M (76 + m') q) ∧ (∀ a b, a < nC V h → b < nC V h → M' (86 + a) b = T a b + (if a ≠ b ∧ ow (Dmi V h sm wd mi D) a ∧ ow (Dmi V h sm wd mi D) b then 1 else 0)))) := by
  show ax_G L X SH 4 10 0 [(2, 71), (2, (h : Int)), (2, 45), (0, (mi : Int)), (3, 0), (3, 0)] [] M _
  have hC := at10
  have hw : wok W10 = true := by decide +kernel
  have hwh : hok W10 h := hokB (by decide +kernel) hh
  have hS : Sb W10 M M := Sb.refl
  have hb3 := hW.1.2.1.2
  refine g3 hC rfl rfl ?_
  refine g19 hC rfl rfl (Nat.le_of_ble_eq_true rfl) rfl ((hS.fix hw hF).g fx_71_8) ?_
  refine g0 hC rfl ?_
  refine g3 hC rfl rfl ?_
  refine g19 hC rfl rfl (Nat.le_of_ble_eq_true rfl) rfl ((hS.fix hw hF).g fx_71_9) ?_
  refine g0 hC rfl ?_
  refine g0 hC rfl ?_
  refine r29s (0) (0) (10) hC rfl (by omega) (by omega) (by omega) sh104 sh105 (by omega) (by omega) (Nat.le_of_ble_eq_true rfl) hS (fun _ => rfl) (fun hS => ?_)
  refine g0 hC rfl ?_
  refine s4 hC rfl rfl rfl ?_
  refine m10a hF hh hV hW hSW hPW hmi hfa (D := (D.1, D.2.1, D.2.2.1, wid V h sm wd)) (fun M1 v g1 g2 g3 g4 => ?_) (nC V h) 0 (Nat.zero_add _) _ _ ⟨_, rfl, hS, ?_, ?_, fun q k q1 q2 => ?_⟩
  · refine m10b hF hh hV hW hmi (D := Dmi V h sm wd mi D) (T := T) (fun a b ha hb => (hT a b ha hb).2) (fun M2 k1 k2 k3 k4 k5 => ⟨k1, k2, g3, k3, k4, k5⟩) (nC V h) 0 (Nat.zero_add _) _ _ ⟨_, rfl, g1, g2, fun c hc => absurd hc (Nat.not_lt_zero c), fun m' q q1 q2 => g4 _ _ (by omega) (by omega), fun a b ha hb => ?_⟩
    have := hW.1.2.2.2.2
    rw [g4 _ _ (by omega) (by omega), (hT a b ha hb).1, if_neg (fun z => absurd z.1 (Nat.not_lt_zero a))]
    omega
  · refine ⟨fun c hc => ?_, fun s hs => ?_⟩
    · rw [cpe, cpe, cpe, if_neg (by omega), if_neg (by omega), if_neg (by omega)]; exact hD c hc
    · rw [cpe, if_pos (by omega), show 0 + (s - 0) = s by omega]; exact hwi s hs
  · exact ⟨hK.1, fun s hs => wid_b hW hs⟩
  · rw [cpe, if_neg (by omega)]
end MIB
