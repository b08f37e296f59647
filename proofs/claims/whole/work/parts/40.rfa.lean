def X201 : ax_W := ([(188, 190)], [])
theorem far_z {V : ax_M} {h : Nat} {sm wd : Int} (n : Nat) : ∀ q, farN V h sm wd n q = 0 → q = 0 := by
  unfold farN
  refine it_ind (P := fun (f : Nat → Int) => ∀ q, f q = 0 → q = 0) ?_ ?_
  · intro q; unfold far0; split
    · intro _; assumption
    · intro z; omega
  · intro k f hk hf
    unfold farI
    refine it_ind (P := fun (f : Nat → Int) => ∀ q, f q = 0 → q = 0) hf ?_
    intro s g hs hg
    have hr : ∀ (g : Nat → Int) a b, (∀ q, g q = 0 → q = 0) → ∀ q, rch g a b k q = 0 → q = 0 := by
      intro g a b hg q
      unfold rch up
      split
      · dsimp only; split
        · intro z; omega
        · exact hg q
      · exact hg q
    unfold fs1
    split
    · exact hr _ _ _ (hr _ _ _ hg)
    · exact hg
theorem wid_p {V : ax_M} {h s : Nat} {sm wd : Int} (hW : HW V h) (hs : s < nS V h) : (0 < wid V h sm wd s) ↔ ¬ (V 47 s = 1 ∨ (s : Int) = sm) := by
  have := (hW.2.1 s hs).2.2.2
  unfold wid
  split
  · constructor
    · intro z; omega
    · intro z; exact absurd (by assumption) z
  · constructor
    · intro _; assumption
    · intro _; split <;> omega
section RFA
variable {L : Nat} {X : Nat → Int} {M V : ax_M} {h : Nat}
theorem m198 (hF : Fix M) (hV : RV V h M) (hW : HW V h) {sm wd : Int} (hsm : M 142 69 = sm) : ax_Ev L X SH 2 198 [(2, 142)] M (R0 (fun M' => Sb X198 M M' ∧ (0 < nR V h → on8 (M' 187) (far V h sm wd)))) := by
  show ax_G L X SH 2 198 0 [(2, 142), (3, 0), (3, 0), (3, 0), (3, 0)] [] M _
  have hC := at198
  have hw : wok X198 = true := by decide +kernel
  have hwr : rok X198 := rokI rfl
  have hb := hW.1.2.1.2
  have hb2 := hW.1.1.2
  have l3 : ∀ (m n : Nat), n + m = 8 → ∀ ll M1, (∃ u v w, ll = [(2, 142), (0, (n : Int)), u, v, w] ∧ (v.1 == 1) = false ∧ Sb X198 M M1 ∧ (0 < nR V h → on8 (M1 187) (farN V h sm wd n))) → ax_G L X SH 2 198 22 ll [] M1 (R0 (fun M' => Sb X198 M M' ∧ (0 < nR V h → on8 (M' 187) (far V h sm wd)))) := by
    refine lp ?_ ?_
    · rintro ll M1 ⟨u, v, w, rfl, hv, hS, h2⟩
      refine g3 hC rfl rfl ?_
      refine g0 hC rfl ?_
      refine g13g hC rfl (fun h24 => ?_) (fun h24 => (by omega))
      refine ret0 hC rfl ?_
      exact ⟨hS, h2⟩
    · rintro n hn ll M1 ⟨u, v, w, rfl, hv, hS, h2⟩ hnext
      have l4 : ∀ (m k : Nat), k + m = nS V h → ∀ ll M1, (∃ v w, ll = [(2, 142), (0, (n : Int)), (0, (k : Int)), v, w] ∧ (v.1 == 1) = false ∧ Sb X198 M M1 ∧ (0 < nR V h → on8 (M1 187) (farI V h sm wd n k (farN V h sm wd n)))) → ax_G L X SH 2 198 27 ll [] M1 (R0 (fun M' => Sb X198 M M' ∧ (0 < nR V h → on8 (M' 187) (far V h sm wd)))) := by
        refine lp ?_ ?_
        · rintro ll M1 ⟨v, w, rfl, hv, hS, h2⟩
          refine g3 hC rfl rfl ?_
          refine g3 hC rfl rfl ?_
          refine c1 hC rfl rfl rfl (Nat.le_of_ble_eq_true rfl) (Nat.le_of_ble_eq_true rfl) (mayR k184 rfl) (m184 (hS.fix hw hF) (hV.sb hS hwr) hW) (Nat.le_of_ble_eq_true rfl) (fun x M2 hr => ?_)
          obtain ⟨rfl, hr⟩ := hr
          replace hr := hr.symm
          subst hr
          refine g13g hC rfl (fun h30 => ?_) (fun h30 => (by omega))
          refine n1 hC rfl rfl ⟨by omega, by omega⟩ ?_
          refine g14 hC rfl ?_
          exact hnext _ _ ⟨_, _, _, rfl, hv, hS, h2⟩
        · rintro k hk ll M1 ⟨v, w, rfl, hv, hS, h2⟩ hnext
          have hst := hW.2.1 k hk
          have hs : farI V h sm wd n (k + 1) (farN V h sm wd n) = fs1 V h sm wd n k (farI V h sm wd n k (farN V h sm wd n)) := rfl
          generalize farI V h sm wd n k (farN V h sm wd n) = f at *
          have h2 := h2 (by omega)
          have hwp := wid_p (sm := sm) (wd := wd) hW hk
          have stay : ∀ M2 (v w : ax_V), (v.1 == 1) = false → Sb X198 M M2 → 0 < wid V h sm wd k → on8 (M2 187) (rch (rch f (sa V h k) (sb V h k) n) (sb V h k) (sa V h k) n) → ax_G L X SH 2 198 27 [(2, 142), (0, (n : Int)), (0, (k : Int) + 1), v, w] [] M2 (R0 (fun M' => Sb X198 M M' ∧ (0 < nR V h → on8 (M' 187) (far V h sm wd)))) := by
            intro M2 v w hv hS q1 q2
            refine hnext _ _ ⟨_, _, rfl, hv, hS, fun _ => ?_⟩
            rw [hs]; unfold fs1; rw [if_pos q1]; exact q2
          have j2 : ∀ M2, Sb X198 M M2 → 0 < wid V h sm wd k → on8 (M2 187) (rch f (sa V h k) (sb V h k) n) → ax_G L X SH 2 198 73 [(2, 142), (0, (n : Int)), (0, (k : Int)), (0, (sa V h k : Int)), (0, (sb V h k : Int))] [] M2 (R0 (fun M' => Sb X198 M M' ∧ (0 < nR V h → on8 (M' 187) (far V h sm wd)))) := by
            intro M2 hS q1 q2
            have q3 := q2.rch (a := sb V h k) (b := sa V h k) (n := n) (by omega) (by omega)
            refine g3 hC rfl rfl ?_
            refine g19 hC rfl sh142 (flt12 rfl) ft12_60 ((hS.fix hw hF).g fx_142_60) ?_
            refine g3 hC rfl rfl ?_
            refine r21 ((sb V h k)) hC rfl (by omega) sh187 (Or.inl rfl) (by omega) rfl ?_
            refine g3 hC rfl rfl ?_
            refine g13n hC rfl (fun h78 => ?_) (fun h78 => ?_)
            ·
              refine n2 hC rfl rfl ⟨by omega, by omega⟩ ?_
              refine g14 hC rfl ?_
              refine stay _ _ _ rfl hS q1 (fun q hq => ?_)
              rw [← q3 q hq]; unfold rch; rw [if_neg (fun z => h78 z.1)]
            ·
              refine g3 hC rfl rfl ?_
              refine g19 hC rfl sh142 (flt12 rfl) ft12_60 ((hS.fix hw hF).g fx_142_60) ?_
              refine g3 hC rfl rfl ?_
              refine r21 ((sa V h k)) hC rfl (by omega) sh187 (Or.inl rfl) (by omega) rfl ?_
              refine g0 hC rfl ?_
              refine g13n hC rfl (fun h84 => ?_) (fun h84 => ?_)
              ·
                refine n2 hC rfl rfl ⟨by omega, by omega⟩ ?_
                refine g14 hC rfl ?_
                refine stay _ _ _ rfl hS q1 (fun q hq => ?_)
                rw [← q3 q hq]; unfold rch; rw [if_neg (fun z => h84 z.2)]
              ·
                refine g3 hC rfl rfl ?_
                refine g19 hC rfl sh142 (flt12 rfl) ft12_60 ((hS.fix hw hF).g fx_142_60) ?_
                refine g3 hC rfl rfl ?_
                refine g3 hC rfl rfl ?_
                refine g0 hC rfl ?_
                refine g6a hC rfl ⟨by omega, by omega⟩ ?_
                refine r22s ((sa V h k)) hC rfl (by omega) sh187 (by omega) rfl hS rfl (fun hS => ?_)
                refine n2 hC rfl rfl ⟨by omega, by omega⟩ ?_
                refine g14 hC rfl ?_
                refine stay _ _ _ rfl hS q1 (fun q hq => ?_)
                rw [← q3 q hq, ax_upf]; unfold rch; rw [if_pos (by omega)]
          have q3 := h2.rch (a := sa V h k) (b := sb V h k) (n := n) (by omega) (by omega)
          refine g3 hC rfl rfl ?_
          refine g3 hC rfl rfl ?_
          refine c1 hC rfl rfl rfl (Nat.le_of_ble_eq_true rfl) (Nat.le_of_ble_eq_true rfl) (mayR k184 rfl) (m184 (hS.fix hw hF) (hV.sb hS hwr) hW) (Nat.le_of_ble_eq_true rfl) (fun x M2 hr => ?_)
          obtain ⟨rfl, hr⟩ := hr
          replace hr := hr.symm
          subst hr
          refine g13g hC rfl (fun h30 => (by omega)) (fun h30 => ?_)
          refine g3 hC rfl rfl ?_
          refine g3 hC rfl rfl ?_
          refine c1 hC rfl rfl rfl (Nat.le_of_ble_eq_true rfl) (Nat.le_of_ble_eq_true rfl) (mayR k197 rfl) (m197 (hS.fix hw hF) (hV.sb hS hwr) hW (s := (k)) (by omega) ((hS 142 69 rfl).trans hsm)) (Nat.le_of_ble_eq_true rfl) (fun x M2 hr => ?_)
          obtain ⟨rfl, hr⟩ := hr
          replace hr := hr.symm
          subst hr
          refine g12e hC rfl (fun h34 => ?_) (fun h34 => ?_)
          ·
            refine g3 hC rfl rfl ?_
            refine g19 hC rfl sh142 (flt12 rfl) ft12_44 ((hS.fix hw hF).g fx_142_44) ?_
            refine g0 hC rfl ?_
            refine g0 hC rfl ?_
            refine g3 hC rfl rfl ?_
            refine g6m hC rfl ⟨by omega, by omega⟩ ?_
            refine g6a hC rfl ⟨by omega, by omega⟩ ?_
            refine r21 ((30 + (3 * k))) hC rfl (by omega) sh178 (Or.inl rfl) (by omega) (rmA hS hwr hV hW (by omega)) ?_
            refine s3 hC rfl rfl rfl ?_
            refine g3 hC rfl rfl ?_
            refine g19 hC rfl sh142 (flt12 rfl) ft12_44 ((hS.fix hw hF).g fx_142_44) ?_
            refine g0 hC rfl ?_
            refine g0 hC rfl ?_
            refine g3 hC rfl rfl ?_
            refine g6m hC rfl ⟨by omega, by omega⟩ ?_
            refine g6a hC rfl ⟨by omega, by omega⟩ ?_
            refine r21 ((31 + (3 * k))) hC rfl (by omega) sh178 (Or.inl rfl) (by omega) (rmB hS hwr hV hW (by omega)) ?_
            refine s4 hC rfl rfl rfl ?_
            refine g3 hC rfl rfl ?_
            refine g19 hC rfl sh142 (flt12 rfl) ft12_60 ((hS.fix hw hF).g fx_142_60) ?_
            refine g3 hC rfl rfl ?_
            refine r21 ((sa V h (k))) hC rfl (by omega) sh187 (Or.inl rfl) (by omega) rfl ?_
            refine g3 hC rfl rfl ?_
            refine g13n hC rfl (fun h59 => ?_) (fun h59 => ?_)
            ·
              have hop : 0 < wid V h sm wd k := hwp.mpr (fun z => by rw [if_pos z] at h34; omega)
              refine j2 _ hS hop (fun q hq => ?_)
              rw [← q3 q hq]; unfold rch; rw [if_neg (fun z => h59 z.1)]
            ·
              refine g3 hC rfl rfl ?_
              refine g19 hC rfl sh142 (flt12 rfl) ft12_60 ((hS.fix hw hF).g fx_142_60) ?_
              refine g3 hC rfl rfl ?_
              refine r21 ((sb V h (k))) hC rfl (by omega) sh187 (Or.inl rfl) (by omega) rfl ?_
              refine g0 hC rfl ?_
              refine g13n hC rfl (fun h65 => ?_) (fun h65 => ?_)
              ·
                have hop : 0 < wid V h sm wd k := hwp.mpr (fun z => by rw [if_pos z] at h34; omega)
                refine j2 _ hS hop (fun q hq => ?_)
                rw [← q3 q hq]; unfold rch; rw [if_neg (fun z => h65 z.2)]
              ·
                refine g3 hC rfl rfl ?_
                refine g19 hC rfl sh142 (flt12 rfl) ft12_60 ((hS.fix hw hF).g fx_142_60) ?_
                refine g3 hC rfl rfl ?_
                refine g3 hC rfl rfl ?_
                refine g0 hC rfl ?_
                refine g6a hC rfl ⟨by omega, by omega⟩ ?_
                refine r22s ((sb V h (k))) hC rfl (by omega) sh187 (by omega) rfl hS rfl (fun hS => ?_)
                have hop : 0 < wid V h sm wd k := hwp.mpr (fun z => by rw [if_pos z] at h34; omega)
                refine j2 _ hS hop (fun q hq => ?_)
                rw [← q3 q hq, ax_upf]; unfold rch; rw [if_pos (by omega)]
          ·
            refine g14 hC rfl ?_
            refine n2 hC rfl rfl ⟨by omega, by omega⟩ ?_
            refine g14 hC rfl ?_
            refine hnext _ _ ⟨_, _, rfl, hv, hS, fun _ => ?_⟩
            rw [hs]; unfold fs1
            rw [if_neg (fun z => h34 (by rw [if_neg (hwp.mp z)]))]
            exact h2
      refine g3 hC rfl rfl ?_
      refine g0 hC rfl ?_
      refine g13g hC rfl (fun h24 => (by omega)) (fun h24 => ?_)
      refine g0 hC rfl ?_
      refine s2 hC rfl rfl rfl ?_
      exact l4 (nS V h) 0 (Nat.zero_add _) _ _ ⟨_, _, rfl, hv, hS, h2⟩
  have l1 : ∀ (m k : Nat), k + m = 8 → ∀ ll M1, (∃ u v w, ll = [(2, 142), (0, (k : Int)), u, v, w] ∧ (v.1 == 1) = false ∧ Sb X198 M M1 ∧ (∀ q, q < k → M1 187 q = -1)) → ax_G L X SH 2 198 2 ll [] M1 (R0 (fun M' => Sb X198 M M' ∧ (0 < nR V h → on8 (M' 187) (far V h sm wd)))) := by
    refine lp ?_ ?_
    · rintro ll M1 ⟨u, v, w, rfl, hv, hS, h2⟩
      refine g3 hC rfl rfl ?_
      refine g0 hC rfl ?_
      refine g13g hC rfl (fun h4 => ?_) (fun h4 => (by omega))
      refine g3 hC rfl rfl ?_
      refine c1 hC rfl rfl rfl (Nat.le_of_ble_eq_true rfl) (Nat.le_of_ble_eq_true rfl) (mayR k183 rfl) (m183 (hS.fix hw hF) (hV.sb hS hwr) hW) (Nat.le_of_ble_eq_true rfl) (fun x M2 hr => ?_)
      obtain ⟨rfl, hr⟩ := hr
      replace hr := hr.symm
      subst hr
      refine g12s hC rfl (fun h14 => ?_) (fun h14 => ?_)
      ·
        refine g0 hC rfl ?_
        refine s1 hC rfl rfl rfl ?_
        exact l3 8 0 rfl _ _ ⟨_, _, _, rfl, hv, hS, fun z => by omega⟩
      ·
        refine g3 hC rfl rfl ?_
        refine g19 hC rfl sh142 (flt12 rfl) ft12_60 ((hS.fix hw hF).g fx_142_60) ?_
        refine g0 hC rfl ?_
        refine g0 hC rfl ?_
        refine r22s (0) hC rfl (by omega) sh187 (by omega) rfl hS rfl (fun hS => ?_)
        refine g0 hC rfl ?_
        refine s1 hC rfl rfl rfl ?_
        refine l3 8 0 rfl _ _ ⟨_, _, _, rfl, hv, hS, fun z q hq => ?_⟩
        show ax_up M1 187 0 0 187 q = far0 q
        rw [ax_upf]; unfold up far0
        split
        · rfl
        · exact h2 q hq
    · rintro k hk ll M1 ⟨u, v, w, rfl, hv, hS, h2⟩ hnext
      refine g3 hC rfl rfl ?_
      refine g0 hC rfl ?_
      refine g13g hC rfl (fun h4 => (by omega)) (fun h4 => ?_)
      refine g3 hC rfl rfl ?_
      refine g19 hC rfl sh142 (flt12 rfl) ft12_60 ((hS.fix hw hF).g fx_142_60) ?_
      refine g3 hC rfl rfl ?_
      refine g0 hC rfl ?_
      refine r22s (k) hC rfl (by omega) sh187 (by omega) rfl hS rfl (fun hS => ?_)
      refine n1 hC rfl rfl ⟨by omega, by omega⟩ ?_
      refine g14 hC rfl ?_
      refine hnext _ _ ⟨_, _, _, rfl, hv, hS, fun q hq => ?_⟩
      rw [ax_upf]; unfold up
      split
      · rfl
      · exact h2 q (by omega)
  have hS : Sb X198 M M := Sb.refl
  refine g0 hC rfl ?_
  refine s1 hC rfl rfl rfl ?_
  exact l1 8 0 rfl _ _ ⟨_, _, _, rfl, rfl, hS, fun q hq => absurd hq (Nat.not_lt_zero q)⟩
end RFA
