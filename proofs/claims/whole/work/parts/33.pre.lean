section PRE
variable {L : Nat} {X : Nat → Int} {M V : ax_M} {h : Nat}
theorem on8r6 {f g f' : Nat → Int} (h : on8 f g) {a b : Nat} {n : Int} (e : f' = rch f a b n) (ha : a < 8) (hb : b < 8) : on8 f' (rch g a b n) := by rw [e]; exact h.rch ha hb
theorem m5 (hF : Fix M) (hh : h = 9 ∨ h = 27) (hV : HV V h M) (hW : HW V h) {sm wd : Int} : ax_Ev L X SH 1 5 [(2, 71), (2, (h : Int)), (2, 45), (0, sm), (0, wd)] M (R0 (fun M' => Sb W5 M M' ∧ (∀ s, s < nS V h → M' 104 s = wid V h sm wd s) ∧ on8 (M' 72) (far V h sm wd))) := by
  show ax_G L X SH 1 5 0 [(2, 71), (2, (h : Int)), (2, 45), (0, sm), (0, wd), (3, 0), (3, 0), (3, 0)] [] M _
  have hC := at5
  have hw : wok W5 = true := by decide +kernel
  have hwh : hok W5 h := hokB (by decide +kernel) hh
  have hb := hW.1.2.1.2
  have hb2 := hW.1.1.2
  have l3 : ∀ (m n : Nat), n + m = 8 → ∀ ll M1, (∃ u v, ll = [(2, 71), (2, (h : Int)), (2, 45), (0, sm), (0, wd), (0, (n : Int)), u, v] ∧ Sb W5 M M1 ∧ (∀ s, s < nS V h → M1 104 s = wid V h sm wd s) ∧ on8 (M1 72) (farN V h sm wd n)) → ax_G L X SH 1 5 60 ll [] M1 (R0 (fun M' => Sb W5 M M' ∧ (∀ s, s < nS V h → M' 104 s = wid V h sm wd s) ∧ on8 (M' 72) (far V h sm wd))) := by
    refine lp ?_ ?_
    · rintro ll M1 ⟨u, v, rfl, hS, h1, h2⟩
      refine g3 hC rfl rfl ?_
      refine g0 hC rfl ?_
      refine g13g hC rfl (fun h62 => ?_) (fun h62 => (by omega))
      refine ret0 hC rfl ?_
      exact ⟨hS, h1, h2⟩
    · rintro n hn ll M1 ⟨u, v, rfl, hS, h1, h2⟩ hnext
      have l4 : ∀ (m k : Nat), k + m = nS V h → ∀ ll M1, (∃ v, ll = [(2, 71), (2, (h : Int)), (2, 45), (0, sm), (0, wd), (0, (n : Int)), (0, (k : Int)), v] ∧ Sb W5 M M1 ∧ (∀ s, s < nS V h → M1 104 s = wid V h sm wd s) ∧ on8 (M1 72) (farI V h sm wd n k (farN V h sm wd n))) → ax_G L X SH 1 5 65 ll [] M1 (R0 (fun M' => Sb W5 M M' ∧ (∀ s, s < nS V h → M' 104 s = wid V h sm wd s) ∧ on8 (M' 72) (far V h sm wd))) := by
        refine lp ?_ ?_
        · rintro ll M1 ⟨v, rfl, hS, h1, h2⟩
          refine g3 hC rfl rfl ?_
          refine g3 hC rfl rfl ?_
          refine g19 hC rfl (shH hh) (Nat.le_of_ble_eq_true rfl) rfl (rd1 hS hwh hV hW) ?_
          refine g13g hC rfl (fun h68 => ?_) (fun h68 => (by omega))
          refine n5 hC rfl rfl ⟨by omega, by omega⟩ ?_
          refine g14 hC rfl ?_
          exact hnext _ _ ⟨_, _, rfl, hS, h1, h2⟩
        · rintro k hk ll M1 ⟨v, rfl, hS, h1, h2⟩ hnext
          have hst := hW.2.1 k hk
          have hs : farI V h sm wd n (k + 1) (farN V h sm wd n) = fs1 V h sm wd n k (farI V h sm wd n k (farN V h sm wd n)) := rfl
          generalize farI V h sm wd n k (farN V h sm wd n) = f at *
          have hwk := h1 k hk
          refine g3 hC rfl rfl ?_
          refine g3 hC rfl rfl ?_
          refine g19 hC rfl (shH hh) (Nat.le_of_ble_eq_true rfl) rfl (rd1 hS hwh hV hW) ?_
          refine g13g hC rfl (fun h68 => (by omega)) (fun h68 => ?_)
          refine g3 hC rfl rfl ?_
          refine g19 hC rfl rfl (Nat.le_of_ble_eq_true rfl) rfl ((hS.fix hw hF).g fx_71_8) ?_
          refine g3 hC rfl rfl ?_
          refine r21 (k) hC rfl (by omega) sh104 (Or.inl rfl) (by omega) hwk ?_
          refine g12s hC rfl (fun h73 => ?_) (fun h73 => ?_)
          ·
            refine n6 hC rfl rfl ⟨by omega, by omega⟩ ?_
            refine g14 hC rfl ?_
            refine hnext _ _ ⟨_, rfl, hS, h1, ?_⟩
            rw [hs]; unfold fs1; rw [if_neg (by omega)]; exact h2
          ·
            refine g3 hC rfl rfl ?_
            refine g3 hC rfl rfl ?_
            refine g19 hC rfl (shH hh) (Nat.le_of_ble_eq_true rfl) rfl ((hS.fix hw hF).h (v := 4) hh rfl rfl) ?_
            refine g3 hC rfl rfl ?_
            refine r21 (k) hC rfl (by omega) (shA (v := 4) hh rfl rfl) (Or.inl rfl) (by omega) (rdA hS hwh hV hW (by omega)) ?_
            refine g3 hC rfl rfl ?_
            refine g19 hC rfl (shH hh) (Nat.le_of_ble_eq_true rfl) rfl ((hS.fix hw hF).h (v := 5) hh rfl rfl) ?_
            refine g3 hC rfl rfl ?_
            refine r21 (k) hC rfl (by omega) (shA (v := 5) hh rfl rfl) (Or.inl rfl) (by omega) (rdB hS hwh hV hW (by omega)) ?_
            refine g3 hC rfl rfl ?_
            refine c0 hC rfl rfl rfl (Nat.le_of_ble_eq_true rfl) (Nat.le_of_ble_eq_true rfl) rfl (m6 (hS.fix hw hF) (a := ((sa V h (k)))) (b := ((sb V h (k)))) (by omega) (by omega) (by omega)) (Nat.le_of_ble_eq_true rfl) (fun M2 hr => ?_)
            obtain ⟨e, hr⟩ := hr; have hS := hS.then hr rfl; have h2 := on8r6 h2 e (by omega) (by omega); have h1 : ∀ s, s < nS V h → M2 104 s = wid V h sm wd s := fun s hs => (hr 104 s rfl).trans (h1 s hs)
            refine g3 hC rfl rfl ?_
            refine g3 hC rfl rfl ?_
            refine g19 hC rfl (shH hh) (Nat.le_of_ble_eq_true rfl) rfl ((hS.fix hw hF).h (v := 5) hh rfl rfl) ?_
            refine g3 hC rfl rfl ?_
            refine r21 (k) hC rfl (by omega) (shA (v := 5) hh rfl rfl) (Or.inl rfl) (by omega) (rdB hS hwh hV hW (by omega)) ?_
            refine g3 hC rfl rfl ?_
            refine g19 hC rfl (shH hh) (Nat.le_of_ble_eq_true rfl) rfl ((hS.fix hw hF).h (v := 4) hh rfl rfl) ?_
            refine g3 hC rfl rfl ?_
            refine r21 (k) hC rfl (by omega) (shA (v := 4) hh rfl rfl) (Or.inl rfl) (by omega) (rdA hS hwh hV hW (by omega)) ?_
            refine g3 hC rfl rfl ?_
            refine c0 hC rfl rfl rfl (Nat.le_of_ble_eq_true rfl) (Nat.le_of_ble_eq_true rfl) rfl (m6 (hS.fix hw hF) (a := ((sb V h (k)))) (b := ((sa V h (k)))) (by omega) (by omega) (by omega)) (Nat.le_of_ble_eq_true rfl) (fun M2 hr => ?_)
            obtain ⟨e, hr⟩ := hr; have hS := hS.then hr rfl; have h2 := on8r6 h2 e (by omega) (by omega); have h1 : ∀ s, s < nS V h → M2 104 s = wid V h sm wd s := fun s hs => (hr 104 s rfl).trans (h1 s hs)
            refine n6 hC rfl rfl ⟨by omega, by omega⟩ ?_
            refine g14 hC rfl ?_
            refine hnext _ _ ⟨_, rfl, hS, h1, ?_⟩
            rw [hs]; unfold fs1; rw [if_pos (by omega)]; exact h2
      refine g3 hC rfl rfl ?_
      refine g0 hC rfl ?_
      refine g13g hC rfl (fun h62 => (by omega)) (fun h62 => ?_)
      refine g0 hC rfl ?_
      refine s6 hC rfl rfl rfl ?_
      exact l4 (nS V h) 0 (Nat.zero_add _) _ _ ⟨_, rfl, hS, h1, h2⟩
  have l2 : ∀ (m k : Nat), k + m = 8 → ∀ ll M1, (∃ u v, ll = [(2, 71), (2, (h : Int)), (2, 45), (0, sm), (0, wd), (0, (k : Int)), u, v] ∧ Sb W5 M M1 ∧ (∀ s, s < nS V h → M1 104 s = wid V h sm wd s) ∧ (∀ q, q < k → M1 72 q = far0 q)) → ax_G L X SH 1 5 44 ll [] M1 (R0 (fun M' => Sb W5 M M' ∧ (∀ s, s < nS V h → M' 104 s = wid V h sm wd s) ∧ on8 (M' 72) (far V h sm wd))) := by
    refine lp ?_ ?_
    · rintro ll M1 ⟨u, v, rfl, hS, h1, h2⟩
      refine g3 hC rfl rfl ?_
      refine g0 hC rfl ?_
      refine g13g hC rfl (fun h46 => ?_) (fun h46 => (by omega))
      refine g0 hC rfl ?_
      refine s5 hC rfl rfl rfl ?_
      exact l3 8 0 rfl _ _ ⟨_, _, rfl, hS, h1, h2⟩
    · rintro k hk ll M1 ⟨u, v, rfl, hS, h1, h2⟩ hnext
      have hf : ∀ (x : Int), x = far0 k → ∀ q, q < k + 1 → ax_up M1 72 k x 72 q = far0 q := by
        intro x hx q hq
        rw [ax_upf]; unfold up
        split
        · rename_i e; rw [e]; exact hx
        · exact h2 q (by omega)
      refine g3 hC rfl rfl ?_
      refine g0 hC rfl ?_
      refine g13g hC rfl (fun h46 => (by omega)) (fun h46 => ?_)
      refine g3 hC rfl rfl ?_
      refine g19 hC rfl rfl (Nat.le_of_ble_eq_true rfl) rfl ((hS.fix hw hF).g fx_71_0) ?_
      refine g3 hC rfl rfl ?_
      refine g3 hC rfl rfl ?_
      refine g12n hC rfl (fun h51 => ?_) (fun h51 => ?_)
      ·
        refine g0 hC rfl ?_
        refine r22s (k) hC rfl (by omega) rfl (by omega) rfl hS rfl (fun hS => ?_)
        refine n5 hC rfl rfl ⟨by omega, by omega⟩ ?_
        refine g14 hC rfl ?_
        exact hnext _ _ ⟨_, _, rfl, hS, fun s hs => (ax_up2n (by decide)).trans (h1 s hs), hf _ (by unfold far0; rw [if_neg (by omega)])⟩
      ·
        refine g0 hC rfl ?_
        refine g14 hC rfl ?_
        refine r22s (k) hC rfl (by omega) rfl (by omega) rfl hS rfl (fun hS => ?_)
        refine n5 hC rfl rfl ⟨by omega, by omega⟩ ?_
        refine g14 hC rfl ?_
        exact hnext _ _ ⟨_, _, rfl, hS, fun s hs => (ax_up2n (by decide)).trans (h1 s hs), hf _ (by unfold far0; rw [if_pos (by omega)])⟩
  have l1 : ∀ (m k : Nat), k + m = nS V h → ∀ ll M1, (∃ u v, ll = [(2, 71), (2, (h : Int)), (2, 45), (0, sm), (0, wd), (0, (k : Int)), u, v] ∧ Sb W5 M M1 ∧ (∀ s, s < k → M1 104 s = wid V h sm wd s)) → ax_G L X SH 1 5 2 ll [] M1 (R0 (fun M' => Sb W5 M M' ∧ (∀ s, s < nS V h → M' 104 s = wid V h sm wd s) ∧ on8 (M' 72) (far V h sm wd))) := by
    refine lp ?_ ?_
    · rintro ll M1 ⟨u, v, rfl, hS, h1⟩
      refine g3 hC rfl rfl ?_
      refine g3 hC rfl rfl ?_
      refine g19 hC rfl (shH hh) (Nat.le_of_ble_eq_true rfl) rfl (rd1 hS hwh hV hW) ?_
      refine g13g hC rfl (fun h5 => ?_) (fun h5 => (by omega))
      refine g0 hC rfl ?_
      refine s5 hC rfl rfl rfl ?_
      exact l2 8 0 rfl _ _ ⟨_, _, rfl, hS, h1, fun q hq => absurd hq (Nat.not_lt_zero q)⟩
    · rintro k hk ll M1 ⟨u, v, rfl, hS, h1⟩ hnext
      have hst := hW.2.1 k hk
      have hf : ∀ (x : Int), x = wid V h sm wd k → ∀ q, q < k + 1 → ax_up M1 104 k x 104 q = wid V h sm wd q := by
        intro x hx q hq
        rw [ax_upf]; unfold up
        split
        · rename_i e; rw [e]; exact hx
        · exact h1 q (by omega)
      refine g3 hC rfl rfl ?_
      refine g3 hC rfl rfl ?_
      refine g19 hC rfl (shH hh) (Nat.le_of_ble_eq_true rfl) rfl (rd1 hS hwh hV hW) ?_
      refine g13g hC rfl (fun h5 => (by omega)) (fun h5 => ?_)
      refine g3 hC rfl rfl ?_
      refine g19 hC rfl rfl (Nat.le_of_ble_eq_true rfl) rfl ((hS.fix hw hF).g rfl) ?_
      refine g3 hC rfl rfl ?_
      refine r21 (k) hC rfl (by omega) rfl (Or.inl rfl) (by omega) ((hS _ _ rfl).trans (hV.2 _).2.2.1) ?_
      refine g0 hC rfl ?_
      refine g13e hC rfl (fun h11 => ?_) (fun h11 => ?_)
      ·
        refine g0 hC rfl ?_
        refine g14 hC rfl ?_
        refine s6 hC rfl rfl rfl ?_
        refine g3 hC rfl rfl ?_
        refine g19 hC rfl (shH hh) (Nat.le_of_ble_eq_true rfl) rfl ((hS.fix hw hF).h (v := 6) hh rfl rfl) ?_
        refine g3 hC rfl rfl ?_
        refine r21 (k) hC rfl (by omega) (shA (v := 6) hh rfl rfl) (Or.inl rfl) (by omega) (rdi hS hwh hV 6 _ (by decide) (by decide) (by decide)) ?_
        refine g3 hC rfl rfl ?_
        refine g3 hC rfl rfl ?_
        refine g13n hC rfl (fun h25 => ?_) (fun h25 => ?_)
        ·
          refine g0 hC rfl ?_
          refine g6a hC rfl ⟨by omega, by omega⟩ ?_
          refine s7 hC rfl rfl rfl ?_
          refine g3 hC rfl rfl ?_
          refine g19 hC rfl rfl (Nat.le_of_ble_eq_true rfl) rfl ((hS.fix hw hF).g fx_71_8) ?_
          refine g3 hC rfl rfl ?_
          refine g3 hC rfl rfl ?_
          refine g12e hC rfl (fun h35 => ?_) (fun h35 => ?_)
          ·
            refine g3 hC rfl rfl ?_
            refine r22s (k) hC rfl (by omega) sh104 (by omega) rfl hS rfl (fun hS => ?_)
            refine n5 hC rfl rfl ⟨by omega, by omega⟩ ?_
            refine g14 hC rfl ?_
            first | omega | exact hnext _ _ ⟨_, _, rfl, hS, hf _ (by unfold wid; split <;> (try split) <;> omega)⟩
          ·
            refine g0 hC rfl ?_
            refine g14 hC rfl ?_
            refine r22s (k) hC rfl (by omega) sh104 (by omega) rfl hS rfl (fun hS => ?_)
            refine n5 hC rfl rfl ⟨by omega, by omega⟩ ?_
            refine g14 hC rfl ?_
            first | omega | exact hnext _ _ ⟨_, _, rfl, hS, hf _ (by unfold wid; split <;> (try split) <;> omega)⟩
        ·
          refine g0 hC rfl ?_
          refine g14 hC rfl ?_
          refine g6a hC rfl ⟨by omega, by omega⟩ ?_
          refine s7 hC rfl rfl rfl ?_
          refine g3 hC rfl rfl ?_
          refine g19 hC rfl rfl (Nat.le_of_ble_eq_true rfl) rfl ((hS.fix hw hF).g fx_71_8) ?_
          refine g3 hC rfl rfl ?_
          refine g3 hC rfl rfl ?_
          refine g12e hC rfl (fun h35 => ?_) (fun h35 => ?_)
          ·
            refine g3 hC rfl rfl ?_
            refine r22s (k) hC rfl (by omega) sh104 (by omega) rfl hS rfl (fun hS => ?_)
            refine n5 hC rfl rfl ⟨by omega, by omega⟩ ?_
            refine g14 hC rfl ?_
            first | omega | exact hnext _ _ ⟨_, _, rfl, hS, hf _ (by unfold wid; split <;> (try split) <;> omega)⟩
          ·
            refine g0 hC rfl ?_
            refine g14 hC rfl ?_
            refine r22s (k) hC rfl (by omega) sh104 (by omega) rfl hS rfl (fun hS => ?_)
            refine n5 hC rfl rfl ⟨by omega, by omega⟩ ?_
            refine g14 hC rfl ?_
            first | omega | exact hnext _ _ ⟨_, _, rfl, hS, hf _ (by unfold wid; split <;> (try split) <;> omega)⟩
      ·
        refine g3 hC rfl rfl ?_
        refine g3 hC rfl rfl ?_
        refine g13n hC rfl (fun h14 => ?_) (fun h14 => ?_)
        ·
          refine g0 hC rfl ?_
          refine s6 hC rfl rfl rfl ?_
          refine g3 hC rfl rfl ?_
          refine g19 hC rfl (shH hh) (Nat.le_of_ble_eq_true rfl) rfl ((hS.fix hw hF).h (v := 6) hh rfl rfl) ?_
          refine g3 hC rfl rfl ?_
          refine r21 (k) hC rfl (by omega) (shA (v := 6) hh rfl rfl) (Or.inl rfl) (by omega) (rdi hS hwh hV 6 _ (by decide) (by decide) (by decide)) ?_
          refine g3 hC rfl rfl ?_
          refine g3 hC rfl rfl ?_
          refine g13n hC rfl (fun h25 => ?_) (fun h25 => ?_)
          ·
            refine g0 hC rfl ?_
            refine g6a hC rfl ⟨by omega, by omega⟩ ?_
            refine s7 hC rfl rfl rfl ?_
            refine g3 hC rfl rfl ?_
            refine g19 hC rfl rfl (Nat.le_of_ble_eq_true rfl) rfl ((hS.fix hw hF).g fx_71_8) ?_
            refine g3 hC rfl rfl ?_
            refine g3 hC rfl rfl ?_
            refine g12e hC rfl (fun h35 => ?_) (fun h35 => ?_)
            ·
              refine g3 hC rfl rfl ?_
              refine r22s (k) hC rfl (by omega) sh104 (by omega) rfl hS rfl (fun hS => ?_)
              refine n5 hC rfl rfl ⟨by omega, by omega⟩ ?_
              refine g14 hC rfl ?_
              first | omega | exact hnext _ _ ⟨_, _, rfl, hS, hf _ (by unfold wid; split <;> (try split) <;> omega)⟩
            ·
              refine g0 hC rfl ?_
              refine g14 hC rfl ?_
              refine r22s (k) hC rfl (by omega) sh104 (by omega) rfl hS rfl (fun hS => ?_)
              refine n5 hC rfl rfl ⟨by omega, by omega⟩ ?_
              refine g14 hC rfl ?_
              first | omega | exact hnext _ _ ⟨_, _, rfl, hS, hf _ (by unfold wid; split <;> (try split) <;> omega)⟩
          ·
            refine g0 hC rfl ?_
            refine g14 hC rfl ?_
            refine g6a hC rfl ⟨by omega, by omega⟩ ?_
            refine s7 hC rfl rfl rfl ?_
            refine g3 hC rfl rfl ?_
            refine g19 hC rfl rfl (Nat.le_of_ble_eq_true rfl) rfl ((hS.fix hw hF).g fx_71_8) ?_
            refine g3 hC rfl rfl ?_
            refine g3 hC rfl rfl ?_
            refine g12e hC rfl (fun h35 => ?_) (fun h35 => ?_)
            ·
              refine g3 hC rfl rfl ?_
              refine r22s (k) hC rfl (by omega) sh104 (by omega) rfl hS rfl (fun hS => ?_)
              refine n5 hC rfl rfl ⟨by omega, by omega⟩ ?_
              refine g14 hC rfl ?_
              first | omega | exact hnext _ _ ⟨_, _, rfl, hS, hf _ (by unfold wid; split <;> (try split) <;> omega)⟩
            ·
              refine g0 hC rfl ?_
              refine g14 hC rfl ?_
              refine r22s (k) hC rfl (by omega) sh104 (by omega) rfl hS rfl (fun hS => ?_)
              refine n5 hC rfl rfl ⟨by omega, by omega⟩ ?_
              refine g14 hC rfl ?_
              first | omega | exact hnext _ _ ⟨_, _, rfl, hS, hf _ (by unfold wid; split <;> (try split) <;> omega)⟩
        ·
          refine g0 hC rfl ?_
          refine g14 hC rfl ?_
          refine s6 hC rfl rfl rfl ?_
          refine g3 hC rfl rfl ?_
          refine g19 hC rfl (shH hh) (Nat.le_of_ble_eq_true rfl) rfl ((hS.fix hw hF).h (v := 6) hh rfl rfl) ?_
          refine g3 hC rfl rfl ?_
          refine r21 (k) hC rfl (by omega) (shA (v := 6) hh rfl rfl) (Or.inl rfl) (by omega) (rdi hS hwh hV 6 _ (by decide) (by decide) (by decide)) ?_
          refine g3 hC rfl rfl ?_
          refine g3 hC rfl rfl ?_
          refine g13n hC rfl (fun h25 => ?_) (fun h25 => ?_)
          ·
            refine g0 hC rfl ?_
            refine g6a hC rfl ⟨by omega, by omega⟩ ?_
            refine s7 hC rfl rfl rfl ?_
            refine g3 hC rfl rfl ?_
            refine g19 hC rfl rfl (Nat.le_of_ble_eq_true rfl) rfl ((hS.fix hw hF).g fx_71_8) ?_
            refine g3 hC rfl rfl ?_
            refine g3 hC rfl rfl ?_
            refine g12e hC rfl (fun h35 => ?_) (fun h35 => ?_)
            ·
              refine g3 hC rfl rfl ?_
              refine r22s (k) hC rfl (by omega) sh104 (by omega) rfl hS rfl (fun hS => ?_)
              refine n5 hC rfl rfl ⟨by omega, by omega⟩ ?_
              refine g14 hC rfl ?_
              first | omega | exact hnext _ _ ⟨_, _, rfl, hS, hf _ (by unfold wid; split <;> (try split) <;> omega)⟩
            ·
              refine g0 hC rfl ?_
              refine g14 hC rfl ?_
              refine r22s (k) hC rfl (by omega) sh104 (by omega) rfl hS rfl (fun hS => ?_)
              refine n5 hC rfl rfl ⟨by omega, by omega⟩ ?_
              refine g14 hC rfl ?_
              first | omega | exact hnext _ _ ⟨_, _, rfl, hS, hf _ (by unfold wid; split <;> (try split) <;> omega)⟩
          ·
            refine g0 hC rfl ?_
            refine g14 hC rfl ?_
            refine g6a hC rfl ⟨by omega, by omega⟩ ?_
            refine s7 hC rfl rfl rfl ?_
            refine g3 hC rfl rfl ?_
            refine g19 hC rfl rfl (Nat.le_of_ble_eq_true rfl) rfl ((hS.fix hw hF).g fx_71_8) ?_
            refine g3 hC rfl rfl ?_
            refine g3 hC rfl rfl ?_
            refine g12e hC rfl (fun h35 => ?_) (fun h35 => ?_)
            ·
              refine g3 hC rfl rfl ?_
              refine r22s (k) hC rfl (by omega) sh104 (by omega) rfl hS rfl (fun hS => ?_)
              refine n5 hC rfl rfl ⟨by omega, by omega⟩ ?_
              refine g14 hC rfl ?_
              first | omega | exact hnext _ _ ⟨_, _, rfl, hS, hf _ (by unfold wid; split <;> (try split) <;> omega)⟩
            ·
              refine g0 hC rfl ?_
              refine g14 hC rfl ?_
              refine r22s (k) hC rfl (by omega) sh104 (by omega) rfl hS rfl (fun hS => ?_)
              refine n5 hC rfl rfl ⟨by omega, by omega⟩ ?_
              refine g14 hC rfl ?_
              first | omega | exact hnext _ _ ⟨_, _, rfl, hS, hf _ (by unfold wid; split <;> (try split) <;> omega)⟩
  refine g0 hC rfl ?_
  refine s5 hC rfl rfl rfl ?_
  exact l1 (nS V h) 0 (Nat.zero_add _) _ _ ⟨_, _, rfl, Sb.refl, fun q hq => absurd hq (Nat.not_lt_zero q)⟩
end PRE
section PRE2
variable {L : Nat} {X : Nat → Int} {M V : ax_M} {h : Nat}
theorem m7 (hF : Fix M) (hh : h = 9 ∨ h = 27) (hV : HV V h M) (hW : HW V h) : ax_Ev L X SH 0 7 [(2, 71), (2, (h : Int))] M (R0 (fun M' => Sb W7 M M' ∧ ∀ c, c < nC V h → M' 103 c = (ch V h c : Int) ∧ M' 73 c = (if ch V h c = 0 then -1 else 99) ∧ M' 74 c = -1 ∧ ∀ q, q < 8 → M' (86 + c) q = 0)) := by
  show ax_G L X SH 0 7 0 [(2, 71), (2, (h : Int)), (3, 0), (3, 0)] [] M _
  have hC := at7
  have hw : wok W7 = true := by decide +kernel
  have hwh : hok W7 h := hokB (by decide +kernel) hh
  have hb := hW.1.2.2.2.2
  have l1 : ∀ (m k : Nat), k + m = nC V h → ∀ ll M1, (∃ u, ll = [(2, 71), (2, (h : Int)), (0, (k : Int)), u] ∧ Sb W7 M M1 ∧ ∀ c, c < k → M1 103 c = (ch V h c : Int) ∧ M1 73 c = (if ch V h c = 0 then -1 else 99) ∧ M1 74 c = -1 ∧ ∀ q, q < 8 → M1 (86 + c) q = 0) → ax_G L X SH 0 7 2 ll [] M1 (R0 (fun M' => Sb W7 M M' ∧ ∀ c, c < nC V h → M' 103 c = (ch V h c : Int) ∧ M' 73 c = (if ch V h c = 0 then -1 else 99) ∧ M' 74 c = -1 ∧ ∀ q, q < 8 → M' (86 + c) q = 0)) := by
    refine lp ?_ ?_
    · rintro ll M1 ⟨u, rfl, hS, h1⟩
      refine g3 hC rfl rfl ?_
      refine g3 hC rfl rfl ?_
      refine g19 hC rfl (shH hh) (Nat.le_of_ble_eq_true rfl) rfl (rd3 hS hwh hV hW) ?_
      refine g13g hC rfl (fun h5 => ?_) (fun h5 => (by omega))
      refine ret0 hC rfl ?_
      exact ⟨hS, h1⟩
    · rintro k hk ll M1 ⟨u, rfl, hS, h1⟩ hnext
      have l2 : ∀ (m j : Nat), j + m = 8 → ∀ ll M1, (ll = [(2, 71), (2, (h : Int)), (0, (k : Int)), (0, (j : Int))] ∧ Sb W7 M M1 ∧ (∀ c, c < k → M1 103 c = (ch V h c : Int) ∧ M1 73 c = (if ch V h c = 0 then -1 else 99) ∧ M1 74 c = -1 ∧ ∀ q, q < 8 → M1 (86 + c) q = 0) ∧ (M1 103 k = (ch V h k : Int) ∧ M1 73 k = (if ch V h k = 0 then -1 else 99) ∧ M1 74 k = -1 ∧ ∀ q, q < j → M1 (86 + k) q = 0)) → ax_G L X SH 0 7 33 ll [] M1 (R0 (fun M' => Sb W7 M M' ∧ ∀ c, c < nC V h → M' 103 c = (ch V h c : Int) ∧ M' 73 c = (if ch V h c = 0 then -1 else 99) ∧ M' 74 c = -1 ∧ ∀ q, q < 8 → M' (86 + c) q = 0)) := by
        refine lp ?_ ?_
        · rintro ll M1 ⟨rfl, hS, h1, h2⟩
          refine g3 hC rfl rfl ?_
          refine g0 hC rfl ?_
          refine g13g hC rfl (fun h35 => ?_) (fun h35 => (by omega))
          refine n2 hC rfl rfl ⟨by omega, by omega⟩ ?_
          refine g14 hC rfl ?_
          refine hnext _ _ ⟨_, rfl, hS, fun c hc => ?_⟩
          by_cases e : c = k
          · rw [e]; exact h2
          · exact h1 c (by omega)
        · rintro j hj ll M1 ⟨rfl, hS, h1, h2⟩ hnext
          refine g3 hC rfl rfl ?_
          refine g0 hC rfl ?_
          refine g13g hC rfl (fun h35 => (by omega)) (fun h35 => ?_)
          refine g3 hC rfl rfl ?_
          refine g19 hC rfl rfl (Nat.le_of_ble_eq_true rfl) rfl ((hS.fix hw hF).g fx_71_4) ?_
          refine g3 hC rfl rfl ?_
          refine r21 (k) hC rfl (by omega) rfl (Or.inl rfl) (by omega) ((hS.fix hw hF).r (n := 8) (v := 86) rfl (by omega)) ?_
          refine g3 hC rfl rfl ?_
          refine g0 hC rfl ?_
          refine r22s (j) hC rfl (by omega) (shR86 (by omega)) (by omega) rfl hS (wbr (lo := 86) (hi := 94) rfl (by omega) (by omega)) (fun hS => ?_)
          refine n3 hC rfl rfl ⟨by omega, by omega⟩ ?_
          refine g14 hC rfl ?_
          refine hnext _ _ ⟨rfl, hS, fun c hc => ?_, ?_⟩
          · have q := h1 c hc
            refine ⟨(ax_up2n (by omega)).trans q.1, (ax_up2n (by omega)).trans q.2.1, (ax_up2n (by omega)).trans q.2.2.1, fun z hz => (ax_up2n (by omega)).trans (q.2.2.2 z hz)⟩
          · refine ⟨(ax_up2n (by omega)).trans h2.1, (ax_up2n (by omega)).trans h2.2.1, (ax_up2n (by omega)).trans h2.2.2.1, fun z hz => ?_⟩
            rw [ax_upf]; unfold up
            split
            · rfl
            · exact h2.2.2.2 z (by omega)
      have fin : ∀ (x : Int), x = (if ch V h k = 0 then -1 else 99) → Sb W7 M (ax_up (ax_up (ax_up M1 103 k (ch V h k)) 73 k x) 74 k (-1)) → ax_G L X SH 0 7 33 [(2, 71), (2, (h : Int)), (0, (k : Int)), (0, 0)] [] (ax_up (ax_up (ax_up M1 103 k (ch V h k)) 73 k x) 74 k (-1)) (R0 (fun M' => Sb W7 M M' ∧ ∀ c, c < nC V h → M' 103 c = (ch V h c : Int) ∧ M' 73 c = (if ch V h c = 0 then -1 else 99) ∧ M' 74 c = -1 ∧ ∀ q, q < 8 → M' (86 + c) q = 0)) := by
        intro x hx hS
        refine l2 8 0 rfl _ _ ⟨rfl, hS, fun c hc => ?_, ?_⟩
        · have q := h1 c hc
          have hne : c ≠ k := by omega
          refine ⟨?_, ?_, ?_, fun z hz => ?_⟩
          · simp only [upe, hne]; simpa using q.1
          · simp only [upe, hne]; simpa using q.2.1
          · simp only [upe, hne]; simpa using q.2.2.1
          · rw [ax_up2n (by omega), ax_up2n (by omega), ax_up2n (by omega)]; exact q.2.2.2 z hz
        · refine ⟨?_, ?_, ?_, fun z hz => absurd hz (Nat.not_lt_zero z)⟩
          · simp [upe]
          · simp [upe, hx]
          · simp [upe]
      have e20 : ax_up M1 103 k (ch V h k) 103 k = (ch V h k : Int) := up1
      refine g3 hC rfl rfl ?_
      refine g3 hC rfl rfl ?_
      refine g19 hC rfl (shH hh) (Nat.le_of_ble_eq_true rfl) rfl (rd3 hS hwh hV hW) ?_
      refine g13g hC rfl (fun h5 => (by omega)) (fun h5 => ?_)
      refine g3 hC rfl rfl ?_
      refine g19 hC rfl rfl (Nat.le_of_ble_eq_true rfl) rfl ((hS.fix hw hF).g fx_71_7) ?_
      refine g3 hC rfl rfl ?_
      refine g3 hC rfl rfl ?_
      refine g19 hC rfl (shH hh) (Nat.le_of_ble_eq_true rfl) rfl ((hS.fix hw hF).h (v := 8) hh rfl rfl) ?_
      refine g3 hC rfl rfl ?_
      refine r21 (k) hC rfl (by omega) (shA (v := 8) hh rfl rfl) (Or.inl rfl) (by omega) (rdH hS hwh hV hW (by omega)) ?_
      refine r22s (k) hC rfl (by omega) sh103 (by omega) rfl hS rfl (fun hS => ?_)
      refine g3 hC rfl rfl ?_
      refine g19 hC rfl rfl (Nat.le_of_ble_eq_true rfl) rfl ((hS.fix hw hF).g fx_71_1) ?_
      refine g3 hC rfl rfl ?_
      refine g3 hC rfl rfl ?_
      refine g19 hC rfl rfl (Nat.le_of_ble_eq_true rfl) rfl ((hS.fix hw hF).g fx_71_7) ?_
      refine g3 hC rfl rfl ?_
      refine r21 (k) hC rfl (by omega) rfl (Or.inl rfl) (by omega) e20 ?_
      refine g12n hC rfl (fun h21 => ?_) (fun h21 => ?_)
      ·
        refine g0 hC rfl ?_
        refine r22s (k) hC rfl (by omega) rfl (by omega) rfl hS rfl (fun hS => ?_)
        refine g3 hC rfl rfl ?_
        refine g19 hC rfl rfl (Nat.le_of_ble_eq_true rfl) rfl ((hS.fix hw hF).g fx_71_2) ?_
        refine g3 hC rfl rfl ?_
        refine g0 hC rfl ?_
        refine r22s (k) hC rfl (by omega) rfl (by omega) rfl hS rfl (fun hS => ?_)
        refine g0 hC rfl ?_
        refine s3 hC rfl rfl rfl ?_
        exact fin _ (by rw [if_neg (by omega)]) hS
      ·
        refine g0 hC rfl ?_
        refine g14 hC rfl ?_
        refine r22s (k) hC rfl (by omega) rfl (by omega) rfl hS rfl (fun hS => ?_)
        refine g3 hC rfl rfl ?_
        refine g19 hC rfl rfl (Nat.le_of_ble_eq_true rfl) rfl ((hS.fix hw hF).g fx_71_2) ?_
        refine g3 hC rfl rfl ?_
        refine g0 hC rfl ?_
        refine r22s (k) hC rfl (by omega) rfl (by omega) rfl hS rfl (fun hS => ?_)
        refine g0 hC rfl ?_
        refine s3 hC rfl rfl rfl ?_
        exact fin _ (by rw [if_pos (by omega)]) hS
  refine g0 hC rfl ?_
  refine s2 hC rfl rfl rfl ?_
  exact l1 (nC V h) 0 (Nat.zero_add _) _ _ ⟨_, rfl, Sb.refl, fun q hq => absurd hq (Nat.not_lt_zero q)⟩
abbrev alo (V : ax_M) (h : Nat) (a b : Nat → Int) : Prop := ∀ c, c < nC V h → a c = 0 ∧ b c = -1
theorem m9 (hF : Fix M) (hh : h = 9 ∨ h = 27) (hV : HV V h M) (hW : HW V h) : ax_Ev L X SH 1 9 [(2, 71), (2, (h : Int))] M (R1 0 (fun x M' => ((x = 1 ∧ alo V h (M 103) (M 74)) ∨ (x = 0 ∧ ¬ alo V h (M 103) (M 74))) ∧ M' = M)) := by
  show ax_G L X SH 1 9 0 [(2, 71), (2, (h : Int)), (3, 0)] [] M _
  have hC := at9
  have hw : wok W6 = true := by decide +kernel
  have hS : Sb W6 M M := Sb.refl
  have hwh : hok W6 h := hokB (by decide +kernel) hh
  have hb := hW.1.2.2.2.2
  have l1 : ∀ (m k : Nat), k + m = nC V h → ∀ ll M1, (ll = [(2, 71), (2, (h : Int)), (0, (k : Int))] ∧ M1 = M ∧ ∀ c, c < k → M 103 c = 0 ∧ M 74 c = -1) → ax_G L X SH 1 9 2 ll [] M1 (R1 0 (fun x M' => ((x = 1 ∧ alo V h (M 103) (M 74)) ∨ (x = 0 ∧ ¬ alo V h (M 103) (M 74))) ∧ M' = M)) := by
    refine lp ?_ ?_
    · rintro ll M1 ⟨rfl, rfl, h1⟩
      refine g3 hC rfl rfl ?_
      refine g3 hC rfl rfl ?_
      refine g19 hC rfl (shH hh) (Nat.le_of_ble_eq_true rfl) rfl (rd3 hS hwh hV hW) ?_
      refine g13g hC rfl (fun h5 => ?_) (fun h5 => (by omega))
      refine g0 hC rfl ?_
      refine ret3 hC rfl ⟨by omega, by omega⟩ ?_
      exact ⟨Or.inl ⟨rfl, h1⟩, rfl⟩
    · rintro k hk ll M1 ⟨rfl, rfl, h1⟩ hnext
      refine g3 hC rfl rfl ?_
      refine g3 hC rfl rfl ?_
      refine g19 hC rfl (shH hh) (Nat.le_of_ble_eq_true rfl) rfl (rd3 hS hwh hV hW) ?_
      refine g13g hC rfl (fun h5 => (by omega)) (fun h5 => ?_)
      refine g3 hC rfl rfl ?_
      refine g3 hC rfl rfl ?_
      refine c1 hC rfl rfl rfl (Nat.le_of_ble_eq_true rfl) (Nat.le_of_ble_eq_true rfl) rfl (m8 (hS.fix hw hF) (c := (k)) (by omega)) (Nat.le_of_ble_eq_true rfl) (fun x M2 hr => ?_)
      obtain ⟨rfl, hr⟩ := hr
      replace hr := hr.symm
      subst hr
      refine g12n hC rfl (fun h9 => ?_) (fun h9 => ?_)
      ·
        refine n2 hC rfl rfl ⟨by omega, by omega⟩ ?_
        refine g14 hC rfl ?_
        refine hnext _ _ ⟨rfl, rfl, fun c hc => ?_⟩
        by_cases e : c = k
        · rw [e]
          by_cases z : M1 103 k = 0 ∧ M1 74 k = -1
          · exact z
          · rw [if_neg z] at h9; omega
        · exact h1 c (by omega)
      ·
        refine g0 hC rfl ?_
        refine ret3 hC rfl ⟨by omega, by omega⟩ ?_
        refine ⟨Or.inr ⟨rfl, fun z => ?_⟩, rfl⟩
        rw [if_pos (z k hk)] at h9
        omega
  refine g0 hC rfl ?_
  refine s2 hC rfl rfl rfl ?_
  exact l1 (nC V h) 0 (Nat.zero_add _) _ _ ⟨rfl, rfl, fun q hq => absurd hq (Nat.not_lt_zero q)⟩
end PRE2
