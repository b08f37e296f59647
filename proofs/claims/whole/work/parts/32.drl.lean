section DRL
variable {L : Nat} {X : Nat → Int} {M V : ax_M} {h : Nat}
theorem m6 (hF : Fix M) {a b : Nat} {n : Int} (ha : a < 8) (hb : b < 8) (hn : 0 ≤ n ∧ n < 100) : ax_Ev L X SH 0 6 [(2, 71), (0, (a : Int)), (0, (b : Int)), (0, n)] M (R0 (fun M' => M' 72 = rch (M 72) a b n ∧ Sb W6 M M')) := by
  show ax_G L X SH 0 6 0 [(2, 71), (0, (a : Int)), (0, (b : Int)), (0, n)] [] M _
  have hC := at6
  have hw : wok W6 = true := by decide +kernel
  have hS : Sb W6 M M := Sb.refl
  refine g3 hC rfl rfl ?_
  refine g19 hC rfl rfl (Nat.le_of_ble_eq_true rfl) rfl ((hS.fix hw hF).g fx_71_0) ?_
  refine g3 hC rfl rfl ?_
  refine r21 (a) hC rfl (by omega) rfl (Or.inl rfl) (by omega) rfl ?_
  refine g3 hC rfl rfl ?_
  refine g13n hC rfl (fun h5 => ?_) (fun h5 => ?_)
  ·
    refine ret0 hC rfl ?_
    exact ⟨by unfold rch; rw [if_neg (fun z => h5 z.1)], hS⟩
  ·
    refine g3 hC rfl rfl ?_
    refine g19 hC rfl rfl (Nat.le_of_ble_eq_true rfl) rfl ((hS.fix hw hF).g fx_71_0) ?_
    refine g3 hC rfl rfl ?_
    refine r21 (b) hC rfl (by omega) rfl (Or.inl rfl) (by omega) rfl ?_
    refine g0 hC rfl ?_
    refine g13n hC rfl (fun h11 => ?_) (fun h11 => ?_)
    ·
      refine ret0 hC rfl ?_
      exact ⟨by unfold rch; rw [if_neg (fun z => h11 z.2)], hS⟩
    ·
      refine g3 hC rfl rfl ?_
      refine g19 hC rfl rfl (Nat.le_of_ble_eq_true rfl) rfl ((hS.fix hw hF).g fx_71_0) ?_
      refine g3 hC rfl rfl ?_
      refine g3 hC rfl rfl ?_
      refine g0 hC rfl ?_
      refine g6a hC rfl ⟨by omega, by omega⟩ ?_
      refine r22s (b) hC rfl (by omega) rfl (by omega) rfl hS rfl (fun hS => ?_)
      refine ret0 hC rfl ?_
      exact ⟨by rw [ax_upf]; unfold rch; rw [if_pos (by omega)], hS⟩
theorem m8 (hF : Fix M) {c : Nat} (hc : c < 8) : ax_Ev L X SH 0 8 [(2, 71), (0, (c : Int))] M (R1 0 (fun x M' => x = (if M 103 c = 0 ∧ M 74 c = -1 then 1 else 0) ∧ M' = M)) := by
  show ax_G L X SH 0 8 0 [(2, 71), (0, (c : Int))] [] M _
  have hC := at8
  have hw : wok W6 = true := by decide +kernel
  have hS : Sb W6 M M := Sb.refl
  refine g3 hC rfl rfl ?_
  refine g19 hC rfl rfl (Nat.le_of_ble_eq_true rfl) rfl ((hS.fix hw hF).g fx_71_7) ?_
  refine g3 hC rfl rfl ?_
  refine r21 (c) hC rfl (by omega) sh103 (Or.inl rfl) (by omega) rfl ?_
  refine g12n hC rfl (fun h4 => ?_) (fun h4 => ?_)
  ·
    refine g0 hC rfl ?_
    refine ret3 hC rfl ⟨by omega, by omega⟩ ?_
    refine ⟨?_, rfl⟩
    split <;> omega
  ·
    refine g3 hC rfl rfl ?_
    refine g19 hC rfl rfl (Nat.le_of_ble_eq_true rfl) rfl ((hS.fix hw hF).g fx_71_2) ?_
    refine g3 hC rfl rfl ?_
    refine r21 (c) hC rfl (by omega) rfl (Or.inl rfl) (by omega) rfl ?_
    refine g0 hC rfl ?_
    refine g13n hC rfl (fun h10 => ?_) (fun h10 => ?_)
    ·
      refine g0 hC rfl ?_
      refine ret3 hC rfl ⟨by omega, by omega⟩ ?_
      refine ⟨?_, rfl⟩
      split <;> omega
    ·
      refine g0 hC rfl ?_
      refine g14 hC rfl ?_
      refine ret3 hC rfl ⟨by omega, by omega⟩ ?_
      refine ⟨?_, rfl⟩
      split <;> omega
def lead (V : ax_M) (h s : Nat) (r : Int) : Int := if (sa V h s : Int) = r then (sb V h s : Int) else if (sb V h s : Int) = r then (sa V h s : Int) else -1
theorem m38 (hF : Fix M) (hh : h = 9 ∨ h = 27) (hV : HV V h M) (hW : HW V h) {s : Nat} {r : Int} (hs : s < nS V h) : ax_Ev L X SH 0 38 [(2, (h : Int)), (0, (s : Int)), (0, r)] M (R1 0 (fun x M' => x = lead V h s r ∧ M' = M)) := by
  show ax_G L X SH 0 38 0 [(2, (h : Int)), (0, (s : Int)), (0, r)] [] M _
  have hC := at38
  have hw : wok W6 = true := by decide +kernel
  have hS : Sb W6 M M := Sb.refl
  have hwh : hok W6 h := hokB (by decide +kernel) hh
  have hb := hW.1.2.1.2
  refine g3 hC rfl rfl ?_
  refine g19 hC rfl (shH hh) (Nat.le_of_ble_eq_true rfl) rfl ((hS.fix hw hF).h (v := 4) hh rfl rfl) ?_
  refine g3 hC rfl rfl ?_
  refine r21 (s) hC rfl (by omega) (shA (v := 4) hh rfl rfl) (Or.inl rfl) (by omega) (rdA hS hwh hV hW (by omega)) ?_
  refine g3 hC rfl rfl ?_
  refine g13n hC rfl (fun h5 => ?_) (fun h5 => ?_)
  ·
    refine g3 hC rfl rfl ?_
    refine g19 hC rfl (shH hh) (Nat.le_of_ble_eq_true rfl) rfl ((hS.fix hw hF).h (v := 5) hh rfl rfl) ?_
    refine g3 hC rfl rfl ?_
    refine r21 (s) hC rfl (by omega) (shA (v := 5) hh rfl rfl) (Or.inl rfl) (by omega) (rdB hS hwh hV hW (by omega)) ?_
    refine g3 hC rfl rfl ?_
    refine g13n hC rfl (fun h16 => ?_) (fun h16 => ?_)
    ·
      refine g0 hC rfl ?_
      refine ret1 hC rfl rfl ?_
      exact ⟨by unfold lead; rw [if_neg h5, if_neg h16], rfl⟩
    ·
      refine g3 hC rfl rfl ?_
      refine g19 hC rfl (shH hh) (Nat.le_of_ble_eq_true rfl) rfl ((hS.fix hw hF).h (v := 4) hh rfl rfl) ?_
      refine g3 hC rfl rfl ?_
      refine r21 (s) hC rfl (by omega) (shA (v := 4) hh rfl rfl) (Or.inl rfl) (by omega) (rdA hS hwh hV hW (by omega)) ?_
      refine g14 hC rfl ?_
      refine ret1 hC rfl rfl ?_
      exact ⟨by unfold lead; rw [if_neg h5, if_pos (by omega)], rfl⟩
  ·
    refine g3 hC rfl rfl ?_
    refine g19 hC rfl (shH hh) (Nat.le_of_ble_eq_true rfl) rfl ((hS.fix hw hF).h (v := 5) hh rfl rfl) ?_
    refine g3 hC rfl rfl ?_
    refine r21 (s) hC rfl (by omega) (shA (v := 5) hh rfl rfl) (Or.inl rfl) (by omega) (rdB hS hwh hV hW (by omega)) ?_
    refine ret1 hC rfl rfl ?_
    exact ⟨by unfold lead; rw [if_pos (by omega)], rfl⟩
theorem lead_b {V : ax_M} {h s : Nat} {r : Int} (hW : HW V h) (hs : s < nS V h) : -1 ≤ lead V h s r ∧ lead V h s r < nR V h := by
  have := (hW.2.1 s hs)
  unfold lead
  repeat' split
  all_goals omega
def pk1 (V : ax_M) (h : Nat) (fa fr : Nat → Int) (r : Nat) (k : Nat) (p : Int × Int) : Int × Int := if lead V h k r ≠ -1 ∧ lead V h k r < p.2 ∧ 0 < fr k ∧ fa (lead V h k r).toNat ≠ -1 ∧ fa (lead V h k r).toNat = fa r - 1 then ((k : Int), lead V h k r) else p
def pkI (V : ax_M) (h : Nat) (fa fr : Nat → Int) (r k : Nat) : Int × Int := it (pk1 V h fa fr r) k (-1, 8)
def pk (V : ax_M) (h : Nat) (fa fr : Nat → Int) (r : Nat) : Int := (pkI V h fa fr r (nS V h)).1
theorem pk_b {V : ax_M} {h : Nat} {fa fr : Nat → Int} {r k : Nat} (hk : k ≤ nS V h) : -1 ≤ (pkI V h fa fr r k).1 ∧ (pkI V h fa fr r k).1 < (nS V h : Int) ∧ (pkI V h fa fr r k).2 ≤ 8 ∧ ((pkI V h fa fr r k).1 ≠ -1 → (pkI V h fa fr r k).2 = lead V h (pkI V h fa fr r k).1.toNat r ∧ (pkI V h fa fr r k).2 ≠ -1 ∧ 0 < fr (pkI V h fa fr r k).1.toNat) := by
  unfold pkI
  refine it_ind (P := fun (p : Int × Int) => -1 ≤ p.1 ∧ p.1 < (nS V h : Int) ∧ p.2 ≤ 8 ∧ (p.1 ≠ -1 → p.2 = lead V h p.1.toNat r ∧ p.2 ≠ -1 ∧ 0 < fr p.1.toNat)) ?_ ?_
  · exact ⟨by omega, by omega, by decide, fun h => absurd rfl h⟩
  · intro j p hj hp
    unfold pk1
    split
    · rename_i hc
      refine ⟨by dsimp only; omega, by dsimp only; omega, by dsimp only; omega, fun _ => ?_⟩
      dsimp only
      rw [Int.toNat_natCast]
      exact ⟨rfl, hc.1, hc.2.2.1⟩
    · exact hp
theorem m13 (hF : Fix M) (hh : h = 9 ∨ h = 27) (hV : HV V h M) (hW : HW V h) {fa fr : Nat → Int} {r : Nat} (hr8 : r < nR V h) (hfa : on8 (M 72) fa) (hfb : ∀ q, -1 ≤ fa q ∧ fa q ≤ 8) (hfr : ∀ s, s < nS V h → M 105 s = fr s) : ax_Ev L X SH 1 13 [(2, 71), (2, (h : Int)), (0, (r : Int))] M (R1 0 (fun x M' => x = pk V h fa fr r ∧ M' = M)) := by
  show ax_G L X SH 1 13 0 [(2, 71), (2, (h : Int)), (0, (r : Int)), (3, 0), (3, 0), (3, 0), (3, 0)] [] M _
  have hC := at13
  have hw : wok W6 = true := by decide +kernel
  have hS : Sb W6 M M := Sb.refl
  have hwh : hok W6 h := hokB (by decide +kernel) hh
  have hb := hW.1.2.1.2
  have hb2 := hW.1.1.2
  have key : ∀ (m k : Nat), k + m = nS V h → ∀ ll M1, (∃ u, ll = [(2, 71), (2, (h : Int)), (0, (r : Int)), (0, (pkI V h fa fr r k).1), (0, (pkI V h fa fr r k).2), (0, (k : Int)), u] ∧ M1 = M) → ax_G L X SH 1 13 6 ll [] M1 (R1 0 (fun x M' => x = pk V h fa fr r ∧ M' = M)) := by
    refine lp ?_ ?_
    · rintro ll M1 ⟨u, rfl, rfl⟩
      refine g3 hC rfl rfl ?_
      refine g3 hC rfl rfl ?_
      refine g19 hC rfl (shH hh) (Nat.le_of_ble_eq_true rfl) rfl (rd1 hS hwh hV hW) ?_
      refine g13g hC rfl (fun h9 => ?_) (fun h9 => (by omega))
      refine g3 hC rfl rfl ?_
      refine ret1 hC rfl rfl ?_
      exact ⟨rfl, rfl⟩
    · rintro k hk ll M1 ⟨u, rfl, rfl⟩ hn
      have hl := lead_b (r := r) hW hk
      have hs : pkI V h fa fr r (k + 1) = pk1 V h fa fr r k (pkI V h fa fr r k) := rfl
      have hpb := pk_b (V := V) (h := h) (fa := fa) (fr := fr) (r := r) (k := k) (Nat.le_of_lt hk)
      generalize pkI V h fa fr r k = p at *
      have hno : ¬ (lead V h k r ≠ -1 ∧ lead V h k r < p.2 ∧ 0 < fr k ∧ fa (lead V h k r).toNat ≠ -1 ∧ fa (lead V h k r).toNat = fa r - 1) → ax_G L X SH 1 13 6 [(2, 71), (2, (h : Int)), (0, (r : Int)), (0, p.1), (0, p.2), (0, (k : Int) + 1), (0, lead V h k r)] [] M1 (R1 0 (fun x M' => x = pk V h fa fr r ∧ M' = M1)) := by
        intro hc
        refine hn _ _ ⟨(0, lead V h k r), ?_, rfl⟩
        rw [hs]; unfold pk1; rw [if_neg hc]; rfl
      have e1 : lead V h k r ≠ -1 → M1 72 (lead V h k r).toNat = fa (lead V h k r).toNat := fun q => hfa _ (by omega)
      have e2 := hfb (lead V h k r).toNat
      have e3 := hfb r
      refine g3 hC rfl rfl ?_
      refine g3 hC rfl rfl ?_
      refine g19 hC rfl (shH hh) (Nat.le_of_ble_eq_true rfl) rfl (rd1 hS hwh hV hW) ?_
      refine g13g hC rfl (fun h9 => (by omega)) (fun h9 => ?_)
      refine g3 hC rfl rfl ?_
      refine g3 hC rfl rfl ?_
      refine g3 hC rfl rfl ?_
      refine c1 hC rfl rfl rfl (Nat.le_of_ble_eq_true rfl) (Nat.le_of_ble_eq_true rfl) (mayH hh rfl rfl) (m38 (hS.fix hw hF) hh (hV.sb hS hwh (fun _ => ⟨rfl, rfl, rfl, rfl⟩)) hW (s := (k)) (by omega)) (Nat.le_of_ble_eq_true rfl) (fun x M2 hr => ?_)
      obtain ⟨rfl, hr⟩ := hr
      replace hr := hr.symm
      subst hr
      refine s6 hC rfl rfl rfl ?_
      refine g3 hC rfl rfl ?_
      refine g0 hC rfl ?_
      refine g13e hC rfl (fun h17 => ?_) (fun h17 => ?_)
      ·
        refine n5 hC rfl rfl ⟨by omega, by omega⟩ ?_
        refine g14 hC rfl ?_
        exact hno (by omega)
      ·
        refine g3 hC rfl rfl ?_
        refine g3 hC rfl rfl ?_
        refine g13g hC rfl (fun h20 => ?_) (fun h20 => ?_)
        ·
          refine n5 hC rfl rfl ⟨by omega, by omega⟩ ?_
          refine g14 hC rfl ?_
          exact hno (by omega)
        ·
          refine g3 hC rfl rfl ?_
          refine g19 hC rfl rfl (Nat.le_of_ble_eq_true rfl) rfl ((hS.fix hw hF).g fx_71_9) ?_
          refine g3 hC rfl rfl ?_
          refine r21 k hC rfl (by omega) rfl (Or.inl rfl) (by omega) (hfr k hk) ?_
          refine g12s hC rfl (fun h25 => ?_) (fun h25 => ?_)
          ·
            refine n5 hC rfl rfl ⟨by omega, by omega⟩ ?_
            refine g14 hC rfl ?_
            exact hno (by omega)
          ·
            refine g3 hC rfl rfl ?_
            refine g19 hC rfl rfl (Nat.le_of_ble_eq_true rfl) rfl ((hS.fix hw hF).g fx_71_0) ?_
            refine g3 hC rfl rfl ?_
            refine r21 (lead V h k r).toNat hC rfl (by omega) rfl (Or.inl rfl) (by omega) (e1 h17) ?_
            refine g0 hC rfl ?_
            refine g13e hC rfl (fun h31 => ?_) (fun h31 => ?_)
            ·
              refine n5 hC rfl rfl ⟨by omega, by omega⟩ ?_
              refine g14 hC rfl ?_
              exact hno (by omega)
            ·
              refine g3 hC rfl rfl ?_
              refine g19 hC rfl rfl (Nat.le_of_ble_eq_true rfl) rfl ((hS.fix hw hF).g fx_71_0) ?_
              refine g3 hC rfl rfl ?_
              refine r21 (lead V h k r).toNat hC rfl (by omega) rfl (Or.inl rfl) (by omega) (e1 h17) ?_
              refine g3 hC rfl rfl ?_
              refine g19 hC rfl rfl (Nat.le_of_ble_eq_true rfl) rfl ((hS.fix hw hF).g fx_71_0) ?_
              refine g3 hC rfl rfl ?_
              refine r21 r hC rfl (by omega) rfl (Or.inl rfl) (by omega) (hfa r (by omega)) ?_
              refine g0 hC rfl ?_
              refine g6s hC rfl ⟨by omega, by omega⟩ ?_
              refine g13n hC rfl (fun h42 => ?_) (fun h42 => ?_)
              ·
                refine n5 hC rfl rfl ⟨by omega, by omega⟩ ?_
                refine g14 hC rfl ?_
                exact hno (by omega)
              ·
                refine g3 hC rfl rfl ?_
                refine s4 hC rfl rfl rfl ?_
                refine g3 hC rfl rfl ?_
                refine s3 hC rfl rfl rfl ?_
                refine n5 hC rfl rfl ⟨by omega, by omega⟩ ?_
                refine g14 hC rfl ?_
                refine hn _ _ ⟨(0, lead V h k r), ?_, rfl⟩
                rw [hs]; unfold pk1; rw [if_pos (by omega)]; rfl
  refine g0 hC rfl ?_
  refine s3 hC rfl rfl rfl ?_
  refine g0 hC rfl ?_
  refine s4 hC rfl rfl rfl ?_
  refine g0 hC rfl ?_
  refine s5 hC rfl rfl rfl ?_
  exact key (nS V h) 0 (Nat.zero_add _) _ _ ⟨_, rfl, rfl⟩
end DRL
