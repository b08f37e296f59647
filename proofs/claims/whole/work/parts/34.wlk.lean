def wk (V : ax_M) (h : Nat) (fa : Nat → Int) : Nat → Int × (Nat → Int) → Int × (Nat → Int)
  | 0, x => x
  | n + 1, x => if x.1 = 0 then x else if pk V h fa x.2 x.1.toNat = -1 then x else wk V h fa n (lead V h (pk V h fa x.2 x.1.toNat).toNat x.1, up x.2 (pk V h fa x.2 x.1.toNat).toNat (x.2 (pk V h fa x.2 x.1.toNat).toNat - 1))
theorem pk_c {V : ax_M} {h : Nat} {fa fr fr' : Nat → Int} {r : Nat} (e : ∀ s, s < nS V h → fr s = fr' s) : pk V h fa fr r = pk V h fa fr' r := by
  have : ∀ k, k ≤ nS V h → pkI V h fa fr r k = pkI V h fa fr' r k := by
    intro k
    induction k with
    | zero => intro _; rfl
    | succ k ih =>
      intro hk
      show pk1 V h fa fr r k (pkI V h fa fr r k) = pk1 V h fa fr' r k (pkI V h fa fr' r k)
      rw [ih (by omega)]
      unfold pk1
      rw [e k (by omega)]
  unfold pk
  rw [this _ (Nat.le_refl _)]
section WLK
variable {L : Nat} {X : Nat → Int} {M V : ax_M} {h : Nat}
theorem m12 (hF : Fix M) (hh : h = 9 ∨ h = 27) (hV : HV V h M) (hW : HW V h) {fa fr : Nat → Int} {c : Nat} {a0 mi : Int} (hc : c < nC V h) (hfa : on8 (M 72) fa) (hfb : ∀ q, -1 ≤ fa q ∧ fa q ≤ 8) (hfr : ∀ s, s < nS V h → M 105 s = fr s ∧ 0 ≤ fr s ∧ fr s ≤ 5) (ha0 : M 103 c = a0 ∧ 0 ≤ a0 ∧ a0 < nR V h) (ho : M 73 c = 99) : ax_Ev L X SH 2 12 [(2, 71), (2, (h : Int)), (0, (c : Int)), (0, mi)] M (R0 (fun M' => Sb W12 M M' ∧ M' 103 = up (M 103) c (wk V h fa (cp V h c) (a0, fr)).1 ∧ (0 ≤ (wk V h fa (cp V h c) (a0, fr)).1 ∧ (wk V h fa (cp V h c) (a0, fr)).1 < nR V h) ∧ (∀ s, s < nS V h → M' 105 s = (wk V h fa (cp V h c) (a0, fr)).2 s ∧ 0 ≤ (wk V h fa (cp V h c) (a0, fr)).2 s ∧ (wk V h fa (cp V h c) (a0, fr)).2 s ≤ 5) ∧ M' 73 = (if (wk V h fa (cp V h c) (a0, fr)).1 = 0 then up (M 73) c mi else M 73))) := by
  show ax_G L X SH 2 12 0 [(2, 71), (2, (h : Int)), (0, (c : Int)), (0, mi), (3, 0), (3, 0)] [] M _
  have hC := at12
  have hw : wok W12 = true := by decide +kernel
  have hwh : hok W12 h := hokB (by decide +kernel) hh
  have hb := hW.1.2.2.2.2
  have hb2 := hW.1.1.2
  have hb3 := hW.1.2.1.2
  have hcl := hW.2.2.2.1 c hc
  generalize hfin : wk V h fa (cp V h c) (a0, fr) = fin
  have fin1 : ∀ (M1 : ax_M) (ll : List ax_V) (u v : ax_V) (fr1 : Nat → Int) (a : Int), ll = [(2, 71), (2, (h : Int)), (0, (c : Int)), (0, mi), u, v] → Sb W12 M M1 → M1 103 = up (M 103) c a → 0 ≤ a → a < nR V h → (∀ s, s < nS V h → M1 105 s = fr1 s ∧ 0 ≤ fr1 s ∧ fr1 s ≤ 5) → M1 73 = M 73 → (a, fr1) = fin → ax_G L X SH 2 12 46 ll [] M1 (R0 (fun M' => Sb W12 M M' ∧ M' 103 = up (M 103) c fin.1 ∧ (0 ≤ fin.1 ∧ fin.1 < nR V h) ∧ (∀ s, s < nS V h → M' 105 s = fin.2 s ∧ 0 ≤ fin.2 s ∧ fin.2 s ≤ 5) ∧ M' 73 = (if fin.1 = 0 then up (M 73) c mi else M 73))) := by
    intro M1 ll u v fr1 a e hS h1 h2 h3 h4 h5 h6
    subst e; subst h6
    dsimp only
    have ea : M1 103 c = a := by rw [h1]; exact up_at
    have same : up (M 73) c 99 = M 73 := by
      funext q; unfold up; split
      · rename_i z; rw [z]; exact ho.symm
      · rfl
    refine g3 hC rfl rfl ?_
    refine g19 hC rfl rfl (Nat.le_of_ble_eq_true rfl) rfl ((hS.fix hw hF).g fx_71_1) ?_
    refine g3 hC rfl rfl ?_
    refine g3 hC rfl rfl ?_
    refine g19 hC rfl rfl (Nat.le_of_ble_eq_true rfl) rfl ((hS.fix hw hF).g fx_71_7) ?_
    refine g3 hC rfl rfl ?_
    refine r21 (c) hC rfl (by omega) rfl (Or.inl rfl) (by omega) ea ?_
    refine g12n hC rfl (fun h53 => ?_) (fun h53 => ?_)
    ·
      refine g0 hC rfl ?_
      refine r22s (c) hC rfl (by omega) rfl (by omega) rfl hS rfl (fun hS => ?_)
      refine ret0 hC rfl ?_
      refine ⟨hS, ?_, ⟨h2, h3⟩, fun s hs => ?_, ?_⟩
      · rw [ax_up_ne (by decide)]; exact h1
      · rw [ax_up_ne (by decide)]; exact h4 s hs
      · rw [ax_upf, h5, if_neg h53, same]
    ·
      refine g3 hC rfl rfl ?_
      refine g14 hC rfl ?_
      refine r22s (c) hC rfl (by omega) rfl (by omega) rfl hS rfl (fun hS => ?_)
      refine ret0 hC rfl ?_
      refine ⟨hS, ?_, ⟨h2, h3⟩, fun s hs => ?_, ?_⟩
      · rw [ax_up_ne (by decide)]; exact h1
      · rw [ax_up_ne (by decide)]; exact h4 s hs
      · rw [ax_upf, h5, if_pos (by omega)]
  have l1 : ∀ (m k : Nat), k + m = cp V h c → ∀ ll M1, (∃ u fr1 a, ll = [(2, 71), (2, (h : Int)), (0, (c : Int)), (0, mi), (0, (k : Int)), u] ∧ Sb W12 M M1 ∧ M1 103 = up (M 103) c a ∧ (0 ≤ a ∧ a < nR V h) ∧ (∀ s, s < nS V h → M1 105 s = fr1 s ∧ 0 ≤ fr1 s ∧ fr1 s ≤ 5) ∧ M1 73 = M 73 ∧ wk V h fa (cp V h c - k) (a, fr1) = fin) → ax_G L X SH 2 12 2 ll [] M1 (R0 (fun M' => Sb W12 M M' ∧ M' 103 = up (M 103) c fin.1 ∧ (0 ≤ fin.1 ∧ fin.1 < nR V h) ∧ (∀ s, s < nS V h → M' 105 s = fin.2 s ∧ 0 ≤ fin.2 s ∧ fin.2 s ≤ 5) ∧ M' 73 = (if fin.1 = 0 then up (M 73) c mi else M 73))) := by
    refine lp ?_ ?_
    · rintro ll M1 ⟨u, fr1, a, rfl, hS, h1, h2, h3, h4, h5⟩
      rw [Nat.sub_self] at h5
      refine g3 hC rfl rfl ?_
      refine g3 hC rfl rfl ?_
      refine g19 hC rfl (shH hh) (Nat.le_of_ble_eq_true rfl) rfl ((hS.fix hw hF).h (v := 10) hh rfl rfl) ?_
      refine g3 hC rfl rfl ?_
      refine r21 (c) hC rfl (by omega) (shA (v := 10) hh rfl rfl) (Or.inl rfl) (by omega) (rdP hS hwh hV hW (by omega)) ?_
      refine g13g hC rfl (fun h7 => ?_) (fun h7 => (by omega))
      exact fin1 M1 _ _ _ fr1 a rfl hS h1 h2.1 h2.2 h3 h4 h5
    · rintro k hk ll M1 ⟨u, fr1, a, rfl, hS, h1, h2, h3, h4, h5⟩ hnext
      have ea : M1 103 c = ((a.toNat : Nat) : Int) := by rw [h1, up_at]; omega
      have e1 : cp V h c - k = (cp V h c - (k + 1)) + 1 := by omega
      rw [e1] at h5
      unfold wk at h5
      dsimp only at h5
      have hf72 : on8 (M1 72) fa := fun q hq => by rw [hS 72 q rfl]; exact hfa q hq
      have hV1 := hV.sb hS hwh (fun _ => ⟨rfl, rfl, rfl, rfl⟩)
      have ea2 : ((a.toNat : Nat) : Int) = a := by omega
      have hpk := pk_b (V := V) (h := h) (fa := fa) (fr := fr1) (r := a.toNat) (Nat.le_refl _)
      change -1 ≤ pk V h fa fr1 a.toNat ∧ pk V h fa fr1 a.toNat < (nS V h : Int) ∧ _ ∧ (pk V h fa fr1 a.toNat ≠ -1 → _ = lead V h (pk V h fa fr1 a.toNat).toNat (a.toNat : Nat) ∧ _ ∧ 0 < fr1 (pk V h fa fr1 a.toNat).toNat) at hpk
      refine g3 hC rfl rfl ?_
      refine g3 hC rfl rfl ?_
      refine g19 hC rfl (shH hh) (Nat.le_of_ble_eq_true rfl) rfl ((hS.fix hw hF).h (v := 10) hh rfl rfl) ?_
      refine g3 hC rfl rfl ?_
      refine r21 (c) hC rfl (by omega) (shA (v := 10) hh rfl rfl) (Or.inl rfl) (by omega) (rdP hS hwh hV hW (by omega)) ?_
      refine g13g hC rfl (fun h7 => (by omega)) (fun h7 => ?_)
      refine g3 hC rfl rfl ?_
      refine g19 hC rfl rfl (Nat.le_of_ble_eq_true rfl) rfl ((hS.fix hw hF).g fx_71_7) ?_
      refine g3 hC rfl rfl ?_
      refine r21 (c) hC rfl (by omega) rfl (Or.inl rfl) (by omega) ea ?_
      refine g12e hC rfl (fun h12 => ?_) (fun h12 => ?_)
      ·
        rw [if_pos (by omega)] at h5
        exact fin1 M1 _ _ _ fr1 a rfl hS h1 h2.1 h2.2 h3 h4 h5
      ·
        refine g3 hC rfl rfl ?_
        refine g3 hC rfl rfl ?_
        refine g3 hC rfl rfl ?_
        refine g19 hC rfl rfl (Nat.le_of_ble_eq_true rfl) rfl ((hS.fix hw hF).g fx_71_7) ?_
        refine g3 hC rfl rfl ?_
        refine r21 (c) hC rfl (by omega) rfl (Or.inl rfl) (by omega) ea ?_
        refine c1 hC rfl rfl rfl (Nat.le_of_ble_eq_true rfl) (Nat.le_of_ble_eq_true rfl) rfl (m13 (hS.fix hw hF) hh hV1 hW (fa := fa) (fr := fr1) (r := a.toNat) (by omega) hf72 hfb (fun s hs => (h3 s hs).1)) (Nat.le_of_ble_eq_true rfl) (fun x M2 hr => ?_)
        obtain ⟨rfl, hr⟩ := hr
        replace hr := hr.symm
        subst hr
        refine s5 hC rfl rfl rfl ?_
        refine g3 hC rfl rfl ?_
        refine g0 hC rfl ?_
        refine g13n hC rfl (fun h23 => ?_) (fun h23 => ?_)
        ·
          have hs0 : (pk V h fa fr1 a.toNat).toNat < nS V h ∧ pk V h fa fr1 a.toNat = ((pk V h fa fr1 a.toNat).toNat : Int) ∧ 0 < fr1 (pk V h fa fr1 a.toNat).toNat ∧ lead V h (pk V h fa fr1 a.toNat).toNat a ≠ -1 := ⟨by omega, by omega, (hpk.2.2.2 h23).2.2, by have q := hpk.2.2.2 h23; rw [ea2] at q; exact fun z => q.2.1 (q.1.trans z)⟩
          have h30 := h3 (pk V h fa fr1 a.toNat).toNat hs0.1
          have hlb := lead_b (r := a) hW hs0.1
          refine g3 hC rfl rfl ?_
          refine g19 hC rfl rfl (Nat.le_of_ble_eq_true rfl) rfl ((hS.fix hw hF).g fx_71_9) ?_
          refine g3 hC rfl rfl ?_
          refine g17 hC rfl (by decide) ?_
          refine r21 (pk V h fa fr1 a.toNat).toNat hC rfl (by omega) rfl (Or.inl rfl) (by omega) h30.1 ?_
          refine g0 hC rfl ?_
          refine g6s hC rfl ⟨by omega, by omega⟩ ?_
          refine r22s ((pk V h fa fr1 a.toNat).toNat) hC rfl (by omega) sh105 (by omega) rfl hS rfl (fun hS => ?_)
          refine g3 hC rfl rfl ?_
          refine g19 hC rfl rfl (Nat.le_of_ble_eq_true rfl) rfl ((hS.fix hw hF).g fx_71_7) ?_
          refine g3 hC rfl rfl ?_
          refine g3 hC rfl rfl ?_
          refine g3 hC rfl rfl ?_
          refine vl hs0.2.1 ?_
          refine g3 hC rfl rfl ?_
          refine g19 hC rfl rfl (Nat.le_of_ble_eq_true rfl) rfl ((hS.fix hw hF).g fx_71_7) ?_
          refine g3 hC rfl rfl ?_
          have ea3 : ax_up M1 105 (pk V h fa fr1 a.toNat).toNat (fr1 (pk V h fa fr1 a.toNat).toNat - 1) 103 c = a := by rw [ax_up_ne (by decide), ea]; exact ea2
          refine r21 (c) hC rfl (by omega) rfl (Or.inl rfl) (by omega) ea3 ?_
          refine c1 hC rfl rfl rfl (Nat.le_of_ble_eq_true rfl) (Nat.le_of_ble_eq_true rfl) (mayH hh rfl rfl) (m38 (hS.fix hw hF) hh (hV.sb hS hwh (fun _ => ⟨rfl, rfl, rfl, rfl⟩)) hW (s := ((pk V h fa fr1 a.toNat).toNat)) (by omega)) (Nat.le_of_ble_eq_true rfl) (fun x M2 hr => ?_)
          obtain ⟨rfl, hr⟩ := hr
          replace hr := hr.symm
          subst hr
          refine r22s (c) hC rfl (by omega) sh103 (by omega) rfl hS rfl (fun hS => ?_)
          refine n4 hC rfl rfl ⟨by omega, by omega⟩ ?_
          refine g14 hC rfl ?_
          rw [if_neg (by omega), if_neg h23] at h5
          refine hnext _ _ ⟨_, _, _, rfl, hS, ?_, ⟨by omega, hlb.2⟩, fun s hs => ?_, ?_, h5⟩
          · rw [ax_upf, ax_up_ne (by decide), h1]
            funext q; unfold up; split <;> rfl
          · rw [ax_up_ne (by decide), ax_upf]
            have q := h3 s hs
            unfold up
            split
            · exact ⟨rfl, by omega, by omega⟩
            · exact q
          · rw [ax_up_ne (by decide), ax_up_ne (by decide)]; exact h4
        ·
          refine ret0 hC rfl ?_
          rw [if_neg (by omega), if_pos (by omega)] at h5
          subst h5
          refine ⟨hS, h1, h2, h3, ?_⟩
          rw [if_neg (by dsimp only; omega)]
          exact h4
  refine g0 hC rfl ?_
  refine s4 hC rfl rfl rfl ?_
  exact l1 (cp V h c) 0 (Nat.zero_add _) _ _ ⟨_, fr, a0, rfl, Sb.refl, by funext q; unfold up; split <;> simp_all, ha0.2, hfr, rfl, hfin⟩
end WLK
