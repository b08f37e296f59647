section WHR
variable {L : Nat} {X : Nat → Int} {M V : ax_M} {h n : Nat}
theorem m249 (hF : Fix M) {nc rn : Nat} {o sc so : Nat → Int} (ho : ∀ i, i < nc → M 190 i = o i) (hnc : nc ≤ 8) (hrn : M 142 76 = (rn : Int)) (hr16 : rn ≤ 16) (hsc : ∀ k, k < rn → M 200 (2 * k) = ((sc k).toNat : Int) ∧ (sc k).toNat < nc ∧ M 200 (2 * k + 1) = so k) : ax_Ev L X SH 0 249 [(2, 142)] M (R1 0 (fun x M' => x = (if asn o sc so rn then 1 else 0) ∧ M' = M)) := by
  show ax_G L X SH 0 249 0 [(2, 142), (3, 0)] [] M _
  have hC := at249
  have hw := wX0
  have l1 : ∀ (m k : Nat), k + m = rn → ∀ ll M1, (ll = [(2, 142), (0, (k : Int))] ∧ M1 = M ∧ ∀ j, j < k → o (sc j).toNat = so j) → ax_G L X SH 0 249 2 ll [] M1 (R1 0 (fun x M' => x = (if asn o sc so rn then 1 else 0) ∧ M' = M)) := by
    refine lp ?_ ?_
    · rintro ll M1 ⟨rfl, rfl, e1⟩
      have hS : Sb X0 M1 M1 := Sb.refl
      refine g3 hC rfl rfl ?_
      refine g3 hC rfl rfl ?_
      refine g19 hC rfl sh142 (flt12 rfl) ft12_76 hrn ?_
      refine g13g hC rfl (fun h5 => ?_) (fun h5 => (by omega))
      refine g0 hC rfl ?_
      refine ret3 hC rfl ⟨by omega, by omega⟩ ?_
      exact ⟨by rw [if_pos e1], rfl⟩
    · rintro k hk ll M1 ⟨rfl, rfl, e1⟩ hnext
      have hS : Sb X0 M1 M1 := Sb.refl
      have hk2 := hsc k hk
      obtain ⟨q, hq⟩ : ∃ q, q = (sc k).toNat := ⟨_, rfl⟩
      rw [← hq] at hk2
      refine g3 hC rfl rfl ?_
      refine g3 hC rfl rfl ?_
      refine g19 hC rfl sh142 (flt12 rfl) ft12_76 hrn ?_
      refine g13g hC rfl (fun h5 => (by omega)) (fun h5 => ?_)
      refine g3 hC rfl rfl ?_
      refine g19 hC rfl sh142 (flt12 rfl) ft12_63 ((hS.fix hw hF).g fx_142_63) ?_
      refine g3 hC rfl rfl ?_
      refine g19 hC rfl sh142 (flt12 rfl) ft12_77 ((hS.fix hw hF).g fx_142_77) ?_
      refine g0 hC rfl ?_
      refine g3 hC rfl rfl ?_
      refine g6m hC rfl ⟨by omega, by omega⟩ ?_
      refine r21 (2 * k) hC rfl (by omega) sh200 (Or.inl rfl) (by omega) hk2.1 ?_
      refine r21 (q) hC rfl rfl sh190 (Or.inl rfl) (by omega) (ho q (by omega)) ?_
      refine g3 hC rfl rfl ?_
      refine g19 hC rfl sh142 (flt12 rfl) ft12_77 ((hS.fix hw hF).g fx_142_77) ?_
      refine g0 hC rfl ?_
      refine g3 hC rfl rfl ?_
      refine g6m hC rfl ⟨by omega, by omega⟩ ?_
      refine g0 hC rfl ?_
      refine g6a hC rfl ⟨by omega, by omega⟩ ?_
      refine r21 (2 * k + 1) hC rfl (by omega) sh200 (Or.inl rfl) (by omega) hk2.2.2 ?_
      refine g13e hC rfl (fun h23 => ?_) (fun h23 => ?_)
      ·
        refine n1 hC rfl rfl ⟨by omega, by omega⟩ ?_
        refine g14 hC rfl ?_
        refine hnext _ _ ⟨rfl, rfl, fun j hj => ?_⟩
        by_cases z : j = k
        · rw [z, ← hq]; exact h23
        · exact e1 j (by omega)
      ·
        refine g0 hC rfl ?_
        refine ret3 hC rfl ⟨by omega, by omega⟩ ?_
        refine ⟨?_, rfl⟩
        rw [if_neg (fun w => h23 ?_)]
        have := w k hk
        rw [← hq] at this; exact this
  refine g0 hC rfl ?_
  refine s1 hC rfl rfl rfl ?_
  exact l1 rn 0 (Nat.zero_add _) _ _ ⟨rfl, rfl, fun j hj => absurd hj (Nat.not_lt_zero j)⟩
def fm (q : Nat → Int) (m : Nat) : Int := it (fun k (n : Int) => if q k = 1 then n + 1 else n) m 0
theorem fm_b {q : Nat → Int} : ∀ m : Nat, 0 ≤ fm q m ∧ fm q m ≤ m := by
  intro m
  induction m with
  | zero => exact ⟨Int.le_refl 0, Int.le_refl 0⟩
  | succ m ih =>
    have e : fm q (m + 1) = if q m = 1 then fm q m + 1 else fm q m := rfl
    rw [e]; split <;> omega
theorem fm_p {q : Nat → Int} : ∀ m : Nat, 0 < fm q m ↔ ∃ k, k < m ∧ q k = 1 := by
  intro m
  induction m with
  | zero => exact ⟨fun h => absurd h (by show ¬ (0 : Int) < 0; decide), fun ⟨k, hk, _⟩ => absurd hk (Nat.not_lt_zero k)⟩
  | succ m ih =>
    have e : fm q (m + 1) = if q m = 1 then fm q m + 1 else fm q m := rfl
    have := fm_b (q := q) m
    rw [e]
    by_cases z : q m = 1
    · rw [if_pos z]; exact ⟨fun _ => ⟨m, by omega, z⟩, fun _ => by omega⟩
    · rw [if_neg z, ih]
      constructor
      · rintro ⟨k, hk, hq⟩; exact ⟨k, by omega, hq⟩
      · rintro ⟨k, hk, hq⟩
        refine ⟨k, ?_, hq⟩
        by_cases w : k = m
        · rw [w] at hq; exact absurd hq z
        · omega
def FRr (V : ax_M) (h : Nat) (q : Nat → Int) (k : Nat) (M : ax_M) : Prop := ∀ s, s < k → M 202 s = q s ∧ (mb V h s → ∀ c, c < nC V h → M 201 (8 * s + c) = oS V h s c)
theorem m250 (hF : Fix M) (hV : RV V h M) (hW : HW V h) (hSW : SW V) (hPW : PW V h) (hsm : M 142 69 = -1) (hwd : M 142 70 = -1) {rn : Nat} {sc so : Nat → Int} (hrn : M 142 76 = (rn : Int)) (hr16 : rn ≤ 16) (hsc : ∀ k, k < rn → M 200 (2 * k) = ((sc k).toNat : Int) ∧ (sc k).toNat < nC V h ∧ M 200 (2 * k + 1) = so k) : ax_Ev L X SH 7 250 [(2, 142)] M (R0 (fun M' => Sb X250d M M' ∧ FRr V h (fv V h sc so rn) 11 M' ∧ M' 142 80 = fm (fv V h sc so rn) 11)) := by
  show ax_G L X SH 7 250 0 [(2, 142), (3, 0), (3, 0)] [] M _
  have hC := at250
  have hw : wok X250 = true := by decide +kernel
  have hwr : rok X250 := rokB (by decide +kernel)
  have hS : Sb X250 M M := Sb.refl
  have h2 := hW.1.2.1.2
  have h4 := hW.1.2.2.2.2
  obtain ⟨P, hP⟩ : ∃ P, P = fun M' => Sb X250d M M' ∧ FRr V h (fv V h sc so rn) 11 M' ∧ M' 142 80 = fm (fv V h sc so rn) 11 := ⟨_, rfl⟩
  rw [← hP]
  have l1 : ∀ (m k : Nat), k + m = 11 → ∀ ll M1, (∃ v, ll = [(2, 142), (0, (k : Int)), v] ∧ Sb X250 M M1 ∧ M1 142 69 = -1 ∧ FRr V h (fv V h sc so rn) k M1 ∧ M1 142 80 = fm (fv V h sc so rn) k) → ax_G L X SH 7 250 5 ll [] M1 (R0 P) := by
    refine lp ?_ ?_
    · rintro ll M1 ⟨v, rfl, hS, e0, e1, e2⟩
      refine g3 hC rfl rfl ?_
      refine g0 hC rfl ?_
      refine g13t hC rfl (fun h7 => ?_) (fun h7 => (by omega))
      refine ret0 hC rfl ?_
      rw [hP]
      exact ⟨Sb.drop (W := X250d) hS (e0.trans hsm.symm), e1, e2⟩
    · rintro k hk ll M1 ⟨v, rfl, hS, e0, e1, e2⟩ hnext
      have efm : fm (fv V h sc so rn) (k + 1) = if fv V h sc so rn k = 1 then fm (fv V h sc so rn) k + 1 else fm (fv V h sc so rn) k := rfl
      have bfm := fm_b (q := fv V h sc so rn) k
      have no : ∀ M3 v, ¬ mb V h k → Sb X250 M M3 → M3 = ax_up M1 202 k 0 → ax_G L X SH 7 250 5 [(2, 142), (0, (k : Int) + 1), v] [] M3 (R0 P) := by
        intro M3 v hn hS e
        have f0 : fv V h sc so rn k = 0 := by unfold fv; rw [if_neg (fun w => hn w.1)]
        refine hnext _ _ ⟨v, rfl, hS, by rw [e, ax_up2n (by decide)]; exact e0, fun s hs => ?_, by rw [e, ax_up2n (by decide), efm, if_neg (by omega)]; exact e2⟩
        by_cases z : s = k
        · rw [z, e, ax_up_at]
          exact ⟨f0.symm, fun w => absurd w hn⟩
        · have := e1 s (by omega)
          rw [e, ax_up_of z, ax_up_ne (by decide)]
          exact this
      have go : ∀ M3 (sm : Int) v, mb V h k → sm = smo k → Sb X250 M M3 → M3 = ax_up M1 202 k 0 → ax_G L X SH 7 250 32 [(2, 142), (0, (k : Int)), v] [(0, sm), (2, 142)] M3 (R0 P) := by
        intro M3 sm v hm hsm2 hS e
        have l2 : ∀ M4 : ax_M, Sb X250 M M4 → M4 142 69 = -1 → (∀ c, c < nC V h → M4 190 c = oS V h k c) → (∀ s, s < 11 → M4 202 s = ax_up M1 202 k 0 202 s) → M4 142 80 = fm (fv V h sc so rn) k → ∀ (m c : Nat), c + m = 8 → ∀ ll M5, (ll = [(2, 142), (0, (k : Int)), (0, (c : Int))] ∧ Sb X250 M M5 ∧ M5 142 69 = -1 ∧ (∀ i, M5 190 i = M4 190 i) ∧ (∀ s, M5 202 s = M4 202 s) ∧ M5 142 80 = M4 142 80 ∧ (∀ s c', s < 11 → c' < 8 → s ≠ k → M5 201 (8 * s + c') = M1 201 (8 * s + c')) ∧ ∀ c', c' < c → M5 201 (8 * k + c') = M4 190 c') → ax_G L X SH 7 250 40 ll [] M5 (R0 P) := by
          intro M4 hS4 h69 h190 h202 h80
          refine lp ?_ ?_
          · rintro ll M5 ⟨rfl, hS, a1, a2, a3, a4, a5, a6⟩
            have h76 : M5 142 76 = (rn : Int) := (hS 142 76 rfl).trans hrn
            have h200 : ∀ k, k < rn → M5 200 (2 * k) = ((sc k).toNat : Int) ∧ (sc k).toNat < nC V h ∧ M5 200 (2 * k + 1) = so k := fun k hk => by rw [hS 200 _ rfl, hS 200 _ rfl]; exact hsc k hk
            have fin : ∀ x M6, x = fv V h sc so rn k → Sb X250 M M6 → M6 142 69 = -1 → M6 142 80 = fm (fv V h sc so rn) (k + 1) → (∀ s, M6 202 s = ax_up M5 202 k x 202 s) → (∀ i, M6 201 i = M5 201 i) → ax_G L X SH 7 250 5 [(2, 142), (0, (k : Int) + 1), (0, ((8 : Nat) : Int))] [] M6 (R0 P) := by
              intro x M6 hx hS6 b1 b2 b3 b4
              refine hnext _ _ ⟨_, rfl, hS6, b1, fun s hs => ?_, b2⟩
              by_cases z : s = k
              · rw [z, b3, ax_up_at]
                refine ⟨hx, fun w c' hc' => ?_⟩
                rw [b4, a6 c' (by omega), h190 c' hc']
              · have := e1 s (by omega)
                rw [b3, ax_up_of z, a3, h202 s (by omega), ax_up_of z]
                refine ⟨this.1, fun w c' hc' => ?_⟩
                rw [b4, a5 s c' (by omega) (by omega) z]
                exact this.2 w c' hc'
            have hfx : (if asn (oS V h k) sc so rn then 1 else 0 : Int) = fv V h sc so rn k := by
              unfold fv
              by_cases y : asn (oS V h k) sc so rn
              · rw [if_pos y, if_pos ⟨hm, y⟩]
              · rw [if_neg y, if_neg (fun w => y w.2)]
            have hfb := fv_b (V := V) (h := h) (sc := sc) (so := so) (rn := rn) (s := k)
            have h249 := m249 (L := L) (X := X) (M := M5) (nc := nC V h) (rn := rn) (o := oS V h k) (hS.fix hw hF) (fun i hi => by rw [a2 i]; exact h190 i hi) h4 h76 hr16 h200
            rw [hfx] at h249
            refine g3 hC rfl rfl ?_
            refine g0 hC rfl ?_
            refine g13g hC rfl (fun h42 => ?_) (fun h42 => (by omega))
            refine g3 hC rfl rfl ?_
            refine g19 hC rfl sh142 (flt12 rfl) ft12_79 ((hS.fix hw hF).g fx_142_79) ?_
            refine g3 hC rfl rfl ?_
            refine g3 hC rfl rfl ?_
            refine c1 hC rfl rfl rfl (Nat.le_of_ble_eq_true rfl) (Nat.le_of_ble_eq_true rfl) (mayR k249 rfl) (h249) (Nat.le_of_ble_eq_true rfl) (fun x M2 hr => ?_)
            obtain ⟨rfl, hr⟩ := hr
            replace hr := hr.symm
            subst hr
            refine r22s (k) hC rfl rfl sh202 (by omega) (decide_eq_true ⟨rfl, by omega, by omega⟩) hS rfl (fun hS => ?_)
            refine g3 hC rfl rfl ?_
            refine g19 hC rfl sh142 (flt12 rfl) ft12_79 ((hS.fix hw hF).g fx_142_79) ?_
            refine g3 hC rfl rfl ?_
            refine r21 (k) hC rfl rfl sh202 (Or.inl rfl) (by omega) ax_up_at ?_
            refine g12e hC rfl (fun h67 => ?_) (fun h67 => ?_)
            ·
              refine n1 hC rfl rfl ⟨by omega, by omega⟩ ?_
              refine g14 hC rfl ?_
              exact fin _ _ rfl hS ((ax_up2n (by decide)).trans a1) (by rw [ax_up2n (by decide), a4, h80, efm, if_neg (by omega)]) (fun s => rfl) (fun i => ax_up2n (by decide))
            ·
              refine g3 hC rfl rfl ?_
              refine g16 hC rfl (by decide) ?_
              refine g19 hC rfl sh142 (flt12 rfl) ft12_80 ((ax_up2n (by decide)).trans (a4.trans h80)) ?_
              refine g0 hC rfl ?_
              refine g6a hC rfl ⟨by omega, by omega⟩ ?_
              refine g20s hC rfl sh142 (flt12 rfl) (by rw [fy12_80]; rfl) hS rfl (fun hS => ?_)
              refine n1 hC rfl rfl ⟨by omega, by omega⟩ ?_
              refine g14 hC rfl ?_
              refine fin _ _ rfl hS ?_ ?_ (fun s => ax_up2n (by decide)) (fun i => ?_)
              · rw [ax_up_of (by decide), ax_up2n (by decide)]; exact a1
              · rw [ax_up_at, efm, if_pos (by omega)]
              · rw [ax_up2n (by decide), ax_up2n (by decide)]
          · rintro c hc ll M5 ⟨rfl, hS, a1, a2, a3, a4, a5, a6⟩ hnx
            refine g3 hC rfl rfl ?_
            refine g0 hC rfl ?_
            refine g13g hC rfl (fun h42 => (by omega)) (fun h42 => ?_)
            refine g3 hC rfl rfl ?_
            refine g19 hC rfl sh142 (flt12 rfl) ft12_78 ((hS.fix hw hF).g fx_142_78) ?_
            refine g0 hC rfl ?_
            refine g3 hC rfl rfl ?_
            refine g6m hC rfl ⟨by omega, by omega⟩ ?_
            refine g3 hC rfl rfl ?_
            refine g6a hC rfl ⟨by omega, by omega⟩ ?_
            refine g3 hC rfl rfl ?_
            refine g19 hC rfl sh142 (flt12 rfl) ft12_63 ((hS.fix hw hF).g fx_142_63) ?_
            refine g3 hC rfl rfl ?_
            refine r21 (c) hC rfl (by omega) sh190 (Or.inl rfl) (by omega) (a2 c) ?_
            refine r22s (((8 * k) + c)) hC rfl (by omega) sh201 (by omega) rfl hS rfl (fun hS => ?_)
            refine n2 hC rfl rfl ⟨by omega, by omega⟩ ?_
            refine g14 hC rfl ?_
            refine hnx _ _ ⟨rfl, hS, ?_, fun i => ?_, fun s => ?_, ?_, fun s c' h1 h2 h3 => ?_, fun c' hc' => ?_⟩
            · rw [ax_up2n (by decide)]; exact a1
            · rw [ax_up2n (by decide)]; exact a2 i
            · rw [ax_up2n (by decide)]; exact a3 s
            · rw [ax_up2n (by decide)]; exact a4
            · rw [ax_up_of (by omega)]; exact a5 s c' h1 h2 h3
            · by_cases z : c' = c
              · rw [z, ax_up_at]
              · rw [ax_up_of (by omega)]; exact a6 c' (by omega)
        refine g20s hC rfl sh142 (flt12 rfl) (by rw [fy12_69]; rfl) hS rfl (fun hS => ?_)
        refine g3 hC rfl rfl ?_
        refine c0 hC rfl rfl rfl (Nat.le_of_ble_eq_true rfl) (Nat.le_of_ble_eq_true rfl) (mayR k208 rfl) (m208 (hS.fix hw hF) (hV.sb hS hwr) hW hSW hPW (sm := sm) (wd := -1) ax_up_at ((hS 142 70 rfl).trans hwd)) (Nat.le_of_ble_eq_true rfl) (fun M2 hr => ?_)
        obtain ⟨hr0, hrr⟩ := hr; have hS := hS.then hr0 rfl
        refine g3 hC rfl rfl ?_
        refine g0 hC rfl ?_
        refine g20s hC rfl sh142 (flt12 rfl) (by rw [fy12_69]; rfl) hS rfl (fun hS => ?_)
        refine g0 hC rfl ?_
        refine s2 hC rfl rfl rfl ?_
        refine l2 _ hS ax_up_at (fun c hc => ?_) (fun s hs => ?_) ?_ 8 0 rfl _ _ ⟨rfl, hS, ax_up_at, fun _ => rfl, fun _ => rfl, rfl, fun s c' h1 h2 h3 => ?_, fun c' hc' => absurd hc' (Nat.not_lt_zero c')⟩
        · rw [ax_up2n (by decide), (hrr.2.1 c hc).1, hsm2]; rfl
        · rw [ax_up2n (by decide), hr0 202 s rfl, ax_up2n (by decide), e]
        · rw [ax_up_of (by decide), hr0 142 80 rfl, ax_up_of (by decide), e, ax_up2n (by decide)]; exact e2
        · rw [ax_up2n (by decide), hr0 201 _ rfl, ax_up2n (by decide), e, ax_up2n (by decide)]
      have hsk : k < 10 → V 47 k = 0 ∨ V 47 k = 1 := fun z => hSW.2.2.1 k z
      refine g3 hC rfl rfl ?_
      refine g0 hC rfl ?_
      refine g13t hC rfl (fun h7 => (by omega)) (fun h7 => ?_)
      refine g3 hC rfl rfl ?_
      refine g19 hC rfl sh142 (flt12 rfl) ft12_79 ((hS.fix hw hF).g fx_142_79) ?_
      refine g3 hC rfl rfl ?_
      refine g0 hC rfl ?_
      refine r22s (k) hC rfl (by omega) sh202 (by omega) rfl hS rfl (fun hS => ?_)
      refine g3 hC rfl rfl ?_
      refine g0 hC rfl ?_
      refine g13g hC rfl (fun h15 => ?_) (fun h15 => ?_)
      ·
        refine g3 hC rfl rfl ?_
        refine g3 hC rfl rfl ?_
        refine g0 hC rfl ?_
        refine g13g hC rfl (fun h28 => ?_) (fun h28 => ?_)
        ·
          refine g0 hC rfl ?_
          exact go _ _ _ (Or.inl (by omega)) (by unfold smo; rw [if_pos (by omega)]) hS rfl
        ·
          refine g3 hC rfl rfl ?_
          refine g14 hC rfl ?_
          exfalso; omega
      ·
        refine g3 hC rfl rfl ?_
        refine g3 hC rfl rfl ?_
        refine c1 hC rfl rfl rfl (Nat.le_of_ble_eq_true rfl) (Nat.le_of_ble_eq_true rfl) (mayR k187 rfl) (m187 (hS.fix hw hF) (hV.sb hS hwr) hW) (Nat.le_of_ble_eq_true rfl) (fun x M2 hr => ?_)
        obtain ⟨rfl, hr⟩ := hr
        replace hr := hr.symm
        subst hr
        refine g12e hC rfl (fun h19 => ?_) (fun h19 => ?_)
        ·
          refine n1 hC rfl rfl ⟨by omega, by omega⟩ ?_
          refine g14 hC rfl ?_
          refine no _ _ (fun w => ?_) hS rfl
          rcases w with w | w
          · omega
          · rw [if_pos (by omega)] at h19; omega
        ·
          refine g3 hC rfl rfl ?_
          refine g3 hC rfl rfl ?_
          refine c1 hC rfl rfl rfl (Nat.le_of_ble_eq_true rfl) (Nat.le_of_ble_eq_true rfl) (mayR k192 rfl) (m192 (hS.fix hw hF) (hV.sb hS hwr) hW (by omega)) (Nat.le_of_ble_eq_true rfl) (fun x M2 hr => ?_)
          obtain ⟨rfl, hr⟩ := hr
          replace hr := hr.symm
          subst hr
          refine g12e hC rfl (fun h23 => ?_) (fun h23 => ?_)
          ·
            refine g3 hC rfl rfl ?_
            refine g3 hC rfl rfl ?_
            refine g0 hC rfl ?_
            refine g13g hC rfl (fun h28 => ?_) (fun h28 => ?_)
            ·
              refine g0 hC rfl ?_
              exfalso; omega
            ·
              refine g3 hC rfl rfl ?_
              refine g14 hC rfl ?_
              refine go _ _ _ (Or.inr ⟨?_, ?_⟩) (by unfold smo; rw [if_neg (by omega)]) hS rfl
              · by_cases w : k < nS V h
                · exact w
                · rw [if_neg (by omega)] at h19; omega
              · rcases hsk (by omega) with w | w
                · exact w
                · rw [if_pos w] at h23; omega
          ·
            refine g14 hC rfl ?_
            refine n1 hC rfl rfl ⟨by omega, by omega⟩ ?_
            refine g14 hC rfl ?_
            refine no _ _ (fun w => ?_) hS rfl
            rcases w with w | w
            · omega
            · rw [if_neg (by omega)] at h23; omega
  refine g3 hC rfl rfl ?_
  refine g0 hC rfl ?_
  refine g20s hC rfl sh142 (flt12 rfl) (by rw [fy12_80]; rfl) hS rfl (fun hS => ?_)
  refine g0 hC rfl ?_
  refine s1 hC rfl rfl rfl ?_
  exact l1 11 0 rfl _ _ ⟨_, rfl, hS, (up2 (by decide)).trans hsm, fun s hs => absurd hs (Nat.not_lt_zero s), ax_up_at⟩
theorem m252 (hF : Fix M) {q : Nat → Int} {o : Nat → Nat → Int} (hq : ∀ s, s < 11 → M 202 s = q s) (hq1 : ∀ s, q s = 0 ∨ q s = 1) {c k : Nat} (hc : c < 8) (hk : k < 11) (hqk : q k = 1) (ho : ∀ s, s < 11 → q s = 1 → M 201 (8 * s + c) = o s c) : ax_Ev L X SH 0 252 [(2, 142), (0, (c : Int)), (0, (k : Int))] M (R1 0 (fun x M' => x = al q o c k 11 ∧ M' = M)) := by
  show ax_G L X SH 0 252 0 [(2, 142), (0, (c : Int)), (0, (k : Int)), (3, 0), (3, 0)] [] M _
  have hC := at252
  have hw := wX0
  have l1 : ∀ (m j : Nat), j + m = 11 → ∀ ll M1, (ll = [(2, 142), (0, (c : Int)), (0, (k : Int)), (0, al q o c k j), (0, (j : Int))] ∧ M1 = M) → ax_G L X SH 0 252 4 ll [] M1 (R1 0 (fun x M' => x = al q o c k 11 ∧ M' = M)) := by
    refine lp ?_ ?_
    · rintro ll M1 ⟨rfl, rfl⟩
      have hS : Sb X0 M1 M1 := Sb.refl
      refine g3 hC rfl rfl ?_
      refine g0 hC rfl ?_
      refine g13t hC rfl (fun h6 => ?_) (fun h6 => (by omega))
      refine g3 hC rfl rfl ?_
      refine ret1 hC rfl rfl ?_
      exact ⟨rfl, rfl⟩
    · rintro j hj ll M1 ⟨rfl, rfl⟩ hnext
      have hS : Sb X0 M1 M1 := Sb.refl
      have b1 := al_b (q := q) (o := o) (c := c) (k := k) j
      have e : al q o c k (j + 1) = if q k = 1 ∧ q j = 1 ∧ o k c = o j c then al q o c k j + 1 else al q o c k j := rfl
      have q2 := hq j hj
      have q3 := hq1 j
      refine g3 hC rfl rfl ?_
      refine g0 hC rfl ?_
      refine g13t hC rfl (fun h6 => (by omega)) (fun h6 => ?_)
      refine g3 hC rfl rfl ?_
      refine g19 hC rfl sh142 (flt12 rfl) ft12_79 ((hS.fix hw hF).g fx_142_79) ?_
      refine g3 hC rfl rfl ?_
      refine r21 (j) hC rfl rfl sh202 (Or.inl rfl) (by omega) q2 ?_
      refine g12e hC rfl (fun h11 => ?_) (fun h11 => ?_)
      ·
        refine n4 hC rfl rfl ⟨by omega, by omega⟩ ?_
        refine g14 hC rfl ?_
        exact hnext _ _ ⟨by rw [e, if_neg (fun w => by have := w.2.1; omega)]; rfl, rfl⟩
      ·
        refine g3 hC rfl rfl ?_
        refine g19 hC rfl sh142 (flt12 rfl) ft12_78 ((hS.fix hw hF).g fx_142_78) ?_
        refine g0 hC rfl ?_
        refine g3 hC rfl rfl ?_
        refine g6m hC rfl ⟨by omega, by omega⟩ ?_
        refine g3 hC rfl rfl ?_
        refine g6a hC rfl ⟨by omega, by omega⟩ ?_
        refine r21 (8 * j + c) hC rfl (by omega) sh201 (Or.inl rfl) (by omega) (ho j hj (by omega)) ?_
        refine g3 hC rfl rfl ?_
        refine g19 hC rfl sh142 (flt12 rfl) ft12_78 ((hS.fix hw hF).g fx_142_78) ?_
        refine g0 hC rfl ?_
        refine g3 hC rfl rfl ?_
        refine g6m hC rfl ⟨by omega, by omega⟩ ?_
        refine g3 hC rfl rfl ?_
        refine g6a hC rfl ⟨by omega, by omega⟩ ?_
        refine r21 (8 * k + c) hC rfl (by omega) sh201 (Or.inl rfl) (by omega) (ho k hk hqk) ?_
        refine g13n hC rfl (fun h28 => ?_) (fun h28 => ?_)
        ·
          refine n4 hC rfl rfl ⟨by omega, by omega⟩ ?_
          refine g14 hC rfl ?_
          exact hnext _ _ ⟨by rw [e, if_neg (fun w => h28 w.2.2.symm)]; rfl, rfl⟩
        ·
          refine n3 hC rfl rfl ⟨by omega, by omega⟩ ?_
          refine n4 hC rfl rfl ⟨by omega, by omega⟩ ?_
          refine g14 hC rfl ?_
          exact hnext _ _ ⟨by rw [e, if_pos ⟨hqk, by omega, by omega⟩]; rfl, rfl⟩
  refine g0 hC rfl ?_
  refine s3 hC rfl rfl rfl ?_
  refine g0 hC rfl ?_
  refine s4 hC rfl rfl rfl ?_
  exact l1 11 0 rfl _ _ ⟨rfl, rfl⟩
theorem m250' (hF : Fix M) (hG : GG n h M) {M1 : ax_M} {W : ax_W} (hS : Sb W M M1) (w1 : wok W = true) (w2 : rokb W = true) (w3 : (ccs W kS && ccf W kSf) = true) (w4 : ccf W kXf = true) : ax_Ev L X SH 7 250 [(2, 142)] M1 (R0 (fun M' => Sb X250d M1 M' ∧ FRr M h (fvM M h) 11 M' ∧ M' 142 80 = fm (fvM M h) 11)) := by
  obtain ⟨⟨g1, g2, g3⟩, g4⟩ := hG.2.2.2.2.2.2.2.2.1
  rw [Bool.and_eq_true] at w3
  have hX := hG.2.2.2.2.2.2.2.2.2.2.2.1
  refine m250 (hS.fix w1 hF) (hG.2.2.2.1.sb hS (rokB w2)) hG.1 hG.2.1 hG.2.2.1 ((hS 142 69 (ccfU w4 rfl)).trans hX.1) ((hS 142 70 (ccfU w4 rfl)).trans hX.2) (rn := sN M) (sc := M 123) (so := M 124) ((hS 142 76 (ccfU w3.2 rfl)).trans g3) g2 (fun k hk => ?_)
  have := g4 k hk
  rw [hS 200 _ (ccsU w3.1 rfl _), hS 200 _ (ccsU w3.1 rfl _)]
  exact ⟨this.1.2.2.trans this.1.1, this.1.2.1, this.2⟩
theorem m251 (hF : Fix M) (hG : GG n h M) {M1 : ax_M} (hS0 : Sb W81 M M1) {a : Int} : ax_Ev L X SH 8 251 [(2, 142), (0, a)] M1 (R1 0 (fun x M' => x = (if a = 0 then (bt (fvM M h) 10 : Int) else if a = 1 then fvM M h 10 else -1) ∧ Sb X250d M1 M')) := by
  show ax_G L X SH 8 251 0 [(2, 142), (0, a), (3, 0), (3, 0)] [] M1 _
  have hC := at251
  have hw : wok X250d = true := by decide +kernel
  have hF1 := hS0.fix (by decide +kernel) hF
  have hS : Sb X250d M1 M1 := Sb.refl
  have l1 : 0 ≤ a ∧ a ≤ 1 → ∀ M2 : ax_M, FRr M h (fvM M h) 11 M2 → Sb X250d M1 M2 → ∀ (m k : Nat), k + m = 10 → ∀ ll M3, (ll = [(2, 142), (0, a), (0, (bt (fvM M h) k : Int)), (0, (k : Int))] ∧ M3 = M2) → ax_G L X SH 8 251 14 ll [] M3 (R1 0 (fun x M' => x = (if a = 0 then (bt (fvM M h) 10 : Int) else if a = 1 then fvM M h 10 else -1) ∧ Sb X250d M1 M')) := by
    intro ha M2 hfr hS
    have hF := hF1
    refine lp ?_ ?_
    · rintro ll M3 ⟨rfl, rfl⟩
      have h10 := (hfr 10 (by decide)).1
      have hfb := fv_b (V := M) (h := h) (sc := M 123) (so := M 124) (rn := sN M) (s := 10)
      refine g3 hC rfl rfl ?_
      refine g0 hC rfl ?_
      refine g13g hC rfl (fun h16 => ?_) (fun h16 => (by omega))
      refine g3 hC rfl rfl ?_
      refine g12n hC rfl (fun h31 => ?_) (fun h31 => ?_)
      ·
        refine g3 hC rfl rfl ?_
        refine g19 hC rfl sh142 (flt12 rfl) ft12_79 ((hS.fix hw hF).g fx_142_79) ?_
        refine g0 hC rfl ?_
        refine r21 (10) hC rfl rfl sh202 (Or.inl rfl) (by decide) h10 ?_
        refine g12e hC rfl (fun h38 => ?_) (fun h38 => ?_)
        ·
          refine g0 hC rfl ?_
          refine ret1 hC rfl rfl ?_
          exact ⟨by rw [if_neg h31, if_pos (by omega)]; exact h38.symm, hS⟩
        ·
          refine g0 hC rfl ?_
          refine g14 hC rfl ?_
          refine ret1 hC rfl rfl ?_
          refine ⟨?_, hS⟩
          rw [if_neg h31, if_pos (by omega)]
          rcases hfb with z | z
          · exact absurd z h38
          · exact z.symm
      ·
        refine g3 hC rfl rfl ?_
        refine g14 hC rfl ?_
        refine ret1 hC rfl rfl ?_
        exact ⟨by rw [if_pos (by omega)], hS⟩
    · rintro k hk ll M3 ⟨rfl, rfl⟩ hnext
      have hb := bt_b (q := fvM M h) k
      have hp : 2 ^ k ≤ 2 ^ 10 := Nat.pow_le_pow_right (by decide) (by omega)
      have hs1 : 1 <<< k = 2 ^ k := by rw [Nat.shiftLeft_eq, Nat.one_mul]
      have e : bt (fvM M h) (k + 1) = if fvM M h k = 1 then bt (fvM M h) k ||| 1 <<< k else bt (fvM M h) k := rfl
      have hqk := (hfr k (by omega)).1
      have hfb := fv_b (V := M) (h := h) (sc := M 123) (so := M 124) (rn := sN M) (s := k)
      refine g3 hC rfl rfl ?_
      refine g0 hC rfl ?_
      refine g13g hC rfl (fun h16 => (by omega)) (fun h16 => ?_)
      refine g3 hC rfl rfl ?_
      refine g19 hC rfl sh142 (flt12 rfl) ft12_79 ((hS.fix hw hF).g fx_142_79) ?_
      refine g3 hC rfl rfl ?_
      refine r21 (k) hC rfl rfl sh202 (Or.inl rfl) (by omega) hqk ?_
      refine g12e hC rfl (fun h21 => ?_) (fun h21 => ?_)
      ·
        refine n3 hC rfl rfl ⟨by omega, by omega⟩ ?_
        refine g14 hC rfl ?_
        refine hnext _ _ ⟨?_, rfl⟩
        rw [e, if_neg (fun w => ?_)]; rfl
        have h21' : fvM M h k = 0 := h21
        omega
      ·
        refine g3 hC rfl rfl ?_
        refine g0 hC rfl ?_
        refine g3 hC rfl rfl ?_
        refine g6 hC rfl (congrArg some (shlN (a := 1) (k := k) (by omega) (by omega))) ?_
        refine g6 hC rfl (congrArg some (orN (by omega) (by omega))) ?_
        refine s2 hC rfl rfl rfl ?_
        refine n3 hC rfl rfl ⟨by omega, by omega⟩ ?_
        refine g14 hC rfl ?_
        refine hnext _ _ ⟨?_, rfl⟩
        rw [e, if_pos ?_]; rfl
        rcases hfb with z | z
        · exact absurd z h21
        · exact z
  by_cases z : 0 ≤ a ∧ a ≤ 1
  · skip
    refine g3 hC rfl rfl ?_
    refine g9 hC rfl ?_
    refine g1 hC rfl ?_
    refine g1 hC rfl ?_
    refine c1 hC rfl rfl rfl (Nat.le_of_ble_eq_true rfl) (Nat.le_of_ble_eq_true rfl) (mayS k153 rfl) (m153) (Nat.le_of_ble_eq_true rfl) (fun x M2 hr => ?_)
    obtain ⟨rfl, hr⟩ := hr; replace hr := hr.symm; subst hr; rw [if_pos z]
    refine g12n hC rfl (fun h5 => ?_) (fun h5 => (by omega))
    refine g3 hC rfl rfl ?_
    refine c0 hC rfl rfl rfl (Nat.le_of_ble_eq_true rfl) (Nat.le_of_ble_eq_true rfl) (mayR k250 rfl) (m250' hF hG hS0 (by decide +kernel) (by decide +kernel) rfl rfl) (Nat.le_of_ble_eq_true rfl) (fun M2 hr => ?_)
    obtain ⟨hr0, hr1, hr2⟩ := hr; have hS := hS.then hr0 rfl
    refine g0 hC rfl ?_
    refine s2 hC rfl rfl rfl ?_
    refine g0 hC rfl ?_
    refine s3 hC rfl rfl rfl ?_
    exact l1 z _ hr1 hS 10 0 rfl _ _ ⟨rfl, rfl⟩
  · skip
    refine g3 hC rfl rfl ?_
    refine g9 hC rfl ?_
    refine g1 hC rfl ?_
    refine g1 hC rfl ?_
    refine c1 hC rfl rfl rfl (Nat.le_of_ble_eq_true rfl) (Nat.le_of_ble_eq_true rfl) (mayS k153 rfl) (m153) (Nat.le_of_ble_eq_true rfl) (fun x M2 hr => ?_)
    obtain ⟨rfl, hr⟩ := hr; replace hr := hr.symm; subst hr; rw [if_neg z]
    refine g12n hC rfl (fun h5 => (by omega)) (fun h5 => ?_)
    refine g0 hC rfl ?_
    refine ret1 hC rfl rfl ?_
    exact ⟨by rw [if_neg (by omega), if_neg (by omega)], hS⟩
theorem op25 (hR : Rel n M) {a : Int} : OP L X n 0 125 251 [(2, 0), (0, a)] [(2, 142), (0, a)] M := by
  have hR0 := hR
  obtain ⟨h, hh, hF, hG⟩ := hR
  have hG0 := hG
  obtain ⟨hW, hSW, hPW, hRV, hGT, hGN, hGM, hGH, hGS, hGX⟩ := hG
  have hV : HV M h M := HV.refl
  have hH3 : M 0 3 = (h : Int) := hGX.1.1
  exact OP.sc hR0 (by decide +kernel) (by decide +kernel) (by decide +kernel) (by decide +kernel) (m125 hF hh hG0) (fun M1 hS => m251 hF hG0 hS) (by decide) (by decide)
end WHR
