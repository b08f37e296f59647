section CPS
variable {L : Nat} {X : Nat → Int} {M V : ax_M} {h n : Nat}
theorem m242 (hF : Fix M) (hV : RV V h M) (hW : HW V h) (hSW : SW V) (hPW : PW V h) (hsm : M 142 69 = -1) (hwd : M 142 70 = -1) {mm : Nat → Nat → Int} (hmm : mm = mtp V h (V 46) (-1) (-1)) : ax_Ev L X SH 7 242 [(2, 142)] M (R0 (fun M' => Sb XCP M M' ∧ M' 198 (1 <<< nC V h - 1) = (OV V h mm).1 ∧ ∀ i, i < nC V h → M' 199 i = appl (fun _ => -1) (OV V h mm).2 i)) := by
  show ax_G L X SH 7 242 0 [(2, 142), (3, 0), (3, 0), (3, 0), (3, 0), (3, 0), (3, 0), (3, 0)] [] M _
  obtain ⟨P, hP⟩ : ∃ P, P = fun M' => Sb XCP M M' ∧ M' 198 (1 <<< nC V h - 1) = (OV V h mm).1 ∧ ∀ i, i < nC V h → M' 199 i = appl (fun _ => -1) (OV V h mm).2 i := ⟨_, rfl⟩
  rw [← hP]
  have hC := at242
  have hw : wok XCP = true := by decide +kernel
  have hwr : rok XCP := rokB (by decide +kernel)
  have hS : Sb XCP M M := Sb.refl
  have hb := hW.1.2.2.2.2
  have hmb : ∀ a b, 0 ≤ mm a b ∧ mm a b ≤ 9 := fun a b => by rw [hmm]; exact mtk_b
  have hwb := wV_b hW hSW hPW hmb
  have hO : ∀ m, 0 ≤ (OW V h mm m).1 ∧ (OW V h mm m).1 ≤ 2000000 * (nC V h : Int) := Om_b (can := canV mm) (n := nC V h) hwb (nC V h)
  have fb := fullB (nC V h) (by omega)
  obtain ⟨N, hN⟩ : ∃ N, N = 1 <<< nC V h := ⟨_, rfl⟩
  rw [← hN] at fb hP
  have eOV : OW V h mm (N - 1) = OV V h mm := by
    refine OmA hb _ _ _ (Nat.le_refl _) (by omega) (by decide) (fun q _ hq => ?_)
    rw [fb.2.2.1 q hq]
    have : ∀ q, q < 8 → (255 : Nat).testBit q = true := by decide
    exact (this q (by omega)).symm
  have eG : ∀ G c k, gI (canV mm) (wV V h mm) (nC V h) G c (k + 1) (OW V h mm G) = if gp (canV mm) G c k then chs (gI (canV mm) (wV V h mm) (nC V h) G c k (OW V h mm G)) (gB (canV mm) (wV V h mm) (nC V h) G c k) else gI (canV mm) (wV V h mm) (nC V h) G c k (OW V h mm G) := fun _ _ _ => rfl
  have l4 : ∀ (B F : Nat), F ≤ B → F < N → ∀ (r : Nat → Int) (M1 : ax_M) (v3 v4 v5 v6 v7 : ax_V), Sb XCP M M1 → DR V h mm M1 → (∀ H, H < N → M1 198 H = (OW V h mm H).1) → appl r (OW V h mm F).2 = appl (fun _ => -1) (OV V h mm).2 → (∀ i, i < nC V h → F.testBit i = true → r i = -1) → (∀ i, i < nC V h → F.testBit i = false → M1 199 i = r i) → ax_G L X SH 7 242 127 [(2, 142), (0, ((N - 1 : Nat) : Int)), (0, (F : Int)), v3, v4, v5, v6, v7] [] M1 (R0 P) := by
    intro B
    induction B with
    | zero =>
      intro F hFB hFN r M1 v3 v4 v5 v6 v7 hS hD hs hr r1 r2
      have hF0 : F = 0 := by omega
      subst hF0
      refine g3 hC rfl rfl ?_
      refine g12e hC rfl (fun h128 => ?_) (fun h128 => (by omega))
      refine ret0 hC rfl ?_
      rw [hP]
      refine ⟨hS, by rw [hs (N - 1) (by omega), eOV], fun i hi => ?_⟩
      rw [r2 i hi (Nat.zero_testBit i), ← hr]
      rw [show OW V h mm 0 = (0, []) from Om0 _]; rfl
    | succ B ih =>
      intro F hFB hFN r M1 v3 v4 v5 v6 v7 hS hD hs hr r1 r2
      by_cases hF0 : F = 0
      · exact ih F (by omega) hFN r M1 v3 v4 v5 v6 v7 hS hD hs hr r1 r2
      · obtain ⟨c, hf⟩ := fsb_ex F (by omega) (by omega)
        have hcn : c < nC V h := fb.2.2.2 F (by omega) hFN c hf.1 hf.2.1
        obtain ⟨G, hG⟩ : ∃ G, G = clr F c := ⟨_, rfl⟩
        have cl := clr_l c (by omega) F (by omega)
        have cb := clr_t c (by omega)
        have hGF : G < F := by rw [hG]; exact cl.2 hf.2.1
        have hR : OW V h mm F = gI (canV mm) (wV V h mm) (nC V h) G c (nC V h - 1 - c) (OW V h mm G) := by rw [hG]; exact OmF hb (by omega) hcn hf
        have gbit : ∀ i, i < nC V h → G.testBit i = (F.testBit i && !(i == c)) := fun i hi => by rw [hG]; exact (cb i (by omega) F (by omega)).1
        refine g3 hC rfl rfl ?_
        refine g12e hC rfl (fun h128 => (by omega)) (fun h128 => ?_)
        refine g3 hC rfl rfl ?_
        refine c1 hC rfl rfl rfl (Nat.le_of_ble_eq_true rfl) (Nat.le_of_ble_eq_true rfl) rfl (m240 (F := F) (c := c) (by omega) hf) (Nat.le_of_ble_eq_true rfl) (fun y M3 hrr => ?_)
        obtain ⟨rfl, hrr⟩ := hrr; replace hrr := hrr.symm; subst hrr
        refine s3 hC rfl rfl rfl ?_
        refine g3 hC rfl rfl ?_
        refine g0 hC rfl ?_
        refine g3 hC rfl rfl ?_
        refine g6 hC rfl rfl ?_
        refine g0 hC rfl ?_
        refine g6 hC rfl rfl ?_
        refine g6 hC rfl (congrArg some (clrI c (by omega) F (by omega))) ?_
        refine s4 hC rfl rfl rfl ?_
        refine g3 hC rfl rfl ?_
        refine g19 hC rfl sh142 (flt12 rfl) ft12_75 ((hS.fix hw hF).g fx_142_75) ?_
        refine g3 hC rfl rfl ?_
        refine g0 hC rfl ?_
        refine r22s (c) hC rfl rfl sh199 (by omega) rfl hS rfl (fun hS => ?_)
        refine g3 hC rfl rfl ?_
        refine g3 hC rfl rfl ?_
        refine g3 hC rfl rfl ?_
        refine g3 hC rfl rfl ?_
        refine g19 hC rfl sh142 (flt12 rfl) ft12_74 ((hS.fix hw hF).g fx_142_74) ?_
        refine g3 hC rfl rfl ?_
        refine r21 (F) hC rfl rfl sh198 (Or.inl rfl) (by omega) ((ax_up2n (by decide)).trans (hs F hFN)) ?_
        rw [← hG]
        refine c1 hC rfl rfl rfl (Nat.le_of_ble_eq_true rfl) (Nat.le_of_ble_eq_true rfl) (mayR k243 rfl) (m243 (hS.fix hw hF) (hV.sb hS hwr) hW hSW hPW hmb ⟨fun a b x y z => (ax_up2n (by decide)).trans (hD.1 a b x y z), fun a b x y => (ax_up2n (by decide)).trans (hD.2 a b x y)⟩ hcn (by omega) (fun H hH => (ax_up2n (by decide)).trans (hs H (by omega))) hR) (Nat.le_of_ble_eq_true rfl) (fun y M4 hrr => ?_)
        obtain ⟨hr0, hrr⟩ := hrr; have hS := hS.then hr0 rfl
        refine s2 hC rfl rfl rfl ?_
        refine g14 hC rfl ?_
        rcases hrr with ⟨u1, rfl, rfl⟩ | ⟨k, u1, u2, u3, rfl, rfl⟩
        · refine ih G (by omega) (by omega) r _ _ _ _ _ _ hS ⟨fun a b x y z => (ax_up2n (by decide)).trans (hD.1 a b x y z), fun a b x y => (ax_up2n (by decide)).trans (hD.2 a b x y)⟩ (fun H hH => (ax_up2n (by decide)).trans (hs H hH)) (by rw [← u1]; exact hr) (fun i hi hb => r1 i hi ?_) (fun i hi hb => ?_)
          · rw [gbit i hi, Bool.and_eq_true] at hb; exact hb.1
          · by_cases y : i = c
            · rw [y, ax_up_at]; exact (r1 c hcn hf.2.1).symm
            · rw [ax_up_of y]
              refine r2 i hi ?_
              rw [gbit i hi, show (i == c) = false from beq_false_of_ne y] at hb
              simpa using hb
        · obtain ⟨e, he⟩ : ∃ e, e = c + 1 + k := ⟨_, rfl⟩
          rw [← he]
          have hGb : G < 256 := by omega
          have ce := clr_l e (by omega) G hGb
          have ct := clr_t e (by omega)
          have a1 : ∀ q, app1 r (c, e) q = if q = e then (c : Int) else if q = c then (e : Int) else r q := by
            intro q; unfold app1 up; rfl
          have cbit : ∀ i, i < nC V h → (clr G e).testBit i = ((F.testBit i && !(i == c)) && !(i == e)) := fun i hi => by rw [(ct i (by omega) G hGb).1, gbit i hi]
          refine ih (clr G e) (by omega) (by omega) (app1 r (c, e)) _ _ _ _ _ _ (by rw [he]; exact hS) ⟨fun a b x y z => (ax_up2n (by decide)).trans ((ax_up2n (by decide)).trans ((ax_up2n (by decide)).trans (hD.1 a b x y z))), fun a b x y => (ax_up2n (by decide)).trans ((ax_up2n (by decide)).trans ((ax_up2n (by decide)).trans (hD.2 a b x y)))⟩ (fun H hH => (ax_up2n (by decide)).trans ((ax_up2n (by decide)).trans ((ax_up2n (by decide)).trans (hs H hH)))) ?_ (fun i hi hb => ?_) (fun i hi hb => ?_)
          · rw [u3] at hr
            rw [he]; exact hr
          · rw [cbit i hi, Bool.and_eq_true, Bool.and_eq_true] at hb
            have y1 : i ≠ c := fun w => by rw [w] at hb; simp at hb
            have y2 : i ≠ e := fun w => by rw [w] at hb; simp at hb
            rw [a1, if_neg y2, if_neg y1]; exact r1 i hi hb.1.1
          · rw [a1]
            by_cases y2 : i = e
            · rw [if_pos y2, y2, ax_up_at]
            · rw [if_neg y2, ax_up_of y2]
              by_cases y1 : i = c
              · rw [if_pos y1, y1, ax_up_at]
              · rw [if_neg y1, ax_up_of y1, ax_up_of y1]
                refine r2 i hi ?_
                rw [cbit i hi, show (i == c) = false from beq_false_of_ne y1, show (i == e) = false from beq_false_of_ne y2] at hb
                simpa using hb
  have l2 : ∀ (m k : Nat), k + m = N - 1 → ∀ ll M1, (∃ v3 v4 v5 v6 v7, ll = [(2, 142), (0, ((N - 1 : Nat) : Int)), (0, ((k + 1 : Nat) : Int)), v3, v4, v5, v6, v7] ∧ Sb XCP M M1 ∧ DR V h mm M1 ∧ ∀ H, H < k + 1 → M1 198 H = (OW V h mm H).1) → ax_G L X SH 7 242 47 ll [] M1 (R0 P) := by
    refine lp ?_ ?_
    · rintro ll M1 ⟨v3, v4, v5, v6, v7, rfl, hS, hD, hs⟩
      refine g3 hC rfl rfl ?_
      refine g3 hC rfl rfl ?_
      refine g13t hC rfl (fun h49 => ?_) (fun h49 => (by omega))
      refine g3 hC rfl rfl ?_
      refine s2 hC rfl rfl rfl ?_
      refine l4 (N - 1) (N - 1) (Nat.le_refl _) (by omega) (fun _ => -1) M1 _ _ _ _ _ hS hD (fun H hH => hs H (by omega)) (by rw [eOV]) (fun i hi _ => rfl) (fun i hi hb => ?_)
      rw [fb.2.2.1 i hi] at hb; cases hb
    · rintro k hk ll M1 ⟨v3, v4, v5, v6, v7, rfl, hS, hD, hs⟩ hnext
      obtain ⟨F, hFd⟩ : ∃ F, F = k + 1 := ⟨_, rfl⟩
      have hFN : F < N := by omega
      obtain ⟨c, hf⟩ := fsb_ex F (by omega) (by omega)
      have hcn : c < nC V h := fb.2.2.2 F (by omega) hFN c hf.1 hf.2.1
      obtain ⟨G, hG⟩ : ∃ G, G = clr F c := ⟨_, rfl⟩
      have cl := clr_l c (by omega) F (by omega)
      have hGF : G < F := by rw [hG]; exact cl.2 hf.2.1
      have hR : OW V h mm F = gI (canV mm) (wV V h mm) (nC V h) G c (nC V h - 1 - c) (OW V h mm G) := by rw [hG]; exact OmF hb (by omega) hcn hf
      rw [← hFd] at hs ⊢
      have l3 : ∀ (m k2 : Nat), k2 + m = nC V h - 1 - c → ∀ ll M2, (∃ v6 v7, ll = [(2, 142), (0, ((N - 1 : Nat) : Int)), (0, (F : Int)), (0, (c : Int)), (0, (G : Int)), (0, ((c + 1 + k2 : Nat) : Int)), v6, v7] ∧ Sb XCP M M2 ∧ DR V h mm M2 ∧ (∀ H, H < F → M2 198 H = (OW V h mm H).1) ∧ M2 198 F = (gI (canV mm) (wV V h mm) (nC V h) G c k2 (OW V h mm G)).1) → ax_G L X SH 7 242 73 ll [] M2 (R0 P) := by
        refine lp ?_ ?_
        · rintro ll M2 ⟨v6, v7, rfl, hS, hD, hs, hz⟩
          refine g3 hC rfl rfl ?_
          refine g3 hC rfl rfl ?_
          refine c1 hC rfl rfl rfl (Nat.le_of_ble_eq_true rfl) (Nat.le_of_ble_eq_true rfl) (mayR k186 rfl) (m186 (hS.fix hw hF) (hV.sb hS hwr) hW) (Nat.le_of_ble_eq_true rfl) (fun y M3 hrr => ?_)
          obtain ⟨rfl, hrr⟩ := hrr; replace hrr := hrr.symm; subst hrr
          refine g13g hC rfl (fun h76 => ?_) (fun h76 => (by omega))
          refine n2 hC rfl rfl ⟨by omega, by omega⟩ ?_
          refine g14 hC rfl ?_
          refine hnext _ _ ⟨_, _, _, _, _, by rw [show (F : Int) + 1 = ((k + 1 + 1 : Nat) : Int) by omega], hS, hD, fun H hH => ?_⟩
          by_cases y : H = F
          · rw [y, hz, hR]
          · exact hs H (by omega)
        · rintro k2 hk2 ll M2 ⟨v6, v7, rfl, hS, hD, hs, hz⟩ hnx
          obtain ⟨e, he⟩ : ∃ e, e = c + 1 + k2 := ⟨_, rfl⟩
          obtain ⟨A, hA⟩ : ∃ A, A = gI (canV mm) (wV V h mm) (nC V h) G c k2 (OW V h mm G) := ⟨_, rfl⟩
          have eg := eG G c k2
          rw [← hA] at eg hz
          have vd := hD.1 c e hcn (by omega) (by omega)
          have cle := clr_l e (by omega) G (by omega)
          have vs := hs (clr G e) (by omega)
          have hb1 := hwb c e
          have hb2 := hO (clr G e)
          have hcz := @cmp0 (wV V h mm c e + (OW V h mm (clr G e)).1) A.1
          have ee : ((c + 1 + k2 : Nat) : Int) + 1 = ((c + 1 + (k2 + 1) : Nat) : Int) := by omega
          have skp : gp (canV mm) G c k2 = false → ∀ v6 v7, ax_G L X SH 7 242 73 [(2, 142), (0, ((N - 1 : Nat) : Int)), (0, (F : Int)), (0, (c : Int)), (0, (G : Int)), (0, ((c + 1 + k2 : Nat) : Int) + 1), v6, v7] [] M2 (R0 P) := fun hg v6 v7 => hnx _ _ ⟨_, _, by rw [ee], hS, hD, hs, by rw [eg, hg]; exact hz⟩
          have gpe : gp (canV mm) G c k2 = (G.testBit e && canV mm c e) := by rw [he]; rfl
          have gbe : (gB (canV mm) (wV V h mm) (nC V h) G c k2).1 = wV V h mm c e + (OW V h mm (clr G e)).1 := by rw [he]; rfl
          rw [← he] at skp ee ⊢
          by_cases b1 : G.testBit e = true
          · by_cases b2 : canV mm c e = true
            · have hg : gp (canV mm) G c k2 = true := by rw [gpe, b1, b2]; rfl
              rw [hg, if_pos rfl] at eg
              refine g3 hC rfl rfl ?_
              refine g3 hC rfl rfl ?_
              refine c1 hC rfl rfl rfl (Nat.le_of_ble_eq_true rfl) (Nat.le_of_ble_eq_true rfl) (mayR k186 rfl) (m186 (hS.fix hw hF) (hV.sb hS hwr) hW) (Nat.le_of_ble_eq_true rfl) (fun y M3 hrr => ?_)
              obtain ⟨rfl, hrr⟩ := hrr; replace hrr := hrr.symm; subst hrr
              refine g13g hC rfl (fun h76 => (by omega)) (fun h76 => ?_)
              refine g3 hC rfl rfl ?_
              refine g3 hC rfl rfl ?_
              refine g6 hC rfl rfl ?_
              refine g0 hC rfl ?_
              refine g6 hC rfl (congrArg some ((bitI e (by omega) G (by omega)).trans (if_pos b1))) ?_
              refine g12e hC rfl (fun h82 => (by omega)) (fun h82 => ?_)
              refine g3 hC rfl rfl ?_
              refine g3 hC rfl rfl ?_
              refine g3 hC rfl rfl ?_
              refine c1 hC rfl rfl rfl (Nat.le_of_ble_eq_true rfl) (Nat.le_of_ble_eq_true rfl) (mayR k241 rfl) (m241 (hS.fix hw hF) hD.2 (a := c) (b := e) (by omega) (by omega)) (Nat.le_of_ble_eq_true rfl) (fun y M4 hrr => ?_)
              obtain ⟨rfl, hrr⟩ := hrr; replace hrr := hrr.symm; subst hrr; rw [if_pos b2]
              refine g12n hC rfl (fun h87 => ?_) (fun h87 => (by omega))
              refine g3 hC rfl rfl ?_
              refine g19 hC rfl sh142 (flt12 rfl) ft12_73 ((hS.fix hw hF).g fx_142_73) ?_
              refine g0 hC rfl ?_
              refine g3 hC rfl rfl ?_
              refine g6m hC rfl ⟨by omega, by omega⟩ ?_
              refine g3 hC rfl rfl ?_
              refine g6a hC rfl ⟨by omega, by omega⟩ ?_
              refine r21 (8 * c + e) hC rfl (by omega) sh197 (Or.inl rfl) (by omega) vd ?_
              refine g3 hC rfl rfl ?_
              refine g19 hC rfl sh142 (flt12 rfl) ft12_74 ((hS.fix hw hF).g fx_142_74) ?_
              refine g3 hC rfl rfl ?_
              refine g0 hC rfl ?_
              refine g3 hC rfl rfl ?_
              refine g6 hC rfl rfl ?_
              refine g0 hC rfl ?_
              refine g6 hC rfl rfl ?_
              refine g6 hC rfl (congrArg some (clrI e (by omega) G (by omega))) ?_
              refine r21 (clr G e) hC rfl rfl sh198 (Or.inl rfl) (by omega) vs ?_
              refine g7a hC rfl ⟨by omega, by omega⟩ ?_
              refine sl6 hC rfl rfl ?_
              refine g3 hC rfl rfl ?_
              refine g3 hC rfl rfl ?_
              refine g19 hC rfl sh142 (flt12 rfl) ft12_74 ((hS.fix hw hF).g fx_142_74) ?_
              refine g3 hC rfl rfl ?_
              refine r21 (F) hC rfl rfl sh198 (Or.inl rfl) (by omega) hz ?_
              refine g11 hC rfl ?_
              refine g12s hC rfl (fun h115 => ?_) (fun h115 => ?_)
              ·
                refine n5 hC rfl rfl ⟨by omega, by omega⟩ ?_
                refine g14 hC rfl ?_
                refine hnx _ _ ⟨_, _, by rw [ee], hS, hD, hs, ?_⟩
                rw [eg, show chs A (gB (canV mm) (wV V h mm) (nC V h) G c k2) = A from if_neg (by rw [gbe]; omega)]; exact hz
              ·
                refine g3 hC rfl rfl ?_
                refine g19 hC rfl sh142 (flt12 rfl) ft12_74 ((hS.fix hw hF).g fx_142_74) ?_
                refine g3 hC rfl rfl ?_
                refine g3 hC rfl rfl ?_
                refine r22s (F) hC rfl rfl sh198 (by omega) rfl hS rfl (fun hS => ?_)
                refine n5 hC rfl rfl ⟨by omega, by omega⟩ ?_
                refine g14 hC rfl ?_
                refine hnx _ _ ⟨_, _, by rw [ee], hS, ⟨fun a b x y z => (ax_up2n (by decide)).trans (hD.1 a b x y z), fun a b x y => (ax_up2n (by decide)).trans (hD.2 a b x y)⟩, fun H hH => ?_, ?_⟩
                · rw [ax_up_of (by omega)]; exact hs H hH
                · rw [ax_up_at, eg, show chs A (gB (canV mm) (wV V h mm) (nC V h) G c k2) = gB (canV mm) (wV V h mm) (nC V h) G c k2 from if_pos (by rw [gbe]; omega), gbe]
            · skip
              refine g3 hC rfl rfl ?_
              refine g3 hC rfl rfl ?_
              refine c1 hC rfl rfl rfl (Nat.le_of_ble_eq_true rfl) (Nat.le_of_ble_eq_true rfl) (mayR k186 rfl) (m186 (hS.fix hw hF) (hV.sb hS hwr) hW) (Nat.le_of_ble_eq_true rfl) (fun y M3 hrr => ?_)
              obtain ⟨rfl, hrr⟩ := hrr; replace hrr := hrr.symm; subst hrr
              refine g13g hC rfl (fun h76 => (by omega)) (fun h76 => ?_)
              refine g3 hC rfl rfl ?_
              refine g3 hC rfl rfl ?_
              refine g6 hC rfl rfl ?_
              refine g0 hC rfl ?_
              refine g6 hC rfl (congrArg some ((bitI e (by omega) G (by omega)).trans (if_pos b1))) ?_
              refine g12e hC rfl (fun h82 => (by omega)) (fun h82 => ?_)
              refine g3 hC rfl rfl ?_
              refine g3 hC rfl rfl ?_
              refine g3 hC rfl rfl ?_
              refine c1 hC rfl rfl rfl (Nat.le_of_ble_eq_true rfl) (Nat.le_of_ble_eq_true rfl) (mayR k241 rfl) (m241 (hS.fix hw hF) hD.2 (a := c) (b := e) (by omega) (by omega)) (Nat.le_of_ble_eq_true rfl) (fun y M4 hrr => ?_)
              obtain ⟨rfl, hrr⟩ := hrr; replace hrr := hrr.symm; subst hrr; rw [if_neg b2]
              refine g12n hC rfl (fun h87 => (by omega)) (fun h87 => ?_)
              refine g14 hC rfl ?_
              refine n5 hC rfl rfl ⟨by omega, by omega⟩ ?_
              refine g14 hC rfl ?_
              exact skp (by rw [gpe, b1, Bool.eq_false_iff.mpr b2]; rfl) _ _
          · skip
            refine g3 hC rfl rfl ?_
            refine g3 hC rfl rfl ?_
            refine c1 hC rfl rfl rfl (Nat.le_of_ble_eq_true rfl) (Nat.le_of_ble_eq_true rfl) (mayR k186 rfl) (m186 (hS.fix hw hF) (hV.sb hS hwr) hW) (Nat.le_of_ble_eq_true rfl) (fun y M3 hrr => ?_)
            obtain ⟨rfl, hrr⟩ := hrr; replace hrr := hrr.symm; subst hrr
            refine g13g hC rfl (fun h76 => (by omega)) (fun h76 => ?_)
            refine g3 hC rfl rfl ?_
            refine g3 hC rfl rfl ?_
            refine g6 hC rfl rfl ?_
            refine g0 hC rfl ?_
            refine g6 hC rfl (congrArg some ((bitI e (by omega) G (by omega)).trans (if_neg b1))) ?_
            refine g12e hC rfl (fun h82 => ?_) (fun h82 => (by omega))
            refine n5 hC rfl rfl ⟨by omega, by omega⟩ ?_
            refine g14 hC rfl ?_
            exact skp (by rw [gpe, Bool.eq_false_iff.mpr b1]; rfl) _ _
      refine g3 hC rfl rfl ?_
      refine g3 hC rfl rfl ?_
      refine g13t hC rfl (fun h49 => (by omega)) (fun h49 => ?_)
      refine g3 hC rfl rfl ?_
      refine c1 hC rfl rfl rfl (Nat.le_of_ble_eq_true rfl) (Nat.le_of_ble_eq_true rfl) rfl (m240 (F := F) (c := c) (by omega) hf) (Nat.le_of_ble_eq_true rfl) (fun y M3 hrr => ?_)
      obtain ⟨rfl, hrr⟩ := hrr; replace hrr := hrr.symm; subst hrr
      refine s3 hC rfl rfl rfl ?_
      refine g3 hC rfl rfl ?_
      refine g0 hC rfl ?_
      refine g3 hC rfl rfl ?_
      refine g6 hC rfl rfl ?_
      refine g0 hC rfl ?_
      refine g6 hC rfl rfl ?_
      refine g6 hC rfl (congrArg some ((clrI c (by omega) F (by omega)).trans (show ((clr F c : Nat) : Int) = (G : Int) by rw [hG]))) ?_
      refine s4 hC rfl rfl rfl ?_
      refine g3 hC rfl rfl ?_
      refine g19 hC rfl sh142 (flt12 rfl) ft12_74 ((hS.fix hw hF).g fx_142_74) ?_
      refine g3 hC rfl rfl ?_
      refine g3 hC rfl rfl ?_
      refine g19 hC rfl sh142 (flt12 rfl) ft12_74 ((hS.fix hw hF).g fx_142_74) ?_
      refine g3 hC rfl rfl ?_
      refine r21 (G) hC rfl rfl sh198 (Or.inl rfl) (by omega) (hs G hGF) ?_
      refine r22s (F) hC rfl rfl sh198 (by omega) rfl hS rfl (fun hS => ?_)
      refine g3 hC rfl rfl ?_
      refine g0 hC rfl ?_
      refine g6a hC rfl ⟨by omega, by omega⟩ ?_
      refine s5 hC rfl rfl rfl ?_
      refine l3 (nC V h - 1 - c) 0 (Nat.zero_add _) _ _ ⟨_, _, by rw [show (c : Int) + 1 = ((c + 1 + 0 : Nat) : Int) by omega], hS, ⟨fun a b x y z => (ax_up2n (by decide)).trans (hD.1 a b x y z), fun a b x y => (ax_up2n (by decide)).trans (hD.2 a b x y)⟩, fun H hH => ?_, ?_⟩
      · rw [ax_up_of (by omega)]; exact hs H hH
      · rw [ax_up_at]; rfl
  have l1 : ∀ (m a : Nat), a + m = nC V h → ∀ ll M1, (∃ v2, ll = [(2, 142), (0, (a : Int)), v2, (3, 0), (3, 0), (3, 0), (3, 0), (3, 0)] ∧ Sb XCP M M1 ∧ (∀ x y, x < a → y < nC V h → x ≠ y → M1 197 (8 * x + y) = wV V h mm x y) ∧ ∀ a b, a < 8 → b < 8 → M1 193 (8 * a + b) = mm a b) → ax_G L X SH 7 242 4 ll [] M1 (R0 P) := by
    refine lp ?_ ?_
    · rintro ll M1 ⟨v2, rfl, hS, e1, e2⟩
      refine g3 hC rfl rfl ?_
      refine g3 hC rfl rfl ?_
      refine c1 hC rfl rfl rfl (Nat.le_of_ble_eq_true rfl) (Nat.le_of_ble_eq_true rfl) (mayR k186 rfl) (m186 (hS.fix hw hF) (hV.sb hS hwr) hW) (Nat.le_of_ble_eq_true rfl) (fun y M3 hrr => ?_)
      obtain ⟨rfl, hrr⟩ := hrr; replace hrr := hrr.symm; subst hrr
      refine g13g hC rfl (fun h7 => ?_) (fun h7 => (by omega))
      refine g0 hC rfl ?_
      refine g3 hC rfl rfl ?_
      refine c1 hC rfl rfl rfl (Nat.le_of_ble_eq_true rfl) (Nat.le_of_ble_eq_true rfl) (mayR k186 rfl) (m186 (hS.fix hw hF) (hV.sb hS hwr) hW) (Nat.le_of_ble_eq_true rfl) (fun y M3 hrr => ?_)
      obtain ⟨rfl, hrr⟩ := hrr; replace hrr := hrr.symm; subst hrr
      refine g6 hC rfl (congrArg some ((shlN (a := 1) (k := nC V h) (by omega) (by omega)).trans (show ((1 <<< nC V h : Nat) : Int) = (N : Int) by rw [hN]))) ?_
      refine g0 hC rfl ?_
      refine g6s hC rfl ⟨by omega, by omega⟩ ?_
      rw [show (N : Int) - 1 = ((N - 1 : Nat) : Int) by omega]
      refine s1 hC rfl rfl rfl ?_
      refine g3 hC rfl rfl ?_
      refine g19 hC rfl sh142 (flt12 rfl) ft12_74 ((hS.fix hw hF).g fx_142_74) ?_
      refine g0 hC rfl ?_
      refine g1 hC rfl ?_
      refine r22s (0) hC rfl rfl sh198 (by omega) rfl hS rfl (fun hS => ?_)
      refine g0 hC rfl ?_
      refine s2 hC rfl rfl rfl ?_
      refine l2 (N - 1) 0 (Nat.zero_add _) _ _ ⟨_, _, _, _, _, rfl, hS, ⟨fun a b x y z => (ax_up2n (by decide)).trans (e1 a b x y z), fun a b x y => (ax_up2n (by decide)).trans (e2 a b x y)⟩, fun H hH => ?_⟩
      have : H = 0 := by omega
      rw [this, ax_up_at, show OW V h mm 0 = (0, []) from Om0 _]
    · rintro a ha ll M1 ⟨v2, rfl, hS, e1, e2⟩ hnext
      have la : ∀ (m b : Nat), b + m = nC V h → ∀ ll M2, (ll = [(2, 142), (0, (a : Int)), (0, (b : Int)), (3, 0), (3, 0), (3, 0), (3, 0), (3, 0)] ∧ Sb XCP M M2 ∧ (∀ x y, x < a → y < nC V h → x ≠ y → M2 197 (8 * x + y) = wV V h mm x y) ∧ (∀ y, y < b → a ≠ y → M2 197 (8 * a + y) = wV V h mm a y) ∧ ∀ a b, a < 8 → b < 8 → M2 193 (8 * a + b) = mm a b) → ax_G L X SH 7 242 10 ll [] M2 (R0 P) := by
        refine lp ?_ ?_
        · rintro ll M2 ⟨rfl, hS, e1, e3, e2⟩
          refine g3 hC rfl rfl ?_
          refine g3 hC rfl rfl ?_
          refine c1 hC rfl rfl rfl (Nat.le_of_ble_eq_true rfl) (Nat.le_of_ble_eq_true rfl) (mayR k186 rfl) (m186 (hS.fix hw hF) (hV.sb hS hwr) hW) (Nat.le_of_ble_eq_true rfl) (fun y M3 hrr => ?_)
          obtain ⟨rfl, hrr⟩ := hrr; replace hrr := hrr.symm; subst hrr
          refine g13g hC rfl (fun h13 => ?_) (fun h13 => (by omega))
          refine n1 hC rfl rfl ⟨by omega, by omega⟩ ?_
          refine g14 hC rfl ?_
          refine hnext _ _ ⟨_, rfl, hS, fun x y h1 h2 h3 => ?_, e2⟩
          by_cases z : x = a
          · rw [z]; exact e3 y h2 (by omega)
          · exact e1 x y (by omega) h2 h3
        · rintro b hbk ll M2 ⟨rfl, hS, e1, e3, e2⟩ hnx
          by_cases z : a = b
          · skip
            refine g3 hC rfl rfl ?_
            refine g3 hC rfl rfl ?_
            refine c1 hC rfl rfl rfl (Nat.le_of_ble_eq_true rfl) (Nat.le_of_ble_eq_true rfl) (mayR k186 rfl) (m186 (hS.fix hw hF) (hV.sb hS hwr) hW) (Nat.le_of_ble_eq_true rfl) (fun y M3 hrr => ?_)
            obtain ⟨rfl, hrr⟩ := hrr; replace hrr := hrr.symm; subst hrr
            refine g13g hC rfl (fun h13 => (by omega)) (fun h13 => ?_)
            refine g3 hC rfl rfl ?_
            refine g3 hC rfl rfl ?_
            refine g13e hC rfl (fun h16 => ?_) (fun h16 => (by omega))
            refine n2 hC rfl rfl ⟨by omega, by omega⟩ ?_
            refine g14 hC rfl ?_
            refine hnx _ _ ⟨rfl, hS, e1, fun y h1 h2 => e3 y (by omega) h2, e2⟩
          · have ew : wV V h mm a b = dvl V h a b (mm a b) + dvl V h b a (mm b a) := if_pos ⟨ha, hbk⟩
            refine g3 hC rfl rfl ?_
            refine g3 hC rfl rfl ?_
            refine c1 hC rfl rfl rfl (Nat.le_of_ble_eq_true rfl) (Nat.le_of_ble_eq_true rfl) (mayR k186 rfl) (m186 (hS.fix hw hF) (hV.sb hS hwr) hW) (Nat.le_of_ble_eq_true rfl) (fun y M3 hrr => ?_)
            obtain ⟨rfl, hrr⟩ := hrr; replace hrr := hrr.symm; subst hrr
            refine g13g hC rfl (fun h13 => (by omega)) (fun h13 => ?_)
            refine g3 hC rfl rfl ?_
            refine g3 hC rfl rfl ?_
            refine g13e hC rfl (fun h16 => (by omega)) (fun h16 => ?_)
            refine g3 hC rfl rfl ?_
            refine g19 hC rfl sh142 (flt12 rfl) ft12_73 ((hS.fix hw hF).g fx_142_73) ?_
            refine g0 hC rfl ?_
            refine g3 hC rfl rfl ?_
            refine g6m hC rfl ⟨by omega, by omega⟩ ?_
            refine g3 hC rfl rfl ?_
            refine g6a hC rfl ⟨by omega, by omega⟩ ?_
            refine g3 hC rfl rfl ?_
            refine g3 hC rfl rfl ?_
            refine g3 hC rfl rfl ?_
            refine c1 hC rfl rfl rfl (Nat.le_of_ble_eq_true rfl) (Nat.le_of_ble_eq_true rfl) (mayR k238 rfl) (m238 (hS.fix hw hF) (hV.sb hS hwr) hW hSW hPW (mm := mm) (fun a b x y => ⟨e2 a b x y, hmb a b⟩) ha hbk) (Nat.le_of_ble_eq_true rfl) (fun y M4 hrr => ?_)
            obtain ⟨rfl, hr0⟩ := hrr; have hS := hS.then hr0 rfl
            refine r22s (8 * a + b) hC rfl (by omega) sh197 (by omega) rfl hS rfl (fun hS => ?_)
            refine n2 hC rfl rfl ⟨by omega, by omega⟩ ?_
            refine g14 hC rfl ?_
            refine hnx _ _ ⟨rfl, hS, fun x y h1 h2 h3 => ?_, fun y h1 h2 => ?_, fun x y h1 h2 => ?_⟩
            · rw [ax_up_of (by omega), hr0 197 _ rfl]; exact e1 x y h1 h2 h3
            · by_cases u : y = b
              · rw [u, ax_up_at, ew]
              · rw [ax_up_of (by omega), hr0 197 _ rfl]; exact e3 y (by omega) h2
            · rw [ax_up2n (by decide), hr0 193 _ rfl]; exact e2 x y h1 h2
      refine g3 hC rfl rfl ?_
      refine g3 hC rfl rfl ?_
      refine c1 hC rfl rfl rfl (Nat.le_of_ble_eq_true rfl) (Nat.le_of_ble_eq_true rfl) (mayR k186 rfl) (m186 (hS.fix hw hF) (hV.sb hS hwr) hW) (Nat.le_of_ble_eq_true rfl) (fun y M3 hrr => ?_)
      obtain ⟨rfl, hrr⟩ := hrr; replace hrr := hrr.symm; subst hrr
      refine g13g hC rfl (fun h7 => (by omega)) (fun h7 => ?_)
      refine g0 hC rfl ?_
      refine s2 hC rfl rfl rfl ?_
      exact la (nC V h) 0 (Nat.zero_add _) _ _ ⟨rfl, hS, e1, fun y hy => absurd hy (Nat.not_lt_zero y), e2⟩
  refine g3 hC rfl rfl ?_
  refine c0 hC rfl rfl rfl (Nat.le_of_ble_eq_true rfl) (Nat.le_of_ble_eq_true rfl) (mayR k208 rfl) (m208 hF hV hW hSW hPW hsm hwd) (Nat.le_of_ble_eq_true rfl) (fun M2 hrr => ?_)
  obtain ⟨hr0, hro⟩ := hrr; have hS := hS.then hr0 rfl
  refine g0 hC rfl ?_
  refine s1 hC rfl rfl rfl ?_
  exact l1 (nC V h) 0 (Nat.zero_add _) _ _ ⟨_, rfl, hS, fun x y hx => absurd hx (Nat.not_lt_zero x), fun a b ha hb => by rw [hmm]; exact hro.2.2.2 a b ha hb⟩
end CPS
