section CPR
variable {L : Nat} {X : Nat → Int} {M V : ax_M} {h n : Nat}
abbrev OW (V : ax_M) (h : Nat) (mm : Nat → Nat → Int) (F : Nat) : OT := Om (canV mm) (wV V h mm) (nC V h) (nC V h) F
def DR (V : ax_M) (h : Nat) (mm : Nat → Nat → Int) (M : ax_M) : Prop := (∀ a b, a < nC V h → b < nC V h → a ≠ b → M 197 (8 * a + b) = wV V h mm a b) ∧ ∀ a b, a < 8 → b < 8 → M 193 (8 * a + b) = mm a b
theorem m243 (hF : Fix M) (hV : RV V h M) (hW : HW V h) (hSW : SW V) (hPW : PW V h) {mm : Nat → Nat → Int} (hmb : ∀ a b, 0 ≤ mm a b ∧ mm a b ≤ 9) (hD : DR V h mm M) {c G : Nat} (hc : c < nC V h) (hG : G < 256) (hs : ∀ H, H ≤ G → M 198 H = (OW V h mm H).1) {R : OT} (hR : R = gI (canV mm) (wV V h mm) (nC V h) G c (nC V h - 1 - c) (OW V h mm G)) : ax_Ev L X SH 1 243 [(2, 142), (0, (c : Int)), (0, (G : Int)), (1, R.1)] M (R1 0 (fun x M' => Sb X243 M M' ∧ ((R = OW V h mm G ∧ x = (G : Int) ∧ M' = M) ∨ ∃ k, k < nC V h - 1 - c ∧ gp (canV mm) G c k = true ∧ R = gB (canV mm) (wV V h mm) (nC V h) G c k ∧ x = ((clr G (c + 1 + k) : Nat) : Int) ∧ M' = ax_up (ax_up M 199 c ((c + 1 + k : Nat) : Int)) 199 (c + 1 + k) (c : Int)))) := by
  show ax_G L X SH 1 243 0 [(2, 142), (0, (c : Int)), (0, (G : Int)), (1, R.1), (3, 0), (3, 0)] [] M _
  obtain ⟨P, hP⟩ : ∃ P, P = fun (x : Int) M' => Sb X243 M M' ∧ ((R = OW V h mm G ∧ x = (G : Int) ∧ M' = M) ∨ ∃ k, k < nC V h - 1 - c ∧ gp (canV mm) G c k = true ∧ R = gB (canV mm) (wV V h mm) (nC V h) G c k ∧ x = ((clr G (c + 1 + k) : Nat) : Int) ∧ M' = ax_up (ax_up M 199 c ((c + 1 + k : Nat) : Int)) 199 (c + 1 + k) (c : Int)) := ⟨_, rfl⟩
  rw [← hP]
  have hC := at243
  have hw : wok X243 = true := by decide +kernel
  have hwr : rok X243 := rokB (by decide +kernel)
  have hS : Sb X243 M M := Sb.refl
  have hb := hW.1.2.2.2.2
  have hwb := wV_b hW hSW hPW hmb
  have hO : ∀ m, 0 ≤ (OW V h mm m).1 ∧ (OW V h mm m).1 ≤ 2000000 * (nC V h : Int) := Om_b (can := canV mm) (n := nC V h) hwb (nC V h)
  have fs := fsE (p := gp (canV mm) G c) (B := gB (canV mm) (wV V h mm) (nC V h) G c) (A0 := OW V h mm G) (nC V h - 1 - c)
  rw [show it (fun k A => if gp (canV mm) G c k then chs A (gB (canV mm) (wV V h mm) (nC V h) G c k) else A) (nC V h - 1 - c) (OW V h mm G) = R from hR.symm] at fs
  have hc0 := @cmp0 (OW V h mm G).1 R.1
  have s0G := hs G (Nat.le_refl G)
  rcases fs.2.2 with y | ⟨y, kk, k1, k2, k3, k4⟩
  · skip
    refine g3 hC rfl rfl ?_
    refine g19 hC rfl sh142 (flt12 rfl) ft12_74 ((hS.fix hw hF).g fx_142_74) ?_
    refine g3 hC rfl rfl ?_
    refine r21 (G) hC rfl rfl sh198 (Or.inl rfl) (by omega) s0G ?_
    refine g3 hC rfl rfl ?_
    refine g11 hC rfl ?_
    refine g12n hC rfl (fun h6 => (by have := congrArg Prod.fst y; omega)) (fun h6 => ?_)
    refine g3 hC rfl rfl ?_
    refine ret1 hC rfl rfl ?_
    rw [hP]
    exact ⟨hS, Or.inl ⟨y, rfl, rfl⟩⟩
  · have l1 : ∀ (m k : Nat), k + m = kk → ∀ ll M1, (ll = [(2, 142), (0, (c : Int)), (0, (G : Int)), (1, R.1), (3, 0), (0, ((c + 1 + k : Nat) : Int))] ∧ M1 = M) → ax_G L X SH 1 243 13 ll [] M1 (R1 0 P) := by
      refine lp ?_ ?_
      · rintro ll M1 ⟨rfl, rfl⟩
        obtain ⟨e, he⟩ : ∃ e, e = c + 1 + kk := ⟨_, rfl⟩
        have k2' := k2
        unfold gp at k2'
        rw [← he, Bool.and_eq_true] at k2'
        have vd := hD.1 c e hc (by omega) (by omega)
        have cl := clr_l e (by omega) G hG
        have vs := hs (clr G e) cl.1
        have k3' : R.1 = wV V h mm c e + (OW V h mm (clr G e)).1 := by rw [k3, he]; rfl
        have hb1 := hwb c e
        have hb2 := hO (clr G e)
        have hcz := @cmp0 (wV V h mm c e + (OW V h mm (clr G e)).1) R.1
        rw [← he]
        refine g3 hC rfl rfl ?_
        refine g3 hC rfl rfl ?_
        refine c1 hC rfl rfl rfl (Nat.le_of_ble_eq_true rfl) (Nat.le_of_ble_eq_true rfl) (mayR k186 rfl) (m186 (hS.fix hw hF) (hV.sb hS hwr) hW) (Nat.le_of_ble_eq_true rfl) (fun y M3 hrr => ?_)
        obtain ⟨rfl, hrr⟩ := hrr; replace hrr := hrr.symm; subst hrr
        refine g13g hC rfl (fun h16 => (by omega)) (fun h16 => ?_)
        refine g3 hC rfl rfl ?_
        refine g3 hC rfl rfl ?_
        refine g6 hC rfl rfl ?_
        refine g0 hC rfl ?_
        refine g6 hC rfl (congrArg some ((bitI e (by omega) G hG).trans (if_pos k2'.1))) ?_
        refine g12e hC rfl (fun h22 => (by omega)) (fun h22 => ?_)
        refine g3 hC rfl rfl ?_
        refine g3 hC rfl rfl ?_
        refine g3 hC rfl rfl ?_
        refine c1 hC rfl rfl rfl (Nat.le_of_ble_eq_true rfl) (Nat.le_of_ble_eq_true rfl) (mayR k241 rfl) (m241 (hS.fix hw hF) hD.2 (a := c) (b := e) (by omega) (by omega)) (Nat.le_of_ble_eq_true rfl) (fun y M4 hrr => ?_)
        obtain ⟨rfl, hrr⟩ := hrr; replace hrr := hrr.symm; subst hrr; rw [if_pos k2'.2]
        refine g12e hC rfl (fun h27 => (by omega)) (fun h27 => ?_)
        refine g3 hC rfl rfl ?_
        refine g19 hC rfl sh142 (flt12 rfl) ft12_73 ((hS.fix hw hF).g fx_142_73) ?_
        refine g0 hC rfl ?_
        refine g3 hC rfl rfl ?_
        refine g6m hC rfl ⟨by omega, by omega⟩ ?_
        refine g3 hC rfl rfl ?_
        refine g6a hC rfl ⟨by omega, by omega⟩ ?_
        refine r21 (8 * c + e) hC rfl (by omega) sh197 (Or.inl rfl) (by omega) vd ?_
        refine g3 hC rfl rfl ?_
        refine g19 hC rfl sh142 (flt12 rfl) ft12_74 ((hS.fix hw hF).g fx_142_74) ?_
        refine g3 hC rfl rfl ?_
        refine g0 hC rfl ?_
        refine g3 hC rfl rfl ?_
        refine g6 hC rfl rfl ?_
        refine g0 hC rfl ?_
        refine g6 hC rfl rfl ?_
        refine g6 hC rfl (congrArg some (clrI e (by omega) G hG)) ?_
        refine r21 (clr G e) hC rfl rfl sh198 (Or.inl rfl) (by omega) vs ?_
        refine g7a hC rfl ⟨by omega, by omega⟩ ?_
        refine g3 hC rfl rfl ?_
        refine g11 hC rfl ?_
        refine g12e hC rfl (fun h49 => ?_) (fun h49 => (by omega))
        refine g3 hC rfl rfl ?_
        refine g19 hC rfl sh142 (flt12 rfl) ft12_75 ((hS.fix hw hF).g fx_142_75) ?_
        refine g3 hC rfl rfl ?_
        refine g3 hC rfl rfl ?_
        refine r22s (c) hC rfl rfl sh199 (by omega) rfl hS rfl (fun hS => ?_)
        refine g3 hC rfl rfl ?_
        refine g19 hC rfl sh142 (flt12 rfl) ft12_75 ((hS.fix hw hF).g fx_142_75) ?_
        refine g3 hC rfl rfl ?_
        refine g3 hC rfl rfl ?_
        refine r22s (e) hC rfl rfl sh199 (by omega) rfl hS rfl (fun hS => ?_)
        refine g3 hC rfl rfl ?_
        refine g0 hC rfl ?_
        refine g3 hC rfl rfl ?_
        refine g6 hC rfl rfl ?_
        refine g0 hC rfl ?_
        refine g6 hC rfl rfl ?_
        refine g6 hC rfl (congrArg some (clrI e (by omega) G hG)) ?_
        refine ret1 hC rfl rfl ?_
        rw [hP]
        exact ⟨hS, Or.inr ⟨kk, k1, k2, k3, by rw [he], by rw [he]⟩⟩
      · rintro k hk ll M1 ⟨rfl, rfl⟩ hnext
        obtain ⟨e, he⟩ : ∃ e, e = c + 1 + k := ⟨_, rfl⟩
        have vd := hD.1 c e hc (by omega) (by omega)
        have cl := clr_l e (by omega) G hG
        have vs := hs (clr G e) cl.1
        have hb1 := hwb c e
        have hb2 := hO (clr G e)
        have hcz := @cmp0 (wV V h mm c e + (OW V h mm (clr G e)).1) R.1
        have hnx : ax_G L X SH 1 243 13 [(2, 142), (0, (c : Int)), (0, (G : Int)), (1, R.1), (3, 0), (0, ((e : Nat) : Int) + 1)] [] M1 (R1 0 P) := hnext _ _ ⟨by rw [show (e : Int) + 1 = ((c + 1 + (k + 1) : Nat) : Int) by omega], rfl⟩
        have kz : (G.testBit e && canV mm c e) = true → wV V h mm c e + (OW V h mm (clr G e)).1 < R.1 := by
          have := k4 k hk
          unfold gp gB at this
          rw [← he] at this
          exact this
        rw [← he]
        by_cases b1 : G.testBit e = true
        · by_cases b2 : canV mm c e = true
          · have kz' := kz (by rw [b1, b2]; rfl)
            refine g3 hC rfl rfl ?_
            refine g3 hC rfl rfl ?_
            refine c1 hC rfl rfl rfl (Nat.le_of_ble_eq_true rfl) (Nat.le_of_ble_eq_true rfl) (mayR k186 rfl) (m186 (hS.fix hw hF) (hV.sb hS hwr) hW) (Nat.le_of_ble_eq_true rfl) (fun y M3 hrr => ?_)
            obtain ⟨rfl, hrr⟩ := hrr; replace hrr := hrr.symm; subst hrr
            refine g13g hC rfl (fun h16 => (by omega)) (fun h16 => ?_)
            refine g3 hC rfl rfl ?_
            refine g3 hC rfl rfl ?_
            refine g6 hC rfl rfl ?_
            refine g0 hC rfl ?_
            refine g6 hC rfl (congrArg some ((bitI e (by omega) G hG).trans (if_pos b1))) ?_
            refine g12e hC rfl (fun h22 => (by omega)) (fun h22 => ?_)
            refine g3 hC rfl rfl ?_
            refine g3 hC rfl rfl ?_
            refine g3 hC rfl rfl ?_
            refine c1 hC rfl rfl rfl (Nat.le_of_ble_eq_true rfl) (Nat.le_of_ble_eq_true rfl) (mayR k241 rfl) (m241 (hS.fix hw hF) hD.2 (a := c) (b := e) (by omega) (by omega)) (Nat.le_of_ble_eq_true rfl) (fun y M4 hrr => ?_)
            obtain ⟨rfl, hrr⟩ := hrr; replace hrr := hrr.symm; subst hrr; rw [if_pos b2]
            refine g12e hC rfl (fun h27 => (by omega)) (fun h27 => ?_)
            refine g3 hC rfl rfl ?_
            refine g19 hC rfl sh142 (flt12 rfl) ft12_73 ((hS.fix hw hF).g fx_142_73) ?_
            refine g0 hC rfl ?_
            refine g3 hC rfl rfl ?_
            refine g6m hC rfl ⟨by omega, by omega⟩ ?_
            refine g3 hC rfl rfl ?_
            refine g6a hC rfl ⟨by omega, by omega⟩ ?_
            refine r21 (8 * c + e) hC rfl (by omega) sh197 (Or.inl rfl) (by omega) vd ?_
            refine g3 hC rfl rfl ?_
            refine g19 hC rfl sh142 (flt12 rfl) ft12_74 ((hS.fix hw hF).g fx_142_74) ?_
            refine g3 hC rfl rfl ?_
            refine g0 hC rfl ?_
            refine g3 hC rfl rfl ?_
            refine g6 hC rfl rfl ?_
            refine g0 hC rfl ?_
            refine g6 hC rfl rfl ?_
            refine g6 hC rfl (congrArg some (clrI e (by omega) G hG)) ?_
            refine r21 (clr G e) hC rfl rfl sh198 (Or.inl rfl) (by omega) vs ?_
            refine g7a hC rfl ⟨by omega, by omega⟩ ?_
            refine g3 hC rfl rfl ?_
            refine g11 hC rfl ?_
            refine g12e hC rfl (fun h49 => (by omega)) (fun h49 => ?_)
            refine g14 hC rfl ?_
            refine n5 hC rfl rfl ⟨by omega, by omega⟩ ?_
            refine g14 hC rfl ?_
            exact hnx
          · skip
            refine g3 hC rfl rfl ?_
            refine g3 hC rfl rfl ?_
            refine c1 hC rfl rfl rfl (Nat.le_of_ble_eq_true rfl) (Nat.le_of_ble_eq_true rfl) (mayR k186 rfl) (m186 (hS.fix hw hF) (hV.sb hS hwr) hW) (Nat.le_of_ble_eq_true rfl) (fun y M3 hrr => ?_)
            obtain ⟨rfl, hrr⟩ := hrr; replace hrr := hrr.symm; subst hrr
            refine g13g hC rfl (fun h16 => (by omega)) (fun h16 => ?_)
            refine g3 hC rfl rfl ?_
            refine g3 hC rfl rfl ?_
            refine g6 hC rfl rfl ?_
            refine g0 hC rfl ?_
            refine g6 hC rfl (congrArg some ((bitI e (by omega) G hG).trans (if_pos b1))) ?_
            refine g12e hC rfl (fun h22 => (by omega)) (fun h22 => ?_)
            refine g3 hC rfl rfl ?_
            refine g3 hC rfl rfl ?_
            refine g3 hC rfl rfl ?_
            refine c1 hC rfl rfl rfl (Nat.le_of_ble_eq_true rfl) (Nat.le_of_ble_eq_true rfl) (mayR k241 rfl) (m241 (hS.fix hw hF) hD.2 (a := c) (b := e) (by omega) (by omega)) (Nat.le_of_ble_eq_true rfl) (fun y M4 hrr => ?_)
            obtain ⟨rfl, hrr⟩ := hrr; replace hrr := hrr.symm; subst hrr; rw [if_neg b2]
            refine g12e hC rfl (fun h27 => ?_) (fun h27 => (by omega))
            refine n5 hC rfl rfl ⟨by omega, by omega⟩ ?_
            refine g14 hC rfl ?_
            exact hnx
        · skip
          refine g3 hC rfl rfl ?_
          refine g3 hC rfl rfl ?_
          refine c1 hC rfl rfl rfl (Nat.le_of_ble_eq_true rfl) (Nat.le_of_ble_eq_true rfl) (mayR k186 rfl) (m186 (hS.fix hw hF) (hV.sb hS hwr) hW) (Nat.le_of_ble_eq_true rfl) (fun y M3 hrr => ?_)
          obtain ⟨rfl, hrr⟩ := hrr; replace hrr := hrr.symm; subst hrr
          refine g13g hC rfl (fun h16 => (by omega)) (fun h16 => ?_)
          refine g3 hC rfl rfl ?_
          refine g3 hC rfl rfl ?_
          refine g6 hC rfl rfl ?_
          refine g0 hC rfl ?_
          refine g6 hC rfl (congrArg some ((bitI e (by omega) G hG).trans (if_neg b1))) ?_
          refine g12e hC rfl (fun h22 => ?_) (fun h22 => (by omega))
          refine n5 hC rfl rfl ⟨by omega, by omega⟩ ?_
          refine g14 hC rfl ?_
          exact hnx
    refine g3 hC rfl rfl ?_
    refine g19 hC rfl sh142 (flt12 rfl) ft12_74 ((hS.fix hw hF).g fx_142_74) ?_
    refine g3 hC rfl rfl ?_
    refine r21 (G) hC rfl rfl sh198 (Or.inl rfl) (by omega) s0G ?_
    refine g3 hC rfl rfl ?_
    refine g11 hC rfl ?_
    refine g12n hC rfl (fun h6 => ?_) (fun h6 => (by omega))
    refine g3 hC rfl rfl ?_
    refine g0 hC rfl ?_
    refine g6a hC rfl ⟨by omega, by omega⟩ ?_
    refine s5 hC rfl rfl rfl ?_
    exact l1 kk 0 (Nat.zero_add _) _ _ ⟨by rw [show (c : Int) + 1 = ((c + 1 + 0 : Nat) : Int) by omega], rfl⟩
end CPR
