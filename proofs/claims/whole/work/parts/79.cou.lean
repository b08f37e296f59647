section COV
variable {L : Nat} {X : Nat → Int} {M V : ax_M} {h n : Nat}
def canV (mm : Nat → Nat → Int) (a b : Nat) : Bool := decide (0 < mm a b)
def wV (V : ax_M) (h : Nat) (mm : Nat → Nat → Int) (a b : Nat) : Int := if a < nC V h ∧ b < nC V h then dvl V h a b (mm a b) + dvl V h b a (mm b a) else 0
theorem wV_b (hW : HW V h) (hSW : SW V) (hPW : PW V h) {mm : Nat → Nat → Int} (hm : ∀ a b, 0 ≤ mm a b ∧ mm a b ≤ 9) : ∀ a b, -2000000 ≤ wV V h mm a b ∧ wV V h mm a b ≤ 2000000 := by
  intro a b
  unfold wV; split
  · rename_i z
    have h1 := dvl_b hW hSW hPW z.1 z.2 (hm a b)
    have h2 := dvl_b hW hSW hPW z.2 z.1 (hm b a)
    unfold bnd at h1 h2; omega
  · omega
abbrev OV (V : ax_M) (h : Nat) (mm : Nat → Nat → Int) : OT := Om (canV mm) (wV V h mm) (nC V h) (nC V h) 255
theorem m1 (hF : Fix M) (hh : h = 9 ∨ h = 27) (hV : HV V h M) (hW : HW V h) (hSW : SW V) (hPW : PW V h) {mm : Nat → Nat → Int} (hmb : ∀ a b, 0 ≤ mm a b ∧ mm a b ≤ 9) (hm : ∀ a b, a < 8 → b < 8 → M (95 + a) b = mm a b) : ax_Ev L X SH 10 1 [(2, 110), (2, (h : Int)), (2, 45), (2, 71)] M (R0 (fun M' => Sb W1c M M' ∧ M' 110 1 = (OV V h mm).1 ∧ ∀ i, i < nC V h → M' 111 i = appl (fun _ => -1) (OV V h mm).2 i)) := by
  show ax_G L X SH 10 1 0 [(2, 110), (2, (h : Int)), (2, 45), (2, 71), (3, 0), (3, 0), (3, 0)] [] M _
  obtain ⟨P, hP⟩ : ∃ P, P = fun M' => Sb W1c M M' ∧ M' 110 1 = (OV V h mm).1 ∧ ∀ i, i < nC V h → M' 111 i = appl (fun _ => -1) (OV V h mm).2 i := ⟨_, rfl⟩
  rw [← hP]
  have hC := at1
  have hw : wok W1c = true := by decide +kernel
  have hwh : hok W1c h := hokB (by decide +kernel) hh
  have hso : sok W1c := sokB (by decide +kernel)
  have hb := hW.1.2.2.2.2
  have hwb := wV_b hW hSW hPW hmb
  have hO : 0 ≤ (OV V h mm).1 ∧ (OV V h mm).1 ≤ 2000000 * (nC V h : Int) := Om_b (can := canV mm) (n := nC V h) hwb (nC V h) 255
  have hS : Sb W1c M M := Sb.refl
  have hmet : ∀ M1, Sb W1c M M1 → ∀ a b, a < 8 → b < 8 → M1 (95 + a) b = mm a b ∧ 0 ≤ mm a b ∧ mm a b ≤ 9 := fun M1 hS a b ha hb => ⟨(hS _ _ (wbo 95 103 rfl (by omega) (by omega))).trans (hm a b ha hb), hmb a b⟩
  have l1 : ∀ (m a : Nat), a + m = nC V h → ∀ ll M1, (∃ v5 v6, ll = [(2, 110), (2, (h : Int)), (2, 45), (2, 71), (0, (a : Int)), v5, v6] ∧ Sb W1c M M1 ∧ (∀ i, i < a → M1 112 i = -1) ∧ ∀ x y, x < a → x < y → y < nC V h → M1 (114 + x) y = if canV mm x y then wV V h mm x y else NOTH) → ax_G L X SH 10 1 2 ll [] M1 (R0 P) := by
    refine lp ?_ ?_
    · rintro ll M1 ⟨v5, v6, rfl, hS, e1, e2⟩
      have eb : ∀ q, q < 8 → (255 : Nat).testBit q = true := by decide
      refine g3 hC rfl rfl ?_
      refine g3 hC rfl rfl ?_
      refine g19 hC rfl (shH hh) (Nat.le_of_ble_eq_true rfl) rfl (rd3 hS hwh hV hW) ?_
      refine g13g hC rfl (fun h5 => ?_) (fun h5 => (by omega))
      refine g3 hC rfl rfl ?_
      refine g1 hC rfl ?_
      refine g20s hC rfl sh110 (Nat.le_of_ble_eq_true rfl) rfl hS rfl (fun hS => ?_)
      refine g3 hC rfl rfl ?_
      refine g3 hC rfl rfl ?_
      refine g19 hC rfl (shH hh) (Nat.le_of_ble_eq_true rfl) rfl (rd3 hS hwh hV hW) ?_
      refine g0 hC rfl ?_
      refine g1 hC rfl ?_
      refine c0 hC rfl rfl rfl (Nat.le_of_ble_eq_true rfl) (Nat.le_of_ble_eq_true rfl) rfl (show ax_Ev L X SH (1 + nC V h) 2 [(2, 110), (0, (nC V h : Int)), (0, 0), (1, 0)] (ax_up M1 110 1 (-1)) (R0 (fun M' => Sb W2c (ax_up M1 110 1 (-1)) M' ∧ (∀ i, i < nC V h → M' 112 i = -1) ∧ BC M' (nC V h) (updC (-1, fun _ => 0) (0 + (OV V h mm).1, appl (fun _ => -1) (OV V h mm).2)))) from by have := m2 (L := L) (X := X) (M := ax_up M1 110 1 (-1)) (can := canV mm) hwb hb (hS.fix hw hF) (fun x y hxy hy => by rw [ax_up2n (by omega)]; exact e2 x y (by omega) hxy hy) (nC V h) 255 (ax_up M1 110 1 (-1)) (-1, fun _ => 0) (fun _ => -1) 0 (Nat.le_refl _) (by decide) Sb.refl (fun i hi => by rw [ax_up2n (by decide)]; exact e1 i hi) (fun q _ hq => by rw [eb q (by omega)]; simp) ⟨by omega, by omega⟩ (by omega) ⟨ax_up_at, Or.inl rfl⟩ (by decide); rw [Nat.sub_self] at this; exact this) (by omega) (fun M2 hrr => ?_)
      refine ret0 hC rfl ?_
      rw [hP]
      obtain ⟨hr0, hr1, hr2⟩ := hrr
      have eu : updC (-1, fun _ => 0) (0 + (OV V h mm).1, appl (fun _ => -1) (OV V h mm).2) = (0 + (OV V h mm).1, appl (fun _ => -1) (OV V h mm).2) := if_pos (by show (-1 : Int) < 0 + (OV V h mm).1; omega)
      rw [eu] at hr2
      refine ⟨hS.then hr0 rfl, by rw [hr2.1]; show 0 + (OV V h mm).1 = _; omega, ?_⟩
      rcases hr2.2 with y | y
      · exfalso; have : 0 + (OV V h mm).1 = -1 := y; omega
      · exact y
    · rintro a ha ll M1 ⟨v5, v6, rfl, hS, e1, e2⟩ hnext
      have l2 : ∀ (m k : Nat), k + m = nC V h - 1 - a → ∀ ll M2, (∃ v6, ll = [(2, 110), (2, (h : Int)), (2, 45), (2, 71), (0, (a : Int)), (0, ((a + 1 + k : Nat) : Int)), v6] ∧ Sb W1c M M2 ∧ (∀ i, i < a + 1 → M2 112 i = -1) ∧ (∀ x y, x < a → x < y → y < nC V h → M2 (114 + x) y = if canV mm x y then wV V h mm x y else NOTH) ∧ ∀ y, a < y → y < a + 1 + k → M2 (114 + a) y = if canV mm a y then wV V h mm a y else NOTH) → ax_G L X SH 10 1 15 ll [] M2 (R0 P) := by
        refine lp ?_ ?_
        · rintro ll M2 ⟨v6, rfl, hS, f1, f2, f3⟩
          refine g3 hC rfl rfl ?_
          refine g3 hC rfl rfl ?_
          refine g19 hC rfl (shH hh) (Nat.le_of_ble_eq_true rfl) rfl (rd3 hS hwh hV hW) ?_
          refine g13g hC rfl (fun h18 => ?_) (fun h18 => (by omega))
          refine n4 hC rfl rfl ⟨by omega, by omega⟩ ?_
          refine g14 hC rfl ?_
          refine hnext _ _ ⟨_, _, rfl, hS, f1, fun x y h1 h2 h3 => ?_⟩
          by_cases z : x = a
          · rw [z]; exact f3 y (by omega) (by omega)
          · exact f2 x y (by omega) h2 h3
        · rintro k hk ll M2 ⟨v6, rfl, hS, f1, f2, f3⟩ hnx
          obtain ⟨e, he⟩ : ∃ e, e = a + 1 + k := ⟨_, rfl⟩
          have hmab := hmb a e
          have fin : ∀ M3 M4 x v6, Sb W11 M2 M3 → x = (if canV mm a e then wV V h mm a e else NOTH) → Sb W1c M M4 → M4 = ax_up M3 (114 + a) e x → ax_G L X SH 10 1 15 [(2, 110), (2, (h : Int)), (2, 45), (2, 71), (0, (a : Int)), (0, ((a + 1 + k : Nat) : Int) + 1), v6] [] M4 (R0 P) := by
            intro M3 M4 x v6 hd hx hS4 e4
            have o : ∀ c q, 110 ≤ c → M3 c q = M2 c q := fun c q hc => hd c q (by
              cases u : wb W11 c q with
              | false => rfl
              | true =>
                exfalso
                unfold wb W11 at u
                simp only [List.any_cons, List.any_nil, Bool.or_false, Bool.or_eq_true, Bool.and_eq_true] at u
                rcases u with u | u | u | u | u | u <;> (have := Nat.le_of_ble_eq_true u.2; omega))
            refine hnx _ _ ⟨v6, rfl, hS4, fun i hi => ?_, fun x' y h1 h2 h3 => ?_, fun y h1 h2 => ?_⟩
            · rw [e4, ax_up2n (by omega), o _ _ (by omega)]; exact f1 i hi
            · rw [e4, ax_up2n (by omega), o _ _ (by omega)]; exact f2 x' y h1 h2 h3
            · rw [e4]
              by_cases z : y = e
              · rw [z, ax_up_at]; exact hx
              · rw [ax_up_of z, o _ _ (by omega)]; exact f3 y h1 (by omega)
          have ew : wV V h mm a e = dvl V h a e (mm a e) + dvl V h e a (mm e a) := if_pos ⟨ha, by omega⟩
          have hR : ∀ M3, Sb W1c M M3 → M3 113 a = ((114 + a : Nat) : Int) := fun M3 hs => (hs.fix hw hF).r (n := 8) (v := 114) rfl (by omega)
          rw [← he] at fin ⊢
          refine g3 hC rfl rfl ?_
          refine g3 hC rfl rfl ?_
          refine g19 hC rfl (shH hh) (Nat.le_of_ble_eq_true rfl) rfl (rd3 hS hwh hV hW) ?_
          refine g13g hC rfl (fun h18 => (by omega)) (fun h18 => ?_)
          refine g3 hC rfl rfl ?_
          refine g19 hC rfl rfl (Nat.le_of_ble_eq_true rfl) rfl ((hS.fix hw hF).g fx_71_5) ?_
          refine g3 hC rfl rfl ?_
          refine r21 (a) hC rfl (by omega) sh94 (Or.inl rfl) (by omega) ((hS.fix hw hF).r (n := 8) (v := 95) rfl (by omega)) ?_
          refine g3 hC rfl rfl ?_
          refine r21 (e) hC rfl rfl (shR95 (by omega)) (Or.inl rfl) (by omega) (hmet _ hS a e (by omega) (by omega)).1 ?_
          refine g12s hC rfl (fun h25 => ?_) (fun h25 => ?_)
          ·
            refine g0 hC rfl ?_
            refine s6 hC rfl rfl rfl ?_
            refine g3 hC rfl rfl ?_
            refine g19 hC rfl sh110 (Nat.le_of_ble_eq_true rfl) rfl ((hS.fix hw hF).g fx_110_3) ?_
            refine g3 hC rfl rfl ?_
            refine r21 (a) hC rfl rfl sh113 (Or.inr ⟨rfl, rfl⟩) (by omega) (hR _ hS) ?_
            refine g3 hC rfl rfl ?_
            refine g3 hC rfl rfl ?_
            refine g12e hC rfl (fun h36 => ?_) (fun h36 => ?_)
            ·
              refine g1 hC rfl ?_
              first | refine r22s (e) hC rfl rfl (shR114 (by omega)) (by omega) rfl hS (wbr (lo := 114) (hi := 122) rfl (by omega) (by omega)) (fun hS => ?_)
              refine n5 hC rfl rfl ⟨by omega, by omega⟩ ?_
              refine g14 hC rfl ?_
              exact fin _ _ _ _ Sb.refl (by rw [show canV mm a e = false from decide_eq_false (by omega)]; rfl) hS rfl
            ·
              refine g3 hC rfl rfl ?_
              refine g3 hC rfl rfl ?_
              refine g3 hC rfl rfl ?_
              refine g3 hC rfl rfl ?_
              refine g3 hC rfl rfl ?_
              refine c1 hC rfl rfl rfl (Nat.le_of_ble_eq_true rfl) (Nat.le_of_ble_eq_true rfl) rfl (m17 (hS.fix hw hF) hh (hV.sb hS hwh hso) hW hSW hPW (mm := mm) (hmet _ hS) ha (show e < nC V h by omega)) (Nat.le_of_ble_eq_true rfl) (fun x M5 hrr => ?_)
              obtain ⟨rfl, hr0⟩ := hrr; have hS := hS.then hr0 rfl
              refine g14 hC rfl ?_
              first | refine r22s (e) hC rfl rfl (shR114 (by omega)) (by omega) rfl hS (wbr (lo := 114) (hi := 122) rfl (by omega) (by omega)) (fun hS => ?_)
              refine n5 hC rfl rfl ⟨by omega, by omega⟩ ?_
              refine g14 hC rfl ?_
              exfalso; omega
          ·
            refine g0 hC rfl ?_
            refine g14 hC rfl ?_
            refine s6 hC rfl rfl rfl ?_
            refine g3 hC rfl rfl ?_
            refine g19 hC rfl sh110 (Nat.le_of_ble_eq_true rfl) rfl ((hS.fix hw hF).g fx_110_3) ?_
            refine g3 hC rfl rfl ?_
            refine r21 (a) hC rfl rfl sh113 (Or.inr ⟨rfl, rfl⟩) (by omega) (hR _ hS) ?_
            refine g3 hC rfl rfl ?_
            refine g3 hC rfl rfl ?_
            refine g12e hC rfl (fun h36 => ?_) (fun h36 => ?_)
            ·
              refine g1 hC rfl ?_
              first | refine r22s (e) hC rfl rfl (shR114 (by omega)) (by omega) rfl hS (wbr (lo := 114) (hi := 122) rfl (by omega) (by omega)) (fun hS => ?_)
              refine n5 hC rfl rfl ⟨by omega, by omega⟩ ?_
              refine g14 hC rfl ?_
              exfalso; omega
            ·
              refine g3 hC rfl rfl ?_
              refine g3 hC rfl rfl ?_
              refine g3 hC rfl rfl ?_
              refine g3 hC rfl rfl ?_
              refine g3 hC rfl rfl ?_
              refine c1 hC rfl rfl rfl (Nat.le_of_ble_eq_true rfl) (Nat.le_of_ble_eq_true rfl) rfl (m17 (hS.fix hw hF) hh (hV.sb hS hwh hso) hW hSW hPW (mm := mm) (hmet _ hS) ha (show e < nC V h by omega)) (Nat.le_of_ble_eq_true rfl) (fun x M5 hrr => ?_)
              obtain ⟨rfl, hr0⟩ := hrr; have hS := hS.then hr0 rfl
              refine g14 hC rfl ?_
              first | refine r22s (e) hC rfl rfl (shR114 (by omega)) (by omega) rfl hS (wbr (lo := 114) (hi := 122) rfl (by omega) (by omega)) (fun hS => ?_)
              refine n5 hC rfl rfl ⟨by omega, by omega⟩ ?_
              refine g14 hC rfl ?_
              exact fin _ _ _ _ hr0 (by rw [show canV mm a e = true from decide_eq_true (by omega), ew]; rfl) hS rfl
      refine g3 hC rfl rfl ?_
      refine g3 hC rfl rfl ?_
      refine g19 hC rfl (shH hh) (Nat.le_of_ble_eq_true rfl) rfl (rd3 hS hwh hV hW) ?_
      refine g13g hC rfl (fun h5 => (by omega)) (fun h5 => ?_)
      refine g3 hC rfl rfl ?_
      refine g19 hC rfl sh110 (Nat.le_of_ble_eq_true rfl) rfl ((hS.fix hw hF).g fx_110_2) ?_
      refine g3 hC rfl rfl ?_
      refine g0 hC rfl ?_
      refine r22s (a) hC rfl rfl sh112 (by omega) rfl hS rfl (fun hS => ?_)
      refine g3 hC rfl rfl ?_
      refine g0 hC rfl ?_
      refine g6a hC rfl ⟨by omega, by omega⟩ ?_
      refine s5 hC rfl rfl rfl ?_
      refine l2 (nC V h - 1 - a) 0 (Nat.zero_add _) _ _ ⟨_, rfl, hS, fun i hi => ?_, fun x y h1 h2 h3 => ?_, fun y h1 h2 => by omega⟩
      · by_cases z : i = a
        · rw [z, ax_up_at]
        · rw [ax_up_of z]; exact e1 i (by omega)
      · rw [ax_up2n (by omega)]; exact e2 x y h1 h2 h3
  refine g0 hC rfl ?_
  refine s4 hC rfl rfl rfl ?_
  exact l1 (nC V h) 0 (Nat.zero_add _) _ _ ⟨_, _, rfl, hS, fun i hi => absurd hi (Nat.not_lt_zero i), fun x y h1 => absurd h1 (Nat.not_lt_zero x)⟩
end COV
