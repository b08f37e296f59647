def W81 : ax_W := ([(72, 75), (76, 85), (86, 94), (95, 107), (5, 6), (23, 24), (26, 27), (41, 42), (44, 45), (125, 126), (127, 138)], [(71, 6)])
def W126 : ax_W := ([(72, 75), (76, 85), (86, 94), (95, 107), (5, 6), (23, 24), (26, 27), (41, 42), (44, 45), (125, 126), (127, 138)], [(71, 6), (122, 5), (122, 6)])
def W84 : ax_W := ([], [(122, 5), (122, 6)])
def X250 : ax_W := ([(187, 195), (201, 203), (230, 231)], [(142, 69), (142, 80), (142, 53), (142, 56), (142, 57), (142, 67), (142, 116)])
def X250d : ax_W := ([(187, 195), (201, 203), (230, 231)], [(142, 80), (142, 53), (142, 56), (142, 57), (142, 67), (142, 116)])
def smo (s : Nat) : Int := if s = 10 then -1 else (s : Int)
def oS (V : ax_M) (h s c : Nat) : Int := (DD V h (smo s) (-1) 9).2.2.1 c
abbrev mb (V : ax_M) (h s : Nat) : Prop := s = 10 ∨ (s < nS V h ∧ V 47 s = 0)
abbrev asn (o : Nat → Int) (sc so : Nat → Int) (rn : Nat) : Prop := ∀ k, k < rn → o (sc k).toNat = so k
def fv (V : ax_M) (h : Nat) (sc so : Nat → Int) (rn s : Nat) : Int := if mb V h s ∧ asn (oS V h s) sc so rn then 1 else 0
section SUS
variable {L : Nat} {X : Nat → Int} {M V : ax_M} {h n : Nat}
theorem fv_b {sc so : Nat → Int} {rn s : Nat} : fv V h sc so rn s = 0 ∨ fv V h sc so rn s = 1 := by unfold fv; split <;> simp
theorem m82 (hF : Fix M) {c nc rn : Nat} {o : Nat → Int} (hc : SH[c]? = some (1, 0, 8)) (ho : ∀ i, i < nc → M c i = o i) (hnc : nc ≤ 8) (hrn : M 122 0 = (rn : Int)) (hr16 : rn ≤ 16) (hsc : ∀ k, k < rn → M 123 k = ((M 123 k).toNat : Int) ∧ (M 123 k).toNat < nc) : ax_Ev L X SH 0 82 [(2, 122), (2, (c : Int))] M (R1 0 (fun x M' => x = (if asn o (M 123) (M 124) rn then 1 else 0) ∧ M' = M)) := by
  show ax_G L X SH 0 82 0 [(2, 122), (2, (c : Int)), (3, 0)] [] M _
  have hC := at82
  have hw := wX0
  have l1 : ∀ (m k : Nat), k + m = rn → ∀ ll M1, (ll = [(2, 122), (2, (c : Int)), (0, (k : Int))] ∧ M1 = M ∧ ∀ j, j < k → o (M 123 j).toNat = M 124 j) → ax_G L X SH 0 82 2 ll [] M1 (R1 0 (fun x M' => x = (if asn o (M 123) (M 124) rn then 1 else 0) ∧ M' = M)) := by
    refine lp ?_ ?_
    · rintro ll M1 ⟨rfl, rfl, e1⟩
      have hS : Sb X0 M1 M1 := Sb.refl
      refine g3 hC rfl rfl ?_
      refine g3 hC rfl rfl ?_
      refine g19 hC rfl sh122 (Nat.le_of_ble_eq_true rfl) rfl hrn ?_
      refine g13g hC rfl (fun h5 => ?_) (fun h5 => (by omega))
      refine g0 hC rfl ?_
      refine ret3 hC rfl ⟨by omega, by omega⟩ ?_
      exact ⟨by rw [if_pos e1], rfl⟩
    · rintro k hk ll M1 ⟨rfl, rfl, e1⟩ hnext
      have hS : Sb X0 M1 M1 := Sb.refl
      have hk2 := hsc k hk
      obtain ⟨q, hq⟩ : ∃ q, q = (M1 123 k).toNat := ⟨_, rfl⟩
      rw [← hq] at hk2
      refine g3 hC rfl rfl ?_
      refine g3 hC rfl rfl ?_
      refine g19 hC rfl sh122 (Nat.le_of_ble_eq_true rfl) rfl hrn ?_
      refine g13g hC rfl (fun h5 => (by omega)) (fun h5 => ?_)
      refine g3 hC rfl rfl ?_
      refine g3 hC rfl rfl ?_
      refine g19 hC rfl sh122 (Nat.le_of_ble_eq_true rfl) rfl ((hS.fix hw hF).g fx_122_1) ?_
      refine g3 hC rfl rfl ?_
      refine r21 (k) hC rfl (by omega) sh123 (Or.inl rfl) (by omega) hk2.1 ?_
      refine r21 (q) hC rfl rfl hc (Or.inl rfl) (by omega) (ho q (by omega)) ?_
      refine g3 hC rfl rfl ?_
      refine g19 hC rfl sh122 (Nat.le_of_ble_eq_true rfl) rfl ((hS.fix hw hF).g fx_122_2) ?_
      refine g3 hC rfl rfl ?_
      refine r21 (k) hC rfl (by omega) sh124 (Or.inl rfl) (by omega) (hS 124 (k) rfl) ?_
      refine g13e hC rfl (fun h16 => ?_) (fun h16 => ?_)
      ·
        refine n2 hC rfl rfl ⟨by omega, by omega⟩ ?_
        refine g14 hC rfl ?_
        refine hnext _ _ ⟨rfl, rfl, fun j hj => ?_⟩
        by_cases z : j = k
        · rw [z, ← hq]; exact h16
        · exact e1 j (by omega)
      ·
        refine g0 hC rfl ?_
        refine ret3 hC rfl ⟨by omega, by omega⟩ ?_
        refine ⟨?_, rfl⟩
        rw [if_neg (fun w => h16 ?_)]
        have := w k hk
        rw [← hq] at this; exact this
  refine g0 hC rfl ?_
  refine s2 hC rfl rfl rfl ?_
  exact l1 rn 0 (Nat.zero_add _) _ _ ⟨rfl, rfl, fun j hj => absurd hj (Nat.not_lt_zero j)⟩
def FC (V : ax_M) (h : Nat) (sc so : Nat → Int) (rn k : Nat) (M : ax_M) : Prop := ∀ s, s < k → M 125 s = fv V h sc so rn s ∧ (mb V h s → ∀ c, c < nC V h → M (127 + s) c = oS V h s c)
theorem m81 (hF : Fix M) (hh : h = 9 ∨ h = 27) (hV : HV V h M) (hW : HW V h) (hSW : SW V) (hPW : PW V h) {rn : Nat} (hrn : M 122 0 = (rn : Int)) (hr16 : rn ≤ 16) (hsc : ∀ k, k < rn → M 123 k = ((M 123 k).toNat : Int) ∧ (M 123 k).toNat < nC V h) : ax_Ev L X SH 6 81 [(2, 122), (2, (h : Int)), (2, 45), (2, 71)] M (R0 (fun M' => Sb W81 M M' ∧ FC V h (M 123) (M 124) rn 11 M')) := by
  show ax_G L X SH 6 81 0 [(2, 122), (2, (h : Int)), (2, 45), (2, 71), (3, 0), (3, 0)] [] M _
  have hC := at81
  have hw : wok W81 = true := by decide +kernel
  have hwh : hok W81 h := hokB (by decide +kernel) hh
  have hso : sok W81 := sokB (by decide +kernel)
  have h2 := hW.1.2.1.2
  have h4 := hW.1.2.2.2.2
  have hS : Sb W81 M M := Sb.refl
  have l1 : ∀ (m k : Nat), k + m = 11 → ∀ ll M1, (∃ v, ll = [(2, 122), (2, (h : Int)), (2, 45), (2, 71), (0, (k : Int)), v] ∧ Sb W81 M M1 ∧ FC V h (M 123) (M 124) rn k M1) → ax_G L X SH 6 81 2 ll [] M1 (R0 (fun M' => Sb W81 M M' ∧ FC V h (M 123) (M 124) rn 11 M')) := by
    refine lp ?_ ?_
    · rintro ll M1 ⟨v, rfl, hS, e1⟩
      refine g3 hC rfl rfl ?_
      refine g0 hC rfl ?_
      refine g13t hC rfl (fun h4 => ?_) (fun h4 => (by omega))
      refine ret0 hC rfl ?_
      exact ⟨hS, e1⟩
    · rintro k hk ll M1 ⟨v, rfl, hS, e1⟩ hnext
      have no : ∀ M3 v, ¬ mb V h k → Sb W81 M M3 → M3 = ax_up M1 125 k 0 → ax_G L X SH 6 81 2 [(2, 122), (2, (h : Int)), (2, 45), (2, 71), (0, (k : Int) + 1), v] [] M3 (R0 (fun M' => Sb W81 M M' ∧ FC V h (M 123) (M 124) rn 11 M')) := by
        intro M3 v hn hS e
        refine hnext _ _ ⟨v, rfl, hS, fun s hs => ?_⟩
        by_cases z : s = k
        · rw [z, e, ax_up_at]
          exact ⟨by unfold fv; rw [if_neg (fun w => hn w.1)], fun w => absurd w hn⟩
        · have := e1 s (by omega)
          rw [e, ax_up_of z]
          exact ⟨this.1, fun w c hc => by rw [ax_up2n (by omega)]; exact this.2 w c hc⟩
      have go : ∀ M3 (sm : Int), mb V h k → sm = smo k → Sb W81 M M3 → M3 = ax_up M1 125 k 0 → ∀ v2, ax_G L X SH 6 81 38 [(2, 122), (2, (h : Int)), (2, 45), (2, 71), (0, (k : Int)), v2] [(0, -1), (0, sm), (2, 45), (2, (h : Int)), (2, 71)] M3 (R0 (fun M' => Sb W81 M M' ∧ FC V h (M 123) (M 124) rn 11 M')) := by
        intro M3 sm hm hsm hS e v2
        have fin : ∀ M4 M5 M6 x, Sb WD M3 M4 → DO V h sm (-1) M4 → M5 = ax_cpy M4 73 0 (127 + k) 0 8 → x = (if asn (oS V h k) (M 123) (M 124) rn then 1 else 0) → Sb W81 M M6 → M6 = ax_up M5 125 k x → ax_G L X SH 6 81 2 [(2, 122), (2, (h : Int)), (2, 45), (2, 71), (0, (k : Int) + 1), v2] [] M6 (R0 (fun M' => Sb W81 M M' ∧ FC V h (M 123) (M 124) rn 11 M')) := by
          intro M4 M5 M6 x hd ho e5 hx hS6 e6
          refine hnext _ _ ⟨v2, rfl, hS6, fun s hs => ?_⟩
          by_cases z : s = k
          · rw [z, e6, ax_up_at]
            refine ⟨?_, fun w c hc => ?_⟩
            · rw [hx]; unfold fv
              by_cases y : asn (oS V h k) (M 123) (M 124) rn
              · rw [if_pos y, if_pos ⟨hm, y⟩]
              · rw [if_neg y, if_neg (fun w => y w.2)]
            · rw [ax_up2n (by omega), e5, cpy_in (by omega) (by omega), Nat.zero_add, Nat.sub_zero]
              have := (ho.2.1 c hc).1
              rw [hsm] at this
              exact this
          · have := e1 s (by omega)
            rw [e6, ax_up_of z, e5, cpy_ne (by omega), hd 125 s rfl, e, ax_up_of z]
            refine ⟨this.1, fun w c hc => ?_⟩
            rw [ax_up2n (by omega), cpy_ne (by omega), hd _ _ (wbo 127 138 rfl (by omega) (by omega)), e, ax_up2n (by omega)]
            exact this.2 w c hc
        have h82 : ∀ M4 M5, Sb WD M3 M4 → DO V h sm (-1) M4 → Sb W81 M M5 → M5 = ax_cpy M4 73 0 (127 + k) 0 8 → ax_Ev L X SH 0 82 [(2, 122), (2, ((127 + k : Nat) : Int))] M5 (R1 0 (fun x M' => x = (if asn (oS V h k) (M 123) (M 124) rn then 1 else 0) ∧ M' = M5)) := by
          intro M4 M5 hd ho hs5 e5
          have ea : ∀ q, M5 123 q = M 123 q := fun q => hs5 123 q rfl
          have eb : ∀ q, M5 124 q = M 124 q := fun q => hs5 124 q rfl
          have := m82 (L := L) (X := X) (M := M5) (c := 127 + k) (nc := nC V h) (rn := rn) (o := oS V h k) (hs5.fix hw hF) (shR127 (by omega)) (fun i hi => by
            rw [e5, cpy_in (by omega) (by omega), Nat.zero_add, Nat.sub_zero]
            have := (ho.2.1 i hi).1
            rw [hsm] at this
            exact this) h4 ((hs5 122 0 rfl).trans hrn) hr16 (fun q hq => by rw [ea]; exact hsc q hq)
          rw [show M5 123 = M 123 from funext ea, show M5 124 = M 124 from funext eb] at this
          exact this
        refine c0 hC rfl rfl rfl (Nat.le_of_ble_eq_true rfl) (Nat.le_of_ble_eq_true rfl) rfl (m4 (hS.fix hw hF) hh (hV.sb hS hwh hso) hW hSW hPW) (Nat.le_of_ble_eq_true rfl) (fun M4 hr => ?_)
        obtain ⟨hd, ho⟩ := hr; have hS := hS.then hd rfl
        refine g3 hC rfl rfl ?_
        refine g19 hC rfl rfl (Nat.le_of_ble_eq_true rfl) rfl ((hS.fix hw hF).g fx_71_1) ?_
        refine g0 hC rfl ?_
        refine g3 hC rfl rfl ?_
        refine g19 hC rfl sh122 (Nat.le_of_ble_eq_true rfl) rfl ((hS.fix hw hF).g fx_122_4) ?_
        refine g3 hC rfl rfl ?_
        refine r21 (k) hC rfl (by omega) sh126 (Or.inl rfl) (by omega) ((hS.fix hw hF).r (n := 11) (v := 127) rfl (by omega)) ?_
        refine g0 hC rfl ?_
        refine g0 hC rfl ?_
        refine r29s (0) (0) (8) hC rfl (by omega) (by omega) (by omega) rfl (shR127 (by omega)) (by omega) (by omega) (Nat.le_of_ble_eq_true rfl) hS (fun _ => (wbr (lo := 127) (hi := 138) rfl (by omega) (by omega))) (fun hS => ?_)
        refine g3 hC rfl rfl ?_
        refine g19 hC rfl sh122 (Nat.le_of_ble_eq_true rfl) rfl ((hS.fix hw hF).g fx_122_3) ?_
        refine g3 hC rfl rfl ?_
        refine g3 hC rfl rfl ?_
        refine g3 hC rfl rfl ?_
        refine g19 hC rfl sh122 (Nat.le_of_ble_eq_true rfl) rfl ((hS.fix hw hF).g fx_122_4) ?_
        refine g3 hC rfl rfl ?_
        refine r21 (k) hC rfl (by omega) sh126 (Or.inl rfl) (by omega) ((hS.fix hw hF).r (n := 11) (v := 127) rfl (by omega)) ?_
        refine c1 hC rfl rfl rfl (Nat.le_of_ble_eq_true rfl) (Nat.le_of_ble_eq_true rfl) rfl (h82 _ _ hd ho hS rfl) (Nat.le_of_ble_eq_true rfl) (fun x M6 hr => ?_)
        obtain ⟨hx, hr⟩ := hr; replace hr := hr.symm; subst hr
        refine g12e hC rfl (fun h58 => ?_) (fun h58 => ?_)
        ·
          refine g0 hC rfl ?_
          refine r22s (k) hC rfl (by omega) sh125 (by omega) rfl hS rfl (fun hS => ?_)
          refine n4 hC rfl rfl ⟨by omega, by omega⟩ ?_
          refine g14 hC rfl ?_
          refine fin _ _ _ _ hd ho rfl ?_ hS rfl
          by_cases y : asn (oS V h k) (M 123) (M 124) rn
          · rw [if_pos y] at hx; omega
          · rw [if_neg y]
        ·
          refine g0 hC rfl ?_
          refine g14 hC rfl ?_
          refine r22s (k) hC rfl (by omega) sh125 (by omega) rfl hS rfl (fun hS => ?_)
          refine n4 hC rfl rfl ⟨by omega, by omega⟩ ?_
          refine g14 hC rfl ?_
          refine fin _ _ _ _ hd ho rfl ?_ hS rfl
          by_cases y : asn (oS V h k) (M 123) (M 124) rn
          · rw [if_pos y]
          · rw [if_neg y] at hx; omega
      refine g3 hC rfl rfl ?_
      refine g0 hC rfl ?_
      refine g13t hC rfl (fun h4 => (by omega)) (fun h4 => ?_)
      refine g3 hC rfl rfl ?_
      refine g19 hC rfl sh122 (Nat.le_of_ble_eq_true rfl) rfl ((hS.fix hw hF).g fx_122_3) ?_
      refine g3 hC rfl rfl ?_
      refine g0 hC rfl ?_
      refine r22s (k) hC rfl (by omega) sh125 (by omega) rfl hS rfl (fun hS => ?_)
      refine g3 hC rfl rfl ?_
      refine g0 hC rfl ?_
      refine g13e hC rfl (fun h12 => ?_) (fun h12 => ?_)
      ·
        refine g0 hC rfl ?_
        refine g14 hC rfl ?_
        refine s5 hC rfl rfl rfl ?_
        refine g3 hC rfl rfl ?_
        refine g12e hC rfl (fun h27 => ?_) (fun h27 => ?_)
        ·
          refine n4 hC rfl rfl ⟨by omega, by omega⟩ ?_
          refine g14 hC rfl ?_
          exfalso; omega
        ·
          refine g3 hC rfl rfl ?_
          refine g3 hC rfl rfl ?_
          refine g3 hC rfl rfl ?_
          refine g3 hC rfl rfl ?_
          refine g0 hC rfl ?_
          refine g13n hC rfl (fun h33 => ?_) (fun h33 => ?_)
          ·
            refine g3 hC rfl rfl ?_
            refine g0 hC rfl ?_
            exfalso; omega
          ·
            refine g0 hC rfl ?_
            refine g14 hC rfl ?_
            refine g0 hC rfl ?_
            exact go _ _ (Or.inl (by omega)) (by unfold smo; rw [if_pos (by omega)]) hS rfl _
      ·
        refine g3 hC rfl rfl ?_
        refine g3 hC rfl rfl ?_
        refine g19 hC rfl (shH hh) (Nat.le_of_ble_eq_true rfl) rfl (rd1 hS hwh hV hW) ?_
        refine g13g hC rfl (fun h16 => ?_) (fun h16 => ?_)
        ·
          refine g0 hC rfl ?_
          refine s5 hC rfl rfl rfl ?_
          refine g3 hC rfl rfl ?_
          refine g12e hC rfl (fun h27 => ?_) (fun h27 => ?_)
          ·
            refine n4 hC rfl rfl ⟨by omega, by omega⟩ ?_
            refine g14 hC rfl ?_
            exact no _ _ (fun w => by omega) hS rfl
          ·
            refine g3 hC rfl rfl ?_
            refine g3 hC rfl rfl ?_
            refine g3 hC rfl rfl ?_
            refine g3 hC rfl rfl ?_
            refine g0 hC rfl ?_
            refine g13n hC rfl (fun h33 => ?_) (fun h33 => ?_)
            ·
              refine g3 hC rfl rfl ?_
              refine g0 hC rfl ?_
              exfalso; omega
            ·
              refine g0 hC rfl ?_
              refine g14 hC rfl ?_
              refine g0 hC rfl ?_
              exfalso; omega
        ·
          refine g3 hC rfl rfl ?_
          refine g19 hC rfl rfl (Nat.le_of_ble_eq_true rfl) rfl ((hS.fix hw hF).g rfl) ?_
          refine g3 hC rfl rfl ?_
          refine r21 (k) hC rfl (by omega) rfl (Or.inl rfl) (by omega) ((hS _ _ rfl).trans (hV.2 _).2.2.1) ?_
          refine g12n hC rfl (fun h21 => ?_) (fun h21 => ?_)
          ·
            refine g0 hC rfl ?_
            refine s5 hC rfl rfl rfl ?_
            refine g3 hC rfl rfl ?_
            refine g12e hC rfl (fun h27 => ?_) (fun h27 => ?_)
            ·
              refine n4 hC rfl rfl ⟨by omega, by omega⟩ ?_
              refine g14 hC rfl ?_
              exact no _ _ (fun w => by rcases w with w | w; omega; exact h21 w.2) hS rfl
            ·
              refine g3 hC rfl rfl ?_
              refine g3 hC rfl rfl ?_
              refine g3 hC rfl rfl ?_
              refine g3 hC rfl rfl ?_
              refine g0 hC rfl ?_
              refine g13n hC rfl (fun h33 => ?_) (fun h33 => ?_)
              ·
                refine g3 hC rfl rfl ?_
                refine g0 hC rfl ?_
                exfalso; omega
              ·
                refine g0 hC rfl ?_
                refine g14 hC rfl ?_
                refine g0 hC rfl ?_
                exfalso; omega
          ·
            refine g0 hC rfl ?_
            refine g14 hC rfl ?_
            refine s5 hC rfl rfl rfl ?_
            refine g3 hC rfl rfl ?_
            refine g12e hC rfl (fun h27 => ?_) (fun h27 => ?_)
            ·
              refine n4 hC rfl rfl ⟨by omega, by omega⟩ ?_
              refine g14 hC rfl ?_
              exfalso; omega
            ·
              refine g3 hC rfl rfl ?_
              refine g3 hC rfl rfl ?_
              refine g3 hC rfl rfl ?_
              refine g3 hC rfl rfl ?_
              refine g0 hC rfl ?_
              refine g13n hC rfl (fun h33 => ?_) (fun h33 => ?_)
              ·
                refine g3 hC rfl rfl ?_
                refine g0 hC rfl ?_
                exact go _ _ (Or.inr ⟨by omega, by omega⟩) (by unfold smo; rw [if_neg (by omega)]) hS rfl _
              ·
                refine g0 hC rfl ?_
                refine g14 hC rfl ?_
                refine g0 hC rfl ?_
                exfalso; omega
  refine g0 hC rfl ?_
  refine s4 hC rfl rfl rfl ?_
  exact l1 11 0 rfl _ _ ⟨_, rfl, hS, fun s hs => absurd hs (Nat.not_lt_zero s)⟩
end SUS
