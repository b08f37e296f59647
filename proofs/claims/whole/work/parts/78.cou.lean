def W2c : ax_W := ([(111, 113)], [(110, 1)])
def W1c : ax_W := ([(5, 6), (23, 24), (26, 27), (41, 42), (44, 45), (106, 107), (111, 113), (114, 122)], [(110, 1)])
def W121 : ax_W := ([(72, 75), (76, 85), (86, 94), (95, 107), (5, 6), (23, 24), (26, 27), (41, 42), (44, 45), (111, 113), (114, 122)], [(71, 6), (110, 1)])
def clr (m e : Nat) : Nat := m &&& (255 ^^^ 1 <<< e)
theorem clr_t : ∀ e, e < 8 → ∀ q, q < 8 → ∀ m, m < 256 → (clr m e).testBit q = (m.testBit q && !(q == e)) ∧ clr m e < 256 := by decide +kernel
abbrev OT : Type := Int × List (Nat × Nat)
def chs (A B : OT) : OT := if A.1 < B.1 then B else A
def Om (can : Nat → Nat → Bool) (w : Nat → Nat → Int) (n : Nat) : Nat → Nat → OT
  | 0, _ => (0, [])
  | rem + 1, m => if m.testBit (n - (rem + 1)) then it (fun k A => if m.testBit (n - rem + k) && can (n - (rem + 1)) (n - rem + k) then chs A (w (n - (rem + 1)) (n - rem + k) + (Om can w n rem (clr m (n - rem + k))).1, (n - (rem + 1), n - rem + k) :: (Om can w n rem (clr m (n - rem + k))).2) else A) rem (Om can w n rem m) else Om can w n rem m
def app1 (r : Nat → Int) (p : Nat × Nat) : Nat → Int := up (up r p.1 (p.2 : Int)) p.2 (p.1 : Int)
def appl (r : Nat → Int) (l : List (Nat × Nat)) : Nat → Int := l.foldl app1 r
def updC (x A : Int × (Nat → Int)) : Int × (Nat → Int) := if x.1 < A.1 then A else x
theorem updC_2 {x A B : Int × (Nat → Int)} : updC (updC x A) B = updC x (if A.1 < B.1 then B else A) := by
  unfold updC
  by_cases h1 : x.1 < A.1
  · rw [if_pos h1]
    by_cases h2 : A.1 < B.1
    · simp only [if_pos h2]; rw [if_pos (by omega)]
    · simp only [if_neg h2]; rw [if_pos h1]
  · rw [if_neg h1]
    by_cases h2 : A.1 < B.1
    · rw [if_pos h2]
    · rw [if_neg h2, if_neg (by omega), if_neg h1]
theorem Om_b {can : Nat → Nat → Bool} {w : Nat → Nat → Int} {n : Nat} (hw : ∀ a b, -2000000 ≤ w a b ∧ w a b ≤ 2000000) : ∀ rem m, 0 ≤ (Om can w n rem m).1 ∧ (Om can w n rem m).1 ≤ 2000000 * rem := by
  intro rem
  induction rem with
  | zero => intro m; exact ⟨Int.le_refl 0, Int.le_refl 0⟩
  | succ rem ih =>
    intro m
    have e : Om can w n (rem + 1) m = if m.testBit (n - (rem + 1)) then it (fun k A => if m.testBit (n - rem + k) && can (n - (rem + 1)) (n - rem + k) then chs A (w (n - (rem + 1)) (n - rem + k) + (Om can w n rem (clr m (n - rem + k))).1, (n - (rem + 1), n - rem + k) :: (Om can w n rem (clr m (n - rem + k))).2) else A) rem (Om can w n rem m) else Om can w n rem m := rfl
    rw [e]
    have h0 := ih m
    have hc : (2000000 : Int) * ((rem + 1 : Nat) : Int) = 2000000 * (rem : Int) + 2000000 := by omega
    split
    · refine it_ind (P := fun A : OT => 0 ≤ A.1 ∧ A.1 ≤ 2000000 * ((rem + 1 : Nat) : Int)) (by omega) (fun k A _ hA => ?_)
      split
      · unfold chs
        split
        · have h1 := ih (clr m (n - rem + k))
          have h2 := hw (n - (rem + 1)) (n - rem + k)
          rename_i hlt
          dsimp only at hlt ⊢
          omega
        · exact hA
      · exact hA
    · omega
section COU
variable {L : Nat} {X : Nat → Int} {M V : ax_M} {h n : Nat}
def BC (M : ax_M) (n : Nat) (x : Int × (Nat → Int)) : Prop := M 110 1 = x.1 ∧ (x.1 = -1 ∨ ∀ i, i < n → M 111 i = x.2 i)
def NOTH : Int := -1000000000000000
theorem m2 {can : Nat → Nat → Bool} {w : Nat → Nat → Int} (hwb : ∀ a b, -2000000 ≤ w a b ∧ w a b ≤ 2000000) {n : Nat} (hn : n ≤ 8) (hF : Fix M) (hwo : ∀ a b, a < b → b < n → M (114 + a) b = if can a b then w a b else NOTH) : ∀ (rem m : Nat) (M1 : ax_M) (x : Int × (Nat → Int)) (r : Nat → Int) (sum : Int), rem ≤ n → m < 256 → Sb W2c M M1 → (∀ i, i < n → M1 112 i = r i) → (∀ q, n - rem ≤ q → q < n → (r q = -1 ↔ m.testBit q = true)) → (-2000000 * 8 ≤ sum ∧ sum ≤ 2000000 * ((n - rem : Nat) : Int)) → (-2000000 * ((n - rem : Nat) : Int) ≤ sum) → BC M1 n x → -1 ≤ x.1 → ax_Ev L X SH (1 + rem) 2 [(2, 110), (0, (n : Int)), (0, ((n - rem : Nat) : Int)), (1, sum)] M1 (R0 (fun M' => Sb W2c M M' ∧ (∀ i, i < n → M' 112 i = r i) ∧ BC M' n (updC x (sum + (Om can w n rem m).1, appl r (Om can w n rem m).2)))) := by
  have hw : wok W2c = true := by decide +kernel
  have hC := at2
  have hO := Om_b (can := can) (n := n) hwb
  intro rem
  induction rem with
  | zero =>
    intro m M1 x r sum hrn hm hS hr hbit hs1 hs2 hx hx1
    show ax_G L X SH (1 + 0) 2 0 [(2, 110), (0, (n : Int)), (0, ((n - 0 : Nat) : Int)), (1, sum), (3, 0), (3, 0)] [] M1 _
    have eO : Om can w n 0 m = (0, []) := rfl
    rw [eO]
    have hc := @cmp0 sum x.1
    refine g3 hC rfl rfl ?_
    refine g3 hC rfl rfl ?_
    refine g13g hC rfl (fun h2 => ?_) (fun h2 => (by omega))
    refine g3 hC rfl rfl ?_
    refine g3 hC rfl rfl ?_
    refine g19 hC rfl sh110 (Nat.le_of_ble_eq_true rfl) rfl hx.1 ?_
    refine g11 hC rfl ?_
    refine g12s hC rfl (fun h10 => ?_) (fun h10 => ?_)
    ·
      refine ret0 hC rfl ?_
      refine ⟨hS, hr, ?_⟩
      rw [show updC x (sum + (0 : Int), appl r []) = x from if_neg (by show ¬ x.1 < sum + 0; omega)]; exact hx
    ·
      refine g3 hC rfl rfl ?_
      refine g3 hC rfl rfl ?_
      refine g20s hC rfl sh110 (Nat.le_of_ble_eq_true rfl) rfl hS rfl (fun hS => ?_)
      refine g3 hC rfl rfl ?_
      refine g19 hC rfl sh110 (Nat.le_of_ble_eq_true rfl) rfl ((hS.fix hw hF).g fx_110_2) ?_
      refine g0 hC rfl ?_
      refine g3 hC rfl rfl ?_
      refine g19 hC rfl sh110 (Nat.le_of_ble_eq_true rfl) rfl ((hS.fix hw hF).g fx_110_0) ?_
      refine g0 hC rfl ?_
      refine g3 hC rfl rfl ?_
      refine r29s 0 0 n hC rfl rfl rfl rfl sh112 sh111 (by omega) (by omega) (Nat.le_of_ble_eq_true rfl) hS (fun _ => rfl) (fun hS => ?_)
      refine ret0 hC rfl ?_
      have eu : updC x (sum + (0 : Int), appl r []) = (sum + 0, r) := if_pos (by show x.1 < sum + 0; omega)
      refine ⟨hS, fun i hi => ?_, ?_⟩
      · rw [cpy_ne (by decide), ax_up2n (by decide)]; exact hr i hi
      · rw [eu]
        refine ⟨?_, Or.inr fun i hi => ?_⟩
        · rw [cpy_ne (by decide), ax_up_at]; show sum = sum + 0; omega
        · rw [cpy_in (by omega) (by omega), ax_up2n (by decide), Nat.zero_add, Nat.sub_zero]; exact hr i hi
  | succ rem ih =>
    intro m M1 x r sum hrn hm hS hr hbit hs1 hs2 hx hx1
    show ax_G L X SH (1 + (rem + 1)) 2 0 [(2, 110), (0, (n : Int)), (0, ((n - (rem + 1) : Nat) : Int)), (1, sum), (3, 0), (3, 0)] [] M1 _
    obtain ⟨c, hc⟩ : ∃ c, c = n - (rem + 1) := ⟨_, rfl⟩
    have hc1 : n - rem = c + 1 := by omega
    have e0 : Om can w n (rem + 1) m = if m.testBit (n - (rem + 1)) then it (fun k A => if m.testBit (n - rem + k) && can (n - (rem + 1)) (n - rem + k) then chs A (w (n - (rem + 1)) (n - rem + k) + (Om can w n rem (clr m (n - rem + k))).1, (n - (rem + 1), n - rem + k) :: (Om can w n rem (clr m (n - rem + k))).2) else A) rem (Om can w n rem m) else Om can w n rem m := rfl
    rw [← hc, hc1] at e0
    rw [← hc] at hs1 hs2 hbit ⊢
    rw [hc1] at ih
    have hcn : c < n := by omega
    have bc := hbit c (by omega) hcn
    obtain ⟨F, hFd⟩ : ∃ F : Nat → OT → OT, F = fun k A => if m.testBit (c + 1 + k) && can c (c + 1 + k) then chs A (w c (c + 1 + k) + (Om can w n rem (clr m (c + 1 + k))).1, (c, c + 1 + k) :: (Om can w n rem (clr m (c + 1 + k))).2) else A := ⟨_, rfl⟩
    rw [← hFd] at e0
    have hx3 : ∀ A : Int × (Nat → Int), -1 ≤ (updC x A).1 := by
      intro A; unfold updC; split <;> omega
    have l1 : ∀ (mm k : Nat), k + mm = rem → ∀ ll M3, (∃ v, ll = [(2, 110), (0, (n : Int)), (0, (c : Int)), (1, sum), (3, 0), v] ∧ v = (0, ((c + 1 + k : Nat) : Int)) ∧ Sb W2c M M3 ∧ (∀ i, i < n → M3 112 i = r i) ∧ (m.testBit c = true → BC M3 n (updC x (sum + (it F k (Om can w n rem m)).1, appl r (it F k (Om can w n rem m)).2))) ∧ (¬ m.testBit c = true → BC M3 n (updC x (sum + (Om can w n rem m).1, appl r (Om can w n rem m).2)))) → ax_G L X SH (1 + (rem + 1)) 2 34 ll [] M3 (R0 (fun M' => Sb W2c M M' ∧ (∀ i, i < n → M' 112 i = r i) ∧ BC M' n (updC x (sum + (Om can w n (rem + 1) m).1, appl r (Om can w n (rem + 1) m).2)))) := by
      refine lp ?_ ?_
      · rintro ll M3 ⟨v, rfl, rfl, hS, e1, e2, e3⟩
        refine g3 hC rfl rfl ?_
        refine g19 hC rfl sh110 (Nat.le_of_ble_eq_true rfl) rfl ((hS.fix hw hF).g fx_110_2) ?_
        refine g3 hC rfl rfl ?_
        refine r21 (c) hC rfl rfl sh112 (Or.inl rfl) (by omega) (e1 c hcn) ?_
        refine g0 hC rfl ?_
        refine g13n hC rfl (fun h39 => ?_) (fun h39 => ?_)
        ·
          refine ret0 hC rfl ?_
          have hb : ¬ m.testBit c = true := fun w => h39 (bc.2 w)
          rw [e0, if_neg hb]
          exact ⟨hS, e1, e3 hb⟩
        ·
          refine g3 hC rfl rfl ?_
          refine g3 hC rfl rfl ?_
          refine g13g hC rfl (fun h42 => ?_) (fun h42 => (by omega))
          refine ret0 hC rfl ?_
          have hb : m.testBit c = true := bc.1 (by omega)
          rw [e0, if_pos hb]
          exact ⟨hS, e1, e2 hb⟩
      · rintro k hk ll M3 ⟨v, rfl, rfl, hS, e1, e2, e3⟩ hnext
        obtain ⟨e, he⟩ : ∃ e, e = c + 1 + k := ⟨_, rfl⟩
        have en : e < n := by omega
        have be := hbit e (by omega) en
        have hwo2 := hwo c e (by omega) en
        have hwb2 := hwb c e
        have ei : it F (k + 1) (Om can w n rem m) = F k (it F k (Om can w n rem m)) := rfl
        have hFk : ∀ A, F k A = if m.testBit e && can c e then chs A (w c e + (Om can w n rem (clr m e)).1, (c, e) :: (Om can w n rem (clr m e)).2) else A := by intro A; rw [hFd, he]
        have ee : ((c + 1 + k : Nat) : Int) + 1 = ((c + 1 + (k + 1) : Nat) : Int) := by omega
        have hct := clr_t e (by omega)
        have wcell : ∀ M4, Sb W2c M M4 → M4 (114 + c) e = if can c e then w c e else NOTH := fun M4 hs => (hs _ _ (wbo 113 122 rfl (by omega) (by omega))).trans hwo2
        have skip1 : m.testBit c = true → (m.testBit e && can c e) = false → ax_G L X SH (1 + (rem + 1)) 2 34 [(2, 110), (0, (n : Int)), (0, (c : Int)), (1, sum), (3, 0), (0, ((c + 1 + k : Nat) : Int) + 1)] [] M3 (R0 (fun M' => Sb W2c M M' ∧ (∀ i, i < n → M' 112 i = r i) ∧ BC M' n (updC x (sum + (Om can w n (rem + 1) m).1, appl r (Om can w n (rem + 1) m).2)))) := by
          intro hb hz
          refine hnext _ _ ⟨_, rfl, by rw [ee], hS, e1, fun _ => ?_, fun w => absurd hb w⟩
          rw [ei, hFk, hz]; exact e2 hb
        have hcz := @cmp0 (w c e) NOTH
        have hcn2 := @cmp0 NOTH NOTH
        rw [← he] at skip1 ee ⊢
        have hOc := hO rem (clr m e)
        have a1 : ∀ q, app1 r (c, e) q = if q = e then (c : Int) else if q = c then (e : Int) else r q := by
          intro q; unfold app1 up; rfl
        by_cases hb : m.testBit c = true
        · obtain ⟨A, hA⟩ : ∃ A, A = it F k (Om can w n rem m) := ⟨_, rfl⟩
          rw [← hA] at e2 ei
          have e2' := e2 hb
          by_cases hcan : can c e = true
          · have wc2 : ∀ M4, Sb W2c M M4 → M4 (114 + c) e = w c e := fun M4 hs => by rw [wcell M4 hs, if_pos hcan]
            have ih2 : m.testBit e = true → ∀ M4, Sb W2c M M4 → (∀ i, i < n → M4 112 i = app1 r (c, e) i) → BC M4 n (updC x (sum + A.1, appl r A.2)) → ax_Ev L X SH (1 + rem) 2 [(2, 110), (0, (n : Int)), (0, ((c + 1 : Nat) : Int)), (1, sum + w c e)] M4 (R0 (fun M' => Sb W2c M M' ∧ (∀ i, i < n → M' 112 i = app1 r (c, e) i) ∧ BC M' n (updC (updC x (sum + A.1, appl r A.2)) (sum + w c e + (Om can w n rem (clr m e)).1, appl (app1 r (c, e)) (Om can w n rem (clr m e)).2)))) := by
              intro hbe M4 hs4 hr4 hx4
              refine ih (clr m e) M4 _ (app1 r (c, e)) (sum + w c e) (by omega) (hct 0 (by decide) m hm).2 hs4 hr4 (fun q h1 h2 => ?_) ⟨by omega, by omega⟩ (by omega) hx4 (hx3 _)
              rw [(hct q (by omega) m hm).1, a1 q]
              by_cases y : q = e
              · rw [if_pos y, y]; simp
              · have := hbit q (by omega) h2
                rw [if_neg y, if_neg (by omega), this]
                simp [y]
            refine g3 hC rfl rfl ?_
            refine g19 hC rfl sh110 (Nat.le_of_ble_eq_true rfl) rfl ((hS.fix hw hF).g fx_110_2) ?_
            refine g3 hC rfl rfl ?_
            refine r21 (c) hC rfl rfl sh112 (Or.inl rfl) (by omega) (e1 c hcn) ?_
            refine g0 hC rfl ?_
            refine g13n hC rfl (fun h39 => (by have := bc.2 hb; omega)) (fun h39 => ?_)
            refine g3 hC rfl rfl ?_
            refine g3 hC rfl rfl ?_
            refine g13g hC rfl (fun h42 => (by omega)) (fun h42 => ?_)
            refine g3 hC rfl rfl ?_
            refine g19 hC rfl sh110 (Nat.le_of_ble_eq_true rfl) rfl ((hS.fix hw hF).g fx_110_2) ?_
            refine g3 hC rfl rfl ?_
            refine r21 (e) hC rfl rfl sh112 (Or.inl rfl) (by omega) (e1 e en) ?_
            refine g0 hC rfl ?_
            refine g13n hC rfl (fun h48 => ?_) (fun h48 => ?_)
            ·
              refine n5 hC rfl rfl ⟨by omega, by omega⟩ ?_
              refine g14 hC rfl ?_
              refine skip1 hb ?_
              have : ¬ m.testBit e = true := fun w => h48 (be.2 w)
              simp [this]
            ·
              refine g3 hC rfl rfl ?_
              refine g19 hC rfl sh110 (Nat.le_of_ble_eq_true rfl) rfl ((hS.fix hw hF).g fx_110_3) ?_
              refine g3 hC rfl rfl ?_
              refine r21 (c) hC rfl rfl sh113 (Or.inr ⟨rfl, rfl⟩) (by omega) ((hS.fix hw hF).r (n := 8) (v := 114) rfl (by omega)) ?_
              refine g3 hC rfl rfl ?_
              refine r21 (e) hC rfl rfl (shR114 (by omega)) (Or.inl rfl) (by omega) (wc2 _ hS) ?_
              refine g1 hC rfl ?_
              refine g11 hC rfl ?_
              refine g12e hC rfl (fun h57 => (by unfold NOTH at hcz; omega)) (fun h57 => ?_)
              refine g3 hC rfl rfl ?_
              refine g19 hC rfl sh110 (Nat.le_of_ble_eq_true rfl) rfl ((hS.fix hw hF).g fx_110_2) ?_
              refine g3 hC rfl rfl ?_
              refine g3 hC rfl rfl ?_
              refine r22s (c) hC rfl rfl sh112 (by omega) rfl hS rfl (fun hS => ?_)
              refine g3 hC rfl rfl ?_
              refine g19 hC rfl sh110 (Nat.le_of_ble_eq_true rfl) rfl ((hS.fix hw hF).g fx_110_2) ?_
              refine g3 hC rfl rfl ?_
              refine g3 hC rfl rfl ?_
              refine r22s (e) hC rfl rfl sh112 (by omega) rfl hS rfl (fun hS => ?_)
              refine g3 hC rfl rfl ?_
              refine g3 hC rfl rfl ?_
              refine g3 hC rfl rfl ?_
              refine g0 hC rfl ?_
              refine g6a hC rfl ⟨by omega, by omega⟩ ?_
              refine g3 hC rfl rfl ?_
              refine g3 hC rfl rfl ?_
              refine g19 hC rfl sh110 (Nat.le_of_ble_eq_true rfl) rfl ((hS.fix hw hF).g fx_110_3) ?_
              refine g3 hC rfl rfl ?_
              refine r21 (c) hC rfl rfl sh113 (Or.inr ⟨rfl, rfl⟩) (by omega) ((hS.fix hw hF).r (n := 8) (v := 114) rfl (by omega)) ?_
              refine g3 hC rfl rfl ?_
              refine r21 (e) hC rfl rfl (shR114 (by omega)) (Or.inl rfl) (by omega) (wc2 _ hS) ?_
              refine g7a hC rfl ⟨by omega, by omega⟩ ?_
              rw [show (c : Int) + 1 = ((c + 1 : Nat) : Int) by omega]
              refine c0 hC rfl rfl rfl (Nat.le_of_ble_eq_true rfl) (Nat.le_of_ble_eq_true rfl) rfl (ih2 (be.1 (by omega)) _ hS (fun i hi => by rw [a1, ax_upf, ax_upf]; unfold up; rw [e1 i hi]) e2') (by omega) (fun M5 hrr => ?_)
              obtain ⟨hr0, hr1, hr2⟩ := hrr; have hS := hr0
              refine g3 hC rfl rfl ?_
              refine g19 hC rfl sh110 (Nat.le_of_ble_eq_true rfl) rfl ((hS.fix hw hF).g fx_110_2) ?_
              refine g3 hC rfl rfl ?_
              refine g0 hC rfl ?_
              refine r22s (c) hC rfl rfl sh112 (by omega) rfl hS rfl (fun hS => ?_)
              refine g3 hC rfl rfl ?_
              refine g19 hC rfl sh110 (Nat.le_of_ble_eq_true rfl) rfl ((hS.fix hw hF).g fx_110_2) ?_
              refine g3 hC rfl rfl ?_
              refine g0 hC rfl ?_
              refine r22s (e) hC rfl rfl sh112 (by omega) rfl hS rfl (fun hS => ?_)
              refine n5 hC rfl rfl ⟨by omega, by omega⟩ ?_
              refine g14 hC rfl ?_
              have hbe := be.1 (by omega)
              refine hnext _ _ ⟨_, rfl, by rw [ee], hS, fun i hi => ?_, fun _ => ?_, fun w => absurd hb w⟩
              · rw [ax_upf, ax_upf]; unfold up
                by_cases y : i = e
                · rw [if_pos y, y]; exact (be.2 hbe).symm
                · rw [if_neg y]
                  by_cases y2 : i = c
                  · rw [if_pos y2, y2]; exact (bc.2 hb).symm
                  · rw [if_neg y2, hr1 i hi, a1, if_neg y, if_neg y2]
              · rw [ei, hFk, hbe, hcan]
                rw [updC_2] at hr2
                have eX : (if ((sum + A.1, appl r A.2) : Int × (Nat → Int)).1 < ((sum + w c e + (Om can w n rem (clr m e)).1, appl (app1 r (c, e)) (Om can w n rem (clr m e)).2) : Int × (Nat → Int)).1 then ((sum + w c e + (Om can w n rem (clr m e)).1, appl (app1 r (c, e)) (Om can w n rem (clr m e)).2) : Int × (Nat → Int)) else (sum + A.1, appl r A.2)) = (sum + (chs A (w c e + (Om can w n rem (clr m e)).1, (c, e) :: (Om can w n rem (clr m e)).2)).1, appl r (chs A (w c e + (Om can w n rem (clr m e)).1, (c, e) :: (Om can w n rem (clr m e)).2)).2) := by
                  unfold chs
                  by_cases y : A.1 < w c e + (Om can w n rem (clr m e)).1
                  · rw [if_pos (by dsimp only; omega), if_pos (by dsimp only; exact y)]
                    rw [Int.add_assoc]; rfl
                  · rw [if_neg (by dsimp only; omega), if_neg (by dsimp only; exact y)]
                rw [eX] at hr2
                exact hr2
          · have wc2 : ∀ M4, Sb W2c M M4 → M4 (114 + c) e = NOTH := fun M4 hs => by rw [wcell M4 hs, if_neg hcan]
            refine g3 hC rfl rfl ?_
            refine g19 hC rfl sh110 (Nat.le_of_ble_eq_true rfl) rfl ((hS.fix hw hF).g fx_110_2) ?_
            refine g3 hC rfl rfl ?_
            refine r21 (c) hC rfl rfl sh112 (Or.inl rfl) (by omega) (e1 c hcn) ?_
            refine g0 hC rfl ?_
            refine g13n hC rfl (fun h39 => (by have := bc.2 hb; omega)) (fun h39 => ?_)
            refine g3 hC rfl rfl ?_
            refine g3 hC rfl rfl ?_
            refine g13g hC rfl (fun h42 => (by omega)) (fun h42 => ?_)
            refine g3 hC rfl rfl ?_
            refine g19 hC rfl sh110 (Nat.le_of_ble_eq_true rfl) rfl ((hS.fix hw hF).g fx_110_2) ?_
            refine g3 hC rfl rfl ?_
            refine r21 (e) hC rfl rfl sh112 (Or.inl rfl) (by omega) (e1 e en) ?_
            refine g0 hC rfl ?_
            refine g13n hC rfl (fun h48 => ?_) (fun h48 => ?_)
            ·
              refine n5 hC rfl rfl ⟨by omega, by omega⟩ ?_
              refine g14 hC rfl ?_
              refine skip1 hb ?_
              simp [hcan]
            ·
              refine g3 hC rfl rfl ?_
              refine g19 hC rfl sh110 (Nat.le_of_ble_eq_true rfl) rfl ((hS.fix hw hF).g fx_110_3) ?_
              refine g3 hC rfl rfl ?_
              refine r21 (c) hC rfl rfl sh113 (Or.inr ⟨rfl, rfl⟩) (by omega) ((hS.fix hw hF).r (n := 8) (v := 114) rfl (by omega)) ?_
              refine g3 hC rfl rfl ?_
              refine r21 (e) hC rfl rfl (shR114 (by omega)) (Or.inl rfl) (by omega) (wc2 _ hS) ?_
              refine g1 hC rfl ?_
              refine g11 hC rfl ?_
              refine g12e hC rfl (fun h57 => ?_) (fun h57 => (by unfold NOTH at h57 hcn2; omega))
              refine n5 hC rfl rfl ⟨by omega, by omega⟩ ?_
              refine g14 hC rfl ?_
              refine skip1 hb ?_
              simp [hcan]
        · skip
          refine g3 hC rfl rfl ?_
          refine g19 hC rfl sh110 (Nat.le_of_ble_eq_true rfl) rfl ((hS.fix hw hF).g fx_110_2) ?_
          refine g3 hC rfl rfl ?_
          refine r21 (c) hC rfl rfl sh112 (Or.inl rfl) (by omega) (e1 c hcn) ?_
          refine g0 hC rfl ?_
          refine g13n hC rfl (fun h39 => ?_) (fun h39 => (by exact absurd (bc.1 (by omega)) hb))
          refine ret0 hC rfl ?_
          rw [e0, if_neg hb]
          exact ⟨hS, e1, e3 hb⟩
    have ih1 := ih m M1 x r sum (by omega) hm hS hr (fun q h1 h2 => hbit q (by omega) h2) ⟨hs1.1, by omega⟩ (by omega) hx hx1
    have hOm := hO rem m
    refine g3 hC rfl rfl ?_
    refine g3 hC rfl rfl ?_
    refine g13g hC rfl (fun h2 => (by omega)) (fun h2 => ?_)
    refine g3 hC rfl rfl ?_
    refine g0 hC rfl ?_
    refine g13l hC rfl (fun h5 => ?_) (fun h5 => (by omega))
    refine g3 hC rfl rfl ?_
    refine g3 hC rfl rfl ?_
    refine g3 hC rfl rfl ?_
    refine g0 hC rfl ?_
    refine g6a hC rfl ⟨by omega, by omega⟩ ?_
    refine g3 hC rfl rfl ?_
    rw [show (c : Int) + 1 = ((c + 1 : Nat) : Int) by omega]
    refine c0 hC rfl rfl rfl (Nat.le_of_ble_eq_true rfl) (Nat.le_of_ble_eq_true rfl) rfl ih1 (by omega) (fun M2 hrr => ?_)
    refine g3 hC rfl rfl ?_
    refine g0 hC rfl ?_
    refine g6a hC rfl ⟨by omega, by omega⟩ ?_
    refine s5 hC rfl rfl rfl ?_
    refine l1 rem 0 (Nat.zero_add _) _ _ ⟨_, rfl, rfl, hrr.1, hrr.2.1, fun _ => hrr.2.2, fun _ => hrr.2.2⟩
end COU
