def bt (q : Nat → Int) (m : Nat) : Nat := it (fun k b => if q k = 1 then b ||| 1 <<< k else b) m 0
def al (q : Nat → Int) (o : Nat → Nat → Int) (c k m : Nat) : Int := it (fun j (n : Int) => if q k = 1 ∧ q j = 1 ∧ o k c = o j c then n + 1 else n) m 0
def mo (q : Nat → Int) (o : Nat → Nat → Int) (c m : Nat) : Int := it (fun k (x : Int) => max x (al q o c k 11)) m 0
def ask1 (q : Nat → Int) (o : Nat → Nat → Int) (c : Nat) (x : Int × Int) : Int × Int := if 0 < mo q o c 11 ∧ (x.1 = -1 ∨ mo q o c 11 < x.2) then ((c : Int), mo q o c 11) else x
def askN (q : Nat → Int) (o : Nat → Nat → Int) (m : Nat) : Int × Int := it (ask1 q o) m (-1, -1)
theorem bt_b {q : Nat → Int} : ∀ m : Nat, bt q m < 2 ^ m := by
  intro m
  induction m with
  | zero => exact Nat.one_pos
  | succ m ih =>
    have e : bt q (m + 1) = if q m = 1 then bt q m ||| 1 <<< m else bt q m := rfl
    have e2 : 2 ^ (m + 1) = 2 ^ m + 2 ^ m := by rw [Nat.pow_succ]; omega
    rw [e]; split
    · refine Nat.or_lt_two_pow (by omega) ?_
      rw [Nat.shiftLeft_eq, Nat.one_mul, e2]
      have := Nat.two_pow_pos m
      omega
    · omega
theorem al_b {q : Nat → Int} {o : Nat → Nat → Int} {c k : Nat} : ∀ m : Nat, 0 ≤ al q o c k m ∧ al q o c k m ≤ m := by
  intro m
  induction m with
  | zero => exact ⟨Int.le_refl 0, Int.le_refl 0⟩
  | succ m ih =>
    have e : al q o c k (m + 1) = if q k = 1 ∧ q m = 1 ∧ o k c = o m c then al q o c k m + 1 else al q o c k m := rfl
    rw [e]; split <;> omega
theorem mo_b {q : Nat → Int} {o : Nat → Nat → Int} {c : Nat} : ∀ m : Nat, 0 ≤ mo q o c m ∧ mo q o c m ≤ 11 := by
  intro m
  induction m with
  | zero => exact ⟨Int.le_refl 0, by show (0 : Int) ≤ 11; decide⟩
  | succ m ih =>
    have e : mo q o c (m + 1) = max (mo q o c m) (al q o c m 11) := rfl
    have := al_b (q := q) (o := o) (c := c) (k := m) 11
    rw [e]; omega
theorem al_0 {q : Nat → Int} {o : Nat → Nat → Int} {c k : Nat} (h : q k ≠ 1) : ∀ m : Nat, al q o c k m = 0 := by
  intro m
  induction m with
  | zero => rfl
  | succ m ih =>
    have e : al q o c k (m + 1) = if q k = 1 ∧ q m = 1 ∧ o k c = o m c then al q o c k m + 1 else al q o c k m := rfl
    rw [e, if_neg (fun w => h w.1)]; exact ih
theorem al_1 {q : Nat → Int} {o : Nat → Nat → Int} {c k : Nat} (h : q k = 1) : ∀ m : Nat, k < m → 1 ≤ al q o c k m := by
  intro m
  induction m with
  | zero => intro h; omega
  | succ m ih =>
    intro hk
    have e : al q o c k (m + 1) = if q k = 1 ∧ q m = 1 ∧ o k c = o m c then al q o c k m + 1 else al q o c k m := rfl
    have := al_b (q := q) (o := o) (c := c) (k := k) m
    rw [e]
    by_cases z : k = m
    · rw [if_pos ⟨h, by rw [← z]; exact h, by rw [z]⟩]; omega
    · split
      · omega
      · exact ih (by omega)
theorem mo_1 {q : Nat → Int} {o : Nat → Nat → Int} {c k : Nat} (h : q k = 1) (hk11 : k < 11) : ∀ m : Nat, k < m → 1 ≤ mo q o c m := by
  intro m
  induction m with
  | zero => intro h; omega
  | succ m ih =>
    intro hk
    have e : mo q o c (m + 1) = max (mo q o c m) (al q o c m 11) := rfl
    rw [e]
    by_cases z : k = m
    · have := al_1 (o := o) (c := c) h 11 hk11
      rw [← z]; omega
    · have := ih (by omega); omega
theorem mo_0 {q : Nat → Int} {o : Nat → Nat → Int} {c : Nat} : ∀ m : Nat, (∀ k, k < m → q k ≠ 1) → mo q o c m = 0 := by
  intro m
  induction m with
  | zero => intro _; rfl
  | succ m ih =>
    intro h
    have e : mo q o c (m + 1) = max (mo q o c m) (al q o c m 11) := rfl
    rw [e, ih (fun k hk => h k (by omega)), al_0 (h m (by omega)) 11]; rfl
section WHO
variable {L : Nat} {X : Nat → Int} {M V : ax_M} {h n : Nat}
theorem m83 (hF : Fix M) {q : Nat → Int} (hq : ∀ s, s < 11 → M 125 s = q s ∧ (q s = 0 ∨ q s = 1)) : ax_Ev L X SH 0 83 [(2, 122)] M (R1 0 (fun x M' => x = (bt q 10 : Int) ∧ M' = M)) := by
  show ax_G L X SH 0 83 0 [(2, 122), (3, 0), (3, 0)] [] M _
  have hC := at83
  have hw := wX0
  have l1 : ∀ (m k : Nat), k + m = 10 → ∀ ll M1, (ll = [(2, 122), (0, (bt q k : Int)), (0, (k : Int))] ∧ M1 = M) → ax_G L X SH 0 83 4 ll [] M1 (R1 0 (fun x M' => x = (bt q 10 : Int) ∧ M' = M)) := by
    refine lp ?_ ?_
    · rintro ll M1 ⟨rfl, rfl⟩
      have hS : Sb X0 M1 M1 := Sb.refl
      refine g3 hC rfl rfl ?_
      refine g0 hC rfl ?_
      refine g13g hC rfl (fun h6 => ?_) (fun h6 => (by omega))
      refine g3 hC rfl rfl ?_
      refine ret1 hC rfl rfl ?_
      exact ⟨rfl, rfl⟩
    · rintro k hk ll M1 ⟨rfl, rfl⟩ hnext
      have hS : Sb X0 M1 M1 := Sb.refl
      have hb := bt_b (q := q) k
      have hp : 2 ^ k ≤ 2 ^ 10 := Nat.pow_le_pow_right (by decide) (by omega)
      have hs1 : 1 <<< k = 2 ^ k := by rw [Nat.shiftLeft_eq, Nat.one_mul]
      have hs0 : 0 <<< k = 0 := by rw [Nat.shiftLeft_eq, Nat.zero_mul]
      have e : bt q (k + 1) = if q k = 1 then bt q k ||| 1 <<< k else bt q k := rfl
      have hqk := hq k (by omega)
      rcases hqk with ⟨h1, h0 | h0⟩
      · skip
        refine g3 hC rfl rfl ?_
        refine g0 hC rfl ?_
        refine g13g hC rfl (fun h6 => (by omega)) (fun h6 => ?_)
        refine g3 hC rfl rfl ?_
        refine g3 hC rfl rfl ?_
        refine g19 hC rfl sh122 (Nat.le_of_ble_eq_true rfl) rfl ((hS.fix hw hF).g fx_122_3) ?_
        refine g3 hC rfl rfl ?_
        refine r21 (k) hC rfl (by omega) sh125 (Or.inl rfl) (by omega) ((h1.trans h0 : M1 125 k = ((0 : Nat) : Int))) ?_
        refine g3 hC rfl rfl ?_
        refine g6 hC rfl (congrArg some (shlN (a := 0) (k := k) (by omega) (by omega))) ?_
        refine g6 hC rfl (congrArg some (orN (by omega) (by omega))) ?_
        refine s1 hC rfl rfl rfl ?_
        refine n2 hC rfl rfl ⟨by omega, by omega⟩ ?_
        refine g14 hC rfl ?_
        refine hnext _ _ ⟨?_, rfl⟩
        rw [e, if_neg (by omega), hs0, Nat.or_zero]; rfl
      · skip
        refine g3 hC rfl rfl ?_
        refine g0 hC rfl ?_
        refine g13g hC rfl (fun h6 => (by omega)) (fun h6 => ?_)
        refine g3 hC rfl rfl ?_
        refine g3 hC rfl rfl ?_
        refine g19 hC rfl sh122 (Nat.le_of_ble_eq_true rfl) rfl ((hS.fix hw hF).g fx_122_3) ?_
        refine g3 hC rfl rfl ?_
        refine r21 (k) hC rfl (by omega) sh125 (Or.inl rfl) (by omega) ((h1.trans h0 : M1 125 k = ((1 : Nat) : Int))) ?_
        refine g3 hC rfl rfl ?_
        refine g6 hC rfl (congrArg some (shlN (a := 1) (k := k) (by omega) (by omega))) ?_
        refine g6 hC rfl (congrArg some (orN (by omega) (by omega))) ?_
        refine s1 hC rfl rfl rfl ?_
        refine n2 hC rfl rfl ⟨by omega, by omega⟩ ?_
        refine g14 hC rfl ?_
        refine hnext _ _ ⟨?_, rfl⟩
        rw [e, if_pos h0]; rfl
  refine g0 hC rfl ?_
  refine s1 hC rfl rfl rfl ?_
  refine g0 hC rfl ?_
  refine s2 hC rfl rfl rfl ?_
  exact l1 10 0 rfl _ _ ⟨rfl, rfl⟩
theorem m85 (hF : Fix M) {q : Nat → Int} {o : Nat → Nat → Int} (hq : ∀ s, s < 11 → M 125 s = q s) {c : Nat} (hc : c < 8) (ho : ∀ s, s < 11 → q s = 1 → M (127 + s) c = o s c) : ax_Ev L X SH 1 85 [(2, 122), (0, (c : Int))] M (R1 0 (fun x M' => x = mo q o c 11 ∧ M' = M)) := by
  show ax_G L X SH 1 85 0 [(2, 122), (0, (c : Int)), (3, 0), (3, 0), (3, 0), (3, 0)] [] M _
  have hC := at85
  have hw := wX0
  have l1 : ∀ (m k : Nat), k + m = 11 → ∀ ll M1, (∃ v4 v5, ll = [(2, 122), (0, (c : Int)), (0, mo q o c k), (0, (k : Int)), v4, v5] ∧ M1 = M) → ax_G L X SH 1 85 4 ll [] M1 (R1 0 (fun x M' => x = mo q o c 11 ∧ M' = M)) := by
    refine lp ?_ ?_
    · rintro ll M1 ⟨v4, v5, rfl, rfl⟩
      have hS : Sb X0 M1 M1 := Sb.refl
      refine g3 hC rfl rfl ?_
      refine g0 hC rfl ?_
      refine g13t hC rfl (fun h6 => ?_) (fun h6 => (by omega))
      refine g3 hC rfl rfl ?_
      refine ret1 hC rfl rfl ?_
      exact ⟨rfl, rfl⟩
    · rintro k hk ll M1 ⟨v4, v5, rfl, rfl⟩ hnext
      have hS : Sb X0 M1 M1 := Sb.refl
      have l2 : ∀ (m j : Nat), j + m = 11 → ∀ ll M2, (ll = [(2, 122), (0, (c : Int)), (0, mo q o c k), (0, (k : Int)), (0, al q o c k j), (0, (j : Int))] ∧ M2 = M1) → ax_G L X SH 1 85 11 ll [] M2 (R1 0 (fun x M' => x = mo q o c 11 ∧ M' = M1)) := by
        refine lp ?_ ?_
        · rintro ll M1 ⟨rfl, rfl⟩
          refine g3 hC rfl rfl ?_
          refine g0 hC rfl ?_
          refine g13t hC rfl (fun h13 => ?_) (fun h13 => (by omega))
          refine g3 hC rfl rfl ?_
          refine g3 hC rfl rfl ?_
          refine c1 hC rfl rfl rfl (Nat.le_of_ble_eq_true rfl) (Nat.le_of_ble_eq_true rfl) rfl (m304) (Nat.le_of_ble_eq_true rfl) (fun x M2 hr => ?_)
          obtain ⟨rfl, hr⟩ := hr
          replace hr := hr.symm
          subst hr
          refine s2 hC rfl rfl rfl ?_
          refine n3 hC rfl rfl ⟨by omega, by omega⟩ ?_
          refine g14 hC rfl ?_
          exact hnext _ _ ⟨_, _, rfl, rfl⟩
        · rintro j hj ll M1 ⟨rfl, rfl⟩ hnx
          have b1 := al_b (q := q) (o := o) (c := c) (k := k) j
          have e : al q o c k (j + 1) = if q k = 1 ∧ q j = 1 ∧ o k c = o j c then al q o c k j + 1 else al q o c k j := rfl
          have q1 := hq k hk
          have q2 := hq j hj
          refine g3 hC rfl rfl ?_
          refine g0 hC rfl ?_
          refine g13t hC rfl (fun h13 => (by omega)) (fun h13 => ?_)
          refine g3 hC rfl rfl ?_
          refine g19 hC rfl sh122 (Nat.le_of_ble_eq_true rfl) rfl ((hS.fix hw hF).g fx_122_3) ?_
          refine g3 hC rfl rfl ?_
          refine r21 (k) hC rfl rfl rfl (Or.inl rfl) (by omega) q1 ?_
          refine g0 hC rfl ?_
          refine g13n hC rfl (fun h19 => ?_) (fun h19 => ?_)
          ·
            refine n5 hC rfl rfl ⟨by omega, by omega⟩ ?_
            refine g14 hC rfl ?_
            exact hnx _ _ ⟨by rw [e, if_neg (fun w => h19 w.1)]; rfl, rfl⟩
          ·
            refine g3 hC rfl rfl ?_
            refine g19 hC rfl sh122 (Nat.le_of_ble_eq_true rfl) rfl ((hS.fix hw hF).g fx_122_3) ?_
            refine g3 hC rfl rfl ?_
            refine r21 (j) hC rfl rfl rfl (Or.inl rfl) (by omega) q2 ?_
            refine g0 hC rfl ?_
            refine g13n hC rfl (fun h25 => ?_) (fun h25 => ?_)
            ·
              refine n5 hC rfl rfl ⟨by omega, by omega⟩ ?_
              refine g14 hC rfl ?_
              exact hnx _ _ ⟨by rw [e, if_neg (fun w => h25 w.2.1)]; rfl, rfl⟩
            ·
              refine g3 hC rfl rfl ?_
              refine g19 hC rfl sh122 (Nat.le_of_ble_eq_true rfl) rfl ((hS.fix hw hF).g fx_122_4) ?_
              refine g3 hC rfl rfl ?_
              refine r21 (k) hC rfl (by omega) sh126 (Or.inl rfl) (by omega) ((hS.fix hw hF).r (n := 11) (v := 127) rfl (by omega)) ?_
              refine g3 hC rfl rfl ?_
              refine r21 (c) hC rfl rfl (shR127 hk) (Or.inl rfl) (by omega) (ho k hk (by omega)) ?_
              refine g3 hC rfl rfl ?_
              refine g19 hC rfl sh122 (Nat.le_of_ble_eq_true rfl) rfl ((hS.fix hw hF).g fx_122_4) ?_
              refine g3 hC rfl rfl ?_
              refine r21 (j) hC rfl (by omega) sh126 (Or.inl rfl) (by omega) ((hS.fix hw hF).r (n := 11) (v := 127) rfl (by omega)) ?_
              refine g3 hC rfl rfl ?_
              refine r21 (c) hC rfl rfl (shR127 hj) (Or.inl rfl) (by omega) (ho j hj (by omega)) ?_
              refine g13n hC rfl (fun h38 => ?_) (fun h38 => ?_)
              ·
                refine n5 hC rfl rfl ⟨by omega, by omega⟩ ?_
                refine g14 hC rfl ?_
                exact hnx _ _ ⟨by rw [e, if_neg (fun w => h38 w.2.2)]; rfl, rfl⟩
              ·
                refine n4 hC rfl rfl ⟨by omega, by omega⟩ ?_
                refine n5 hC rfl rfl ⟨by omega, by omega⟩ ?_
                refine g14 hC rfl ?_
                exact hnx _ _ ⟨by rw [e, if_pos ⟨by omega, by omega, by omega⟩]; rfl, rfl⟩
      refine g3 hC rfl rfl ?_
      refine g0 hC rfl ?_
      refine g13t hC rfl (fun h6 => (by omega)) (fun h6 => ?_)
      refine g0 hC rfl ?_
      refine s4 hC rfl rfl rfl ?_
      refine g0 hC rfl ?_
      refine s5 hC rfl rfl rfl ?_
      exact l2 11 0 rfl _ _ ⟨rfl, rfl⟩
  refine g0 hC rfl ?_
  refine s2 hC rfl rfl rfl ?_
  refine g0 hC rfl ?_
  refine s3 hC rfl rfl rfl ?_
  exact l1 11 0 rfl _ _ ⟨_, _, rfl, rfl⟩
theorem m84 (hF : Fix M) {q : Nat → Int} {o : Nat → Nat → Int} {nc : Nat} (hnc : nc ≤ 8) (hq : ∀ s, s < 11 → M 125 s = q s) (ho : ∀ c, c < nc → ∀ s, s < 11 → q s = 1 → M (127 + s) c = o s c) : ax_Ev L X SH 2 84 [(2, 122), (0, (nc : Int))] M (R0 (fun M' => Sb W84 M M' ∧ M' 122 5 = (askN q o nc).1 ∧ M' 122 6 = (askN q o nc).2)) := by
  show ax_G L X SH 2 84 0 [(2, 122), (0, (nc : Int)), (3, 0), (3, 0)] [] M _
  have hC := at84
  have hw : wok W84 = true := by decide +kernel
  have hS : Sb W84 M M := Sb.refl
  have l1 : ∀ (m c : Nat), c + m = nc → ∀ ll M1, (∃ v, ll = [(2, 122), (0, (nc : Int)), (0, (c : Int)), v] ∧ Sb W84 M M1 ∧ M1 122 5 = (askN q o c).1 ∧ M1 122 6 = (askN q o c).2) → ax_G L X SH 2 84 8 ll [] M1 (R0 (fun M' => Sb W84 M M' ∧ M' 122 5 = (askN q o nc).1 ∧ M' 122 6 = (askN q o nc).2)) := by
    refine lp ?_ ?_
    · rintro ll M1 ⟨v, rfl, hS, e1, e2⟩
      refine g3 hC rfl rfl ?_
      refine g3 hC rfl rfl ?_
      refine g13g hC rfl (fun h10 => ?_) (fun h10 => (by omega))
      refine ret0 hC rfl ?_
      exact ⟨hS, e1, e2⟩
    · rintro c hc ll M1 ⟨v, rfl, hS, e1, e2⟩ hnext
      have es : askN q o (c + 1) = ask1 q o c (askN q o c) := rfl
      rw [es] at hnext
      generalize askN q o c = x at *
      refine g3 hC rfl rfl ?_
      refine g3 hC rfl rfl ?_
      refine g13g hC rfl (fun h10 => (by omega)) (fun h10 => ?_)
      refine g3 hC rfl rfl ?_
      refine g3 hC rfl rfl ?_
      refine c1 hC rfl rfl rfl (Nat.le_of_ble_eq_true rfl) (Nat.le_of_ble_eq_true rfl) rfl (m85 (hS.fix hw hF) (q := q) (o := o) (fun s hs => (hS 125 s rfl).trans (hq s hs)) (by omega) (fun s hs hf => (hS _ _ (wbo 127 138 rfl (by omega) (by omega))).trans (ho c hc s hs hf))) (Nat.le_of_ble_eq_true rfl) (fun x M2 hr => ?_)
      obtain ⟨rfl, hr⟩ := hr
      replace hr := hr.symm
      subst hr
      refine s3 hC rfl rfl rfl ?_
      refine g3 hC rfl rfl ?_
      refine g12s hC rfl (fun h16 => ?_) (fun h16 => ?_)
      ·
        refine n2 hC rfl rfl ⟨by omega, by omega⟩ ?_
        refine g14 hC rfl ?_
        refine hnext _ _ ⟨_, rfl, hS, ?_, ?_⟩
        · rw [show ask1 q o c x = x from if_neg (fun w => by have := w.1; omega)]; exact e1
        · rw [show ask1 q o c x = x from if_neg (fun w => by have := w.1; omega)]; exact e2
      ·
        refine g3 hC rfl rfl ?_
        refine g19 hC rfl sh122 (Nat.le_of_ble_eq_true rfl) rfl e1 ?_
        refine g0 hC rfl ?_
        refine g13e hC rfl (fun h20 => ?_) (fun h20 => ?_)
        ·
          refine g3 hC rfl rfl ?_
          refine g3 hC rfl rfl ?_
          refine g20s hC rfl sh122 (Nat.le_of_ble_eq_true rfl) rfl hS rfl (fun hS => ?_)
          refine g3 hC rfl rfl ?_
          refine g3 hC rfl rfl ?_
          refine g20s hC rfl sh122 (Nat.le_of_ble_eq_true rfl) rfl hS rfl (fun hS => ?_)
          refine n2 hC rfl rfl ⟨by omega, by omega⟩ ?_
          refine g14 hC rfl ?_
          have ec : ask1 q o c x = ((c : Int), mo q o c 11) := if_pos ⟨by omega, Or.inl h20⟩
          refine hnext _ _ ⟨_, rfl, hS, ?_, ?_⟩
          · rw [ec, ax_up_of (by decide), ax_up_at]
          · rw [ec, ax_up_at]
        ·
          refine g3 hC rfl rfl ?_
          refine g3 hC rfl rfl ?_
          refine g19 hC rfl sh122 (Nat.le_of_ble_eq_true rfl) rfl e2 ?_
          refine g13g hC rfl (fun h24 => ?_) (fun h24 => ?_)
          ·
            refine n2 hC rfl rfl ⟨by omega, by omega⟩ ?_
            refine g14 hC rfl ?_
            have ec : ask1 q o c x = x := if_neg (fun w => by have := w.2; omega)
            refine hnext _ _ ⟨_, rfl, hS, ?_, ?_⟩
            · rw [ec]; exact e1
            · rw [ec]; exact e2
          ·
            refine g3 hC rfl rfl ?_
            refine g3 hC rfl rfl ?_
            refine g20s hC rfl sh122 (Nat.le_of_ble_eq_true rfl) rfl hS rfl (fun hS => ?_)
            refine g3 hC rfl rfl ?_
            refine g3 hC rfl rfl ?_
            refine g20s hC rfl sh122 (Nat.le_of_ble_eq_true rfl) rfl hS rfl (fun hS => ?_)
            refine n2 hC rfl rfl ⟨by omega, by omega⟩ ?_
            refine g14 hC rfl ?_
            have ec : ask1 q o c x = ((c : Int), mo q o c 11) := if_pos ⟨by omega, Or.inr (by omega)⟩
            refine hnext _ _ ⟨_, rfl, hS, ?_, ?_⟩
            · rw [ec, ax_up_of (by decide), ax_up_at]
            · rw [ec, ax_up_at]
  refine g3 hC rfl rfl ?_
  refine g0 hC rfl ?_
  refine g20s hC rfl sh122 (Nat.le_of_ble_eq_true rfl) rfl hS rfl (fun hS => ?_)
  refine g3 hC rfl rfl ?_
  refine g0 hC rfl ?_
  refine g20s hC rfl sh122 (Nat.le_of_ble_eq_true rfl) rfl hS rfl (fun hS => ?_)
  refine g0 hC rfl ?_
  refine s2 hC rfl rfl rfl ?_
  exact l1 nc 0 (Nat.zero_add _) _ _ ⟨_, rfl, hS, (ax_up_of (by decide)).trans ax_up_at, ax_up_at⟩
abbrev fvM (M : ax_M) (h : Nat) : Nat → Int := fv M h (M 123) (M 124) (sN M)
theorem m81' (hF : Fix M) (hh : h = 9 ∨ h = 27) (hG : GG n h M) : ax_Ev L X SH 6 81 [(2, 122), (2, (h : Int)), (2, 45), (2, 71)] M (R0 (fun M' => Sb W81 M M' ∧ FC M h (M 123) (M 124) (sN M) 11 M')) := by
  obtain ⟨⟨g1, g2, g3⟩, g4⟩ := hG.2.2.2.2.2.2.2.2.1
  exact m81 hF hh HV.refl hG.1 hG.2.1 hG.2.2.1 g1 g2 (fun k hk => ⟨(g4 k hk).1.1, (g4 k hk).1.2.1⟩)
theorem m125 (hF : Fix M) (hh : h = 9 ∨ h = 27) (hG : GG n h M) {a : Int} : ax_Ev L X SH 7 125 [(2, 0), (0, a)] M (R1 0 (fun x M' => x = (if a = 0 then (bt (fvM M h) 10 : Int) else if a = 1 then fvM M h 10 else -1) ∧ Sb W81 M M')) := by
  show ax_G L X SH 7 125 0 [(2, 0), (0, a)] [] M _
  have hC := at125
  have hw : wok W81 = true := by decide +kernel
  have hS : Sb W81 M M := Sb.refl
  have hH3 : M 0 3 = (h : Int) := hG.2.2.2.2.2.2.2.2.2.1.1
  refine g3 hC rfl rfl ?_
  refine g12e hC rfl (fun h1 => ?_) (fun h1 => ?_)
  ·
    refine g3 hC rfl rfl ?_
    refine g19 hC rfl rfl (Nat.le_of_ble_eq_true rfl) rfl ((hS.fix hw hF).g rfl) ?_
    refine g3 hC rfl rfl ?_
    refine g19 hC rfl rfl (Nat.le_of_ble_eq_true rfl) rfl ((hS _ _ rfl).trans hH3) ?_
    refine g3 hC rfl rfl ?_
    refine g19 hC rfl rfl (Nat.le_of_ble_eq_true rfl) rfl ((hS.fix hw hF).g rfl) ?_
    refine g3 hC rfl rfl ?_
    refine g19 hC rfl rfl (Nat.le_of_ble_eq_true rfl) rfl ((hS.fix hw hF).g rfl) ?_
    refine c0 hC rfl rfl rfl (Nat.le_of_ble_eq_true rfl) (Nat.le_of_ble_eq_true rfl) rfl (m81' hF hh hG) (Nat.le_of_ble_eq_true rfl) (fun M2 hr => ?_)
    obtain ⟨hr0, hrr⟩ := hr; have hS := hS.then hr0 rfl
    refine g3 hC rfl rfl ?_
    refine g12n hC rfl (fun h17 => ?_) (fun h17 => ?_)
    ·
      refine g3 hC rfl rfl ?_
      refine g19 hC rfl rfl (Nat.le_of_ble_eq_true rfl) rfl ((hS.fix hw hF).g rfl) ?_
      refine g19 hC rfl sh122 (Nat.le_of_ble_eq_true rfl) rfl ((hS.fix hw hF).g fx_122_3) ?_
      refine g0 hC rfl ?_
      refine r21 (10) hC rfl (by omega) sh125 (Or.inl rfl) (by omega) (hrr 10 (by decide)).1 ?_
      refine ret1 hC rfl rfl ?_
      exact absurd h1 h17
    ·
      refine g3 hC rfl rfl ?_
      refine g19 hC rfl rfl (Nat.le_of_ble_eq_true rfl) rfl ((hS.fix hw hF).g rfl) ?_
      refine c1 hC rfl rfl rfl (Nat.le_of_ble_eq_true rfl) (Nat.le_of_ble_eq_true rfl) rfl (m83 (hS.fix hw hF) (fun s hs => ⟨(hrr s hs).1, fv_b⟩)) (Nat.le_of_ble_eq_true rfl) (fun x M2 hr => ?_)
      obtain ⟨rfl, hr⟩ := hr
      replace hr := hr.symm
      subst hr
      refine g14 hC rfl ?_
      refine ret1 hC rfl rfl ?_
      exact ⟨by rw [if_pos h1], hS⟩
  ·
    refine g3 hC rfl rfl ?_
    refine g0 hC rfl ?_
    refine g13e hC rfl (fun h4 => ?_) (fun h4 => ?_)
    ·
      refine g3 hC rfl rfl ?_
      refine g19 hC rfl rfl (Nat.le_of_ble_eq_true rfl) rfl ((hS.fix hw hF).g rfl) ?_
      refine g3 hC rfl rfl ?_
      refine g19 hC rfl rfl (Nat.le_of_ble_eq_true rfl) rfl ((hS _ _ rfl).trans hH3) ?_
      refine g3 hC rfl rfl ?_
      refine g19 hC rfl rfl (Nat.le_of_ble_eq_true rfl) rfl ((hS.fix hw hF).g rfl) ?_
      refine g3 hC rfl rfl ?_
      refine g19 hC rfl rfl (Nat.le_of_ble_eq_true rfl) rfl ((hS.fix hw hF).g rfl) ?_
      refine c0 hC rfl rfl rfl (Nat.le_of_ble_eq_true rfl) (Nat.le_of_ble_eq_true rfl) rfl (m81' hF hh hG) (Nat.le_of_ble_eq_true rfl) (fun M2 hr => ?_)
      obtain ⟨hr0, hrr⟩ := hr; have hS := hS.then hr0 rfl
      refine g3 hC rfl rfl ?_
      refine g12n hC rfl (fun h17 => ?_) (fun h17 => ?_)
      ·
        refine g3 hC rfl rfl ?_
        refine g19 hC rfl rfl (Nat.le_of_ble_eq_true rfl) rfl ((hS.fix hw hF).g rfl) ?_
        refine g19 hC rfl sh122 (Nat.le_of_ble_eq_true rfl) rfl ((hS.fix hw hF).g fx_122_3) ?_
        refine g0 hC rfl ?_
        refine r21 (10) hC rfl (by omega) sh125 (Or.inl rfl) (by omega) (hrr 10 (by decide)).1 ?_
        refine ret1 hC rfl rfl ?_
        exact ⟨by rw [if_neg h1, if_pos h4], hS⟩
      ·
        refine g3 hC rfl rfl ?_
        refine g19 hC rfl rfl (Nat.le_of_ble_eq_true rfl) rfl ((hS.fix hw hF).g rfl) ?_
        refine c1 hC rfl rfl rfl (Nat.le_of_ble_eq_true rfl) (Nat.le_of_ble_eq_true rfl) rfl (m83 (hS.fix hw hF) (fun s hs => ⟨(hrr s hs).1, fv_b⟩)) (Nat.le_of_ble_eq_true rfl) (fun x M2 hr => ?_)
        obtain ⟨rfl, hr⟩ := hr
        replace hr := hr.symm
        subst hr
        refine g14 hC rfl ?_
        refine ret1 hC rfl rfl ?_
        exact absurd h17 (by omega)
    ·
      refine g0 hC rfl ?_
      refine ret1 hC rfl rfl ?_
      exact ⟨by rw [if_neg h1, if_neg h4], hS⟩
theorem m126 (hF : Fix M) (hh : h = 9 ∨ h = 27) (hG : GG n h M) {a : Int} : ax_Ev L X SH 7 126 [(2, 0), (0, a)] M (R1 0 (fun x M' => x = (if a = 0 then (askN (fvM M h) (oS M h) (nC M h)).1 else if a = 1 then (askN (fvM M h) (oS M h) (nC M h)).2 else -1) ∧ Sb W126 M M')) := by
  show ax_G L X SH 7 126 0 [(2, 0), (0, a)] [] M _
  have hC := at126
  have hw : wok W126 = true := by decide +kernel
  have hwh : hok W126 h := hokB (by decide +kernel) hh
  have hV : HV M h M := HV.refl
  have hW := hG.1
  have hS : Sb W126 M M := Sb.refl
  have hH3 : M 0 3 = (h : Int) := hG.2.2.2.2.2.2.2.2.2.1.1
  have hc8 := hG.1.1.2.2.2.2
  have hfm : ∀ s, fvM M h s = 1 → mb M h s := by
    intro s hs
    by_cases z : mb M h s
    · exact z
    · unfold fvM fv at hs; rw [if_neg (fun w => z w.1)] at hs; omega
  refine g3 hC rfl rfl ?_
  refine g12e hC rfl (fun h1 => ?_) (fun h1 => ?_)
  ·
    refine g3 hC rfl rfl ?_
    refine g19 hC rfl rfl (Nat.le_of_ble_eq_true rfl) rfl ((hS.fix hw hF).g rfl) ?_
    refine g3 hC rfl rfl ?_
    refine g19 hC rfl rfl (Nat.le_of_ble_eq_true rfl) rfl ((hS _ _ rfl).trans hH3) ?_
    refine g3 hC rfl rfl ?_
    refine g19 hC rfl rfl (Nat.le_of_ble_eq_true rfl) rfl ((hS.fix hw hF).g rfl) ?_
    refine g3 hC rfl rfl ?_
    refine g19 hC rfl rfl (Nat.le_of_ble_eq_true rfl) rfl ((hS.fix hw hF).g rfl) ?_
    refine c0 hC rfl rfl rfl (Nat.le_of_ble_eq_true rfl) (Nat.le_of_ble_eq_true rfl) rfl (m81' hF hh hG) (Nat.le_of_ble_eq_true rfl) (fun M2 hr => ?_)
    obtain ⟨hr0, hrr⟩ := hr; have hS := hS.then hr0 rfl
    refine g3 hC rfl rfl ?_
    refine g19 hC rfl rfl (Nat.le_of_ble_eq_true rfl) rfl ((hS.fix hw hF).g rfl) ?_
    refine g3 hC rfl rfl ?_
    refine g19 hC rfl rfl (Nat.le_of_ble_eq_true rfl) rfl ((hS _ _ rfl).trans hH3) ?_
    refine g19 hC rfl (shH hh) (Nat.le_of_ble_eq_true rfl) rfl (rd3 hS hwh hV hW) ?_
    refine c0 hC rfl rfl rfl (Nat.le_of_ble_eq_true rfl) (Nat.le_of_ble_eq_true rfl) rfl (m84 (hS.fix hw hF) (q := fvM M h) (o := oS M h) hc8 (fun s hs => (hrr s hs).1) (fun c hc s hs hf => (hrr s hs).2 (hfm s hf) c hc)) (Nat.le_of_ble_eq_true rfl) (fun M2 hr => ?_)
    obtain ⟨hr1, hr2, hr3⟩ := hr; have hS := hS.then hr1 rfl
    refine g3 hC rfl rfl ?_
    refine g12n hC rfl (fun h23 => ?_) (fun h23 => ?_)
    ·
      refine g3 hC rfl rfl ?_
      refine g19 hC rfl rfl (Nat.le_of_ble_eq_true rfl) rfl ((hS.fix hw hF).g rfl) ?_
      refine g19 hC rfl sh122 (Nat.le_of_ble_eq_true rfl) rfl hr3 ?_
      refine ret1 hC rfl rfl ?_
      exact absurd h1 h23
    ·
      refine g3 hC rfl rfl ?_
      refine g19 hC rfl rfl (Nat.le_of_ble_eq_true rfl) rfl ((hS.fix hw hF).g rfl) ?_
      refine g19 hC rfl sh122 (Nat.le_of_ble_eq_true rfl) rfl hr2 ?_
      refine g14 hC rfl ?_
      refine ret1 hC rfl rfl ?_
      exact ⟨by rw [if_pos h1], hS⟩
  ·
    refine g3 hC rfl rfl ?_
    refine g0 hC rfl ?_
    refine g13e hC rfl (fun h4 => ?_) (fun h4 => ?_)
    ·
      refine g3 hC rfl rfl ?_
      refine g19 hC rfl rfl (Nat.le_of_ble_eq_true rfl) rfl ((hS.fix hw hF).g rfl) ?_
      refine g3 hC rfl rfl ?_
      refine g19 hC rfl rfl (Nat.le_of_ble_eq_true rfl) rfl ((hS _ _ rfl).trans hH3) ?_
      refine g3 hC rfl rfl ?_
      refine g19 hC rfl rfl (Nat.le_of_ble_eq_true rfl) rfl ((hS.fix hw hF).g rfl) ?_
      refine g3 hC rfl rfl ?_
      refine g19 hC rfl rfl (Nat.le_of_ble_eq_true rfl) rfl ((hS.fix hw hF).g rfl) ?_
      refine c0 hC rfl rfl rfl (Nat.le_of_ble_eq_true rfl) (Nat.le_of_ble_eq_true rfl) rfl (m81' hF hh hG) (Nat.le_of_ble_eq_true rfl) (fun M2 hr => ?_)
      obtain ⟨hr0, hrr⟩ := hr; have hS := hS.then hr0 rfl
      refine g3 hC rfl rfl ?_
      refine g19 hC rfl rfl (Nat.le_of_ble_eq_true rfl) rfl ((hS.fix hw hF).g rfl) ?_
      refine g3 hC rfl rfl ?_
      refine g19 hC rfl rfl (Nat.le_of_ble_eq_true rfl) rfl ((hS _ _ rfl).trans hH3) ?_
      refine g19 hC rfl (shH hh) (Nat.le_of_ble_eq_true rfl) rfl (rd3 hS hwh hV hW) ?_
      refine c0 hC rfl rfl rfl (Nat.le_of_ble_eq_true rfl) (Nat.le_of_ble_eq_true rfl) rfl (m84 (hS.fix hw hF) (q := fvM M h) (o := oS M h) hc8 (fun s hs => (hrr s hs).1) (fun c hc s hs hf => (hrr s hs).2 (hfm s hf) c hc)) (Nat.le_of_ble_eq_true rfl) (fun M2 hr => ?_)
      obtain ⟨hr1, hr2, hr3⟩ := hr; have hS := hS.then hr1 rfl
      refine g3 hC rfl rfl ?_
      refine g12n hC rfl (fun h23 => ?_) (fun h23 => ?_)
      ·
        refine g3 hC rfl rfl ?_
        refine g19 hC rfl rfl (Nat.le_of_ble_eq_true rfl) rfl ((hS.fix hw hF).g rfl) ?_
        refine g19 hC rfl sh122 (Nat.le_of_ble_eq_true rfl) rfl hr3 ?_
        refine ret1 hC rfl rfl ?_
        exact ⟨by rw [if_neg h1, if_pos h4], hS⟩
      ·
        refine g3 hC rfl rfl ?_
        refine g19 hC rfl rfl (Nat.le_of_ble_eq_true rfl) rfl ((hS.fix hw hF).g rfl) ?_
        refine g19 hC rfl sh122 (Nat.le_of_ble_eq_true rfl) rfl hr2 ?_
        refine g14 hC rfl ?_
        refine ret1 hC rfl rfl ?_
        exact absurd h23 (by omega)
    ·
      refine g0 hC rfl ?_
      refine ret1 hC rfl rfl ?_
      exact ⟨by rw [if_neg h1, if_neg h4], hS⟩
end WHO
