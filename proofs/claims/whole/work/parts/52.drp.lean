section DRP
variable {L : Nat} {X : Nat → Int} {M V : ax_M} {h n : Nat}
theorem sumI_c {f g : Nat → Int} : ∀ m : Nat, (∀ k, k < m → f k = g k) → sumI f m = sumI g m := by
  intro m
  induction m with
  | zero => intro _; rfl
  | succ m ih =>
    intro hf
    have e : ∀ f : Nat → Int, sumI f (m + 1) = sumI f m + f m := fun _ => rfl
    rw [e, e, ih (fun k hk => hf k (by omega)), hf m (by omega)]
theorem sumI_a {f g : Nat → Int} : ∀ m : Nat, sumI (fun k => f k + g k) m = sumI f m + sumI g m := by
  intro m
  induction m with
  | zero => rfl
  | succ m ih =>
    have e : ∀ f : Nat → Int, sumI f (m + 1) = sumI f m + f m := fun _ => rfl
    rw [e, e, e, ih]; omega
theorem tri {u : Nat → Nat → Int} : ∀ n : Nat, (∀ a b, a < n → b < n → u a b = u b a) → sumI (fun a => sumI (fun k => u a (a + 1 + k)) (n - 1 - a)) n = sumI (fun a => sumI (u a) a) n := by
  intro n
  induction n with
  | zero => intro _; rfl
  | succ n ih =>
    intro hu
    have e : ∀ (f : Nat → Int) (m : Nat), sumI f (m + 1) = sumI f m + f m := fun _ _ => rfl
    rw [e, e, show n + 1 - 1 - n = 0 by omega]
    have e1 : sumI (fun a => sumI (fun k => u a (a + 1 + k)) (n + 1 - 1 - a)) n = sumI (fun a => sumI (fun k => u a (a + 1 + k)) (n - 1 - a) + u a n) n := by
      refine sumI_c n (fun a ha => ?_)
      rw [show n + 1 - 1 - a = (n - 1 - a) + 1 by omega, e, show a + 1 + (n - 1 - a) = n by omega]
    rw [e1, sumI_a, ih (fun a b ha hb => hu a b (by omega) (by omega))]
    have e2 : sumI (fun a => u a n) n = sumI (u n) n := sumI_c n (fun a ha => hu a n (by omega) (by omega))
    rw [e2]
    show _ + (0 : Int) = _
    omega
theorem apt_s {a b : Nat} : apt V h a b = apt V h b a := by unfold apt; split <;> split <;> omega
theorem tg_s {sm wd : Int} {a b : Nat} : ∀ m, tg V h sm wd a b m = tg V h sm wd b a m := by
  intro m
  induction m with
  | zero => rfl
  | succ m ih =>
    have e : ∀ a b, tg V h sm wd a b (m + 1) = tg V h sm wd a b m + (if a ≠ b ∧ ow (DD V h sm wd (m + 1)) a ∧ ow (DD V h sm wd (m + 1)) b then 1 else 0) := fun _ _ => rfl
    rw [e, e, ih]
    congr 1
    by_cases z : a ≠ b ∧ ow (DD V h sm wd (m + 1)) a ∧ ow (DD V h sm wd (m + 1)) b
    · rw [if_pos z, if_pos ⟨fun q => z.1 q.symm, z.2.2, z.2.1⟩]
    · rw [if_neg z, if_neg (fun q => z ⟨fun w => q.1 w.symm, q.2.2, q.2.1⟩)]
theorem mt_s {sm wd : Int} {a b : Nat} : mt V h sm wd a b = mt V h sm wd b a := by
  unfold mt
  rw [apt_s, tg_s]
  by_cases z : a < nC V h ∧ b < nC V h ∧ apt V h b a ≤ V h 17
  · rw [if_pos z, if_pos ⟨z.2.1, z.1, z.2.2⟩]
  · rw [if_neg z, if_neg (fun q => z ⟨q.2.1, q.1, q.2.2⟩)]
def sgn (V : ax_M) (h : Nat) (mm : Nat → Nat → Int) (a b : Nat) : Int := if V h 18 ≤ mm a b then 1 else 0
theorem sgn_b {mm : Nat → Nat → Int} {a b : Nat} : 0 ≤ sgn V h mm a b ∧ sgn V h mm a b ≤ 1 := by unfold sgn; split <;> omega
def sgC (V : ax_M) (h : Nat) (mm : Nat → Nat → Int) : Int := sumI (fun a => sumI (fun k => sgn V h mm a (a + 1 + k)) (nC V h - 1 - a)) (nC V h)
def sgRr (V : ax_M) (h : Nat) (mm : Nat → Nat → Int) : Int := sumI (fun a => sumI (sgn V h mm a) a) (nC V h)
theorem sgE {mm : Nat → Nat → Int} (hs : ∀ a b, mm a b = mm b a) : sgC V h mm = sgRr V h mm := tri _ (fun a b _ _ => by unfold sgn; rw [hs])
theorem sgn_s1 {mm : Nat → Nat → Int} {a : Nat} (m : Nat) (hm : m ≤ 8) : 0 ≤ sumI (fun k => sgn V h mm a (a + 1 + k)) m ∧ sumI (fun k => sgn V h mm a (a + 1 + k)) m ≤ 8 := by
  have := sumI_b (f := fun k => sgn V h mm a (a + 1 + k)) (b := 1) (by decide) m (fun k _ => sgn_b)
  omega
theorem sgn_s2 {mm : Nat → Nat → Int} {a : Nat} (m : Nat) (hm : m ≤ 8) : 0 ≤ sumI (sgn V h mm a) m ∧ sumI (sgn V h mm a) m ≤ 8 := by
  have := sumI_b (f := sgn V h mm a) (b := 1) (by decide) m (fun k _ => sgn_b)
  omega
theorem m16 (hF : Fix M) (hh : h = 9 ∨ h = 27) (hV : HV V h M) (hW : HW V h) {mm : Nat → Nat → Int} (hm : ∀ a b, a < 8 → b < 8 → M (95 + a) b = mm a b) : ax_Ev L X SH 0 16 [(2, 71), (2, (h : Int))] M (R1 0 (fun x M' => x = sgC V h mm ∧ M' = M)) := by
  show ax_G L X SH 0 16 0 [(2, 71), (2, (h : Int)), (3, 0), (3, 0), (3, 0)] [] M _
  have hC := at16
  have hw := wX0
  have hwh : hok X0 h := hokB (by decide +kernel) hh
  have hb := hW.1.2.2.2.2
  have l1 : ∀ (m a : Nat), a + m = nC V h → ∀ ll M1, (∃ v, ll = [(2, 71), (2, (h : Int)), (0, sumI (fun a => sumI (fun k => sgn V h mm a (a + 1 + k)) (nC V h - 1 - a)) a), (0, (a : Int)), v] ∧ M1 = M) → ax_G L X SH 0 16 4 ll [] M1 (R1 0 (fun x M' => x = sgC V h mm ∧ M' = M)) := by
    refine lp ?_ ?_
    · rintro ll M1 ⟨v, rfl, rfl⟩
      have hS : Sb X0 M1 M1 := Sb.refl
      refine g3 hC rfl rfl ?_
      refine g3 hC rfl rfl ?_
      refine g19 hC rfl (shH hh) (Nat.le_of_ble_eq_true rfl) rfl (rd3 hS hwh hV hW) ?_
      refine g13g hC rfl (fun h7 => ?_) (fun h7 => (by omega))
      refine g3 hC rfl rfl ?_
      refine ret1 hC rfl rfl ?_
      exact ⟨rfl, rfl⟩
    · rintro a ha ll M1 ⟨v, rfl, rfl⟩ hnext
      have hS : Sb X0 M1 M1 := Sb.refl
      have b1 := sumI_b (f := fun a => sumI (fun k => sgn V h mm a (a + 1 + k)) (nC V h - 1 - a)) (b := 8) (by decide) a (fun k _ => sgn_s1 _ (by omega))
      have l2 : ∀ (m k : Nat), k + m = nC V h - 1 - a → ∀ ll M2, (ll = [(2, 71), (2, (h : Int)), (0, sumI (fun a => sumI (fun k => sgn V h mm a (a + 1 + k)) (nC V h - 1 - a)) a + sumI (fun k => sgn V h mm a (a + 1 + k)) k), (0, (a : Int)), (0, ((a + 1 + k : Nat) : Int))] ∧ M2 = M1) → ax_G L X SH 0 16 12 ll [] M2 (R1 0 (fun x M' => x = sgC V h mm ∧ M' = M1)) := by
        refine lp ?_ ?_
        · rintro ll M1 ⟨rfl, rfl⟩
          refine g3 hC rfl rfl ?_
          refine g3 hC rfl rfl ?_
          refine g19 hC rfl (shH hh) (Nat.le_of_ble_eq_true rfl) rfl (rd3 hS hwh hV hW) ?_
          refine g13g hC rfl (fun h15 => ?_) (fun h15 => (by omega))
          refine n3 hC rfl rfl ⟨by omega, by omega⟩ ?_
          refine g14 hC rfl ?_
          exact hnext _ _ ⟨_, rfl, rfl⟩
        · rintro k hk ll M1 ⟨rfl, rfl⟩ hnx
          have b2 := sgn_s1 (V := V) (h := h) (mm := mm) (a := a) k (by omega)
          have e : sumI (fun k => sgn V h mm a (a + 1 + k)) (k + 1) = sumI (fun k => sgn V h mm a (a + 1 + k)) k + sgn V h mm a (a + 1 + k) := rfl
          refine g3 hC rfl rfl ?_
          refine g3 hC rfl rfl ?_
          refine g19 hC rfl (shH hh) (Nat.le_of_ble_eq_true rfl) rfl (rd3 hS hwh hV hW) ?_
          refine g13g hC rfl (fun h15 => (by omega)) (fun h15 => ?_)
          refine g3 hC rfl rfl ?_
          refine g19 hC rfl rfl (Nat.le_of_ble_eq_true rfl) rfl ((hS.fix hw hF).g fx_71_5) ?_
          refine g3 hC rfl rfl ?_
          refine r21 (a) hC rfl (by omega) sh94 (Or.inl rfl) (by omega) ((hS.fix hw hF).r (n := 8) (v := 95) rfl (by omega)) ?_
          refine g3 hC rfl rfl ?_
          refine r21 ((a+1+k)) hC rfl (by omega) (shR95 (by omega)) (Or.inl rfl) (by omega) (hm a (a + 1 + k) (by omega) (by omega)) ?_
          refine g3 hC rfl rfl ?_
          refine g19 hC rfl (shH hh) (Nat.le_of_ble_eq_true rfl) rfl (rdi0 hS hwh hV 18) ?_
          refine g13l hC rfl (fun h24 => ?_) (fun h24 => ?_)
          ·
            refine n4 hC rfl rfl ⟨by omega, by omega⟩ ?_
            refine g14 hC rfl ?_
            refine hnx _ _ ⟨?_, rfl⟩
            rw [e, show sgn V h mm a (a + 1 + k) = 0 from if_neg (by omega), Int.add_zero]; rfl
          ·
            refine n2 hC rfl rfl ⟨by omega, by omega⟩ ?_
            refine n4 hC rfl rfl ⟨by omega, by omega⟩ ?_
            refine g14 hC rfl ?_
            refine hnx _ _ ⟨?_, rfl⟩
            rw [e, show sgn V h mm a (a + 1 + k) = 1 from if_pos (by omega), ← Int.add_assoc]; rfl
      refine g3 hC rfl rfl ?_
      refine g3 hC rfl rfl ?_
      refine g19 hC rfl (shH hh) (Nat.le_of_ble_eq_true rfl) rfl (rd3 hS hwh hV hW) ?_
      refine g13g hC rfl (fun h7 => (by omega)) (fun h7 => ?_)
      refine g3 hC rfl rfl ?_
      refine g0 hC rfl ?_
      refine g6a hC rfl ⟨by omega, by omega⟩ ?_
      refine s4 hC rfl rfl rfl ?_
      exact l2 (nC V h - 1 - a) 0 (Nat.zero_add _) _ _ ⟨by rw [show sumI (fun k => sgn V h mm a (a + 1 + k)) 0 = 0 from rfl, Int.add_zero]; rfl, rfl⟩
  refine g0 hC rfl ?_
  refine s2 hC rfl rfl rfl ?_
  refine g0 hC rfl ?_
  refine s3 hC rfl rfl rfl ?_
  exact l1 (nC V h) 0 (Nat.zero_add _) _ _ ⟨_, rfl, rfl⟩
theorem m209 (hF : Fix M) (hV : RV V h M) (hW : HW V h) {mm : Nat → Nat → Int} (hm : ∀ a b, a < 8 → b < 8 → M 193 (8 * a + b) = mm a b) {a b : Nat} (ha : a < 8) (hb : b < 8) : ax_Ev L X SH 0 209 [(2, 142), (0, (a : Int)), (0, (b : Int))] M (R1 0 (fun x M' => x = sgn V h mm a b ∧ M' = M)) := by
  show ax_G L X SH 0 209 0 [(2, 142), (0, (a : Int)), (0, (b : Int))] [] M _
  have hC := at209
  have hw := wX0
  have hwr := rX0
  have hS : Sb X0 M M := Sb.refl
  refine g3 hC rfl rfl ?_
  refine g19 hC rfl sh142 (flt12 rfl) ft12_66 ((hS.fix hw hF).g fx_142_66) ?_
  refine g0 hC rfl ?_
  refine g3 hC rfl rfl ?_
  refine g6m hC rfl ⟨by omega, by omega⟩ ?_
  refine g3 hC rfl rfl ?_
  refine g6a hC rfl ⟨by omega, by omega⟩ ?_
  refine r21 (((8 * a) + b)) hC rfl (by omega) sh193 (Or.inl rfl) (by omega) (hm a b ha hb) ?_
  refine g3 hC rfl rfl ?_
  refine g19 hC rfl sh142 (flt12 rfl) ft12_47 ((hS.fix hw hF).g fx_142_47) ?_
  refine g0 hC rfl ?_
  refine r21 (4) hC rfl (by omega) sh181 (Or.inl rfl) (by omega) (rmsi hS hwr hV hW) ?_
  refine g13l hC rfl (fun h12 => ?_) (fun h12 => ?_)
  ·
    refine g0 hC rfl ?_
    refine ret3 hC rfl ⟨by omega, by omega⟩ ?_
    exact ⟨(if_neg (by omega)).symm, rfl⟩
  ·
    refine g0 hC rfl ?_
    refine g14 hC rfl ?_
    refine ret3 hC rfl ⟨by omega, by omega⟩ ?_
    exact ⟨(if_pos (by omega)).symm, rfl⟩
theorem m210 (hF : Fix M) (hV : RV V h M) (hW : HW V h) {mm : Nat → Nat → Int} (hm : ∀ a b, a < 8 → b < 8 → M 193 (8 * a + b) = mm a b) : ax_Ev L X SH 1 210 [(2, 142)] M (R1 0 (fun x M' => x = sgRr V h mm ∧ M' = M)) := by
  show ax_G L X SH 1 210 0 [(2, 142), (3, 0), (3, 0), (3, 0)] [] M _
  have hC := at210
  have hw := wX0
  have hb := hW.1.2.2.2.2
  have l1 : ∀ (m a : Nat), a + m = nC V h → ∀ ll M1, (∃ v, ll = [(2, 142), (0, sumI (fun a => sumI (sgn V h mm a) a) a), (0, (a : Int)), v] ∧ M1 = M) → ax_G L X SH 1 210 4 ll [] M1 (R1 0 (fun x M' => x = sgRr V h mm ∧ M' = M)) := by
    refine lp ?_ ?_
    · rintro ll M1 ⟨v, rfl, rfl⟩
      have hS : Sb X0 M1 M1 := Sb.refl
      refine g3 hC rfl rfl ?_
      refine g3 hC rfl rfl ?_
      refine c1 hC rfl rfl rfl (Nat.le_of_ble_eq_true rfl) (Nat.le_of_ble_eq_true rfl) (mayR k186 rfl) (m186 hF hV hW) (Nat.le_of_ble_eq_true rfl) (fun x M2 hr => ?_)
      obtain ⟨rfl, hr⟩ := hr
      replace hr := hr.symm
      subst hr
      refine g13g hC rfl (fun h7 => ?_) (fun h7 => (by omega))
      refine g3 hC rfl rfl ?_
      refine ret1 hC rfl rfl ?_
      exact ⟨rfl, rfl⟩
    · rintro a ha ll M1 ⟨v, rfl, rfl⟩ hnext
      have hS : Sb X0 M1 M1 := Sb.refl
      have b1 := sumI_b (f := fun a => sumI (sgn V h mm a) a) (b := 8) (by decide) a (fun k hk => sgn_s2 _ (by omega))
      have l2 : ∀ (m k : Nat), k + m = a → ∀ ll M2, (ll = [(2, 142), (0, sumI (fun a => sumI (sgn V h mm a) a) a + sumI (sgn V h mm a) k), (0, (a : Int)), (0, (k : Int))] ∧ M2 = M1) → ax_G L X SH 1 210 10 ll [] M2 (R1 0 (fun x M' => x = sgRr V h mm ∧ M' = M1)) := by
        refine lp ?_ ?_
        · rintro ll M1 ⟨rfl, rfl⟩
          refine g3 hC rfl rfl ?_
          refine g3 hC rfl rfl ?_
          refine g13g hC rfl (fun h12 => ?_) (fun h12 => (by omega))
          refine n2 hC rfl rfl ⟨by omega, by omega⟩ ?_
          refine g14 hC rfl ?_
          exact hnext _ _ ⟨_, rfl, rfl⟩
        · rintro k hk ll M1 ⟨rfl, rfl⟩ hnx
          have b2 := sgn_s2 (V := V) (h := h) (mm := mm) (a := a) k (by omega)
          have e : sumI (sgn V h mm a) (k + 1) = sumI (sgn V h mm a) k + sgn V h mm a k := rfl
          refine g3 hC rfl rfl ?_
          refine g3 hC rfl rfl ?_
          refine g13g hC rfl (fun h12 => (by omega)) (fun h12 => ?_)
          refine g3 hC rfl rfl ?_
          refine g3 hC rfl rfl ?_
          refine g3 hC rfl rfl ?_
          refine c1 hC rfl rfl rfl (Nat.le_of_ble_eq_true rfl) (Nat.le_of_ble_eq_true rfl) (mayR k209 rfl) (m209 hF hV hW hm (by omega) (by omega)) (Nat.le_of_ble_eq_true rfl) (fun x M2 hr => ?_)
          obtain ⟨rfl, hr⟩ := hr
          replace hr := hr.symm
          subst hr
          refine g12e hC rfl (fun h17 => ?_) (fun h17 => ?_)
          ·
            refine n3 hC rfl rfl ⟨by omega, by omega⟩ ?_
            refine g14 hC rfl ?_
            refine hnx _ _ ⟨?_, rfl⟩
            rw [e, h17, Int.add_zero]; rfl
          ·
            refine n1 hC rfl rfl ⟨by omega, by omega⟩ ?_
            refine n3 hC rfl rfl ⟨by omega, by omega⟩ ?_
            refine g14 hC rfl ?_
            refine hnx _ _ ⟨?_, rfl⟩
            have := sgn_b (V := V) (h := h) (mm := mm) (a := a) (b := k)
            rw [e, show sgn V h mm a k = 1 by omega, ← Int.add_assoc]; rfl
      refine g3 hC rfl rfl ?_
      refine g3 hC rfl rfl ?_
      refine c1 hC rfl rfl rfl (Nat.le_of_ble_eq_true rfl) (Nat.le_of_ble_eq_true rfl) (mayR k186 rfl) (m186 hF hV hW) (Nat.le_of_ble_eq_true rfl) (fun x M2 hr => ?_)
      obtain ⟨rfl, hr⟩ := hr
      replace hr := hr.symm
      subst hr
      refine g13g hC rfl (fun h7 => (by omega)) (fun h7 => ?_)
      refine g0 hC rfl ?_
      refine s3 hC rfl rfl rfl ?_
      exact l2 a 0 (Nat.zero_add _) _ _ ⟨by rw [show sumI (sgn V h mm a) 0 = 0 from rfl, Int.add_zero]; rfl, rfl⟩
  refine g0 hC rfl ?_
  refine s1 hC rfl rfl rfl ?_
  refine g0 hC rfl ?_
  refine s2 hC rfl rfl rfl ?_
  exact l1 (nC V h) 0 (Nat.zero_add _) _ _ ⟨_, rfl, rfl⟩
theorem m116 (hF : Fix M) (hh : h = 9 ∨ h = 27) (hG : GG n h M) : ax_Ev L X SH 7 116 [(2, 0)] M (R1 0 (fun x M' => x = sgRr M h (mt M h (-1) (-1)) ∧ Sb WD M M')) := by
  show ax_G L X SH 7 116 0 [(2, 0)] [] M _
  have hC := at116
  have hw := wWD
  have hwh : hok WD h := hokB (by decide +kernel) hh
  have hso : sok WD := sokB (by decide +kernel)
  have hS : Sb WD M M := Sb.refl
  have hV : HV M h M := HV.refl
  have hH3 : M 0 3 = (h : Int) := hG.2.2.2.2.2.2.2.2.2.1.1
  rw [← sgE (fun a b => mt_s)]
  refine g3 hC rfl rfl ?_
  refine c0 hC rfl rfl rfl (Nat.le_of_ble_eq_true rfl) (Nat.le_of_ble_eq_true rfl) rfl (m143 hF hh hV hG.1 hG.2.1 hG.2.2.1 hH3) (Nat.le_of_ble_eq_true rfl) (fun M2 hr => ?_)
  obtain ⟨hr0, hrr⟩ := hr; have hS := hS.then hr0 rfl
  refine g3 hC rfl rfl ?_
  refine g19 hC rfl rfl (Nat.le_of_ble_eq_true rfl) rfl ((hS.fix hw hF).g rfl) ?_
  refine g3 hC rfl rfl ?_
  refine g19 hC rfl rfl (Nat.le_of_ble_eq_true rfl) rfl ((hS _ _ rfl).trans hH3) ?_
  refine c1 hC rfl rfl rfl (Nat.le_of_ble_eq_true rfl) (Nat.le_of_ble_eq_true rfl) rfl (m16 (hS.fix hw hF) hh (hV.sb hS hwh hso) hG.1 hrr.2.2.2.2) (Nat.le_of_ble_eq_true rfl) (fun x M2 hr => ?_)
  obtain ⟨rfl, hr⟩ := hr
  replace hr := hr.symm
  subst hr
  refine ret1 hC rfl rfl ?_
  exact ⟨rfl, hS⟩
theorem m230 (hF : Fix M) (hG : GG n h M) {M1 : ax_M} (hS0 : Sb WD M M1) : ax_Ev L X SH 7 230 [(2, 142)] M1 (R1 0 (fun x M' => x = sgRr M h (mt M h (-1) (-1)) ∧ Sb XN M1 M')) := by
  show ax_G L X SH 7 230 0 [(2, 142)] [] M1 _
  have hC := at230
  have hw := wXN
  have hF1 := hS0.fix wWD hF
  have hwr : rok XN := rokB (by decide +kernel)
  have hV1 := hG.2.2.2.1.sb hS0 rWD
  have hS : Sb XN M1 M1 := Sb.refl
  refine g3 hC rfl rfl ?_
  refine c0 hC rfl rfl rfl (Nat.le_of_ble_eq_true rfl) (Nat.le_of_ble_eq_true rfl) (mayR k208 rfl) (m208' ‹Fix M› hG hS0) (Nat.le_of_ble_eq_true rfl) (fun M2 hr => ?_)
  obtain ⟨hr0, hrr⟩ := hr; have hS := hS.then hr0 rfl
  refine g3 hC rfl rfl ?_
  refine c1 hC rfl rfl rfl (Nat.le_of_ble_eq_true rfl) (Nat.le_of_ble_eq_true rfl) (mayR k210 rfl) (m210 (hS.fix hw hF1) (hV1.sb hS hwr) hG.1 (mm := mt M h (-1) (-1)) hrr.2.2.2) (Nat.le_of_ble_eq_true rfl) (fun x M2 hr => ?_)
  obtain ⟨rfl, hr⟩ := hr
  replace hr := hr.symm
  subst hr
  refine ret1 hC rfl rfl ?_
  exact ⟨rfl, hS⟩
theorem op16 (hR : Rel n M) : OP L X n 0 116 230 [(2, 0)] [(2, 142)] M := by
  have hR0 := hR
  obtain ⟨h, hh, hF, hG⟩ := hR
  have hG0 := hG
  obtain ⟨hW, hSW, hPW, hRV, hGT, hGN, hGM, hGH, hGS, hGX⟩ := hG
  have hV : HV M h M := HV.refl
  have hH3 : M 0 3 = (h : Int) := hGX.1.1
  exact OP.sc hR0 gWD gXN wWD wXN (m116 hF hh hG0) (fun M1 hS => m230 hF hG0 hS) (by decide) (by decide)
theorem m114 (hF : Fix M) (hh : h = 9 ∨ h = 27) (hG : GG n h M) {a b : Int} : ax_Ev L X SH 7 114 [(2, 0), (0, a), (0, b)] M (R1 0 (fun x M' => ((tw M h a b ∧ x = mt M h (-1) (-1) a.toNat b.toNat) ∨ (¬ tw M h a b ∧ x = -1)) ∧ Sb WD M M')) := by
  show ax_G L X SH 7 114 0 [(2, 0), (0, a), (0, b)] [] M _
  have hC := at114
  have hw := wWD
  have hS : Sb WD M M := Sb.refl
  have hV : HV M h M := HV.refl
  have hH3 : M 0 3 = (h : Int) := hG.2.2.2.2.2.2.2.2.2.1.1
  have hb := hG.1.1.2.2.2.2
  by_cases z : tw M h a b
  · obtain ⟨k, rfl⟩ : ∃ k : Nat, a = (k : Int) := ⟨a.toNat, by have := z.1; omega⟩
    obtain ⟨q, rfl⟩ : ∃ k : Nat, b = (k : Int) := ⟨b.toNat, by have := z.2.1; omega⟩
    have hk := z.1
    have hq := z.2.1
    refine g3 hC rfl rfl ?_
    refine g3 hC rfl rfl ?_
    refine g3 hC rfl rfl ?_
    refine c1 hC rfl rfl rfl (Nat.le_of_ble_eq_true rfl) (Nat.le_of_ble_eq_true rfl) rfl (m141 hF hh hV hG.1 hH3) (Nat.le_of_ble_eq_true rfl) (fun x M2 hr => ?_)
    obtain ⟨hx, hr⟩ := hr; replace hr := hr.symm; subst hr; have hx1 : x = 1 := by rcases hx with y | y; exact y.1; exact absurd z y.2
    refine g12n hC rfl (fun h4 => ?_) (fun h4 => (by omega))
    refine g3 hC rfl rfl ?_
    refine c0 hC rfl rfl rfl (Nat.le_of_ble_eq_true rfl) (Nat.le_of_ble_eq_true rfl) rfl (m143 hF hh hV hG.1 hG.2.1 hG.2.2.1 hH3) (Nat.le_of_ble_eq_true rfl) (fun M2 hr => ?_)
    obtain ⟨hr0, hr⟩ := hr; have hS := hS.then hr0 rfl
    refine g3 hC rfl rfl ?_
    refine g19 hC rfl rfl (Nat.le_of_ble_eq_true rfl) rfl ((hS.fix hw hF).g rfl) ?_
    refine g19 hC rfl rfl (Nat.le_of_ble_eq_true rfl) rfl ((hS.fix hw hF).g fx_71_5) ?_
    refine g3 hC rfl rfl ?_
    refine r21 (k) hC rfl (by omega) sh94 (Or.inl rfl) (by omega) ((hS.fix hw hF).r (n := 8) (v := 95) rfl (by omega)) ?_
    refine g3 hC rfl rfl ?_
    refine r21 (q) hC rfl (by omega) (shR95 (by omega)) (Or.inl rfl) (by omega) (hr.2.2.2.2 k q (by omega) (by omega)) ?_
    refine ret1 hC rfl rfl ?_
    exact ⟨Or.inl ⟨z, rfl⟩, hS⟩
  · skip
    refine g3 hC rfl rfl ?_
    refine g3 hC rfl rfl ?_
    refine g3 hC rfl rfl ?_
    refine c1 hC rfl rfl rfl (Nat.le_of_ble_eq_true rfl) (Nat.le_of_ble_eq_true rfl) rfl (m141 hF hh hV hG.1 hH3) (Nat.le_of_ble_eq_true rfl) (fun x M2 hr => ?_)
    obtain ⟨hx, hr⟩ := hr; replace hr := hr.symm; subst hr; have hx1 : x = 0 := by rcases hx with y | y; exact absurd y.2 z; exact y.1
    refine g12n hC rfl (fun h4 => (by omega)) (fun h4 => ?_)
    refine g0 hC rfl ?_
    refine ret1 hC rfl rfl ?_
    exact ⟨Or.inr ⟨z, rfl⟩, hS⟩
theorem m228 (hF : Fix M) (hG : GG n h M) {M1 : ax_M} (hS0 : Sb WD M M1) {a b : Int} : ax_Ev L X SH 7 228 [(2, 142), (0, a), (0, b)] M1 (R1 0 (fun x M' => ((tw M h a b ∧ x = mt M h (-1) (-1) a.toNat b.toNat) ∨ (¬ tw M h a b ∧ x = -1)) ∧ Sb XN M1 M')) := by
  show ax_G L X SH 7 228 0 [(2, 142), (0, a), (0, b)] [] M1 _
  have hC := at228
  have hw := wXN
  have hF1 := hS0.fix wWD hF
  have hV1 := hG.2.2.2.1.sb hS0 rWD
  have hS : Sb XN M1 M1 := Sb.refl
  have hb := hG.1.1.2.2.2.2
  by_cases z : tw M h a b
  · obtain ⟨k, rfl⟩ : ∃ k : Nat, a = (k : Int) := ⟨a.toNat, by have := z.1; omega⟩
    obtain ⟨q, rfl⟩ : ∃ k : Nat, b = (k : Int) := ⟨b.toNat, by have := z.2.1; omega⟩
    have hk := z.1
    have hq := z.2.1
    have hF := hF1
    refine g3 hC rfl rfl ?_
    refine g3 hC rfl rfl ?_
    refine g3 hC rfl rfl ?_
    refine c1 hC rfl rfl rfl (Nat.le_of_ble_eq_true rfl) (Nat.le_of_ble_eq_true rfl) (mayR k223 rfl) (m223 hF1 hV1 hG.1) (Nat.le_of_ble_eq_true rfl) (fun x M2 hr => ?_)
    obtain ⟨hx, hr⟩ := hr; replace hr := hr.symm; subst hr; have hx1 : x = 1 := by rcases hx with y | y; exact y.1; exact absurd z y.2
    refine g12n hC rfl (fun h4 => ?_) (fun h4 => (by omega))
    refine g3 hC rfl rfl ?_
    refine c0 hC rfl rfl rfl (Nat.le_of_ble_eq_true rfl) (Nat.le_of_ble_eq_true rfl) (mayR k208 rfl) (m208' ‹Fix M› hG hS0) (Nat.le_of_ble_eq_true rfl) (fun M2 hr => ?_)
    obtain ⟨hr0, hr⟩ := hr; have hS := hS.then hr0 rfl
    refine g3 hC rfl rfl ?_
    refine g19 hC rfl sh142 (flt12 rfl) ft12_66 ((hS.fix hw hF).g fx_142_66) ?_
    refine g0 hC rfl ?_
    refine g3 hC rfl rfl ?_
    refine g6m hC rfl ⟨by omega, by omega⟩ ?_
    refine g3 hC rfl rfl ?_
    refine g6a hC rfl ⟨by omega, by omega⟩ ?_
    refine r21 (((8 * k) + q)) hC rfl (by omega) sh193 (Or.inl rfl) (by omega) (hr.2.2.2 k q (by omega) (by omega)) ?_
    refine ret1 hC rfl rfl ?_
    exact ⟨Or.inl ⟨z, rfl⟩, hS⟩
  · skip
    refine g3 hC rfl rfl ?_
    refine g3 hC rfl rfl ?_
    refine g3 hC rfl rfl ?_
    refine c1 hC rfl rfl rfl (Nat.le_of_ble_eq_true rfl) (Nat.le_of_ble_eq_true rfl) (mayR k223 rfl) (m223 hF1 hV1 hG.1) (Nat.le_of_ble_eq_true rfl) (fun x M2 hr => ?_)
    obtain ⟨hx, hr⟩ := hr; replace hr := hr.symm; subst hr; have hx1 : x = 0 := by rcases hx with y | y; exact absurd y.2 z; exact y.1
    refine g12n hC rfl (fun h4 => (by omega)) (fun h4 => ?_)
    refine g0 hC rfl ?_
    refine ret1 hC rfl rfl ?_
    exact ⟨Or.inr ⟨z, rfl⟩, hS⟩
theorem op14 (hR : Rel n M) {a b : Int} : OP L X n 0 114 228 [(2, 0), (0, a), (0, b)] [(2, 142), (0, a), (0, b)] M := by
  have hR0 := hR
  obtain ⟨h, hh, hF, hG⟩ := hR
  have hG0 := hG
  obtain ⟨hW, hSW, hPW, hRV, hGT, hGN, hGM, hGH, hGS, hGX⟩ := hG
  have hV : HV M h M := HV.refl
  have hH3 : M 0 3 = (h : Int) := hGX.1.1
  have key : ∃ F, ∀ x, ((tw M h a b ∧ x = mt M h (-1) (-1) a.toNat b.toNat) ∨ (¬ tw M h a b ∧ x = -1)) → x = F := by
    by_cases z : tw M h a b
    · exact ⟨_, fun x hx => by rcases hx with y | y; exact y.2; exact absurd z y.1⟩
    · exact ⟨_, fun x hx => by rcases hx with y | y; exact absurd y.1 z; exact y.2⟩
  obtain ⟨F, hf⟩ := key
  refine OP.sc (F := F) hR0 gWD gXN wWD wXN ((m114 hF hh hG0).imp ?_) (fun M1 hS => (m228 hF hG0 hS).imp ?_) (by decide) (by decide)
  · rintro r M' ⟨x, e, hx, hs⟩; exact ⟨x, e, hf x hx, hs⟩
  · rintro r M' ⟨x, e, hx, hs⟩; exact ⟨x, e, hf x hx, hs⟩
theorem m110 (hF : Fix M) (hh : h = 9 ∨ h = 27) (hG : GG n h M) {a b : Int} : ax_Ev L X SH 7 110 [(2, 0), (0, a), (0, b)] M (R1 0 (fun x M' => ((tw M h a b ∧ x = M 48 (pQ a.toNat b.toNat)) ∨ (¬ tw M h a b ∧ x = -1)) ∧ M' = M)) := by
  show ax_G L X SH 7 110 0 [(2, 0), (0, a), (0, b)] [] M _
  have hC := at110
  have hw := wX0
  have hS : Sb X0 M M := Sb.refl
  have hV : HV M h M := HV.refl
  have hH3 : M 0 3 = (h : Int) := hG.2.2.2.2.2.2.2.2.2.1.1
  have hb := hG.1.1.2.2.2.2
  by_cases z : tw M h a b
  · obtain ⟨k, rfl⟩ : ∃ k : Nat, a = (k : Int) := ⟨a.toNat, by have := z.1; omega⟩
    obtain ⟨q, rfl⟩ : ∃ k : Nat, b = (k : Int) := ⟨b.toNat, by have := z.2.1; omega⟩
    have hk := z.1
    have hq := z.2.1
    have hne := z.2.2
    have hlt := pQ_lt (a := k) (b := q) (by omega) (by omega) (by omega)
    refine g3 hC rfl rfl ?_
    refine g3 hC rfl rfl ?_
    refine g3 hC rfl rfl ?_
    refine c1 hC rfl rfl rfl (Nat.le_of_ble_eq_true rfl) (Nat.le_of_ble_eq_true rfl) rfl (m141 hF hh hV hG.1 hH3) (Nat.le_of_ble_eq_true rfl) (fun x M2 hr => ?_)
    obtain ⟨hx, hr⟩ := hr; replace hr := hr.symm; subst hr; have hx1 : x = 1 := by rcases hx with y | y; exact y.1; exact absurd z y.2
    refine g12e hC rfl (fun h4 => (by omega)) (fun h4 => ?_)
    refine g3 hC rfl rfl ?_
    refine g19 hC rfl rfl (Nat.le_of_ble_eq_true rfl) rfl ((hS.fix hw hF).g rfl) ?_
    refine g19 hC rfl rfl (Nat.le_of_ble_eq_true rfl) rfl ((hS.fix hw hF).g rfl) ?_
    refine g3 hC rfl rfl ?_
    refine g3 hC rfl rfl ?_
    refine c1 hC rfl rfl rfl (Nat.le_of_ble_eq_true rfl) (Nat.le_of_ble_eq_true rfl) rfl (m66 (by omega) (by omega)) (Nat.le_of_ble_eq_true rfl) (fun x M2 hr => ?_)
    obtain ⟨rfl, hr⟩ := hr
    replace hr := hr.symm
    subst hr
    refine r21 ((pQ k q)) hC rfl (by omega) rfl (Or.inl rfl) (by omega) rfl ?_
    refine g14 hC rfl ?_
    refine ret1 hC rfl rfl ?_
    exact ⟨Or.inl ⟨z, rfl⟩, rfl⟩
  · skip
    refine g3 hC rfl rfl ?_
    refine g3 hC rfl rfl ?_
    refine g3 hC rfl rfl ?_
    refine c1 hC rfl rfl rfl (Nat.le_of_ble_eq_true rfl) (Nat.le_of_ble_eq_true rfl) rfl (m141 hF hh hV hG.1 hH3) (Nat.le_of_ble_eq_true rfl) (fun x M2 hr => ?_)
    obtain ⟨hx, hr⟩ := hr; replace hr := hr.symm; subst hr; have hx1 : x = 0 := by rcases hx with y | y; exact absurd y.2 z; exact y.1
    refine g12e hC rfl (fun h4 => ?_) (fun h4 => (by omega))
    refine g0 hC rfl ?_
    refine ret1 hC rfl rfl ?_
    exact ⟨Or.inr ⟨z, rfl⟩, rfl⟩
theorem m224 (hF : Fix M) (hG : GG n h M) {a b : Int} : ax_Ev L X SH 7 224 [(2, 142), (0, a), (0, b)] M (R1 0 (fun x M' => ((tw M h a b ∧ x = M 48 (pQ a.toNat b.toNat)) ∨ (¬ tw M h a b ∧ x = -1)) ∧ M' = M)) := by
  show ax_G L X SH 7 224 0 [(2, 142), (0, a), (0, b)] [] M _
  have hC := at224
  have hw := wX0
  have hS : Sb X0 M M := Sb.refl
  have hV1 := hG.2.2.2.1
  have hb := hG.1.1.2.2.2.2
  by_cases z : tw M h a b
  · obtain ⟨k, rfl⟩ : ∃ k : Nat, a = (k : Int) := ⟨a.toNat, by have := z.1; omega⟩
    obtain ⟨q, rfl⟩ : ∃ k : Nat, b = (k : Int) := ⟨b.toNat, by have := z.2.1; omega⟩
    have hk := z.1
    have hq := z.2.1
    have hne := z.2.2
    have hlt := pB_lt (a := k) (b := q) (by omega) (by omega) (by omega)
    refine g3 hC rfl rfl ?_
    refine g3 hC rfl rfl ?_
    refine g3 hC rfl rfl ?_
    refine c1 hC rfl rfl rfl (Nat.le_of_ble_eq_true rfl) (Nat.le_of_ble_eq_true rfl) (mayR k223 rfl) (m223 hF hV1 hG.1) (Nat.le_of_ble_eq_true rfl) (fun x M2 hr => ?_)
    obtain ⟨hx, hr⟩ := hr; replace hr := hr.symm; subst hr; have hx1 : x = 1 := by rcases hx with y | y; exact y.1; exact absurd z y.2
    refine g12e hC rfl (fun h4 => (by omega)) (fun h4 => ?_)
    refine g3 hC rfl rfl ?_
    refine g19 hC rfl sh142 (flt12 rfl) ft12_54 ((hS.fix hw hF).g fx_142_54) ?_
    refine g3 hC rfl rfl ?_
    refine g3 hC rfl rfl ?_
    refine c1 hC rfl rfl rfl (Nat.le_of_ble_eq_true rfl) (Nat.le_of_ble_eq_true rfl) (mayS k193 rfl) (m193 (by omega) (by omega) (by omega)) (Nat.le_of_ble_eq_true rfl) (fun x M2 hr => ?_)
    obtain ⟨rfl, hr⟩ := hr
    replace hr := hr.symm
    subst hr
    refine r21 (16 + pB k q) hC rfl rfl sh185 (Or.inl rfl) (by omega) (rmpa hV1 (by omega) (by omega) (by omega)) ?_
    refine g14 hC rfl ?_
    refine ret1 hC rfl rfl ?_
    exact ⟨Or.inl ⟨z, rfl⟩, rfl⟩
  · skip
    refine g3 hC rfl rfl ?_
    refine g3 hC rfl rfl ?_
    refine g3 hC rfl rfl ?_
    refine c1 hC rfl rfl rfl (Nat.le_of_ble_eq_true rfl) (Nat.le_of_ble_eq_true rfl) (mayR k223 rfl) (m223 hF hV1 hG.1) (Nat.le_of_ble_eq_true rfl) (fun x M2 hr => ?_)
    obtain ⟨hx, hr⟩ := hr; replace hr := hr.symm; subst hr; have hx1 : x = 0 := by rcases hx with y | y; exact absurd y.2 z; exact y.1
    refine g12e hC rfl (fun h4 => ?_) (fun h4 => (by omega))
    refine g0 hC rfl ?_
    refine ret1 hC rfl rfl ?_
    exact ⟨Or.inr ⟨z, rfl⟩, rfl⟩
theorem op10 (hR : Rel n M) {a b : Int} : OP L X n 0 110 224 [(2, 0), (0, a), (0, b)] [(2, 142), (0, a), (0, b)] M := by
  have hR0 := hR
  obtain ⟨h, hh, hF, hG⟩ := hR
  have hG0 := hG
  obtain ⟨hW, hSW, hPW, hRV, hGT, hGN, hGM, hGH, hGS, hGX⟩ := hG
  have hV : HV M h M := HV.refl
  have hH3 : M 0 3 = (h : Int) := hGX.1.1
  have key : ∃ F, ∀ x, ((tw M h a b ∧ x = M 48 (pQ a.toNat b.toNat)) ∨ (¬ tw M h a b ∧ x = -1)) → x = F := by
    by_cases z : tw M h a b
    · exact ⟨_, fun x hx => by rcases hx with y | y; exact y.2; exact absurd z y.1⟩
    · exact ⟨_, fun x hx => by rcases hx with y | y; exact absurd y.1 z; exact y.2⟩
  obtain ⟨F, hf⟩ := key
  refine OP.ro (F := F) hR0 ((m110 hF hh hG0).imp ?_) ((m224 hF hG0).imp ?_) (by decide) (by decide)
  · rintro r M' ⟨x, e, hx, hs⟩; exact ⟨x, e, hf x hx, hs⟩
  · rintro r M' ⟨x, e, hx, hs⟩; exact ⟨x, e, hf x hx, hs⟩
end DRP
