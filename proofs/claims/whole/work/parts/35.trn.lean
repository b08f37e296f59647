def tf (V : ax_M) : Nat := (V 182 2).toNat
def tn (V : ax_M) : Nat := (V 183 2 - V 182 2).toNat
def tc (V : ax_M) (k : Nat) : Int := V 184 (1600 + tf V + k)
def df (V : ax_M) : Nat := (V 182 3).toNat
def dn (V : ax_M) : Nat := (V 183 3 - V 182 3).toNat
def dc (V : ax_M) (k : Nat) : Int := V 184 (1600 + df V + k)
def PW (V : ax_M) (h : Nat) : Prop :=
  ((V 182 2 = -1 ∧ V (h + 12) 1 = 0) ∨ (V 182 2 = (tf V : Int) ∧ V 183 2 = ((tf V + tn V : Nat) : Int) ∧ tf V + tn V ≤ 1600 ∧ Code V (h + 12) 0 (tc V) (tn V) ∧ Typed (tc V) (tn V) true)) ∧
  ((V 182 3 = -1 ∧ V (h + 15) 1 = 1 ∧ V (h + 16) 0 = -104) ∨ (V 182 3 = (df V : Int) ∧ V 183 3 = ((df V + dn V : Nat) : Int) ∧ df V + dn V ≤ 1600 ∧ Code V (h + 15) 1 (dc V) (dn V) ∧ Typed (dc V) (dn V) false))
def crI (a b : Nat → Int) (c k : Nat) : Int := it (fun q (n : Int) => if q ≠ c ∧ a q = 0 ∧ b q = -1 then n + 1 else n) k 0
theorem crI_b {a b : Nat → Int} {c : Nat} : ∀ k : Nat, 0 ≤ crI a b c k ∧ crI a b c k ≤ k := by
  intro k
  induction k with
  | zero => exact ⟨Int.le_refl _, Int.le_refl _⟩
  | succ k ih =>
    have e : crI a b c (k + 1) = if k ≠ c ∧ a k = 0 ∧ b k = -1 then crI a b c k + 1 else crI a b c k := rfl
    rw [e]; split <;> omega
theorem crI_c {a b a' b' : Nat → Int} {c : Nat} : ∀ k : Nat, (∀ q, q < k → a q = a' q ∧ b q = b' q) → crI a b c k = crI a' b' c k := by
  intro k
  induction k with
  | zero => intro _; rfl
  | succ k ih =>
    intro h
    have e : ∀ a b : Nat → Int, crI a b c (k + 1) = if k ≠ c ∧ a k = 0 ∧ b k = -1 then crI a b c k + 1 else crI a b c k := fun _ _ => rfl
    rw [e, e, ih (fun q hq => h q (by omega)), (h k (by omega)).1, (h k (by omega)).2]
def lfT (V : ax_M) (h c : Nat) (mi cr : Int) (i : Nat) : Int := if i = 0 then (cp V h c : Int) else if i = 1 then V (h + 11) c else if i = 2 then V 45 0 else if i = 3 then mi else if i = 4 then cr else 0
def tv (V : ax_M) (h c : Nat) (mi cr : Int) : Int := if V 182 2 = -1 then 0 else pval (lfT V h c mi cr) (fun _ => 0) (tc V) (tn V)
theorem pval_t {lf : Nat → Int} {mt : Int → Int} {c : Nat → Int} {n : Nat} {b : Bool} (hl : ∀ i, bnd (lf i)) (hm : ∀ i, bnd (mt i)) (hT : Typed c n b) : (b = true → pval lf mt c n = 0 ∨ pval lf mt c n = 1) ∧ (b = false → bnd (pval lf mt c n)) := by
  have h := (vok_ev hl hm hT.1 n (Nat.le_refl n)).2 0 (by rw [hT.2.1]; decide)
  rw [hT.2.2] at h
  exact h
theorem Code.of {V M : ax_M} {p kind n : Nat} {c : Nat → Int} (h : Code V p kind c n) (e1 : M p 1 = V p 1) (e2 : ∀ k, M (p + 1) k = V (p + 1) k) : Code M p kind c n := ⟨e1.trans h.1, h.2.1, fun k hk => (e2 k).trans (h.2.2.1 k hk), h.2.2.2⟩
theorem W0hi {a k : Nat} (ha : 45 ≤ a) : wb W0 a k = false := by
  cases e : wb W0 a k with
  | false => rfl
  | true =>
    unfold wb W0 at e
    simp only [List.any_cons, List.any_nil, Bool.or_false, Bool.or_eq_true, Bool.and_eq_true] at e
    rcases e with e | e | e | e | e <;> (have := Nat.le_of_ble_eq_true e.2; omega)
section TRN
variable {L : Nat} {X : Nat → Int} {M V : ax_M} {h : Nat}
theorem m11 (hF : Fix M) (hh : h = 9 ∨ h = 27) (hV : HV V h M) (hW : HW V h) (hSW : SW V) (hPW : PW V h) {c : Nat} {mi : Int} (hc : c < nC V h) (hmi : 0 ≤ mi ∧ mi < 9) : ax_Ev L X SH 3 11 [(2, 71), (2, (h : Int)), (0, V 45 0), (0, (c : Int)), (0, mi)] M (R1 0 (fun x M' => x = (if tv V h c mi (crI (M 103) (M 74) c (nC V h)) ≠ 0 then 1 else 0) ∧ Sb W11 M M')) := by
  show ax_G L X SH 3 11 0 [(2, 71), (2, (h : Int)), (0, V 45 0), (0, (c : Int)), (0, mi), (3, 0), (3, 0)] [] M _
  have hC := at11
  have hw : wok W11 = true := by decide +kernel
  have hwh : hok W11 h := hokB (by decide +kernel) hh
  have hb := hW.1.2.2.2.2
  have hcl := hW.2.2.2.1 c hc
  have hs1 := hSW.1
  have l1 : ∀ (m k : Nat), k + m = nC V h → ∀ ll M1, (ll = [(2, 71), (2, (h : Int)), (0, V 45 0), (0, (c : Int)), (0, mi), (0, crI (M 103) (M 74) c k), (0, (k : Int))] ∧ M1 = M) → ax_G L X SH 3 11 4 ll [] M1 (R1 0 (fun x M' => x = (if tv V h c mi (crI (M 103) (M 74) c (nC V h)) ≠ 0 then 1 else 0) ∧ Sb W11 M M')) := by
    refine lp ?_ ?_
    · rintro ll M1 ⟨rfl, rfl⟩
      have hS : Sb W11 M1 M1 := Sb.refl
      have hcb := crI_b (a := M1 103) (b := M1 74) (c := c) (nC V h)
      generalize crI (M1 103) (M1 74) c (nC V h) = cr at *
      have hlb : ∀ i, bnd (lfT V h c mi cr i) := by
        intro i; unfold lfT bnd; repeat' split
        all_goals omega
      have hcall : ∀ M2, Fix M2 → M2 (h + 12) 1 = V (h + 12) 1 → (∀ k, M2 (h + 13) k = V (h + 13) k) → (M2 106 0 = (cp V h c : Int) ∧ M2 106 1 = V (h + 11) c ∧ M2 106 2 = V 45 0 ∧ M2 106 3 = mi ∧ M2 106 4 = cr) → ax_Ev L X SH 2 60 [(2, ((h + 12 : Nat) : Int)), (2, ((106 : Nat) : Int)), (2, ((95 + c : Nat) : Int))] M2 (R1 0 (fun x M' => x = tv V h c mi cr ∧ Sb W0 M2 M')) := by
        intro M2 hF2 e1 e2 e3
        rcases hPW.1 with ⟨z1, z2⟩ | ⟨z1, z2, z3, z4, z5⟩
        · refine (m60z (isP12 hh) (e1.trans z2)).imp (fun r M' hr => ?_)
          obtain ⟨x, rfl, rfl, rfl⟩ := hr
          exact ⟨0, rfl, by unfold tv; rw [if_pos z1], Sb.refl⟩
        · have hne : ¬ V 182 2 = -1 := by omega
          unfold tv
          rw [if_neg hne]
          refine m60 hF2 (isP12 hh) rfl (shR95 (by omega)) (nl := 5) (kind := 0) rfl (z4.of e1 e2) (fun v v1 v2 v3 => ?_) z5 hlb (fun _ => ⟨by omega, by omega⟩) (fun q => absurd q (by decide)) (fun k => rfl) (fun k => W0hi (by omega))
          have hv := v3.1 v1 v2
          have hv : v = 40 ∨ v = 41 ∨ v = 42 ∨ v = 43 ∨ v = 44 := by omega
          rcases hv with rfl | rfl | rfl | rfl | rfl
          · exact e3.1
          · exact e3.2.1
          · exact e3.2.2.1
          · exact e3.2.2.2.1
          · exact e3.2.2.2.2
      refine g3 hC rfl rfl ?_
      refine g3 hC rfl rfl ?_
      refine g19 hC rfl (shH hh) (Nat.le_of_ble_eq_true rfl) rfl (rd3 hS hwh hV hW) ?_
      refine g13g hC rfl (fun h7 => ?_) (fun h7 => (by omega))
      refine g3 hC rfl rfl ?_
      refine g19 hC rfl rfl (Nat.le_of_ble_eq_true rfl) rfl ((hS.fix hw hF).g fx_71_10) ?_
      refine g0 hC rfl ?_
      refine g3 hC rfl rfl ?_
      refine g19 hC rfl (shH hh) (Nat.le_of_ble_eq_true rfl) rfl ((hS.fix hw hF).h (v := 10) hh rfl rfl) ?_
      refine g3 hC rfl rfl ?_
      refine r21 (c) hC rfl (by omega) (shA (v := 10) hh rfl rfl) (Or.inl rfl) (by omega) (rdP hS hwh hV hW (by omega)) ?_
      refine r22s (0) hC rfl (by omega) sh106 (by omega) rfl hS rfl (fun hS => ?_)
      refine g3 hC rfl rfl ?_
      refine g19 hC rfl rfl (Nat.le_of_ble_eq_true rfl) rfl ((hS.fix hw hF).g fx_71_10) ?_
      refine g0 hC rfl ?_
      refine g3 hC rfl rfl ?_
      refine g19 hC rfl (shH hh) (Nat.le_of_ble_eq_true rfl) rfl ((hS.fix hw hF).h (v := 11) hh rfl rfl) ?_
      refine g3 hC rfl rfl ?_
      refine r21 (c) hC rfl (by omega) (shA (v := 11) hh rfl rfl) (Or.inl rfl) (by omega) (rdi hS hwh hV 11 _ (by decide) (by decide) (by decide)) ?_
      refine r22s (1) hC rfl (by omega) sh106 (by omega) rfl hS rfl (fun hS => ?_)
      refine g3 hC rfl rfl ?_
      refine g19 hC rfl rfl (Nat.le_of_ble_eq_true rfl) rfl ((hS.fix hw hF).g fx_71_10) ?_
      refine g0 hC rfl ?_
      refine g3 hC rfl rfl ?_
      refine r22s (2) hC rfl (by omega) sh106 (by omega) rfl hS rfl (fun hS => ?_)
      refine g3 hC rfl rfl ?_
      refine g19 hC rfl rfl (Nat.le_of_ble_eq_true rfl) rfl ((hS.fix hw hF).g fx_71_10) ?_
      refine g0 hC rfl ?_
      refine g3 hC rfl rfl ?_
      refine r22s (3) hC rfl (by omega) sh106 (by omega) rfl hS rfl (fun hS => ?_)
      refine g3 hC rfl rfl ?_
      refine g19 hC rfl rfl (Nat.le_of_ble_eq_true rfl) rfl ((hS.fix hw hF).g fx_71_10) ?_
      refine g0 hC rfl ?_
      refine g3 hC rfl rfl ?_
      refine r22s (4) hC rfl (by omega) sh106 (by omega) rfl hS rfl (fun hS => ?_)
      refine g3 hC rfl rfl ?_
      refine g19 hC rfl (shH hh) (Nat.le_of_ble_eq_true rfl) rfl ((hS.fix hw hF).h (v := 12) hh rfl rfl) ?_
      refine g3 hC rfl rfl ?_
      refine g19 hC rfl rfl (Nat.le_of_ble_eq_true rfl) rfl ((hS.fix hw hF).g fx_71_10) ?_
      refine g3 hC rfl rfl ?_
      refine g19 hC rfl rfl (Nat.le_of_ble_eq_true rfl) rfl ((hS.fix hw hF).g fx_71_5) ?_
      refine g3 hC rfl rfl ?_
      refine r21 (c) hC rfl (by omega) sh94 (Or.inl rfl) (by omega) ((hS.fix hw hF).r (n := 8) (v := 95) rfl (by omega)) ?_
      refine c1 hC rfl rfl rfl (Nat.le_of_ble_eq_true rfl) (Nat.le_of_ble_eq_true rfl) (mayP (isP12 hh) rfl rfl rfl rfl rfl) (hcall _ (hS.fix hw hF) (rdi hS hwh hV 12 1 (by decide) (by decide) (by decide)) (fun k => rdi hS hwh hV 13 k (by decide) (by decide) (by decide)) ⟨by simp [upe], by simp [upe], by simp [upe], by simp [upe], by simp [upe]⟩) (Nat.le_of_ble_eq_true rfl) (fun x M2 hr => ?_)
      obtain ⟨rfl, hr⟩ := hr; have hS := hS.then hr rfl
      refine g12e hC rfl (fun h58 => ?_) (fun h58 => ?_)
      ·
        refine g0 hC rfl ?_
        refine ret3 hC rfl ⟨by omega, by omega⟩ ?_
        exact ⟨by rw [if_neg (by omega)], hS⟩
      ·
        refine g0 hC rfl ?_
        refine g14 hC rfl ?_
        refine ret3 hC rfl ⟨by omega, by omega⟩ ?_
        exact ⟨by rw [if_pos h58], hS⟩
    · rintro k hk ll M1 ⟨rfl, rfl⟩ hnext
      have hS : Sb W11 M1 M1 := Sb.refl
      have hcb := crI_b (a := M1 103) (b := M1 74) (c := c) k
      have e : crI (M1 103) (M1 74) c (k + 1) = if k ≠ c ∧ M1 103 k = 0 ∧ M1 74 k = -1 then crI (M1 103) (M1 74) c k + 1 else crI (M1 103) (M1 74) c k := rfl
      refine g3 hC rfl rfl ?_
      refine g3 hC rfl rfl ?_
      refine g19 hC rfl (shH hh) (Nat.le_of_ble_eq_true rfl) rfl (rd3 hS hwh hV hW) ?_
      refine g13g hC rfl (fun h7 => (by omega)) (fun h7 => ?_)
      refine g3 hC rfl rfl ?_
      refine g3 hC rfl rfl ?_
      refine g13e hC rfl (fun h10 => ?_) (fun h10 => ?_)
      ·
        refine n6 hC rfl rfl ⟨by omega, by omega⟩ ?_
        refine g14 hC rfl ?_
        exact hnext _ _ ⟨by rw [e, if_neg (fun z => z.1 (by omega))]; rfl, rfl⟩
      ·
        refine g3 hC rfl rfl ?_
        refine g3 hC rfl rfl ?_
        refine c1 hC rfl rfl rfl (Nat.le_of_ble_eq_true rfl) (Nat.le_of_ble_eq_true rfl) rfl (m8 (hS.fix hw hF) (c := (k)) (by omega)) (Nat.le_of_ble_eq_true rfl) (fun x M2 hr => ?_)
        obtain ⟨rfl, hr⟩ := hr
        replace hr := hr.symm
        subst hr
        refine g12e hC rfl (fun h14 => ?_) (fun h14 => ?_)
        ·
          refine n6 hC rfl rfl ⟨by omega, by omega⟩ ?_
          refine g14 hC rfl ?_
          refine hnext _ _ ⟨?_, rfl⟩
          rw [e, if_neg (fun z => ?_)]
          · rfl
          · rw [if_pos z.2] at h14; omega
        ·
          refine n5 hC rfl rfl ⟨by omega, by omega⟩ ?_
          refine n6 hC rfl rfl ⟨by omega, by omega⟩ ?_
          refine g14 hC rfl ?_
          refine hnext _ _ ⟨?_, rfl⟩
          have z : M1 103 k = 0 ∧ M1 74 k = -1 := by
            by_cases z : M1 103 k = 0 ∧ M1 74 k = -1
            · exact z
            · rw [if_neg z] at h14; omega
          rw [e, if_pos ⟨by omega, z⟩]; rfl
  refine g0 hC rfl ?_
  refine s5 hC rfl rfl rfl ?_
  refine g0 hC rfl ?_
  refine s6 hC rfl rfl rfl ?_
  exact l1 (nC V h) 0 (Nat.zero_add _) _ _ ⟨rfl, rfl⟩
end TRN
