def XQA : ax_W := ([], [(142, 117), (142, 118)])
def WAQ : ax_W := ([(4, 5)], [(1, 2), (1, 3), (1, 4), (1, 6), (1, 8), (1, 9), (3, 1), (6, 1), (6, 2), (6, 3)])
def ansQ (kd : Nat) (v : Nat → Int) (m : Nat) : Int := if kd = 0 then it (fun i (a : Int) => if ¬ v i = 0 ∧ a = -1 then (i : Int) else a) m (-1) else if kd = 1 then it (fun i (a : Int) => if ¬ v i = 0 then (i : Int) else a) m (-1) else if kd = 2 then it (fun i (a : Int) => if ¬ v i = 0 then a + 1 else a) m 0 else if kd = 3 then it (fun i (a : Int) => a + v i) m 0 else if kd = 4 then it (fun i (a : Int) => if i = 0 then v i else max a (v i)) m 0 else it (fun i (a : Int) => if i = 0 then v i else min a (v i)) m 0
theorem pval_k {lf : Nat → Int} {mt' : Int → Int} (hl : ∀ i, bnd (lf i)) (hm : ∀ i, bnd (mt' i)) {c : Nat → Int} {n : Nat} {b : Bool} (hT : Typed c n b) : (b = true → pval lf mt' c n = 0 ∨ pval lf mt' c n = 1) ∧ (b = false → bnd (pval lf mt' c n)) := by
  have hv := vok_ev hl hm hT.1 n (Nat.le_refl n)
  have h0 := hv.2 0 (by rw [hT.2.1]; decide)
  rw [hT.2.2] at h0
  exact h0
theorem it_b {f : Nat → Int → Int} {x lo hi : Int} (s : Int) (hs : 0 ≤ s) (hx : lo ≤ x ∧ x ≤ hi) (hf : ∀ i y, y - s ≤ f i y ∧ f i y ≤ y + s) : ∀ m : Nat, lo - s * m ≤ it f m x ∧ it f m x ≤ hi + s * m := by
  intro m
  induction m with
  | zero => show lo - s * 0 ≤ x ∧ x ≤ hi + s * 0; omega
  | succ m ih =>
    have h := hf m (it f m x)
    have e : it f (m + 1) x = f m (it f m x) := rfl
    have e2 : s * ((m + 1 : Nat) : Int) = s * m + s := by rw [show ((m + 1 : Nat) : Int) = (m : Int) + 1 by omega, Int.mul_add, Int.mul_one]
    rw [e, e2]; omega
section ASX
variable {L : Nat} {X : Nat → Int} {M V : ax_M} {h : Nat}
def QC (V : ax_M) (h : Nat) (ou : Nat → Int) (mm : Nat → Nat → Int) (cc : Nat → Int) (m : Nat) (M : ax_M) : Prop := HV V h M ∧ M 0 3 = (h : Int) ∧ (∀ c, c < nC V h → M 73 c = ou c) ∧ (∀ a b, a < 8 → b < 8 → M (95 + a) b = mm a b) ∧ Code M 3 2 cc m
theorem QC.sb {M1 : ax_M} {ou : Nat → Int} {mm : Nat → Nat → Int} {cc : Nat → Int} {m : Nat} (hh : h = 9 ∨ h = 27) (hq : QC V h ou mm cc m M) (hS : Sb WVQ M M1) : QC V h ou mm cc m M1 := ⟨hq.1.sb hS (hokB (by decide +kernel) hh) (sokB (by decide +kernel)), (hS _ _ rfl).trans hq.2.1, fun c hc => (hS _ _ rfl).trans (hq.2.2.1 c hc), fun a b ha hb => (hS _ _ (wbo 95 103 rfl (by omega) (by omega))).trans (hq.2.2.2.1 a b ha hb), hq.2.2.2.2.of (hS _ _ rfl) (fun k => hS _ _ rfl)⟩
def qv (V : ax_M) (h : Nat) (ou : Nat → Int) (mm : Nat → Nat → Int) (cc : Nat → Int) (m c : Nat) : Int := pval (lfQ V h ou c) (mtQ V h mm c) cc m
theorem m149q (hF : Fix M) (hh : h = 9 ∨ h = 27) (hW : HW V h) (hSW : SW V) {ou : Nat → Int} (ho : ouB V h ou) {mm : Nat → Nat → Int} (hmb : ∀ a b, 0 ≤ mm a b ∧ mm a b ≤ 9) (hm0 : ∀ a b, (nC V h ≤ b ∨ a = b) → mm a b = 0) {cc : Nat → Int} {m : Nat} {b : Bool} (hq : QC V h ou mm cc m M) (hT : Typed cc m b) {c : Nat} (hcn : c < nC V h) : ax_Ev L X SH 3 149 [(2, 0), (0, (c : Int))] M (R1 0 (fun x M' => x = qv V h ou mm cc m c ∧ Sb WVQ M M')) := m149 hF hh hq.1 hW hSW hq.2.1 ho hq.2.2.1 hmb hq.2.2.2.1 hm0 hq.2.2.2.2 hT hcn
theorem m150 (hF : Fix M) (hh : h = 9 ∨ h = 27) (hW : HW V h) (hSW : SW V) {ou : Nat → Int} (ho : ouB V h ou) {mm : Nat → Nat → Int} (hmb : ∀ a b, 0 ≤ mm a b ∧ mm a b ≤ 9) (hm0 : ∀ a b, (nC V h ≤ b ∨ a = b) → mm a b = 0) {cc : Nat → Int} {m : Nat} (hq : QC V h ou mm cc m M) (hT : Typed cc m true) {kd : Nat} (hkd : kd ≤ 2) : ax_Ev L X SH 4 150 [(2, 0), (0, (kd : Int))] M (R1 1 (fun x M' => x = ansQ kd (qv V h ou mm cc m) (nC V h) ∧ Sb WVQ M M')) := by
  show ax_G L X SH 4 150 0 [(2, 0), (0, (kd : Int)), (3, 0), (3, 0), (3, 0), (3, 0)] [] M _
  have hC := at150
  have hw : wok WVQ = true := by decide +kernel
  have hwh : hok WVQ h := hokB (by decide +kernel) hh
  have hb := hW.1.2.2.2.2
  have hV := hq.1
  have hH3 := hq.2.1
  obtain ⟨v, hv⟩ : ∃ v, v = qv V h ou mm cc m := ⟨_, rfl⟩
  rw [← hv]
  obtain ⟨f1, hf1⟩ : ∃ f1 : Nat → Int → Int, f1 = fun i (a : Int) => if ¬ v i = 0 ∧ a = -1 then (i : Int) else a := ⟨_, rfl⟩
  obtain ⟨f2, hf2⟩ : ∃ f2 : Nat → Int → Int, f2 = fun i (a : Int) => if ¬ v i = 0 then (i : Int) else a := ⟨_, rfl⟩
  obtain ⟨f3, hf3⟩ : ∃ f3 : Nat → Int → Int, f3 = fun i (a : Int) => if ¬ v i = 0 then a + 1 else a := ⟨_, rfl⟩
  have eA : ansQ kd v (nC V h) = if kd = 0 then it f1 (nC V h) (-1) else if kd = 1 then it f2 (nC V h) (-1) else it f3 (nC V h) 0 := by
    unfold ansQ
    rw [hf1, hf2, hf3]
    by_cases z0 : kd = 0
    · rw [if_pos z0, if_pos z0]
    · rw [if_neg z0, if_neg z0]
      by_cases z1 : kd = 1
      · rw [if_pos z1, if_pos z1]
      · rw [if_neg z1, if_neg z1, if_pos (by omega)]
  have b3 := it_b (f := f3) (x := 0) (lo := 0) (hi := 0) 1 (by decide) ⟨by decide, by decide⟩ (fun i y => by rw [hf3]; dsimp only; split <;> omega)
  have l1 : ∀ (mm' i : Nat), i + mm' = nC V h → ∀ ll M1, (ll = [(2, 0), (0, (kd : Int)), (0, it f1 i (-1)), (0, it f2 i (-1)), (0, it f3 i 0), (0, (i : Int))] ∧ Sb WVQ M M1) → ax_G L X SH 4 150 8 ll [] M1 (R1 1 (fun x M' => x = ansQ kd v (nC V h) ∧ Sb WVQ M M')) := by
    refine lp ?_ ?_
    · rintro ll M1 ⟨rfl, hS⟩
      refine g3 hC rfl rfl ?_
      refine g3 hC rfl rfl ?_
      refine g19 hC rfl rfl (Nat.le_of_ble_eq_true rfl) rfl ((hS _ _ rfl).trans hH3) ?_
      refine g19 hC rfl (shH hh) (Nat.le_of_ble_eq_true rfl) rfl (rd3 hS hwh hV hW) ?_
      refine g13g hC rfl (fun h12 => ?_) (fun h12 => (by omega))
      refine g3 hC rfl rfl ?_
      refine g0 hC rfl ?_
      refine g13n hC rfl (fun h31 => ?_) (fun h31 => ?_)
      ·
        refine g3 hC rfl rfl ?_
        refine g12n hC rfl (fun h36 => ?_) (fun h36 => ?_)
        ·
          refine g3 hC rfl rfl ?_
          refine g9 hC rfl ?_
          refine ret1 hC rfl rfl ?_
          exact ⟨by rw [eA, if_neg (by omega), if_pos (by omega)], hS⟩
        ·
          refine g3 hC rfl rfl ?_
          refine g9 hC rfl ?_
          refine g14 hC rfl ?_
          refine ret1 hC rfl rfl ?_
          exact ⟨by rw [eA, if_pos (by omega)], hS⟩
      ·
        refine g3 hC rfl rfl ?_
        refine g9 hC rfl ?_
        refine ret1 hC rfl rfl ?_
        exact ⟨by rw [eA, if_neg (by omega), if_neg (by omega)], hS⟩
    · rintro i hi ll M1 ⟨rfl, hS⟩ hnext
      have b3i := b3 i
      have sE1 : it f1 (i + 1) (-1) = if ¬ v i = 0 ∧ it f1 i (-1) = -1 then (i : Int) else it f1 i (-1) := by rw [show it f1 (i + 1) (-1) = f1 i (it f1 i (-1)) from rfl]; rw [hf1]
      have sE2 : it f2 (i + 1) (-1) = if ¬ v i = 0 then (i : Int) else it f2 i (-1) := by rw [show it f2 (i + 1) (-1) = f2 i (it f2 i (-1)) from rfl]; rw [hf2]
      have sE3 : it f3 (i + 1) 0 = if ¬ v i = 0 then it f3 i 0 + 1 else it f3 i 0 := by rw [show it f3 (i + 1) 0 = f3 i (it f3 i 0) from rfl]; rw [hf3]
      refine g3 hC rfl rfl ?_
      refine g3 hC rfl rfl ?_
      refine g19 hC rfl rfl (Nat.le_of_ble_eq_true rfl) rfl ((hS _ _ rfl).trans hH3) ?_
      refine g19 hC rfl (shH hh) (Nat.le_of_ble_eq_true rfl) rfl (rd3 hS hwh hV hW) ?_
      refine g13g hC rfl (fun h12 => (by omega)) (fun h12 => ?_)
      refine g3 hC rfl rfl ?_
      refine g3 hC rfl rfl ?_
      refine c1 hC rfl rfl rfl (Nat.le_of_ble_eq_true rfl) (Nat.le_of_ble_eq_true rfl) rfl (m149q (hS.fix hw hF) hh hW hSW ho hmb hm0 (hq.sb hh hS) hT hi) (Nat.le_of_ble_eq_true rfl) (fun x M2 hr => ?_)
      obtain ⟨hx, hr0⟩ := hr; have hS := hS.then hr0 rfl; rw [← hv] at hx
      refine g12e hC rfl (fun h16 => ?_) (fun h16 => ?_)
      ·
        refine n5 hC rfl rfl ⟨by omega, by omega⟩ ?_
        refine g14 hC rfl ?_
        refine hnext _ _ ⟨?_, hS⟩
        rw [sE1, sE2, sE3, if_neg (fun z => z.1 (by omega)), if_neg (by omega), if_neg (by omega)]; rfl
      ·
        refine g3 hC rfl rfl ?_
        refine g0 hC rfl ?_
        refine g13n hC rfl (fun h19 => ?_) (fun h19 => ?_)
        ·
          refine g3 hC rfl rfl ?_
          refine s2 hC rfl rfl rfl ?_
          refine g3 hC rfl rfl ?_
          refine s3 hC rfl rfl rfl ?_
          refine n4 hC rfl rfl ⟨by omega, by omega⟩ ?_
          refine n5 hC rfl rfl ⟨by omega, by omega⟩ ?_
          refine g14 hC rfl ?_
          refine hnext _ _ ⟨?_, hS⟩
          rw [sE1, sE2, sE3, if_neg (fun z => h19 z.2), if_pos (by omega), if_pos (by omega)]; rfl
        ·
          refine g3 hC rfl rfl ?_
          refine g14 hC rfl ?_
          refine s2 hC rfl rfl rfl ?_
          refine g3 hC rfl rfl ?_
          refine s3 hC rfl rfl rfl ?_
          refine n4 hC rfl rfl ⟨by omega, by omega⟩ ?_
          refine n5 hC rfl rfl ⟨by omega, by omega⟩ ?_
          refine g14 hC rfl ?_
          refine hnext _ _ ⟨?_, hS⟩
          rw [sE1, sE2, sE3, if_pos ⟨by omega, by omega⟩, if_pos (by omega), if_pos (by omega)]; rfl
  have hS : Sb WVQ M M := Sb.refl
  refine g0 hC rfl ?_
  refine s2 hC rfl rfl rfl ?_
  refine g0 hC rfl ?_
  refine s3 hC rfl rfl rfl ?_
  refine g0 hC rfl ?_
  refine s4 hC rfl rfl rfl ?_
  refine g0 hC rfl ?_
  refine s5 hC rfl rfl rfl ?_
  exact l1 (nC V h) 0 (Nat.zero_add _) _ _ ⟨rfl, hS⟩
theorem m151 (hF : Fix M) (hh : h = 9 ∨ h = 27) (hW : HW V h) (hSW : SW V) {ou : Nat → Int} (ho : ouB V h ou) {mm : Nat → Nat → Int} (hmb : ∀ a b, 0 ≤ mm a b ∧ mm a b ≤ 9) (hm0 : ∀ a b, (nC V h ≤ b ∨ a = b) → mm a b = 0) {cc : Nat → Int} {m : Nat} (hq : QC V h ou mm cc m M) (hT : Typed cc m false) {kd : Nat} (hkd : 3 ≤ kd) (hkd5 : kd ≤ 5) : ax_Ev L X SH 4 151 [(2, 0), (0, (kd : Int))] M (R1 1 (fun x M' => x = ansQ kd (qv V h ou mm cc m) (nC V h) ∧ Sb WVQ M M')) := by
  show ax_G L X SH 4 151 0 [(2, 0), (0, (kd : Int)), (3, 0), (3, 0), (3, 0), (3, 0), (3, 0), (3, 0), (3, 0), (3, 0), (3, 0)] [] M _
  have hC := at151
  have hw : wok WVQ = true := by decide +kernel
  have hwh : hok WVQ h := hokB (by decide +kernel) hh
  have hb := hW.1.2.2.2.2
  have hV := hq.1
  have hH3 := hq.2.1
  have hvb : ∀ c, c < nC V h → bnd (qv V h ou mm cc m c) := fun c hc => (pval_k (lfQ_b hW hSW ho hc) (mtQ_b hmb) hT).2 rfl
  obtain ⟨v, hv⟩ : ∃ v, v = qv V h ou mm cc m := ⟨_, rfl⟩
  rw [← hv] at hvb ⊢
  obtain ⟨f1, hf1⟩ : ∃ f1 : Nat → Int → Int, f1 = fun i (a : Int) => a + v i := ⟨_, rfl⟩
  obtain ⟨f2, hf2⟩ : ∃ f2 : Nat → Int → Int, f2 = fun i (a : Int) => if i = 0 then v i else max a (v i) := ⟨_, rfl⟩
  obtain ⟨f3, hf3⟩ : ∃ f3 : Nat → Int → Int, f3 = fun i (a : Int) => if i = 0 then v i else min a (v i) := ⟨_, rfl⟩
  have eA : ansQ kd v (nC V h) = if kd = 3 then it f1 (nC V h) 0 else if kd = 4 then it f2 (nC V h) 0 else it f3 (nC V h) 0 := by
    unfold ansQ
    rw [hf1, hf2, hf3, if_neg (by omega), if_neg (by omega), if_neg (by omega)]
  have l1 : ∀ (mm' i : Nat), i + mm' = nC V h → ∀ ll M1, (∃ v9 v10, ll = [(2, 0), (0, (kd : Int)), (1, it f1 i 0), (3, 0), (1, it f2 i 0), (3, 0), (1, it f3 i 0), (3, 0), (0, (i : Int)), v9, v10] ∧ Sb WVQ M M1 ∧ (-1000000 * (i : Int) ≤ it f1 i 0 ∧ it f1 i 0 ≤ 1000000 * (i : Int))) → ax_G L X SH 4 151 8 ll [] M1 (R1 1 (fun x M' => x = ansQ kd v (nC V h) ∧ Sb WVQ M M')) := by
    refine lp ?_ ?_
    · rintro ll M1 ⟨v9, v10, rfl, hS, hbb⟩
      refine g3 hC rfl rfl ?_
      refine g3 hC rfl rfl ?_
      refine g19 hC rfl rfl (Nat.le_of_ble_eq_true rfl) rfl ((hS _ _ rfl).trans hH3) ?_
      refine g19 hC rfl (shH hh) (Nat.le_of_ble_eq_true rfl) rfl (rd3 hS hwh hV hW) ?_
      refine g13g hC rfl (fun h12 => ?_) (fun h12 => (by omega))
      refine g3 hC rfl rfl ?_
      refine g0 hC rfl ?_
      refine g13n hC rfl (fun h42 => ?_) (fun h42 => ?_)
      ·
        refine g3 hC rfl rfl ?_
        refine g0 hC rfl ?_
        refine g13n hC rfl (fun h47 => ?_) (fun h47 => ?_)
        ·
          refine g3 hC rfl rfl ?_
          refine ret1 hC rfl rfl ?_
          exact ⟨by rw [eA, if_neg (by omega), if_neg (by omega)], hS⟩
        ·
          refine g3 hC rfl rfl ?_
          refine g14 hC rfl ?_
          refine ret1 hC rfl rfl ?_
          exact ⟨by rw [eA, if_neg (by omega), if_pos (by omega)], hS⟩
      ·
        refine g3 hC rfl rfl ?_
        refine ret1 hC rfl rfl ?_
        exact ⟨by rw [eA, if_pos (by omega)], hS⟩
    · rintro i hi ll M1 ⟨v9, v10, rfl, hS, hbb⟩ hnext
      have hvi := hvb i hi
      unfold bnd at hvi
      have sE1 : it f1 (i + 1) 0 = it f1 i 0 + v i := by rw [show it f1 (i + 1) 0 = f1 i (it f1 i 0) from rfl]; rw [hf1]
      have sE2 : it f2 (i + 1) 0 = if i = 0 then v i else max (it f2 i 0) (v i) := by rw [show it f2 (i + 1) 0 = f2 i (it f2 i 0) from rfl]; rw [hf2]
      have sE3 : it f3 (i + 1) 0 = if i = 0 then v i else min (it f3 i 0) (v i) := by rw [show it f3 (i + 1) 0 = f3 i (it f3 i 0) from rfl]; rw [hf3]
      have ei : (i : Int) + 1 = ((i + 1 : Nat) : Int) := by omega
      refine g3 hC rfl rfl ?_
      refine g3 hC rfl rfl ?_
      refine g19 hC rfl rfl (Nat.le_of_ble_eq_true rfl) rfl ((hS _ _ rfl).trans hH3) ?_
      refine g19 hC rfl (shH hh) (Nat.le_of_ble_eq_true rfl) rfl (rd3 hS hwh hV hW) ?_
      refine g13g hC rfl (fun h12 => (by omega)) (fun h12 => ?_)
      refine g3 hC rfl rfl ?_
      refine g3 hC rfl rfl ?_
      refine c1 hC rfl rfl rfl (Nat.le_of_ble_eq_true rfl) (Nat.le_of_ble_eq_true rfl) rfl (m149q (hS.fix hw hF) hh hW hSW ho hmb hm0 (hq.sb hh hS) hT hi) (Nat.le_of_ble_eq_true rfl) (fun x M2 hr => ?_)
      obtain ⟨hx, hr0⟩ := hr; have hS := hS.then hr0 rfl; rw [← hv] at hx; subst hx
      refine g9 hC rfl ?_
      refine sl9 hC rfl rfl ?_
      refine g3 hC rfl rfl ?_
      refine g3 hC rfl rfl ?_
      refine g7a hC rfl ⟨by omega, by omega⟩ ?_
      refine sl2 hC rfl rfl ?_
      refine g3 hC rfl rfl ?_
      refine g12n hC rfl (fun h23 => ?_) (fun h23 => ?_)
      ·
        refine g3 hC rfl rfl ?_
        refine g3 hC rfl rfl ?_
        refine c1 hC rfl rfl rfl (Nat.le_of_ble_eq_true rfl) (Nat.le_of_ble_eq_true rfl) rfl (m305) (Nat.le_of_ble_eq_true rfl) (fun x M2 hr => ?_)
        obtain ⟨rfl, hr⟩ := hr
        replace hr := hr.symm
        subst hr
        refine sl4 hC rfl rfl ?_
        refine g3 hC rfl rfl ?_
        refine g12n hC rfl (fun h31 => ?_) (fun h31 => ?_)
        ·
          refine g3 hC rfl rfl ?_
          refine g3 hC rfl rfl ?_
          refine c1 hC rfl rfl rfl (Nat.le_of_ble_eq_true rfl) (Nat.le_of_ble_eq_true rfl) rfl (m307) (Nat.le_of_ble_eq_true rfl) (fun x M2 hr => ?_)
          obtain ⟨rfl, hr⟩ := hr
          replace hr := hr.symm
          subst hr
          refine sl6 hC rfl rfl ?_
          refine n8 hC rfl rfl ⟨by omega, by omega⟩ ?_
          refine g14 hC rfl ?_
          exact hnext _ _ ⟨_, _, by rw [sE1, sE2, sE3, if_neg (by omega), if_neg (by omega), ei], hS, by rw [sE1]; omega⟩
        ·
          refine g3 hC rfl rfl ?_
          refine g14 hC rfl ?_
          refine sl6 hC rfl rfl ?_
          refine n8 hC rfl rfl ⟨by omega, by omega⟩ ?_
          refine g14 hC rfl ?_
          exfalso; omega
      ·
        refine g3 hC rfl rfl ?_
        refine g14 hC rfl ?_
        refine sl4 hC rfl rfl ?_
        refine g3 hC rfl rfl ?_
        refine g12n hC rfl (fun h31 => ?_) (fun h31 => ?_)
        ·
          refine g3 hC rfl rfl ?_
          refine g3 hC rfl rfl ?_
          refine c1 hC rfl rfl rfl (Nat.le_of_ble_eq_true rfl) (Nat.le_of_ble_eq_true rfl) rfl (m307) (Nat.le_of_ble_eq_true rfl) (fun x M2 hr => ?_)
          obtain ⟨rfl, hr⟩ := hr
          replace hr := hr.symm
          subst hr
          refine sl6 hC rfl rfl ?_
          refine n8 hC rfl rfl ⟨by omega, by omega⟩ ?_
          refine g14 hC rfl ?_
          exfalso; omega
        ·
          refine g3 hC rfl rfl ?_
          refine g14 hC rfl ?_
          refine sl6 hC rfl rfl ?_
          refine n8 hC rfl rfl ⟨by omega, by omega⟩ ?_
          refine g14 hC rfl ?_
          exact hnext _ _ ⟨_, _, by rw [sE1, sE2, sE3, if_pos (by omega), if_pos (by omega), ei], hS, by rw [sE1]; omega⟩
  have hS : Sb WVQ M M := Sb.refl
  refine g1 hC rfl ?_
  refine sl2 hC rfl rfl ?_
  refine g1 hC rfl ?_
  refine sl4 hC rfl rfl ?_
  refine g1 hC rfl ?_
  refine sl6 hC rfl rfl ?_
  refine g0 hC rfl ?_
  refine s8 hC rfl rfl rfl ?_
  exact l1 (nC V h) 0 (Nat.zero_add _) _ _ ⟨_, _, rfl, hS, by show -1000000 * 0 ≤ (0 : Int) ∧ (0 : Int) ≤ 1000000 * 0; decide⟩
end ASX
section ASY
variable {L : Nat} {X : Nat → Int} {M V : ax_M} {h : Nat}
theorem m290_0 {i : Nat} (hi : i < 8) {v qa nw : Int} (hv : v = 0 ∨ v = 1) (hqa : M 142 117 = qa) (hqb : -100000000 ≤ qa ∧ qa ≤ 100000000) (hnw : M 142 118 = nw) (hn0 : nw = 0 ∨ nw = 1) : ax_Ev L X SH 0 290 [(2, 142), (0, 0), (1, v), (0, (i : Int))] M (R0 (fun M' => Sb XQA M M' ∧ M' 142 117 = (if ¬ v = 0 ∧ qa = -1 then (i : Int) else qa) ∧ M' 142 118 = 0)) := by
  show ax_G L X SH 0 290 0 [(2, 142), (0, 0), (1, v), (3, 0), (0, (i : Int)), (3, 0)] [] M _
  have hC := at290
  have hS : Sb XQA M M := Sb.refl
  have hz1 := @cmp0 v 1
  have hzq := @cmp0 qa (-1)
  have hzv := @cmp0 v qa
  refine g3 hC rfl rfl ?_
  refine g0 hC rfl ?_
  refine g13g hC rfl (fun h2 => (by omega)) (fun h2 => ?_)
  refine g3 hC rfl rfl ?_
  refine g1 hC rfl ?_
  refine g11 hC rfl ?_
  refine g12n hC rfl (fun h6 => ?_) (fun h6 => ?_)
  ·
    refine g0 hC rfl ?_
    refine s5 hC rfl rfl rfl ?_
    refine g3 hC rfl rfl ?_
    refine g12n hC rfl (fun h12 => (by omega)) (fun h12 => ?_)
    refine g3 hC rfl rfl ?_
    refine g12e hC rfl (fun h14 => ?_) (fun h14 => ?_)
    ·
      refine g3 hC rfl rfl ?_
      refine g0 hC rfl ?_
      refine g13n hC rfl (fun h22 => ?_) (fun h22 => (by omega))
      refine g3 hC rfl rfl ?_
      refine g0 hC rfl ?_
      refine g13n hC rfl (fun h31 => ?_) (fun h31 => (by omega))
      refine g3 hC rfl rfl ?_
      refine g0 hC rfl ?_
      refine g13n hC rfl (fun h42 => ?_) (fun h42 => (by omega))
      refine g3 hC rfl rfl ?_
      refine g0 hC rfl ?_
      refine g13s hC rfl (fun h51 => ?_) (fun h51 => (by omega))
      refine g3 hC rfl rfl ?_
      refine g0 hC rfl ?_
      refine g20s hC rfl sh142 (flt12 rfl) (by rw [fy12_118]; rfl) hS rfl (fun hS => ?_)
      refine ret0 hC rfl ?_
      refine ⟨hS, ?_, ax_up_at⟩
      rw [ax_up_of (by decide)]
      first
        | (rw [ax_up_at]; done)
        | (rw [ax_up_at]; (try split) <;> omega)
        | (rw [hqa]; (try split) <;> omega)
        | (exfalso; omega)
    ·
      refine g3 hC rfl rfl ?_
      refine g19 hC rfl sh142 (flt12 rfl) ft12_117 hqa ?_
      refine g1 hC rfl ?_
      refine g11 hC rfl ?_
      refine g12e hC rfl (fun h19 => ?_) (fun h19 => ?_)
      ·
        refine g3 hC rfl rfl ?_
        refine g3 hC rfl rfl ?_
        refine g9 hC rfl ?_
        refine g20s hC rfl sh142 (flt12 rfl) (by rw [fy12_117]; rfl) hS rfl (fun hS => ?_)
        refine g3 hC rfl rfl ?_
        refine g0 hC rfl ?_
        refine g13n hC rfl (fun h31 => ?_) (fun h31 => (by omega))
        refine g3 hC rfl rfl ?_
        refine g0 hC rfl ?_
        refine g13n hC rfl (fun h42 => ?_) (fun h42 => (by omega))
        refine g3 hC rfl rfl ?_
        refine g0 hC rfl ?_
        refine g13s hC rfl (fun h51 => ?_) (fun h51 => (by omega))
        refine g3 hC rfl rfl ?_
        refine g0 hC rfl ?_
        refine g20s hC rfl sh142 (flt12 rfl) (by rw [fy12_118]; rfl) hS rfl (fun hS => ?_)
        refine ret0 hC rfl ?_
        refine ⟨hS, ?_, ax_up_at⟩
        rw [ax_up_of (by decide)]
        first
          | (rw [ax_up_at]; done)
          | (rw [ax_up_at]; (try split) <;> omega)
          | (rw [hqa]; (try split) <;> omega)
          | (exfalso; omega)
      ·
        refine g3 hC rfl rfl ?_
        refine g0 hC rfl ?_
        refine g13n hC rfl (fun h22 => ?_) (fun h22 => (by omega))
        refine g3 hC rfl rfl ?_
        refine g0 hC rfl ?_
        refine g13n hC rfl (fun h31 => ?_) (fun h31 => (by omega))
        refine g3 hC rfl rfl ?_
        refine g0 hC rfl ?_
        refine g13n hC rfl (fun h42 => ?_) (fun h42 => (by omega))
        refine g3 hC rfl rfl ?_
        refine g0 hC rfl ?_
        refine g13s hC rfl (fun h51 => ?_) (fun h51 => (by omega))
        refine g3 hC rfl rfl ?_
        refine g0 hC rfl ?_
        refine g20s hC rfl sh142 (flt12 rfl) (by rw [fy12_118]; rfl) hS rfl (fun hS => ?_)
        refine ret0 hC rfl ?_
        refine ⟨hS, ?_, ax_up_at⟩
        rw [ax_up_of (by decide)]
        first
          | (rw [ax_up_at]; done)
          | (rw [ax_up_at]; (try split) <;> omega)
          | (rw [hqa]; (try split) <;> omega)
          | (exfalso; omega)
  ·
    refine g0 hC rfl ?_
    refine g14 hC rfl ?_
    refine s5 hC rfl rfl rfl ?_
    refine g3 hC rfl rfl ?_
    refine g12n hC rfl (fun h12 => (by omega)) (fun h12 => ?_)
    refine g3 hC rfl rfl ?_
    refine g12e hC rfl (fun h14 => ?_) (fun h14 => ?_)
    ·
      refine g3 hC rfl rfl ?_
      refine g0 hC rfl ?_
      refine g13n hC rfl (fun h22 => ?_) (fun h22 => (by omega))
      refine g3 hC rfl rfl ?_
      refine g0 hC rfl ?_
      refine g13n hC rfl (fun h31 => ?_) (fun h31 => (by omega))
      refine g3 hC rfl rfl ?_
      refine g0 hC rfl ?_
      refine g13n hC rfl (fun h42 => ?_) (fun h42 => (by omega))
      refine g3 hC rfl rfl ?_
      refine g0 hC rfl ?_
      refine g13s hC rfl (fun h51 => ?_) (fun h51 => (by omega))
      refine g3 hC rfl rfl ?_
      refine g0 hC rfl ?_
      refine g20s hC rfl sh142 (flt12 rfl) (by rw [fy12_118]; rfl) hS rfl (fun hS => ?_)
      refine ret0 hC rfl ?_
      refine ⟨hS, ?_, ax_up_at⟩
      rw [ax_up_of (by decide)]
      first
        | (rw [ax_up_at]; done)
        | (rw [ax_up_at]; (try split) <;> omega)
        | (rw [hqa]; (try split) <;> omega)
        | (exfalso; omega)
    ·
      refine g3 hC rfl rfl ?_
      refine g19 hC rfl sh142 (flt12 rfl) ft12_117 hqa ?_
      refine g1 hC rfl ?_
      refine g11 hC rfl ?_
      refine g12e hC rfl (fun h19 => ?_) (fun h19 => ?_)
      ·
        refine g3 hC rfl rfl ?_
        refine g3 hC rfl rfl ?_
        refine g9 hC rfl ?_
        refine g20s hC rfl sh142 (flt12 rfl) (by rw [fy12_117]; rfl) hS rfl (fun hS => ?_)
        refine g3 hC rfl rfl ?_
        refine g0 hC rfl ?_
        refine g13n hC rfl (fun h31 => ?_) (fun h31 => (by omega))
        refine g3 hC rfl rfl ?_
        refine g0 hC rfl ?_
        refine g13n hC rfl (fun h42 => ?_) (fun h42 => (by omega))
        refine g3 hC rfl rfl ?_
        refine g0 hC rfl ?_
        refine g13s hC rfl (fun h51 => ?_) (fun h51 => (by omega))
        refine g3 hC rfl rfl ?_
        refine g0 hC rfl ?_
        refine g20s hC rfl sh142 (flt12 rfl) (by rw [fy12_118]; rfl) hS rfl (fun hS => ?_)
        refine ret0 hC rfl ?_
        refine ⟨hS, ?_, ax_up_at⟩
        rw [ax_up_of (by decide)]
        first
          | (rw [ax_up_at]; done)
          | (rw [ax_up_at]; (try split) <;> omega)
          | (rw [hqa]; (try split) <;> omega)
          | (exfalso; omega)
      ·
        refine g3 hC rfl rfl ?_
        refine g0 hC rfl ?_
        refine g13n hC rfl (fun h22 => ?_) (fun h22 => (by omega))
        refine g3 hC rfl rfl ?_
        refine g0 hC rfl ?_
        refine g13n hC rfl (fun h31 => ?_) (fun h31 => (by omega))
        refine g3 hC rfl rfl ?_
        refine g0 hC rfl ?_
        refine g13n hC rfl (fun h42 => ?_) (fun h42 => (by omega))
        refine g3 hC rfl rfl ?_
        refine g0 hC rfl ?_
        refine g13s hC rfl (fun h51 => ?_) (fun h51 => (by omega))
        refine g3 hC rfl rfl ?_
        refine g0 hC rfl ?_
        refine g20s hC rfl sh142 (flt12 rfl) (by rw [fy12_118]; rfl) hS rfl (fun hS => ?_)
        refine ret0 hC rfl ?_
        refine ⟨hS, ?_, ax_up_at⟩
        rw [ax_up_of (by decide)]
        first
          | (rw [ax_up_at]; done)
          | (rw [ax_up_at]; (try split) <;> omega)
          | (rw [hqa]; (try split) <;> omega)
          | (exfalso; omega)
theorem m290_1 {i : Nat} (hi : i < 8) {v qa nw : Int} (hv : v = 0 ∨ v = 1) (hqa : M 142 117 = qa) (hqb : -100000000 ≤ qa ∧ qa ≤ 100000000) (hnw : M 142 118 = nw) (hn0 : nw = 0 ∨ nw = 1) : ax_Ev L X SH 0 290 [(2, 142), (0, 1), (1, v), (0, (i : Int))] M (R0 (fun M' => Sb XQA M M' ∧ M' 142 117 = (if ¬ v = 0 then (i : Int) else qa) ∧ M' 142 118 = 0)) := by
  show ax_G L X SH 0 290 0 [(2, 142), (0, 1), (1, v), (3, 0), (0, (i : Int)), (3, 0)] [] M _
  have hC := at290
  have hS : Sb XQA M M := Sb.refl
  have hz1 := @cmp0 v 1
  have hzq := @cmp0 qa (-1)
  have hzv := @cmp0 v qa
  refine g3 hC rfl rfl ?_
  refine g0 hC rfl ?_
  refine g13g hC rfl (fun h2 => (by omega)) (fun h2 => ?_)
  refine g3 hC rfl rfl ?_
  refine g1 hC rfl ?_
  refine g11 hC rfl ?_
  refine g12n hC rfl (fun h6 => ?_) (fun h6 => ?_)
  ·
    refine g0 hC rfl ?_
    refine s5 hC rfl rfl rfl ?_
    refine g3 hC rfl rfl ?_
    refine g12n hC rfl (fun h12 => ?_) (fun h12 => (by omega))
    refine g3 hC rfl rfl ?_
    refine g0 hC rfl ?_
    refine g13n hC rfl (fun h22 => (by omega)) (fun h22 => ?_)
    refine g3 hC rfl rfl ?_
    refine g12e hC rfl (fun h24 => ?_) (fun h24 => ?_)
    ·
      refine g3 hC rfl rfl ?_
      refine g0 hC rfl ?_
      refine g13n hC rfl (fun h31 => ?_) (fun h31 => (by omega))
      refine g3 hC rfl rfl ?_
      refine g0 hC rfl ?_
      refine g13n hC rfl (fun h42 => ?_) (fun h42 => (by omega))
      refine g3 hC rfl rfl ?_
      refine g0 hC rfl ?_
      refine g13s hC rfl (fun h51 => ?_) (fun h51 => (by omega))
      refine g3 hC rfl rfl ?_
      refine g0 hC rfl ?_
      refine g20s hC rfl sh142 (flt12 rfl) (by rw [fy12_118]; rfl) hS rfl (fun hS => ?_)
      refine ret0 hC rfl ?_
      refine ⟨hS, ?_, ax_up_at⟩
      rw [ax_up_of (by decide)]
      first
        | (rw [ax_up_at]; done)
        | (rw [ax_up_at]; (try split) <;> omega)
        | (rw [hqa]; (try split) <;> omega)
        | (exfalso; omega)
    ·
      refine g3 hC rfl rfl ?_
      refine g3 hC rfl rfl ?_
      refine g9 hC rfl ?_
      refine g20s hC rfl sh142 (flt12 rfl) (by rw [fy12_117]; rfl) hS rfl (fun hS => ?_)
      refine g3 hC rfl rfl ?_
      refine g0 hC rfl ?_
      refine g13n hC rfl (fun h31 => ?_) (fun h31 => (by omega))
      refine g3 hC rfl rfl ?_
      refine g0 hC rfl ?_
      refine g13n hC rfl (fun h42 => ?_) (fun h42 => (by omega))
      refine g3 hC rfl rfl ?_
      refine g0 hC rfl ?_
      refine g13s hC rfl (fun h51 => ?_) (fun h51 => (by omega))
      refine g3 hC rfl rfl ?_
      refine g0 hC rfl ?_
      refine g20s hC rfl sh142 (flt12 rfl) (by rw [fy12_118]; rfl) hS rfl (fun hS => ?_)
      refine ret0 hC rfl ?_
      refine ⟨hS, ?_, ax_up_at⟩
      rw [ax_up_of (by decide)]
      first
        | (rw [ax_up_at]; done)
        | (rw [ax_up_at]; (try split) <;> omega)
        | (rw [hqa]; (try split) <;> omega)
        | (exfalso; omega)
  ·
    refine g0 hC rfl ?_
    refine g14 hC rfl ?_
    refine s5 hC rfl rfl rfl ?_
    refine g3 hC rfl rfl ?_
    refine g12n hC rfl (fun h12 => ?_) (fun h12 => (by omega))
    refine g3 hC rfl rfl ?_
    refine g0 hC rfl ?_
    refine g13n hC rfl (fun h22 => (by omega)) (fun h22 => ?_)
    refine g3 hC rfl rfl ?_
    refine g12e hC rfl (fun h24 => ?_) (fun h24 => ?_)
    ·
      refine g3 hC rfl rfl ?_
      refine g0 hC rfl ?_
      refine g13n hC rfl (fun h31 => ?_) (fun h31 => (by omega))
      refine g3 hC rfl rfl ?_
      refine g0 hC rfl ?_
      refine g13n hC rfl (fun h42 => ?_) (fun h42 => (by omega))
      refine g3 hC rfl rfl ?_
      refine g0 hC rfl ?_
      refine g13s hC rfl (fun h51 => ?_) (fun h51 => (by omega))
      refine g3 hC rfl rfl ?_
      refine g0 hC rfl ?_
      refine g20s hC rfl sh142 (flt12 rfl) (by rw [fy12_118]; rfl) hS rfl (fun hS => ?_)
      refine ret0 hC rfl ?_
      refine ⟨hS, ?_, ax_up_at⟩
      rw [ax_up_of (by decide)]
      first
        | (rw [ax_up_at]; done)
        | (rw [ax_up_at]; (try split) <;> omega)
        | (rw [hqa]; (try split) <;> omega)
        | (exfalso; omega)
    ·
      refine g3 hC rfl rfl ?_
      refine g3 hC rfl rfl ?_
      refine g9 hC rfl ?_
      refine g20s hC rfl sh142 (flt12 rfl) (by rw [fy12_117]; rfl) hS rfl (fun hS => ?_)
      refine g3 hC rfl rfl ?_
      refine g0 hC rfl ?_
      refine g13n hC rfl (fun h31 => ?_) (fun h31 => (by omega))
      refine g3 hC rfl rfl ?_
      refine g0 hC rfl ?_
      refine g13n hC rfl (fun h42 => ?_) (fun h42 => (by omega))
      refine g3 hC rfl rfl ?_
      refine g0 hC rfl ?_
      refine g13s hC rfl (fun h51 => ?_) (fun h51 => (by omega))
      refine g3 hC rfl rfl ?_
      refine g0 hC rfl ?_
      refine g20s hC rfl sh142 (flt12 rfl) (by rw [fy12_118]; rfl) hS rfl (fun hS => ?_)
      refine ret0 hC rfl ?_
      refine ⟨hS, ?_, ax_up_at⟩
      rw [ax_up_of (by decide)]
      first
        | (rw [ax_up_at]; done)
        | (rw [ax_up_at]; (try split) <;> omega)
        | (rw [hqa]; (try split) <;> omega)
        | (exfalso; omega)
theorem m290_2 {i : Nat} (hi : i < 8) {v qa nw : Int} (hv : v = 0 ∨ v = 1) (hqa : M 142 117 = qa) (hqb : -100000000 ≤ qa ∧ qa ≤ 100000000) (hnw : M 142 118 = nw) (hn0 : nw = 0 ∨ nw = 1) : ax_Ev L X SH 0 290 [(2, 142), (0, 2), (1, v), (0, (i : Int))] M (R0 (fun M' => Sb XQA M M' ∧ M' 142 117 = (if ¬ v = 0 then qa + 1 else qa) ∧ M' 142 118 = 0)) := by
  show ax_G L X SH 0 290 0 [(2, 142), (0, 2), (1, v), (3, 0), (0, (i : Int)), (3, 0)] [] M _
  have hC := at290
  have hS : Sb XQA M M := Sb.refl
  have hz1 := @cmp0 v 1
  have hzq := @cmp0 qa (-1)
  have hzv := @cmp0 v qa
  refine g3 hC rfl rfl ?_
  refine g0 hC rfl ?_
  refine g13g hC rfl (fun h2 => (by omega)) (fun h2 => ?_)
  refine g3 hC rfl rfl ?_
  refine g1 hC rfl ?_
  refine g11 hC rfl ?_
  refine g12n hC rfl (fun h6 => ?_) (fun h6 => ?_)
  ·
    refine g0 hC rfl ?_
    refine s5 hC rfl rfl rfl ?_
    refine g3 hC rfl rfl ?_
    refine g12n hC rfl (fun h12 => ?_) (fun h12 => (by omega))
    refine g3 hC rfl rfl ?_
    refine g0 hC rfl ?_
    refine g13n hC rfl (fun h22 => ?_) (fun h22 => (by omega))
    refine g3 hC rfl rfl ?_
    refine g0 hC rfl ?_
    refine g13n hC rfl (fun h31 => (by omega)) (fun h31 => ?_)
    refine g3 hC rfl rfl ?_
    refine g12e hC rfl (fun h33 => ?_) (fun h33 => ?_)
    ·
      refine g3 hC rfl rfl ?_
      refine g0 hC rfl ?_
      refine g13n hC rfl (fun h42 => ?_) (fun h42 => (by omega))
      refine g3 hC rfl rfl ?_
      refine g0 hC rfl ?_
      refine g13s hC rfl (fun h51 => ?_) (fun h51 => (by omega))
      refine g3 hC rfl rfl ?_
      refine g0 hC rfl ?_
      refine g20s hC rfl sh142 (flt12 rfl) (by rw [fy12_118]; rfl) hS rfl (fun hS => ?_)
      refine ret0 hC rfl ?_
      refine ⟨hS, ?_, ax_up_at⟩
      rw [ax_up_of (by decide)]
      first
        | (rw [ax_up_at]; done)
        | (rw [ax_up_at]; (try split) <;> omega)
        | (rw [hqa]; (try split) <;> omega)
        | (exfalso; omega)
    ·
      refine g3 hC rfl rfl ?_
      refine g16 hC rfl (by decide) ?_
      refine g19 hC rfl sh142 (flt12 rfl) ft12_117 hqa ?_
      refine g1 hC rfl ?_
      refine g7a hC rfl ⟨by omega, by omega⟩ ?_
      refine g20s hC rfl sh142 (flt12 rfl) (by rw [fy12_117]; rfl) hS rfl (fun hS => ?_)
      refine g3 hC rfl rfl ?_
      refine g0 hC rfl ?_
      refine g13n hC rfl (fun h42 => ?_) (fun h42 => (by omega))
      refine g3 hC rfl rfl ?_
      refine g0 hC rfl ?_
      refine g13s hC rfl (fun h51 => ?_) (fun h51 => (by omega))
      refine g3 hC rfl rfl ?_
      refine g0 hC rfl ?_
      refine g20s hC rfl sh142 (flt12 rfl) (by rw [fy12_118]; rfl) hS rfl (fun hS => ?_)
      refine ret0 hC rfl ?_
      refine ⟨hS, ?_, ax_up_at⟩
      rw [ax_up_of (by decide)]
      first
        | (rw [ax_up_at]; done)
        | (rw [ax_up_at]; (try split) <;> omega)
        | (rw [hqa]; (try split) <;> omega)
        | (exfalso; omega)
  ·
    refine g0 hC rfl ?_
    refine g14 hC rfl ?_
    refine s5 hC rfl rfl rfl ?_
    refine g3 hC rfl rfl ?_
    refine g12n hC rfl (fun h12 => ?_) (fun h12 => (by omega))
    refine g3 hC rfl rfl ?_
    refine g0 hC rfl ?_
    refine g13n hC rfl (fun h22 => ?_) (fun h22 => (by omega))
    refine g3 hC rfl rfl ?_
    refine g0 hC rfl ?_
    refine g13n hC rfl (fun h31 => (by omega)) (fun h31 => ?_)
    refine g3 hC rfl rfl ?_
    refine g12e hC rfl (fun h33 => ?_) (fun h33 => ?_)
    ·
      refine g3 hC rfl rfl ?_
      refine g0 hC rfl ?_
      refine g13n hC rfl (fun h42 => ?_) (fun h42 => (by omega))
      refine g3 hC rfl rfl ?_
      refine g0 hC rfl ?_
      refine g13s hC rfl (fun h51 => ?_) (fun h51 => (by omega))
      refine g3 hC rfl rfl ?_
      refine g0 hC rfl ?_
      refine g20s hC rfl sh142 (flt12 rfl) (by rw [fy12_118]; rfl) hS rfl (fun hS => ?_)
      refine ret0 hC rfl ?_
      refine ⟨hS, ?_, ax_up_at⟩
      rw [ax_up_of (by decide)]
      first
        | (rw [ax_up_at]; done)
        | (rw [ax_up_at]; (try split) <;> omega)
        | (rw [hqa]; (try split) <;> omega)
        | (exfalso; omega)
    ·
      refine g3 hC rfl rfl ?_
      refine g16 hC rfl (by decide) ?_
      refine g19 hC rfl sh142 (flt12 rfl) ft12_117 hqa ?_
      refine g1 hC rfl ?_
      refine g7a hC rfl ⟨by omega, by omega⟩ ?_
      refine g20s hC rfl sh142 (flt12 rfl) (by rw [fy12_117]; rfl) hS rfl (fun hS => ?_)
      refine g3 hC rfl rfl ?_
      refine g0 hC rfl ?_
      refine g13n hC rfl (fun h42 => ?_) (fun h42 => (by omega))
      refine g3 hC rfl rfl ?_
      refine g0 hC rfl ?_
      refine g13s hC rfl (fun h51 => ?_) (fun h51 => (by omega))
      refine g3 hC rfl rfl ?_
      refine g0 hC rfl ?_
      refine g20s hC rfl sh142 (flt12 rfl) (by rw [fy12_118]; rfl) hS rfl (fun hS => ?_)
      refine ret0 hC rfl ?_
      refine ⟨hS, ?_, ax_up_at⟩
      rw [ax_up_of (by decide)]
      first
        | (rw [ax_up_at]; done)
        | (rw [ax_up_at]; (try split) <;> omega)
        | (rw [hqa]; (try split) <;> omega)
        | (exfalso; omega)
theorem m290_3 {i : Nat} (hi : i < 8) {v qa nw : Int} (hv : bnd v) (hqa : M 142 117 = qa) (hqb : -100000000 ≤ qa ∧ qa ≤ 100000000) (hnw : M 142 118 = nw) (hn0 : nw = 0 ∨ nw = 1) : ax_Ev L X SH 0 290 [(2, 142), (0, 3), (1, v), (0, (i : Int))] M (R0 (fun M' => Sb XQA M M' ∧ M' 142 117 = (qa + v) ∧ M' 142 118 = 0)) := by
  show ax_G L X SH 0 290 0 [(2, 142), (0, 3), (1, v), (3, 0), (0, (i : Int)), (3, 0)] [] M _
  have hC := at290
  have hS : Sb XQA M M := Sb.refl
  have hz1 := @cmp0 v 1
  have hzq := @cmp0 qa (-1)
  have hzv := @cmp0 v qa
  unfold bnd at hv
  refine g3 hC rfl rfl ?_
  refine g0 hC rfl ?_
  refine g13g hC rfl (fun h2 => ?_) (fun h2 => (by omega))
  refine g0 hC rfl ?_
  refine s5 hC rfl rfl rfl ?_
  refine g3 hC rfl rfl ?_
  refine g12n hC rfl (fun h12 => ?_) (fun h12 => (by omega))
  refine g3 hC rfl rfl ?_
  refine g0 hC rfl ?_
  refine g13n hC rfl (fun h22 => ?_) (fun h22 => (by omega))
  refine g3 hC rfl rfl ?_
  refine g0 hC rfl ?_
  refine g13n hC rfl (fun h31 => ?_) (fun h31 => (by omega))
  refine g3 hC rfl rfl ?_
  refine g0 hC rfl ?_
  refine g13n hC rfl (fun h42 => (by omega)) (fun h42 => ?_)
  refine g3 hC rfl rfl ?_
  refine g16 hC rfl (by decide) ?_
  refine g19 hC rfl sh142 (flt12 rfl) ft12_117 hqa ?_
  refine g3 hC rfl rfl ?_
  refine g7a hC rfl ⟨by omega, by omega⟩ ?_
  refine g20s hC rfl sh142 (flt12 rfl) (by rw [fy12_117]; rfl) hS rfl (fun hS => ?_)
  refine g3 hC rfl rfl ?_
  refine g0 hC rfl ?_
  refine g13s hC rfl (fun h51 => ?_) (fun h51 => (by omega))
  refine g3 hC rfl rfl ?_
  refine g0 hC rfl ?_
  refine g20s hC rfl sh142 (flt12 rfl) (by rw [fy12_118]; rfl) hS rfl (fun hS => ?_)
  refine ret0 hC rfl ?_
  refine ⟨hS, ?_, ax_up_at⟩
  rw [ax_up_of (by decide)]
  first
    | (rw [ax_up_at]; done)
    | (rw [ax_up_at]; (try split) <;> omega)
    | (rw [hqa]; (try split) <;> omega)
    | (exfalso; omega)
theorem m290_4 {i : Nat} (hi : i < 8) {v qa nw : Int} (hv : bnd v) (hqa : M 142 117 = qa) (hqb : -100000000 ≤ qa ∧ qa ≤ 100000000) (hnw : M 142 118 = nw) (hn0 : nw = 0 ∨ nw = 1) : ax_Ev L X SH 0 290 [(2, 142), (0, 4), (1, v), (0, (i : Int))] M (R0 (fun M' => Sb XQA M M' ∧ M' 142 117 = (if nw = 1 then v else max qa v) ∧ M' 142 118 = 0)) := by
  show ax_G L X SH 0 290 0 [(2, 142), (0, 4), (1, v), (3, 0), (0, (i : Int)), (3, 0)] [] M _
  have hC := at290
  have hS : Sb XQA M M := Sb.refl
  have hz1 := @cmp0 v 1
  have hzq := @cmp0 qa (-1)
  have hzv := @cmp0 v qa
  unfold bnd at hv
  refine g3 hC rfl rfl ?_
  refine g0 hC rfl ?_
  refine g13g hC rfl (fun h2 => ?_) (fun h2 => (by omega))
  refine g0 hC rfl ?_
  refine s5 hC rfl rfl rfl ?_
  refine g3 hC rfl rfl ?_
  refine g12n hC rfl (fun h12 => ?_) (fun h12 => (by omega))
  refine g3 hC rfl rfl ?_
  refine g0 hC rfl ?_
  refine g13n hC rfl (fun h22 => ?_) (fun h22 => (by omega))
  refine g3 hC rfl rfl ?_
  refine g0 hC rfl ?_
  refine g13n hC rfl (fun h31 => ?_) (fun h31 => (by omega))
  refine g3 hC rfl rfl ?_
  refine g0 hC rfl ?_
  refine g13n hC rfl (fun h42 => ?_) (fun h42 => (by omega))
  refine g3 hC rfl rfl ?_
  refine g0 hC rfl ?_
  refine g13s hC rfl (fun h51 => (by omega)) (fun h51 => ?_)
  refine g3 hC rfl rfl ?_
  refine g19 hC rfl sh142 (flt12 rfl) ft12_118 hnw ?_
  refine g12n hC rfl (fun h54 => ?_) (fun h54 => ?_)
  ·
    refine g3 hC rfl rfl ?_
    refine g3 hC rfl rfl ?_
    refine g20s hC rfl sh142 (flt12 rfl) (by rw [fy12_117]; rfl) hS rfl (fun hS => ?_)
    refine g3 hC rfl rfl ?_
    refine g0 hC rfl ?_
    refine g20s hC rfl sh142 (flt12 rfl) (by rw [fy12_118]; rfl) hS rfl (fun hS => ?_)
    refine ret0 hC rfl ?_
    refine ⟨hS, ?_, ax_up_at⟩
    rw [ax_up_of (by decide)]
    first
      | (rw [ax_up_at]; done)
      | (rw [ax_up_at]; (try split) <;> omega)
      | (rw [hqa]; (try split) <;> omega)
      | (exfalso; omega)
  ·
    refine g3 hC rfl rfl ?_
    refine g0 hC rfl ?_
    refine g13n hC rfl (fun h57 => (by omega)) (fun h57 => ?_)
    refine g3 hC rfl rfl ?_
    refine g3 hC rfl rfl ?_
    refine g19 hC rfl sh142 (flt12 rfl) ft12_117 hqa ?_
    refine g11 hC rfl ?_
    refine g12s hC rfl (fun h62 => ?_) (fun h62 => ?_)
    ·
      refine g3 hC rfl rfl ?_
      refine g0 hC rfl ?_
      refine g20s hC rfl sh142 (flt12 rfl) (by rw [fy12_118]; rfl) hS rfl (fun hS => ?_)
      refine ret0 hC rfl ?_
      refine ⟨hS, ?_, ax_up_at⟩
      rw [ax_up_of (by decide)]
      first
        | (rw [ax_up_at]; done)
        | (rw [ax_up_at]; (try split) <;> omega)
        | (rw [hqa]; (try split) <;> omega)
        | (exfalso; omega)
    ·
      refine g14 hC rfl ?_
      refine g3 hC rfl rfl ?_
      refine g3 hC rfl rfl ?_
      refine g20s hC rfl sh142 (flt12 rfl) (by rw [fy12_117]; rfl) hS rfl (fun hS => ?_)
      refine g3 hC rfl rfl ?_
      refine g0 hC rfl ?_
      refine g20s hC rfl sh142 (flt12 rfl) (by rw [fy12_118]; rfl) hS rfl (fun hS => ?_)
      refine ret0 hC rfl ?_
      refine ⟨hS, ?_, ax_up_at⟩
      rw [ax_up_of (by decide)]
      first
        | (rw [ax_up_at]; done)
        | (rw [ax_up_at]; (try split) <;> omega)
        | (rw [hqa]; (try split) <;> omega)
        | (exfalso; omega)
theorem m290_5 {i : Nat} (hi : i < 8) {v qa nw : Int} (hv : bnd v) (hqa : M 142 117 = qa) (hqb : -100000000 ≤ qa ∧ qa ≤ 100000000) (hnw : M 142 118 = nw) (hn0 : nw = 0 ∨ nw = 1) : ax_Ev L X SH 0 290 [(2, 142), (0, 5), (1, v), (0, (i : Int))] M (R0 (fun M' => Sb XQA M M' ∧ M' 142 117 = (if nw = 1 then v else min qa v) ∧ M' 142 118 = 0)) := by
  show ax_G L X SH 0 290 0 [(2, 142), (0, 5), (1, v), (3, 0), (0, (i : Int)), (3, 0)] [] M _
  have hC := at290
  have hS : Sb XQA M M := Sb.refl
  have hz1 := @cmp0 v 1
  have hzq := @cmp0 qa (-1)
  have hzv := @cmp0 v qa
  unfold bnd at hv
  refine g3 hC rfl rfl ?_
  refine g0 hC rfl ?_
  refine g13g hC rfl (fun h2 => ?_) (fun h2 => (by omega))
  refine g0 hC rfl ?_
  refine s5 hC rfl rfl rfl ?_
  refine g3 hC rfl rfl ?_
  refine g12n hC rfl (fun h12 => ?_) (fun h12 => (by omega))
  refine g3 hC rfl rfl ?_
  refine g0 hC rfl ?_
  refine g13n hC rfl (fun h22 => ?_) (fun h22 => (by omega))
  refine g3 hC rfl rfl ?_
  refine g0 hC rfl ?_
  refine g13n hC rfl (fun h31 => ?_) (fun h31 => (by omega))
  refine g3 hC rfl rfl ?_
  refine g0 hC rfl ?_
  refine g13n hC rfl (fun h42 => ?_) (fun h42 => (by omega))
  refine g3 hC rfl rfl ?_
  refine g0 hC rfl ?_
  refine g13s hC rfl (fun h51 => (by omega)) (fun h51 => ?_)
  refine g3 hC rfl rfl ?_
  refine g19 hC rfl sh142 (flt12 rfl) ft12_118 hnw ?_
  refine g12n hC rfl (fun h54 => ?_) (fun h54 => ?_)
  ·
    refine g3 hC rfl rfl ?_
    refine g3 hC rfl rfl ?_
    refine g20s hC rfl sh142 (flt12 rfl) (by rw [fy12_117]; rfl) hS rfl (fun hS => ?_)
    refine g3 hC rfl rfl ?_
    refine g0 hC rfl ?_
    refine g20s hC rfl sh142 (flt12 rfl) (by rw [fy12_118]; rfl) hS rfl (fun hS => ?_)
    refine ret0 hC rfl ?_
    refine ⟨hS, ?_, ax_up_at⟩
    rw [ax_up_of (by decide)]
    first
      | (rw [ax_up_at]; done)
      | (rw [ax_up_at]; (try split) <;> omega)
      | (rw [hqa]; (try split) <;> omega)
      | (exfalso; omega)
  ·
    refine g3 hC rfl rfl ?_
    refine g0 hC rfl ?_
    refine g13n hC rfl (fun h57 => ?_) (fun h57 => (by omega))
    refine g3 hC rfl rfl ?_
    refine g3 hC rfl rfl ?_
    refine g19 hC rfl sh142 (flt12 rfl) ft12_117 hqa ?_
    refine g11 hC rfl ?_
    refine g12g hC rfl (fun h68 => ?_) (fun h68 => ?_)
    ·
      refine g3 hC rfl rfl ?_
      refine g0 hC rfl ?_
      refine g20s hC rfl sh142 (flt12 rfl) (by rw [fy12_118]; rfl) hS rfl (fun hS => ?_)
      refine ret0 hC rfl ?_
      refine ⟨hS, ?_, ax_up_at⟩
      rw [ax_up_of (by decide)]
      first
        | (rw [ax_up_at]; done)
        | (rw [ax_up_at]; (try split) <;> omega)
        | (rw [hqa]; (try split) <;> omega)
        | (exfalso; omega)
    ·
      refine g3 hC rfl rfl ?_
      refine g3 hC rfl rfl ?_
      refine g20s hC rfl sh142 (flt12 rfl) (by rw [fy12_117]; rfl) hS rfl (fun hS => ?_)
      refine g3 hC rfl rfl ?_
      refine g0 hC rfl ?_
      refine g20s hC rfl sh142 (flt12 rfl) (by rw [fy12_118]; rfl) hS rfl (fun hS => ?_)
      refine ret0 hC rfl ?_
      refine ⟨hS, ?_, ax_up_at⟩
      rw [ax_up_of (by decide)]
      first
        | (rw [ax_up_at]; done)
        | (rw [ax_up_at]; (try split) <;> omega)
        | (rw [hqa]; (try split) <;> omega)
        | (exfalso; omega)
end ASY
