theorem isS_neg {a : Int} (h : ax_isS a = true) : a ≤ -10 := (of_decide_eq_true h).1
theorem isS_B {a : Int} (h : ax_isS a = true) : ax_isB (a - 1) = true := by
  have h := of_decide_eq_true h
  refine decide_eq_true ⟨by omega, by omega, ?_⟩
  rw [show a - 1 + 1 = a by omega]; exact h.2.2
theorem isB_neg {a : Int} (h : ax_isB a = true) : a ≤ -11 := (of_decide_eq_true h).1
section STG
variable {L : Nat} {X : Nat → Int} {S : List ax_H} {d j i : Nat} {ll st : List ax_V} {M : ax_M} {P : List ax_V → ax_M → Prop} {C : List ax_O}
theorem gS0 {w a : Int} (hC : ∀ i, ax_at j i = C[i]?) (h : C[i]? = some (19, 13, 0, w)) (ha : ax_isS a = true) (k : ax_G L X S d j (i + 1) ll ((2, a - 1) :: st) M P) : ax_G L X S d j i ll ((2, a) :: st) M P := by
  have hn := isS_neg ha
  refine ax_gs ((hC i).trans h) (fun q => (by cases q)) (fun q => (by cases q)) ?_ k
  have e : ax_get S M 13 0 a = some (2, a - 1) := by
    unfold ax_get
    rw [if_neg (by omega), if_pos ⟨rfl, ha⟩, if_pos rfl]
  show (match ax_get S M 13 0 a with | some v => some (i + 1, ll, v :: st, S, M) | none => none) = _
  rw [e]
theorem gS1 {w a : Int} (hC : ∀ i, ax_at j i = C[i]?) (h : C[i]? = some (19, 13, 1, w)) (ha : ax_isS a = true) (k : ax_G L X S d j (i + 1) ll ((0, 0) :: st) M P) : ax_G L X S d j i ll ((2, a) :: st) M P := by
  have hn := isS_neg ha
  refine ax_gs ((hC i).trans h) (fun q => (by cases q)) (fun q => (by cases q)) ?_ k
  have e : ax_get S M 13 1 a = some (0, 0) := by
    unfold ax_get
    rw [if_neg (by omega), if_pos ⟨rfl, ha⟩, if_neg (by decide), if_pos rfl]
  show (match ax_get S M 13 1 a with | some v => some (i + 1, ll, v :: st, S, M) | none => none) = _
  rw [e]
theorem gSl {f g : Nat} {w b : Int} (hC : ∀ i, ax_at j i = C[i]?) (h : C[i]? = some (23, f, g, w)) (hb : ax_isB b = true) (k : ax_G L X S d j (i + 1) ll ((0, ((ax_by b).length : Int)) :: st) M P) : ax_G L X S d j i ll ((2, b) :: st) M P := by
  have hn := isB_neg hb
  refine ax_gs ((hC i).trans h) (fun q => (by cases q)) (fun q => (by cases q)) ?_ k
  have e : ax_aln L S b = some ((ax_by b).length : Int) := by
    unfold ax_aln
    rw [if_neg (by omega), if_neg (by omega), if_pos hb]
  show (match ax_aln L S b with | some n => some (i + 1, ll, (0, n) :: st, S, M) | none => none) = _
  rw [e]
theorem gSe {g q : Nat} {w b : Int} (hC : ∀ i, ax_at j i = C[i]?) (h : C[i]? = some (21, 3, g, w)) (hb : ax_isB b = true) (hq : q < (ax_by b).length) (k : ax_G L X S d j (i + 1) ll ((0, (ax_by b).getD q 0) :: st) M P) : ax_G L X S d j i ll ((0, (q : Int)) :: (2, b) :: st) M P := by
  have hn := isB_neg hb
  refine ax_gs ((hC i).trans h) (fun q => (by cases q)) (fun q => (by cases q)) ?_ k
  have e : ax_ald L X S M 3 b (q : Int) = some (0, (ax_by b).getD q 0) := by
    unfold ax_ald
    rw [if_neg (by omega), if_neg (by omega), if_neg (by omega), if_pos hb, if_pos ⟨rfl, by omega, by omega⟩, Int.toNat_natCast]
  show (match ax_ald L X S M 3 b (q : Int) with | some v => some (i + 1, ll, v :: st, S, M) | none => none) = _
  rw [e]
theorem ret4 {g : Nat} {w x : Int} {Q : Int → ax_M → Prop} (hC : ∀ i, ax_at j i = C[i]?) (h : C[i]? = some (28, 4, g, w)) (hx : 0 ≤ x ∧ x < 65536) (hq : Q x M) : ax_G L X S d j i ll [(0, x)] M (R1 0 Q) := g28 hC h (if_pos hx) ⟨x, rfl, hq⟩
end STG
theorem k308 : ax_kd 308 = 1 ∧ ax_own 308 = 14 ∧ ax_ml 308 = 1 := by decide +kernel
theorem k309 : ax_kd 309 = 1 ∧ ax_own 309 = 14 ∧ ax_ml 309 = 2 := by decide +kernel
theorem k310 : ax_kd 310 = 1 ∧ ax_own 310 = 14 ∧ ax_ml 310 = 1 := by decide +kernel
theorem k311 : ax_kd 311 = 1 ∧ ax_own 311 = 14 ∧ ax_ml 311 = 1 := by decide +kernel
theorem k312 : ax_kd 312 = 0 ∧ ax_ml 312 = 2 := by decide +kernel
theorem k313 : ax_kd 313 = 0 ∧ ax_ml 313 = 2 := by decide +kernel
theorem k314 : ax_kd 314 = 0 ∧ ax_ml 314 = 3 := by decide +kernel
theorem mayT {j n : Nat} {as : List ax_V} {a : Int} (k : ax_kd j = 1 ∧ ax_own j = 14 ∧ ax_ml j = n) (h : Nat.ble (ax_ent ((2, a) :: as)).length n = true) (ha : ax_isS a = true) : ax_may j SH ((2, a) :: as) = true := by
  unfold ax_may
  rw [k.1, k.2.2, decide_eq_true (Nat.le_of_ble_eq_true h), Bool.true_and]
  show (decide ((0 : Int) ≤ a ∧ SH[a.toNat]? = some (0, ax_own j, ax_fl (ax_own j))) || (decide (ax_own j = 14) && ax_isS a)) = true
  rw [k.2.1, ha, decide_eq_true rfl, Bool.true_and, Bool.or_true]
section STR
variable {L : Nat} {X : Nat → Int} {M : ax_M} {a : Int}
theorem m310 (ha : ax_isS a = true) : ax_Ev L X SH 0 310 [(2, a)] M (R1 0 (fun x M' => x = 0 ∧ M' = M)) := by
  show ax_G L X SH 0 310 0 [(2, a)] [] M _
  have hC := at310
  refine g0 hC rfl ?_
  refine g12e hC rfl (fun q => by omega) (fun _ => ?_)
  refine g3 hC rfl rfl ?_
  refine gS1 hC rfl ha ?_
  refine g14 hC rfl ?_
  exact ret1 hC rfl rfl ⟨rfl, rfl⟩
theorem m311 (ha : ax_isS a = true) : ax_Ev L X SH 0 311 [(2, a)] M (R1 0 (fun x M' => x = 1 ∧ M' = M)) := by
  show ax_G L X SH 0 311 0 [(2, a)] [] M _
  have hC := at311
  refine g0 hC rfl ?_
  refine g12e hC rfl (fun q => by omega) (fun _ => ?_)
  refine g3 hC rfl rfl ?_
  refine gS1 hC rfl ha ?_
  refine g12n hC rfl (fun q => by omega) (fun _ => ?_)
  refine g0 hC rfl ?_
  refine g14 hC rfl ?_
  exact ret3 hC rfl ⟨by omega, by omega⟩ ⟨rfl, rfl⟩
theorem m308 (ha : ax_isS a = true) : ax_Ev L X SH 1 308 [(2, a)] M (R1 0 (fun x M' => x = ((ax_by (a - 1)).length : Int) ∧ M' = M)) := by
  show ax_G L X SH 1 308 0 [(2, a)] [] M _
  have hC := at308
  have hlen : (ax_by (a - 1)).length < 2147483648 := by
    have h := of_decide_eq_true ha
    unfold ax_by
    rw [show a - 1 + 1 = a by omega]
    have key : ∀ k, k < 21 → (ax_tx.getD k ("", [])).2.length < 2147483648 := by decide +kernel
    exact key _ h.2.2
  refine g3 hC rfl rfl ?_
  refine gS0 hC rfl ha ?_
  refine gSl hC rfl (isS_B ha) ?_
  refine g3 hC rfl rfl ?_
  refine c1 hC rfl rfl rfl (Nat.le_of_ble_eq_true rfl) (Nat.le_of_ble_eq_true rfl) (mayT k310 rfl ha) (m310 ha) (Nat.le_of_ble_eq_true rfl) (fun x M2 hr => ?_)
  obtain ⟨rfl, hr⟩ := hr
  replace hr := hr.symm
  subst hr
  refine g6 hC rfl (congrArg some (shrN (a := (ax_by (a - 1)).length) (k := 0) hlen (by decide))) ?_
  exact ret1 hC rfl rfl ⟨rfl, rfl⟩
theorem m314 {k n : Nat} {b : Int} (hk : k < n) : ax_Ev L X SH 0 314 [(0, (k : Int)), (0, (n : Int)), (2, b)] M (R1 0 (fun x M' => x = (k : Int) ∧ M' = M)) := by
  show ax_G L X SH 0 314 0 [(0, (k : Int)), (0, (n : Int)), (2, b)] [] M _
  have hC := at314
  refine g3 hC rfl rfl ?_
  refine g12l hC rfl (fun q => by omega) (fun _ => ?_)
  refine g3 hC rfl rfl ?_
  refine g3 hC rfl rfl ?_
  refine g13l hC rfl (fun _ => ?_) (fun q => by omega)
  refine g3 hC rfl rfl ?_
  exact ret1 hC rfl rfl ⟨rfl, rfl⟩
theorem m312 {k n : Nat} (hk : k < n) : ax_Ev L X SH 1 312 [(0, (k : Int)), (0, (n : Int))] M (R0 (fun M' => M' = M)) := by
  show ax_G L X SH 1 312 0 [(0, (k : Int)), (0, (n : Int))] [] M _
  have hC := at312
  refine g3 hC rfl rfl ?_
  refine g3 hC rfl rfl ?_
  refine g2 hC rfl ?_
  refine c1 hC rfl rfl rfl (Nat.le_of_ble_eq_true rfl) (Nat.le_of_ble_eq_true rfl) (mayS k314 rfl) (m314 hk) (Nat.le_of_ble_eq_true rfl) (fun x M2 hr => ?_)
  obtain ⟨rfl, hr⟩ := hr
  replace hr := hr.symm
  subst hr
  refine g18 hC rfl (by decide) ?_
  exact ret0 hC rfl rfl
theorem m313 {k : Nat} {b : Int} (hb : ax_isB b = true) (hk : k < (ax_by b).length) (hv : 0 ≤ (ax_by b).getD k 0 ∧ (ax_by b).getD k 0 ≤ 127) : ax_Ev L X SH 2 313 [(2, b), (0, (k : Int))] M (R1 0 (fun x M' => x = (ax_by b).getD k 0 ∧ M' = M)) := by
  show ax_G L X SH 2 313 0 [(2, b), (0, (k : Int))] [] M _
  have hC := at313
  obtain ⟨v, hv1⟩ : ∃ v : Nat, (ax_by b).getD k 0 = (v : Int) := ⟨((ax_by b).getD k 0).toNat, by omega⟩
  rw [hv1] at hv
  refine g3 hC rfl rfl ?_
  refine g3 hC rfl rfl ?_
  refine gSl hC rfl hb ?_
  refine c0 hC rfl rfl rfl (Nat.le_of_ble_eq_true rfl) (Nat.le_of_ble_eq_true rfl) (mayS k312 rfl) (m312 hk) (Nat.le_of_ble_eq_true rfl) (fun M2 hr => ?_)
  replace hr := hr.symm
  subst hr
  refine g3 hC rfl rfl ?_
  refine g3 hC rfl rfl ?_
  refine gSe hC rfl hb hk ?_
  rw [hv1]
  refine g0 hC rfl ?_
  refine g6 hC rfl (congrArg some (andN (a := v) (b := 255) (by omega))) ?_
  refine g31 hC rfl ?_
  have e1 : v &&& 255 = v := by
    have h := Nat.and_two_pow_sub_one_eq_mod v 8
    rw [show 2 ^ 8 - 1 = 255 from rfl, show (2 : Nat) ^ 8 = 256 from rfl] at h
    rw [h]; omega
  rw [e1, show ((v : Int)) % 65536 = (v : Int) by omega]
  exact ret4 hC rfl ⟨by omega, by omega⟩ ⟨rfl, rfl⟩
theorem m309 {k : Nat} (ha : ax_isS a = true) (hk : k < (ax_by (a - 1)).length) : ax_Ev L X SH 3 309 [(2, a), (0, (k : Int))] M (R1 0 (fun x M' => x = (ax_by (a - 1)).getD k 0 ∧ M' = M)) := by
  show ax_G L X SH 3 309 0 [(2, a), (0, (k : Int))] [] M _
  have hC := at309
  have hv : 0 ≤ (ax_by (a - 1)).getD k 0 ∧ (ax_by (a - 1)).getD k 0 ≤ 127 := by
    have h := of_decide_eq_true ha
    unfold ax_by at hk ⊢
    rw [show a - 1 + 1 = a by omega] at hk ⊢
    have key : ∀ q, q < 21 → ((ax_tx.getD q ("", [])).2.all (fun x => decide (0 ≤ x ∧ x ≤ 127))) = true := by decide +kernel
    have h2 := List.all_eq_true.mp (key _ h.2.2)
    generalize (ax_tx.getD (ax_sx a) ("", [])).2 = l at *
    have e : l.getD k 0 = l[k] := by simp [List.getD, hk]
    rw [e]
    exact of_decide_eq_true (h2 _ (List.getElem_mem hk))
  refine g3 hC rfl rfl ?_
  refine c1 hC rfl rfl rfl (Nat.le_of_ble_eq_true rfl) (Nat.le_of_ble_eq_true rfl) (mayT k311 rfl ha) (m311 ha) (Nat.le_of_ble_eq_true rfl) (fun x M2 hr => ?_)
  obtain ⟨rfl, hr⟩ := hr
  replace hr := hr.symm
  subst hr
  refine g12e hC rfl (fun q => by omega) (fun _ => ?_)
  refine g3 hC rfl rfl ?_
  refine gS0 hC rfl ha ?_
  refine g3 hC rfl rfl ?_
  refine c1 hC rfl rfl rfl (Nat.le_of_ble_eq_true rfl) (Nat.le_of_ble_eq_true rfl) (mayS k313 rfl) (m313 (isS_B ha) hk hv) (Nat.le_of_ble_eq_true rfl) (fun x M2 hr => ?_)
  obtain ⟨rfl, hr⟩ := hr
  replace hr := hr.symm
  subst hr
  exact ret4 hC rfl ⟨by omega, by omega⟩ ⟨rfl, rfl⟩
end STR
