def WNU : ax_W := ([], [(1, 2), (1, 3), (1, 4), (1, 6), (1, 8), (1, 9)])
def WNA : ax_W := ([], [(1, 2), (1, 3), (1, 4), (1, 5), (1, 7), (1, 8), (1, 9)])
theorem drp {l : List Int} {k : Nat} {c : Int} {r : List Int} (h : l.drop k = c :: r) : k < l.length ∧ l.getD k 0 = c ∧ l.drop (k + 1) = r := by
  have hl : k < l.length := by
    rcases Nat.lt_or_ge k l.length with z | z
    · exact z
    · rw [List.drop_eq_nil_of_le z] at h; cases h
  rw [List.drop_eq_getElem_cons hl] at h
  injection h with h1 h2
  exact ⟨hl, by rw [List.getD_eq_getElem?_getD, List.getElem?_eq_getElem hl]; exact h1, h2⟩
theorem apd1 {u : List Int} {c : Int} {i : Nat} (h : i < u.length) : (u ++ [c]).getD i 0 = u.getD i 0 := by
  rw [List.getD_eq_getElem?_getD, List.getD_eq_getElem?_getD, List.getElem?_append_left h]
theorem apd2 {u : List Int} {c : Int} : (u ++ [c]).getD u.length 0 = c := by
  rw [List.getD_eq_getElem?_getD, List.getElem?_append_right (Nat.le_refl _), Nat.sub_self]; rfl
def Pf (T : Nat → Int) (s m : Nat) (u : List Int) : Prop := u.length ≤ m ∧ ∀ i, i < u.length → T (s + i) = u.getD i 0
theorem Pf_s {T : Nat → Int} {s m : Nat} {u : List Int} {c : Int} : Pf T s m (u ++ [c]) ↔ Pf T s m u ∧ u.length < m ∧ T (s + u.length) = c := by
  have el : (u ++ [c]).length = u.length + 1 := by simp
  unfold Pf
  rw [el]
  constructor
  · rintro ⟨h1, h2⟩
    refine ⟨⟨by omega, fun i hi => ?_⟩, by omega, ?_⟩
    · rw [h2 i (by omega), apd1 hi]
    · rw [h2 u.length (by omega), apd2]
  · rintro ⟨⟨h1, h2⟩, h3, h4⟩
    refine ⟨by omega, fun i hi => ?_⟩
    by_cases e : i = u.length
    · rw [e, apd2, h4]
    · rw [apd1 (by omega), h2 i (by omega)]
section CTY
variable {L : Nat} {X : Nat → Int} {M : ax_M} {T : Nat → Int} {n : Nat} {q : PS}
theorem m92 (hF : Fix M) (hn : n ≤ 1600) (hq : CT T n q M) (hqn : q.1 ≤ n) {a : Int} (ha : ax_isS a = true) {w : List Int} {ws : List (List Int)} (hb : ax_by (a - 1) = w ++ tlW ws) (hw0 : ∀ x ∈ w, x ≠ 32) (hws : ∀ v ∈ ws, ∀ x ∈ v, x ≠ 32) : ax_Ev L X SH 4 92 [(2, 1), (2, a)] M (R1 0 (fun x M' => x = fnd T n q 0 (w :: ws) ∧ M' = M)) := by
  show ax_G L X SH 4 92 0 [(2, 1), (2, a), (3, 0), (3, 0), (3, 0), (3, 0), (3, 0), (3, 0)] [] M _
  have hC := at92
  have hw : wok WSP = true := by decide +kernel
  have hS : Sb WSP M M := Sb.refl
  have hab := af_b (T := T) hqn
  by_cases hkd : kd T n q = 1
  · obtain ⟨m, hm⟩ : ∃ m, m = af T n q - q.1 := ⟨_, rfl⟩
    obtain ⟨bs, hbs⟩ : ∃ bs, bs = ax_by (a - 1) := ⟨_, rfl⟩
    have hbl : bs.length < 1000000 := by
      have h := of_decide_eq_true ha
      rw [hbs]
      unfold ax_by
      rw [show a - 1 + 1 = a by omega]
      have key : ∀ k, k < 21 → (ax_tx.getD k ("", [])).2.length < 1000000 := by decide +kernel
      exact key _ h.2.2
    have c308 := m308 (L := L) (X := X) (M := M) ha
    have c309 : ∀ k, k < bs.length → ax_Ev L X SH 3 309 [(2, a), (0, (k : Int))] M (R1 0 (fun x M' => x = bs.getD k 0 ∧ M' = M)) := by
      intro k hk; rw [hbs] at hk ⊢; exact m309 ha hk
    rw [← hbs] at c308 hb
    have stp : ∀ (Q : Int → ax_M → Prop) (r : List Int) (c : Int) (u : List Int) (idx fr : Nat) (al : Int), bs.drop (fr + u.length) = c :: r → c ≠ 32 → (al = 0 ∨ al = 1) → (al = 1 ↔ Pf T q.1 m u) → (∀ al' v6 v7, (al' = 0 ∨ al' = 1) → (al' = 1 ↔ Pf T q.1 m (u ++ [c])) → ax_G L X SH 4 92 14 [(2, 1), (2, a), (0, (idx : Int)), (0, (fr : Int)), (0, al'), (0, ((fr + (u ++ [c]).length : Nat) : Int)), v6, v7] [] M (R1 0 Q)) → ∀ v6 v7, ax_G L X SH 4 92 14 [(2, 1), (2, a), (0, (idx : Int)), (0, (fr : Int)), (0, al), (0, ((fr + u.length : Nat) : Int)), v6, v7] [] M (R1 0 Q) := by
      intro Q r c u idx fr al hd hc al0 al1 hk2 v6 v7
      obtain ⟨d1, d2, d3⟩ := drp hd
      have ek : ((fr + u.length : Nat) : Int) + 1 = ((fr + (u ++ [c]).length : Nat) : Int) := by
        rw [show (u ++ [c]).length = u.length + 1 by simp]; omega
      obtain ⟨K, hK⟩ : ∃ K, K = fr + u.length := ⟨_, rfl⟩
      have ps := Pf_s (T := T) (s := q.1) (m := m) (u := u) (c := c)
      rw [← hK] at d1 d2 ek ⊢
      refine g3 hC rfl rfl ?_
      refine g19 hC rfl rfl (Nat.le_of_ble_eq_true rfl) rfl hq.2.1 ?_
      refine g0 hC rfl ?_
      refine g13n hC rfl (fun h17 => (by omega)) (fun h17 => ?_)
      refine g3 hC rfl rfl ?_
      refine g3 hC rfl rfl ?_
      refine c1 hC rfl rfl rfl (Nat.le_of_ble_eq_true rfl) (Nat.le_of_ble_eq_true rfl) (mayT k308 rfl ha) c308 (Nat.le_of_ble_eq_true rfl) (fun x M2 hr => ?_)
      obtain ⟨rfl, hr⟩ := hr; replace hr := hr.symm; subst hr
      refine g13t hC rfl (fun h21 => (by omega)) (fun h21 => ?_)
      refine g3 hC rfl rfl ?_
      refine g3 hC rfl rfl ?_
      refine c1 hC rfl rfl rfl (Nat.le_of_ble_eq_true rfl) (Nat.le_of_ble_eq_true rfl) (mayT k308 rfl ha) c308 (Nat.le_of_ble_eq_true rfl) (fun x M2 hr => ?_)
      obtain ⟨rfl, hr⟩ := hr; replace hr := hr.symm; subst hr
      refine g13e hC rfl (fun h25 => (by omega)) (fun h25 => ?_)
      refine g3 hC rfl rfl ?_
      refine g3 hC rfl rfl ?_
      refine c1 hC rfl rfl rfl (Nat.le_of_ble_eq_true rfl) (Nat.le_of_ble_eq_true rfl) (mayT k309 rfl ha) (c309 K d1) (Nat.le_of_ble_eq_true rfl) (fun x M2 hr => ?_)
      obtain ⟨rfl, hr⟩ := hr; replace hr := hr.symm; subst hr
      refine g0 hC rfl ?_
      refine g13n hC rfl (fun h30 => ?_) (fun h30 => (by omega))
      refine g0 hC rfl ?_
      refine s6 hC rfl rfl rfl ?_
      refine g3 hC rfl rfl ?_
      refine g12e hC rfl (fun h36 => ?_) (fun h36 => (by omega))
      refine g3 hC rfl rfl ?_
      refine g12e hC rfl (fun h51 => ?_) (fun h51 => (by omega))
      refine g3 hC rfl rfl ?_
      refine g19 hC rfl rfl (Nat.le_of_ble_eq_true rfl) rfl hq.2.2.1 ?_
      refine g3 hC rfl rfl ?_
      refine g6a hC rfl ⟨by omega, by omega⟩ ?_
      refine g3 hC rfl rfl ?_
      refine g6s hC rfl ⟨by omega, by omega⟩ ?_
      refine s7 hC rfl rfl rfl ?_
      refine g3 hC rfl rfl ?_
      refine g12e hC rfl (fun h68 => ?_) (fun h68 => ?_)
      ·
        refine g0 hC rfl ?_
        refine s4 hC rfl rfl rfl ?_
        refine n5 hC rfl rfl ⟨by omega, by omega⟩ ?_
        refine g14 hC rfl ?_
        rw [ek]
        refine hk2 0 _ _ (Or.inl rfl) ⟨fun z => by omega, fun z => ?_⟩
        have := al1.2 (ps.1 z).1; omega
      ·
        refine g3 hC rfl rfl ?_
        refine g3 hC rfl rfl ?_
        refine g19 hC rfl rfl (Nat.le_of_ble_eq_true rfl) rfl hq.2.2.2.1 ?_
        refine g13g hC rfl (fun h72 => ?_) (fun h72 => ?_)
        ·
          refine g0 hC rfl ?_
          refine s4 hC rfl rfl rfl ?_
          refine n5 hC rfl rfl ⟨by omega, by omega⟩ ?_
          refine g14 hC rfl ?_
          rw [ek]
          refine hk2 0 _ _ (Or.inl rfl) ⟨fun z => by omega, fun z => ?_⟩
          have := (ps.1 z).2.1; omega
        ·
          refine g3 hC rfl rfl ?_
          refine g19 hC rfl rfl (Nat.le_of_ble_eq_true rfl) rfl ((hS.fix hw hF).g rfl) ?_
          refine g3 hC rfl rfl ?_
          refine r21 (q.1 + u.length) hC rfl (by omega) rfl (Or.inl rfl) (by omega) (hq.2.2.2.2.1 _ (by omega)) ?_
          refine g3 hC rfl rfl ?_
          refine g3 hC rfl rfl ?_
          refine c1 hC rfl rfl rfl (Nat.le_of_ble_eq_true rfl) (Nat.le_of_ble_eq_true rfl) (mayT k309 rfl ha) (c309 K d1) (Nat.le_of_ble_eq_true rfl) (fun x M2 hr => ?_)
          obtain ⟨rfl, hr⟩ := hr; replace hr := hr.symm; subst hr
          refine g13n hC rfl (fun h80 => ?_) (fun h80 => ?_)
          ·
            refine g0 hC rfl ?_
            refine s4 hC rfl rfl rfl ?_
            refine n5 hC rfl rfl ⟨by omega, by omega⟩ ?_
            refine g14 hC rfl ?_
            rw [ek]
            refine hk2 0 _ _ (Or.inl rfl) ⟨fun z => by omega, fun z => ?_⟩
            have := (ps.1 z).2.2; omega
          ·
            refine g0 hC rfl ?_
            refine g14 hC rfl ?_
            refine s4 hC rfl rfl rfl ?_
            refine n5 hC rfl rfl ⟨by omega, by omega⟩ ?_
            refine g14 hC rfl ?_
            rw [ek]
            refine hk2 1 _ _ (Or.inr rfl) ⟨fun _ => ps.2 ⟨al1.1 (by omega), by omega, by omega⟩, fun _ => rfl⟩
    have bh : ∀ (r : List (List Int)) (u : List Int) (idx fr : Nat) (al : Int), idx ≤ fr → fr + u.length ≤ bs.length → (fr + u.length = bs.length ∨ (fr + u.length < bs.length ∧ bs.getD (fr + u.length) 0 = 32)) → (al = 0 ∨ al = 1) → (al = 1 ↔ Pf T q.1 m u) → (∀ v6 v7, ax_G L X SH 4 92 14 [(2, 1), (2, a), (0, ((idx + 1 : Nat) : Int)), (0, ((fr + u.length + 1 : Nat) : Int)), (0, 1), (0, ((fr + u.length + 1 : Nat) : Int)), v6, v7] [] M (R1 0 (fun x M' => x = fnd T n q (idx + 1) r ∧ M' = M))) → ∀ v6 v7, ax_G L X SH 4 92 14 [(2, 1), (2, a), (0, (idx : Int)), (0, (fr : Int)), (0, al), (0, ((fr + u.length : Nat) : Int)), v6, v7] [] M (R1 0 (fun x M' => x = fnd T n q idx (u :: r) ∧ M' = M)) := by
      intro r u idx fr al hif h1 h2 al0 al1 hk2 v6 v7
      have ef : fnd T n q idx (u :: r) = if isW T n q u = true then (idx : Int) else fnd T n q (idx + 1) r := rfl
      have eW : isW T n q u = decide (kd T n q = 1 ∧ af T n q - q.1 = u.length ∧ ∀ i, i < u.length → T (q.1 + i) = u.getD i 0) := rfl
      have yes : al = 1 → m = u.length → fnd T n q idx (u :: r) = (idx : Int) := by
        intro z1 z2
        rw [ef, eW, if_pos (decide_eq_true ⟨hkd, by omega, (al1.1 z1).2⟩)]
      have no : ¬ (al = 1 ∧ m = u.length) → fnd T n q idx (u :: r) = fnd T n q (idx + 1) r := by
        intro z
        rw [ef, eW, if_neg (fun y => ?_)]
        have y := of_decide_eq_true y
        exact z ⟨al1.2 ⟨by omega, y.2.2⟩, by omega⟩
      obtain ⟨K, hK⟩ : ∃ K, K = fr + u.length := ⟨_, rfl⟩
      rw [← hK] at h1 h2 hk2 ⊢
      have e1 : ((idx : Int)) + 1 = ((idx + 1 : Nat) : Int) := by omega
      have e2 : ((K : Int)) + 1 = ((K + 1 : Nat) : Int) := by omega
      refine g3 hC rfl rfl ?_
      refine g19 hC rfl rfl (Nat.le_of_ble_eq_true rfl) rfl hq.2.1 ?_
      refine g0 hC rfl ?_
      refine g13n hC rfl (fun h17 => (by omega)) (fun h17 => ?_)
      refine g3 hC rfl rfl ?_
      refine g3 hC rfl rfl ?_
      refine c1 hC rfl rfl rfl (Nat.le_of_ble_eq_true rfl) (Nat.le_of_ble_eq_true rfl) (mayT k308 rfl ha) c308 (Nat.le_of_ble_eq_true rfl) (fun x M2 hr => ?_)
      obtain ⟨rfl, hr⟩ := hr; replace hr := hr.symm; subst hr
      refine g13t hC rfl (fun h21 => (by omega)) (fun h21 => ?_)
      refine g3 hC rfl rfl ?_
      refine g3 hC rfl rfl ?_
      refine c1 hC rfl rfl rfl (Nat.le_of_ble_eq_true rfl) (Nat.le_of_ble_eq_true rfl) (mayT k308 rfl ha) c308 (Nat.le_of_ble_eq_true rfl) (fun x M2 hr => ?_)
      obtain ⟨rfl, hr⟩ := hr; replace hr := hr.symm; subst hr
      refine g13e hC rfl (fun h25 => ?_) (fun h25 => ?_)
      ·
        refine g0 hC rfl ?_
        refine g14 hC rfl ?_
        refine s6 hC rfl rfl rfl ?_
        refine g3 hC rfl rfl ?_
        refine g12e hC rfl (fun h36 => (by omega)) (fun h36 => ?_)
        refine g3 hC rfl rfl ?_
        refine g12e hC rfl (fun h38 => ?_) (fun h38 => ?_)
        ·
          refine g3 hC rfl rfl ?_
          refine g12e hC rfl (fun h51 => (by omega)) (fun h51 => ?_)
          refine n2 hC rfl rfl ⟨by omega, by omega⟩ ?_
          refine g3 hC rfl rfl ?_
          refine g0 hC rfl ?_
          refine g6a hC rfl ⟨by omega, by omega⟩ ?_
          refine s3 hC rfl rfl rfl ?_
          refine g0 hC rfl ?_
          refine s4 hC rfl rfl rfl ?_
          refine g14 hC rfl ?_
          refine n5 hC rfl rfl ⟨by omega, by omega⟩ ?_
          refine g14 hC rfl ?_
          rw [no (by omega), e1, e2]; exact hk2 _ _
        ·
          refine g3 hC rfl rfl ?_
          refine g3 hC rfl rfl ?_
          refine g6s hC rfl ⟨by omega, by omega⟩ ?_
          refine g3 hC rfl rfl ?_
          refine g19 hC rfl rfl (Nat.le_of_ble_eq_true rfl) rfl hq.2.2.2.1 ?_
          refine g3 hC rfl rfl ?_
          refine g19 hC rfl rfl (Nat.le_of_ble_eq_true rfl) rfl hq.2.2.1 ?_
          refine g6s hC rfl ⟨by omega, by omega⟩ ?_
          refine g13n hC rfl (fun h47 => ?_) (fun h47 => ?_)
          ·
            refine g3 hC rfl rfl ?_
            refine g12e hC rfl (fun h51 => (by omega)) (fun h51 => ?_)
            refine n2 hC rfl rfl ⟨by omega, by omega⟩ ?_
            refine g3 hC rfl rfl ?_
            refine g0 hC rfl ?_
            refine g6a hC rfl ⟨by omega, by omega⟩ ?_
            refine s3 hC rfl rfl rfl ?_
            refine g0 hC rfl ?_
            refine s4 hC rfl rfl rfl ?_
            refine g14 hC rfl ?_
            refine n5 hC rfl rfl ⟨by omega, by omega⟩ ?_
            refine g14 hC rfl ?_
            rw [no (by omega), e1, e2]; exact hk2 _ _
          ·
            refine g3 hC rfl rfl ?_
            refine ret1 hC rfl rfl ?_
            exact ⟨(yes (by omega) (by omega)).symm, rfl⟩
      ·
        refine g3 hC rfl rfl ?_
        refine g3 hC rfl rfl ?_
        refine c1 hC rfl rfl rfl (Nat.le_of_ble_eq_true rfl) (Nat.le_of_ble_eq_true rfl) (mayT k309 rfl ha) (c309 K (by omega)) (Nat.le_of_ble_eq_true rfl) (fun x M2 hr => ?_)
        obtain ⟨rfl, hr⟩ := hr; replace hr := hr.symm; subst hr
        refine g0 hC rfl ?_
        refine g13n hC rfl (fun h30 => (by omega)) (fun h30 => ?_)
        refine g0 hC rfl ?_
        refine g14 hC rfl ?_
        refine s6 hC rfl rfl rfl ?_
        refine g3 hC rfl rfl ?_
        refine g12e hC rfl (fun h36 => (by omega)) (fun h36 => ?_)
        refine g3 hC rfl rfl ?_
        refine g12e hC rfl (fun h38 => ?_) (fun h38 => ?_)
        ·
          refine g3 hC rfl rfl ?_
          refine g12e hC rfl (fun h51 => (by omega)) (fun h51 => ?_)
          refine n2 hC rfl rfl ⟨by omega, by omega⟩ ?_
          refine g3 hC rfl rfl ?_
          refine g0 hC rfl ?_
          refine g6a hC rfl ⟨by omega, by omega⟩ ?_
          refine s3 hC rfl rfl rfl ?_
          refine g0 hC rfl ?_
          refine s4 hC rfl rfl rfl ?_
          refine g14 hC rfl ?_
          refine n5 hC rfl rfl ⟨by omega, by omega⟩ ?_
          refine g14 hC rfl ?_
          rw [no (by omega), e1, e2]; exact hk2 _ _
        ·
          refine g3 hC rfl rfl ?_
          refine g3 hC rfl rfl ?_
          refine g6s hC rfl ⟨by omega, by omega⟩ ?_
          refine g3 hC rfl rfl ?_
          refine g19 hC rfl rfl (Nat.le_of_ble_eq_true rfl) rfl hq.2.2.2.1 ?_
          refine g3 hC rfl rfl ?_
          refine g19 hC rfl rfl (Nat.le_of_ble_eq_true rfl) rfl hq.2.2.1 ?_
          refine g6s hC rfl ⟨by omega, by omega⟩ ?_
          refine g13n hC rfl (fun h47 => ?_) (fun h47 => ?_)
          ·
            refine g3 hC rfl rfl ?_
            refine g12e hC rfl (fun h51 => (by omega)) (fun h51 => ?_)
            refine n2 hC rfl rfl ⟨by omega, by omega⟩ ?_
            refine g3 hC rfl rfl ?_
            refine g0 hC rfl ?_
            refine g6a hC rfl ⟨by omega, by omega⟩ ?_
            refine s3 hC rfl rfl rfl ?_
            refine g0 hC rfl ?_
            refine s4 hC rfl rfl rfl ?_
            refine g14 hC rfl ?_
            refine n5 hC rfl rfl ⟨by omega, by omega⟩ ?_
            refine g14 hC rfl ?_
            rw [no (by omega), e1, e2]; exact hk2 _ _
          ·
            refine g3 hC rfl rfl ?_
            refine ret1 hC rfl rfl ?_
            exact ⟨(yes (by omega) (by omega)).symm, rfl⟩
    have main : ∀ (r : List (List Int)) (v u : List Int) (idx fr : Nat) (al : Int), idx ≤ fr → bs.drop (fr + u.length) = v ++ tlW r → fr + u.length ≤ bs.length → (∀ x ∈ v, x ≠ 32) → (∀ y ∈ r, ∀ x ∈ y, x ≠ 32) → (al = 0 ∨ al = 1) → (al = 1 ↔ Pf T q.1 m u) → ∀ v6 v7, ax_G L X SH 4 92 14 [(2, 1), (2, a), (0, (idx : Int)), (0, (fr : Int)), (0, al), (0, ((fr + u.length : Nat) : Int)), v6, v7] [] M (R1 0 (fun x M' => x = fnd T n q idx ((u ++ v) :: r) ∧ M' = M)) := by
      have chr : ∀ (r : List (List Int)), (∀ (u : List Int) (idx fr : Nat) (al : Int), idx ≤ fr → bs.drop (fr + u.length) = tlW r → fr + u.length ≤ bs.length → (al = 0 ∨ al = 1) → (al = 1 ↔ Pf T q.1 m u) → ∀ v6 v7, ax_G L X SH 4 92 14 [(2, 1), (2, a), (0, (idx : Int)), (0, (fr : Int)), (0, al), (0, ((fr + u.length : Nat) : Int)), v6, v7] [] M (R1 0 (fun x M' => x = fnd T n q idx (u :: r) ∧ M' = M))) → ∀ (v u : List Int) (idx fr : Nat) (al : Int), idx ≤ fr → bs.drop (fr + u.length) = v ++ tlW r → fr + u.length ≤ bs.length → (∀ x ∈ v, x ≠ 32) → (al = 0 ∨ al = 1) → (al = 1 ↔ Pf T q.1 m u) → ∀ v6 v7, ax_G L X SH 4 92 14 [(2, 1), (2, a), (0, (idx : Int)), (0, (fr : Int)), (0, al), (0, ((fr + u.length : Nat) : Int)), v6, v7] [] M (R1 0 (fun x M' => x = fnd T n q idx ((u ++ v) :: r) ∧ M' = M)) := by
        intro r base v
        induction v with
        | nil =>
          intro u idx fr al hif hd hl _ al0 al1 v6 v7
          rw [List.append_nil]
          exact base u idx fr al hif hd hl al0 al1 v6 v7
        | cons c v ih =>
          intro u idx fr al hif hd hl hv al0 al1 v6 v7
          have hd2 : bs.drop (fr + u.length) = c :: (v ++ tlW r) := hd
          obtain ⟨d1, d2, d3⟩ := drp hd2
          have el : fr + (u ++ [c]).length = fr + u.length + 1 := by simp; omega
          refine stp _ _ c u idx fr al hd2 (hv c List.mem_cons_self) al0 al1 (fun al' w6 w7 a0 a1 => ?_) v6 v7
          have := ih (u ++ [c]) idx fr al' hif (by rw [el]; exact d3) (by rw [el]; omega) (fun x hx => hv x (List.mem_cons_of_mem _ hx)) a0 a1 w6 w7
          rw [List.append_assoc] at this
          exact this
      intro r
      induction r with
      | nil =>
        intro v u idx fr al hif hd hl hv _ al0 al1 v6 v7
        refine chr [] ?_ v u idx fr al hif hd hl hv al0 al1 v6 v7
        intro u idx fr al hif hd hl al0 al1 v6 v7
        have hK : fr + u.length = bs.length := by
          have h0 : (bs.drop (fr + u.length)).length = 0 := by rw [hd]; rfl
          rw [List.length_drop] at h0; omega
        refine bh [] u idx fr al hif hl (Or.inl hK) al0 al1 (fun v6 v7 => ?_) v6 v7
        obtain ⟨K, hK2⟩ : ∃ K, K = fr + u.length + 1 := ⟨_, rfl⟩
        rw [← hK2]
        refine g3 hC rfl rfl ?_
        refine g19 hC rfl rfl (Nat.le_of_ble_eq_true rfl) rfl hq.2.1 ?_
        refine g0 hC rfl ?_
        refine g13n hC rfl (fun h17 => (by omega)) (fun h17 => ?_)
        refine g3 hC rfl rfl ?_
        refine g3 hC rfl rfl ?_
        refine c1 hC rfl rfl rfl (Nat.le_of_ble_eq_true rfl) (Nat.le_of_ble_eq_true rfl) (mayT k308 rfl ha) c308 (Nat.le_of_ble_eq_true rfl) (fun x M2 hr => ?_)
        obtain ⟨rfl, hr⟩ := hr; replace hr := hr.symm; subst hr
        refine g13t hC rfl (fun h21 => ?_) (fun h21 => (by omega))
        refine g0 hC rfl ?_
        refine ret1 hC rfl rfl ?_
        exact ⟨rfl, rfl⟩
      | cons y r ih =>
        intro v u idx fr al hif hd hl hv hr al0 al1 v6 v7
        refine chr (y :: r) ?_ v u idx fr al hif hd hl hv al0 al1 v6 v7
        intro u idx fr al hif hd hl al0 al1 v6 v7
        have hd2 : bs.drop (fr + u.length) = 32 :: (y ++ tlW r) := hd
        obtain ⟨d1, d2, d3⟩ := drp hd2
        refine bh (y :: r) u idx fr al hif hl (Or.inr ⟨d1, d2⟩) al0 al1 (fun v6 v7 => ?_) v6 v7
        exact ih y [] (idx + 1) (fr + u.length + 1) 1 (by omega) d3 (by show fr + u.length + 1 + 0 ≤ _; omega) (fun x hx => hr y List.mem_cons_self x hx) (fun z hz => hr z (List.mem_cons_of_mem _ hz)) (Or.inr rfl) ⟨fun _ => ⟨Nat.zero_le _, fun i hi => absurd hi (Nat.not_lt_zero i)⟩, fun _ => rfl⟩ v6 v7
    refine g0 hC rfl ?_
    refine s2 hC rfl rfl rfl ?_
    refine g0 hC rfl ?_
    refine s3 hC rfl rfl rfl ?_
    refine g3 hC rfl rfl ?_
    refine g19 hC rfl rfl (Nat.le_of_ble_eq_true rfl) rfl hq.2.1 ?_
    refine g0 hC rfl ?_
    refine g13n hC rfl (fun h7 => (by omega)) (fun h7 => ?_)
    refine g0 hC rfl ?_
    refine g14 hC rfl ?_
    refine s4 hC rfl rfl rfl ?_
    refine g0 hC rfl ?_
    refine s5 hC rfl rfl rfl ?_
    exact main ws w [] 0 0 1 (Nat.le_refl 0) hb (Nat.zero_le _) hw0 hws (Or.inr rfl) ⟨fun _ => ⟨Nat.zero_le _, fun i hi => absurd hi (Nat.not_lt_zero i)⟩, fun _ => rfl⟩ _ _
  · rw [fnd_kd hkd]
    refine g0 hC rfl ?_
    refine s2 hC rfl rfl rfl ?_
    refine g0 hC rfl ?_
    refine s3 hC rfl rfl rfl ?_
    refine g3 hC rfl rfl ?_
    refine g19 hC rfl rfl (Nat.le_of_ble_eq_true rfl) rfl hq.2.1 ?_
    refine g0 hC rfl ?_
    refine g13n hC rfl (fun h7 => ?_) (fun h7 => (by omega))
    refine g0 hC rfl ?_
    refine s4 hC rfl rfl rfl ?_
    refine g0 hC rfl ?_
    refine s5 hC rfl rfl rfl ?_
    refine g3 hC rfl rfl ?_
    refine g19 hC rfl rfl (Nat.le_of_ble_eq_true rfl) rfl hq.2.1 ?_
    refine g0 hC rfl ?_
    refine g13n hC rfl (fun h17 => ?_) (fun h17 => (by omega))
    refine g0 hC rfl ?_
    refine ret1 hC rfl rfl ?_
    exact ⟨rfl, rfl⟩
theorem m93 (hF : Fix M) (hn : n ≤ 1600) (hq : CT T n q M) (hqn : q.1 ≤ n) {a : Int} (ha : ax_isS a = true) {w : List Int} (hb : ax_by (a - 1) = w) (hw0 : ∀ x ∈ w, x ≠ 32) : ax_Ev L X SH 5 93 [(2, 1), (2, a)] M (R1 0 (fun x M' => x = (if isW T n q w = true then 1 else 0) ∧ M' = M)) := by
  show ax_G L X SH 5 93 0 [(2, 1), (2, a)] [] M _
  have hC := at93
  have ef : fnd T n q 0 [w] = if isW T n q w = true then 0 else -1 := rfl
  have c92 := m92 (L := L) (X := X) hF hn hq hqn ha (ws := []) (hb.trans (List.append_nil w).symm) hw0 (fun v hv => by cases hv)
  rw [ef] at c92
  refine g3 hC rfl rfl ?_
  refine g3 hC rfl rfl ?_
  refine c1 hC rfl rfl rfl (Nat.le_of_ble_eq_true rfl) (Nat.le_of_ble_eq_true rfl) rfl c92 (Nat.le_of_ble_eq_true rfl) (fun x M2 hr => ?_)
  obtain ⟨hx, hr⟩ := hr; replace hr := hr.symm; subst hr
  refine g12n hC rfl (fun h3 => ?_) (fun h3 => ?_)
  ·
    refine g0 hC rfl ?_
    refine ret3 hC rfl ⟨by omega, by omega⟩ ?_
    refine ⟨?_, rfl⟩
    split at hx
    · omega
    · rename_i z; rw [if_neg z]
  ·
    refine g0 hC rfl ?_
    refine g14 hC rfl ?_
    refine ret3 hC rfl ⟨by omega, by omega⟩ ?_
    refine ⟨?_, rfl⟩
    split at hx
    · rename_i z; rw [if_pos z]
    · omega
theorem m94 (hF : Fix M) (hn : n ≤ 1600) (hq : CT T n q M) (hqn : q.1 ≤ n) {c : Int} : ax_Ev L X SH 0 94 [(2, 1), (0, c)] M (R1 0 (fun x M' => x = (if isG T n q c = true then 1 else 0) ∧ M' = M)) := by
  show ax_G L X SH 0 94 0 [(2, 1), (0, c)] [] M _
  have hC := at94
  have hw : wok WSP = true := by decide +kernel
  have hS : Sb WSP M M := Sb.refl
  have eG : isG T n q c = decide (kd T n q = 3 ∧ T q.1 = c) := rfl
  have hk3 : kd T n q = 3 → q.1 < n := fun h => (kd_3 h).2.1
  refine g3 hC rfl rfl ?_
  refine g19 hC rfl rfl (Nat.le_of_ble_eq_true rfl) rfl hq.2.1 ?_
  refine g0 hC rfl ?_
  refine g13n hC rfl (fun h3 => ?_) (fun h3 => ?_)
  ·
    refine g0 hC rfl ?_
    refine ret3 hC rfl ⟨by omega, by omega⟩ ?_
    refine ⟨?_, rfl⟩
    rw [eG, if_neg (fun z => by have := of_decide_eq_true z; omega)]
  ·
    refine g3 hC rfl rfl ?_
    refine g19 hC rfl rfl (Nat.le_of_ble_eq_true rfl) rfl ((hS.fix hw hF).g rfl) ?_
    refine g3 hC rfl rfl ?_
    refine g19 hC rfl rfl (Nat.le_of_ble_eq_true rfl) rfl hq.2.2.1 ?_
    refine r21 (q.1) hC rfl rfl rfl (Or.inl rfl) (by have := hk3 (by omega); omega) (hq.2.2.2.2.1 _ (by have := hk3 (by omega); omega)) ?_
    refine g3 hC rfl rfl ?_
    refine g13n hC rfl (fun h10 => ?_) (fun h10 => ?_)
    ·
      refine g0 hC rfl ?_
      refine ret3 hC rfl ⟨by omega, by omega⟩ ?_
      refine ⟨?_, rfl⟩
      rw [eG, if_neg (fun z => by have := of_decide_eq_true z; omega)]
    ·
      refine g0 hC rfl ?_
      refine g14 hC rfl ?_
      refine ret3 hC rfl ⟨by omega, by omega⟩ ?_
      refine ⟨?_, rfl⟩
      rw [eG, if_pos (decide_eq_true ⟨by omega, by omega⟩)]
theorem m90q (hF : Fix M) (hn : n ≤ 1600) (hq : CT T n q M) (hqn : q.1 ≤ n) : ax_Ev L X SH 1 90 [(2, 1)] M (R0 (fun M' => Sb WSP M M' ∧ CT T n (nx T n q) M')) := m90 hF hn hq.1 hq.2.2.2.2.1 hq.2.1 hq.2.2.2.1 (af_b hqn).2.1 hq.2.2.2.2.2
def CF (f p : Int) (M : ax_M) : Prop := M 1 8 = f ∧ M 1 9 = p
theorem CF.up {f p : Int} : CF f p (ax_up (ax_up M 1 8 f) 1 9 p) := ⟨by rw [ax_up_of (by decide), ax_up_at], ax_up_at⟩
theorem m95 (hF : Fix M) (hn : n ≤ 1600) (hq : CT T n q M) (hqn : q.1 ≤ n) {a : Int} (ha : ax_isS a = true) {w : List Int} (hb : ax_by (a - 1) = w) (hw0 : ∀ x ∈ w, x ≠ 32) : ax_Ev L X SH 5 95 [(2, 1), (2, a)] M (R1 0 (fun x M' => (isW T n q w = true ∧ x = 1 ∧ Sb WSP M M' ∧ CT T n (nx T n q) M') ∨ (isW T n q w = false ∧ x = 0 ∧ Sb WFL M M' ∧ CF 1 q.1 M'))) := by
  show ax_G L X SH 5 95 0 [(2, 1), (2, a)] [] M _
  have hC := at95
  have ef : fnd T n q 0 [w] = if isW T n q w = true then 0 else -1 := rfl
  have c92 := m92 (L := L) (X := X) hF hn hq hqn ha (ws := []) (hb.trans (List.append_nil w).symm) hw0 (fun v hv => by cases hv)
  rw [ef] at c92
  refine g3 hC rfl rfl ?_
  refine g3 hC rfl rfl ?_
  refine c1 hC rfl rfl rfl (Nat.le_of_ble_eq_true rfl) (Nat.le_of_ble_eq_true rfl) rfl c92 (Nat.le_of_ble_eq_true rfl) (fun x M2 hr => ?_)
  obtain ⟨hx, hr⟩ := hr; replace hr := hr.symm; subst hr
  refine g12e hC rfl (fun h3 => ?_) (fun h3 => ?_)
  ·
    refine g3 hC rfl rfl ?_
    refine c0 hC rfl rfl rfl (Nat.le_of_ble_eq_true rfl) (Nat.le_of_ble_eq_true rfl) rfl (m90q hF hn hq hqn) (Nat.le_of_ble_eq_true rfl) (fun M2 hr => ?_)
    obtain ⟨hS, hc⟩ := hr
    refine g0 hC rfl ?_
    refine ret3 hC rfl ⟨by omega, by omega⟩ ?_
    refine Or.inl ⟨?_, rfl, hS, hc⟩
    split at hx
    · rename_i z; exact z
    · omega
  ·
    refine g3 hC rfl rfl ?_
    refine g0 hC rfl ?_
    refine g3 hC rfl rfl ?_
    refine g19 hC rfl rfl (Nat.le_of_ble_eq_true rfl) rfl hq.2.2.1 ?_
    refine c1 hC rfl rfl rfl (Nat.le_of_ble_eq_true rfl) (Nat.le_of_ble_eq_true rfl) rfl (m89) (Nat.le_of_ble_eq_true rfl) (fun x M2 hr => ?_)
    obtain ⟨rfl, hr⟩ := hr; replace hr := hr.symm; subst hr
    refine ret3 hC rfl ⟨by omega, by omega⟩ ?_
    refine Or.inr ⟨?_, rfl, (Sb.refl.up rfl).up rfl, CF.up⟩
    split at hx
    · omega
    · rename_i z; cases e : isW T n q w with | true => exact absurd e z | false => rfl
theorem m96 (hF : Fix M) (hn : n ≤ 1600) (hq : CT T n q M) (hqn : q.1 ≤ n) {c : Int} : ax_Ev L X SH 2 96 [(2, 1), (0, c)] M (R1 0 (fun x M' => (isG T n q c = true ∧ x = 1 ∧ Sb WSP M M' ∧ CT T n (nx T n q) M') ∨ (isG T n q c = false ∧ x = 0 ∧ Sb WFL M M' ∧ CF 1 q.1 M'))) := by
  show ax_G L X SH 2 96 0 [(2, 1), (0, c)] [] M _
  have hC := at96
  refine g3 hC rfl rfl ?_
  refine g3 hC rfl rfl ?_
  refine c1 hC rfl rfl rfl (Nat.le_of_ble_eq_true rfl) (Nat.le_of_ble_eq_true rfl) rfl (m94 hF hn hq hqn) (Nat.le_of_ble_eq_true rfl) (fun x M2 hr => ?_)
  obtain ⟨hx, hr⟩ := hr; replace hr := hr.symm; subst hr
  refine g12n hC rfl (fun h3 => ?_) (fun h3 => ?_)
  ·
    refine g3 hC rfl rfl ?_
    refine c0 hC rfl rfl rfl (Nat.le_of_ble_eq_true rfl) (Nat.le_of_ble_eq_true rfl) rfl (m90q hF hn hq hqn) (Nat.le_of_ble_eq_true rfl) (fun M2 hr => ?_)
    obtain ⟨hS, hc⟩ := hr
    refine g0 hC rfl ?_
    refine ret3 hC rfl ⟨by omega, by omega⟩ ?_
    refine Or.inl ⟨?_, rfl, hS, hc⟩
    split at hx
    · rename_i z; exact z
    · omega
  ·
    refine g3 hC rfl rfl ?_
    refine g0 hC rfl ?_
    refine g3 hC rfl rfl ?_
    refine g19 hC rfl rfl (Nat.le_of_ble_eq_true rfl) rfl hq.2.2.1 ?_
    refine c1 hC rfl rfl rfl (Nat.le_of_ble_eq_true rfl) (Nat.le_of_ble_eq_true rfl) rfl (m89) (Nat.le_of_ble_eq_true rfl) (fun x M2 hr => ?_)
    obtain ⟨rfl, hr⟩ := hr; replace hr := hr.symm; subst hr
    refine ret3 hC rfl ⟨by omega, by omega⟩ ?_
    refine Or.inr ⟨?_, rfl, (Sb.refl.up rfl).up rfl, CF.up⟩
    split at hx
    · omega
    · rename_i z; cases e : isG T n q c with | true => exact absurd e z | false => rfl
def nv (T : Nat → Int) (s : Nat) : Nat → Int
  | 0 => 0
  | k + 1 => 10 * nv T s k + T (s + k) - 48
theorem nv_b {s : Nat} : ∀ m, (∀ i, i < m → 48 ≤ T (s + i) ∧ T (s + i) ≤ 57) → 0 ≤ nv T s m ∧ nv T s m < 10 ^ m := by
  intro m
  induction m with
  | zero => intro _; exact ⟨Int.le_refl 0, (by decide : (0 : Int) < 1)⟩
  | succ m ih =>
    intro h
    have h1 := ih (fun i hi => h i (by omega))
    have h2 := h m (by omega)
    have e : nv T s (m + 1) = 10 * nv T s m + T (s + m) - 48 := rfl
    have e2 : (10 : Int) ^ (m + 1) = 10 ^ m * 10 := rfl
    rw [e, e2]; omega
theorem m97 (hF : Fix M) (hn : n ≤ 1600) (hq : CT T n q M) (hqn : q.1 ≤ n) {lo hi : Int} : ax_Ev L X SH 2 97 [(2, 1), (0, lo), (0, hi)] M (R1 0 (fun x M' => Sb WNU M M' ∧ ((¬ kd T n q = 2 ∧ x = 0 ∧ CF 1 q.1 M') ∨ (kd T n q = 2 ∧ 4 < af T n q - q.1 ∧ x = 0 ∧ CF 1 ((q.1 + 4 : Nat) : Int) M') ∨ (kd T n q = 2 ∧ af T n q - q.1 ≤ 4 ∧ ¬ (lo ≤ nv T q.1 (af T n q - q.1) ∧ nv T q.1 (af T n q - q.1) ≤ hi) ∧ x = 0 ∧ CF 2 q.1 M') ∨ (kd T n q = 2 ∧ af T n q - q.1 ≤ 4 ∧ (lo ≤ nv T q.1 (af T n q - q.1) ∧ nv T q.1 (af T n q - q.1) ≤ hi) ∧ x = 1 ∧ CT T n (nx T n q) M' ∧ M' 1 6 = nv T q.1 (af T n q - q.1))))) := by
  show ax_G L X SH 2 97 0 [(2, 1), (0, lo), (0, hi), (3, 0)] [] M _
  obtain ⟨P, hP⟩ : ∃ P, P = fun (x : Int) (M' : ax_M) => Sb WNU M M' ∧ ((¬ kd T n q = 2 ∧ x = 0 ∧ CF 1 q.1 M') ∨ (kd T n q = 2 ∧ 4 < af T n q - q.1 ∧ x = 0 ∧ CF 1 ((q.1 + 4 : Nat) : Int) M') ∨ (kd T n q = 2 ∧ af T n q - q.1 ≤ 4 ∧ ¬ (lo ≤ nv T q.1 (af T n q - q.1) ∧ nv T q.1 (af T n q - q.1) ≤ hi) ∧ x = 0 ∧ CF 2 q.1 M') ∨ (kd T n q = 2 ∧ af T n q - q.1 ≤ 4 ∧ (lo ≤ nv T q.1 (af T n q - q.1) ∧ nv T q.1 (af T n q - q.1) ≤ hi) ∧ x = 1 ∧ CT T n (nx T n q) M' ∧ M' 1 6 = nv T q.1 (af T n q - q.1))) := ⟨_, rfl⟩
  rw [← hP]
  have hC := at97
  have hw : wok WNU = true := by decide +kernel
  have hS : Sb WNU M M := Sb.refl
  have hab := af_b (T := T) hqn
  have hdg : kd T n q = 2 → ∀ i, i < af T n q - q.1 → 48 ≤ T (q.1 + i) ∧ T (q.1 + i) ≤ 57 := by
    intro h i hi
    have h2 := (kd_2 h).2.2.2.2
    exact of_decide_eq_true (rn_in (p := isDb) (T := T) (i := q.1) (n := n) (by omega) (by omega))
  obtain ⟨m, hm⟩ : ∃ m, m = af T n q - q.1 := ⟨_, rfl⟩
  rw [← hm] at hP hdg
  have l1 : kd T n q = 2 → m ≤ 4 → ∀ (mm i : Nat), i + mm = m → ∀ ll M2, (ll = [(2, 1), (0, lo), (0, hi), (0, ((q.1 + i : Nat) : Int))] ∧ Sb WNU M M2 ∧ CT T n q M2 ∧ M2 1 6 = nv T q.1 i) → ax_G L X SH 2 97 31 ll [] M2 (R1 0 P) := by
    intro hk hm4
    refine lp ?_ ?_
    · rintro ll M2 ⟨rfl, hS, hq2, e6⟩
      rw [show q.1 + m = af T n q by omega]
      refine g3 hC rfl rfl ?_
      refine g3 hC rfl rfl ?_
      refine g19 hC rfl rfl (Nat.le_of_ble_eq_true rfl) rfl hq2.2.2.2.1 ?_
      refine g13g hC rfl (fun h34 => ?_) (fun h34 => (by omega))
      refine g3 hC rfl rfl ?_
      refine g19 hC rfl rfl (Nat.le_of_ble_eq_true rfl) rfl e6 ?_
      refine g3 hC rfl rfl ?_
      refine g13l hC rfl (fun h53 => ?_) (fun h53 => ?_)
      ·
        refine g3 hC rfl rfl ?_
        refine g0 hC rfl ?_
        refine g3 hC rfl rfl ?_
        refine g19 hC rfl rfl (Nat.le_of_ble_eq_true rfl) rfl hq2.2.2.1 ?_
        refine c1 hC rfl rfl rfl (Nat.le_of_ble_eq_true rfl) (Nat.le_of_ble_eq_true rfl) rfl (m89) (Nat.le_of_ble_eq_true rfl) (fun x M2 hr => ?_)
        obtain ⟨rfl, hr⟩ := hr; replace hr := hr.symm; subst hr
        refine ret3 hC rfl ⟨by omega, by omega⟩ ?_
        rw [hP]
        exact ⟨(hS.up rfl).up rfl, Or.inr (Or.inr (Or.inl ⟨hk, hm4, by omega, rfl, CF.up⟩))⟩
      ·
        refine g3 hC rfl rfl ?_
        refine g19 hC rfl rfl (Nat.le_of_ble_eq_true rfl) rfl e6 ?_
        refine g3 hC rfl rfl ?_
        refine g13s hC rfl (fun h57 => ?_) (fun h57 => ?_)
        ·
          refine g3 hC rfl rfl ?_
          refine c0 hC rfl rfl rfl (Nat.le_of_ble_eq_true rfl) (Nat.le_of_ble_eq_true rfl) rfl (m90q (hS.fix hw hF) hn hq2 hqn) (Nat.le_of_ble_eq_true rfl) (fun M2 hr => ?_)
          obtain ⟨hS1, hc⟩ := hr; have hS := hS.then hS1 rfl
          refine g0 hC rfl ?_
          refine ret3 hC rfl ⟨by omega, by omega⟩ ?_
          rw [hP]
          exact ⟨hS, Or.inr (Or.inr (Or.inr ⟨hk, hm4, by omega, rfl, hc, (hS1 1 6 rfl).trans e6⟩))⟩
        ·
          refine g3 hC rfl rfl ?_
          refine g0 hC rfl ?_
          refine g3 hC rfl rfl ?_
          refine g19 hC rfl rfl (Nat.le_of_ble_eq_true rfl) rfl hq2.2.2.1 ?_
          refine c1 hC rfl rfl rfl (Nat.le_of_ble_eq_true rfl) (Nat.le_of_ble_eq_true rfl) rfl (m89) (Nat.le_of_ble_eq_true rfl) (fun x M2 hr => ?_)
          obtain ⟨rfl, hr⟩ := hr; replace hr := hr.symm; subst hr
          refine ret3 hC rfl ⟨by omega, by omega⟩ ?_
          rw [hP]
          exact ⟨(hS.up rfl).up rfl, Or.inr (Or.inr (Or.inl ⟨hk, hm4, by omega, rfl, CF.up⟩))⟩
    · rintro i hi ll M2 ⟨rfl, hS, hq2, e6⟩ hnext
      have hv := nv_b (T := T) (s := q.1) i (fun k hk2 => hdg hk k (by omega))
      have hv4 : (10 : Int) ^ i ≤ 10000 := by
        have h4 : i ≤ 3 := by omega
        have : i = 0 ∨ i = 1 ∨ i = 2 ∨ i = 3 := by omega
        rcases this with rfl | rfl | rfl | rfl <;> decide
      have hdi := hdg hk i hi
      refine g3 hC rfl rfl ?_
      refine g3 hC rfl rfl ?_
      refine g19 hC rfl rfl (Nat.le_of_ble_eq_true rfl) rfl hq2.2.2.2.1 ?_
      refine g13g hC rfl (fun h34 => (by omega)) (fun h34 => ?_)
      refine g3 hC rfl rfl ?_
      refine g0 hC rfl ?_
      refine g3 hC rfl rfl ?_
      refine g19 hC rfl rfl (Nat.le_of_ble_eq_true rfl) rfl e6 ?_
      refine g6m hC rfl ⟨by omega, by omega⟩ ?_
      refine g3 hC rfl rfl ?_
      refine g19 hC rfl rfl (Nat.le_of_ble_eq_true rfl) rfl ((hS.fix hw hF).g rfl) ?_
      refine g3 hC rfl rfl ?_
      refine r21 (q.1 + i) hC rfl rfl rfl (Or.inl rfl) (by omega) (hq2.2.2.2.2.1 _ (by omega)) ?_
      refine g6a hC rfl ⟨by omega, by omega⟩ ?_
      refine g0 hC rfl ?_
      refine g6s hC rfl ⟨by omega, by omega⟩ ?_
      refine g20s hC rfl rfl (Nat.le_of_ble_eq_true rfl) rfl hS rfl (fun hS => ?_)
      refine n3 hC rfl rfl ⟨by omega, by omega⟩ ?_
      refine g14 hC rfl ?_
      refine hnext _ _ ⟨by rw [show ((q.1 + i : Nat) : Int) + 1 = ((q.1 + (i + 1) : Nat) : Int) by omega], hS, ?_, ax_up_at⟩
      exact ⟨(ax_up_of (by decide)).trans hq2.1, (ax_up_of (by decide)).trans hq2.2.1, (ax_up_of (by decide)).trans hq2.2.2.1, (ax_up_of (by decide)).trans hq2.2.2.2.1, fun k hk2 => (ax_up2n (by decide)).trans (hq2.2.2.2.2.1 k hk2), (ax_up_of (by decide)).trans hq2.2.2.2.2.2.1, (ax_up_of (by decide)).trans hq2.2.2.2.2.2.2⟩
  refine g3 hC rfl rfl ?_
  refine g19 hC rfl rfl (Nat.le_of_ble_eq_true rfl) rfl hq.2.1 ?_
  refine g0 hC rfl ?_
  refine g13e hC rfl (fun h3 => ?_) (fun h3 => ?_)
  ·
    refine g3 hC rfl rfl ?_
    refine g19 hC rfl rfl (Nat.le_of_ble_eq_true rfl) rfl hq.2.2.2.1 ?_
    refine g3 hC rfl rfl ?_
    refine g19 hC rfl rfl (Nat.le_of_ble_eq_true rfl) rfl hq.2.2.1 ?_
    refine g6s hC rfl ⟨by omega, by omega⟩ ?_
    refine g0 hC rfl ?_
    refine g13s hC rfl (fun h16 => ?_) (fun h16 => ?_)
    ·
      refine g3 hC rfl rfl ?_
      refine g0 hC rfl ?_
      refine g20s hC rfl rfl (Nat.le_of_ble_eq_true rfl) rfl hS rfl (fun hS => ?_)
      refine g3 hC rfl rfl ?_
      refine g19 hC rfl rfl (Nat.le_of_ble_eq_true rfl) rfl ((ax_up_of (by decide)).trans hq.2.2.1) ?_
      refine s3 hC rfl rfl rfl ?_
      refine l1 (by omega) (by omega) m 0 (Nat.zero_add _) _ _ ⟨rfl, hS, ?_, ax_up_at⟩
      exact ⟨(ax_up_of (by decide)).trans hq.1, (ax_up_of (by decide)).trans hq.2.1, (ax_up_of (by decide)).trans hq.2.2.1, (ax_up_of (by decide)).trans hq.2.2.2.1, fun k hk2 => (ax_up2n (by decide)).trans (hq.2.2.2.2.1 k hk2), (ax_up_of (by decide)).trans hq.2.2.2.2.2.1, (ax_up_of (by decide)).trans hq.2.2.2.2.2.2⟩
    ·
      refine g3 hC rfl rfl ?_
      refine g0 hC rfl ?_
      refine g3 hC rfl rfl ?_
      refine g19 hC rfl rfl (Nat.le_of_ble_eq_true rfl) rfl hq.2.2.1 ?_
      refine g0 hC rfl ?_
      refine g6a hC rfl ⟨by omega, by omega⟩ ?_
      refine c1 hC rfl rfl rfl (Nat.le_of_ble_eq_true rfl) (Nat.le_of_ble_eq_true rfl) rfl (m89) (Nat.le_of_ble_eq_true rfl) (fun x M2 hr => ?_)
      obtain ⟨rfl, hr⟩ := hr; replace hr := hr.symm; subst hr
      refine ret3 hC rfl ⟨by omega, by omega⟩ ?_
      rw [hP]
      refine ⟨(Sb.refl.up rfl).up rfl, Or.inr (Or.inl ⟨by omega, by omega, rfl, ?_⟩)⟩
      rw [show ((q.1 : Int)) + 4 = ((q.1 + 4 : Nat) : Int) by omega]; exact CF.up
  ·
    refine g3 hC rfl rfl ?_
    refine g0 hC rfl ?_
    refine g3 hC rfl rfl ?_
    refine g19 hC rfl rfl (Nat.le_of_ble_eq_true rfl) rfl hq.2.2.1 ?_
    refine c1 hC rfl rfl rfl (Nat.le_of_ble_eq_true rfl) (Nat.le_of_ble_eq_true rfl) rfl (m89) (Nat.le_of_ble_eq_true rfl) (fun x M2 hr => ?_)
    obtain ⟨rfl, hr⟩ := hr; replace hr := hr.symm; subst hr
    refine ret3 hC rfl ⟨by omega, by omega⟩ ?_
    rw [hP]
    exact ⟨(Sb.refl.up rfl).up rfl, Or.inl ⟨by omega, rfl, CF.up⟩⟩
end CTY
