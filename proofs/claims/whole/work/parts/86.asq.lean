def stq (kd : Nat) (v : Nat → Int) (i : Nat) (a : Int) : Int := if kd = 0 then (if ¬ v i = 0 ∧ a = -1 then (i : Int) else a) else if kd = 1 then (if ¬ v i = 0 then (i : Int) else a) else if kd = 2 then (if ¬ v i = 0 then a + 1 else a) else if kd = 3 then a + v i else if kd = 4 then (if i = 0 then v i else max a (v i)) else (if i = 0 then v i else min a (v i))
theorem ans_st {kd : Nat} {v : Nat → Int} {m : Nat} (h5 : kd ≤ 5) : ansQ kd v m = it (stq kd v) m (if kd < 2 then -1 else 0) := by
  have : kd = 0 ∨ kd = 1 ∨ kd = 2 ∨ kd = 3 ∨ kd = 4 ∨ kd = 5 := by omega
  rcases this with rfl | rfl | rfl | rfl | rfl | rfl <;> rfl
section ASQ
variable {L : Nat} {X : Nat → Int} {M V : ax_M} {h n : Nat} {T : Nat → Int}
theorem m290 {kd i : Nat} (h5 : kd ≤ 5) (hi : i < 8) {v : Nat → Int} {qa nw : Int} (hv1 : kd ≤ 2 → v i = 0 ∨ v i = 1) (hv2 : 3 ≤ kd → bnd (v i)) (hqa : M 142 117 = qa) (hqb : -100000000 ≤ qa ∧ qa ≤ 100000000) (hnw : M 142 118 = nw) (hn0 : nw = if i = 0 then 1 else 0) : ax_Ev L X SH 0 290 [(2, 142), (0, (kd : Int)), (1, v i), (0, (i : Int))] M (R0 (fun M' => Sb XQA M M' ∧ M' 142 117 = stq kd v i qa ∧ M' 142 118 = 0)) := by
  have hn1 : nw = 0 ∨ nw = 1 := by rw [hn0]; split; exact Or.inr rfl; exact Or.inl rfl
  have hn2 : nw = 1 ↔ i = 0 := by
    rw [hn0]
    constructor
    · intro z; split at z; assumption; cases z
    · intro z; rw [if_pos z]
  have e4 : (if nw = 1 then v i else max qa (v i)) = (if i = 0 then v i else max qa (v i)) := by
    by_cases z : i = 0
    · rw [if_pos z, if_pos (hn2.2 z)]
    · rw [if_neg z, if_neg (fun y => z (hn2.1 y))]
  have e5 : (if nw = 1 then v i else min qa (v i)) = (if i = 0 then v i else min qa (v i)) := by
    by_cases z : i = 0
    · rw [if_pos z, if_pos (hn2.2 z)]
    · rw [if_neg z, if_neg (fun y => z (hn2.1 y))]
  have hk : kd = 0 ∨ kd = 1 ∨ kd = 2 ∨ kd = 3 ∨ kd = 4 ∨ kd = 5 := by omega
  rcases hk with rfl | rfl | rfl | rfl | rfl | rfl
  · exact m290_0 hi (hv1 (by decide)) hqa hqb hnw hn1
  · exact m290_1 hi (hv1 (by decide)) hqa hqb hnw hn1
  · exact m290_2 hi (hv1 (by decide)) hqa hqb hnw hn1
  · exact m290_3 hi (hv2 (by decide)) hqa hqb hnw hn1
  · have := m290_4 (L := L) (X := X) hi (hv2 (by decide)) hqa hqb hnw hn1
    rw [e4] at this; exact this
  · have := m290_5 (L := L) (X := X) hi (hv2 (by decide)) hqa hqb hnw hn1
    rw [e5] at this; exact this
theorem stq_b {kd i : Nat} {v : Nat → Int} {a : Int} (hi : i < 8) (hv : bnd (v i)) (ha : -1000000 * (i : Int) - 8 ≤ a ∧ a ≤ 1000000 * (i : Int) + 8) : -1000000 * ((i + 1 : Nat) : Int) - 8 ≤ stq kd v i a ∧ stq kd v i a ≤ 1000000 * ((i + 1 : Nat) : Int) + 8 := by
  unfold bnd at hv
  unfold stq
  split
  · split <;> omega
  split
  · split <;> omega
  split
  · split <;> omega
  split
  · omega
  split
  · split <;> omega
  · split <;> omega
theorem m291 (hF : Fix M) (hV : RV V h M) (hW : HW V h) (hSW : SW V) (hPW : PW V h) (hWd : Wd M) (hn : n ≤ 1600) (hl1 : M 142 1 = (n : Int)) (hT : ∀ i, i < 1600 → M 143 i = T i) (hB : ∀ i, i < 1600 → 0 ≤ T i) (hsh : M 142 69 = -1) (hwi : M 142 70 = -1) : ax_Ev L X SH 12 291 [(2, 142)] M (R1 1 (fun x M' => Sb XASK M M' ∧ M' 142 1 = 0 ∧ ((∃ f p, askF T n = .inl (f, p) ∧ x = NOTH ∧ M' 142 7 = f ∧ M' 142 8 = p) ∨ ∃ kd c, askF T n = .inr (kd, c) ∧ x = ansV V h kd c ∧ M' 142 7 = 0 ∧ M' 142 8 = -1))) := by
  show ax_G L X SH 12 291 0 [(2, 142), (3, 0), (3, 0)] [] M _
  obtain ⟨P, hP⟩ : ∃ P, P = fun (x : Int) (M' : ax_M) => Sb XASK M M' ∧ M' 142 1 = 0 ∧ ((∃ f p, askF T n = .inl (f, p) ∧ x = NOTH ∧ M' 142 7 = f ∧ M' 142 8 = p) ∨ ∃ kd c, askF T n = .inr (kd, c) ∧ x = ansV V h kd c ∧ M' 142 7 = 0 ∧ M' 142 8 = -1) := ⟨_, rfl⟩
  rw [← hP]
  have hC := at291
  have hw : wok XASK = true := by decide +kernel
  have hwr : rok XASK := rokB (by decide +kernel)
  have hb8 := hW.1.2.2.2.2
  obtain ⟨q0, hq0⟩ : ∃ q0, q0 = qz T n := ⟨_, rfl⟩
  have hqn : q0.1 ≤ n := by rw [hq0]; exact rn_le (Nat.zero_le _)
  have hwq : wq T n q0 := by rw [hq0]; exact ⟨rn_le (Nat.zero_le _), fun z => rn_out z⟩
  have eA : askF T n = if fnd T n q0 0 qst = -1 then .inl (1, (q0.1 : Int)) else match (if fnd T n q0 0 qst ≤ 2 then tsL T n 2 6 (nx T n q0) else smL T n 2 6 (nx T n q0)) with | .inl e => .inl e | .inr (q1, c) => if kd T n q1 = 0 then .inr ((fnd T n q0 0 qst).toNat, c) else .inl (1, (q1.1 : Int)) := by rw [hq0]; rfl
  have tF : ∀ (M3 : ax_M) (f p : Int) (v1 v2 : ax_V), Sb XASK M M3 → M3 142 1 = 0 → askF T n = .inl (f, p) → f ≠ 0 → BF f p M3 → ax_G L X SH 12 291 63 [(2, 142), v1, v2] [] M3 (R1 1 P) := by
    intro M3 f p v1 v2 hS e1 ea hf hb
    refine g3 hC rfl rfl ?_
    refine g3 hC rfl rfl ?_
    refine g19 hC rfl sh142 (flt12 rfl) ft12_5 hb.1 ?_
    refine g20s hC rfl sh142 (flt12 rfl) (by rw [fy12_7]; rfl) hS rfl (fun hS => ?_)
    refine g3 hC rfl rfl ?_
    refine g3 hC rfl rfl ?_
    refine g19 hC rfl sh142 (flt12 rfl) ft12_6 ((ax_up_of (by decide)).trans hb.2) ?_
    refine g20s hC rfl sh142 (flt12 rfl) (by rw [fy12_8]; rfl) hS rfl (fun hS => ?_)
    refine g3 hC rfl rfl ?_
    refine g19 hC rfl sh142 (flt12 rfl) ft12_5 ((ax_up_of (by decide)).trans ((ax_up_of (by decide)).trans hb.1)) ?_
    refine g12e hC rfl (fun h73 => (by omega)) (fun h73 => ?_)
    refine g1 hC rfl ?_
    refine ret1 hC rfl rfl ?_
    rw [hP]
    exact ⟨hS, (ax_up_of (by decide)).trans ((ax_up_of (by decide)).trans e1), Or.inl ⟨f, p, ea, rfl, (ax_up_of (by decide)).trans ax_up_at, ax_up_at⟩⟩
  have tV : ∀ (M3 : ax_M) (kd : Nat) (c : List Int), Sb XASK M M3 → M3 142 1 = 0 → askF T n = .inr (kd, c) → RC M3 c → M3 142 5 = 0 → M3 142 6 = -1 → ax_G L X SH 12 291 63 [(2, 142), (0, (kd : Int)), (3, 0)] [] M3 (R1 1 P) := by
    intro M3 kd c hS e1 ea hc hb5 hb6
    obtain ⟨a1, a2, a3, a4, a5⟩ := ask_ok hn ea
    obtain ⟨v, hv⟩ : ∃ v, v = qv V h (OUq V h) (MMq V h) (fun i => c.getD i 0) c.length := ⟨_, rfl⟩
    have hvk : ∀ i, i < nC V h → (kd ≤ 2 → v i = 0 ∨ v i = 1) ∧ (3 ≤ kd → bnd (v i)) := by
      intro i hi
      rw [hv]
      exact ⟨fun z => (pval_k (lfQ_b hW hSW ouq hi) (mtQ_b (fun a b => mt_b)) (typ_of (a4 z) (by decide))).1 rfl, fun z => (pval_k (lfQ_b hW hSW ouq hi) (mtQ_b (fun a b => mt_b)) (typ_of (a5 z) (by decide))).2 rfl⟩
    have hvb : ∀ i, i < nC V h → bnd (v i) := by
      intro i hi
      by_cases z : kd ≤ 2
      · have := (hvk i hi).1 z; unfold bnd; omega
      · exact (hvk i hi).2 (by omega)
    have loop : ∀ (M4 : ax_M), Sb XASK M M4 → RO V h (V 46) (-1) (-1) M4 → RC M4 c → M4 142 1 = 0 → M4 142 7 = 0 → M4 142 8 = -1 → ∀ (mm' i : Nat), i + mm' = nC V h → ∀ ll M5, (ll = [(2, 142), (0, (kd : Int)), (0, (i : Int))] ∧ Sb ([(230, 231)], [(142, 53), (142, 116), (142, 117), (142, 118)]) M4 M5 ∧ M5 142 117 = it (stq kd v) i (if kd < 2 then -1 else 0) ∧ M5 142 118 = (if i = 0 then 1 else 0) ∧ (-1000000 * (i : Int) - 8 ≤ it (stq kd v) i (if kd < 2 then -1 else 0) ∧ it (stq kd v) i (if kd < 2 then -1 else 0) ≤ 1000000 * (i : Int) + 8)) → ax_G L X SH 12 291 94 ll [] M5 (R1 1 P) := by
      intro M4 hS4 hro hc4 e41 e47 e48
      refine lp ?_ ?_
      · rintro ll M5 ⟨rfl, hs5, q1, q2, q3⟩
        have hS := hS4.then hs5 rfl
        refine g3 hC rfl rfl ?_
        refine g3 hC rfl rfl ?_
        refine c1 hC rfl rfl rfl (Nat.le_of_ble_eq_true rfl) (Nat.le_of_ble_eq_true rfl) (mayR k186 rfl) (m186 (hS.fix hw hF) (hV.sb hS hwr) hW) (Nat.le_of_ble_eq_true rfl) (fun x M2 hr => ?_)
        obtain ⟨rfl, hr⟩ := hr
        replace hr := hr.symm
        subst hr
        refine g13g hC rfl (fun h97 => ?_) (fun h97 => (by omega))
        refine g3 hC rfl rfl ?_
        refine g19 hC rfl sh142 (flt12 rfl) ft12_117 q1 ?_
        refine ret1 hC rfl rfl ?_
        rw [hP]
        refine ⟨hS, (hs5 _ _ rfl).trans e41, Or.inr ⟨kd, c, ea, ?_, (hs5 _ _ rfl).trans e47, (hs5 _ _ rfl).trans e48⟩⟩
        unfold ansV
        rw [ans_st a2, ← hv]
      · rintro i hi ll M5 ⟨rfl, hs5, q1, q2, q3⟩ hnext
        have hS := hS4.then hs5 rfl
        have hF5 := hS.fix hw hF
        have hV5 := hV.sb hS hwr
        have hsb := stq_b (kd := kd) (v := v) (i := i) (by omega) (hvb i hi) q3
        have c288 : ax_Ev L X SH 4 288 [(2, 142), (0, (i : Int))] M5 (R1 1 (fun x M' => x = v i ∧ Sb X196 M5 M')) := by
          rw [hv]
          by_cases z : kd ≤ 2
          · exact m288 hF5 hV5 hW hSW ouq (fun c hc => (hs5 _ _ rfl).trans (hro.2.1 c hc).1) (fun a b => mt_b) (fun a b ha hb => (hs5 _ _ rfl).trans (hro.2.2.2 a b ha hb)) ((hs5 _ _ rfl).trans hc4.1) a1 (fun j hj => (hs5 _ _ rfl).trans (hc4.2 j hj)) (fun j hj => a3 _ (by show c.getD j 0 ∈ c; rw [List.getD_eq_getElem?_getD, List.getElem?_eq_getElem hj]; exact List.getElem_mem hj)) (typ_of (a4 z) (by decide)) hi
          · exact m288 hF5 hV5 hW hSW ouq (fun c hc => (hs5 _ _ rfl).trans (hro.2.1 c hc).1) (fun a b => mt_b) (fun a b ha hb => (hs5 _ _ rfl).trans (hro.2.2.2 a b ha hb)) ((hs5 _ _ rfl).trans hc4.1) a1 (fun j hj => (hs5 _ _ rfl).trans (hc4.2 j hj)) (fun j hj => a3 _ (by show c.getD j 0 ∈ c; rw [List.getD_eq_getElem?_getD, List.getElem?_eq_getElem hj]; exact List.getElem_mem hj)) (typ_of (a5 (by omega)) (by decide)) hi
        refine g3 hC rfl rfl ?_
        refine g3 hC rfl rfl ?_
        refine c1 hC rfl rfl rfl (Nat.le_of_ble_eq_true rfl) (Nat.le_of_ble_eq_true rfl) (mayR k186 rfl) (m186 hF5 hV5 hW) (Nat.le_of_ble_eq_true rfl) (fun x M2 hr => ?_)
        obtain ⟨rfl, hr⟩ := hr
        replace hr := hr.symm
        subst hr
        refine g13g hC rfl (fun h97 => (by omega)) (fun h97 => ?_)
        refine g3 hC rfl rfl ?_
        refine g3 hC rfl rfl ?_
        refine g3 hC rfl rfl ?_
        refine g3 hC rfl rfl ?_
        refine c1 hC rfl rfl rfl (Nat.le_of_ble_eq_true rfl) (Nat.le_of_ble_eq_true rfl) (mayR k288 rfl) c288 (Nat.le_of_ble_eq_true rfl) (fun x M6 hr => ?_)
        obtain ⟨rfl, hr6⟩ := hr
        refine g3 hC rfl rfl ?_
        refine c0 hC rfl rfl rfl (Nat.le_of_ble_eq_true rfl) (Nat.le_of_ble_eq_true rfl) (mayR k290 rfl) (m290 (v := v) a2 (by omega) (hvk i hi).1 (hvk i hi).2 ((hr6 _ _ rfl).trans q1) (by omega) ((hr6 _ _ rfl).trans q2) rfl) (Nat.le_of_ble_eq_true rfl) (fun M7 hr => ?_)
        refine n2 hC rfl rfl ⟨by omega, by omega⟩ ?_
        refine g14 hC rfl ?_
        refine hnext _ _ ⟨rfl, (hs5.then hr6 rfl).then hr.1 rfl, hr.2.1, by rw [hr.2.2, if_neg (by omega)], ?_⟩
        exact hsb
    have go : ∀ (M4 : ax_M) (a : Int), Sb XASK M M4 → RC M4 c → M4 142 1 = 0 → M4 142 7 = 0 → M4 142 8 = -1 → a = (if kd < 2 then -1 else 0) → ax_G L X SH 12 291 83 [(2, 142), (0, (kd : Int)), (3, 0)] [(1, a), (2, 142)] M4 (R1 1 P) := by
      intro M4 a hS hc4 e41 e47 e48 ha
      refine g20s hC rfl sh142 (flt12 rfl) (by rw [fy12_117]; rfl) hS rfl (fun hS => ?_)
      refine g3 hC rfl rfl ?_
      refine g0 hC rfl ?_
      refine g20s hC rfl sh142 (flt12 rfl) (by rw [fy12_118]; rfl) hS rfl (fun hS => ?_)
      refine g3 hC rfl rfl ?_
      refine c0 hC rfl rfl rfl (Nat.le_of_ble_eq_true rfl) (Nat.le_of_ble_eq_true rfl) (mayR k208 rfl) (m208 (V := V) (h := h) (hS.fix hw hF) (hV.sb hS hwr) hW hSW hPW (sm := -1) (wd := -1) ((hS _ _ rfl).trans hsh) ((hS _ _ rfl).trans hwi)) (Nat.le_of_ble_eq_true rfl) (fun M2 hr => ?_)
      obtain ⟨hd0, hd1⟩ := hr; have hS := hS.then hd0 rfl
      refine g3 hC rfl rfl ?_
      refine g0 hC rfl ?_
      refine g20s hC rfl sh142 (flt12 rfl) (by rw [fy12_53]; rfl) hS rfl (fun hS => ?_)
      refine g0 hC rfl ?_
      refine s2 hC rfl rfl rfl ?_
      have hx : Sb ([], [(142, 53)]) M2 (ax_up M2 142 53 2) := Sb.refl.up rfl
      refine loop (ax_up M2 142 53 2) hS ⟨fun z => by have := hd1.1 z; exact this, hd1.2.1, (ax_up_of (by decide)).trans hd1.2.2.1, hd1.2.2.2⟩ ?_ ?_ ?_ ?_ (nC V h) 0 (Nat.zero_add _) _ _ ⟨rfl, Sb.refl, ?_, ?_, ?_⟩
      · exact ⟨(ax_up_of (by decide)).trans ((hd0 _ _ rfl).trans ((ax_up_of (by decide)).trans ((ax_up_of (by decide)).trans hc4.1))), fun j hj => (ax_up2n (by decide)).trans ((hd0 _ _ rfl).trans ((ax_up2n (by decide)).trans ((ax_up2n (by decide)).trans (hc4.2 j hj))))⟩
      · exact (ax_up_of (by decide)).trans ((hd0 _ _ rfl).trans ((ax_up_of (by decide)).trans ((ax_up_of (by decide)).trans e41)))
      · exact (ax_up_of (by decide)).trans ((hd0 _ _ rfl).trans ((ax_up_of (by decide)).trans ((ax_up_of (by decide)).trans e47)))
      · exact (ax_up_of (by decide)).trans ((hd0 _ _ rfl).trans ((ax_up_of (by decide)).trans ((ax_up_of (by decide)).trans e48)))
      · refine (ax_up_of (by decide)).trans ((hd0 _ _ rfl).trans ((ax_up_of (by decide)).trans (ax_up_at.trans ?_)))
        exact ha
      · exact (ax_up_of (by decide)).trans ((hd0 _ _ rfl).trans ax_up_at)
      · show -1000000 * (0 : Int) - 8 ≤ (if kd < 2 then (-1 : Int) else 0) ∧ (if kd < 2 then (-1 : Int) else 0) ≤ 1000000 * (0 : Int) + 8
        split <;> decide
    have hc7 : RC (ax_up (ax_up M3 142 7 0) 142 8 (-1)) c := ⟨(ax_up_of (by decide)).trans ((ax_up_of (by decide)).trans hc.1), fun j hj => (ax_up2n (by decide)).trans ((ax_up2n (by decide)).trans (hc.2 j hj))⟩
    refine g3 hC rfl rfl ?_
    refine g3 hC rfl rfl ?_
    refine g19 hC rfl sh142 (flt12 rfl) ft12_5 hb5 ?_
    refine g20s hC rfl sh142 (flt12 rfl) (by rw [fy12_7]; rfl) hS rfl (fun hS => ?_)
    refine g3 hC rfl rfl ?_
    refine g3 hC rfl rfl ?_
    refine g19 hC rfl sh142 (flt12 rfl) ft12_6 ((ax_up_of (by decide)).trans hb6) ?_
    refine g20s hC rfl sh142 (flt12 rfl) (by rw [fy12_8]; rfl) hS rfl (fun hS => ?_)
    refine g3 hC rfl rfl ?_
    refine g19 hC rfl sh142 (flt12 rfl) ft12_5 ((ax_up_of (by decide)).trans ((ax_up_of (by decide)).trans hb5)) ?_
    refine g12e hC rfl (fun h73 => ?_) (fun h73 => (by omega))
    refine g3 hC rfl rfl ?_
    refine g3 hC rfl rfl ?_
    refine g0 hC rfl ?_
    refine g13g hC rfl (fun h79 => ?_) (fun h79 => ?_)
    ·
      refine g1 hC rfl ?_
      exact go _ _ hS hc7 ((ax_up_of (by decide)).trans ((ax_up_of (by decide)).trans e1)) ((ax_up_of (by decide)).trans ax_up_at) ax_up_at (by rw [if_neg (by omega)])
    ·
      refine g1 hC rfl ?_
      refine g14 hC rfl ?_
      exact go _ _ hS hc7 ((ax_up_of (by decide)).trans ((ax_up_of (by decide)).trans e1)) ((ax_up_of (by decide)).trans ax_up_at) ax_up_at (by rw [if_pos (by omega)])
  have t51 : ∀ (M3 : ax_M) (F : PRs), Sb XASK M M3 → M3 142 1 = 0 → ¬ fnd T n q0 0 qst = -1 → F = (if fnd T n q0 0 qst ≤ 2 then tsL T n 2 6 (nx T n q0) else smL T n 2 6 (nx T n q0)) → ((∃ f p, F = .inl (f, p) ∧ BT f p M3) ∨ ∃ q' c, F = .inr (q', c) ∧ RSt T n 2 q' c [] 0 0 M3) → ax_G L X SH 12 291 51 [(2, 142), (0, fnd T n q0 0 qst), (3, 0)] [] M3 (R1 1 P) := by
    intro M3 F hS e1 hne hFe hr
    have hfb := fnd_b (T := T) (n := n) (q := q0) (ws := qst) 0
    rcases hr with ⟨f, p, e, hb⟩ | ⟨q1, c, e, hs⟩
    · have ea : askF T n = .inl (f, p) := by rw [eA, if_neg hne, ← hFe, e]
      have hbb := hb.bad
      refine g3 hC rfl rfl ?_
      refine g19 hC rfl sh142 (flt12 rfl) ft12_5 (Eq.refl (M3 142 5)) ?_
      refine g12n hC rfl (fun h53 => ?_) (fun h53 => (by omega))
      exact tF M3 f p _ _ hS e1 ea hb.2 hb.1
    · have hqn1 := hs.2.2.2.2.2.2.2.1
      have hke := lkE (T := T) (n := n) (q := q1)
      have hk0 := kd_0 (T := T) (n := n) (q := q1)
      by_cases z : kd T n q1 = 0
      · have ea : askF T n = .inr ((fnd T n q0 0 qst).toNat, c) := by rw [eA, if_neg hne, ← hFe, e]; exact if_pos z
        have hlk : lk T n q1 = -1 := hke.2 (Or.inl (hk0.1 z))
        have e5 : fnd T n q0 0 qst = (((fnd T n q0 0 qst).toNat : Nat) : Int) := by omega
        refine g3 hC rfl rfl ?_
        refine g19 hC rfl sh142 (flt12 rfl) ft12_5 hs.1.2.2.2.2.1 ?_
        refine g12n hC rfl (fun h53 => (by omega)) (fun h53 => ?_)
        refine g3 hC rfl rfl ?_
        refine c1 hC rfl rfl rfl (Nat.le_of_ble_eq_true rfl) (Nat.le_of_ble_eq_true rfl) (mayR k159 rfl) (m159 (hS.fix hw hF) hn hs.1 hqn1) (Nat.le_of_ble_eq_true rfl) (fun x M2 hr => ?_)
        obtain ⟨rfl, hr0, hr1⟩ := hr
        refine g0 hC rfl ?_
        refine g13e hC rfl (fun h57 => ?_) (fun h57 => (by omega))
        have key := tV M2 _ c (hS.then hr0 rfl) ((hr0 _ _ rfl).trans e1) ea (hs.2.1.sb hr0 rfl (fun _ => rfl)) ((hr0 _ _ rfl).trans hs.1.2.2.2.2.1) ((hr0 _ _ rfl).trans hs.1.2.2.2.2.2)
        rw [← e5] at key
        exact key
      · have ea : askF T n = .inl (1, (q1.1 : Int)) := by rw [eA, if_neg hne, ← hFe, e]; exact if_neg z
        have hlt : q1.1 < n := by
          rcases Nat.lt_or_ge q1.1 n with y | y
          · exact y
          · exact absurd (hk0.2 y) z
        have hlk : ¬ lk T n q1 = -1 := by
          unfold lk; rw [if_pos hlt]; have := hB q1.1 (by omega); omega
        refine g3 hC rfl rfl ?_
        refine g19 hC rfl sh142 (flt12 rfl) ft12_5 hs.1.2.2.2.2.1 ?_
        refine g12n hC rfl (fun h53 => (by omega)) (fun h53 => ?_)
        refine g3 hC rfl rfl ?_
        refine c1 hC rfl rfl rfl (Nat.le_of_ble_eq_true rfl) (Nat.le_of_ble_eq_true rfl) (mayR k159 rfl) (m159 (hS.fix hw hF) hn hs.1 hqn1) (Nat.le_of_ble_eq_true rfl) (fun x M2 hr => ?_)
        obtain ⟨rfl, hr0, hr1⟩ := hr
        refine g0 hC rfl ?_
        refine g13e hC rfl (fun h57 => (by omega)) (fun h57 => ?_)
        refine g3 hC rfl rfl ?_
        refine g0 hC rfl ?_
        refine g3 hC rfl rfl ?_
        refine g19 hC rfl sh142 (flt12 rfl) ft12_2 hr1 ?_
        refine c0 hC rfl rfl rfl (Nat.le_of_ble_eq_true rfl) (Nat.le_of_ble_eq_true rfl) (mayR k156 rfl) (m156 ((hr0 _ _ rfl).trans hs.1.2.2.2.2.1)) (Nat.le_of_ble_eq_true rfl) (fun M4 hr => ?_)
        replace hr := hr.symm; subst hr
        exact tF _ 1 _ _ _ (((hS.then hr0 rfl).up rfl).up rfl) ((ax_up_of (by decide)).trans ((ax_up_of (by decide)).trans ((hr0 _ _ rfl).trans e1))) ea (by decide) BF.up
  have t35 : ∀ (Mi : ax_M), Sb XASK M Mi → Mi 142 1 = 0 → RT T n q0 Mi → Mi 142 53 = 2 → Mi 142 110 = 0 → Mi 142 112 = 0 → Mi 142 113 = 0 → Mi 142 114 = 0 → ax_G L X SH 12 291 34 [(2, 142), (3, 0), (3, 0)] [] Mi (R1 1 P) := by
    intro Mi hS e1 hrt e53 e110 e112 e113 e114
    have hFi := hS.fix hw hF
    have hWi : Wd Mi := hWd.sb hS (by decide +kernel)
    have hfb := fnd_b (T := T) (n := n) (q := q0) (ws := qst) 0
    refine g3 hC rfl rfl ?_
    refine c1 hC rfl rfl rfl (Nat.le_of_ble_eq_true rfl) (Nat.le_of_ble_eq_true rfl) (mayR k289 rfl) (m289 hFi hn hrt hwq hWi) (Nat.le_of_ble_eq_true rfl) (fun x M2 hr => ?_)
    obtain ⟨hr0, hr1⟩ := hr; have hS2 := hS.then hr0 rfl
    refine s1 hC rfl rfl rfl ?_
    have e21 : M2 142 1 = 0 := (hr0 _ _ rfl).trans e1
    rcases hr1 with ⟨hf, rfl, hb⟩ | ⟨hne, rfl, hrt2⟩
    · have ea : askF T n = .inl (1, (q0.1 : Int)) := by rw [eA, if_pos hf]
      refine g3 hC rfl rfl ?_
      refine g19 hC rfl sh142 (flt12 rfl) ft12_5 hb.1 ?_
      refine g12n hC rfl (fun _ => ?_) (fun z => absurd (by decide) z)
      refine g3 hC rfl rfl ?_
      refine g19 hC rfl sh142 (flt12 rfl) ft12_5 hb.1 ?_
      refine g12n hC rfl (fun _ => ?_) (fun z => absurd (by decide) z)
      refine g3 hC rfl rfl ?_
      refine g19 hC rfl sh142 (flt12 rfl) ft12_5 hb.1 ?_
      refine g12n hC rfl (fun _ => ?_) (fun z => absurd (by decide) z)
      exact tF M2 1 _ _ _ hS2 e21 ea (by decide) hb
    · have hb5 := hrt2.2.2.2.2.1
      have hw2 := wq_nx (T := T) hqn
      have hst : RSt T n 2 (nx T n q0) [] [] 0 0 M2 := ⟨hrt2, ⟨(hr0 _ _ rfl).trans e110, fun i hi => absurd hi (Nat.not_lt_zero i)⟩, ⟨(hr0 _ _ rfl).trans e112, fun i hi => absurd hi (Nat.not_lt_zero i)⟩, (hr0 _ _ rfl).trans e113, (hr0 _ _ rfl).trans e114, (hr0 _ _ rfl).trans e53, Nat.zero_le _, hw2⟩
      have hEn : Env n 2 M2 := ⟨hn, by decide, hS2.fix hw hF, hWi.sb hr0 rfl⟩
      have e6 : (qst.length : Int) = 6 := rfl
      refine g3 hC rfl rfl ?_
      refine g19 hC rfl sh142 (flt12 rfl) ft12_5 hb5 ?_
      refine g12n hC rfl (fun z => absurd rfl z) (fun _ => ?_)
      refine g3 hC rfl rfl ?_
      refine g0 hC rfl ?_
      refine g13g hC rfl (fun z => ?_) (fun z => ?_)
      · refine g3 hC rfl rfl ?_
        refine g19 hC rfl sh142 (flt12 rfl) ft12_5 hb5 ?_
        refine g12n hC rfl (fun z => absurd rfl z) (fun _ => ?_)
        refine g3 hC rfl rfl ?_
        refine c0 hC rfl rfl rfl (Nat.le_of_ble_eq_true rfl) (Nat.le_of_ble_eq_true rfl) (mayR k276 rfl) (m276 hEn hst (by decide) (by decide)) (Nat.le_of_ble_eq_true rfl) (fun M3 hr => ?_)
        refine t51 M3 _ (hS2.then hr.1 rfl) ?_ hne (by rw [if_neg (by omega)]) ?_
        · exact (hr.1 _ _ rfl).trans e21
        · rcases hr.2 with ⟨f, p, e, y⟩ | ⟨q', c, e, y⟩
          · exact Or.inl ⟨f, p, e, y.1, y.2.1⟩
          · exact Or.inr ⟨q', c, e, y⟩
      · refine g3 hC rfl rfl ?_
        refine c0 hC rfl rfl rfl (Nat.le_of_ble_eq_true rfl) (Nat.le_of_ble_eq_true rfl) (mayR k280 rfl) (m280 hEn hst) (Nat.le_of_ble_eq_true rfl) (fun M3 hr => ?_)
        refine g14 hC rfl ?_
        refine t51 M3 _ (hS2.then hr.1 rfl) ?_ hne (by rw [if_pos (by omega)]) ?_
        · exact (hr.1 _ _ rfl).trans e21
        · rcases hr.2 with ⟨f, p, e, y⟩ | ⟨q', c, e, y⟩
          · exact Or.inl ⟨f, p, e, y⟩
          · exact Or.inr ⟨q', c, e, y⟩
  have hS : Sb XASK M M := Sb.refl
  refine g3 hC rfl rfl ?_
  refine g3 hC rfl rfl ?_
  refine g19 hC rfl sh142 (flt12 rfl) ft12_1 hl1 ?_
  refine g20s hC rfl sh142 (flt12 rfl) (by rw [fy12_3]; rfl) hS rfl (fun hS => ?_)
  refine g3 hC rfl rfl ?_
  refine g0 hC rfl ?_
  refine g20s hC rfl sh142 (flt12 rfl) (by rw [fy12_1]; rfl) hS rfl (fun hS => ?_)
  refine g3 hC rfl rfl ?_
  refine g0 hC rfl ?_
  refine g20s hC rfl sh142 (flt12 rfl) (by rw [fy12_2]; rfl) hS rfl (fun hS => ?_)
  refine g3 hC rfl rfl ?_
  refine g0 hC rfl ?_
  refine g20s hC rfl sh142 (flt12 rfl) (by rw [fy12_4]; rfl) hS rfl (fun hS => ?_)
  refine g3 hC rfl rfl ?_
  refine g0 hC rfl ?_
  refine g20s hC rfl sh142 (flt12 rfl) (by rw [fy12_5]; rfl) hS rfl (fun hS => ?_)
  refine g3 hC rfl rfl ?_
  refine g0 hC rfl ?_
  refine g20s hC rfl sh142 (flt12 rfl) (by rw [fy12_6]; rfl) hS rfl (fun hS => ?_)
  refine g3 hC rfl rfl ?_
  refine g0 hC rfl ?_
  refine g20s hC rfl sh142 (flt12 rfl) (by rw [fy12_53]; rfl) hS rfl (fun hS => ?_)
  refine g3 hC rfl rfl ?_
  refine g0 hC rfl ?_
  refine g20s hC rfl sh142 (flt12 rfl) (by rw [fy12_110]; rfl) hS rfl (fun hS => ?_)
  refine g3 hC rfl rfl ?_
  refine g0 hC rfl ?_
  refine g20s hC rfl sh142 (flt12 rfl) (by rw [fy12_112]; rfl) hS rfl (fun hS => ?_)
  refine g3 hC rfl rfl ?_
  refine g0 hC rfl ?_
  refine g20s hC rfl sh142 (flt12 rfl) (by rw [fy12_113]; rfl) hS rfl (fun hS => ?_)
  refine g3 hC rfl rfl ?_
  refine g0 hC rfl ?_
  refine g20s hC rfl sh142 (flt12 rfl) (by rw [fy12_114]; rfl) hS rfl (fun hS => ?_)
  refine t35 _ hS rfl ?_ rfl rfl rfl rfl rfl
  rw [hq0]
  refine ⟨rfl, ⟨0, rfl, Nat.zero_le _, rfl⟩, ⟨?_, ?_⟩, fun i hi => hT i hi, rfl, rfl⟩
  · show (-1 : Int) ≤ ((rn isBb T n 0 : Nat) : Int); omega
  · show (-1 : Int) = ((rn isBb T n 0 : Nat) : Int) ↔ false = true
    constructor
    · intro z; omega
    · intro z; cases z
theorem op33 {n : Nat} (hR0 : Rel n M) (hWd : Wd M) : OP L X n 1 133 291 [(2, 0)] [(2, 142)] M := by
  have hR := hR0
  obtain ⟨h, hh, hF, hG⟩ := hR
  have hG0 := hG
  obtain ⟨hW, hSW, hPW, hRV, hGT, hGN, hGM, hGH, hGS, hGX⟩ := hG
  have hV : HV M h M := HV.refl
  have hH3 : M 0 3 = (h : Int) := hGX.1.1
  have ht := hGT.1
  obtain ⟨m, hm⟩ : ∃ m : Nat, M 1 1 = (m : Int) := ⟨(M 1 1).toNat, by omega⟩
  refine OP.tw (d' := 12) (m133 (n := m) hF hh hW hSW hPW hH3 (by omega) hm) (Q := fun x M1 y M2 => Sb XASK M1 M2 ∧ M2 142 1 = 0 ∧ ((∃ f p, askF (M 2) m = .inl (f, p) ∧ y = NOTH ∧ M2 142 7 = f ∧ M2 142 8 = p) ∨ ∃ kd c, askF (M 2) m = .inr (kd, c) ∧ y = ansV M h kd c ∧ M2 142 7 = 0 ∧ M2 142 8 = -1)) (fun x M1 hx => ?_) (fun x M1 y M2 hx hy => ?_) (by decide) (by decide)
  · have hs := hx.1
    exact m291 (V := M) (h := h) (T := M 2) (hs.fix (by decide +kernel) hF) (hRV.sb hs (rokB (by decide +kernel))) hW hSW hPW (hWd.sb hs (by decide +kernel)) (by omega) ((hs 142 1 rfl).trans (ht.2.2.trans hm)) (fun i hi => (hs 143 i rfl).trans (hGT.2.1 i hi).1) (fun i hi => (hGT.2.1 i hi).2.1) ((hs 142 69 rfl).trans hGX.2.2.1.1) ((hs 142 70 rfl).trans hGX.2.2.1.2)
  · obtain ⟨hs1, hx2, hx3⟩ := hx
    obtain ⟨hs2, hy2, hy3⟩ := hy
    have hT : Sb WXA M M2 := (hs1.mono rfl).then hs2 rfl
    have fin : ∀ f p, CF f p M1 → M2 142 7 = f → M2 142 8 = p → Rel (n + 1) M2 := by
      intro f p hc e7 e8
      refine ⟨h, hh, hT.fix (by decide +kernel) hF, hG0.re hh hT (by decide +kernel) (Or.inl (by decide +kernel)) (Or.inl (by decide +kernel)) (Or.inl (by decide +kernel)) (Or.inr ?_) (Or.inl ⟨by decide +kernel, by omega⟩) (Or.inl (by decide +kernel)) (Or.inl (by decide +kernel)) (Or.inl (by decide +kernel)) (Or.inl (by decide +kernel))⟩
      have e11 : M2 1 1 = 0 := (hs2 1 1 rfl).trans hx2
      refine ⟨⟨by omega, by omega, by omega⟩, fun i hi => ?_, ?_, ?_⟩
      · rw [hT 143 i rfl, hT 2 i rfl]; exact hGT.2.1 i hi
      · rw [e7, hs2 1 8 rfl]; exact hc.1.symm
      · rw [e8, hs2 1 9 rfl]; exact hc.2.symm
    rcases hx3 with ⟨f, p, e, rfl, hc⟩ | ⟨kd, c, e, rfl, hc⟩
    · rcases hy3 with ⟨f', p', e', y1, y2, y3⟩ | ⟨kd, c, e', _⟩
      · rw [e] at e'; cases e'
        exact ⟨y1, fin f p hc y2 y3⟩
      · rw [e] at e'; cases e'
    · rcases hy3 with ⟨f', p', e', _⟩ | ⟨kd', c', e', y1, y2, y3⟩
      · rw [e] at e'; cases e'
      · rw [e] at e'; cases e'
        exact ⟨y1, fin 0 (-1) hc y2 y3⟩
end ASQ
