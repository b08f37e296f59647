def XFO : ax_W := ([(228, 230)], [(142, 2), (142, 4), (142, 5), (142, 6), (142, 110), (142, 112), (142, 113), (142, 114)])
def XCD : ax_W := ([(228, 229)], [(142, 110)])
def XOP : ax_W := ([(229, 230)], [(142, 112), (142, 113)])
def XDP : ax_W := ([(228, 229)], [(142, 110), (142, 112)])
def qwl : List (List Int) := [w_pace, w_bag, w_drill, w_minute, w_crowd, w_other, w_long, w_number, w_post, w_out, w_signed, w_meets]
def alw (k : Nat) (j : Int) : Prop := j < 3 ∨ (k = 0 ∧ j < 5) ∨ (k = 1 ∧ 5 ≤ j ∧ j ≤ 6) ∨ (k = 2 ∧ 6 < j)
def RC (M : ax_M) (C : List Int) : Prop := M 142 110 = (C.length : Int) ∧ ∀ i, i < C.length → M 228 i = C.getD i 0
def RY (M : ax_M) (Y : List Int) : Prop := M 142 112 = (Y.length : Int) ∧ ∀ i, i < Y.length → M 229 i = Y.getD i 0
section RFA
variable {L : Nat} {X : Nat → Int} {M M1 : ax_M} {T : Nat → Int} {n k : Nat} {q : PS} {C Y : List Int}
theorem apl {u v : List Int} {i : Nat} (h : i < u.length) : (u ++ v).getD i 0 = u.getD i 0 := by
  rw [List.getD_eq_getElem?_getD, List.getD_eq_getElem?_getD, List.getElem?_append_left h]
theorem apr {u v : List Int} {i : Nat} (h : u.length ≤ i) : (u ++ v).getD i 0 = v.getD (i - u.length) 0 := by
  rw [List.getD_eq_getElem?_getD, List.getD_eq_getElem?_getD, List.getElem?_append_right h]
theorem m263 (hc : RC M C) (hl : C.length < 1700) (hF : Fix M) {v : Int} : ax_Ev L X SH 0 263 [(2, 142), (0, v)] M (R0 (fun M' => Sb XCD M M' ∧ RC M' (C ++ [v]))) := by
  show ax_G L X SH 0 263 0 [(2, 142), (0, v)] [] M _
  have hC := at263
  have hw : wok XCD = true := by decide +kernel
  have hS : Sb XCD M M := Sb.refl
  refine g3 hC rfl rfl ?_
  refine g19 hC rfl sh142 (flt12 rfl) ft12_109 ((hS.fix hw hF).g fx_142_109) ?_
  refine g3 hC rfl rfl ?_
  refine g19 hC rfl sh142 (flt12 rfl) ft12_110 hc.1 ?_
  refine g3 hC rfl rfl ?_
  refine r22s (C.length) hC rfl (by omega) sh228 (by omega) rfl hS rfl (fun hS => ?_)
  refine g3 hC rfl rfl ?_
  refine g16 hC rfl (by decide) ?_
  refine g19 hC rfl sh142 (flt12 rfl) ft12_110 ((ax_up2n (by decide)).trans hc.1) ?_
  refine g0 hC rfl ?_
  refine g6a hC rfl ⟨by omega, by omega⟩ ?_
  refine g20s hC rfl sh142 (flt12 rfl) (by rw [fy12_110]; rfl) hS rfl (fun hS => ?_)
  refine ret0 hC rfl ?_
  refine ⟨hS, ?_, fun i hi => ?_⟩
  · rw [ax_up_at, List.length_append]; show _ = ((C.length + 1 : Nat) : Int); omega
  · rw [List.length_append] at hi
    have hi : i < C.length + 1 := hi
    rw [ax_up2n (by decide), ax_upf]; unfold up
    by_cases z : i = C.length
    · rw [if_pos z, z, apd2]
    · rw [if_neg z, apd1 (by omega)]; exact hc.2 i (by omega)
theorem m263x (h : 0 ≤ M 142 110 ∧ M 142 110 < 1690) (hF : Fix M) {v : Int} : ax_Ev L X SH 0 263 [(2, 142), (0, v)] M (R0 (fun M' => Sb XCD M M' ∧ M' 142 110 = M 142 110 + 1)) := by
  show ax_G L X SH 0 263 0 [(2, 142), (0, v)] [] M _
  have hC := at263
  have hw : wok XCD = true := by decide +kernel
  have hS : Sb XCD M M := Sb.refl
  obtain ⟨m, hm⟩ : ∃ m : Nat, M 142 110 = (m : Int) := ⟨(M 142 110).toNat, by omega⟩
  refine g3 hC rfl rfl ?_
  refine g19 hC rfl sh142 (flt12 rfl) ft12_109 ((hS.fix hw hF).g fx_142_109) ?_
  refine g3 hC rfl rfl ?_
  refine g19 hC rfl sh142 (flt12 rfl) ft12_110 hm ?_
  refine g3 hC rfl rfl ?_
  refine r22s (m) hC rfl (by omega) sh228 (by omega) rfl hS rfl (fun hS => ?_)
  refine g3 hC rfl rfl ?_
  refine g16 hC rfl (by decide) ?_
  refine g19 hC rfl sh142 (flt12 rfl) ft12_110 ((ax_up2n (by decide)).trans hm) ?_
  refine g0 hC rfl ?_
  refine g6a hC rfl ⟨by omega, by omega⟩ ?_
  refine g20s hC rfl sh142 (flt12 rfl) (by rw [fy12_110]; rfl) hS rfl (fun hS => ?_)
  refine ret0 hC rfl ?_
  exact ⟨hS, by rw [ax_up_at, hm]⟩
theorem RY.push {v : Int} (h : RY M Y) (h1 : M1 142 112 = (Y.length : Int) + 1) (h2 : ∀ i, M1 229 i = if i = Y.length then v else M 229 i) : RY M1 (Y ++ [v]) := by
  refine ⟨?_, fun i hi => ?_⟩
  · rw [h1, List.length_append]; show _ = ((Y.length + 1 : Nat) : Int); omega
  · rw [List.length_append] at hi
    have hi : i < Y.length + 1 := hi
    rw [h2 i]
    by_cases z : i = Y.length
    · rw [if_pos z, z, apd2]
    · rw [if_neg z, apd1 (by omega)]; exact h.2 i (by omega)
theorem m264 (hb : M 142 5 = 0) (hy : RY M Y) (hl : Y.length < 1700) (hF : Fix M) {op : Nat} (ho : M 142 113 = (op : Int)) (ho6 : op ≤ 6) {v p : Int} : ax_Ev L X SH 1 264 [(2, 142), (0, v), (0, p)] M (R0 (fun M' => (op = 6 ∧ M' = ax_up (ax_up M 142 5 4) 142 6 p) ∨ (op < 6 ∧ Sb XOP M M' ∧ RY M' (Y ++ [v]) ∧ M' 142 113 = ((op + 1 : Nat) : Int)))) := by
  show ax_G L X SH 1 264 0 [(2, 142), (0, v), (0, p)] [] M _
  have hC := at264
  have hw : wok XOP = true := by decide +kernel
  have hS : Sb XOP M M := Sb.refl
  refine g3 hC rfl rfl ?_
  refine g19 hC rfl sh142 (flt12 rfl) ft12_5 hb ?_
  refine g12e hC rfl (fun h2 => ?_) (fun h2 => (by omega))
  refine g3 hC rfl rfl ?_
  refine g19 hC rfl sh142 (flt12 rfl) ft12_113 ho ?_
  refine g0 hC rfl ?_
  refine g13n hC rfl (fun h7 => ?_) (fun h7 => ?_)
  ·
    refine g3 hC rfl rfl ?_
    refine g16 hC rfl (by decide) ?_
    refine g19 hC rfl sh142 (flt12 rfl) ft12_113 ho ?_
    refine g0 hC rfl ?_
    refine g6a hC rfl ⟨by omega, by omega⟩ ?_
    refine g20s hC rfl sh142 (flt12 rfl) (by rw [fy12_113]; rfl) hS rfl (fun hS => ?_)
    refine g3 hC rfl rfl ?_
    refine g19 hC rfl sh142 (flt12 rfl) ft12_111 ((hS.fix hw hF).g fx_142_111) ?_
    refine g3 hC rfl rfl ?_
    refine g19 hC rfl sh142 (flt12 rfl) ft12_112 ((ax_up_of (by decide)).trans hy.1) ?_
    refine g3 hC rfl rfl ?_
    refine r22s (Y.length) hC rfl rfl sh229 (by omega) rfl hS rfl (fun hS => ?_)
    refine g3 hC rfl rfl ?_
    refine g16 hC rfl (by decide) ?_
    refine g19 hC rfl sh142 (flt12 rfl) ft12_112 ((ax_up2n (by decide)).trans ((ax_up_of (by decide)).trans hy.1)) ?_
    refine g0 hC rfl ?_
    refine g6a hC rfl ⟨by omega, by omega⟩ ?_
    refine g20s hC rfl sh142 (flt12 rfl) (by rw [fy12_112]; rfl) hS rfl (fun hS => ?_)
    refine ret0 hC rfl ?_
    refine Or.inr ⟨by omega, hS, ?_, ?_⟩
    · have h0 : RY (ax_up M 142 113 ((op : Int) + 1)) Y := ⟨(ax_up_of (by decide)).trans hy.1, fun i hi => (ax_up2n (by decide)).trans (hy.2 i hi)⟩
      refine h0.push ax_up_at (fun i => ?_)
      rw [ax_up2n (by decide), ax_upf]; rfl
    · rw [ax_up_of (by decide), ax_up2n (by decide), ax_up_at]; omega
  ·
    refine g3 hC rfl rfl ?_
    refine g0 hC rfl ?_
    refine g3 hC rfl rfl ?_
    refine c0 hC rfl rfl rfl (Nat.le_of_ble_eq_true rfl) (Nat.le_of_ble_eq_true rfl) (mayR k156 rfl) (m156 hb) (Nat.le_of_ble_eq_true rfl) (fun M2 hr => ?_)
    replace hr := hr.symm; subst hr
    refine ret0 hC rfl ?_
    exact Or.inl ⟨by omega, rfl⟩
theorem m264b (hb : ¬ M 142 5 = 0) {v p : Int} : ax_Ev L X SH 1 264 [(2, 142), (0, v), (0, p)] M (R0 (fun M' => M' = M)) := by
  show ax_G L X SH 1 264 0 [(2, 142), (0, v), (0, p)] [] M _
  have hC := at264
  refine g3 hC rfl rfl ?_
  refine g19 hC rfl sh142 (flt12 rfl) ft12_5 (Eq.refl (M 142 5)) ?_
  refine g12e hC rfl (fun h2 => (by omega)) (fun h2 => ?_)
  refine ret0 hC rfl ?_
  rfl
theorem m265 (hy : RY M Y) (hl : Y.length ≤ 1700) (hF : Fix M) {v : Int} : ax_Ev L X SH 0 265 [(2, 142), (0, v)] M (R1 0 (fun x M' => ((0 < Y.length ∧ Y.getD (Y.length - 1) 0 = v ∧ x = 1) ∨ (¬ (0 < Y.length ∧ Y.getD (Y.length - 1) 0 = v) ∧ x = 0)) ∧ M' = M)) := by
  show ax_G L X SH 0 265 0 [(2, 142), (0, v)] [] M _
  have hC := at265
  have hw : wok XOP = true := by decide +kernel
  have hS : Sb XOP M M := Sb.refl
  refine g3 hC rfl rfl ?_
  refine g19 hC rfl sh142 (flt12 rfl) ft12_112 hy.1 ?_
  refine g12s hC rfl (fun h2 => ?_) (fun h2 => ?_)
  ·
    refine g0 hC rfl ?_
    refine ret3 hC rfl ⟨by omega, by omega⟩ ?_
    exact ⟨Or.inr ⟨fun z => by omega, rfl⟩, rfl⟩
  ·
    refine g3 hC rfl rfl ?_
    refine g19 hC rfl sh142 (flt12 rfl) ft12_111 ((hS.fix hw hF).g fx_142_111) ?_
    refine g3 hC rfl rfl ?_
    refine g19 hC rfl sh142 (flt12 rfl) ft12_112 hy.1 ?_
    refine g0 hC rfl ?_
    refine g6s hC rfl ⟨by omega, by omega⟩ ?_
    refine r21 (Y.length - 1) hC rfl (by omega) sh229 (Or.inl rfl) (by omega) (hy.2 _ (by omega)) ?_
    refine g3 hC rfl rfl ?_
    refine g13n hC rfl (fun h11 => ?_) (fun h11 => ?_)
    ·
      refine g0 hC rfl ?_
      refine ret3 hC rfl ⟨by omega, by omega⟩ ?_
      exact ⟨Or.inr ⟨fun z => h11 z.2, rfl⟩, rfl⟩
    ·
      refine g0 hC rfl ?_
      refine g14 hC rfl ?_
      refine ret3 hC rfl ⟨by omega, by omega⟩ ?_
      exact ⟨Or.inl ⟨by omega, by omega, rfl⟩, rfl⟩
theorem RY.pop {t : Int} (h : RY M (Y ++ [t])) (h1 : M1 142 112 = (Y.length : Int)) (h2 : ∀ i, M1 229 i = M 229 i) : RY M1 Y := ⟨h1, fun i hi => by rw [h2 i, h.2 i (by rw [List.length_append]; omega), apd1 hi]⟩
theorem m266 {t : Int} (hy : RY M (Y ++ [t])) (hl : Y.length < 1700) (hc : RC M C) (hcl : C.length < 1700) (hF : Fix M) : ax_Ev L X SH 1 266 [(2, 142)] M (R0 (fun M' => Sb XDP M M' ∧ RY M' Y ∧ RC M' (C ++ [t]))) := by
  show ax_G L X SH 1 266 0 [(2, 142)] [] M _
  have hC := at266
  have hw : wok XDP = true := by decide +kernel
  have hS : Sb XDP M M := Sb.refl
  have hy1 : M 142 112 = ((Y.length + 1 : Nat) : Int) := by rw [hy.1, List.length_append]; rfl
  have hyt : M 229 Y.length = t := by rw [hy.2 _ (by rw [List.length_append]; show Y.length < Y.length + 1; omega), apd2]
  have hc2 : RC (ax_up M 142 112 (((Y.length + 1 : Nat) : Int) - 1)) C := ⟨(ax_up_of (by decide)).trans hc.1, fun i hi => (ax_up2n (by decide)).trans (hc.2 i hi)⟩
  refine g3 hC rfl rfl ?_
  refine g16 hC rfl (by decide) ?_
  refine g19 hC rfl sh142 (flt12 rfl) ft12_112 hy1 ?_
  refine g0 hC rfl ?_
  refine g6s hC rfl ⟨by omega, by omega⟩ ?_
  refine g20s hC rfl sh142 (flt12 rfl) (by rw [fy12_112]; rfl) hS rfl (fun hS => ?_)
  refine g3 hC rfl rfl ?_
  refine g3 hC rfl rfl ?_
  refine g19 hC rfl sh142 (flt12 rfl) ft12_111 ((hS.fix hw hF).g fx_142_111) ?_
  refine g3 hC rfl rfl ?_
  refine g19 hC rfl sh142 (flt12 rfl) ft12_112 ax_up_at ?_
  refine r21 (Y.length) hC rfl (by omega) sh229 (Or.inl rfl) (by omega) ((ax_up2n (by decide)).trans hyt) ?_
  refine c0 hC rfl rfl rfl (Nat.le_of_ble_eq_true rfl) (Nat.le_of_ble_eq_true rfl) (mayR k263 rfl) (m263 hc2 hcl (hS.fix hw hF)) (Nat.le_of_ble_eq_true rfl) (fun M2 hr => ?_)
  refine ret0 hC rfl ?_
  refine ⟨hS.then hr.1 rfl, ?_, hr.2⟩
  refine hy.pop ?_ (fun i => ?_)
  · rw [hr.1 142 112 rfl, ax_up_at]; omega
  · rw [hr.1 229 i rfl, ax_up2n (by decide)]
def brk (v : Int) : Prop := 20 ≤ v ∧ v ≤ 24
theorem m267 {v : Int} : ax_Ev L X SH 0 267 [(0, v)] M (R1 0 (fun x M' => x = (if 20 ≤ v ∧ v ≤ 24 then 1 else 0) ∧ M' = M)) := by
  show ax_G L X SH 0 267 0 [(0, v)] [] M _
  have hC := at267
  refine g3 hC rfl rfl ?_
  refine g0 hC rfl ?_
  refine g13l hC rfl (fun h2 => ?_) (fun h2 => ?_)
  ·
    refine g0 hC rfl ?_
    refine ret3 hC rfl ⟨by omega, by omega⟩ ?_
    exact ⟨by rw [if_neg (by omega)], rfl⟩
  ·
    refine g3 hC rfl rfl ?_
    refine g0 hC rfl ?_
    refine g13t hC rfl (fun h5 => ?_) (fun h5 => ?_)
    ·
      refine g0 hC rfl ?_
      refine ret3 hC rfl ⟨by omega, by omega⟩ ?_
      exact ⟨by rw [if_neg (by omega)], rfl⟩
    ·
      refine g0 hC rfl ?_
      refine g14 hC rfl ?_
      refine ret3 hC rfl ⟨by omega, by omega⟩ ?_
      exact ⟨by rw [if_pos (by omega)], rfl⟩
theorem m268 {Y0 tl : List Int} {b : Int} {bs : Nat} (hy : RY M (Y0 ++ [b] ++ tl)) (hl : (Y0 ++ [b] ++ tl).length ≤ 1700) (hF : Fix M) (hbs : M 142 114 = (bs : Int)) (hb0 : bs ≤ Y0.length) (hb : brk b) (ht : ∀ i, i < tl.length → ¬ brk (tl.getD i 0)) : ax_Ev L X SH 1 268 [(2, 142)] M (R1 0 (fun x M' => x = b ∧ M' = M)) := by
  show ax_G L X SH 1 268 0 [(2, 142), (3, 0)] [] M _
  have hC := at268
  have hw : wok XOP = true := by decide +kernel
  have hS : Sb XOP M M := Sb.refl
  have el : (Y0 ++ [b] ++ tl).length = Y0.length + 1 + tl.length := by simp <;> omega
  have ev : ∀ i, i < tl.length → M 229 (Y0.length + 1 + i) = tl.getD i 0 := by
    intro i hi
    rw [hy.2 _ (by omega), apr (by simp <;> omega)]
    congr 1
    simp <;> omega
  have eb : M 229 Y0.length = b := by
    rw [hy.2 _ (by omega), apl (by simp), apd2]
  have l1 : ∀ (mm i : Nat), i + mm = tl.length → ∀ ll M2, (ll = [(2, 142), (0, ((Y0.length + (tl.length - i) : Nat) : Int))] ∧ M2 = M) → ax_G L X SH 1 268 5 ll [] M2 (R1 0 (fun x M' => x = b ∧ M' = M)) := by
    refine lp ?_ ?_
    · rintro ll M2 ⟨rfl, rfl⟩
      rw [Nat.sub_self, Nat.add_zero]
      refine g3 hC rfl rfl ?_
      refine g3 hC rfl rfl ?_
      refine g19 hC rfl sh142 (flt12 rfl) ft12_114 hbs ?_
      refine g13l hC rfl (fun h8 => (by omega)) (fun h8 => ?_)
      refine g3 hC rfl rfl ?_
      refine g19 hC rfl sh142 (flt12 rfl) ft12_111 ((hS.fix hw hF).g fx_142_111) ?_
      refine g3 hC rfl rfl ?_
      refine r21 (Y0.length) hC rfl (by omega) sh229 (Or.inl rfl) (by omega) eb ?_
      refine c1 hC rfl rfl rfl (Nat.le_of_ble_eq_true rfl) (Nat.le_of_ble_eq_true rfl) (mayS k267 rfl) (m267) (Nat.le_of_ble_eq_true rfl) (fun x M2 hr => ?_)
      obtain ⟨hx, hr⟩ := hr; replace hr := hr.symm; subst hr; have hx := ite01 hx
      refine g12n hC rfl (fun h14 => ?_) (fun h14 => (by unfold brk at hb; omega))
      refine g3 hC rfl rfl ?_
      refine g3 hC rfl rfl ?_
      refine g19 hC rfl sh142 (flt12 rfl) ft12_114 hbs ?_
      refine g13l hC rfl (fun h20 => (by omega)) (fun h20 => ?_)
      refine g3 hC rfl rfl ?_
      refine g19 hC rfl sh142 (flt12 rfl) ft12_111 ((hS.fix hw hF).g fx_142_111) ?_
      refine g3 hC rfl rfl ?_
      refine r21 (Y0.length) hC rfl (by omega) sh229 (Or.inl rfl) (by omega) eb ?_
      refine g14 hC rfl ?_
      refine ret1 hC rfl rfl ?_
      exact ⟨rfl, rfl⟩
    · rintro i hi ll M2 ⟨rfl, rfl⟩ hnext
      obtain ⟨j, hj⟩ : ∃ j, j = tl.length - i - 1 := ⟨_, rfl⟩
      rw [show Y0.length + (tl.length - i) = Y0.length + 1 + j by omega]
      have evj := ev j (by omega)
      have htj := ht j (by omega)
      unfold brk at htj
      refine g3 hC rfl rfl ?_
      refine g3 hC rfl rfl ?_
      refine g19 hC rfl sh142 (flt12 rfl) ft12_114 hbs ?_
      refine g13l hC rfl (fun h8 => (by omega)) (fun h8 => ?_)
      refine g3 hC rfl rfl ?_
      refine g19 hC rfl sh142 (flt12 rfl) ft12_111 ((hS.fix hw hF).g fx_142_111) ?_
      refine g3 hC rfl rfl ?_
      refine r21 ((Y0.length+1+j)) hC rfl (by omega) sh229 (Or.inl rfl) (by omega) evj ?_
      refine c1 hC rfl rfl rfl (Nat.le_of_ble_eq_true rfl) (Nat.le_of_ble_eq_true rfl) (mayS k267 rfl) (m267) (Nat.le_of_ble_eq_true rfl) (fun x M2 hr => ?_)
      obtain ⟨hx, hr⟩ := hr; replace hr := hr.symm; subst hr; have hx := ite01 hx
      refine g12n hC rfl (fun h14 => (by omega)) (fun h14 => ?_)
      refine n1 hC rfl rfl ⟨by omega, by omega⟩ ?_
      refine g14 hC rfl ?_
      exact hnext _ _ ⟨by rw [show ((Y0.length + 1 + j : Nat) : Int) + -1 = ((Y0.length + (tl.length - (i + 1)) : Nat) : Int) by omega], rfl⟩
  refine g3 hC rfl rfl ?_
  refine g19 hC rfl sh142 (flt12 rfl) ft12_112 hy.1 ?_
  refine g0 hC rfl ?_
  refine g6s hC rfl ⟨by omega, by omega⟩ ?_
  refine s1 hC rfl rfl rfl ?_
  exact l1 tl.length 0 (Nat.zero_add _) _ _ ⟨by rw [el, show ((Y0.length + 1 + tl.length : Nat) : Int) - 1 = ((Y0.length + (tl.length - 0) : Nat) : Int) by omega], rfl⟩
theorem m268n {Y0 tl : List Int} (hy : RY M (Y0 ++ tl)) (hl : (Y0 ++ tl).length ≤ 1700) (hF : Fix M) (hbs : M 142 114 = (Y0.length : Int)) (ht : ∀ i, i < tl.length → ¬ brk (tl.getD i 0)) : ax_Ev L X SH 1 268 [(2, 142)] M (R1 0 (fun x M' => x = -1 ∧ M' = M)) := by
  show ax_G L X SH 1 268 0 [(2, 142), (3, 0)] [] M _
  have hC := at268
  have hw : wok XOP = true := by decide +kernel
  have hS : Sb XOP M M := Sb.refl
  have el : (Y0 ++ tl).length = Y0.length + tl.length := by simp
  have ev : ∀ i, i < tl.length → M 229 (Y0.length + i) = tl.getD i 0 := by
    intro i hi
    rw [hy.2 _ (by omega), apr (by omega)]
    congr 1
    omega
  have l1 : ∀ (mm i : Nat), i + mm = tl.length → ∀ ll M2, (ll = [(2, 142), (0, ((Y0.length + (tl.length - i) : Nat) : Int) - 1)] ∧ M2 = M) → ax_G L X SH 1 268 5 ll [] M2 (R1 0 (fun x M' => x = -1 ∧ M' = M)) := by
    refine lp ?_ ?_
    · rintro ll M2 ⟨rfl, rfl⟩
      refine g3 hC rfl rfl ?_
      refine g3 hC rfl rfl ?_
      refine g19 hC rfl sh142 (flt12 rfl) ft12_114 hbs ?_
      refine g13l hC rfl (fun h8 => ?_) (fun h8 => (by omega))
      refine g3 hC rfl rfl ?_
      refine g3 hC rfl rfl ?_
      refine g19 hC rfl sh142 (flt12 rfl) ft12_114 hbs ?_
      refine g13l hC rfl (fun h20 => ?_) (fun h20 => (by omega))
      refine g0 hC rfl ?_
      refine ret1 hC rfl rfl ?_
      exact ⟨rfl, rfl⟩
    · rintro i hi ll M2 ⟨rfl, rfl⟩ hnext
      obtain ⟨j, hj⟩ : ∃ j, j = tl.length - i - 1 := ⟨_, rfl⟩
      rw [show ((Y0.length + (tl.length - i) : Nat) : Int) - 1 = ((Y0.length + j : Nat) : Int) by omega]
      have evj := ev j (by omega)
      have htj := ht j (by omega)
      unfold brk at htj
      refine g3 hC rfl rfl ?_
      refine g3 hC rfl rfl ?_
      refine g19 hC rfl sh142 (flt12 rfl) ft12_114 hbs ?_
      refine g13l hC rfl (fun h8 => (by omega)) (fun h8 => ?_)
      refine g3 hC rfl rfl ?_
      refine g19 hC rfl sh142 (flt12 rfl) ft12_111 ((hS.fix hw hF).g fx_142_111) ?_
      refine g3 hC rfl rfl ?_
      refine r21 ((Y0.length+j)) hC rfl (by omega) sh229 (Or.inl rfl) (by omega) evj ?_
      refine c1 hC rfl rfl rfl (Nat.le_of_ble_eq_true rfl) (Nat.le_of_ble_eq_true rfl) (mayS k267 rfl) (m267) (Nat.le_of_ble_eq_true rfl) (fun x M2 hr => ?_)
      obtain ⟨hx, hr⟩ := hr; replace hr := hr.symm; subst hr; have hx := ite01 hx
      refine g12n hC rfl (fun h14 => (by omega)) (fun h14 => ?_)
      refine n1 hC rfl rfl ⟨by omega, by omega⟩ ?_
      refine g14 hC rfl ?_
      exact hnext _ _ ⟨by rw [show ((Y0.length + j : Nat) : Int) + -1 = ((Y0.length + (tl.length - (i + 1)) : Nat) : Int) - 1 by omega], rfl⟩
  refine g3 hC rfl rfl ?_
  refine g19 hC rfl sh142 (flt12 rfl) ft12_112 hy.1 ?_
  refine g0 hC rfl ?_
  refine g6s hC rfl ⟨by omega, by omega⟩ ?_
  refine s1 hC rfl rfl rfl ?_
  exact l1 tl.length 0 (Nat.zero_add _) _ _ ⟨by rw [el]; rfl, rfl⟩
theorem m269 {Y0 : List Int} {b : Int} {bs : Nat} (hF : Fix M) (hbs : M 142 114 = (bs : Int)) (hb0 : bs ≤ Y0.length) (hb : brk b) (hl : Y0.length < 1600) : ∀ (m : Nat) (tl C : List Int) (M1 : ax_M), tl.length = m → Sb XDP M M1 → RY M1 (Y0 ++ [b] ++ tl) → RC M1 C → (Y0 ++ [b] ++ tl).length + C.length ≤ 1700 → (∀ i, i < tl.length → ¬ brk (tl.getD i 0)) → ax_G L X SH 2 269 0 [(2, 142)] [] M1 (R0 (fun M' => Sb XDP M M' ∧ RY M' (Y0 ++ [b]) ∧ RC M' (C ++ tl.reverse))) := by
  have hC := at269
  have hw : wok XDP = true := by decide +kernel
  intro m
  induction m with
  | zero =>
    intro tl C M1 ht hS hy hc hlen hn
    have et : tl = [] := List.eq_nil_of_length_eq_zero ht
    subst et
    rw [List.append_nil] at hy hlen
    have el : (Y0 ++ [b]).length = Y0.length + 1 := by simp
    have eb : M1 229 Y0.length = b := by rw [hy.2 _ (by omega), apd2]
    refine g3 hC rfl rfl ?_
    refine g19 hC rfl sh142 (flt12 rfl) ft12_112 hy.1 ?_
    refine g3 hC rfl rfl ?_
    refine g19 hC rfl sh142 (flt12 rfl) ft12_114 ((hS _ _ rfl).trans hbs) ?_
    refine g13s hC rfl (fun h4 => (by omega)) (fun h4 => ?_)
    refine g3 hC rfl rfl ?_
    refine g19 hC rfl sh142 (flt12 rfl) ft12_111 ((hS.fix hw hF).g fx_142_111) ?_
    refine g3 hC rfl rfl ?_
    refine g19 hC rfl sh142 (flt12 rfl) ft12_112 hy.1 ?_
    refine g0 hC rfl ?_
    refine g6s hC rfl ⟨by omega, by omega⟩ ?_
    refine r21 (Y0.length) hC rfl (by omega) sh229 (Or.inl rfl) (by omega) eb ?_
    refine c1 hC rfl rfl rfl (Nat.le_of_ble_eq_true rfl) (Nat.le_of_ble_eq_true rfl) (mayS k267 rfl) (m267) (Nat.le_of_ble_eq_true rfl) (fun x M2 hr => ?_)
    obtain ⟨hx, hr⟩ := hr; replace hr := hr.symm; subst hr; have hx := ite01 hx
    refine g12n hC rfl (fun h13 => ?_) (fun h13 => (by unfold brk at hb; omega))
    refine ret0 hC rfl ?_
    exact ⟨hS, hy, by rw [List.reverse_nil, List.append_nil]; exact hc⟩
  | succ m ih =>
    intro tl C M1 ht hS hy hc hlen hn
    obtain ⟨t0, t, et⟩ : ∃ t0 t, tl = t0 ++ [t] := ⟨tl.dropLast, tl.getLast (by intro z; rw [z] at ht; cases ht), (List.dropLast_concat_getLast _).symm⟩
    subst et
    rw [List.length_append] at ht
    have ht : t0.length = m := by have : t0.length + 1 = m + 1 := ht; omega
    rw [← List.append_assoc] at hy hlen
    have el : (Y0 ++ [b] ++ t0 ++ [t]).length = Y0.length + 1 + t0.length + 1 := by simp <;> omega
    have el2 : (Y0 ++ [b] ++ t0).length = Y0.length + 1 + t0.length := by simp <;> omega
    have eb : M1 229 (Y0 ++ [b] ++ t0).length = t := by rw [hy.2 _ (by omega), apd2]
    have htb : ¬ brk t := by
      have := hn t0.length (by rw [List.length_append]; show t0.length < t0.length + 1; omega)
      rw [apd2] at this; exact this
    unfold brk at htb
    refine g3 hC rfl rfl ?_
    refine g19 hC rfl sh142 (flt12 rfl) ft12_112 hy.1 ?_
    refine g3 hC rfl rfl ?_
    refine g19 hC rfl sh142 (flt12 rfl) ft12_114 ((hS _ _ rfl).trans hbs) ?_
    refine g13s hC rfl (fun h4 => (by omega)) (fun h4 => ?_)
    refine g3 hC rfl rfl ?_
    refine g19 hC rfl sh142 (flt12 rfl) ft12_111 ((hS.fix hw hF).g fx_142_111) ?_
    refine g3 hC rfl rfl ?_
    refine g19 hC rfl sh142 (flt12 rfl) ft12_112 hy.1 ?_
    refine g0 hC rfl ?_
    refine g6s hC rfl ⟨by omega, by omega⟩ ?_
    refine r21 ((Y0 ++ [b] ++ t0).length) hC rfl (by omega) sh229 (Or.inl rfl) (by omega) eb ?_
    refine c1 hC rfl rfl rfl (Nat.le_of_ble_eq_true rfl) (Nat.le_of_ble_eq_true rfl) (mayS k267 rfl) (m267) (Nat.le_of_ble_eq_true rfl) (fun x M2 hr => ?_)
    obtain ⟨hx, hr⟩ := hr; replace hr := hr.symm; subst hr; have hx := ite01 hx
    refine g12n hC rfl (fun h13 => (by omega)) (fun h13 => ?_)
    refine g3 hC rfl rfl ?_
    refine c0 hC rfl rfl rfl (Nat.le_of_ble_eq_true rfl) (Nat.le_of_ble_eq_true rfl) (mayR k266 rfl) (m266 hy (by omega) hc (by omega) (hS.fix hw hF)) (Nat.le_of_ble_eq_true rfl) (fun M2 hr => ?_)
    obtain ⟨hd0, hd1, hd2⟩ := hr
    refine g14 hC rfl ?_
    have key := ih t0 (C ++ [t]) _ ht (hS.then hd0 rfl) hd1 hd2 (by rw [show (C ++ [t]).length = C.length + 1 by simp]; omega) (fun i hi => by have := hn i (by rw [List.length_append]; omega); rw [apd1 hi] at this; exact this)
    rw [List.append_assoc] at key
    rw [List.reverse_append]; exact key
theorem m168 (ht : M 142 53 = (k : Int)) (hk : k ≤ 2) {j : Int} : ax_Ev L X SH 1 168 [(2, 142), (0, j)] M (R1 0 (fun x M' => ((alw k j ∧ x = 1) ∨ (¬ alw k j ∧ x = 0)) ∧ M' = M)) := by
  show ax_G L X SH 1 168 0 [(2, 142), (0, j)] [] M _
  have hC := at168
  unfold alw
  refine g3 hC rfl rfl ?_
  refine g0 hC rfl ?_
  refine g13l hC rfl (fun h2 => ?_) (fun h2 => ?_)
  ·
    refine g0 hC rfl ?_
    refine g14 hC rfl ?_
    refine ret3 hC rfl ⟨by omega, by omega⟩ ?_
    refine ⟨?_, rfl⟩
    omega
  ·
    refine g3 hC rfl rfl ?_
    refine g19 hC rfl sh142 (flt12 rfl) ft12_53 ht ?_
    refine g12n hC rfl (fun h5 => ?_) (fun h5 => ?_)
    ·
      refine g3 hC rfl rfl ?_
      refine g19 hC rfl sh142 (flt12 rfl) ft12_53 ht ?_
      refine g0 hC rfl ?_
      refine g13n hC rfl (fun h13 => ?_) (fun h13 => ?_)
      ·
        refine g3 hC rfl rfl ?_
        refine g0 hC rfl ?_
        refine g13s hC rfl (fun h23 => ?_) (fun h23 => ?_)
        ·
          refine g0 hC rfl ?_
          refine ret3 hC rfl ⟨by omega, by omega⟩ ?_
          refine ⟨?_, rfl⟩
          omega
        ·
          refine g0 hC rfl ?_
          refine g14 hC rfl ?_
          refine ret3 hC rfl ⟨by omega, by omega⟩ ?_
          refine ⟨?_, rfl⟩
          omega
      ·
        refine g3 hC rfl rfl ?_
        refine g9 hC rfl ?_
        refine g1 hC rfl ?_
        refine g1 hC rfl ?_
        refine c1 hC rfl rfl rfl (Nat.le_of_ble_eq_true rfl) (Nat.le_of_ble_eq_true rfl) (mayS k153 rfl) (m153) (Nat.le_of_ble_eq_true rfl) (fun x M2 hr => ?_)
        obtain ⟨hx, hr⟩ := hr; replace hr := hr.symm; subst hr; have hx := ite01 hx
        refine g12e hC rfl (fun h19 => ?_) (fun h19 => ?_)
        ·
          refine g0 hC rfl ?_
          refine ret3 hC rfl ⟨by omega, by omega⟩ ?_
          refine ⟨?_, rfl⟩
          omega
        ·
          refine g14 hC rfl ?_
          refine g0 hC rfl ?_
          refine g14 hC rfl ?_
          refine ret3 hC rfl ⟨by omega, by omega⟩ ?_
          refine ⟨?_, rfl⟩
          omega
    ·
      refine g3 hC rfl rfl ?_
      refine g0 hC rfl ?_
      refine g13g hC rfl (fun h8 => ?_) (fun h8 => ?_)
      ·
        refine g0 hC rfl ?_
        refine ret3 hC rfl ⟨by omega, by omega⟩ ?_
        refine ⟨?_, rfl⟩
        omega
      ·
        refine g14 hC rfl ?_
        refine g0 hC rfl ?_
        refine g14 hC rfl ?_
        refine ret3 hC rfl ⟨by omega, by omega⟩ ?_
        refine ⟨?_, rfl⟩
        omega
theorem m270 (hF : Fix M) (hn : n ≤ 1600) (hq : RT T n q M) (hqn : q.1 ≤ n) (hW : Wd M) : ax_Ev L X SH 2 270 [(2, 142)] M (R1 0 (fun x M' => x = fnd T n q 0 qwl ∧ Sb XLK M M' ∧ M' 142 2 = (q.1 : Int))) := by
  show ax_G L X SH 2 270 0 [(2, 142)] [] M _
  have hC := at270
  have hw : wok XLK = true := by decide +kernel
  have hS : Sb XLK M M := Sb.refl
  have e0 : fnd T n q 0 qwl = if isW T n q w_pace = true then 0 else if isW T n q w_bag = true then 1 else if isW T n q w_drill = true then 2 else if isW T n q w_minute = true then 3 else if isW T n q w_crowd = true then 4 else if isW T n q w_other = true then 5 else if isW T n q w_long = true then 6 else if isW T n q w_number = true then 7 else if isW T n q w_post = true then 8 else if isW T n q w_out = true then 9 else if isW T n q w_signed = true then 10 else if isW T n q w_meets = true then 11 else -1 := rfl
  refine g3 hC rfl rfl ?_
  refine g3 hC rfl rfl ?_
  refine g19 hC rfl sh142 (flt12 rfl) ft12_97 ((hS.fix hw hF).g fx_142_97) ?_
  refine c1 hC rfl rfl rfl (Nat.le_of_ble_eq_true rfl) (Nat.le_of_ble_eq_true rfl) (mayR k160 rfl) (m160 (hS.fix hw hF) hn hq hqn (c := 216) (w := w_pace) sh216 (wa216 (hW.sb hS rfl)) (by decide)) (Nat.le_of_ble_eq_true rfl) (fun x216 M2 hr => ?_)
  obtain ⟨hx216, hr0, hr1⟩ := hr; have hS := hS.then hr0 rfl; have hq := hq.lk hr0 hr1
  refine g12e hC rfl (fun h4 => ?_) (fun h4 => ?_)
  ·
    refine g3 hC rfl rfl ?_
    refine g3 hC rfl rfl ?_
    refine g19 hC rfl sh142 (flt12 rfl) ft12_98 ((hS.fix hw hF).g fx_142_98) ?_
    refine c1 hC rfl rfl rfl (Nat.le_of_ble_eq_true rfl) (Nat.le_of_ble_eq_true rfl) (mayR k160 rfl) (m160 (hS.fix hw hF) hn hq hqn (c := 217) (w := w_bag) sh217 (wa217 (hW.sb hS rfl)) (by decide)) (Nat.le_of_ble_eq_true rfl) (fun x217 M2 hr => ?_)
    obtain ⟨hx217, hr0, hr1⟩ := hr; have hS := hS.then hr0 rfl; have hq := hq.lk hr0 hr1
    refine g12e hC rfl (fun h11 => ?_) (fun h11 => ?_)
    ·
      refine g3 hC rfl rfl ?_
      refine g3 hC rfl rfl ?_
      refine g19 hC rfl sh142 (flt12 rfl) ft12_99 ((hS.fix hw hF).g fx_142_99) ?_
      refine c1 hC rfl rfl rfl (Nat.le_of_ble_eq_true rfl) (Nat.le_of_ble_eq_true rfl) (mayR k160 rfl) (m160 (hS.fix hw hF) hn hq hqn (c := 218) (w := w_drill) sh218 (wa218 (hW.sb hS rfl)) (by decide)) (Nat.le_of_ble_eq_true rfl) (fun x218 M2 hr => ?_)
      obtain ⟨hx218, hr0, hr1⟩ := hr; have hS := hS.then hr0 rfl; have hq := hq.lk hr0 hr1
      refine g12e hC rfl (fun h18 => ?_) (fun h18 => ?_)
      ·
        refine g3 hC rfl rfl ?_
        refine g3 hC rfl rfl ?_
        refine g19 hC rfl sh142 (flt12 rfl) ft12_100 ((hS.fix hw hF).g fx_142_100) ?_
        refine c1 hC rfl rfl rfl (Nat.le_of_ble_eq_true rfl) (Nat.le_of_ble_eq_true rfl) (mayR k160 rfl) (m160 (hS.fix hw hF) hn hq hqn (c := 219) (w := w_minute) sh219 (wa219 (hW.sb hS rfl)) (by decide)) (Nat.le_of_ble_eq_true rfl) (fun x219 M2 hr => ?_)
        obtain ⟨hx219, hr0, hr1⟩ := hr; have hS := hS.then hr0 rfl; have hq := hq.lk hr0 hr1
        refine g12e hC rfl (fun h25 => ?_) (fun h25 => ?_)
        ·
          refine g3 hC rfl rfl ?_
          refine g3 hC rfl rfl ?_
          refine g19 hC rfl sh142 (flt12 rfl) ft12_101 ((hS.fix hw hF).g fx_142_101) ?_
          refine c1 hC rfl rfl rfl (Nat.le_of_ble_eq_true rfl) (Nat.le_of_ble_eq_true rfl) (mayR k160 rfl) (m160 (hS.fix hw hF) hn hq hqn (c := 220) (w := w_crowd) sh220 (wa220 (hW.sb hS rfl)) (by decide)) (Nat.le_of_ble_eq_true rfl) (fun x220 M2 hr => ?_)
          obtain ⟨hx220, hr0, hr1⟩ := hr; have hS := hS.then hr0 rfl; have hq := hq.lk hr0 hr1
          refine g12e hC rfl (fun h32 => ?_) (fun h32 => ?_)
          ·
            refine g3 hC rfl rfl ?_
            refine g3 hC rfl rfl ?_
            refine g19 hC rfl sh142 (flt12 rfl) ft12_102 ((hS.fix hw hF).g fx_142_102) ?_
            refine c1 hC rfl rfl rfl (Nat.le_of_ble_eq_true rfl) (Nat.le_of_ble_eq_true rfl) (mayR k160 rfl) (m160 (hS.fix hw hF) hn hq hqn (c := 221) (w := w_other) sh221 (wa221 (hW.sb hS rfl)) (by decide)) (Nat.le_of_ble_eq_true rfl) (fun x221 M2 hr => ?_)
            obtain ⟨hx221, hr0, hr1⟩ := hr; have hS := hS.then hr0 rfl; have hq := hq.lk hr0 hr1
            refine g12e hC rfl (fun h39 => ?_) (fun h39 => ?_)
            ·
              refine g3 hC rfl rfl ?_
              refine g3 hC rfl rfl ?_
              refine g19 hC rfl sh142 (flt12 rfl) ft12_103 ((hS.fix hw hF).g fx_142_103) ?_
              refine c1 hC rfl rfl rfl (Nat.le_of_ble_eq_true rfl) (Nat.le_of_ble_eq_true rfl) (mayR k160 rfl) (m160 (hS.fix hw hF) hn hq hqn (c := 222) (w := w_long) sh222 (wa222 (hW.sb hS rfl)) (by decide)) (Nat.le_of_ble_eq_true rfl) (fun x222 M2 hr => ?_)
              obtain ⟨hx222, hr0, hr1⟩ := hr; have hS := hS.then hr0 rfl; have hq := hq.lk hr0 hr1
              refine g12e hC rfl (fun h46 => ?_) (fun h46 => ?_)
              ·
                refine g3 hC rfl rfl ?_
                refine g3 hC rfl rfl ?_
                refine g19 hC rfl sh142 (flt12 rfl) ft12_104 ((hS.fix hw hF).g fx_142_104) ?_
                refine c1 hC rfl rfl rfl (Nat.le_of_ble_eq_true rfl) (Nat.le_of_ble_eq_true rfl) (mayR k160 rfl) (m160 (hS.fix hw hF) hn hq hqn (c := 223) (w := w_number) sh223 (wa223 (hW.sb hS rfl)) (by decide)) (Nat.le_of_ble_eq_true rfl) (fun x223 M2 hr => ?_)
                obtain ⟨hx223, hr0, hr1⟩ := hr; have hS := hS.then hr0 rfl; have hq := hq.lk hr0 hr1
                refine g12e hC rfl (fun h53 => ?_) (fun h53 => ?_)
                ·
                  refine g3 hC rfl rfl ?_
                  refine g3 hC rfl rfl ?_
                  refine g19 hC rfl sh142 (flt12 rfl) ft12_105 ((hS.fix hw hF).g fx_142_105) ?_
                  refine c1 hC rfl rfl rfl (Nat.le_of_ble_eq_true rfl) (Nat.le_of_ble_eq_true rfl) (mayR k160 rfl) (m160 (hS.fix hw hF) hn hq hqn (c := 224) (w := w_post) sh224 (wa224 (hW.sb hS rfl)) (by decide)) (Nat.le_of_ble_eq_true rfl) (fun x224 M2 hr => ?_)
                  obtain ⟨hx224, hr0, hr1⟩ := hr; have hS := hS.then hr0 rfl; have hq := hq.lk hr0 hr1
                  refine g12e hC rfl (fun h60 => ?_) (fun h60 => ?_)
                  ·
                    refine g3 hC rfl rfl ?_
                    refine g3 hC rfl rfl ?_
                    refine g19 hC rfl sh142 (flt12 rfl) ft12_106 ((hS.fix hw hF).g fx_142_106) ?_
                    refine c1 hC rfl rfl rfl (Nat.le_of_ble_eq_true rfl) (Nat.le_of_ble_eq_true rfl) (mayR k160 rfl) (m160 (hS.fix hw hF) hn hq hqn (c := 225) (w := w_out) sh225 (wa225 (hW.sb hS rfl)) (by decide)) (Nat.le_of_ble_eq_true rfl) (fun x225 M2 hr => ?_)
                    obtain ⟨hx225, hr0, hr1⟩ := hr; have hS := hS.then hr0 rfl; have hq := hq.lk hr0 hr1
                    refine g12e hC rfl (fun h67 => ?_) (fun h67 => ?_)
                    ·
                      refine g3 hC rfl rfl ?_
                      refine g3 hC rfl rfl ?_
                      refine g19 hC rfl sh142 (flt12 rfl) ft12_107 ((hS.fix hw hF).g fx_142_107) ?_
                      refine c1 hC rfl rfl rfl (Nat.le_of_ble_eq_true rfl) (Nat.le_of_ble_eq_true rfl) (mayR k160 rfl) (m160 (hS.fix hw hF) hn hq hqn (c := 226) (w := w_signed) sh226 (wa226 (hW.sb hS rfl)) (by decide)) (Nat.le_of_ble_eq_true rfl) (fun x226 M2 hr => ?_)
                      obtain ⟨hx226, hr0, hr1⟩ := hr; have hS := hS.then hr0 rfl; have hq := hq.lk hr0 hr1
                      refine g12e hC rfl (fun h74 => ?_) (fun h74 => ?_)
                      ·
                        refine g3 hC rfl rfl ?_
                        refine g3 hC rfl rfl ?_
                        refine g19 hC rfl sh142 (flt12 rfl) ft12_108 ((hS.fix hw hF).g fx_142_108) ?_
                        refine c1 hC rfl rfl rfl (Nat.le_of_ble_eq_true rfl) (Nat.le_of_ble_eq_true rfl) (mayR k160 rfl) (m160 (hS.fix hw hF) hn hq hqn (c := 227) (w := w_meets) sh227 (wa227 (hW.sb hS rfl)) (by decide)) (Nat.le_of_ble_eq_true rfl) (fun x227 M2 hr => ?_)
                        obtain ⟨hx227, hr0, hr1⟩ := hr; have hS := hS.then hr0 rfl; have hq := hq.lk hr0 hr1
                        refine g12e hC rfl (fun h81 => ?_) (fun h81 => ?_)
                        ·
                          refine g0 hC rfl ?_
                          refine ret1 hC rfl rfl ?_
                          exact ⟨by rw [e0, nW hx216 (by omega), nW hx217 (by omega), nW hx218 (by omega), nW hx219 (by omega), nW hx220 (by omega), nW hx221 (by omega), nW hx222 (by omega), nW hx223 (by omega), nW hx224 (by omega), nW hx225 (by omega), nW hx226 (by omega), nW hx227 (by omega)]; rfl, hS, hr1⟩
                        ·
                          refine g0 hC rfl ?_
                          refine ret1 hC rfl rfl ?_
                          exact ⟨by rw [e0, nW hx216 (by omega), nW hx217 (by omega), nW hx218 (by omega), nW hx219 (by omega), nW hx220 (by omega), nW hx221 (by omega), nW hx222 (by omega), nW hx223 (by omega), nW hx224 (by omega), nW hx225 (by omega), nW hx226 (by omega), yW hx227 (by omega)]; rfl, hS, hr1⟩
                      ·
                        refine g0 hC rfl ?_
                        refine ret1 hC rfl rfl ?_
                        exact ⟨by rw [e0, nW hx216 (by omega), nW hx217 (by omega), nW hx218 (by omega), nW hx219 (by omega), nW hx220 (by omega), nW hx221 (by omega), nW hx222 (by omega), nW hx223 (by omega), nW hx224 (by omega), nW hx225 (by omega), yW hx226 (by omega)]; rfl, hS, hr1⟩
                    ·
                      refine g0 hC rfl ?_
                      refine ret1 hC rfl rfl ?_
                      exact ⟨by rw [e0, nW hx216 (by omega), nW hx217 (by omega), nW hx218 (by omega), nW hx219 (by omega), nW hx220 (by omega), nW hx221 (by omega), nW hx222 (by omega), nW hx223 (by omega), nW hx224 (by omega), yW hx225 (by omega)]; rfl, hS, hr1⟩
                  ·
                    refine g0 hC rfl ?_
                    refine ret1 hC rfl rfl ?_
                    exact ⟨by rw [e0, nW hx216 (by omega), nW hx217 (by omega), nW hx218 (by omega), nW hx219 (by omega), nW hx220 (by omega), nW hx221 (by omega), nW hx222 (by omega), nW hx223 (by omega), yW hx224 (by omega)]; rfl, hS, hr1⟩
                ·
                  refine g0 hC rfl ?_
                  refine ret1 hC rfl rfl ?_
                  exact ⟨by rw [e0, nW hx216 (by omega), nW hx217 (by omega), nW hx218 (by omega), nW hx219 (by omega), nW hx220 (by omega), nW hx221 (by omega), nW hx222 (by omega), yW hx223 (by omega)]; rfl, hS, hr1⟩
              ·
                refine g0 hC rfl ?_
                refine ret1 hC rfl rfl ?_
                exact ⟨by rw [e0, nW hx216 (by omega), nW hx217 (by omega), nW hx218 (by omega), nW hx219 (by omega), nW hx220 (by omega), nW hx221 (by omega), yW hx222 (by omega)]; rfl, hS, hr1⟩
            ·
              refine g0 hC rfl ?_
              refine ret1 hC rfl rfl ?_
              exact ⟨by rw [e0, nW hx216 (by omega), nW hx217 (by omega), nW hx218 (by omega), nW hx219 (by omega), nW hx220 (by omega), yW hx221 (by omega)]; rfl, hS, hr1⟩
          ·
            refine g0 hC rfl ?_
            refine ret1 hC rfl rfl ?_
            exact ⟨by rw [e0, nW hx216 (by omega), nW hx217 (by omega), nW hx218 (by omega), nW hx219 (by omega), yW hx220 (by omega)]; rfl, hS, hr1⟩
        ·
          refine g0 hC rfl ?_
          refine ret1 hC rfl rfl ?_
          exact ⟨by rw [e0, nW hx216 (by omega), nW hx217 (by omega), nW hx218 (by omega), yW hx219 (by omega)]; rfl, hS, hr1⟩
      ·
        refine g0 hC rfl ?_
        refine ret1 hC rfl rfl ?_
        exact ⟨by rw [e0, nW hx216 (by omega), nW hx217 (by omega), yW hx218 (by omega)]; rfl, hS, hr1⟩
    ·
      refine g0 hC rfl ?_
      refine ret1 hC rfl rfl ?_
      exact ⟨by rw [e0, nW hx216 (by omega), yW hx217 (by omega)]; rfl, hS, hr1⟩
  ·
    refine g0 hC rfl ?_
    refine ret1 hC rfl rfl ?_
    exact ⟨by rw [e0, yW hx216 (by omega)]; rfl, hS, hr1⟩
theorem m271 (hF : Fix M) (hn : n ≤ 1600) (hq : RT T n q M) (hqn : q.1 ≤ n) (hW : Wd M) (ht : M 142 53 = (k : Int)) (hk : k ≤ 2) {a b : Int} : ax_Ev L X SH 3 271 [(2, 142), (0, a), (0, b)] M (R1 0 (fun x M' => (((a ≤ fnd T n q 0 qwl ∧ fnd T n q 0 qwl < b ∧ alw k (fnd T n q 0 qwl)) ∧ x = fnd T n q 0 qwl) ∨ (¬ (a ≤ fnd T n q 0 qwl ∧ fnd T n q 0 qwl < b ∧ alw k (fnd T n q 0 qwl)) ∧ x = -1)) ∧ Sb XLK M M' ∧ M' 142 2 = (q.1 : Int))) := by
  show ax_G L X SH 3 271 0 [(2, 142), (0, a), (0, b), (3, 0)] [] M _
  have hC := at271
  have hw : wok XLK = true := by decide +kernel
  have hS : Sb XLK M M := Sb.refl
  refine g3 hC rfl rfl ?_
  refine c1 hC rfl rfl rfl (Nat.le_of_ble_eq_true rfl) (Nat.le_of_ble_eq_true rfl) (mayR k270 rfl) (m270 hF hn hq hqn hW) (Nat.le_of_ble_eq_true rfl) (fun x M2 hr => ?_)
  obtain ⟨rfl, hr0, hr1⟩ := hr; have hS := hS.then hr0 rfl
  refine s3 hC rfl rfl rfl ?_
  refine g3 hC rfl rfl ?_
  refine g3 hC rfl rfl ?_
  refine g13l hC rfl (fun h5 => ?_) (fun h5 => ?_)
  ·
    refine g0 hC rfl ?_
    refine ret1 hC rfl rfl ?_
    exact ⟨Or.inr ⟨fun z => by omega, rfl⟩, hS, hr1⟩
  ·
    refine g3 hC rfl rfl ?_
    refine g3 hC rfl rfl ?_
    refine g13g hC rfl (fun h8 => ?_) (fun h8 => ?_)
    ·
      refine g0 hC rfl ?_
      refine ret1 hC rfl rfl ?_
      exact ⟨Or.inr ⟨fun z => by omega, rfl⟩, hS, hr1⟩
    ·
      refine g3 hC rfl rfl ?_
      refine g3 hC rfl rfl ?_
      refine c1 hC rfl rfl rfl (Nat.le_of_ble_eq_true rfl) (Nat.le_of_ble_eq_true rfl) (mayR k168 rfl) (m168 ((hr0 142 53 rfl).trans ht) hk) (Nat.le_of_ble_eq_true rfl) (fun y MX hr => ?_)
      obtain ⟨hy, hr⟩ := hr; replace hr := hr.symm; subst hr
      refine g12e hC rfl (fun h12 => ?_) (fun h12 => ?_)
      ·
        refine g0 hC rfl ?_
        refine ret1 hC rfl rfl ?_
        refine ⟨Or.inr ⟨fun z => ?_, rfl⟩, hS, hr1⟩
        rcases hy with y1 | y1
        · omega
        · exact y1.1 z.2.2
      ·
        refine g3 hC rfl rfl ?_
        refine g14 hC rfl ?_
        refine ret1 hC rfl rfl ?_
        refine ⟨Or.inl ⟨⟨by omega, by omega, ?_⟩, rfl⟩, hS, hr1⟩
        rcases hy with y1 | y1
        · exact y1.1
        · omega
theorem m272 (hF : Fix M) (hn : n ≤ 1600) (hq : RT T n q M) (hqn : q.1 ≤ n) (hW : Wd M) {j : Int} (hj0 : 0 ≤ j) (hj1 : j < 12) (hj : ∀ i : Nat, j = (i : Int) → isW T n q (qwl.getD i []) = true) : ax_Ev L X SH 4 272 [(2, 142), (0, j)] M (R0 (fun M' => Sb XAK M M' ∧ RT T n (nx T n q) M')) := by
  show ax_G L X SH 4 272 0 [(2, 142), (0, j)] [] M _
  have hC := at272
  have hw : wok XAK = true := by decide +kernel
  have hS : Sb XAK M M := Sb.refl
  have fin : ∀ (w : List Int) M', isW T n q w = true → RR T n (wdR T n q w) (nx T n q) (fun _ => True) M' → RT T n (nx T n q) M' := by
    intro w M' h1 h2
    unfold wdR at h2; rw [if_pos h1] at h2
    rcases h2 with ⟨f, p, e, _⟩ | ⟨_, h, _⟩
    · cases e
    · exact h
  refine g3 hC rfl rfl ?_
  by_cases k1_0 : j = 0
  ·
    refine g15k (key := 0) (i' := 2) hC rfl rfl k1_0 rfl ?_
    refine g3 hC rfl rfl ?_
    refine g3 hC rfl rfl ?_
    refine g19 hC rfl sh142 (flt12 rfl) ft12_97 ((hS.fix hw hF).g fx_142_97) ?_
    refine c0 hC rfl rfl rfl (Nat.le_of_ble_eq_true rfl) (Nat.le_of_ble_eq_true rfl) (mayR k162 rfl) (m162 hF hn hq hqn (c := 216) (w := w_pace) sh216 (wa216 hW) (by decide)) (Nat.le_of_ble_eq_true rfl) (fun M2 hr => ?_)
    refine g14 hC rfl ?_
    refine ret0 hC rfl ?_
    exact ⟨hr.1, fin w_pace _ (hj 0 (by omega)) hr.2⟩
  by_cases k1_1 : j = 1
  ·
    refine g15k (key := 1) (i' := 7) hC rfl rfl k1_1 rfl ?_
    refine g3 hC rfl rfl ?_
    refine g3 hC rfl rfl ?_
    refine g19 hC rfl sh142 (flt12 rfl) ft12_98 ((hS.fix hw hF).g fx_142_98) ?_
    refine c0 hC rfl rfl rfl (Nat.le_of_ble_eq_true rfl) (Nat.le_of_ble_eq_true rfl) (mayR k162 rfl) (m162 hF hn hq hqn (c := 217) (w := w_bag) sh217 (wa217 hW) (by decide)) (Nat.le_of_ble_eq_true rfl) (fun M2 hr => ?_)
    refine g14 hC rfl ?_
    refine ret0 hC rfl ?_
    exact ⟨hr.1, fin w_bag _ (hj 1 (by omega)) hr.2⟩
  by_cases k1_2 : j = 2
  ·
    refine g15k (key := 2) (i' := 12) hC rfl rfl k1_2 rfl ?_
    refine g3 hC rfl rfl ?_
    refine g3 hC rfl rfl ?_
    refine g19 hC rfl sh142 (flt12 rfl) ft12_99 ((hS.fix hw hF).g fx_142_99) ?_
    refine c0 hC rfl rfl rfl (Nat.le_of_ble_eq_true rfl) (Nat.le_of_ble_eq_true rfl) (mayR k162 rfl) (m162 hF hn hq hqn (c := 218) (w := w_drill) sh218 (wa218 hW) (by decide)) (Nat.le_of_ble_eq_true rfl) (fun M2 hr => ?_)
    refine g14 hC rfl ?_
    refine ret0 hC rfl ?_
    exact ⟨hr.1, fin w_drill _ (hj 2 (by omega)) hr.2⟩
  by_cases k1_3 : j = 3
  ·
    refine g15k (key := 3) (i' := 17) hC rfl rfl k1_3 rfl ?_
    refine g3 hC rfl rfl ?_
    refine g3 hC rfl rfl ?_
    refine g19 hC rfl sh142 (flt12 rfl) ft12_100 ((hS.fix hw hF).g fx_142_100) ?_
    refine c0 hC rfl rfl rfl (Nat.le_of_ble_eq_true rfl) (Nat.le_of_ble_eq_true rfl) (mayR k162 rfl) (m162 hF hn hq hqn (c := 219) (w := w_minute) sh219 (wa219 hW) (by decide)) (Nat.le_of_ble_eq_true rfl) (fun M2 hr => ?_)
    refine g14 hC rfl ?_
    refine ret0 hC rfl ?_
    exact ⟨hr.1, fin w_minute _ (hj 3 (by omega)) hr.2⟩
  by_cases k1_4 : j = 4
  ·
    refine g15k (key := 4) (i' := 22) hC rfl rfl k1_4 rfl ?_
    refine g3 hC rfl rfl ?_
    refine g3 hC rfl rfl ?_
    refine g19 hC rfl sh142 (flt12 rfl) ft12_101 ((hS.fix hw hF).g fx_142_101) ?_
    refine c0 hC rfl rfl rfl (Nat.le_of_ble_eq_true rfl) (Nat.le_of_ble_eq_true rfl) (mayR k162 rfl) (m162 hF hn hq hqn (c := 220) (w := w_crowd) sh220 (wa220 hW) (by decide)) (Nat.le_of_ble_eq_true rfl) (fun M2 hr => ?_)
    refine g14 hC rfl ?_
    refine ret0 hC rfl ?_
    exact ⟨hr.1, fin w_crowd _ (hj 4 (by omega)) hr.2⟩
  by_cases k1_5 : j = 5
  ·
    refine g15k (key := 5) (i' := 27) hC rfl rfl k1_5 rfl ?_
    refine g3 hC rfl rfl ?_
    refine g3 hC rfl rfl ?_
    refine g19 hC rfl sh142 (flt12 rfl) ft12_102 ((hS.fix hw hF).g fx_142_102) ?_
    refine c0 hC rfl rfl rfl (Nat.le_of_ble_eq_true rfl) (Nat.le_of_ble_eq_true rfl) (mayR k162 rfl) (m162 hF hn hq hqn (c := 221) (w := w_other) sh221 (wa221 hW) (by decide)) (Nat.le_of_ble_eq_true rfl) (fun M2 hr => ?_)
    refine g14 hC rfl ?_
    refine ret0 hC rfl ?_
    exact ⟨hr.1, fin w_other _ (hj 5 (by omega)) hr.2⟩
  by_cases k1_6 : j = 6
  ·
    refine g15k (key := 6) (i' := 32) hC rfl rfl k1_6 rfl ?_
    refine g3 hC rfl rfl ?_
    refine g3 hC rfl rfl ?_
    refine g19 hC rfl sh142 (flt12 rfl) ft12_103 ((hS.fix hw hF).g fx_142_103) ?_
    refine c0 hC rfl rfl rfl (Nat.le_of_ble_eq_true rfl) (Nat.le_of_ble_eq_true rfl) (mayR k162 rfl) (m162 hF hn hq hqn (c := 222) (w := w_long) sh222 (wa222 hW) (by decide)) (Nat.le_of_ble_eq_true rfl) (fun M2 hr => ?_)
    refine g14 hC rfl ?_
    refine ret0 hC rfl ?_
    exact ⟨hr.1, fin w_long _ (hj 6 (by omega)) hr.2⟩
  by_cases k1_7 : j = 7
  ·
    refine g15k (key := 7) (i' := 37) hC rfl rfl k1_7 rfl ?_
    refine g3 hC rfl rfl ?_
    refine g3 hC rfl rfl ?_
    refine g19 hC rfl sh142 (flt12 rfl) ft12_104 ((hS.fix hw hF).g fx_142_104) ?_
    refine c0 hC rfl rfl rfl (Nat.le_of_ble_eq_true rfl) (Nat.le_of_ble_eq_true rfl) (mayR k162 rfl) (m162 hF hn hq hqn (c := 223) (w := w_number) sh223 (wa223 hW) (by decide)) (Nat.le_of_ble_eq_true rfl) (fun M2 hr => ?_)
    refine g14 hC rfl ?_
    refine ret0 hC rfl ?_
    exact ⟨hr.1, fin w_number _ (hj 7 (by omega)) hr.2⟩
  by_cases k1_8 : j = 8
  ·
    refine g15k (key := 8) (i' := 42) hC rfl rfl k1_8 rfl ?_
    refine g3 hC rfl rfl ?_
    refine g3 hC rfl rfl ?_
    refine g19 hC rfl sh142 (flt12 rfl) ft12_105 ((hS.fix hw hF).g fx_142_105) ?_
    refine c0 hC rfl rfl rfl (Nat.le_of_ble_eq_true rfl) (Nat.le_of_ble_eq_true rfl) (mayR k162 rfl) (m162 hF hn hq hqn (c := 224) (w := w_post) sh224 (wa224 hW) (by decide)) (Nat.le_of_ble_eq_true rfl) (fun M2 hr => ?_)
    refine g14 hC rfl ?_
    refine ret0 hC rfl ?_
    exact ⟨hr.1, fin w_post _ (hj 8 (by omega)) hr.2⟩
  by_cases k1_9 : j = 9
  ·
    refine g15k (key := 9) (i' := 47) hC rfl rfl k1_9 rfl ?_
    refine g3 hC rfl rfl ?_
    refine g3 hC rfl rfl ?_
    refine g19 hC rfl sh142 (flt12 rfl) ft12_106 ((hS.fix hw hF).g fx_142_106) ?_
    refine c0 hC rfl rfl rfl (Nat.le_of_ble_eq_true rfl) (Nat.le_of_ble_eq_true rfl) (mayR k162 rfl) (m162 hF hn hq hqn (c := 225) (w := w_out) sh225 (wa225 hW) (by decide)) (Nat.le_of_ble_eq_true rfl) (fun M2 hr => ?_)
    refine g14 hC rfl ?_
    refine ret0 hC rfl ?_
    exact ⟨hr.1, fin w_out _ (hj 9 (by omega)) hr.2⟩
  by_cases k1_10 : j = 10
  ·
    refine g15k (key := 10) (i' := 52) hC rfl rfl k1_10 rfl ?_
    refine g3 hC rfl rfl ?_
    refine g3 hC rfl rfl ?_
    refine g19 hC rfl sh142 (flt12 rfl) ft12_107 ((hS.fix hw hF).g fx_142_107) ?_
    refine c0 hC rfl rfl rfl (Nat.le_of_ble_eq_true rfl) (Nat.le_of_ble_eq_true rfl) (mayR k162 rfl) (m162 hF hn hq hqn (c := 226) (w := w_signed) sh226 (wa226 hW) (by decide)) (Nat.le_of_ble_eq_true rfl) (fun M2 hr => ?_)
    refine g14 hC rfl ?_
    refine ret0 hC rfl ?_
    exact ⟨hr.1, fin w_signed _ (hj 10 (by omega)) hr.2⟩
  refine g15d (i' := 57) hC rfl rfl (by show ¬ ((0 : Int) ≤ _ ∧ _ ≤ (10 : Int)); omega) rfl ?_
  refine g3 hC rfl rfl ?_
  refine g3 hC rfl rfl ?_
  refine g19 hC rfl sh142 (flt12 rfl) ft12_108 ((hS.fix hw hF).g fx_142_108) ?_
  refine c0 hC rfl rfl rfl (Nat.le_of_ble_eq_true rfl) (Nat.le_of_ble_eq_true rfl) (mayR k162 rfl) (m162 hF hn hq hqn (c := 227) (w := w_meets) sh227 (wa227 hW) (by decide)) (Nat.le_of_ble_eq_true rfl) (fun M2 hr => ?_)
  refine ret0 hC rfl ?_
  exact ⟨hr.1, fin w_meets _ (hj 11 (by omega)) hr.2⟩
theorem m272b (h : ¬ M 142 5 = 0) (hF : Fix M) {j : Int} : ax_Ev L X SH 4 272 [(2, 142), (0, j)] M (R0 (fun M' => M' = M)) := by
  show ax_G L X SH 4 272 0 [(2, 142), (0, j)] [] M _
  have hC := at272
  have hw : wok XAK = true := by decide +kernel
  have hS : Sb XAK M M := Sb.refl
  refine g3 hC rfl rfl ?_
  by_cases k1_0 : j = 0
  ·
    refine g15k (key := 0) (i' := 2) hC rfl rfl k1_0 rfl ?_
    refine g3 hC rfl rfl ?_
    refine g3 hC rfl rfl ?_
    refine g19 hC rfl sh142 (flt12 rfl) ft12_97 ((hS.fix hw hF).g fx_142_97) ?_
    refine c0 hC rfl rfl rfl (Nat.le_of_ble_eq_true rfl) (Nat.le_of_ble_eq_true rfl) (mayR k162 rfl) (m162b h) (Nat.le_of_ble_eq_true rfl) (fun M2 hr => ?_)
    replace hr := hr.symm
    subst hr
    refine g14 hC rfl ?_
    refine ret0 hC rfl ?_
    rfl
  by_cases k1_1 : j = 1
  ·
    refine g15k (key := 1) (i' := 7) hC rfl rfl k1_1 rfl ?_
    refine g3 hC rfl rfl ?_
    refine g3 hC rfl rfl ?_
    refine g19 hC rfl sh142 (flt12 rfl) ft12_98 ((hS.fix hw hF).g fx_142_98) ?_
    refine c0 hC rfl rfl rfl (Nat.le_of_ble_eq_true rfl) (Nat.le_of_ble_eq_true rfl) (mayR k162 rfl) (m162b h) (Nat.le_of_ble_eq_true rfl) (fun M2 hr => ?_)
    replace hr := hr.symm
    subst hr
    refine g14 hC rfl ?_
    refine ret0 hC rfl ?_
    rfl
  by_cases k1_2 : j = 2
  ·
    refine g15k (key := 2) (i' := 12) hC rfl rfl k1_2 rfl ?_
    refine g3 hC rfl rfl ?_
    refine g3 hC rfl rfl ?_
    refine g19 hC rfl sh142 (flt12 rfl) ft12_99 ((hS.fix hw hF).g fx_142_99) ?_
    refine c0 hC rfl rfl rfl (Nat.le_of_ble_eq_true rfl) (Nat.le_of_ble_eq_true rfl) (mayR k162 rfl) (m162b h) (Nat.le_of_ble_eq_true rfl) (fun M2 hr => ?_)
    replace hr := hr.symm
    subst hr
    refine g14 hC rfl ?_
    refine ret0 hC rfl ?_
    rfl
  by_cases k1_3 : j = 3
  ·
    refine g15k (key := 3) (i' := 17) hC rfl rfl k1_3 rfl ?_
    refine g3 hC rfl rfl ?_
    refine g3 hC rfl rfl ?_
    refine g19 hC rfl sh142 (flt12 rfl) ft12_100 ((hS.fix hw hF).g fx_142_100) ?_
    refine c0 hC rfl rfl rfl (Nat.le_of_ble_eq_true rfl) (Nat.le_of_ble_eq_true rfl) (mayR k162 rfl) (m162b h) (Nat.le_of_ble_eq_true rfl) (fun M2 hr => ?_)
    replace hr := hr.symm
    subst hr
    refine g14 hC rfl ?_
    refine ret0 hC rfl ?_
    rfl
  by_cases k1_4 : j = 4
  ·
    refine g15k (key := 4) (i' := 22) hC rfl rfl k1_4 rfl ?_
    refine g3 hC rfl rfl ?_
    refine g3 hC rfl rfl ?_
    refine g19 hC rfl sh142 (flt12 rfl) ft12_101 ((hS.fix hw hF).g fx_142_101) ?_
    refine c0 hC rfl rfl rfl (Nat.le_of_ble_eq_true rfl) (Nat.le_of_ble_eq_true rfl) (mayR k162 rfl) (m162b h) (Nat.le_of_ble_eq_true rfl) (fun M2 hr => ?_)
    replace hr := hr.symm
    subst hr
    refine g14 hC rfl ?_
    refine ret0 hC rfl ?_
    rfl
  by_cases k1_5 : j = 5
  ·
    refine g15k (key := 5) (i' := 27) hC rfl rfl k1_5 rfl ?_
    refine g3 hC rfl rfl ?_
    refine g3 hC rfl rfl ?_
    refine g19 hC rfl sh142 (flt12 rfl) ft12_102 ((hS.fix hw hF).g fx_142_102) ?_
    refine c0 hC rfl rfl rfl (Nat.le_of_ble_eq_true rfl) (Nat.le_of_ble_eq_true rfl) (mayR k162 rfl) (m162b h) (Nat.le_of_ble_eq_true rfl) (fun M2 hr => ?_)
    replace hr := hr.symm
    subst hr
    refine g14 hC rfl ?_
    refine ret0 hC rfl ?_
    rfl
  by_cases k1_6 : j = 6
  ·
    refine g15k (key := 6) (i' := 32) hC rfl rfl k1_6 rfl ?_
    refine g3 hC rfl rfl ?_
    refine g3 hC rfl rfl ?_
    refine g19 hC rfl sh142 (flt12 rfl) ft12_103 ((hS.fix hw hF).g fx_142_103) ?_
    refine c0 hC rfl rfl rfl (Nat.le_of_ble_eq_true rfl) (Nat.le_of_ble_eq_true rfl) (mayR k162 rfl) (m162b h) (Nat.le_of_ble_eq_true rfl) (fun M2 hr => ?_)
    replace hr := hr.symm
    subst hr
    refine g14 hC rfl ?_
    refine ret0 hC rfl ?_
    rfl
  by_cases k1_7 : j = 7
  ·
    refine g15k (key := 7) (i' := 37) hC rfl rfl k1_7 rfl ?_
    refine g3 hC rfl rfl ?_
    refine g3 hC rfl rfl ?_
    refine g19 hC rfl sh142 (flt12 rfl) ft12_104 ((hS.fix hw hF).g fx_142_104) ?_
    refine c0 hC rfl rfl rfl (Nat.le_of_ble_eq_true rfl) (Nat.le_of_ble_eq_true rfl) (mayR k162 rfl) (m162b h) (Nat.le_of_ble_eq_true rfl) (fun M2 hr => ?_)
    replace hr := hr.symm
    subst hr
    refine g14 hC rfl ?_
    refine ret0 hC rfl ?_
    rfl
  by_cases k1_8 : j = 8
  ·
    refine g15k (key := 8) (i' := 42) hC rfl rfl k1_8 rfl ?_
    refine g3 hC rfl rfl ?_
    refine g3 hC rfl rfl ?_
    refine g19 hC rfl sh142 (flt12 rfl) ft12_105 ((hS.fix hw hF).g fx_142_105) ?_
    refine c0 hC rfl rfl rfl (Nat.le_of_ble_eq_true rfl) (Nat.le_of_ble_eq_true rfl) (mayR k162 rfl) (m162b h) (Nat.le_of_ble_eq_true rfl) (fun M2 hr => ?_)
    replace hr := hr.symm
    subst hr
    refine g14 hC rfl ?_
    refine ret0 hC rfl ?_
    rfl
  by_cases k1_9 : j = 9
  ·
    refine g15k (key := 9) (i' := 47) hC rfl rfl k1_9 rfl ?_
    refine g3 hC rfl rfl ?_
    refine g3 hC rfl rfl ?_
    refine g19 hC rfl sh142 (flt12 rfl) ft12_106 ((hS.fix hw hF).g fx_142_106) ?_
    refine c0 hC rfl rfl rfl (Nat.le_of_ble_eq_true rfl) (Nat.le_of_ble_eq_true rfl) (mayR k162 rfl) (m162b h) (Nat.le_of_ble_eq_true rfl) (fun M2 hr => ?_)
    replace hr := hr.symm
    subst hr
    refine g14 hC rfl ?_
    refine ret0 hC rfl ?_
    rfl
  by_cases k1_10 : j = 10
  ·
    refine g15k (key := 10) (i' := 52) hC rfl rfl k1_10 rfl ?_
    refine g3 hC rfl rfl ?_
    refine g3 hC rfl rfl ?_
    refine g19 hC rfl sh142 (flt12 rfl) ft12_107 ((hS.fix hw hF).g fx_142_107) ?_
    refine c0 hC rfl rfl rfl (Nat.le_of_ble_eq_true rfl) (Nat.le_of_ble_eq_true rfl) (mayR k162 rfl) (m162b h) (Nat.le_of_ble_eq_true rfl) (fun M2 hr => ?_)
    replace hr := hr.symm
    subst hr
    refine g14 hC rfl ?_
    refine ret0 hC rfl ?_
    rfl
  refine g15d (i' := 57) hC rfl rfl (by show ¬ ((0 : Int) ≤ _ ∧ _ ≤ (10 : Int)); omega) rfl ?_
  refine g3 hC rfl rfl ?_
  refine g3 hC rfl rfl ?_
  refine g19 hC rfl sh142 (flt12 rfl) ft12_108 ((hS.fix hw hF).g fx_142_108) ?_
  refine c0 hC rfl rfl rfl (Nat.le_of_ble_eq_true rfl) (Nat.le_of_ble_eq_true rfl) (mayR k162 rfl) (m162b h) (Nat.le_of_ble_eq_true rfl) (fun M2 hr => ?_)
  replace hr := hr.symm
  subst hr
  refine ret0 hC rfl ?_
  rfl
theorem isW_ne {w w' : List Int} (h : isW T n q w = true) (hne : w ≠ w') : isW T n q w' = false := by
  cases e : isW T n q w' with
  | false => rfl
  | true =>
    exfalso
    have h1 := of_decide_eq_true h
    have h2 := of_decide_eq_true e
    refine hne (List.ext_getElem (by omega) (fun i hi hi2 => ?_))
    have e1 := h1.2.2 i hi
    have e2 := h2.2.2 i hi2
    rw [List.getD_eq_getElem?_getD, List.getElem?_eq_getElem hi] at e1
    rw [List.getD_eq_getElem?_getD, List.getElem?_eq_getElem hi2] at e2
    exact e1.symm.trans e2
theorem qw_c : (∀ w ∈ qwl, isW T n q w = false) ∨ ∃ i : Nat, i < 12 ∧ isW T n q (qwl.getD i []) = true ∧ ∀ w ∈ qwl, w ≠ qwl.getD i [] → isW T n q w = false := by
  by_cases h : ∃ i : Nat, i < 12 ∧ isW T n q (qwl.getD i []) = true
  · obtain ⟨i, h1, h2⟩ := h
    exact Or.inr ⟨i, h1, h2, fun w _ hne => isW_ne h2 (fun z => hne z.symm)⟩
  · left
    intro w hw
    cases e : isW T n q w with
    | false => rfl
    | true =>
      exfalso
      obtain ⟨i, hi, e2⟩ := List.getElem_of_mem hw
      refine h ⟨i, hi, ?_⟩
      rw [List.getD_eq_getElem?_getD, List.getElem?_eq_getElem hi]
      show isW T n q qwl[i] = true
      rw [e2]; exact e
theorem qw_lw (hk : k ≤ 2) : (isW T n q w_meets = true → fnd T n q 0 qwl = 11 ∧ fnd T n q 0 (lw k) = -1) ∧ (isW T n q w_meets = false → ((0 ≤ fnd T n q 0 qwl ∧ fnd T n q 0 qwl < 11 ∧ alw k (fnd T n q 0 qwl)) ∧ fnd T n q 0 (lw k) ≠ -1 ∧ fnd T n q 0 qwl = lcd k (fnd T n q 0 (lw k))) ∨ (¬ (0 ≤ fnd T n q 0 qwl ∧ fnd T n q 0 qwl < 11 ∧ alw k (fnd T n q 0 qwl)) ∧ fnd T n q 0 (lw k) = -1 ∧ ¬ fnd T n q 0 qwl = 11)) ∧ (0 ≤ fnd T n q 0 qwl → ∀ i : Nat, fnd T n q 0 qwl = (i : Int) → isW T n q (qwl.getD i []) = true) := by
  have eq0 : fnd T n q 0 qwl = if isW T n q w_pace = true then 0 else if isW T n q w_bag = true then 1 else if isW T n q w_drill = true then 2 else if isW T n q w_minute = true then 3 else if isW T n q w_crowd = true then 4 else if isW T n q w_other = true then 5 else if isW T n q w_long = true then 6 else if isW T n q w_number = true then 7 else if isW T n q w_post = true then 8 else if isW T n q w_out = true then 9 else if isW T n q w_signed = true then 10 else if isW T n q w_meets = true then 11 else -1 := rfl
  have el0 : fnd T n q 0 (lw 0) = if isW T n q w_pace = true then 0 else if isW T n q w_bag = true then 1 else if isW T n q w_drill = true then 2 else if isW T n q w_minute = true then 3 else if isW T n q w_crowd = true then 4 else -1 := rfl
  have el1 : fnd T n q 0 (lw 1) = if isW T n q w_pace = true then 0 else if isW T n q w_bag = true then 1 else if isW T n q w_drill = true then 2 else if isW T n q w_other = true then 3 else if isW T n q w_long = true then 4 else -1 := rfl
  have el2 : fnd T n q 0 (lw 2) = if isW T n q w_pace = true then 0 else if isW T n q w_bag = true then 1 else if isW T n q w_drill = true then 2 else if isW T n q w_number = true then 3 else if isW T n q w_post = true then 4 else if isW T n q w_out = true then 5 else if isW T n q w_signed = true then 6 else -1 := rfl
  have hk3 : k = 0 ∨ k = 1 ∨ k = 2 := by omega
  rcases qw_c (T := T) (n := n) (q := q) with h | ⟨i, hi, h1, h2⟩
  · have a_pace := h w_pace (by decide)
    have a_bag := h w_bag (by decide)
    have a_drill := h w_drill (by decide)
    have a_minute := h w_minute (by decide)
    have a_crowd := h w_crowd (by decide)
    have a_other := h w_other (by decide)
    have a_long := h w_long (by decide)
    have a_number := h w_number (by decide)
    have a_post := h w_post (by decide)
    have a_out := h w_out (by decide)
    have a_signed := h w_signed (by decide)
    have a_meets := h w_meets (by decide)
    simp only [a_pace, a_bag, a_drill, a_minute, a_crowd, a_other, a_long, a_number, a_post, a_out, a_signed, a_meets, Bool.false_eq_true, if_false] at eq0 el0 el1 el2
    rw [eq0]
    refine ⟨fun z => (by rw [a_meets] at z; cases z), fun _ => Or.inr ⟨fun z => (by omega), ?_, by decide⟩, fun z => (by omega)⟩
    rcases hk3 with rfl | rfl | rfl
    · exact el0
    · exact el1
    · exact el2
  · have hi12 : i = 0 ∨ i = 1 ∨ i = 2 ∨ i = 3 ∨ i = 4 ∨ i = 5 ∨ i = 6 ∨ i = 7 ∨ i = 8 ∨ i = 9 ∨ i = 10 ∨ i = 11 := by omega
    rcases hi12 with rfl | rfl | rfl | rfl | rfl | rfl | rfl | rfl | rfl | rfl | rfl | rfl
    · have a_pace : isW T n q w_pace = true := h1
      have a_bag := h2 w_bag (by decide) (by decide)
      have a_drill := h2 w_drill (by decide) (by decide)
      have a_minute := h2 w_minute (by decide) (by decide)
      have a_crowd := h2 w_crowd (by decide) (by decide)
      have a_other := h2 w_other (by decide) (by decide)
      have a_long := h2 w_long (by decide) (by decide)
      have a_number := h2 w_number (by decide) (by decide)
      have a_post := h2 w_post (by decide) (by decide)
      have a_out := h2 w_out (by decide) (by decide)
      have a_signed := h2 w_signed (by decide) (by decide)
      have a_meets := h2 w_meets (by decide) (by decide)
      simp only [a_pace, a_bag, a_drill, a_minute, a_crowd, a_other, a_long, a_number, a_post, a_out, a_signed, a_meets, Bool.false_eq_true, if_false, if_true] at eq0 el0 el1 el2
      rw [eq0]
      refine ⟨fun z => (by rw [a_meets] at z; cases z), fun _ => ?_, fun _ i hi => ?_⟩
      · rcases hk3 with rfl | rfl | rfl
        · rw [el0]; exact Or.inl ⟨⟨by decide, by decide, by unfold alw; decide⟩, by decide, by decide⟩
        · rw [el1]; exact Or.inl ⟨⟨by decide, by decide, by unfold alw; decide⟩, by decide, by decide⟩
        · rw [el2]; exact Or.inl ⟨⟨by decide, by decide, by unfold alw; decide⟩, by decide, by decide⟩
      · have : i = 0 := by omega
        subst this; exact h1
    · have a_bag : isW T n q w_bag = true := h1
      have a_pace := h2 w_pace (by decide) (by decide)
      have a_drill := h2 w_drill (by decide) (by decide)
      have a_minute := h2 w_minute (by decide) (by decide)
      have a_crowd := h2 w_crowd (by decide) (by decide)
      have a_other := h2 w_other (by decide) (by decide)
      have a_long := h2 w_long (by decide) (by decide)
      have a_number := h2 w_number (by decide) (by decide)
      have a_post := h2 w_post (by decide) (by decide)
      have a_out := h2 w_out (by decide) (by decide)
      have a_signed := h2 w_signed (by decide) (by decide)
      have a_meets := h2 w_meets (by decide) (by decide)
      simp only [a_pace, a_bag, a_drill, a_minute, a_crowd, a_other, a_long, a_number, a_post, a_out, a_signed, a_meets, Bool.false_eq_true, if_false, if_true] at eq0 el0 el1 el2
      rw [eq0]
      refine ⟨fun z => (by rw [a_meets] at z; cases z), fun _ => ?_, fun _ i hi => ?_⟩
      · rcases hk3 with rfl | rfl | rfl
        · rw [el0]; exact Or.inl ⟨⟨by decide, by decide, by unfold alw; decide⟩, by decide, by decide⟩
        · rw [el1]; exact Or.inl ⟨⟨by decide, by decide, by unfold alw; decide⟩, by decide, by decide⟩
        · rw [el2]; exact Or.inl ⟨⟨by decide, by decide, by unfold alw; decide⟩, by decide, by decide⟩
      · have : i = 1 := by omega
        subst this; exact h1
    · have a_drill : isW T n q w_drill = true := h1
      have a_pace := h2 w_pace (by decide) (by decide)
      have a_bag := h2 w_bag (by decide) (by decide)
      have a_minute := h2 w_minute (by decide) (by decide)
      have a_crowd := h2 w_crowd (by decide) (by decide)
      have a_other := h2 w_other (by decide) (by decide)
      have a_long := h2 w_long (by decide) (by decide)
      have a_number := h2 w_number (by decide) (by decide)
      have a_post := h2 w_post (by decide) (by decide)
      have a_out := h2 w_out (by decide) (by decide)
      have a_signed := h2 w_signed (by decide) (by decide)
      have a_meets := h2 w_meets (by decide) (by decide)
      simp only [a_pace, a_bag, a_drill, a_minute, a_crowd, a_other, a_long, a_number, a_post, a_out, a_signed, a_meets, Bool.false_eq_true, if_false, if_true] at eq0 el0 el1 el2
      rw [eq0]
      refine ⟨fun z => (by rw [a_meets] at z; cases z), fun _ => ?_, fun _ i hi => ?_⟩
      · rcases hk3 with rfl | rfl | rfl
        · rw [el0]; exact Or.inl ⟨⟨by decide, by decide, by unfold alw; decide⟩, by decide, by decide⟩
        · rw [el1]; exact Or.inl ⟨⟨by decide, by decide, by unfold alw; decide⟩, by decide, by decide⟩
        · rw [el2]; exact Or.inl ⟨⟨by decide, by decide, by unfold alw; decide⟩, by decide, by decide⟩
      · have : i = 2 := by omega
        subst this; exact h1
    · have a_minute : isW T n q w_minute = true := h1
      have a_pace := h2 w_pace (by decide) (by decide)
      have a_bag := h2 w_bag (by decide) (by decide)
      have a_drill := h2 w_drill (by decide) (by decide)
      have a_crowd := h2 w_crowd (by decide) (by decide)
      have a_other := h2 w_other (by decide) (by decide)
      have a_long := h2 w_long (by decide) (by decide)
      have a_number := h2 w_number (by decide) (by decide)
      have a_post := h2 w_post (by decide) (by decide)
      have a_out := h2 w_out (by decide) (by decide)
      have a_signed := h2 w_signed (by decide) (by decide)
      have a_meets := h2 w_meets (by decide) (by decide)
      simp only [a_pace, a_bag, a_drill, a_minute, a_crowd, a_other, a_long, a_number, a_post, a_out, a_signed, a_meets, Bool.false_eq_true, if_false, if_true] at eq0 el0 el1 el2
      rw [eq0]
      refine ⟨fun z => (by rw [a_meets] at z; cases z), fun _ => ?_, fun _ i hi => ?_⟩
      · rcases hk3 with rfl | rfl | rfl
        · rw [el0]; exact Or.inl ⟨⟨by decide, by decide, by unfold alw; decide⟩, by decide, by decide⟩
        · rw [el1]; exact Or.inr ⟨fun z => absurd z.2.2 (by unfold alw; decide), rfl, by decide⟩
        · rw [el2]; exact Or.inr ⟨fun z => absurd z.2.2 (by unfold alw; decide), rfl, by decide⟩
      · have : i = 3 := by omega
        subst this; exact h1
    · have a_crowd : isW T n q w_crowd = true := h1
      have a_pace := h2 w_pace (by decide) (by decide)
      have a_bag := h2 w_bag (by decide) (by decide)
      have a_drill := h2 w_drill (by decide) (by decide)
      have a_minute := h2 w_minute (by decide) (by decide)
      have a_other := h2 w_other (by decide) (by decide)
      have a_long := h2 w_long (by decide) (by decide)
      have a_number := h2 w_number (by decide) (by decide)
      have a_post := h2 w_post (by decide) (by decide)
      have a_out := h2 w_out (by decide) (by decide)
      have a_signed := h2 w_signed (by decide) (by decide)
      have a_meets := h2 w_meets (by decide) (by decide)
      simp only [a_pace, a_bag, a_drill, a_minute, a_crowd, a_other, a_long, a_number, a_post, a_out, a_signed, a_meets, Bool.false_eq_true, if_false, if_true] at eq0 el0 el1 el2
      rw [eq0]
      refine ⟨fun z => (by rw [a_meets] at z; cases z), fun _ => ?_, fun _ i hi => ?_⟩
      · rcases hk3 with rfl | rfl | rfl
        · rw [el0]; exact Or.inl ⟨⟨by decide, by decide, by unfold alw; decide⟩, by decide, by decide⟩
        · rw [el1]; exact Or.inr ⟨fun z => absurd z.2.2 (by unfold alw; decide), rfl, by decide⟩
        · rw [el2]; exact Or.inr ⟨fun z => absurd z.2.2 (by unfold alw; decide), rfl, by decide⟩
      · have : i = 4 := by omega
        subst this; exact h1
    · have a_other : isW T n q w_other = true := h1
      have a_pace := h2 w_pace (by decide) (by decide)
      have a_bag := h2 w_bag (by decide) (by decide)
      have a_drill := h2 w_drill (by decide) (by decide)
      have a_minute := h2 w_minute (by decide) (by decide)
      have a_crowd := h2 w_crowd (by decide) (by decide)
      have a_long := h2 w_long (by decide) (by decide)
      have a_number := h2 w_number (by decide) (by decide)
      have a_post := h2 w_post (by decide) (by decide)
      have a_out := h2 w_out (by decide) (by decide)
      have a_signed := h2 w_signed (by decide) (by decide)
      have a_meets := h2 w_meets (by decide) (by decide)
      simp only [a_pace, a_bag, a_drill, a_minute, a_crowd, a_other, a_long, a_number, a_post, a_out, a_signed, a_meets, Bool.false_eq_true, if_false, if_true] at eq0 el0 el1 el2
      rw [eq0]
      refine ⟨fun z => (by rw [a_meets] at z; cases z), fun _ => ?_, fun _ i hi => ?_⟩
      · rcases hk3 with rfl | rfl | rfl
        · rw [el0]; exact Or.inr ⟨fun z => absurd z.2.2 (by unfold alw; decide), rfl, by decide⟩
        · rw [el1]; exact Or.inl ⟨⟨by decide, by decide, by unfold alw; decide⟩, by decide, by decide⟩
        · rw [el2]; exact Or.inr ⟨fun z => absurd z.2.2 (by unfold alw; decide), rfl, by decide⟩
      · have : i = 5 := by omega
        subst this; exact h1
    · have a_long : isW T n q w_long = true := h1
      have a_pace := h2 w_pace (by decide) (by decide)
      have a_bag := h2 w_bag (by decide) (by decide)
      have a_drill := h2 w_drill (by decide) (by decide)
      have a_minute := h2 w_minute (by decide) (by decide)
      have a_crowd := h2 w_crowd (by decide) (by decide)
      have a_other := h2 w_other (by decide) (by decide)
      have a_number := h2 w_number (by decide) (by decide)
      have a_post := h2 w_post (by decide) (by decide)
      have a_out := h2 w_out (by decide) (by decide)
      have a_signed := h2 w_signed (by decide) (by decide)
      have a_meets := h2 w_meets (by decide) (by decide)
      simp only [a_pace, a_bag, a_drill, a_minute, a_crowd, a_other, a_long, a_number, a_post, a_out, a_signed, a_meets, Bool.false_eq_true, if_false, if_true] at eq0 el0 el1 el2
      rw [eq0]
      refine ⟨fun z => (by rw [a_meets] at z; cases z), fun _ => ?_, fun _ i hi => ?_⟩
      · rcases hk3 with rfl | rfl | rfl
        · rw [el0]; exact Or.inr ⟨fun z => absurd z.2.2 (by unfold alw; decide), rfl, by decide⟩
        · rw [el1]; exact Or.inl ⟨⟨by decide, by decide, by unfold alw; decide⟩, by decide, by decide⟩
        · rw [el2]; exact Or.inr ⟨fun z => absurd z.2.2 (by unfold alw; decide), rfl, by decide⟩
      · have : i = 6 := by omega
        subst this; exact h1
    · have a_number : isW T n q w_number = true := h1
      have a_pace := h2 w_pace (by decide) (by decide)
      have a_bag := h2 w_bag (by decide) (by decide)
      have a_drill := h2 w_drill (by decide) (by decide)
      have a_minute := h2 w_minute (by decide) (by decide)
      have a_crowd := h2 w_crowd (by decide) (by decide)
      have a_other := h2 w_other (by decide) (by decide)
      have a_long := h2 w_long (by decide) (by decide)
      have a_post := h2 w_post (by decide) (by decide)
      have a_out := h2 w_out (by decide) (by decide)
      have a_signed := h2 w_signed (by decide) (by decide)
      have a_meets := h2 w_meets (by decide) (by decide)
      simp only [a_pace, a_bag, a_drill, a_minute, a_crowd, a_other, a_long, a_number, a_post, a_out, a_signed, a_meets, Bool.false_eq_true, if_false, if_true] at eq0 el0 el1 el2
      rw [eq0]
      refine ⟨fun z => (by rw [a_meets] at z; cases z), fun _ => ?_, fun _ i hi => ?_⟩
      · rcases hk3 with rfl | rfl | rfl
        · rw [el0]; exact Or.inr ⟨fun z => absurd z.2.2 (by unfold alw; decide), rfl, by decide⟩
        · rw [el1]; exact Or.inr ⟨fun z => absurd z.2.2 (by unfold alw; decide), rfl, by decide⟩
        · rw [el2]; exact Or.inl ⟨⟨by decide, by decide, by unfold alw; decide⟩, by decide, by decide⟩
      · have : i = 7 := by omega
        subst this; exact h1
    · have a_post : isW T n q w_post = true := h1
      have a_pace := h2 w_pace (by decide) (by decide)
      have a_bag := h2 w_bag (by decide) (by decide)
      have a_drill := h2 w_drill (by decide) (by decide)
      have a_minute := h2 w_minute (by decide) (by decide)
      have a_crowd := h2 w_crowd (by decide) (by decide)
      have a_other := h2 w_other (by decide) (by decide)
      have a_long := h2 w_long (by decide) (by decide)
      have a_number := h2 w_number (by decide) (by decide)
      have a_out := h2 w_out (by decide) (by decide)
      have a_signed := h2 w_signed (by decide) (by decide)
      have a_meets := h2 w_meets (by decide) (by decide)
      simp only [a_pace, a_bag, a_drill, a_minute, a_crowd, a_other, a_long, a_number, a_post, a_out, a_signed, a_meets, Bool.false_eq_true, if_false, if_true] at eq0 el0 el1 el2
      rw [eq0]
      refine ⟨fun z => (by rw [a_meets] at z; cases z), fun _ => ?_, fun _ i hi => ?_⟩
      · rcases hk3 with rfl | rfl | rfl
        · rw [el0]; exact Or.inr ⟨fun z => absurd z.2.2 (by unfold alw; decide), rfl, by decide⟩
        · rw [el1]; exact Or.inr ⟨fun z => absurd z.2.2 (by unfold alw; decide), rfl, by decide⟩
        · rw [el2]; exact Or.inl ⟨⟨by decide, by decide, by unfold alw; decide⟩, by decide, by decide⟩
      · have : i = 8 := by omega
        subst this; exact h1
    · have a_out : isW T n q w_out = true := h1
      have a_pace := h2 w_pace (by decide) (by decide)
      have a_bag := h2 w_bag (by decide) (by decide)
      have a_drill := h2 w_drill (by decide) (by decide)
      have a_minute := h2 w_minute (by decide) (by decide)
      have a_crowd := h2 w_crowd (by decide) (by decide)
      have a_other := h2 w_other (by decide) (by decide)
      have a_long := h2 w_long (by decide) (by decide)
      have a_number := h2 w_number (by decide) (by decide)
      have a_post := h2 w_post (by decide) (by decide)
      have a_signed := h2 w_signed (by decide) (by decide)
      have a_meets := h2 w_meets (by decide) (by decide)
      simp only [a_pace, a_bag, a_drill, a_minute, a_crowd, a_other, a_long, a_number, a_post, a_out, a_signed, a_meets, Bool.false_eq_true, if_false, if_true] at eq0 el0 el1 el2
      rw [eq0]
      refine ⟨fun z => (by rw [a_meets] at z; cases z), fun _ => ?_, fun _ i hi => ?_⟩
      · rcases hk3 with rfl | rfl | rfl
        · rw [el0]; exact Or.inr ⟨fun z => absurd z.2.2 (by unfold alw; decide), rfl, by decide⟩
        · rw [el1]; exact Or.inr ⟨fun z => absurd z.2.2 (by unfold alw; decide), rfl, by decide⟩
        · rw [el2]; exact Or.inl ⟨⟨by decide, by decide, by unfold alw; decide⟩, by decide, by decide⟩
      · have : i = 9 := by omega
        subst this; exact h1
    · have a_signed : isW T n q w_signed = true := h1
      have a_pace := h2 w_pace (by decide) (by decide)
      have a_bag := h2 w_bag (by decide) (by decide)
      have a_drill := h2 w_drill (by decide) (by decide)
      have a_minute := h2 w_minute (by decide) (by decide)
      have a_crowd := h2 w_crowd (by decide) (by decide)
      have a_other := h2 w_other (by decide) (by decide)
      have a_long := h2 w_long (by decide) (by decide)
      have a_number := h2 w_number (by decide) (by decide)
      have a_post := h2 w_post (by decide) (by decide)
      have a_out := h2 w_out (by decide) (by decide)
      have a_meets := h2 w_meets (by decide) (by decide)
      simp only [a_pace, a_bag, a_drill, a_minute, a_crowd, a_other, a_long, a_number, a_post, a_out, a_signed, a_meets, Bool.false_eq_true, if_false, if_true] at eq0 el0 el1 el2
      rw [eq0]
      refine ⟨fun z => (by rw [a_meets] at z; cases z), fun _ => ?_, fun _ i hi => ?_⟩
      · rcases hk3 with rfl | rfl | rfl
        · rw [el0]; exact Or.inr ⟨fun z => absurd z.2.2 (by unfold alw; decide), rfl, by decide⟩
        · rw [el1]; exact Or.inr ⟨fun z => absurd z.2.2 (by unfold alw; decide), rfl, by decide⟩
        · rw [el2]; exact Or.inl ⟨⟨by decide, by decide, by unfold alw; decide⟩, by decide, by decide⟩
      · have : i = 10 := by omega
        subst this; exact h1
    · have a_meets : isW T n q w_meets = true := h1
      have a_pace := h2 w_pace (by decide) (by decide)
      have a_bag := h2 w_bag (by decide) (by decide)
      have a_drill := h2 w_drill (by decide) (by decide)
      have a_minute := h2 w_minute (by decide) (by decide)
      have a_crowd := h2 w_crowd (by decide) (by decide)
      have a_other := h2 w_other (by decide) (by decide)
      have a_long := h2 w_long (by decide) (by decide)
      have a_number := h2 w_number (by decide) (by decide)
      have a_post := h2 w_post (by decide) (by decide)
      have a_out := h2 w_out (by decide) (by decide)
      have a_signed := h2 w_signed (by decide) (by decide)
      simp only [a_pace, a_bag, a_drill, a_minute, a_crowd, a_other, a_long, a_number, a_post, a_out, a_signed, a_meets, Bool.false_eq_true, if_false, if_true] at eq0 el0 el1 el2
      rw [eq0]
      refine ⟨fun _ => ⟨rfl, ?_⟩, fun z => (by rw [a_meets] at z; cases z), fun _ i hi => ?_⟩
      · rcases hk3 with rfl | rfl | rfl
        · exact el0
        · exact el1
        · exact el2
      · have : i = 11 := by omega
        subst this; exact h1
end RFA
