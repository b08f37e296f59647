section RCL
variable {L : Nat} {X : Nat → Int} {M M1 M0 : ax_M} {T : Nat → Int} {n k op : Nat} {q q' : PS} {C C' V V' W tl : List Int} {was b bv : Int} {Q : ax_M → Prop}
theorem len1 {Y : List Int} {t : Int} : (Y ++ [t]).length = Y.length + 1 := by simp
def Ctx (V : List Int) (bv : Int) : Prop := (V = [] ∧ bv = -1) ∨ (∃ V0, V = V0 ++ [bv] ∧ brk bv)
theorem asc : W ++ (V ++ [b] ++ tl) = W ++ V ++ [b] ++ tl := by rw [← List.append_assoc, ← List.append_assoc]
theorem hbrC (hE : Env n k M0) (hc : Ctx V bv) (htl : sml tl) : ∀ M1, SX T n k W M0 q C (V ++ tl) op M1 → ax_Ev L X SH 1 268 [(2, 142)] M1 (R1 0 (fun x M' => x = bv ∧ M' = M1)) := by
  intro M1 h
  have hq1 := h.1.2.2.2.2.2.2.2.1
  have hl := h.1.2.2.2.2.2.2.1
  have hn := hE.1
  have hy := h.1.2.2.1
  rcases hc with ⟨rfl, rfl⟩ | ⟨V0, rfl, hb⟩
  · exact m268n hy (by omega) (h.fix hE) h.1.2.2.2.2.1 (sml_nb htl)
  · rw [asc] at hy hl
    exact m268 hy (by omega) (h.fix hE) h.1.2.2.2.2.1 (by rw [List.length_append]; omega) hb (sml_nb htl)
theorem kg_close (hE : Env n k M0) (h : SX T n k W M0 q C (V ++ [b] ++ tl) (op + 1) M) (htl : sml tl) (hb : b = 20 ∨ b = 23 ∨ b = 24) (hg : isG T n q 41 = true) (hk : ∀ M1, SX T n k W M0 (nx T n q) (C ++ tl.reverse ++ (if b = 20 then [] else if b = 23 then [5] else [6])) V op M1 → KE L X was Q M1) : KG L X was Q M := by
  intro v1
  have hbk : brk b := by unfold brk; omega
  have hbr := hbrC (L := L) (X := X) (T := T) (q := q) (C := C) (op := op + 1) (W := W) hE (Or.inr ⟨V, rfl, hbk⟩) htl
  have hF := h.fix hE
  have hq1 := h.1.2.2.2.2.2.2.2.1
  have hlen := h.1.2.2.2.2.2.2.1
  have hn := hE.1
  have hlt := isG_lt hg
  have g1 := nx_gt (T := T) hlt
  have hC := at275
  have hlk := (lkG (T := T) (n := n) (q := q) sg41).2 hg
  have el : (W ++ (V ++ [b] ++ tl)).length = (W ++ V).length + 1 + tl.length := by simp <;> omega
  have fin : ∀ M2, SX T n k W M0 q C (V ++ [b] ++ tl) (op + 1) M2 → M2 142 2 = (q.1 : Int) → ax_G L X SH 5 275 19 [(2, 142), v1] [] M2 (R1 0 (K21 L X was Q)) := by
    intro M2 h2 e2
    have hr3 : RT T n (nx T n q) (ax_up M2 142 2 ((q.1 : Int) + 1)) := h2.1.1.sg (isG_kd3 hg) (Sb.refl.up rfl) (by rw [ax_up_at]; omega)
    have h3 := h2.rt (Sb.refl.up rfl) hr3 (by omega) (wq_nx hq1)
    have hy3 := h3.1.2.2.1
    rw [asc] at hy3
    have eW : (W ++ V ++ [b] ++ tl).length = (W ++ V).length + 1 + tl.length := by simp <;> omega
    have eWV : (W ++ V).length = W.length + V.length := by simp
    have c269 := m269 (L := L) (X := X) (Y0 := W ++ V) (b := b) (bs := W.length) (h3.fix hE) h3.1.2.2.2.2.1 (by omega) hbk (by omega) tl.length tl C _ rfl Sb.refl hy3 h3.1.2.1 (by omega) (sml_nb htl)
    have hw : wok XDP = true := by decide +kernel
    have h26 := h.2.2
    refine g3 hC rfl rfl ?_
    refine g16 hC rfl (by decide) ?_
    refine g19 hC rfl sh142 (flt12 rfl) ft12_2 e2 ?_
    refine g0 hC rfl ?_
    refine g6a hC rfl ⟨by omega, by omega⟩ ?_
    refine g20 hC rfl sh142 (flt12 rfl) (by rw [fy12_2]; rfl) ?_
    refine g3 hC rfl rfl ?_
    refine c0 hC rfl rfl rfl (Nat.le_of_ble_eq_true rfl) (Nat.le_of_ble_eq_true rfl) (mayR k269 rfl) c269 (Nat.le_of_ble_eq_true rfl) (fun M4 hr => ?_)
    obtain ⟨hd0, hd1, hd2⟩ := hr; have e4 : M4 142 112 = (((W ++ V).length + 1 : Nat) : Int) := by rw [hd1.1, List.length_append]; rfl
    refine g3 hC rfl rfl ?_
    refine g16 hC rfl (by decide) ?_
    refine g19 hC rfl sh142 (flt12 rfl) ft12_112 e4 ?_
    refine g0 hC rfl ?_
    refine g6s hC rfl ⟨by omega, by omega⟩ ?_
    refine g20 hC rfl sh142 (flt12 rfl) (by rw [fy12_112]; rfl) ?_
    refine g3 hC rfl rfl ?_
    refine g16 hC rfl (by decide) ?_
    refine g19 hC rfl sh142 (flt12 rfl) ft12_113 ((ax_up_of (by decide)).trans ((hd0 _ _ rfl).trans h3.1.2.2.2.1)) ?_
    refine g0 hC rfl ?_
    refine g6s hC rfl ⟨by omega, by omega⟩ ?_
    refine g20 hC rfl sh142 (flt12 rfl) (by rw [fy12_113]; rfl) ?_
    obtain ⟨M5, hM5⟩ : ∃ M5, M5 = ax_up (ax_up M4 142 112 ((((W ++ V).length + 1 : Nat) : Int) - 1)) 142 113 (((op + 1 : Nat) : Int) - 1) := ⟨_, rfl⟩
    rw [← hM5]
    have hS5 : Sb ([(228, 229)], [(142, 110), (142, 112), (142, 113)]) (ax_up M2 142 2 ((q.1 : Int) + 1)) M5 := by rw [hM5]; exact ((hd0.mono rfl).up rfl).up rfl
    have hy5 : RY M5 (W ++ V) := by
      refine hd1.pop ?_ (fun i => ?_)
      · rw [hM5, ax_up_of (by decide), ax_up_at]; omega
      · rw [hM5, ax_up2n (by decide), ax_up2n (by decide)]
    have hc5 : RC M5 (C ++ tl.reverse) := ⟨by rw [hM5, ax_up_of (by decide), ax_up_of (by decide)]; exact hd2.1, fun i hi => by rw [hM5, ax_up2n (by decide), ax_up2n (by decide)]; exact hd2.2 i hi⟩
    have eb5 : M5 229 (W ++ V).length = b := by
      rw [hM5, ax_up2n (by decide), ax_up2n (by decide), hd1.2 _ (by rw [len1]; omega), apd2]
    have ecl : (C ++ tl.reverse).length = C.length + tl.length := by simp
    have h5 : SX T n k W M0 (nx T n q) (C ++ tl.reverse) V op M5 := h3.nx hS5 rfl rfl (h3.1.1.sb hS5 rfl rfl rfl rfl rfl (fun _ => rfl)) hc5 hy5 (by rw [hM5, ax_up_at]; omega) (by omega) (wq_nx hq1) (by omega)
    have endp : ∀ M6, KE L X was Q M6 → ax_G L X SH 5 275 58 [(2, 142), v1] [] M6 (R1 0 (K21 L X was Q)) := by
      intro M6 hke
      refine g3 hC rfl rfl ?_
      exact c0 hC rfl rfl rfl (Nat.le_of_ble_eq_true rfl) (Nat.le_of_ble_eq_true rfl) (mayR k273 rfl) (show ax_Ev L X SH 4 273 [(2, 142)] M6 _ from hke.2 v1) (Nat.le_of_ble_eq_true rfl) (fun M7 hr => hr)
    have cod : ∀ v : Int, ∀ M6, Sb XCD M5 M6 → RC M6 (C ++ tl.reverse ++ [v]) → SX T n k W M0 (nx T n q) (C ++ tl.reverse ++ [v]) V op M6 := by
      intro v M6 hs6 hc6
      refine h5.nx hs6 rfl rfl (h5.1.1.sb hs6 rfl rfl rfl rfl rfl (fun _ => rfl)) hc6 (hy5.sb hs6 rfl (fun _ => rfl)) ((hs6 _ _ rfl).trans h5.1.2.2.2.1) ?_ (wq_nx hq1) (by omega)
      rw [List.length_append]; show (C ++ tl.reverse).length + 1 + _ ≤ _; omega
    refine g3 hC rfl rfl ?_
    refine g19 hC rfl sh142 (flt12 rfl) ft12_111 ((h5.fix hE).g fx_142_111) ?_
    refine g3 hC rfl rfl ?_
    refine g19 hC rfl sh142 (flt12 rfl) ft12_112 hy5.1 ?_
    refine r21 ((W ++ V).length) hC rfl rfl sh229 (Or.inl rfl) (by omega) eb5 ?_
    refine g0 hC rfl ?_
    refine g13e hC rfl (fun z => ?_) (fun z => ?_)
    · rw [if_pos z, List.append_nil] at hk
      exact endp _ (hk _ h5)
    · rw [if_neg z] at hk
      refine g3 hC rfl rfl ?_
      refine g3 hC rfl rfl ?_
      refine g19 hC rfl sh142 (flt12 rfl) ft12_111 ((h5.fix hE).g fx_142_111) ?_
      refine g3 hC rfl rfl ?_
      refine g19 hC rfl sh142 (flt12 rfl) ft12_112 hy5.1 ?_
      refine r21 ((W ++ V).length) hC rfl rfl sh229 (Or.inl rfl) (by omega) eb5 ?_
      refine g0 hC rfl ?_
      refine g13n hC rfl (fun y => ?_) (fun y => ?_)
      · rw [if_neg y] at hk
        refine g0 hC rfl ?_
        exact c0 hC rfl rfl rfl (Nat.le_of_ble_eq_true rfl) (Nat.le_of_ble_eq_true rfl) (mayR k263 rfl) (m263 hc5 (by omega) (h5.fix hE)) (Nat.le_of_ble_eq_true rfl) (fun M6 hr => endp _ (hk _ (cod 6 M6 hr.1 hr.2)))
      · rw [if_pos (by omega)] at hk
        refine g0 hC rfl ?_
        refine g14 hC rfl ?_
        exact c0 hC rfl rfl rfl (Nat.le_of_ble_eq_true rfl) (Nat.le_of_ble_eq_true rfl) (mayR k263 rfl) (m263 hc5 (by omega) (h5.fix hE)) (Nat.le_of_ble_eq_true rfl) (fun M6 hr => endp _ (hk _ (cod 5 M6 hr.1 hr.2)))
  refine g3 hC rfl rfl ?_
  refine g19 hC rfl sh142 (flt12 rfl) ft12_5 h.1.1.2.2.2.2.1 ?_
  refine g12n hC rfl (fun h2 => (by omega)) (fun h2 => ?_)
  refine g3 hC rfl rfl ?_
  refine c1 hC rfl rfl rfl (Nat.le_of_ble_eq_true rfl) (Nat.le_of_ble_eq_true rfl) (mayR k159 rfl) (m159 hF hE.1 h.1.1 hq1) (Nat.le_of_ble_eq_true rfl) (fun x M2 hr => ?_)
  obtain ⟨rfl, hr0, hr1⟩ := hr; have h2 := h.lk hr0 hr1
  refine g0 hC rfl ?_
  refine g13n hC rfl (fun h6 => (by omega)) (fun h6 => ?_)
  refine g3 hC rfl rfl ?_
  refine c1 hC rfl rfl rfl (Nat.le_of_ble_eq_true rfl) (Nat.le_of_ble_eq_true rfl) (mayR k268 rfl) (hbr _ h2) (Nat.le_of_ble_eq_true rfl) (fun x M2 hr => ?_)
  obtain ⟨rfl, hr⟩ := hr
  replace hr := hr.symm
  subst hr
  refine g0 hC rfl ?_
  refine g13e hC rfl (fun h10 => ?_) (fun h10 => ?_)
  ·
    exact fin _ h2 hr1
  ·
    refine g3 hC rfl rfl ?_
    refine c1 hC rfl rfl rfl (Nat.le_of_ble_eq_true rfl) (Nat.le_of_ble_eq_true rfl) (mayR k268 rfl) (hbr _ h2) (Nat.le_of_ble_eq_true rfl) (fun x M2 hr => ?_)
    obtain ⟨rfl, hr⟩ := hr
    replace hr := hr.symm
    subst hr
    refine g0 hC rfl ?_
    refine g13e hC rfl (fun h14 => ?_) (fun h14 => ?_)
    ·
      exact fin _ h2 hr1
    ·
      refine g3 hC rfl rfl ?_
      refine c1 hC rfl rfl rfl (Nat.le_of_ble_eq_true rfl) (Nat.le_of_ble_eq_true rfl) (mayR k268 rfl) (hbr _ h2) (Nat.le_of_ble_eq_true rfl) (fun x M2 hr => ?_)
      obtain ⟨rfl, hr⟩ := hr
      replace hr := hr.symm
      subst hr
      refine g0 hC rfl ?_
      refine g13n hC rfl (fun h18 => (by omega)) (fun h18 => ?_)
      exact fin _ h2 hr1
theorem kg_comma (hE : Env n k M0) (h : SX T n k W M0 q C (V ++ [b] ++ tl) op M) (htl : sml tl) (hb : b = 21 ∨ b = 22) (e42 : isG T n q 42 = false) (e47 : isG T n q 47 = false) (e43 : isG T n q 43 = false) (e45 : isG T n q 45 = false) (hf : isG T n q 44 = false → KF L X was Q M0 1 (q.1 : Int)) (hk : isG T n q 44 = true → ∀ M1, SX T n k W M0 (nx T n q) (C ++ tl.reverse) (V ++ [b + 2]) op M1 → KP L X was Q M1) : KG L X was Q M := by
  have hbk : brk b := by unfold brk; omega
  have hbr := hbrC (L := L) (X := X) (T := T) (q := q) (C := C) (op := op) (W := W) hE (Or.inr ⟨V, rfl, hbk⟩) htl
  refine kg_161 hE h hbr (Or.inr (by omega)) e42 e47 e43 e45 (fun M v1 h hat => ?_)
  have hF := h.fix hE
  have hq1 := h.1.2.2.2.2.2.2.2.1
  have hlen := h.1.2.2.2.2.2.2.1
  have hn := hE.1
  have h26 := h.2.2
  have hC := at275
  have el : (W ++ (V ++ [b] ++ tl)).length = (W ++ V).length + 1 + tl.length := by simp <;> omega
  have fin : ax_G L X SH 5 275 169 [(2, 142), v1] [] M (R1 0 (K21 L X was Q)) := by
    cases hg : isG T n q 44 with
    | false =>
      refine g3 hC rfl rfl ?_
      refine g0 hC rfl ?_
      refine c0 hC rfl rfl rfl (Nat.le_of_ble_eq_true rfl) (Nat.le_of_ble_eq_true rfl) (mayR k164 rfl) (m164 hF hn h.1.1 hq1 sg44) (Nat.le_of_ble_eq_true rfl) (fun M2 hr => ?_)
      obtain ⟨hr0, hr1⟩ := hr
      refine g3 hC rfl rfl ?_
      unfold sgR at hr1; rw [if_neg (by rw [hg]; decide)] at hr1
      have hb2 : BF 1 (q.1 : Int) M2 := by { rcases hr1 with ⟨f, p, e, _, y⟩ | ⟨e, _⟩; cases e; exact y; cases e }
      refine g19 hC rfl sh142 (flt12 rfl) ft12_5 hb2.1 ?_
      refine g12e hC rfl (fun h174 => (by omega)) (fun h174 => ?_)
      refine g0 hC rfl ?_
      refine ret3 hC rfl ⟨by omega, by omega⟩ ?_
      have hbs : BS 1 (q.1 : Int) M2 := h.bs hE (by decide) hb2 (Or.inl (hr0 142 110 rfl))
      exact k21_0 (hf hg M2 hbs (h.2.1.then hr0 rfl))
    | true =>
      have hlt := isG_lt hg
      have g1 := nx_gt (T := T) hlt
      refine g3 hC rfl rfl ?_
      refine g0 hC rfl ?_
      refine c0 hC rfl rfl rfl (Nat.le_of_ble_eq_true rfl) (Nat.le_of_ble_eq_true rfl) (mayR k164 rfl) (m164 hF hn h.1.1 hq1 sg44) (Nat.le_of_ble_eq_true rfl) (fun M2 hr => ?_)
      obtain ⟨hr0, hr1⟩ := hr
      refine g3 hC rfl rfl ?_
      unfold sgR at hr1; rw [if_pos hg] at hr1
      have hrt : RT T n (nx T n q) M2 := by { rcases hr1 with ⟨f, p, e, _, y⟩ | ⟨_, y, _⟩; cases e; exact y }
      have h3 := h.rt hr0 hrt (by omega) (wq_nx hq1)
      have hy3 := h3.1.2.2.1; rw [asc] at hy3
      have eW : (W ++ V ++ [b] ++ tl).length = (W ++ V).length + 1 + tl.length := by simp <;> omega
      have eWV : (W ++ V).length = W.length + V.length := by simp
      have c269 := m269 (L := L) (X := X) (Y0 := W ++ V) (b := b) (bs := W.length) (h3.fix hE) h3.1.2.2.2.2.1 (by omega) hbk (by omega) tl.length tl C _ rfl Sb.refl hy3 h3.1.2.1 (by omega) (sml_nb htl)
      refine g19 hC rfl sh142 (flt12 rfl) ft12_5 hrt.2.2.2.2.1 ?_
      refine g12e hC rfl (fun h174 => ?_) (fun h174 => (by omega))
      refine g3 hC rfl rfl ?_
      refine c0 hC rfl rfl rfl (Nat.le_of_ble_eq_true rfl) (Nat.le_of_ble_eq_true rfl) (mayR k269 rfl) c269 (Nat.le_of_ble_eq_true rfl) (fun M4 hr => ?_)
      obtain ⟨hd0, hd1, hd2⟩ := hr; have e4 : M4 142 112 = (((W ++ V).length + 1 : Nat) : Int) := by rw [hd1.1, List.length_append]; rfl
      have eb4 : M4 229 (W ++ V).length = b := by rw [hd1.2 _ (by rw [len1]; omega), apd2]
      have hF4 : Fix M4 := hd0.fix (by decide +kernel) (h3.fix hE)
      refine g3 hC rfl rfl ?_
      refine g19 hC rfl sh142 (flt12 rfl) ft12_111 (hF4.g fx_142_111) ?_
      refine g3 hC rfl rfl ?_
      refine g19 hC rfl sh142 (flt12 rfl) ft12_112 e4 ?_
      refine g0 hC rfl ?_
      refine g6s hC rfl ⟨by omega, by omega⟩ ?_
      refine g17 hC rfl (by decide) ?_
      refine r21 ((W ++ V).length) hC rfl (by omega) sh229 (Or.inl rfl) (by omega) eb4 ?_
      refine g0 hC rfl ?_
      refine g6a hC rfl ⟨by omega, by omega⟩ ?_
      refine r22 ((W ++ V).length) hC rfl (by omega) sh229 (by omega) rfl ?_
      refine g0 hC rfl ?_
      refine ret3 hC rfl ⟨by omega, by omega⟩ ?_
      have hS5 : Sb ([(228, 230)], [(142, 110), (142, 112)]) M2 (ax_up M4 229 (W ++ V).length (b + 2)) := (hd0.mono rfl).up rfl
      have ecl : (C ++ tl.reverse).length = C.length + tl.length := by simp
      have h5 : SX T n k W M0 (nx T n q) (C ++ tl.reverse) (V ++ [b + 2]) op (ax_up M4 229 (W ++ V).length (b + 2)) := by
        refine h3.nx hS5 rfl rfl (h3.1.1.sb hS5 rfl rfl rfl rfl rfl (fun _ => rfl)) ⟨(ax_up2n (by decide)).trans hd2.1, fun i hi => (ax_up2n (by decide)).trans (hd2.2 i hi)⟩ ?_ ?_ ?_ (wq_nx hq1) (by omega)
        · rw [← List.append_assoc]
          refine ⟨?_, fun i hi => ?_⟩
          · rw [ax_up2n (by decide), e4, len1]
          · rw [List.length_append] at hi
            have hi : i < (W ++ V).length + 1 := hi
            rw [ax_upf]; unfold up
            by_cases z : i = (W ++ V).length
            · rw [if_pos z, z, apd2]
            · rw [if_neg z, apd1 (by omega), hd1.2 i (by rw [len1]; omega), apd1 (by omega)]
        · rw [ax_up2n (by decide)]; exact (hd0 _ _ rfl).trans h3.1.2.2.2.1
        · rw [← List.append_assoc, List.length_append (as := W ++ V)]; show _ + ((W ++ V).length + 1) ≤ _; omega
      exact k21_1 h5.1.1.2.2.2.2.1 (hk hg _ h5)
  refine g3 hC rfl rfl ?_
  refine c1 hC rfl rfl rfl (Nat.le_of_ble_eq_true rfl) (Nat.le_of_ble_eq_true rfl) (mayR k268 rfl) (hbr _ h) (Nat.le_of_ble_eq_true rfl) (fun x M2 hr => ?_)
  obtain ⟨rfl, hr⟩ := hr
  replace hr := hr.symm
  subst hr
  refine g0 hC rfl ?_
  refine g13e hC rfl (fun h164 => ?_) (fun h164 => ?_)
  ·
    exact fin
  ·
    refine g3 hC rfl rfl ?_
    refine c1 hC rfl rfl rfl (Nat.le_of_ble_eq_true rfl) (Nat.le_of_ble_eq_true rfl) (mayR k268 rfl) (hbr _ h) (Nat.le_of_ble_eq_true rfl) (fun x M2 hr => ?_)
    obtain ⟨rfl, hr⟩ := hr
    replace hr := hr.symm
    subst hr
    refine g0 hC rfl ?_
    refine g13n hC rfl (fun h168 => (by omega)) (fun h168 => ?_)
    exact fin
theorem kg_fail (hE : Env n k M0) (h : SX T n k W M0 q C (V ++ [b] ++ tl) op M) (htl : sml tl) (hb : b = 20 ∨ b = 23 ∨ b = 24) (e41 : isG T n q 41 = false) (e42 : isG T n q 42 = false) (e47 : isG T n q 47 = false) (e43 : isG T n q 43 = false) (e45 : isG T n q 45 = false) (hf : KF L X was Q M0 1 (q.1 : Int)) : KG L X was Q M := by
  have hbk : brk b := by unfold brk; omega
  have hbr := hbrC (L := L) (X := X) (T := T) (q := q) (C := C) (op := op) (W := W) hE (Or.inr ⟨V, rfl, hbk⟩) htl
  refine kg_161 hE h hbr (Or.inl e41) e42 e47 e43 e45 (fun M v1 h hat => ?_)
  have hC := at275
  refine g3 hC rfl rfl ?_
  refine c1 hC rfl rfl rfl (Nat.le_of_ble_eq_true rfl) (Nat.le_of_ble_eq_true rfl) (mayR k268 rfl) (hbr _ h) (Nat.le_of_ble_eq_true rfl) (fun x M2 hr => ?_)
  obtain ⟨rfl, hr⟩ := hr
  replace hr := hr.symm
  subst hr
  refine g0 hC rfl ?_
  refine g13e hC rfl (fun h164 => (by omega)) (fun h164 => ?_)
  refine g3 hC rfl rfl ?_
  refine c1 hC rfl rfl rfl (Nat.le_of_ble_eq_true rfl) (Nat.le_of_ble_eq_true rfl) (mayR k268 rfl) (hbr _ h) (Nat.le_of_ble_eq_true rfl) (fun x M2 hr => ?_)
  obtain ⟨rfl, hr⟩ := hr
  replace hr := hr.symm
  subst hr
  refine g0 hC rfl ?_
  refine g13n hC rfl (fun h168 => ?_) (fun h168 => (by omega))
  refine g3 hC rfl rfl ?_
  refine c1 hC rfl rfl rfl (Nat.le_of_ble_eq_true rfl) (Nat.le_of_ble_eq_true rfl) (mayR k268 rfl) (hbr _ h) (Nat.le_of_ble_eq_true rfl) (fun x M2 hr => ?_)
  obtain ⟨rfl, hr⟩ := hr
  replace hr := hr.symm
  subst hr
  refine g0 hC rfl ?_
  refine g13e hC rfl (fun h195 => (by omega)) (fun h195 => ?_)
  refine g3 hC rfl rfl ?_
  refine g19 hC rfl sh142 (flt12 rfl) ft12_5 h.1.1.2.2.2.2.1 ?_
  refine g12n hC rfl (fun h198 => (by omega)) (fun h198 => ?_)
  refine g3 hC rfl rfl ?_
  refine g0 hC rfl ?_
  refine g3 hC rfl rfl ?_
  refine g19 hC rfl sh142 (flt12 rfl) ft12_2 hat ?_
  refine c0 hC rfl rfl rfl (Nat.le_of_ble_eq_true rfl) (Nat.le_of_ble_eq_true rfl) (mayR k156 rfl) (m156 h.1.1.2.2.2.2.1) (Nat.le_of_ble_eq_true rfl) (fun M2 hr => ?_)
  replace hr := hr.symm; subst hr
  refine g0 hC rfl ?_
  refine ret3 hC rfl ⟨by omega, by omega⟩ ?_
  have hbs : BS 1 (q.1 : Int) (ax_up (ax_up M 142 5 1) 142 6 (q.1 : Int)) := h.bs hE (by decide) BF.up (Or.inl (by rw [ax_up_of (by decide), ax_up_of (by decide)]))
  exact k21_0 (hf _ hbs (h.2.1.trans ((Sb.refl.up rfl).up rfl)))
theorem kg_exit (hE : Env n k M0) (h : SX T n k W M0 q C tl op M) (htl : sml tl) (e42 : isG T n q 42 = false) (e47 : isG T n q 47 = false) (e43 : isG T n q 43 = false) (e45 : isG T n q 45 = false) (hk : ∀ M1, SX T n k W M0 q C tl op M1 → K24 L X was Q M1) : KG L X was Q M := by
  have hbr := hbrC (L := L) (X := X) (T := T) (q := q) (C := C) (op := op) (W := W) (V := []) hE (Or.inl ⟨rfl, rfl⟩) htl
  refine kg_161 hE h hbr (Or.inr (by omega)) e42 e47 e43 e45 (fun M v1 h hat => ?_)
  have hC := at275
  refine g3 hC rfl rfl ?_
  refine c1 hC rfl rfl rfl (Nat.le_of_ble_eq_true rfl) (Nat.le_of_ble_eq_true rfl) (mayR k268 rfl) (hbr _ h) (Nat.le_of_ble_eq_true rfl) (fun x M2 hr => ?_)
  obtain ⟨rfl, hr⟩ := hr
  replace hr := hr.symm
  subst hr
  refine g0 hC rfl ?_
  refine g13e hC rfl (fun h164 => (by omega)) (fun h164 => ?_)
  refine g3 hC rfl rfl ?_
  refine c1 hC rfl rfl rfl (Nat.le_of_ble_eq_true rfl) (Nat.le_of_ble_eq_true rfl) (mayR k268 rfl) (hbr _ h) (Nat.le_of_ble_eq_true rfl) (fun x M2 hr => ?_)
  obtain ⟨rfl, hr⟩ := hr
  replace hr := hr.symm
  subst hr
  refine g0 hC rfl ?_
  refine g13n hC rfl (fun h168 => ?_) (fun h168 => (by omega))
  refine g3 hC rfl rfl ?_
  refine c1 hC rfl rfl rfl (Nat.le_of_ble_eq_true rfl) (Nat.le_of_ble_eq_true rfl) (mayR k268 rfl) (hbr _ h) (Nat.le_of_ble_eq_true rfl) (fun x M2 hr => ?_)
  obtain ⟨rfl, hr⟩ := hr
  replace hr := hr.symm
  subst hr
  refine g0 hC rfl ?_
  refine g13e hC rfl (fun h195 => ?_) (fun h195 => (by omega))
  refine g0 hC rfl ?_
  refine ret3 hC rfl ⟨by omega, by omega⟩ ?_
  exact k21_0 (hk _ h)
theorem k24_x (hE : Env n k M0) : ∀ (m : Nat) (tl C : List Int) (M : ax_M), tl.length = m → SX T n k W M0 q C tl op M → (∀ M1, SX T n k W M0 q (C ++ tl.reverse) [] op M1 → Q (ax_up M1 142 114 was)) → ax_G L X SH 6 276 27 [(2, 142), (0, was), (0, 0)] [] M (R0 Q) := by
  have hC := at276
  intro m
  induction m with
  | zero =>
    intro tl C M ht h hk
    have et : tl = [] := List.eq_nil_of_length_eq_zero ht
    subst et
    rw [List.reverse_nil, List.append_nil] at hk
    have hy := h.1.2.2.1
    rw [List.append_nil] at hy
    refine g3 hC rfl rfl ?_
    refine g19 hC rfl sh142 (flt12 rfl) ft12_5 h.1.1.2.2.2.2.1 ?_
    refine g12n hC rfl (fun h29 => (by omega)) (fun h29 => ?_)
    refine g3 hC rfl rfl ?_
    refine g19 hC rfl sh142 (flt12 rfl) ft12_112 hy.1 ?_
    refine g3 hC rfl rfl ?_
    refine g19 hC rfl sh142 (flt12 rfl) ft12_114 h.1.2.2.2.2.1 ?_
    refine g13s hC rfl (fun h34 => ?_) (fun h34 => (by omega))
    refine g3 hC rfl rfl ?_
    refine g3 hC rfl rfl ?_
    refine g20 hC rfl sh142 (flt12 rfl) (by rw [fy12_114]; rfl) ?_
    refine ret0 hC rfl ?_
    exact hk _ h
  | succ m ih =>
    intro tl C M ht h hk
    obtain ⟨t0, t, et⟩ : ∃ t0 t, tl = t0 ++ [t] := ⟨tl.dropLast, tl.getLast (by intro z; rw [z] at ht; cases ht), (List.dropLast_concat_getLast _).symm⟩
    subst et
    have e1 : (t0 ++ [t]).length = t0.length + 1 := by simp
    have hy := h.1.2.2.1
    have hl := h.1.2.2.2.2.2.2.1
    have hq1 := h.1.2.2.2.2.2.2.2.1
    have hn := hE.1
    have hF := h.fix hE
    have e2 : (W ++ (t0 ++ [t])).length = (W ++ t0).length + 1 := by simp <;> omega
    have e3 : (W ++ t0).length = W.length + t0.length := by simp
    have hy2 := hy
    rw [← List.append_assoc] at hy2
    refine g3 hC rfl rfl ?_
    refine g19 hC rfl sh142 (flt12 rfl) ft12_5 h.1.1.2.2.2.2.1 ?_
    refine g12n hC rfl (fun h29 => (by omega)) (fun h29 => ?_)
    refine g3 hC rfl rfl ?_
    refine g19 hC rfl sh142 (flt12 rfl) ft12_112 hy.1 ?_
    refine g3 hC rfl rfl ?_
    refine g19 hC rfl sh142 (flt12 rfl) ft12_114 h.1.2.2.2.2.1 ?_
    refine g13s hC rfl (fun h34 => (by omega)) (fun h34 => ?_)
    refine g3 hC rfl rfl ?_
    refine c0 hC rfl rfl rfl (Nat.le_of_ble_eq_true rfl) (Nat.le_of_ble_eq_true rfl) (mayR k266 rfl) (m266 hy2 (by omega) h.1.2.1 (by omega) hF) (Nat.le_of_ble_eq_true rfl) (fun M2 hr => ?_)
    refine g14 hC rfl ?_
    refine ih t0 (C ++ [t]) M2 (by omega) (h.pop hr.1 hr.2.1 hr.2.2) ?_
    rw [List.append_assoc]; rw [List.reverse_append] at hk; exact hk
theorem k24_g (hE : Env n k M0) (h : SX T n k W M0 q C tl op M) (hk : ∀ M1, SX T n k W M0 q (C ++ tl.reverse) [] op M1 → Q (ax_up M1 142 114 was)) : K24 L X was Q M := by
  have hC := at276
  have key := k24_x (L := L) (X := X) (was := was) hE tl.length tl C M rfl h hk
  unfold K24
  refine g0 hC rfl ?_
  refine s2 hC rfl rfl rfl ?_
  refine g14 hC rfl ?_
  refine g3 hC rfl rfl ?_
  refine g12e hC rfl (fun h10 => ?_) (fun h10 => (by omega))
  exact key
theorem k24_f {f p : Int} (hb : BS f p M) (hk : Q (ax_up M 142 114 was)) : K24 L X was Q M := by
  have hC := at276
  have hb1 : ¬ M 142 5 = 0 := by rw [hb.1.1]; exact hb.2.1
  unfold K24
  refine g0 hC rfl ?_
  refine s2 hC rfl rfl rfl ?_
  refine g14 hC rfl ?_
  refine g3 hC rfl rfl ?_
  refine g12e hC rfl (fun h10 => ?_) (fun h10 => (by omega))
  refine g3 hC rfl rfl ?_
  refine g19 hC rfl sh142 (flt12 rfl) ft12_5 (Eq.refl (M 142 5)) ?_
  refine g12n hC rfl (fun h29 => ?_) (fun h29 => (by omega))
  refine g3 hC rfl rfl ?_
  refine g3 hC rfl rfl ?_
  refine g20 hC rfl sh142 (flt12 rfl) (by rw [fy12_114]; rfl) ?_
  refine ret0 hC rfl ?_
  exact hk
end RCL
