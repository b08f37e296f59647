def top (Y : List Int) : Int := if Y.length = 0 then -1 else Y.getD (Y.length - 1) 0
def sml (tl : List Int) : Prop := ∀ t ∈ tl, 1 ≤ t ∧ t ≤ 4
section RGN
variable {L : Nat} {X : Nat → Int} {M M1 M0 : ax_M} {T : Nat → Int} {n k op : Nat} {q q' : PS} {C C' V V' W : List Int} {was : Int} {Q : ax_M → Prop}
theorem top_s {Y : List Int} {t : Int} : top (Y ++ [t]) = t := by
  unfold top
  rw [show (Y ++ [t]).length = Y.length + 1 by simp, if_neg (by omega), Nat.add_sub_cancel, apd2]
theorem top_a {t : Int} : top (W ++ (V ++ [t])) = t := by rw [← List.append_assoc, top_s]
theorem sml_nb {tl : List Int} (h : sml tl) : ∀ i, i < tl.length → ¬ brk (tl.getD i 0) := by
  intro i hi
  have e : tl.getD i 0 = tl[i] := by rw [List.getD_eq_getElem?_getD, List.getElem?_eq_getElem hi]; rfl
  have := h _ (List.getElem_mem hi)
  rw [e]; unfold brk; omega
theorem m265t {Y : List Int} (hy : RY M Y) (hl : Y.length ≤ 1700) (hF : Fix M) {v : Int} (hv : ¬ v = -1) : ax_Ev L X SH 0 265 [(2, 142), (0, v)] M (R1 0 (fun x M' => ((top Y = v ∧ x = 1) ∨ (¬ top Y = v ∧ x = 0)) ∧ M' = M)) := by
  refine (m265 hy hl hF).imp (fun r M' hp => ?_)
  obtain ⟨x, e, hx, hM⟩ := hp
  refine ⟨x, e, ?_, hM⟩
  unfold top
  by_cases z : Y.length = 0
  · rw [if_pos z]; rcases hx with y | y
    · omega
    · exact Or.inr ⟨by omega, y.2⟩
  · rw [if_neg z]; rcases hx with y | y
    · exact Or.inl ⟨y.2.1, y.2.2⟩
    · exact Or.inr ⟨fun w => y.1 ⟨by omega, w⟩, y.2⟩
theorem SX.pop {t : Int} (h : SX T n k W M0 q C (V ++ [t]) op M) (hS : Sb XDP M M1) (hy : RY M1 (W ++ V)) (hc : RC M1 (C ++ [t])) : SX T n k W M0 q (C ++ [t]) V op M1 := by
  have hl := h.1.2.2.2.2.2.2.1
  rw [← List.append_assoc] at hl
  refine h.nx hS rfl rfl (h.1.1.sb hS rfl rfl rfl rfl rfl (fun _ => rfl)) hc hy ((hS _ _ rfl).trans h.1.2.2.2.1) ?_ h.1.2.2.2.2.2.2.2 h.2.2
  rw [List.length_append] at hl ⊢
  have : ([t] : List Int).length = 1 := rfl
  omega
theorem l82p {t o : Int} (hE : Env n k M0) (h : SX T n k W M0 q C (V ++ [t]) op M) (ht : t = 3 ∨ t = 4) (hk : ∀ M1, SX T n k W M0 q (C ++ [t]) V op M1 → ax_G L X SH 5 275 82 [(2, 142), (0, o)] [] M1 (R1 0 (K21 L X was Q))) : ax_G L X SH 5 275 82 [(2, 142), (0, o)] [] M (R1 0 (K21 L X was Q)) := by
  have hF := h.fix hE
  have hl := h.1.2.2.2.2.2.2.1
  have hq1 := h.1.2.2.2.2.2.2.2.1
  have hn := hE.1
  have hy := h.1.2.2.1
  have htop : top (W ++ (V ++ [t])) = t := top_a
  have hy2 := hy
  rw [← List.append_assoc] at hy2
  have el : (W ++ (V ++ [t])).length = (W ++ V).length + 1 := by simp <;> omega
  have hC := at275
  refine g3 hC rfl rfl ?_
  refine g0 hC rfl ?_
  refine c1 hC rfl rfl rfl (Nat.le_of_ble_eq_true rfl) (Nat.le_of_ble_eq_true rfl) (mayR k265 rfl) (m265t hy (by omega) hF (by decide)) (Nat.le_of_ble_eq_true rfl) (fun x MX hr => ?_)
  obtain ⟨hx, hr⟩ := hr; replace hr := hr.symm; subst hr
  refine g12n hC rfl (fun h85 => ?_) (fun h85 => ?_)
  ·
    refine g3 hC rfl rfl ?_
    refine c0 hC rfl rfl rfl (Nat.le_of_ble_eq_true rfl) (Nat.le_of_ble_eq_true rfl) (mayR k266 rfl) (m266 hy2 (by omega) h.1.2.1 (by omega) hF) (Nat.le_of_ble_eq_true rfl) (fun M2 hr => ?_)
    refine g14 hC rfl ?_
    exact hk _ (h.pop hr.1 hr.2.1 hr.2.2)
  ·
    refine g3 hC rfl rfl ?_
    refine g0 hC rfl ?_
    refine c1 hC rfl rfl rfl (Nat.le_of_ble_eq_true rfl) (Nat.le_of_ble_eq_true rfl) (mayR k265 rfl) (m265t hy (by omega) hF (by decide)) (Nat.le_of_ble_eq_true rfl) (fun y MX hr => ?_)
    obtain ⟨hy3, hr⟩ := hr; replace hr := hr.symm; subst hr
    refine g12e hC rfl (fun h89 => (by omega)) (fun h89 => ?_)
    refine g3 hC rfl rfl ?_
    refine c0 hC rfl rfl rfl (Nat.le_of_ble_eq_true rfl) (Nat.le_of_ble_eq_true rfl) (mayR k266 rfl) (m266 hy2 (by omega) h.1.2.1 (by omega) hF) (Nat.le_of_ble_eq_true rfl) (fun M2 hr => ?_)
    refine g14 hC rfl ?_
    exact hk _ (h.pop hr.1 hr.2.1 hr.2.2)
theorem l82 {o : Int} (hE : Env n k M0) (h : SX T n k W M0 q C V op M) (hl : C.length + (W ++ V).length + 1 ≤ q.1) (h3 : ¬ top (W ++ V) = 3) (h4 : ¬ top (W ++ V) = 4) (hk : ∀ M1, SX T n k W M0 q C (V ++ [o]) op M1 → KP L X was Q M1) : ax_G L X SH 5 275 82 [(2, 142), (0, o)] [] M (R1 0 (K21 L X was Q)) := by
  have hF := h.fix hE
  have hq1 := h.1.2.2.2.2.2.2.2.1
  have hn := hE.1
  have hy := h.1.2.2.1
  have hC := at275
  have hw : wok XOP = true := by decide +kernel
  have hS : Sb XOP M M := Sb.refl
  refine g3 hC rfl rfl ?_
  refine g0 hC rfl ?_
  refine c1 hC rfl rfl rfl (Nat.le_of_ble_eq_true rfl) (Nat.le_of_ble_eq_true rfl) (mayR k265 rfl) (m265t hy (by omega) hF (by decide)) (Nat.le_of_ble_eq_true rfl) (fun x MX hr => ?_)
  obtain ⟨hx, hr⟩ := hr; replace hr := hr.symm; subst hr
  refine g12n hC rfl (fun h85 => (by omega)) (fun h85 => ?_)
  refine g3 hC rfl rfl ?_
  refine g0 hC rfl ?_
  refine c1 hC rfl rfl rfl (Nat.le_of_ble_eq_true rfl) (Nat.le_of_ble_eq_true rfl) (mayR k265 rfl) (m265t hy (by omega) hF (by decide)) (Nat.le_of_ble_eq_true rfl) (fun y MX hr => ?_)
  obtain ⟨hy3, hr⟩ := hr; replace hr := hr.symm; subst hr
  refine g12e hC rfl (fun h89 => ?_) (fun h89 => (by omega))
  refine g3 hC rfl rfl ?_
  refine g19 hC rfl sh142 (flt12 rfl) ft12_111 ((hS.fix hw hF).g fx_142_111) ?_
  refine g3 hC rfl rfl ?_
  refine g19 hC rfl sh142 (flt12 rfl) ft12_112 hy.1 ?_
  refine g3 hC rfl rfl ?_
  refine r22s ((W ++ V).length) hC rfl (by omega) sh229 (by omega) rfl hS rfl (fun hS => ?_)
  refine g3 hC rfl rfl ?_
  refine g16 hC rfl (by decide) ?_
  refine g19 hC rfl sh142 (flt12 rfl) ft12_112 ((ax_up2n (by decide)).trans hy.1) ?_
  refine g0 hC rfl ?_
  refine g6a hC rfl ⟨by omega, by omega⟩ ?_
  refine g20s hC rfl sh142 (flt12 rfl) (by rw [fy12_112]; rfl) hS rfl (fun hS => ?_)
  refine g0 hC rfl ?_
  refine ret3 hC rfl ⟨by omega, by omega⟩ ?_
  have hs2 : SX T n k W M0 q C (V ++ [o]) op (ax_up (ax_up M 229 (W ++ V).length o) 142 112 (((W ++ V).length : Int) + 1)) := by
    refine h.nx hS rfl rfl (h.1.1.sb hS rfl rfl rfl rfl rfl (fun _ => rfl)) (h.1.2.1.sb hS rfl (fun _ => rfl)) ?_ ?_ ?_ h.1.2.2.2.2.2.2.2 h.2.2
    · rw [← List.append_assoc]
      refine hy.push ax_up_at (fun i => ?_)
      rw [ax_up2n (by decide), ax_upf]; rfl
    · rw [ax_up_of (by decide), ax_up2n (by decide)]; exact h.1.2.2.2.1
    · rw [← List.append_assoc, List.length_append]; show C.length + ((W ++ V).length + 1) ≤ _; omega
  exact k21_1 hs2.1.1.2.2.2.2.1 (hk _ hs2)
theorem l128p {t o : Int} (hE : Env n k M0) (h : SX T n k W M0 q C (V ++ [t]) op M) (ht : 1 ≤ t ∧ t ≤ 4) (hk : ∀ M1, SX T n k W M0 q (C ++ [t]) V op M1 → ax_G L X SH 5 275 128 [(2, 142), (0, o)] [] M1 (R1 0 (K21 L X was Q))) : ax_G L X SH 5 275 128 [(2, 142), (0, o)] [] M (R1 0 (K21 L X was Q)) := by
  have hF := h.fix hE
  have hl := h.1.2.2.2.2.2.2.1
  have hq1 := h.1.2.2.2.2.2.2.2.1
  have hn := hE.1
  have hy := h.1.2.2.1
  have htop : top (W ++ (V ++ [t])) = t := top_a
  have hy2 := hy
  rw [← List.append_assoc] at hy2
  have el : (W ++ (V ++ [t])).length = (W ++ V).length + 1 := by simp <;> omega
  have hC := at275
  refine g3 hC rfl rfl ?_
  refine g0 hC rfl ?_
  refine c1 hC rfl rfl rfl (Nat.le_of_ble_eq_true rfl) (Nat.le_of_ble_eq_true rfl) (mayR k265 rfl) (m265t hy (by omega) hF (by decide)) (Nat.le_of_ble_eq_true rfl) (fun x1 MX hr => ?_)
  obtain ⟨hx1, hr⟩ := hr; replace hr := hr.symm; subst hr
  refine g12n hC rfl (fun h131 => ?_) (fun h131 => ?_)
  ·
    refine g3 hC rfl rfl ?_
    refine c0 hC rfl rfl rfl (Nat.le_of_ble_eq_true rfl) (Nat.le_of_ble_eq_true rfl) (mayR k266 rfl) (m266 hy2 (by omega) h.1.2.1 (by omega) hF) (Nat.le_of_ble_eq_true rfl) (fun M2 hr => ?_)
    refine g14 hC rfl ?_
    exact hk _ (h.pop hr.1 hr.2.1 hr.2.2)
  ·
    refine g3 hC rfl rfl ?_
    refine g0 hC rfl ?_
    refine c1 hC rfl rfl rfl (Nat.le_of_ble_eq_true rfl) (Nat.le_of_ble_eq_true rfl) (mayR k265 rfl) (m265t hy (by omega) hF (by decide)) (Nat.le_of_ble_eq_true rfl) (fun x2 MX hr => ?_)
    obtain ⟨hx2, hr⟩ := hr; replace hr := hr.symm; subst hr
    refine g12n hC rfl (fun h135 => ?_) (fun h135 => ?_)
    ·
      refine g3 hC rfl rfl ?_
      refine c0 hC rfl rfl rfl (Nat.le_of_ble_eq_true rfl) (Nat.le_of_ble_eq_true rfl) (mayR k266 rfl) (m266 hy2 (by omega) h.1.2.1 (by omega) hF) (Nat.le_of_ble_eq_true rfl) (fun M2 hr => ?_)
      refine g14 hC rfl ?_
      exact hk _ (h.pop hr.1 hr.2.1 hr.2.2)
    ·
      refine g3 hC rfl rfl ?_
      refine g0 hC rfl ?_
      refine c1 hC rfl rfl rfl (Nat.le_of_ble_eq_true rfl) (Nat.le_of_ble_eq_true rfl) (mayR k265 rfl) (m265t hy (by omega) hF (by decide)) (Nat.le_of_ble_eq_true rfl) (fun x3 MX hr => ?_)
      obtain ⟨hx3, hr⟩ := hr; replace hr := hr.symm; subst hr
      refine g12n hC rfl (fun h139 => ?_) (fun h139 => ?_)
      ·
        refine g3 hC rfl rfl ?_
        refine c0 hC rfl rfl rfl (Nat.le_of_ble_eq_true rfl) (Nat.le_of_ble_eq_true rfl) (mayR k266 rfl) (m266 hy2 (by omega) h.1.2.1 (by omega) hF) (Nat.le_of_ble_eq_true rfl) (fun M2 hr => ?_)
        refine g14 hC rfl ?_
        exact hk _ (h.pop hr.1 hr.2.1 hr.2.2)
      ·
        refine g3 hC rfl rfl ?_
        refine g0 hC rfl ?_
        refine c1 hC rfl rfl rfl (Nat.le_of_ble_eq_true rfl) (Nat.le_of_ble_eq_true rfl) (mayR k265 rfl) (m265t hy (by omega) hF (by decide)) (Nat.le_of_ble_eq_true rfl) (fun x4 MX hr => ?_)
        obtain ⟨hx4, hr⟩ := hr; replace hr := hr.symm; subst hr
        refine g12e hC rfl (fun h143 => (by omega)) (fun h143 => ?_)
        refine g3 hC rfl rfl ?_
        refine c0 hC rfl rfl rfl (Nat.le_of_ble_eq_true rfl) (Nat.le_of_ble_eq_true rfl) (mayR k266 rfl) (m266 hy2 (by omega) h.1.2.1 (by omega) hF) (Nat.le_of_ble_eq_true rfl) (fun M2 hr => ?_)
        refine g14 hC rfl ?_
        exact hk _ (h.pop hr.1 hr.2.1 hr.2.2)
theorem l128 {o : Int} (hE : Env n k M0) (h : SX T n k W M0 q C V op M) (hl : C.length + (W ++ V).length + 1 ≤ q.1) (h3 : ¬ (1 ≤ top (W ++ V) ∧ top (W ++ V) ≤ 4)) (hk : ∀ M1, SX T n k W M0 q C (V ++ [o]) op M1 → KP L X was Q M1) : ax_G L X SH 5 275 128 [(2, 142), (0, o)] [] M (R1 0 (K21 L X was Q)) := by
  have hF := h.fix hE
  have hq1 := h.1.2.2.2.2.2.2.2.1
  have hn := hE.1
  have hy := h.1.2.2.1
  have hC := at275
  have hw : wok XOP = true := by decide +kernel
  have hS : Sb XOP M M := Sb.refl
  refine g3 hC rfl rfl ?_
  refine g0 hC rfl ?_
  refine c1 hC rfl rfl rfl (Nat.le_of_ble_eq_true rfl) (Nat.le_of_ble_eq_true rfl) (mayR k265 rfl) (m265t hy (by omega) hF (by decide)) (Nat.le_of_ble_eq_true rfl) (fun x1 MX hr => ?_)
  obtain ⟨hx1, hr⟩ := hr; replace hr := hr.symm; subst hr
  refine g12n hC rfl (fun h131 => (by omega)) (fun h131 => ?_)
  refine g3 hC rfl rfl ?_
  refine g0 hC rfl ?_
  refine c1 hC rfl rfl rfl (Nat.le_of_ble_eq_true rfl) (Nat.le_of_ble_eq_true rfl) (mayR k265 rfl) (m265t hy (by omega) hF (by decide)) (Nat.le_of_ble_eq_true rfl) (fun x2 MX hr => ?_)
  obtain ⟨hx2, hr⟩ := hr; replace hr := hr.symm; subst hr
  refine g12n hC rfl (fun h135 => (by omega)) (fun h135 => ?_)
  refine g3 hC rfl rfl ?_
  refine g0 hC rfl ?_
  refine c1 hC rfl rfl rfl (Nat.le_of_ble_eq_true rfl) (Nat.le_of_ble_eq_true rfl) (mayR k265 rfl) (m265t hy (by omega) hF (by decide)) (Nat.le_of_ble_eq_true rfl) (fun x3 MX hr => ?_)
  obtain ⟨hx3, hr⟩ := hr; replace hr := hr.symm; subst hr
  refine g12n hC rfl (fun h139 => (by omega)) (fun h139 => ?_)
  refine g3 hC rfl rfl ?_
  refine g0 hC rfl ?_
  refine c1 hC rfl rfl rfl (Nat.le_of_ble_eq_true rfl) (Nat.le_of_ble_eq_true rfl) (mayR k265 rfl) (m265t hy (by omega) hF (by decide)) (Nat.le_of_ble_eq_true rfl) (fun x4 MX hr => ?_)
  obtain ⟨hx4, hr⟩ := hr; replace hr := hr.symm; subst hr
  refine g12e hC rfl (fun h143 => ?_) (fun h143 => (by omega))
  refine g3 hC rfl rfl ?_
  refine g19 hC rfl sh142 (flt12 rfl) ft12_111 ((hS.fix hw hF).g fx_142_111) ?_
  refine g3 hC rfl rfl ?_
  refine g19 hC rfl sh142 (flt12 rfl) ft12_112 hy.1 ?_
  refine g3 hC rfl rfl ?_
  refine r22s ((W ++ V).length) hC rfl (by omega) sh229 (by omega) rfl hS rfl (fun hS => ?_)
  refine g3 hC rfl rfl ?_
  refine g16 hC rfl (by decide) ?_
  refine g19 hC rfl sh142 (flt12 rfl) ft12_112 ((ax_up2n (by decide)).trans hy.1) ?_
  refine g0 hC rfl ?_
  refine g6a hC rfl ⟨by omega, by omega⟩ ?_
  refine g20s hC rfl sh142 (flt12 rfl) (by rw [fy12_112]; rfl) hS rfl (fun hS => ?_)
  refine g0 hC rfl ?_
  refine ret3 hC rfl ⟨by omega, by omega⟩ ?_
  have hs2 : SX T n k W M0 q C (V ++ [o]) op (ax_up (ax_up M 229 (W ++ V).length o) 142 112 (((W ++ V).length : Int) + 1)) := by
    refine h.nx hS rfl rfl (h.1.1.sb hS rfl rfl rfl rfl rfl (fun _ => rfl)) (h.1.2.1.sb hS rfl (fun _ => rfl)) ?_ ?_ ?_ h.1.2.2.2.2.2.2.2 h.2.2
    · rw [← List.append_assoc]
      refine hy.push ax_up_at (fun i => ?_)
      rw [ax_up2n (by decide), ax_upf]; rfl
    · rw [ax_up_of (by decide), ax_up2n (by decide)]; exact h.1.2.2.2.1
    · rw [← List.append_assoc, List.length_append]; show C.length + ((W ++ V).length + 1) ≤ _; omega
  exact k21_1 hs2.1.1.2.2.2.2.1 (hk _ hs2)
theorem l128s {o : Int} (hE : Env n k M0) (h3 : ¬ (1 ≤ top (W ++ V) ∧ top (W ++ V) ≤ 4)) : ∀ (m : Nat) (tl C : List Int) (M : ax_M), tl.length = m → sml tl → SX T n k W M0 q C (V ++ tl) op M → C.length + (W ++ (V ++ tl)).length + 1 ≤ q.1 → (∀ M1, SX T n k W M0 q (C ++ tl.reverse) (V ++ [o]) op M1 → KP L X was Q M1) → ax_G L X SH 5 275 128 [(2, 142), (0, o)] [] M (R1 0 (K21 L X was Q)) := by
  intro m
  induction m with
  | zero =>
    intro tl C M ht hs h hl hk
    have et : tl = [] := List.eq_nil_of_length_eq_zero ht
    subst et
    rw [List.append_nil] at h hl
    rw [List.reverse_nil, List.append_nil] at hk
    exact l128 hE h hl h3 hk
  | succ m ih =>
    intro tl C M ht hs h hl hk
    obtain ⟨t0, t, et⟩ : ∃ t0 t, tl = t0 ++ [t] := ⟨tl.dropLast, tl.getLast (by intro z; rw [z] at ht; cases ht), (List.dropLast_concat_getLast _).symm⟩
    subst et
    have e1 : (t0 ++ [t]).length = t0.length + 1 := by simp
    rw [← List.append_assoc] at h
    refine l128p hE h (hs t (by simp)) (fun M1 h1 => ?_)
    refine ih t0 (C ++ [t]) M1 (by omega) (fun x hx => hs x (by simp [hx])) h1 ?_ ?_
    · have e2 : (W ++ (V ++ (t0 ++ [t]))).length = (W ++ (V ++ t0)).length + 1 := by simp <;> omega
      have e3 : (C ++ [t]).length = C.length + 1 := by simp
      omega
    · rw [List.append_assoc]; rw [List.reverse_append] at hk; exact hk
theorem kg_61 {bv : Int} (hE : Env n k M0) (h : SX T n k W M0 q C V op M) (hbr : ∀ M1, SX T n k W M0 q C V op M1 → ax_Ev L X SH 1 268 [(2, 142)] M1 (R1 0 (fun x M' => x = bv ∧ M' = M1))) (hno : isG T n q 41 = false ∨ (bv ≠ 20 ∧ bv ≠ 23 ∧ bv ≠ 24)) (hk : ∀ M1 v1, SX T n k W M0 q C V op M1 → ax_G L X SH 5 275 61 [(2, 142), v1] [] M1 (R1 0 (K21 L X was Q))) : KG L X was Q M := by
  intro v1
  have hF := h.fix hE
  have hq1 := h.1.2.2.2.2.2.2.2.1
  have hC := at275
  have hlk := lkG (T := T) (n := n) (q := q) sg41
  have hno2 : lk T n q = 41 → bv ≠ 20 ∧ bv ≠ 23 ∧ bv ≠ 24 := by
    intro z; rcases hno with y | y
    · rw [hlk.1 z] at y; cases y
    · exact y
  refine g3 hC rfl rfl ?_
  refine g19 hC rfl sh142 (flt12 rfl) ft12_5 h.1.1.2.2.2.2.1 ?_
  refine g12n hC rfl (fun h2 => (by omega)) (fun h2 => ?_)
  refine g3 hC rfl rfl ?_
  refine c1 hC rfl rfl rfl (Nat.le_of_ble_eq_true rfl) (Nat.le_of_ble_eq_true rfl) (mayR k159 rfl) (m159 hF hE.1 h.1.1 hq1) (Nat.le_of_ble_eq_true rfl) (fun x M2 hr => ?_)
  obtain ⟨rfl, hr0, hr1⟩ := hr; have h2 := h.lk hr0 hr1
  refine g0 hC rfl ?_
  refine g13n hC rfl (fun h6 => ?_) (fun h6 => ?_)
  ·
    exact hk _ _ h2
  ·
    refine g3 hC rfl rfl ?_
    refine c1 hC rfl rfl rfl (Nat.le_of_ble_eq_true rfl) (Nat.le_of_ble_eq_true rfl) (mayR k268 rfl) (hbr _ h2) (Nat.le_of_ble_eq_true rfl) (fun x M2 hr => ?_)
    obtain ⟨rfl, hr⟩ := hr
    replace hr := hr.symm
    subst hr
    refine g0 hC rfl ?_
    refine g13e hC rfl (fun h10 => (by have := hno2 (by omega); omega)) (fun h10 => ?_)
    refine g3 hC rfl rfl ?_
    refine c1 hC rfl rfl rfl (Nat.le_of_ble_eq_true rfl) (Nat.le_of_ble_eq_true rfl) (mayR k268 rfl) (hbr _ h2) (Nat.le_of_ble_eq_true rfl) (fun x M2 hr => ?_)
    obtain ⟨rfl, hr⟩ := hr
    replace hr := hr.symm
    subst hr
    refine g0 hC rfl ?_
    refine g13e hC rfl (fun h14 => (by have := hno2 (by omega); omega)) (fun h14 => ?_)
    refine g3 hC rfl rfl ?_
    refine c1 hC rfl rfl rfl (Nat.le_of_ble_eq_true rfl) (Nat.le_of_ble_eq_true rfl) (mayR k268 rfl) (hbr _ h2) (Nat.le_of_ble_eq_true rfl) (fun x M2 hr => ?_)
    obtain ⟨rfl, hr⟩ := hr
    replace hr := hr.symm
    subst hr
    refine g0 hC rfl ?_
    refine g13n hC rfl (fun h18 => ?_) (fun h18 => (by have := hno2 (by omega); omega))
    exact hk _ _ h2
theorem isG_two {c d : Int} (h : isG T n q c = true) (hne : c ≠ d) : isG T n q d = false := by
  cases e : isG T n q d with
  | false => rfl
  | true => exact absurd ((of_decide_eq_true h).2.symm.trans (of_decide_eq_true e).2) hne
theorem tk_T {c : Int} (hE : Env n k M0) (h : SX T n k W M0 q C V op M) (hg : isG T n q c = true) (hS : Sb XLK M M1) (hr : RT T n (nx T n q) M1) : SX T n k W M0 (nx T n q) C V op M1 ∧ M1 143 q.1 = c := by
  have g1 := nx_gt (T := T) (isG_lt hg)
  have hq1 := h.1.2.2.2.2.2.2.2.1
  have hlt := isG_lt hg
  refine ⟨h.rt (hS.mono rfl) hr (by omega) (wq_nx hq1), ?_⟩
  rw [hr.2.2.2.1 q.1 (by have := hE.1; omega)]; exact (of_decide_eq_true hg).2
theorem kg_mul {bv : Int} {pm : List Int} (hE : Env n k M0) (h : SX T n k W M0 q C (V ++ pm) op M) (hbr : ∀ M1, SX T n k W M0 q C (V ++ pm) op M1 → ax_Ev L X SH 1 268 [(2, 142)] M1 (R1 0 (fun x M' => x = bv ∧ M' = M1))) (hpm : pm = [] ∨ pm = [3] ∨ pm = [4]) (h3 : ¬ top (W ++ V) = 3) (h4 : ¬ top (W ++ V) = 4) (hg : isG T n q 42 = true ∨ isG T n q 47 = true) (hk : ∀ M1, SX T n k W M0 (nx T n q) (C ++ pm) (V ++ [if isG T n q 42 = true then 3 else 4]) op M1 → KP L X was Q M1) : KG L X was Q M := by
  have hlt : q.1 < n := by rcases hg with z | z <;> exact isG_lt z
  have g1 := nx_gt (T := T) hlt
  refine kg_61 hE h hbr (Or.inl (by rcases hg with z | z <;> exact isG_two z (by decide))) (fun M v1 h => ?_)
  have hlen := h.1.2.2.2.2.2.2.1
  have hF := h.fix hE
  have hq1 := h.1.2.2.2.2.2.2.2.1
  have hn := hE.1
  have hC := at275
  have hw : wok XLK = true := by decide +kernel
  have hS : Sb XLK M M := Sb.refl
  have fin : ∀ (o : Int) M2, o = (if isG T n q 42 = true then 3 else 4) → SX T n k W M0 (nx T n q) C (V ++ pm) op M2 → ax_G L X SH 5 275 82 [(2, 142), (0, o)] [] M2 (R1 0 (K21 L X was Q)) := by
    intro o M2 ho h2
    rw [← ho] at hk
    rcases hpm with rfl | rfl | rfl
    · rw [List.append_nil] at h2 hk hlen
      exact l82 hE h2 (by omega) h3 h4 hk
    · have el : (W ++ (V ++ [3])).length = (W ++ V).length + 1 := by simp <;> omega
      have ec : (C ++ [(3 : Int)]).length = C.length + 1 := by simp
      exact l82p hE h2 (Or.inl rfl) (fun M3 h5 => l82 hE h5 (by omega) h3 h4 hk)
    · have el : (W ++ (V ++ [4])).length = (W ++ V).length + 1 := by simp <;> omega
      have ec : (C ++ [(4 : Int)]).length = C.length + 1 := by simp
      exact l82p hE h2 (Or.inr rfl) (fun M3 h5 => l82 hE h5 (by omega) h3 h4 hk)
  cases e42 : isG T n q 42 with
  | true =>
    refine g3 hC rfl rfl ?_
    refine g0 hC rfl ?_
    refine c1 hC rfl rfl rfl (Nat.le_of_ble_eq_true rfl) (Nat.le_of_ble_eq_true rfl) (mayR k163 rfl) (m163 hF hn h.1.1 hq1 sg42) (Nat.le_of_ble_eq_true rfl) (fun x M2 hr => ?_)
    obtain ⟨hr0, hr1⟩ := hr; have hr2 : x = 1 ∧ RT T n (nx T n q) M2 ∧ M2 142 2 = ((q.1 + 1 : Nat) : Int) := by rcases hr1 with y | y; exact y.2; rw [e42] at y; cases y.1
    have h2 := tk_T hE h e42 hr0 hr2.2.1
    refine g12n hC rfl (fun h64 => ?_) (fun h64 => (by omega))
    refine g3 hC rfl rfl ?_
    refine g19 hC rfl sh142 (flt12 rfl) ft12_0 ((h2.1.fix hE).g fx_142_0) ?_
    refine g3 hC rfl rfl ?_
    refine g19 hC rfl sh142 (flt12 rfl) ft12_2 hr2.2.2 ?_
    refine g0 hC rfl ?_
    refine g6s hC rfl ⟨by omega, by omega⟩ ?_
    refine r21 (q.1) hC rfl (by omega) sh143 (Or.inl rfl) (by omega) h2.2 ?_
    refine g0 hC rfl ?_
    refine g13n hC rfl (fun h77 => (by omega)) (fun h77 => ?_)
    refine g0 hC rfl ?_
    refine g14 hC rfl ?_
    refine s1 hC rfl rfl rfl ?_
    exact fin 3 _ (by rw [e42]; rfl) h2.1
  | false =>
    have e47 : isG T n q 47 = true := by rcases hg with z | z; rw [e42] at z; cases z; exact z
    refine g3 hC rfl rfl ?_
    refine g0 hC rfl ?_
    refine c1 hC rfl rfl rfl (Nat.le_of_ble_eq_true rfl) (Nat.le_of_ble_eq_true rfl) (mayR k163 rfl) (m163 hF hn h.1.1 hq1 sg42) (Nat.le_of_ble_eq_true rfl) (fun x M1 hr => ?_)
    obtain ⟨hs0, hs1⟩ := hr; have hs2 : x = 0 ∧ SX T n k W M0 q C (V ++ pm) op M1 := by rcases hs1 with y | y; rw [e42] at y; cases y.1; exact ⟨y.2.1, h.lk hs0 y.2.2.2⟩
    refine g12n hC rfl (fun h64 => (by omega)) (fun h64 => ?_)
    refine g3 hC rfl rfl ?_
    refine g0 hC rfl ?_
    refine c1 hC rfl rfl rfl (Nat.le_of_ble_eq_true rfl) (Nat.le_of_ble_eq_true rfl) (mayR k163 rfl) (m163 (hs2.2.fix hE) hn hs2.2.1.1 hq1 sg47) (Nat.le_of_ble_eq_true rfl) (fun y M2 hr => ?_)
    obtain ⟨hr0, hr1⟩ := hr; have hr2 : y = 1 ∧ RT T n (nx T n q) M2 ∧ M2 142 2 = ((q.1 + 1 : Nat) : Int) := by rcases hr1 with z | z; exact z.2; rw [e47] at z; cases z.1
    have h2 := tk_T hE hs2.2 e47 hr0 hr2.2.1
    refine g12e hC rfl (fun h68 => (by omega)) (fun h68 => ?_)
    refine g3 hC rfl rfl ?_
    refine g19 hC rfl sh142 (flt12 rfl) ft12_0 ((h2.1.fix hE).g fx_142_0) ?_
    refine g3 hC rfl rfl ?_
    refine g19 hC rfl sh142 (flt12 rfl) ft12_2 hr2.2.2 ?_
    refine g0 hC rfl ?_
    refine g6s hC rfl ⟨by omega, by omega⟩ ?_
    refine r21 (q.1) hC rfl (by omega) sh143 (Or.inl rfl) (by omega) h2.2 ?_
    refine g0 hC rfl ?_
    refine g13n hC rfl (fun h77 => ?_) (fun h77 => (by omega))
    refine g0 hC rfl ?_
    refine s1 hC rfl rfl rfl ?_
    exact fin 4 _ (by rw [e42]; rfl) h2.1
theorem kg_107 {bv : Int} (hE : Env n k M0) (h : SX T n k W M0 q C V op M) (hbr : ∀ M1, SX T n k W M0 q C V op M1 → ax_Ev L X SH 1 268 [(2, 142)] M1 (R1 0 (fun x M' => x = bv ∧ M' = M1))) (hno : isG T n q 41 = false ∨ (bv ≠ 20 ∧ bv ≠ 23 ∧ bv ≠ 24)) (e42 : isG T n q 42 = false) (e47 : isG T n q 47 = false) (hk : ∀ M1 v1, SX T n k W M0 q C V op M1 → ax_G L X SH 5 275 107 [(2, 142), v1] [] M1 (R1 0 (K21 L X was Q))) : KG L X was Q M := by
  refine kg_61 hE h hbr hno (fun M v1 h => ?_)
  have hF := h.fix hE
  have hq1 := h.1.2.2.2.2.2.2.2.1
  have hn := hE.1
  have hC := at275
  refine g3 hC rfl rfl ?_
  refine g0 hC rfl ?_
  refine c1 hC rfl rfl rfl (Nat.le_of_ble_eq_true rfl) (Nat.le_of_ble_eq_true rfl) (mayR k163 rfl) (m163 hF hn h.1.1 hq1 sg42) (Nat.le_of_ble_eq_true rfl) (fun x M1 hr => ?_)
  obtain ⟨hs0, hs1⟩ := hr; have hs2 : x = 0 ∧ SX T n k W M0 q C V op M1 := by rcases hs1 with y | y; rw [e42] at y; cases y.1; exact ⟨y.2.1, h.lk hs0 y.2.2.2⟩
  refine g12n hC rfl (fun h64 => (by omega)) (fun h64 => ?_)
  refine g3 hC rfl rfl ?_
  refine g0 hC rfl ?_
  refine c1 hC rfl rfl rfl (Nat.le_of_ble_eq_true rfl) (Nat.le_of_ble_eq_true rfl) (mayR k163 rfl) (m163 (hs2.2.fix hE) hn hs2.2.1.1 hq1 sg47) (Nat.le_of_ble_eq_true rfl) (fun y M2 hr => ?_)
  obtain ⟨hr0, hr1⟩ := hr; have hr2 : y = 0 ∧ SX T n k W M0 q C V op M2 := by rcases hr1 with z | z; rw [e47] at z; cases z.1; exact ⟨z.2.1, hs2.2.lk hr0 z.2.2.2⟩
  refine g12e hC rfl (fun h68 => ?_) (fun h68 => (by omega))
  exact hk _ _ hr2.2
theorem kg_add {bv : Int} {tl : List Int} (hE : Env n k M0) (h : SX T n k W M0 q C (V ++ tl) op M) (hbr : ∀ M1, SX T n k W M0 q C (V ++ tl) op M1 → ax_Ev L X SH 1 268 [(2, 142)] M1 (R1 0 (fun x M' => x = bv ∧ M' = M1))) (htl : sml tl) (h3 : ¬ (1 ≤ top (W ++ V) ∧ top (W ++ V) ≤ 4)) (hg : isG T n q 43 = true ∨ isG T n q 45 = true) (hk : ∀ M1, SX T n k W M0 (nx T n q) (C ++ tl.reverse) (V ++ [if isG T n q 43 = true then 1 else 2]) op M1 → KP L X was Q M1) : KG L X was Q M := by
  have hlt : q.1 < n := by rcases hg with z | z <;> exact isG_lt z
  have g1 := nx_gt (T := T) hlt
  refine kg_107 hE h hbr (Or.inl (by rcases hg with z | z <;> exact isG_two z (by decide))) (by rcases hg with z | z <;> exact isG_two z (by decide)) (by rcases hg with z | z <;> exact isG_two z (by decide)) (fun M v1 h => ?_)
  have hlen := h.1.2.2.2.2.2.2.1
  have hF := h.fix hE
  have hq1 := h.1.2.2.2.2.2.2.2.1
  have hn := hE.1
  have hC := at275
  have fin : ∀ (o : Int) M2, o = (if isG T n q 43 = true then 1 else 2) → SX T n k W M0 (nx T n q) C (V ++ tl) op M2 → ax_G L X SH 5 275 128 [(2, 142), (0, o)] [] M2 (R1 0 (K21 L X was Q)) := by
    intro o M2 ho h2
    rw [← ho] at hk
    exact l128s hE h3 tl.length tl C M2 rfl htl h2 (by omega) hk
  cases e42 : isG T n q 43 with
  | true =>
    refine g3 hC rfl rfl ?_
    refine g0 hC rfl ?_
    refine c1 hC rfl rfl rfl (Nat.le_of_ble_eq_true rfl) (Nat.le_of_ble_eq_true rfl) (mayR k163 rfl) (m163 hF hn h.1.1 hq1 sg43) (Nat.le_of_ble_eq_true rfl) (fun x M2 hr => ?_)
    obtain ⟨hr0, hr1⟩ := hr; have hr2 : x = 1 ∧ RT T n (nx T n q) M2 ∧ M2 142 2 = ((q.1 + 1 : Nat) : Int) := by rcases hr1 with y | y; exact y.2; rw [e42] at y; cases y.1
    have h2 := tk_T hE h e42 hr0 hr2.2.1
    refine g12n hC rfl (fun h110 => ?_) (fun h110 => (by omega))
    refine g3 hC rfl rfl ?_
    refine g19 hC rfl sh142 (flt12 rfl) ft12_0 ((h2.1.fix hE).g fx_142_0) ?_
    refine g3 hC rfl rfl ?_
    refine g19 hC rfl sh142 (flt12 rfl) ft12_2 hr2.2.2 ?_
    refine g0 hC rfl ?_
    refine g6s hC rfl ⟨by omega, by omega⟩ ?_
    refine r21 (q.1) hC rfl (by omega) sh143 (Or.inl rfl) (by omega) h2.2 ?_
    refine g0 hC rfl ?_
    refine g13n hC rfl (fun h123 => (by omega)) (fun h123 => ?_)
    refine g0 hC rfl ?_
    refine g14 hC rfl ?_
    refine s1 hC rfl rfl rfl ?_
    exact fin 1 _ (by rw [e42]; rfl) h2.1
  | false =>
    have e47 : isG T n q 45 = true := by rcases hg with z | z; rw [e42] at z; cases z; exact z
    refine g3 hC rfl rfl ?_
    refine g0 hC rfl ?_
    refine c1 hC rfl rfl rfl (Nat.le_of_ble_eq_true rfl) (Nat.le_of_ble_eq_true rfl) (mayR k163 rfl) (m163 hF hn h.1.1 hq1 sg43) (Nat.le_of_ble_eq_true rfl) (fun x M1 hr => ?_)
    obtain ⟨hs0, hs1⟩ := hr; have hs2 : x = 0 ∧ SX T n k W M0 q C (V ++ tl) op M1 := by rcases hs1 with y | y; rw [e42] at y; cases y.1; exact ⟨y.2.1, h.lk hs0 y.2.2.2⟩
    refine g12n hC rfl (fun h110 => (by omega)) (fun h110 => ?_)
    refine g3 hC rfl rfl ?_
    refine g0 hC rfl ?_
    refine c1 hC rfl rfl rfl (Nat.le_of_ble_eq_true rfl) (Nat.le_of_ble_eq_true rfl) (mayR k163 rfl) (m163 (hs2.2.fix hE) hn hs2.2.1.1 hq1 sg45) (Nat.le_of_ble_eq_true rfl) (fun y M2 hr => ?_)
    obtain ⟨hr0, hr1⟩ := hr; have hr2 : y = 1 ∧ RT T n (nx T n q) M2 ∧ M2 142 2 = ((q.1 + 1 : Nat) : Int) := by rcases hr1 with z | z; exact z.2; rw [e47] at z; cases z.1
    have h2 := tk_T hE hs2.2 e47 hr0 hr2.2.1
    refine g12e hC rfl (fun h114 => (by omega)) (fun h114 => ?_)
    refine g3 hC rfl rfl ?_
    refine g19 hC rfl sh142 (flt12 rfl) ft12_0 ((h2.1.fix hE).g fx_142_0) ?_
    refine g3 hC rfl rfl ?_
    refine g19 hC rfl sh142 (flt12 rfl) ft12_2 hr2.2.2 ?_
    refine g0 hC rfl ?_
    refine g6s hC rfl ⟨by omega, by omega⟩ ?_
    refine r21 (q.1) hC rfl (by omega) sh143 (Or.inl rfl) (by omega) h2.2 ?_
    refine g0 hC rfl ?_
    refine g13n hC rfl (fun h123 => ?_) (fun h123 => (by omega))
    refine g0 hC rfl ?_
    refine s1 hC rfl rfl rfl ?_
    exact fin 2 _ (by rw [e42]; rfl) h2.1
theorem kg_161 {bv : Int} (hE : Env n k M0) (h : SX T n k W M0 q C V op M) (hbr : ∀ M1, SX T n k W M0 q C V op M1 → ax_Ev L X SH 1 268 [(2, 142)] M1 (R1 0 (fun x M' => x = bv ∧ M' = M1))) (hno : isG T n q 41 = false ∨ (bv ≠ 20 ∧ bv ≠ 23 ∧ bv ≠ 24)) (e42 : isG T n q 42 = false) (e47 : isG T n q 47 = false) (e43 : isG T n q 43 = false) (e45 : isG T n q 45 = false) (hk : ∀ M1 v1, SX T n k W M0 q C V op M1 → M1 142 2 = (q.1 : Int) → ax_G L X SH 5 275 161 [(2, 142), v1] [] M1 (R1 0 (K21 L X was Q))) : KG L X was Q M := by
  refine kg_107 hE h hbr hno e42 e47 (fun M v1 h => ?_)
  have hF := h.fix hE
  have hq1 := h.1.2.2.2.2.2.2.2.1
  have hn := hE.1
  have hC := at275
  refine g3 hC rfl rfl ?_
  refine g0 hC rfl ?_
  refine c1 hC rfl rfl rfl (Nat.le_of_ble_eq_true rfl) (Nat.le_of_ble_eq_true rfl) (mayR k163 rfl) (m163 hF hn h.1.1 hq1 sg43) (Nat.le_of_ble_eq_true rfl) (fun x M1 hr => ?_)
  obtain ⟨hs0, hs1⟩ := hr; have hs2 : x = 0 ∧ SX T n k W M0 q C V op M1 := by rcases hs1 with y | y; rw [e43] at y; cases y.1; exact ⟨y.2.1, h.lk hs0 y.2.2.2⟩
  refine g12n hC rfl (fun h110 => (by omega)) (fun h110 => ?_)
  refine g3 hC rfl rfl ?_
  refine g0 hC rfl ?_
  refine c1 hC rfl rfl rfl (Nat.le_of_ble_eq_true rfl) (Nat.le_of_ble_eq_true rfl) (mayR k163 rfl) (m163 (hs2.2.fix hE) hn hs2.2.1.1 hq1 sg45) (Nat.le_of_ble_eq_true rfl) (fun y M2 hr => ?_)
  obtain ⟨hr0, hr1⟩ := hr; have hr2 : y = 0 ∧ SX T n k W M0 q C V op M2 ∧ M2 142 2 = (q.1 : Int) := by rcases hr1 with z | z; rw [e45] at z; cases z.1; exact ⟨z.2.1, hs2.2.lk hr0 z.2.2.2, z.2.2.2⟩
  refine g12e hC rfl (fun h114 => ?_) (fun h114 => (by omega))
  exact hk _ _ hr2.2.1 hr2.2.2
end RGN
