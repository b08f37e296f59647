def TX (T : Nat → Int) (n k bs : Nat) (M0 : ax_M) (q : PS) (C V : List Int) (op : Nat) (M : ax_M) : Prop := RSt T n k q C V op bs M ∧ Sb XFO M0 M ∧ op ≤ 6 ∧ ∀ t ∈ V, 10 ≤ t
def BT (f p : Int) (M : ax_M) : Prop := BF f p M ∧ f ≠ 0
def cfF (T : Nat → Int) (n : Nat) (sm : PS → PRs) (q : PS) : PRs := if isW T n q w_all = true then .inr (nx T n q, [13]) else thn (sm q) (fun q1 c => if cmpC T n q1 = 0 then .inl (1, (q1.1 : Int)) else thn (sm (nx T n q1)) (fun q2 c2 => .inr (q2, c ++ c2 ++ [cmpC T n q1])))
def J55 (L : Nat) (X : Nat → Int) (Q : ax_M → Prop) (M : ax_M) : Prop := ∀ v1 v2, ax_G L X SH 8 280 55 [(2, 142), v1, v2] [] M (R0 Q)
def J44 (L : Nat) (X : Nat → Int) (Q : ax_M → Prop) (M : ax_M) : Prop := ∀ v2, ax_G L X SH 8 280 44 [(2, 142), (0, 1), v2] [] M (R0 Q)
def J49 (L : Nat) (X : Nat → Int) (Q : ax_M → Prop) (b : Int) (M : ax_M) : Prop := ∀ v2, ax_G L X SH 8 280 49 [(2, 142), (0, 1), v2] [(0, b)] M (R0 Q)
def TP (L : Nat) (X : Nat → Int) (Q : ax_M → Prop) (M : ax_M) : Prop := ∀ v2, ax_G L X SH 8 280 2 [(2, 142), (0, 1), v2] [] M (R0 Q)
def TG (L : Nat) (X : Nat → Int) (Q : ax_M → Prop) (M : ax_M) : Prop := ax_G L X SH 7 281 0 [(2, 142)] [] M (R1 0 (J49 L X Q))
def TN (L : Nat) (X : Nat → Int) (Q : ax_M → Prop) (M : ax_M) : Prop := ax_G L X SH 4 279 0 [(2, 142)] [] M (R0 (J44 L X Q)) ∧ ax_G L X SH 4 279 0 [(2, 142)] [] M (R0 (fun M1 => ax_G L X SH 7 281 37 [(2, 142)] [] M1 (R1 0 (J49 L X Q))))
def TF (L : Nat) (X : Nat → Int) (Q : ax_M → Prop) (M0 : ax_M) (f p : Int) : Prop := ∀ M1, BT f p M1 → Sb XFO M0 M1 → Q M1
section RTS
variable {L : Nat} {X : Nat → Int} {M M1 M0 : ax_M} {T : Nat → Int} {n k op bs : Nat} {q q' : PS} {C C' V V' tl : List Int} {Q : ax_M → Prop}
theorem TX.fix (hE : Env n k M0) (h : TX T n k bs M0 q C V op M) : Fix M := h.2.1.fix (by decide +kernel) hE.2.2.1
theorem TX.wd (hE : Env n k M0) (h : TX T n k bs M0 q C V op M) : Wd M := hE.2.2.2.sb h.2.1 (by decide +kernel)
theorem TX.nx {Wx : ax_W} {op' : Nat} (h : TX T n k bs M0 q C V op M) (hS : Sb Wx M M1) (hx : wle Wx XFO = true) (h114 : wb Wx 142 114 = false) (h1 : RT T n q' M1) (h2 : RC M1 C') (h3 : RY M1 V') (h4 : M1 142 113 = (op' : Int)) (h5 : C'.length + V'.length ≤ q'.1) (h6 : wq T n q') (h7 : op' ≤ 6) (h8 : ∀ t ∈ V', 10 ≤ t) : TX T n k bs M0 q' C' V' op' M1 := ⟨⟨h1, h2, h3, h4, (hS _ _ h114).trans h.1.2.2.2.2.1, ((hS.mono hx) 142 53 (by decide)).trans h.1.2.2.2.2.2.1, h5, h6⟩, h.2.1.then hS hx, h7, h8⟩
theorem TX.rt (h : TX T n k bs M0 q C V op M) (hS : Sb XAK M M1) (hr : RT T n q' M1) (hle : q.1 ≤ q'.1) (hw : wq T n q') : TX T n k bs M0 q' C V op M1 := h.nx hS rfl rfl hr (h.1.2.1.sb hS rfl (fun _ => rfl)) (h.1.2.2.1.sb hS rfl (fun _ => rfl)) ((hS _ _ rfl).trans h.1.2.2.2.1) (Nat.le_trans h.1.2.2.2.2.2.2.1 hle) hw h.2.2.1 h.2.2.2
theorem TX.lk (h : TX T n k bs M0 q C V op M) (hS : Sb XLK M M1) (e : M1 142 2 = (q.1 : Int)) : TX T n k bs M0 q C V op M1 := h.rt (hS.mono rfl) (h.1.1.lk hS e) (Nat.le_refl _) h.1.2.2.2.2.2.2.2
theorem TX.pop {t : Int} (h : TX T n k bs M0 q C (V ++ [t]) op M) (hS : Sb XDP M M1) (hy : RY M1 V) (hc : RC M1 (C ++ [t])) : TX T n k bs M0 q (C ++ [t]) V op M1 := by
  have hl := h.1.2.2.2.2.2.2.1
  rw [len1] at hl
  refine h.nx hS rfl rfl (h.1.1.sb hS rfl rfl rfl rfl rfl (fun _ => rfl)) hc hy ((hS _ _ rfl).trans h.1.2.2.2.1) (by rw [len1]; omega) h.1.2.2.2.2.2.2.2 h.2.2.1 (fun t ht => h.2.2.2 t (by simp [ht]))
theorem BT.bad {f p : Int} (h : BT f p M) : ¬ M 142 5 = 0 := by rw [h.1.1]; exact h.2
theorem j55_f {f p : Int} (h : BT f p M) (hq : Q M) : J55 L X Q M := by
  intro v1 v2
  have hC := at280
  have hb1 := h.bad
  refine g3 hC rfl rfl ?_
  refine g19 hC rfl sh142 (flt12 rfl) ft12_5 (Eq.refl (M 142 5)) ?_
  refine g12n hC rfl (fun h57 => ?_) (fun h57 => (by omega))
  refine ret0 hC rfl ?_
  exact hq
theorem j55_x (hE : Env n k M0) : ∀ (m : Nat) (tl C : List Int) (M : ax_M), tl.length = m → TX T n k bs M0 q C tl op M → (∀ M1, TX T n k bs M0 q (C ++ tl.reverse) [] op M1 → Q M1) → J55 L X Q M := by
  have hC := at280
  intro m
  induction m with
  | zero =>
    intro tl C M ht h hk v1 v2
    have et : tl = [] := List.eq_nil_of_length_eq_zero ht
    subst et
    rw [List.reverse_nil, List.append_nil] at hk
    have hy : M 142 112 = 0 := h.1.2.2.1.1
    refine g3 hC rfl rfl ?_
    refine g19 hC rfl sh142 (flt12 rfl) ft12_5 h.1.1.2.2.2.2.1 ?_
    refine g12n hC rfl (fun h57 => (by omega)) (fun h57 => ?_)
    refine g3 hC rfl rfl ?_
    refine g19 hC rfl sh142 (flt12 rfl) ft12_112 hy ?_
    refine g12s hC rfl (fun h60 => ?_) (fun h60 => (by omega))
    refine ret0 hC rfl ?_
    exact hk _ h
  | succ m ih =>
    intro tl C M ht h hk v1 v2
    obtain ⟨t0, t, et⟩ : ∃ t0 t, tl = t0 ++ [t] := ⟨tl.dropLast, tl.getLast (by intro z; rw [z] at ht; cases ht), (List.dropLast_concat_getLast _).symm⟩
    subst et
    rw [len1] at ht
    have hy := h.1.2.2.1
    have hl := h.1.2.2.2.2.2.2.1
    rw [len1] at hl
    have hy1 := hy.1
    rw [len1] at hy1
    have hq1 := h.1.2.2.2.2.2.2.2.1
    have hn := hE.1
    have hF := h.fix hE
    refine g3 hC rfl rfl ?_
    refine g19 hC rfl sh142 (flt12 rfl) ft12_5 h.1.1.2.2.2.2.1 ?_
    refine g12n hC rfl (fun h57 => (by omega)) (fun h57 => ?_)
    refine g3 hC rfl rfl ?_
    refine g19 hC rfl sh142 (flt12 rfl) ft12_112 hy1 ?_
    refine g12s hC rfl (fun h60 => (by omega)) (fun h60 => ?_)
    refine g3 hC rfl rfl ?_
    refine c0 hC rfl rfl rfl (Nat.le_of_ble_eq_true rfl) (Nat.le_of_ble_eq_true rfl) (mayR k266 rfl) (m266 hy (by omega) h.1.2.1 (by omega) hF) (Nat.le_of_ble_eq_true rfl) (fun M2 hr => ?_)
    refine g14 hC rfl ?_
    refine ih t0 (C ++ [t]) M2 (by omega) (h.pop hr.1 hr.2.1 hr.2.2) ?_ _ _
    rw [List.append_assoc]; rw [List.reverse_append] at hk; exact hk
theorem j49_0 (hk : J55 L X Q M) : J49 L X Q 0 M := by
  intro v2
  have hC := at280
  refine g12e hC rfl (fun h49 => ?_) (fun h49 => (by omega))
  refine g0 hC rfl ?_
  refine s1 hC rfl rfl rfl ?_
  refine g14 hC rfl ?_
  refine g3 hC rfl rfl ?_
  refine g12e hC rfl (fun h3 => ?_) (fun h3 => (by omega))
  exact hk _ _
theorem j49_1 (hk : TP L X Q M) : J49 L X Q 1 M := by
  intro v2
  have hC := at280
  refine g12e hC rfl (fun h49 => (by omega)) (fun h49 => ?_)
  refine g0 hC rfl ?_
  refine g14 hC rfl ?_
  refine s1 hC rfl rfl rfl ?_
  refine g14 hC rfl ?_
  exact hk _
theorem j44_f {f p : Int} (h : BT f p M) (hq : Q M) : J44 L X Q M := by
  intro v2
  have hC := at280
  have hb1 := h.bad
  have key := j55_f (L := L) (X := X) h hq
  refine g3 hC rfl rfl ?_
  refine g19 hC rfl sh142 (flt12 rfl) ft12_5 (Eq.refl (M 142 5)) ?_
  refine g12n hC rfl (fun h46 => ?_) (fun h46 => (by omega))
  refine g0 hC rfl ?_
  refine s1 hC rfl rfl rfl ?_
  refine g14 hC rfl ?_
  refine g3 hC rfl rfl ?_
  refine g12e hC rfl (fun h3 => ?_) (fun h3 => (by omega))
  exact key _ _
theorem j44_g (hb : M 142 5 = 0) (hk : TG L X Q M) : J44 L X Q M := by
  intro v2
  have hC := at280
  refine g3 hC rfl rfl ?_
  refine g19 hC rfl sh142 (flt12 rfl) ft12_5 hb ?_
  refine g12n hC rfl (fun h46 => (by omega)) (fun h46 => ?_)
  refine g3 hC rfl rfl ?_
  refine c1 hC rfl rfl rfl (Nat.le_of_ble_eq_true rfl) (Nat.le_of_ble_eq_true rfl) (mayR k281 rfl) (show ax_Ev L X SH 7 281 [(2, 142)] M (R1 0 (J49 L X Q)) from hk) (Nat.le_of_ble_eq_true rfl) (fun x M1 hr => ?_)
  exact hr _
theorem tp_f {f p : Int} (h : BT f p M) (hq : Q M) : TP L X Q M := by
  intro v2
  have hC := at280
  have hb1 := h.bad
  have key := j55_f (L := L) (X := X) h hq
  refine g3 hC rfl rfl ?_
  refine g12e hC rfl (fun h3 => (by omega)) (fun h3 => ?_)
  refine g3 hC rfl rfl ?_
  refine g19 hC rfl sh142 (flt12 rfl) ft12_5 (Eq.refl (M 142 5)) ?_
  refine g12n hC rfl (fun h6 => ?_) (fun h6 => (by omega))
  exact key _ _
theorem tn_not (hE : Env n k M0) (h : TX T n k bs M0 q C (V ++ [12]) (op + 1) M) (hk : ∀ M1, TX T n k bs M0 q (C ++ [12]) V op M1 → TN L X Q M1) : TN L X Q M := by
  have hF := h.fix hE
  have hl := h.1.2.2.2.2.2.2.1
  rw [len1] at hl
  have hq1 := h.1.2.2.2.2.2.2.2.1
  have hn := hE.1
  have h26 := h.2.2.1
  have hy := h.1.2.2.1
  have htop : top (V ++ [12]) = 12 := top_s
  have el : (V ++ [12]).length = V.length + 1 := len1
  have step : ∀ P, (∀ M1, TX T n k bs M0 q (C ++ [12]) V op M1 → ax_G L X SH 4 279 0 [(2, 142)] [] M1 P) → ax_G L X SH 4 279 0 [(2, 142)] [] M P := by
    intro P hP
    have hC := at279
    have hw : wok XOP = true := by decide +kernel
    have hS : Sb XOP M M := Sb.refl
    have hy2 : RY (ax_up M 142 113 (((op + 1 : Nat) : Int) - 1)) (V ++ [12]) := ⟨(ax_up_of (by decide)).trans hy.1, fun i hi => (ax_up2n (by decide)).trans (hy.2 i hi)⟩
    have hc2 : RC (ax_up M 142 113 (((op + 1 : Nat) : Int) - 1)) C := ⟨(ax_up_of (by decide)).trans h.1.2.1.1, fun i hi => (ax_up2n (by decide)).trans (h.1.2.1.2 i hi)⟩
    refine g3 hC rfl rfl ?_
    refine g19 hC rfl sh142 (flt12 rfl) ft12_5 h.1.1.2.2.2.2.1 ?_
    refine g12n hC rfl (fun h2 => (by omega)) (fun h2 => ?_)
    refine g3 hC rfl rfl ?_
    refine g0 hC rfl ?_
    refine c1 hC rfl rfl rfl (Nat.le_of_ble_eq_true rfl) (Nat.le_of_ble_eq_true rfl) (mayR k265 rfl) (m265t hy (by omega) hF (by decide)) (Nat.le_of_ble_eq_true rfl) (fun x MX hr => ?_)
    obtain ⟨hx, hr⟩ := hr; replace hr := hr.symm; subst hr
    refine g12e hC rfl (fun h6 => (by omega)) (fun h6 => ?_)
    refine g3 hC rfl rfl ?_
    refine g16 hC rfl (by decide) ?_
    refine g19 hC rfl sh142 (flt12 rfl) ft12_113 h.1.2.2.2.1 ?_
    refine g0 hC rfl ?_
    refine g6s hC rfl ⟨by omega, by omega⟩ ?_
    refine g20s hC rfl sh142 (flt12 rfl) (by rw [fy12_113]; rfl) hS rfl (fun hS => ?_)
    refine g3 hC rfl rfl ?_
    refine c0 hC rfl rfl rfl (Nat.le_of_ble_eq_true rfl) (Nat.le_of_ble_eq_true rfl) (mayR k266 rfl) (m266 hy2 (by omega) hc2 (by omega) (hS.fix hw hF)) (Nat.le_of_ble_eq_true rfl) (fun M2 hr => ?_)
    obtain ⟨hd0, hd1, hd2⟩ := hr
    refine g14 hC rfl ?_
    have hS2 : Sb ([(228, 230)], [(142, 110), (142, 112), (142, 113)]) M M2 := (hS.mono rfl).then hd0 rfl
    refine hP _ (h.nx hS2 rfl rfl (h.1.1.sb hS2 rfl rfl rfl rfl rfl (fun _ => rfl)) hd2 hd1 ?_ (by rw [len1]; omega) h.1.2.2.2.2.2.2.2 (by omega) (fun t ht => h.2.2.2 t (by simp [ht])))
    rw [hd0 142 113 rfl, ax_up_at]; omega
  exact ⟨step _ (fun M1 h1 => (hk M1 h1).1), step _ (fun M1 h1 => (hk M1 h1).2)⟩
theorem tn_go (hE : Env n k M0) (h : TX T n k bs M0 q C V op M) (ht : ¬ top V = 12) (hk : TG L X Q M) : TN L X Q M := by
  have hF := h.fix hE
  have hl := h.1.2.2.2.2.2.2.1
  have hq1 := h.1.2.2.2.2.2.2.2.1
  have hn := hE.1
  have hy := h.1.2.2.1
  have hb := h.1.1.2.2.2.2.1
  have step : ∀ P : ax_M → Prop, P M → ax_G L X SH 4 279 0 [(2, 142)] [] M (R0 P) := by
    intro P hP
    have hC := at279
    refine g3 hC rfl rfl ?_
    refine g19 hC rfl sh142 (flt12 rfl) ft12_5 hb ?_
    refine g12n hC rfl (fun h2 => (by omega)) (fun h2 => ?_)
    refine g3 hC rfl rfl ?_
    refine g0 hC rfl ?_
    refine c1 hC rfl rfl rfl (Nat.le_of_ble_eq_true rfl) (Nat.le_of_ble_eq_true rfl) (mayR k265 rfl) (m265t hy (by omega) hF (by decide)) (Nat.le_of_ble_eq_true rfl) (fun x MX hr => ?_)
    obtain ⟨hx, hr⟩ := hr; replace hr := hr.symm; subst hr
    refine g12e hC rfl (fun h6 => ?_) (fun h6 => (by omega))
    refine ret0 hC rfl ?_
    exact hP
  refine ⟨step _ (j44_g hb hk), step _ ?_⟩
  have hC := at281
  exact g14 hC rfl hk
theorem sg60 : sgc 60 := by unfold sgc; decide
theorem sg61 : sgc 61 := by unfold sgc; decide
theorem sg62 : sgc 62 := by unfold sgc; decide
theorem sg91 : sgc 91 := by unfold sgc; decide
theorem sg93 : sgc 93 := by unfold sgc; decide
theorem cmp_lk : (lk T n q = 60 → cmpC T n q = 7 ∧ isG T n q 60 = true) ∧ (lk T n q = 62 → cmpC T n q = 8 ∧ isG T n q 62 = true) ∧ (lk T n q = 61 → cmpC T n q = 9 ∧ isG T n q 61 = true) ∧ (¬ lk T n q = 60 → ¬ lk T n q = 62 → ¬ lk T n q = 61 → cmpC T n q = 0) := by
  have a := lkG (T := T) (n := n) (q := q) sg60
  have b := lkG (T := T) (n := n) (q := q) sg62
  have c := lkG (T := T) (n := n) (q := q) sg61
  have e : cmpC T n q = if isG T n q 60 = true then 7 else if isG T n q 62 = true then 8 else if isG T n q 61 = true then 9 else 0 := rfl
  refine ⟨fun z => ?_, fun z => ?_, fun z => ?_, fun z1 z2 z3 => ?_⟩
  · rw [e, if_pos (a.1 z)]; exact ⟨rfl, a.1 z⟩
  · rw [e, if_neg (fun y => by have := a.2 y; omega), if_pos (b.1 z)]; exact ⟨rfl, b.1 z⟩
  · rw [e, if_neg (fun y => by have := a.2 y; omega), if_neg (fun y => by have := b.2 y; omega), if_pos (c.1 z)]; exact ⟨rfl, c.1 z⟩
  · rw [e, if_neg (fun y => z1 (a.2 y)), if_neg (fun y => z2 (b.2 y)), if_neg (fun y => z3 (c.2 y))]
theorem TX.code {v : Int} (h : TX T n k bs M0 q C V op M) (hS : Sb XCD M M1) (hc : RC M1 (C ++ [v])) (hl : C.length + 1 + V.length ≤ q.1) : TX T n k bs M0 q (C ++ [v]) V op M1 := h.nx hS rfl rfl (h.1.1.sb hS rfl rfl rfl rfl rfl (fun _ => rfl)) hc (h.1.2.2.1.sb hS rfl (fun _ => rfl)) ((hS _ _ rfl).trans h.1.2.2.2.1) (by rw [len1]; exact hl) h.1.2.2.2.2.2.2.2 h.2.2.1 h.2.2.2
theorem TX.env (hE : Env n k M0) (h : TX T n k bs M0 q C V op M) : Env n k M := ⟨hE.1, hE.2.1, h.fix hE, h.wd hE⟩
theorem TX.tpp (h : TX T n k bs M0 q C V op M) : ¬ (1 ≤ top V ∧ top V ≤ 4) := by
  unfold top
  split
  · decide
  · have := h.2.2.2 (V.getD (V.length - 1) 0) (by
      have hi : V.length - 1 < V.length := by omega
      rw [List.getD_eq_getElem?_getD, List.getElem?_eq_getElem hi]; exact List.getElem_mem hi)
    omega
theorem m277 (hE : Env n k M0) (h : TX T n k bs M0 q C V op M) : ax_Ev L X SH 7 277 [(2, 142)] M (R0 (fun M' => (∃ f p, cfF T n (smL T n k (6 - op)) q = .inl (f, p) ∧ BT f p M' ∧ Sb XFO M0 M') ∨ ∃ q' c, cfF T n (smL T n k (6 - op)) q = .inr (q', c) ∧ TX T n k bs M0 q' (C ++ c) V op M')) := by
  show ax_G L X SH 7 277 0 [(2, 142), (3, 0)] [] M _
  have hF := h.fix hE
  have hW := h.wd hE
  have hlen := h.1.2.2.2.2.2.2.1
  have hqn := h.1.2.2.2.2.2.2.2
  have hq1 := hqn.1
  have hn := hE.1
  have h26 := h.2.2.1
  have hC := at277
  have eF : cfF T n (smL T n k (6 - op)) q = if isW T n q w_all = true then .inr (nx T n q, [13]) else thn (smL T n k (6 - op) q) (fun q1 c => if cmpC T n q1 = 0 then .inl (1, (q1.1 : Int)) else thn (smL T n k (6 - op) (nx T n q1)) (fun q2 c2 => .inr (q2, c ++ c2 ++ [cmpC T n q1]))) := rfl
  have gs := good_sm (T := T) (n := n) (k := k) (r := 6 - op)
  have cont : ∀ (M3 M4 : ax_M) (q1 : PS) (cc : List Int), isW T n q w_all = false → smL T n k (6 - op) q = .inr (q1, cc) → TX T n k bs M0 q1 (C ++ cc) V op M4 → M4 142 2 = (q1.1 : Int) → (lk T n q1 = 60 ∨ lk T n q1 = 62 ∨ lk T n q1 = 61) → ax_G L X SH 7 277 33 [(2, 142), (0, lk T n q1)] [] M4 (R0 (fun M' => (∃ f p, cfF T n (smL T n k (6 - op)) q = .inl (f, p) ∧ BT f p M' ∧ Sb XFO M0 M') ∨ ∃ q' c, cfF T n (smL T n k (6 - op)) q = .inr (q', c) ∧ TX T n k bs M0 q' (C ++ c) V op M')) := by
    intro M3 M4 q1 cc hall e1 h4 hl1 hlk3
    have hlk := cmp_lk (T := T) (n := n) (q := q1)
    have gg := gs q hq1 q1 cc e1
    have hw1 := gg.2.2.1
    have hcm : isG T n q1 60 = true ∨ isG T n q1 62 = true ∨ isG T n q1 61 = true := by
      rcases hlk3 with z | z | z
      · exact Or.inl (hlk.1 z).2
      · exact Or.inr (Or.inl (hlk.2.1 z).2)
      · exact Or.inr (Or.inr (hlk.2.2.1 z).2)
    have hc0 : ¬ cmpC T n q1 = 0 := by
      rcases hlk3 with z | z | z
      · rw [(hlk.1 z).1]; decide
      · rw [(hlk.2.1 z).1]; decide
      · rw [(hlk.2.2.1 z).1]; decide
    have hk3 : kd T n q1 = 3 := by rcases hcm with z | z | z <;> exact isG_kd3 z
    have hlt1 := (kd_3 hk3).2.1
    have g1 := nx_gt (T := T) hlt1
    have h4len := h4.1.2.2.2.2.2.2.1
    have hrt5 : RT T n (nx T n q1) (ax_up M4 142 2 ((q1.1 : Int) + 1)) := h4.1.1.sg hk3 (Sb.refl.up rfl) (by rw [ax_up_at]; omega)
    have h5 := h4.rt (Sb.refl.up rfl) hrt5 (by omega) (wq_nx hw1)
    rw [if_neg (by rw [hall]; decide), thn_r e1] at eF
    have eF : cfF T n (smL T n k (6 - op)) q = thn (smL T n k (6 - op) (nx T n q1)) (fun q2 c2 => .inr (q2, cc ++ c2 ++ [cmpC T n q1])) := by rw [eF]; exact if_neg hc0
    have fin : ∀ (κ : Int) (M6 : ax_M), κ = cmpC T n q1 → Sb XFO M0 M6 → ((∃ f p, smL T n k (6 - op) (nx T n q1) = .inl (f, p) ∧ BS f p M6) ∨ ∃ q' c, smL T n k (6 - op) (nx T n q1) = .inr (q', c) ∧ RSt T n k q' (C ++ cc ++ c) V op bs M6) → ∀ v1, ax_G L X SH 7 277 53 [(2, 142), v1] [(0, κ), (2, 142)] M6 (R0 (fun M' => (∃ f p, cfF T n (smL T n k (6 - op)) q = .inl (f, p) ∧ BT f p M' ∧ Sb XFO M0 M') ∨ ∃ q' c, cfF T n (smL T n k (6 - op)) q = .inr (q', c) ∧ TX T n k bs M0 q' (C ++ c) V op M')) := by
      intro κ M6 hκ hs6 hr v1
      have hF6 := hs6.fix (by decide +kernel) hE.2.2.1
      rcases hr with ⟨f, p, e, hb⟩ | ⟨q2, c2, e, h6⟩
      · refine c0 hC rfl rfl rfl (Nat.le_of_ble_eq_true rfl) (Nat.le_of_ble_eq_true rfl) (mayR k263 rfl) (m263x ⟨hb.2.2.1, by have := hb.2.2.2; omega⟩ hF6) (Nat.le_of_ble_eq_true rfl) (fun M7 hr => ?_)
        refine ret0 hC rfl (Or.inl ⟨f, p, by rw [eF, thn_l e], ⟨⟨(hr.1 _ _ rfl).trans hb.1.1, (hr.1 _ _ rfl).trans hb.1.2⟩, hb.2.1⟩, hs6.then hr.1 rfl⟩)
      · have gh := gs _ (wq_nx hw1).1 q2 c2 e
        have h7 : TX T n k bs M0 q2 (C ++ cc ++ c2) V op M6 := ⟨h6, hs6, h26, h.2.2.2⟩
        have e7 : (C ++ cc ++ c2).length = (C ++ cc).length + c2.length := by simp <;> omega
        have gh1 := gh.2.2.1
        refine c0 hC rfl rfl rfl (Nat.le_of_ble_eq_true rfl) (Nat.le_of_ble_eq_true rfl) (mayR k263 rfl) (m263 h6.2.1 (by omega) hF6) (Nat.le_of_ble_eq_true rfl) (fun M7 hr => ?_)
        have h8 := h7.code hr.1 hr.2 (by omega)
        refine ret0 hC rfl (Or.inr ⟨q2, cc ++ c2 ++ [cmpC T n q1], by rw [eF, thn_r e], ?_⟩)
        rw [hκ] at h8
        rw [← List.append_assoc, ← List.append_assoc]; exact h8
    refine g3 hC rfl rfl ?_
    refine g16 hC rfl (by decide) ?_
    refine g19 hC rfl sh142 (flt12 rfl) ft12_2 hl1 ?_
    refine g0 hC rfl ?_
    refine g6a hC rfl ⟨by omega, by omega⟩ ?_
    refine g20 hC rfl sh142 (flt12 rfl) (by rw [fy12_2]; rfl) ?_
    refine g3 hC rfl rfl ?_
    refine c0 hC rfl rfl rfl (Nat.le_of_ble_eq_true rfl) (Nat.le_of_ble_eq_true rfl) (mayR k276 rfl) (m276 (h5.env hE) h5.1 h26 h5.tpp) (Nat.le_of_ble_eq_true rfl) (fun M6 hr => ?_)
    obtain ⟨ht0, ht1⟩ := hr
    refine g3 hC rfl rfl ?_
    refine g3 hC rfl rfl ?_
    refine g0 hC rfl ?_
    refine g13n hC rfl (fun h44 => ?_) (fun h44 => ?_)
    ·
      refine g3 hC rfl rfl ?_
      refine g0 hC rfl ?_
      refine g13n hC rfl (fun h49 => ?_) (fun h49 => ?_)
      ·
        refine g0 hC rfl ?_
        exact fin 9 M6 (hlk.2.2.1 (by omega)).1.symm (h5.2.1.trans ht0) ht1 _
      ·
        refine g0 hC rfl ?_
        refine g14 hC rfl ?_
        exact fin 8 M6 (hlk.2.1 (by omega)).1.symm (h5.2.1.trans ht0) ht1 _
    ·
      refine g0 hC rfl ?_
      refine g14 hC rfl ?_
      exact fin 7 M6 (hlk.1 (by omega)).1.symm (h5.2.1.trans ht0) ht1 _
  refine g3 hC rfl rfl ?_
  refine g3 hC rfl rfl ?_
  refine g19 hC rfl sh142 (flt12 rfl) ft12_94 (hF.g fx_142_94) ?_
  refine c1 hC rfl rfl rfl (Nat.le_of_ble_eq_true rfl) (Nat.le_of_ble_eq_true rfl) (mayR k161 rfl) (m161 hF hn h.1.1 hq1 (c := 213) (w := w_all) sh213 (wa213 hW) (by decide)) (Nat.le_of_ble_eq_true rfl) (fun x M2 hr => ?_)
  obtain ⟨hr0, hr1⟩ := hr
  refine g12e hC rfl (fun h4 => ?_) (fun h4 => ?_)
  ·
    refine g3 hC rfl rfl ?_
    have h2 : isW T n q w_all = false ∧ TX T n k bs M0 q C V op M2 := by { rcases hr1 with y | y; omega; exact ⟨y.1, h.rt (hr0.mono rfl) y.2.2.1 (Nat.le_refl _) hqn⟩ }
    refine c0 hC rfl rfl rfl (Nat.le_of_ble_eq_true rfl) (Nat.le_of_ble_eq_true rfl) (mayR k276 rfl) (m276 (h2.2.env hE) h2.2.1 h26 h2.2.tpp) (Nat.le_of_ble_eq_true rfl) (fun M3 hr => ?_)
    obtain ⟨hs0, hs1⟩ := hr; obtain ⟨bd, hbd⟩ : ∃ bd, bd = M3 142 5 := ⟨_, rfl⟩
    refine g3 hC rfl rfl ?_
    refine g19 hC rfl sh142 (flt12 rfl) ft12_5 hbd.symm ?_
    refine g12e hC rfl (fun h13 => ?_) (fun h13 => ?_)
    ·
      have h3 : ∃ q1 c, smL T n k (6 - op) q = .inr (q1, c) ∧ TX T n k bs M0 q1 (C ++ c) V op M3 := by { rcases hs1 with ⟨f, p, e, y⟩ | ⟨q1, c, e, y⟩; exact absurd (hbd.trans y.1.1) (by have := y.2.1; omega); exact ⟨q1, c, e, y, h2.2.2.1.trans hs0, h26, h.2.2.2⟩ }
      obtain ⟨q1, cc, e1, h3⟩ := h3; have gg := gs q hq1 q1 cc e1; have hlk := cmp_lk (T := T) (n := n) (q := q1); have hw1 := gg.2.2.1
      refine g3 hC rfl rfl ?_
      refine c1 hC rfl rfl rfl (Nat.le_of_ble_eq_true rfl) (Nat.le_of_ble_eq_true rfl) (mayR k159 rfl) (m159 (h3.fix hE) hn h3.1.1 hw1) (Nat.le_of_ble_eq_true rfl) (fun x M4 hr => ?_)
      obtain ⟨rfl, hl0, hl1⟩ := hr; have h4 := h3.lk hl0 hl1
      refine s1 hC rfl rfl rfl ?_
      refine g3 hC rfl rfl ?_
      refine g0 hC rfl ?_
      refine g13e hC rfl (fun h20 => ?_) (fun h20 => ?_)
      ·
        exact cont M3 M4 q1 cc h2.1 e1 h4 hl1 (by omega)
      ·
        refine g3 hC rfl rfl ?_
        refine g0 hC rfl ?_
        refine g13e hC rfl (fun h23 => ?_) (fun h23 => ?_)
        ·
          exact cont M3 M4 q1 cc h2.1 e1 h4 hl1 (by omega)
        ·
          refine g3 hC rfl rfl ?_
          refine g0 hC rfl ?_
          refine g13e hC rfl (fun h26 => ?_) (fun h26 => ?_)
          ·
            exact cont M3 M4 q1 cc h2.1 e1 h4 hl1 (by omega)
          ·
            refine g3 hC rfl rfl ?_
            refine g0 hC rfl ?_
            refine g3 hC rfl rfl ?_
            refine g19 hC rfl sh142 (flt12 rfl) ft12_2 hl1 ?_
            refine c0 hC rfl rfl rfl (Nat.le_of_ble_eq_true rfl) (Nat.le_of_ble_eq_true rfl) (mayR k156 rfl) (m156 h4.1.1.2.2.2.2.1) (Nat.le_of_ble_eq_true rfl) (fun M5 hr => ?_)
            replace hr := hr.symm; subst hr
            refine ret0 hC rfl ?_
            refine Or.inl ⟨1, (q1.1 : Int), ?_, ⟨BF.up, by decide⟩, h4.2.1.trans ((Sb.refl.up rfl).up rfl)⟩
            rw [eF, if_neg (by rw [h2.1]; decide), thn_r e1, if_pos (hlk.2.2.2 (by omega) (by omega) (by omega))]
    ·
      refine ret0 hC rfl ?_
      rcases hs1 with ⟨f, p, e, y⟩ | ⟨q1, c, e, y⟩
      · exact Or.inl ⟨f, p, by rw [eF, if_neg (by rw [h2.1]; decide), thn_l e], ⟨y.1, y.2.1⟩, h2.2.2.1.trans hs0⟩
      · have := y.1.2.2.2.2.1; omega
  ·
    refine g3 hC rfl rfl ?_
    refine g0 hC rfl ?_
    have h2 : isW T n q w_all = true ∧ TX T n k bs M0 (nx T n q) C V op M2 := by { rcases hr1 with y | y; exact ⟨y.1, h.rt (hr0.mono rfl) y.2.2 (by have := nx_gt (T := T) (isW_lt y.1); omega) (wq_nx hq1)⟩; omega }
    have g2 := nx_gt (T := T) (isW_lt h2.1)
    refine c0 hC rfl rfl rfl (Nat.le_of_ble_eq_true rfl) (Nat.le_of_ble_eq_true rfl) (mayR k263 rfl) (m263 h2.2.1.2.1 (by omega) (h2.2.fix hE)) (Nat.le_of_ble_eq_true rfl) (fun M3 hr => ?_)
    refine ret0 hC rfl ?_
    exact Or.inr ⟨nx T n q, [13], by rw [eF, if_pos h2.1], h2.2.code hr.1 hr.2 (by omega)⟩
end RTS
