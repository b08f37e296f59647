section WDS
variable {L : Nat} {X : Nat → Int}
def qm (j : Nat) : Bool := !(j == 152) && !(j == 315)
def qi (o : ax_O) : Bool := !(o.1 == 22 && o.2.1 == 2) && (!(o.1 == 27) || qm o.2.1)
theorem qall : ((List.range 316).all (fun j => !qm j || (ax_code.getD j []).all qi)) = true := by decide +kernel
theorem ax_at_q {j i : Nat} {o : ax_O} (hj : qm j = true) (h : ax_at j i = some o) : qi o = true := by
  unfold ax_at at h
  by_cases z : j < 316
  · have h1 := List.all_eq_true.mp qall j (List.mem_range.mpr z)
    rw [hj, Bool.not_true, Bool.false_or] at h1
    exact List.all_eq_true.mp h1 o (List.mem_of_getElem? h)
  · have hl : ax_code.length = 316 := by decide +kernel
    rw [List.getD_eq_getElem?_getD, show ax_code[j]? = none from List.getElem?_eq_none (by omega)] at h
    cases h
def CK (sh sh' : List ax_H) (M M' : ax_M) : Prop := ∀ a n, sh[a]? = some (1, 2, n) → sh'[a]? = some (1, 2, n) ∧ ∀ k, M' a k = M a k
theorem CK.refl {sh : List ax_H} {M : ax_M} : CK sh sh M M := fun _ _ h => ⟨h, fun _ => rfl⟩
theorem CK.trans {sh sh1 sh2 : List ax_H} {M M1 M2 : ax_M} (h1 : CK sh sh1 M M1) (h2 : CK sh1 sh2 M1 M2) : CK sh sh2 M M2 := fun a n h => ⟨(h2 a n (h1 a n h).1).1, fun k => ((h2 a n (h1 a n h).1).2 k).trans ((h1 a n h).2 k)⟩
theorem ck_up {sh : List ax_H} {M : ax_M} {a k : Nat} {x : Int} {q : ax_H} (hq : sh[a]? = some q) (hn : ¬ (q.1 = 1 ∧ q.2.1 = 2)) : CK sh sh M (ax_up M a k x) := by
  intro b n hb
  refine ⟨hb, fun k' => ?_⟩
  have hne : b ≠ a := by
    intro e; rw [e, hq] at hb
    injection hb with hb
    exact hn (by rw [hb]; exact ⟨rfl, rfl⟩)
  unfold ax_up
  rw [if_neg (fun w => hne w.1)]
theorem ck_new {sh t : List ax_H} {M M' : ax_M} (h : ∀ b k, b < sh.length → M' b k = M b k) : CK sh (sh ++ t) M M' := by
  intro b n hb
  have hl := (List.getElem?_eq_some_iff.mp hb).1
  exact ⟨by rw [List.getElem?_append_left hl]; exact hb, fun k => h b k hl⟩
theorem ck_step {o : ax_O} {i i' : Nat} {ll ll' st st' : List ax_V} {sh sh' : List ax_H} {M M' : ax_M} (hq : qi o = true) (h : ax_step L X o i ll st sh M = some (i', ll', st', sh', M')) : CK sh sh' M M' := by
  obtain ⟨o1, o2, o3, o4⟩ := o
  unfold ax_step at h
  dsimp only at h
  split at h
  all_goals first
    | (cases h; exact CK.refl)
    | (simp only [ax_x3, ax_x4, ax_x5, ax_x6, ax_x7, ax_x8, ax_x9, ax_x10, ax_x11, ax_x12, ax_x13, ax_x15, ax_x16, ax_x17, ax_x18, ax_x19, ax_x21, ax_x23, ax_x30, ax_x31] at h
       (repeat' split at h) <;> first | (cases h; exact CK.refl) | (cases h; done))
    | skip
  · unfold ax_x20 at h
    split at h
    · split at h
      · rename_i hc
        cases h
        exact ck_up hc.2.1 (fun w => by have := w.1; cases this)
      · cases h
    · cases h
  · unfold ax_x22 at h
    split at h
    · split at h
      · rename_i hs
        split at h
        · rename_i hc
          cases h
          refine ck_up hs (fun w => ?_)
          have e2 : o2 = 2 := hc.2.1.symm.trans w.2
          rw [e2] at hq; cases hq
        · cases h
      · cases h
    · cases h
  · unfold ax_x24 at h
    split at h
    · split at h
      · cases h
        exact ck_new (fun b k hb => if_neg (by omega))
      · cases h
    · cases h
  · cases h
    exact ck_new (fun b k hb => if_neg (by omega))
  · unfold ax_x26 at h
    split at h
    · split at h
      · cases h
        exact ck_new (fun b k hb => (if_neg (by omega)).trans (if_neg (by omega)))
      · cases h
    · cases h
  · unfold ax_x29 at h
    split at h
    · split at h
      · rename_i hs
        split at h
        · cases h
          intro c n hcn
          refine ⟨hcn, fun k => ?_⟩
          unfold ax_cpy
          rw [if_neg]
          intro w
          rw [w.1, hs] at hcn
          cases hcn
        · cases h
      · cases h
    · cases h
  · cases h
theorem ck_run : ∀ (n d j i : Nat) (ll st : List ax_V) (sh : List ax_H) (M : ax_M) (r : List ax_V) (sh' : List ax_H) (M' : ax_M), qm j = true → ax_run L X n d j i ll st sh M = some (r, sh', M') → CK sh sh' M M' := by
  intro n
  induction n with
  | zero => intro d j i ll st sh M r sh' M' _ h; cases h
  | succ n ih =>
    intro d j i ll st sh M r sh' M' hj h
    unfold ax_run at h
    cases ho : ax_at j i with
    | none => rw [ho] at h; cases h
    | some o =>
      have hqo := ax_at_q hj ho
      rw [ho] at h
      dsimp only at h
      by_cases h28 : o.1 = 28
      · rw [if_pos h28] at h
        split at h
        · cases h; exact CK.refl
        · cases h
      · rw [if_neg h28] at h
        by_cases h27 : o.1 = 27
        · rw [if_pos h27] at h
          cases d with
          | zero => cases h
          | succ d =>
            dsimp only at h
            split at h
            · cases h1 : ax_run L X n d o.2.1 0 (ax_loc (st.take o.2.2.1).reverse (ax_ml o.2.1)) [] sh M with
              | none => rw [h1] at h; cases h
              | some q1 =>
                obtain ⟨r1, sh1, M1⟩ := q1
                rw [h1] at h
                have hq2 : qm o.2.1 = true := by
                  unfold qi at hqo
                  rw [h27] at hqo
                  simpa using hqo
                exact (ih _ _ _ _ _ _ _ _ _ _ hq2 h1).trans (ih _ _ _ _ _ _ _ _ _ _ hj h)
            · cases h
        · rw [if_neg h27] at h
          cases h1 : ax_step L X o i ll st sh M with
          | none => rw [h1] at h; cases h
          | some S =>
            obtain ⟨i', ll', st', sh1, M1⟩ := S
            rw [h1] at h
            exact (ck_step hqo h1).trans (ih _ _ _ _ _ _ _ _ _ _ hj h)
theorem wd_sh : ∀ e ∈ wdT, SH[e.1]? = some (1, 2, e.2.length) := by decide +kernel
theorem ax_Ev.words {d j : Nat} {as : List ax_V} {M : ax_M} {P : List ax_V → ax_M → Prop} (hq : qm j = true) (hW : Wd M) (h : ax_Ev L X SH d j as M P) : ax_Ev L X SH d j as M (fun r M' => P r M' ∧ Wd M') := by
  obtain ⟨n, r, M', h1, h2⟩ := h
  refine ⟨n, r, M', h1, h2, fun e he i hi => ?_⟩
  rw [(ck_run _ _ _ _ _ _ _ _ _ _ _ hq h1 e.1 _ (wd_sh e he)).2 i]
  exact hW e he i hi
def OPW (L : Nat) (X : Nat → Int) (n t j j' : Nat) (as as' : List ax_V) (M : ax_M) : Prop := ax_Ev L X SH 40 j as M (R1 t (fun x M1 => ax_Ev L X SH 40 j' as' M1 (R1 t (fun y M2 => y = x ∧ Rel (n + 1) M2 ∧ Wd M2))))
theorem OP.w {n t j j' : Nat} {as as' : List ax_V} {M : ax_M} (h : OP L X n t j j' as as' M) (hW : Wd M) (hq : qm j = true) (hq' : qm j' = true) : OPW L X n t j j' as as' M := by
  refine (ax_Ev.words hq hW h).imp ?_
  rintro r M1 ⟨⟨x, e, h1⟩, hW1⟩
  refine ⟨x, e, (ax_Ev.words hq' hW1 h1).imp ?_⟩
  rintro r2 M2 ⟨⟨y, e2, h2, h3⟩, hW2⟩
  exact ⟨y, e2, h2, h3, hW2⟩
end WDS
