def W55 : ax_W := ([(108, 110)], [(107, 1)])
def W117 : ax_W := ([(72, 75), (76, 85), (86, 94), (95, 107), (5, 6), (23, 24), (26, 27), (41, 42), (44, 45), (108, 110)], [(71, 6), (107, 1)])
def X231 : ax_W := ([(195, 196)], [])
def X232 : ax_W := ([(187, 197), (230, 231)], [(142, 53), (142, 56), (142, 57), (142, 67), (142, 116)])
def gk (l : List Nat) (i : Nat) : Nat := l.getD i 0
theorem gk_mem {l : List Nat} {i : Nat} (hi : i < l.length) : gk l i ∈ l := by
  unfold gk
  rw [List.getD_eq_getElem?_getD, List.getElem?_eq_getElem hi]
  exact List.getElem_mem hi
theorem gk_app {l : List Nat} {w i : Nat} (hi : i < l.length + 1) : gk (l ++ [w]) i = if i < l.length then gk l i else w := by
  unfold gk
  rw [List.getD_eq_getElem?_getD, List.getD_eq_getElem?_getD]
  by_cases z : i < l.length
  · rw [if_pos z, List.getElem?_append_left z]
  · rw [if_neg z, List.getElem?_append_right (by omega), show i - l.length = 0 by omega]; rfl
def keepP (c : List Nat → Int) (p : List Nat) (x : Int × List Nat) : Int × List Nat := if x.1 < c p then (c p, p) else x
def srch (c : List Nat → Int) (n : Nat) : Nat → List Nat → Int × List Nat → Int × List Nat
  | 0, p, x => keepP c p x
  | r + 1, p, x => it (fun w x => if w ∈ p then x else srch c n r (p ++ [w]) x) n x
def msk (p : List Nat) : Nat := p.foldl (fun g w => g ||| 1 <<< w) 0
theorem msk_s {p : List Nat} {w : Nat} : msk (p ++ [w]) = msk p ||| 1 <<< w := by unfold msk; rw [List.foldl_append]; rfl
theorem msk_bg {n : Nat} : ∀ (p : List Nat) (g : Nat), g < 2 ^ n → (∀ w ∈ p, w < n) → p.foldl (fun g w => g ||| 1 <<< w) g < 2 ^ n := by
  intro p
  induction p with
  | nil => intro g hg _; exact hg
  | cons w p ih =>
    intro g hg h
    refine ih _ (Nat.or_lt_two_pow hg ?_) (fun v hv => h v (List.mem_cons_of_mem _ hv))
    rw [Nat.shiftLeft_eq, Nat.one_mul]
    exact Nat.pow_lt_pow_right (by decide) (h w (by simp))
theorem msk_b {n : Nat} (p : List Nat) (h : ∀ w ∈ p, w < n) : msk p < 2 ^ n := msk_bg p 0 (Nat.two_pow_pos n) h
theorem msk_tg {w : Nat} : ∀ (p : List Nat) (g : Nat), (p.foldl (fun g w => g ||| 1 <<< w) g).testBit w = (g.testBit w || decide (w ∈ p)) := by
  intro p
  induction p with
  | nil => intro g; simp
  | cons v p ih =>
    intro g
    rw [List.foldl_cons, ih, Nat.testBit_or, Nat.shiftLeft_eq, Nat.one_mul, Nat.testBit_two_pow]
    by_cases h2 : v = w
    · subst h2; simp
    · have h3 : ¬ w = v := fun e => h2 e.symm
      simp [h2, h3]
theorem msk_t {w : Nat} (p : List Nat) : (msk p).testBit w = decide (w ∈ p) := by
  have := msk_tg (w := w) p 0
  rw [Nat.zero_testBit, Bool.false_or] at this
  exact this
theorem msk_0 {p : List Nat} {w : Nat} : (msk p >>> w &&& 1 = 0) ↔ w ∉ p := by
  have h := msk_t (w := w) p
  unfold Nat.testBit at h
  rw [Nat.and_comm] at h
  generalize msk p >>> w &&& 1 = z at *
  constructor
  · intro e hm
    rw [e] at h
    simp [hm] at h
  · intro hm
    simp [hm] at h
    exact h
section POS
variable {L : Nat} {X : Nat → Int} {M V : ax_M} {h n : Nat}
abbrev ppR (V : ax_M) (p : List Nat) (k : Nat) : Int := V 46 (gk p k)
def cntR (V : ax_M) (h : Nat) (p : List Nat) : Int := sgRr V h (mtk V h (ppR V p) (-1) (-1) 9)
theorem mtk_s2 {pp : Nat → Int} {sm wd : Int} {m a b : Nat} : mtk V h pp sm wd m a b = mtk V h pp sm wd m b a := by
  unfold mtk
  rw [apr_s, tg_s]
  by_cases z : a < nC V h ∧ b < nC V h ∧ aprD V h pp b a ≤ V h 17
  · rw [if_pos z, if_pos ⟨z.2.1, z.1, z.2.2⟩]
  · rw [if_neg z, if_neg (fun q => z ⟨q.2.1, q.1, q.2.2⟩)]
theorem cntR_C {p : List Nat} : cntR V h p = sgC V h (mtk V h (ppR V p) (-1) (-1) 9) := (sgE (fun a b => mtk_s2)).symm
theorem cntR_b (hW : HW V h) {p : List Nat} : 0 ≤ cntR V h p ∧ cntR V h p ≤ 64 := by
  have hb := hW.1.2.2.2.2
  unfold cntR sgRr
  have := sumI_b (f := fun a => sumI (sgn V h (mtk V h (ppR V p) (-1) (-1) 9) a) a) (b := 8) (by decide) (nC V h) (fun k hk => sgn_s2 _ (by omega))
  omega
theorem m57 (hF : Fix M) (hh : h = 9 ∨ h = 27) (hV : HV V h M) (hW : HW V h) (hSW : SW V) {p : List Nat} (hp : ∀ i, i < nQ V h → M 109 i = (gk p i : Int) ∧ gk p i < nQ V h) (ht : ∀ a b, a < nC V h → b < nC V h → M (86 + a) b = tg V h (-1) (-1) a b 9) : ax_Ev L X SH 1 57 [(2, 107), (2, (h : Int)), (2, 45), (2, 71)] M (R1 0 (fun x M' => x = cntR V h p ∧ M' = M)) := by
  show ax_G L X SH 1 57 0 [(2, 107), (2, (h : Int)), (2, 45), (2, 71), (3, 0), (3, 0), (3, 0), (3, 0), (3, 0)] [] M _
  have hC := at57
  have hw := wX0
  have hwh : hok X0 h := hokB (by decide +kernel) hh
  have h3 := hW.1.2.2.1.2
  have hb := hW.1.2.2.2.2
  have hsi := hW.2.2.2.2.2.1
  rw [cntR_C]
  obtain ⟨mm, hmm⟩ : ∃ mm, mm = mtk V h (ppR V p) (-1) (-1) 9 := ⟨_, rfl⟩
  rw [← hmm]
  have l1 : ∀ (m a : Nat), a + m = nC V h → ∀ ll M1, (∃ v6 v7 v8, ll = [(2, 107), (2, (h : Int)), (2, 45), (2, 71), (0, sumI (fun a => sumI (fun k => sgn V h mm a (a + 1 + k)) (nC V h - 1 - a)) a), (0, (a : Int)), v6, v7, v8] ∧ M1 = M) → ax_G L X SH 1 57 4 ll [] M1 (R1 0 (fun x M' => x = sgC V h mm ∧ M' = M)) := by
    refine lp ?_ ?_
    · rintro ll M1 ⟨v6, v7, v8, rfl, rfl⟩
      have hS : Sb X0 M1 M1 := Sb.refl
      refine g3 hC rfl rfl ?_
      refine g3 hC rfl rfl ?_
      refine g19 hC rfl (shH hh) (Nat.le_of_ble_eq_true rfl) rfl (rd3 hS hwh hV hW) ?_
      refine g13g hC rfl (fun h7 => ?_) (fun h7 => (by omega))
      refine g3 hC rfl rfl ?_
      refine ret1 hC rfl rfl ?_
      exact ⟨rfl, rfl⟩
    · rintro a ha ll M1 ⟨v6, v7, v8, rfl, rfl⟩ hnext
      have hS : Sb X0 M1 M1 := Sb.refl
      have hqa := (hW.2.2.2.1 a ha).2.1
      have hpa := hp (ckq V h a) (by omega)
      have hva := hSW.2.1 (gk p (ckq V h a)) (by omega)
      have b1 := sumI_b (f := fun a => sumI (fun k => sgn V h mm a (a + 1 + k)) (nC V h - 1 - a)) (b := 8) (by decide) a (fun k _ => sgn_s1 _ (by omega))
      have l2 : ∀ (m k : Nat), k + m = nC V h - 1 - a → ∀ ll M2, (∃ v8, ll = [(2, 107), (2, (h : Int)), (2, 45), (2, 71), (0, sumI (fun a => sumI (fun k => sgn V h mm a (a + 1 + k)) (nC V h - 1 - a)) a + sumI (fun k => sgn V h mm a (a + 1 + k)) k), (0, (a : Int)), (0, V 46 (gk p (ckq V h a))), (0, ((a + 1 + k : Nat) : Int)), v8] ∧ M2 = M1) → ax_G L X SH 1 57 23 ll [] M2 (R1 0 (fun x M' => x = sgC V h mm ∧ M' = M1)) := by
        refine lp ?_ ?_
        · rintro ll M1 ⟨v8, rfl, rfl⟩
          refine g3 hC rfl rfl ?_
          refine g3 hC rfl rfl ?_
          refine g19 hC rfl (shH hh) (Nat.le_of_ble_eq_true rfl) rfl (rd3 hS hwh hV hW) ?_
          refine g13g hC rfl (fun h26 => ?_) (fun h26 => (by omega))
          refine n5 hC rfl rfl ⟨by omega, by omega⟩ ?_
          refine g14 hC rfl ?_
          exact hnext _ _ ⟨_, _, _, rfl, rfl⟩
        · rintro k hk ll M1 ⟨v8, rfl, rfl⟩ hnx
          have b2 := sgn_s1 (V := V) (h := h) (mm := mm) (a := a) k (by omega)
          have e : sumI (fun k => sgn V h mm a (a + 1 + k)) (k + 1) = sumI (fun k => sgn V h mm a (a + 1 + k)) k + sgn V h mm a (a + 1 + k) := rfl
          have hqb := (hW.2.2.2.1 (a + 1 + k) (by omega)).2.1
          have hpb := hp (ckq V h (a + 1 + k)) (by omega)
          have hvb := hSW.2.1 (gk p (ckq V h (a + 1 + k))) (by omega)
          have hap : aprD V h (ppR V p) a (a + 1 + k) = if 0 ≤ V 46 (gk p (ckq V h a)) - V 46 (gk p (ckq V h (a + 1 + k))) then V 46 (gk p (ckq V h a)) - V 46 (gk p (ckq V h (a + 1 + k))) else -(V 46 (gk p (ckq V h a)) - V 46 (gk p (ckq V h (a + 1 + k)))) := rfl
          have emm : mm a (a + 1 + k) = if aprD V h (ppR V p) a (a + 1 + k) ≤ V h 17 then tg V h (-1) (-1) a (a + 1 + k) 9 else 0 := by
            rw [hmm]; unfold mtk
            by_cases z : aprD V h (ppR V p) a (a + 1 + k) ≤ V h 17
            · rw [if_pos ⟨ha, by omega, z⟩, if_pos z]
            · rw [if_neg (fun w => z w.2.2), if_neg z]
          have e0 : sgn V h mm a (a + 1 + k) = 0 → ∀ v, ax_G L X SH 1 57 23 [(2, 107), (2, (h : Int)), (2, 45), (2, 71), (0, sumI (fun a => sumI (fun k => sgn V h mm a (a + 1 + k)) (nC V h - 1 - a)) a + sumI (fun k => sgn V h mm a (a + 1 + k)) k), (0, (a : Int)), (0, V 46 (gk p (ckq V h a))), (0, ((a + 1 + k : Nat) : Int) + 1), v] [] M1 (R1 0 (fun x M' => x = sgC V h mm ∧ M' = M1)) := by
            intro z v
            exact hnx _ _ ⟨v, by rw [e, z, Int.add_zero]; rfl, rfl⟩
          refine g3 hC rfl rfl ?_
          refine g3 hC rfl rfl ?_
          refine g19 hC rfl (shH hh) (Nat.le_of_ble_eq_true rfl) rfl (rd3 hS hwh hV hW) ?_
          refine g13g hC rfl (fun h26 => (by omega)) (fun h26 => ?_)
          refine g3 hC rfl rfl ?_
          refine g3 hC rfl rfl ?_
          refine g19 hC rfl rfl (Nat.le_of_ble_eq_true rfl) rfl ((hS.fix hw hF).g rfl) ?_
          refine g3 hC rfl rfl ?_
          refine g19 hC rfl sh107 (Nat.le_of_ble_eq_true rfl) rfl ((hS.fix hw hF).g fx_107_2) ?_
          refine g3 hC rfl rfl ?_
          refine g19 hC rfl (shH hh) (Nat.le_of_ble_eq_true rfl) rfl ((hS.fix hw hF).h (v := 9) hh rfl rfl) ?_
          refine g3 hC rfl rfl ?_
          refine r21 ((a+1+k)) hC rfl (by omega) (shA (v := 9) hh rfl rfl) (Or.inl rfl) (by omega) (rdQ hS hwh hV hW (by omega)) ?_
          refine r21 (ckq V h (a + 1 + k)) hC rfl rfl sh109 (Or.inl rfl) (by omega) hpb.1 ?_
          refine r21 (gk p (ckq V h (a + 1 + k))) hC rfl rfl rfl (Or.inl rfl) (by omega) ((hS _ _ rfl).trans (hV.2 _).2.1) ?_
          refine g6s hC rfl ⟨by omega, by omega⟩ ?_
          refine c1 hC rfl rfl rfl (Nat.le_of_ble_eq_true rfl) (Nat.le_of_ble_eq_true rfl) rfl (m303 ⟨by omega, by omega⟩ (by omega)) (Nat.le_of_ble_eq_true rfl) (fun x M2 hr => ?_)
          obtain ⟨rfl, hr⟩ := hr; replace hr := hr.symm; subst hr; rw [← hap]
          refine s8 hC rfl rfl rfl ?_
          refine g3 hC rfl rfl ?_
          refine g3 hC rfl rfl ?_
          refine g19 hC rfl (shH hh) (Nat.le_of_ble_eq_true rfl) rfl (rdi0 hS hwh hV 17) ?_
          refine g13t hC rfl (fun h44 => ?_) (fun h44 => ?_)
          ·
            refine n7 hC rfl rfl ⟨by omega, by omega⟩ ?_
            refine g14 hC rfl ?_
            refine e0 ?_ _
            unfold sgn; rw [if_neg]; rw [emm, if_neg (by omega)]; omega
          ·
            refine g3 hC rfl rfl ?_
            refine g19 hC rfl rfl (Nat.le_of_ble_eq_true rfl) rfl ((hS.fix hw hF).g fx_71_4) ?_
            refine g3 hC rfl rfl ?_
            refine r21 (a) hC rfl (by omega) rfl (Or.inl rfl) (by omega) ((hS.fix hw hF).r (n := 8) (v := 86) rfl (by omega)) ?_
            refine g3 hC rfl rfl ?_
            refine r21 (a + 1 + k) hC rfl rfl (shR86 (by omega)) (Or.inl rfl) (by omega) (ht a (a + 1 + k) ha (by omega)) ?_
            refine g3 hC rfl rfl ?_
            refine g19 hC rfl (shH hh) (Nat.le_of_ble_eq_true rfl) rfl (rdi0 hS hwh hV 18) ?_
            refine g13l hC rfl (fun h53 => ?_) (fun h53 => ?_)
            ·
              refine n7 hC rfl rfl ⟨by omega, by omega⟩ ?_
              refine g14 hC rfl ?_
              refine e0 ?_ _
              unfold sgn; rw [if_neg]; rw [emm, if_pos (by omega)]; omega
            ·
              refine n4 hC rfl rfl ⟨by omega, by omega⟩ ?_
              refine n7 hC rfl rfl ⟨by omega, by omega⟩ ?_
              refine g14 hC rfl ?_
              refine hnx _ _ ⟨(0, aprD V h (ppR V p) a (a + 1 + k)), ?_, rfl⟩
              rw [e, show sgn V h mm a (a + 1 + k) = 1 from if_pos (by rw [emm, if_pos (by omega)]; omega), ← Int.add_assoc]; rfl
      refine g3 hC rfl rfl ?_
      refine g3 hC rfl rfl ?_
      refine g19 hC rfl (shH hh) (Nat.le_of_ble_eq_true rfl) rfl (rd3 hS hwh hV hW) ?_
      refine g13g hC rfl (fun h7 => (by omega)) (fun h7 => ?_)
      refine g3 hC rfl rfl ?_
      refine g19 hC rfl rfl (Nat.le_of_ble_eq_true rfl) rfl ((hS.fix hw hF).g rfl) ?_
      refine g3 hC rfl rfl ?_
      refine g19 hC rfl sh107 (Nat.le_of_ble_eq_true rfl) rfl ((hS.fix hw hF).g fx_107_2) ?_
      refine g3 hC rfl rfl ?_
      refine g19 hC rfl (shH hh) (Nat.le_of_ble_eq_true rfl) rfl ((hS.fix hw hF).h (v := 9) hh rfl rfl) ?_
      refine g3 hC rfl rfl ?_
      refine r21 (a) hC rfl (by omega) (shA (v := 9) hh rfl rfl) (Or.inl rfl) (by omega) (rdQ hS hwh hV hW (by omega)) ?_
      refine r21 (ckq V h a) hC rfl rfl sh109 (Or.inl rfl) (by omega) hpa.1 ?_
      refine r21 (gk p (ckq V h a)) hC rfl rfl rfl (Or.inl rfl) (by omega) ((hS _ _ rfl).trans (hV.2 _).2.1) ?_
      refine s6 hC rfl rfl rfl ?_
      refine g3 hC rfl rfl ?_
      refine g0 hC rfl ?_
      refine g6a hC rfl ⟨by omega, by omega⟩ ?_
      refine s7 hC rfl rfl rfl ?_
      exact l2 (nC V h - 1 - a) 0 (Nat.zero_add _) _ _ ⟨_, by rw [show sumI (fun k => sgn V h mm a (a + 1 + k)) 0 = 0 from rfl, Int.add_zero]; rfl, rfl⟩
  refine g0 hC rfl ?_
  refine s4 hC rfl rfl rfl ?_
  refine g0 hC rfl ?_
  refine s5 hC rfl rfl rfl ?_
  exact l1 (nC V h) 0 (Nat.zero_add _) _ _ ⟨_, _, _, rfl, rfl⟩
def BSp (M : ax_M) (n : Nat) (x : Int × List Nat) : Prop := M 107 1 = x.1 ∧ (x.1 = -1 ∨ ∀ i, i < n → M 108 i = (gk x.2 i : Int))
theorem m56 (hF : Fix M) (hh : h = 9 ∨ h = 27) (hV : HV V h M) (hW : HW V h) {p : List Nat} {c : List Nat → Int} {x : Int × List Nat} (hx : BSp M (nQ V h) x) (hp : ∀ i, i < nQ V h → M 109 i = (gk p i : Int)) : ax_Ev L X SH 0 56 [(2, 107), (2, (h : Int)), (0, c p)] M (R0 (fun M' => Sb W55 M M' ∧ BSp M' (nQ V h) (keepP c p x) ∧ ∀ i, M' 109 i = M 109 i)) := by
  show ax_G L X SH 0 56 0 [(2, 107), (2, (h : Int)), (0, c p)] [] M _
  have hC := at56
  have hw : wok W55 = true := by decide +kernel
  have hwh : hok W55 h := hokB (by decide +kernel) hh
  have hS : Sb W55 M M := Sb.refl
  have h3 := hW.1.2.2.1.2
  refine g3 hC rfl rfl ?_
  refine g3 hC rfl rfl ?_
  refine g19 hC rfl sh107 (Nat.le_of_ble_eq_true rfl) rfl hx.1 ?_
  refine g13s hC rfl (fun h3 => ?_) (fun h3 => ?_)
  ·
    refine ret0 hC rfl ?_
    refine ⟨hS, ?_, fun i => rfl⟩
    rw [show keepP c p x = x from if_neg (by omega)]; exact hx
  ·
    refine g3 hC rfl rfl ?_
    refine g3 hC rfl rfl ?_
    refine g20s hC rfl sh107 (Nat.le_of_ble_eq_true rfl) rfl hS rfl (fun hS => ?_)
    refine g3 hC rfl rfl ?_
    refine g19 hC rfl sh107 (Nat.le_of_ble_eq_true rfl) rfl ((hS.fix hw hF).g fx_107_2) ?_
    refine g0 hC rfl ?_
    refine g3 hC rfl rfl ?_
    refine g19 hC rfl sh107 (Nat.le_of_ble_eq_true rfl) rfl ((hS.fix hw hF).g fx_107_0) ?_
    refine g0 hC rfl ?_
    refine g3 hC rfl rfl ?_
    refine g19 hC rfl (shH hh) (Nat.le_of_ble_eq_true rfl) rfl (rd2 hS hwh hV hW) ?_
    refine r29s 0 0 (nQ V h) hC rfl rfl rfl rfl sh109 sh108 (by omega) (by omega) (Nat.le_of_ble_eq_true rfl) hS (fun _ => rfl) (fun hS => ?_)
    refine ret0 hC rfl ?_
    have ek : keepP c p x = (c p, p) := if_pos (by omega)
    refine ⟨hS, ?_, fun i => ?_⟩
    · rw [ek]
      refine ⟨?_, Or.inr fun i hi => ?_⟩
      · rw [cpy_ne (by decide), ax_up_at]
      · rw [cpy_in (by omega) (by omega), ax_up2n (by decide), Nat.zero_add, Nat.sub_zero]; exact hp i hi
    · rw [cpy_ne (by decide), ax_up2n (by decide)]
theorem m55 (hF : Fix M) (hh : h = 9 ∨ h = 27) (hV : HV V h M) (hW : HW V h) (hSW : SW V) (ht : ∀ a b, a < nC V h → b < nC V h → M (86 + a) b = tg V h (-1) (-1) a b 9) : ∀ (rem : Nat) (p : List Nat) (M1 : ax_M) (x : Int × List Nat), p.length + rem = nQ V h → (∀ w ∈ p, w < nQ V h) → Sb W55 M M1 → (∀ i, i < p.length → M1 109 i = (gk p i : Int)) → BSp M1 (nQ V h) x → ax_Ev L X SH (2 + rem) 55 [(2, 107), (2, (h : Int)), (2, 45), (2, 71), (0, (p.length : Int)), (0, (msk p : Int))] M1 (R0 (fun M' => Sb W55 M M' ∧ BSp M' (nQ V h) (srch (cntR V h) (nQ V h) rem p x) ∧ ∀ i, i < p.length → M' 109 i = (gk p i : Int))) := by
  have hw : wok W55 = true := by decide +kernel
  have hwh : hok W55 h := hokB (by decide +kernel) hh
  have hso : sok W55 := sokB (by decide +kernel)
  have h3 := hW.1.2.2.1.2
  have hb8 := hW.1.2.2.2.2
  have hC := at55
  intro rem
  induction rem with
  | zero =>
    intro p M1 x hl hpw hS hp hx
    show ax_G L X SH (2 + 0) 55 0 [(2, 107), (2, (h : Int)), (2, 45), (2, 71), (0, (p.length : Int)), (0, (msk p : Int)), (3, 0)] [] M1 _
    have hgp : ∀ i, i < nQ V h → gk p i < nQ V h := fun i hi => by
      exact hpw _ (gk_mem (by omega))
    refine g3 hC rfl rfl ?_
    refine g3 hC rfl rfl ?_
    refine g19 hC rfl (shH hh) (Nat.le_of_ble_eq_true rfl) rfl (rd2 hS hwh hV hW) ?_
    refine g13g hC rfl (fun h3 => ?_) (fun h3 => (by omega))
    refine g3 hC rfl rfl ?_
    refine g3 hC rfl rfl ?_
    refine g3 hC rfl rfl ?_
    refine g3 hC rfl rfl ?_
    refine g3 hC rfl rfl ?_
    refine g3 hC rfl rfl ?_
    refine c1 hC rfl rfl rfl (Nat.le_of_ble_eq_true rfl) (Nat.le_of_ble_eq_true rfl) rfl (m57 (hS.fix hw hF) hh (hV.sb hS hwh hso) hW hSW (p := p) (fun i hi => ⟨hp i (by omega), hgp i hi⟩) (fun a b ha hb => (hS _ _ (wbo 86 94 rfl (by omega) (by omega))).trans (ht a b ha hb))) (Nat.le_of_ble_eq_true rfl) (fun y M2 hr => ?_)
    obtain ⟨rfl, hr⟩ := hr; replace hr := hr.symm; subst hr
    refine c0 hC rfl rfl rfl (Nat.le_of_ble_eq_true rfl) (Nat.le_of_ble_eq_true rfl) rfl (m56 (c := cntR V h) (hS.fix hw hF) hh (hV.sb hS hwh hso) hW hx (fun i hi => hp i (by omega))) (Nat.le_of_ble_eq_true rfl) (fun M3 hr => ?_)
    refine ret0 hC rfl ?_
    exact ⟨hS.then hr.1 rfl, hr.2.1, fun i hi => by rw [hr.2.2 i]; exact hp i hi⟩
  | succ rem ih =>
    intro p M1 x hl hpw hS hp hx
    show ax_G L X SH (2 + (rem + 1)) 55 0 [(2, 107), (2, (h : Int)), (2, 45), (2, 71), (0, (p.length : Int)), (0, (msk p : Int)), (3, 0)] [] M1 _
    have hmb := msk_b p hpw
    have hp5 : 2 ^ nQ V h ≤ 2 ^ 5 := Nat.pow_le_pow_right (by decide) h3
    have hpow : (2 : Nat) ^ 5 = 32 := by decide
    have l1 : ∀ (m w : Nat), w + m = nQ V h → ∀ ll M2, (ll = [(2, 107), (2, (h : Int)), (2, 45), (2, 71), (0, (p.length : Int)), (0, (msk p : Int)), (0, (w : Int))] ∧ Sb W55 M M2 ∧ (∀ i, i < p.length → M2 109 i = (gk p i : Int)) ∧ BSp M2 (nQ V h) (it (fun w x => if w ∈ p then x else srch (cntR V h) (nQ V h) rem (p ++ [w]) x) w x)) → ax_G L X SH (2 + (rem + 1)) 55 18 ll [] M2 (R0 (fun M' => Sb W55 M M' ∧ BSp M' (nQ V h) (srch (cntR V h) (nQ V h) (rem + 1) p x) ∧ ∀ i, i < p.length → M' 109 i = (gk p i : Int))) := by
      refine lp ?_ ?_
      · rintro ll M2 ⟨rfl, hS, e1, e2⟩
        refine g3 hC rfl rfl ?_
        refine g3 hC rfl rfl ?_
        refine g19 hC rfl (shH hh) (Nat.le_of_ble_eq_true rfl) rfl (rd2 hS hwh hV hW) ?_
        refine g13g hC rfl (fun h21 => ?_) (fun h21 => (by omega))
        refine ret0 hC rfl ?_
        exact ⟨hS, e2, e1⟩
      · rintro w hw2 ll M2 ⟨rfl, hS, e1, e2⟩ hnext
        have ei : ∀ F : Nat → Int × List Nat → Int × List Nat, it F (w + 1) x = F w (it F w x) := fun _ => rfl
        have hsh : msk p >>> w < 2147483648 := by rw [Nat.shiftRight_eq_div_pow]; exact Nat.lt_of_le_of_lt (Nat.div_le_self _ _) (by omega)
        have hs1 : 1 <<< w < 32 := by
          rw [Nat.shiftLeft_eq, Nat.one_mul]
          exact Nat.lt_of_lt_of_le (Nat.pow_lt_pow_right (by decide) hw2) (by omega)
        have ih2 := ih (p ++ [w])
        rw [msk_s, List.length_append, List.length_singleton] at ih2
        have egk : ∀ i, i < p.length + 1 → gk (p ++ [w]) i = if i < p.length then gk p i else w := fun i hi => gk_app hi
        have hq1 : (∀ i, i < p.length + 1 → ax_up M2 109 p.length (w : Int) 109 i = (gk (p ++ [w]) i : Int)) ∧ BSp (ax_up M2 109 p.length (w : Int)) (nQ V h) (it (fun w x => if w ∈ p then x else srch (cntR V h) (nQ V h) rem (p ++ [w]) x) w x) := by
          refine ⟨fun i hi => ?_, e2⟩
          rw [egk i hi, ax_upf]; unfold up
          by_cases z : i < p.length
          · rw [if_pos z, if_neg (by omega)]; exact e1 i z
          · rw [if_neg z, if_pos (by omega)]
        refine g3 hC rfl rfl ?_
        refine g3 hC rfl rfl ?_
        refine g19 hC rfl (shH hh) (Nat.le_of_ble_eq_true rfl) rfl (rd2 hS hwh hV hW) ?_
        refine g13g hC rfl (fun h21 => (by omega)) (fun h21 => ?_)
        refine g3 hC rfl rfl ?_
        refine g3 hC rfl rfl ?_
        refine g6 hC rfl (congrArg some (shrN (a := msk p) (k := w) (by omega) (by omega))) ?_
        refine g0 hC rfl ?_
        refine g6 hC rfl (congrArg some (andN (a := msk p >>> w) (b := 1) hsh)) ?_
        refine g12n hC rfl (fun h27 => ?_) (fun h27 => ?_)
        ·
          refine n6 hC rfl rfl ⟨by omega, by omega⟩ ?_
          refine g14 hC rfl ?_
          refine hnext _ _ ⟨rfl, hS, e1, ?_⟩
          have hm : w ∈ p := by
            by_cases y : w ∈ p
            · exact y
            · exact absurd (by rw [msk_0.2 y]; rfl) h27
          rw [ei, if_pos hm]; exact e2
        ·
          refine g3 hC rfl rfl ?_
          refine g19 hC rfl sh107 (Nat.le_of_ble_eq_true rfl) rfl ((hS.fix hw hF).g fx_107_2) ?_
          refine g3 hC rfl rfl ?_
          refine g3 hC rfl rfl ?_
          refine r22s ((p.length)) hC rfl (by omega) sh109 (by omega) rfl hS rfl (fun hS => ?_)
          refine g3 hC rfl rfl ?_
          refine g3 hC rfl rfl ?_
          refine g3 hC rfl rfl ?_
          refine g3 hC rfl rfl ?_
          refine g3 hC rfl rfl ?_
          refine g0 hC rfl ?_
          refine g6a hC rfl ⟨by omega, by omega⟩ ?_
          refine g3 hC rfl rfl ?_
          refine g0 hC rfl ?_
          refine g3 hC rfl rfl ?_
          refine g6 hC rfl (congrArg some (shlN (a := 1) (k := w) (by omega) (by omega))) ?_
          refine g6 hC rfl (congrArg some (orN (by omega) (by omega))) ?_
          refine c0 hC rfl rfl rfl (Nat.le_of_ble_eq_true rfl) (Nat.le_of_ble_eq_true rfl) rfl (ih2 _ (it (fun w x => if w ∈ p then x else srch (cntR V h) (nQ V h) rem (p ++ [w]) x) w x) (by omega) (fun v hv => by rcases List.mem_append.mp hv with y | y; exact hpw v y; rw [List.mem_singleton] at y; omega) hS hq1.1 hq1.2) (by omega) (fun M4 hr => ?_)
          refine n6 hC rfl rfl ⟨by omega, by omega⟩ ?_
          refine g14 hC rfl ?_
          have hm : w ∉ p := msk_0.1 (Int.ofNat_eq_zero.mp (by omega))
          refine hnext _ _ ⟨rfl, hr.1, fun i hi => ?_, ?_⟩
          · rw [hr.2.2 i (by omega), egk i (by omega), if_pos hi]
          · rw [ei, if_neg hm]; exact hr.2.1
    refine g3 hC rfl rfl ?_
    refine g3 hC rfl rfl ?_
    refine g19 hC rfl (shH hh) (Nat.le_of_ble_eq_true rfl) rfl (rd2 hS hwh hV hW) ?_
    refine g13g hC rfl (fun h3 => (by omega)) (fun h3 => ?_)
    refine g3 hC rfl rfl ?_
    refine g0 hC rfl ?_
    refine g13l hC rfl (fun h6 => ?_) (fun h6 => (by omega))
    refine g0 hC rfl ?_
    refine s6 hC rfl rfl rfl ?_
    exact l1 (nQ V h) 0 (Nat.zero_add _) _ _ ⟨rfl, hS, hp, hx⟩
end POS
