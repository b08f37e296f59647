section POT
variable {L : Nat} {X : Nat → Int} {M V : ax_M} {h n : Nat}
theorem keep_ge {c : List Nat → Int} : ∀ (l : List (List Nat)) (x : Int × List Nat), x.1 ≤ (l.foldl (fun x p => keepP c p x) x).1 := by
  intro l
  induction l with
  | nil => intro x; exact Int.le_refl _
  | cons p l ih =>
    intro x
    rw [List.foldl_cons]
    refine Int.le_trans ?_ (ih _)
    unfold keepP; split
    · rename_i z; dsimp only; omega
    · exact Int.le_refl _
theorem srch_pos (hW : HW V h) : 0 ≤ (srch (cntR V h) (nQ V h) (nQ V h) [] (-1, [])).1 := by
  have h3 := hW.1.2.2.1.2
  obtain ⟨t, e1, -, -⟩ := good (n := nQ V h) h3
  rw [srch_ext, e1, List.foldl_cons]
  refine Int.le_trans ?_ (keep_ge t _)
  have := (cntR_b (V := V) (h := h) hW (p := List.range (nQ V h))).1
  unfold keepP
  rw [if_pos (by show (-1 : Int) < _; omega)]; exact this
theorem m54 (hF : Fix M) (hh : h = 9 ∨ h = 27) (hV : HV V h M) (hW : HW V h) (hSW : SW V) (ht : ∀ a b, a < nC V h → b < nC V h → M (86 + a) b = tg V h (-1) (-1) a b 9) : ax_Ev L X SH 9 54 [(2, 107), (2, (h : Int)), (2, 45), (2, 71)] M (R0 (fun M' => Sb W55 M M' ∧ BSp M' (nQ V h) (srch (cntR V h) (nQ V h) (nQ V h) [] (-1, [])))) := by
  show ax_G L X SH 9 54 0 [(2, 107), (2, (h : Int)), (2, 45), (2, 71)] [] M _
  have hC := at54
  have hw : wok W55 = true := by decide +kernel
  have hS : Sb W55 M M := Sb.refl
  have h3 := hW.1.2.2.1.2
  refine g3 hC rfl rfl ?_
  refine g0 hC rfl ?_
  refine g20s hC rfl sh107 (Nat.le_of_ble_eq_true rfl) rfl hS rfl (fun hS => ?_)
  refine g3 hC rfl rfl ?_
  refine g3 hC rfl rfl ?_
  refine g3 hC rfl rfl ?_
  refine g3 hC rfl rfl ?_
  refine g0 hC rfl ?_
  refine g0 hC rfl ?_
  refine c0 hC rfl rfl rfl (Nat.le_of_ble_eq_true rfl) (Nat.le_of_ble_eq_true rfl) rfl (m55 hF hh hV hW hSW ht (nQ V h) [] _ (-1, []) (Nat.zero_add _) (fun w hw => absurd hw (List.not_mem_nil)) hS (fun i hi => absurd hi (Nat.not_lt_zero i)) ⟨ax_up_at, Or.inl rfl⟩) (by omega) (fun M2 hr => ?_)
  refine ret0 hC rfl ?_
  exact ⟨hr.1, hr.2.1⟩
def poV (V : ax_M) (h : Nat) (a : Int) : Int := if a = -1 then (srch (cntR V h) (nQ V h) (nQ V h) [] (-1, [])).1 else if 0 ≤ a ∧ a < (nQ V h : Int) then (gk (srch (cntR V h) (nQ V h) (nQ V h) [] (-1, [])).2 a.toNat : Int) else -1
theorem m117 (hF : Fix M) (hh : h = 9 ∨ h = 27) (hG : GG n h M) {a : Int} : ax_Ev L X SH 10 117 [(2, 0), (0, a)] M (R1 0 (fun x M' => x = poV M h a ∧ Sb W117 M M')) := by
  show ax_G L X SH 10 117 0 [(2, 0), (0, a)] [] M _
  have hC := at117
  have hw : wok W117 = true := by decide +kernel
  have hwh : hok W117 h := hokB (by decide +kernel) hh
  have hS : Sb W117 M M := Sb.refl
  have hV : HV M h M := HV.refl
  have hW := hG.1
  have hH3 : M 0 3 = (h : Int) := hG.2.2.2.2.2.2.2.2.2.1.1
  have h3 := hW.1.2.2.1.2
  have hpos := srch_pos hW
  have hwd : hok WD h := hokB (by decide +kernel) hh
  have hso : sok WD := sokB (by decide +kernel)
  by_cases z1 : a = -1
  · subst z1
    have e : poV M h (-1) = (srch (cntR M h) (nQ M h) (nQ M h) [] (-1, [])).1 := if_pos rfl
    rw [e]
    refine g3 hC rfl rfl ?_
    refine g0 hC rfl ?_
    refine g13e hC rfl (fun h2 => ?_) (fun h2 => (by omega))
    refine g3 hC rfl rfl ?_
    refine c0 hC rfl rfl rfl (Nat.le_of_ble_eq_true rfl) (Nat.le_of_ble_eq_true rfl) rfl (m143 hF hh hV hW hG.2.1 hG.2.2.1 hH3) (Nat.le_of_ble_eq_true rfl) (fun M2 hr => ?_)
    obtain ⟨hr0, hrr⟩ := hr; have hS := hS.then hr0 rfl
    refine g3 hC rfl rfl ?_
    refine g19 hC rfl rfl (Nat.le_of_ble_eq_true rfl) rfl ((hS.fix hw hF).g rfl) ?_
    refine g3 hC rfl rfl ?_
    refine g19 hC rfl rfl (Nat.le_of_ble_eq_true rfl) rfl ((hS _ _ rfl).trans hH3) ?_
    refine g3 hC rfl rfl ?_
    refine g19 hC rfl rfl (Nat.le_of_ble_eq_true rfl) rfl ((hS.fix hw hF).g rfl) ?_
    refine g3 hC rfl rfl ?_
    refine g19 hC rfl rfl (Nat.le_of_ble_eq_true rfl) rfl ((hS.fix hw hF).g rfl) ?_
    refine c0 hC rfl rfl rfl (Nat.le_of_ble_eq_true rfl) (Nat.le_of_ble_eq_true rfl) rfl (m54 (hr0.fix wWD hF) hh (hV.sb hr0 hwd hso) hW hG.2.1 hrr.2.2.2.1) (Nat.le_of_ble_eq_true rfl) (fun M2 hr => ?_)
    obtain ⟨hr1, hr2⟩ := hr; have hS := hS.then hr1 rfl
    refine g3 hC rfl rfl ?_
    refine g0 hC rfl ?_
    refine g13n hC rfl (fun h24 => (by omega)) (fun h24 => ?_)
    refine g3 hC rfl rfl ?_
    refine g19 hC rfl rfl (Nat.le_of_ble_eq_true rfl) rfl ((hS.fix hw hF).g rfl) ?_
    refine g19 hC rfl sh107 (Nat.le_of_ble_eq_true rfl) rfl hr2.1 ?_
    refine g14 hC rfl ?_
    refine ret1 hC rfl rfl ?_
    exact ⟨rfl, hS⟩
  · by_cases z2 : 0 ≤ a ∧ a < (nQ M h : Int)
    · obtain ⟨k, rfl⟩ : ∃ k : Nat, a = (k : Int) := ⟨a.toNat, by omega⟩
      have e : poV M h (k : Int) = (gk (srch (cntR M h) (nQ M h) (nQ M h) [] (-1, [])).2 k : Int) := by unfold poV; rw [if_neg z1, if_pos z2]; rfl
      rw [e]
      refine g3 hC rfl rfl ?_
      refine g0 hC rfl ?_
      refine g13e hC rfl (fun h2 => (by omega)) (fun h2 => ?_)
      refine g3 hC rfl rfl ?_
      refine g3 hC rfl rfl ?_
      refine g19 hC rfl rfl (Nat.le_of_ble_eq_true rfl) rfl ((hS _ _ rfl).trans hH3) ?_
      refine g19 hC rfl (shH hh) (Nat.le_of_ble_eq_true rfl) rfl (rd2 hS hwh hV hW) ?_
      refine c1 hC rfl rfl rfl (Nat.le_of_ble_eq_true rfl) (Nat.le_of_ble_eq_true rfl) rfl (m140) (Nat.le_of_ble_eq_true rfl) (fun x M2 hr => ?_)
      obtain ⟨rfl, hr⟩ := hr; replace hr := hr.symm; subst hr; rw [if_pos z2]
      refine g12n hC rfl (fun h8 => ?_) (fun h8 => (by omega))
      refine g3 hC rfl rfl ?_
      refine c0 hC rfl rfl rfl (Nat.le_of_ble_eq_true rfl) (Nat.le_of_ble_eq_true rfl) rfl (m143 hF hh hV hW hG.2.1 hG.2.2.1 hH3) (Nat.le_of_ble_eq_true rfl) (fun M2 hr => ?_)
      obtain ⟨hr0, hrr⟩ := hr; have hS := hS.then hr0 rfl
      refine g3 hC rfl rfl ?_
      refine g19 hC rfl rfl (Nat.le_of_ble_eq_true rfl) rfl ((hS.fix hw hF).g rfl) ?_
      refine g3 hC rfl rfl ?_
      refine g19 hC rfl rfl (Nat.le_of_ble_eq_true rfl) rfl ((hS _ _ rfl).trans hH3) ?_
      refine g3 hC rfl rfl ?_
      refine g19 hC rfl rfl (Nat.le_of_ble_eq_true rfl) rfl ((hS.fix hw hF).g rfl) ?_
      refine g3 hC rfl rfl ?_
      refine g19 hC rfl rfl (Nat.le_of_ble_eq_true rfl) rfl ((hS.fix hw hF).g rfl) ?_
      refine c0 hC rfl rfl rfl (Nat.le_of_ble_eq_true rfl) (Nat.le_of_ble_eq_true rfl) rfl (m54 (hr0.fix wWD hF) hh (hV.sb hr0 hwd hso) hW hG.2.1 hrr.2.2.2.1) (Nat.le_of_ble_eq_true rfl) (fun M2 hr => ?_)
      obtain ⟨hr1, hr2⟩ := hr; have hS := hS.then hr1 rfl; have hbest : ∀ i, i < nQ M h → M2 108 i = _ := (by rcases hr2.2 with y | y; exfalso; omega; exact y)
      refine g3 hC rfl rfl ?_
      refine g0 hC rfl ?_
      refine g13n hC rfl (fun h24 => ?_) (fun h24 => (by omega))
      refine g3 hC rfl rfl ?_
      refine g19 hC rfl rfl (Nat.le_of_ble_eq_true rfl) rfl ((hS.fix hw hF).g rfl) ?_
      refine g19 hC rfl sh107 (Nat.le_of_ble_eq_true rfl) rfl ((hS.fix hw hF).g fx_107_0) ?_
      refine g3 hC rfl rfl ?_
      refine r21 (k) hC rfl rfl sh108 (Or.inl rfl) (by omega) (hbest k (by omega)) ?_
      refine ret1 hC rfl rfl ?_
      exact ⟨rfl, hS⟩
    · have e : poV M h a = -1 := by unfold poV; rw [if_neg z1, if_neg z2]
      rw [e]
      refine g3 hC rfl rfl ?_
      refine g0 hC rfl ?_
      refine g13e hC rfl (fun h2 => (by omega)) (fun h2 => ?_)
      refine g3 hC rfl rfl ?_
      refine g3 hC rfl rfl ?_
      refine g19 hC rfl rfl (Nat.le_of_ble_eq_true rfl) rfl ((hS _ _ rfl).trans hH3) ?_
      refine g19 hC rfl (shH hh) (Nat.le_of_ble_eq_true rfl) rfl (rd2 hS hwh hV hW) ?_
      refine c1 hC rfl rfl rfl (Nat.le_of_ble_eq_true rfl) (Nat.le_of_ble_eq_true rfl) rfl (m140) (Nat.le_of_ble_eq_true rfl) (fun x M2 hr => ?_)
      obtain ⟨rfl, hr⟩ := hr; replace hr := hr.symm; subst hr; rw [if_neg z2]
      refine g12n hC rfl (fun h8 => (by omega)) (fun h8 => ?_)
      refine g0 hC rfl ?_
      refine ret1 hC rfl rfl ?_
      exact ⟨rfl, hS⟩
theorem m232 (hF : Fix M) (hV : RV V h M) (hW : HW V h) (hSW : SW V) (hPW : PW V h) (hsm : M 142 69 = -1) (hwd : M 142 70 = -1) {a : Int} : ax_Ev L X SH 7 232 [(2, 142), (0, a)] M (R1 0 (fun x M' => x = poV V h a ∧ Sb X232 M M')) := by
  show ax_G L X SH 7 232 0 [(2, 142), (0, a), (3, 0), (3, 0), (3, 0), (3, 0)] [] M _
  obtain ⟨P, hP⟩ : ∃ P, P = fun (x : Int) M' => x = poV V h a ∧ Sb X232 M M' := ⟨_, rfl⟩
  rw [← hP]
  have hC := at232
  have hw : wok X232 = true := by decide +kernel
  have hwr : rok X232 := rokB (by decide +kernel)
  have hS : Sb X232 M M := Sb.refl
  have h3 := hW.1.2.2.1.2
  have hpos := srch_pos hW
  obtain ⟨t0, gd1, gd2, gd3⟩ := good (n := nQ V h) h3
  have hgb : ∀ l : List Nat, (l.length = nQ V h ∧ ∀ w ∈ l, w < nQ V h) → ∀ i, i < nQ V h → gk l i < nQ V h := fun l hl i hi => hl.2 _ (gk_mem (by omega))
  have endd : (a = -1 ∨ 0 ≤ a ∧ a < (nQ V h : Int)) → ∀ (x : Int × List Nat) (M1 : ax_M) (v4 v5 : ax_V), x = srch (cntR V h) (nQ V h) (nQ V h) [] (-1, []) → Sb X232 M M1 → (x.1 = -1 ∨ ∀ i, i < nQ V h → M1 196 i = (gk x.2 i : Int)) → ax_G L X SH 7 232 25 [(2, 142), (0, a), (0, x.1), (0, 0), v4, v5] [] M1 (R1 0 P) := by
    intro ha x M1 v4 v5 hx hS hb
    have hb2 : ∀ i, i < nQ V h → M1 196 i = (gk x.2 i : Int) := by
      rcases hb with y | y
      · exfalso; rw [hx] at y; omega
      · exact y
    by_cases z : a = -1
    · skip
      refine g3 hC rfl rfl ?_
      refine g12e hC rfl (fun h26 => ?_) (fun h26 => (by omega))
      refine g3 hC rfl rfl ?_
      refine g0 hC rfl ?_
      refine g13n hC rfl (fun h79 => (by omega)) (fun h79 => ?_)
      refine g3 hC rfl rfl ?_
      refine g14 hC rfl ?_
      refine ret1 hC rfl rfl ?_
      rw [hP]
      exact ⟨by unfold poV; rw [if_pos z, hx], hS⟩
    · have ha2 : 0 ≤ a ∧ a < (nQ V h : Int) := by rcases ha with y | y; exact absurd y z; exact y
      obtain ⟨k, rfl⟩ : ∃ k : Nat, a = (k : Int) := ⟨a.toNat, by omega⟩
      refine g3 hC rfl rfl ?_
      refine g12e hC rfl (fun h26 => ?_) (fun h26 => (by omega))
      refine g3 hC rfl rfl ?_
      refine g0 hC rfl ?_
      refine g13n hC rfl (fun h79 => ?_) (fun h79 => (by omega))
      refine g3 hC rfl rfl ?_
      refine g19 hC rfl sh142 (flt12 rfl) ft12_72 ((hS.fix hw hF).g fx_142_72) ?_
      refine g3 hC rfl rfl ?_
      refine r21 (k) hC rfl rfl sh196 (Or.inl rfl) (by omega) (hb2 k (by omega)) ?_
      refine ret1 hC rfl rfl ?_
      rw [hP]
      exact ⟨by unfold poV; rw [if_neg z, if_pos ha2, hx]; rfl, hS⟩
  have step : ∀ (l : List Nat) (x : Int × List Nat) (M1 : ax_M) (v4 v5 : ax_V), (l.length = nQ V h ∧ ∀ w ∈ l, w < nQ V h) → Sb X232 M M1 → RW M1 l → (x.1 = -1 ∨ ∀ i, i < nQ V h → M1 196 i = (gk x.2 i : Int)) → (∀ (M2 : ax_M) (v4 v5 : ax_V) (fl : Int), Sb X232 M M2 → ((keepP (cntR V h) l x).1 = -1 ∨ ∀ i, i < nQ V h → M2 196 i = (gk (keepP (cntR V h) l x).2 i : Int)) → ((fl = 0 ∧ nxtL (nQ V h) l = none) ∨ (fl = 1 ∧ ∃ l2, nxtL (nQ V h) l = some l2 ∧ l2.length = nQ V h ∧ RW M2 l2)) → ax_G L X SH 7 232 25 [(2, 142), (0, a), (0, (keepP (cntR V h) l x).1), (0, fl), v4, v5] [] M2 (R1 0 P)) → ax_G L X SH 7 232 25 [(2, 142), (0, a), (0, x.1), (0, 1), v4, v5] [] M1 (R1 0 P) := by
    intro l x M1 v4 v5 hl hS hr hb hk
    have hg := hgb l hl
    have tail : ∀ (M2 : ax_M) (v4 v5 : ax_V), Sb X232 M M2 → (∀ i, M2 195 i = M1 195 i) → ((keepP (cntR V h) l x).1 = -1 ∨ ∀ i, i < nQ V h → M2 196 i = (gk (keepP (cntR V h) l x).2 i : Int)) → ax_G L X SH 7 232 73 [(2, 142), (0, a), (0, (keepP (cntR V h) l x).1), (0, 1), v4, v5] [] M2 (R1 0 P) := by
      intro M2 v4 v5 hS h195 hb2
      refine g3 hC rfl rfl ?_
      refine c1 hC rfl rfl rfl (Nat.le_of_ble_eq_true rfl) (Nat.le_of_ble_eq_true rfl) (mayR k231 rfl) (m231 (hS.fix hw hF) (hV.sb hS hwr) hW hl.1 hl.2 (fun i hi => (h195 i).trans (hr i hi))) (Nat.le_of_ble_eq_true rfl) (fun y M3 hrr => ?_)
      obtain ⟨hr0, hrr⟩ := hrr
      refine s3 hC rfl rfl rfl ?_
      refine g14 hC rfl ?_
      refine hk _ _ _ _ (hS.then hr0 rfl) ?_ hrr
      rcases hb2 with y | y
      · exact Or.inl y
      · exact Or.inr fun i hi => by rw [hr0 196 i rfl]; exact y i hi
    have lbest : x.1 < cntR V h l → ∀ (M2 : ax_M) (v4 : ax_V), Sb X232 M M2 → (∀ i, M2 195 i = M1 195 i) → (v4.1 == 1) = false → ∀ (m k : Nat), k + m = 5 → ∀ ll M3, (ll = [(2, 142), (0, a), (0, cntR V h l), (0, 1), v4, (0, (k : Int))] ∧ Sb X232 M M3 ∧ (∀ i, M3 195 i = M1 195 i) ∧ ∀ i, i < k → M3 196 i = M1 195 i) → ax_G L X SH 7 232 60 ll [] M3 (R1 0 P) := by
      intro hlt M2 v4 _ _ hv4
      have ek : keepP (cntR V h) l x = (cntR V h l, l) := if_pos hlt
      refine lp ?_ ?_
      · rintro ll M3 ⟨rfl, hS, e1, e2⟩
        refine g3 hC rfl rfl ?_
        refine g0 hC rfl ?_
        refine g13g hC rfl (fun h62 => ?_) (fun h62 => (by omega))
        have := tail M3 v4 (0, ((5 : Nat) : Int)) hS e1 (by rw [ek]; exact Or.inr fun i hi => by rw [e2 i (by omega)]; exact hr i (by omega))
        rw [ek] at this
        exact this
      · rintro k hk ll M3 ⟨rfl, hS, e1, e2⟩ hnext
        refine g3 hC rfl rfl ?_
        refine g0 hC rfl ?_
        refine g13g hC rfl (fun h62 => (by omega)) (fun h62 => ?_)
        refine g3 hC rfl rfl ?_
        refine g19 hC rfl sh142 (flt12 rfl) ft12_72 ((hS.fix hw hF).g fx_142_72) ?_
        refine g3 hC rfl rfl ?_
        refine g3 hC rfl rfl ?_
        refine g19 hC rfl sh142 (flt12 rfl) ft12_71 ((hS.fix hw hF).g fx_142_71) ?_
        refine g3 hC rfl rfl ?_
        refine r21 (k) hC rfl rfl sh195 (Or.inl rfl) (by omega) (e1 k) ?_
        refine r22s (k) hC rfl (by omega) sh196 (by omega) rfl hS rfl (fun hS => ?_)
        refine n5 hC rfl hv4 ⟨by omega, by omega⟩ ?_
        refine g14 hC rfl ?_
        refine hnext _ _ ⟨rfl, hS, fun i => by rw [ax_up2n (by decide)]; exact e1 i, fun i hi => ?_⟩
        by_cases y : i = k
        · rw [y, ax_up_at]
        · rw [ax_up_of y]; exact e2 i (by omega)
    have lposts : ∀ (m k : Nat), k + m = nQ V h → ∀ ll M2, (ll = [(2, 142), (0, a), (0, x.1), (0, 1), (0, (k : Int)), v5] ∧ Sb X232 M M2 ∧ (∀ i, M2 195 i = M1 195 i) ∧ (∀ i, M2 196 i = M1 196 i) ∧ ∀ i, i < k → M2 194 i = V 46 (gk l i)) → ax_G L X SH 7 232 29 ll [] M2 (R1 0 P) := by
      refine lp ?_ ?_
      · rintro ll M2 ⟨rfl, hS, e1, e2, e3⟩
        have hcb := cntR_b (V := V) (h := h) hW (p := l)
        refine g3 hC rfl rfl ?_
        refine g3 hC rfl rfl ?_
        refine c1 hC rfl rfl rfl (Nat.le_of_ble_eq_true rfl) (Nat.le_of_ble_eq_true rfl) (mayR k185 rfl) (m185 (hS.fix hw hF) (hV.sb hS hwr) hW) (Nat.le_of_ble_eq_true rfl) (fun y M3 hrr => ?_)
        obtain ⟨rfl, hrr⟩ := hrr; replace hrr := hrr.symm; subst hrr
        refine g13g hC rfl (fun h32 => ?_) (fun h32 => (by omega))
        refine g3 hC rfl rfl ?_
        refine c0 hC rfl rfl rfl (Nat.le_of_ble_eq_true rfl) (Nat.le_of_ble_eq_true rfl) (mayR k207 rfl) (m207 (hS.fix hw hF) (hV.sb hS hwr) hW hSW hPW ((hS 142 69 rfl).trans hsm) ((hS 142 70 rfl).trans hwd) (pp := ppR V l) (fun q hq => by have := hSW.2.1 (gk l q) (by have := hg q hq; omega); show -100 ≤ V 46 (gk l q) ∧ V 46 (gk l q) ≤ 100; omega) e3) (Nat.le_of_ble_eq_true rfl) (fun M3 hrr => ?_)
        obtain ⟨hd0, hro⟩ := hrr; have hS := hS.then hd0 rfl
        refine g3 hC rfl rfl ?_
        refine c1 hC rfl rfl rfl (Nat.le_of_ble_eq_true rfl) (Nat.le_of_ble_eq_true rfl) (mayR k210 rfl) (m210 (hS.fix hw hF) (hV.sb hS hwr) hW (mm := mtk V h (ppR V l) (-1) (-1) 9) hro.2.2.2) (Nat.le_of_ble_eq_true rfl) (fun y M4 hrr => ?_)
        obtain ⟨hy, hrr⟩ := hrr; replace hrr := hrr.symm; subst hrr; replace hy : y = cntR V h l := hy; subst hy
        refine s4 hC rfl rfl rfl ?_
        refine g3 hC rfl rfl ?_
        refine g3 hC rfl rfl ?_
        refine g13s hC rfl (fun h55 => ?_) (fun h55 => ?_)
        ·
          have ek : keepP (cntR V h) l x = x := if_neg (by omega)
          have := tail _ (0, cntR V h l) v5 hS (fun i => (hd0 195 i rfl).trans (e1 i)) (by
            rw [ek]
            rcases hb with y | y
            · exact Or.inl y
            · exact Or.inr fun i hi => by rw [hd0 196 i rfl, e2 i]; exact y i hi)
          rw [ek] at this
          exact this
        ·
          refine g3 hC rfl rfl ?_
          refine s2 hC rfl rfl rfl ?_
          refine g0 hC rfl ?_
          refine s5 hC rfl rfl rfl ?_
          exact lbest (by omega) _ _ hS (fun i => (hd0 195 i rfl).trans (e1 i)) rfl 5 0 rfl _ _ ⟨rfl, hS, fun i => (hd0 195 i rfl).trans (e1 i), fun i hi => absurd hi (Nat.not_lt_zero i)⟩
      · rintro k hk2 ll M2 ⟨rfl, hS, e1, e2, e3⟩ hnext
        have hgk := hg k hk2
        have r1 := (e1 k).trans (hr k (by omega))
        have r2 : M2 185 (1 + gk l k) = V 46 (gk l k) := rmpo hS hwr hV hW (by omega)
        refine g3 hC rfl rfl ?_
        refine g3 hC rfl rfl ?_
        refine c1 hC rfl rfl rfl (Nat.le_of_ble_eq_true rfl) (Nat.le_of_ble_eq_true rfl) (mayR k185 rfl) (m185 (hS.fix hw hF) (hV.sb hS hwr) hW) (Nat.le_of_ble_eq_true rfl) (fun y M3 hrr => ?_)
        obtain ⟨rfl, hrr⟩ := hrr; replace hrr := hrr.symm; subst hrr
        refine g13g hC rfl (fun h32 => (by omega)) (fun h32 => ?_)
        refine g3 hC rfl rfl ?_
        refine g19 hC rfl sh142 (flt12 rfl) ft12_68 ((hS.fix hw hF).g fx_142_68) ?_
        refine g3 hC rfl rfl ?_
        refine g3 hC rfl rfl ?_
        refine g19 hC rfl sh142 (flt12 rfl) ft12_54 ((hS.fix hw hF).g fx_142_54) ?_
        refine g0 hC rfl ?_
        refine g3 hC rfl rfl ?_
        refine g19 hC rfl sh142 (flt12 rfl) ft12_71 ((hS.fix hw hF).g fx_142_71) ?_
        refine g3 hC rfl rfl ?_
        refine r21 (k) hC rfl rfl sh195 (Or.inl rfl) (by omega) r1 ?_
        refine g6a hC rfl ⟨by omega, by omega⟩ ?_
        refine r21 (1 + gk l k) hC rfl (by omega) sh185 (Or.inl rfl) (by omega) r2 ?_
        refine r22s (k) hC rfl (by omega) sh194 (by omega) rfl hS rfl (fun hS => ?_)
        refine n4 hC rfl rfl ⟨by omega, by omega⟩ ?_
        refine g14 hC rfl ?_
        refine hnext _ _ ⟨rfl, hS, fun i => by rw [ax_up2n (by decide)]; exact e1 i, fun i => by rw [ax_up2n (by decide)]; exact e2 i, fun i hi => ?_⟩
        by_cases y : i = k
        · rw [y, ax_up_at]
        · rw [ax_up_of y]; exact e3 i (by omega)
    refine g3 hC rfl rfl ?_
    refine g12e hC rfl (fun h26 => (by omega)) (fun h26 => ?_)
    refine g0 hC rfl ?_
    refine s4 hC rfl rfl rfl ?_
    exact lposts (nQ V h) 0 (Nat.zero_add _) _ _ ⟨rfl, hS, fun _ => rfl, fun _ => rfl, fun i hi => absurd hi (Nat.not_lt_zero i)⟩
  have body : (a = -1 ∨ 0 ≤ a ∧ a < (nQ V h : Int)) → ∀ (t : List (List Nat)) (l : List Nat) (x : Int × List Nat) (M1 : ax_M) (v4 v5 : ax_V), chn (nQ V h) l t → (∀ p ∈ (l :: t), p.length = nQ V h ∧ ∀ w ∈ p, w < nQ V h) → (l :: t).foldl (fun x p => keepP (cntR V h) p x) x = srch (cntR V h) (nQ V h) (nQ V h) [] (-1, []) → Sb X232 M M1 → RW M1 l → (x.1 = -1 ∨ ∀ i, i < nQ V h → M1 196 i = (gk x.2 i : Int)) → ax_G L X SH 7 232 25 [(2, 142), (0, a), (0, x.1), (0, 1), v4, v5] [] M1 (R1 0 P) := by
    intro ha t
    induction t with
    | nil =>
      intro l x M1 v4 v5 hc hp hf hS hr hb
      refine step l x M1 v4 v5 (hp l (by simp)) hS hr hb (fun M2 v4 v5 fl hS2 hb2 hfl => ?_)
      rcases hfl with ⟨rfl, -⟩ | ⟨rfl, l2, y, -⟩
      · exact endd ha _ _ _ _ hf hS2 hb2
      · have hc' : nxtL (nQ V h) l = none := hc
        rw [hc'] at y; cases y
    | cons l2 t ih =>
      intro l x M1 v4 v5 hc hp hf hS hr hb
      refine step l x M1 v4 v5 (hp l (by simp)) hS hr hb (fun M2 v4 v5 fl hS2 hb2 hfl => ?_)
      rcases hfl with ⟨rfl, y⟩ | ⟨rfl, l3, y, y2, y3⟩
      · have hc' := hc.1
        rw [hc'] at y; cases y
      · have hc' := hc.1
        rw [hc'] at y
        injection y with y
        subst y
        exact ih l2 _ M2 v4 v5 hc.2 (fun p hp2 => hp p (List.mem_cons_of_mem _ hp2)) hf hS2 y3 hb2
  have lrow : (a = -1 ∨ 0 ≤ a ∧ a < (nQ V h : Int)) → ∀ (m k : Nat), k + m = 5 → ∀ ll M1, (∃ v5, ll = [(2, 142), (0, a), (0, -1), (0, 1), (0, (k : Int)), v5] ∧ Sb X232 M M1 ∧ ∀ i, i < k → M1 195 i = (i : Int)) → ax_G L X SH 7 232 15 ll [] M1 (R1 0 P) := by
    intro ha
    refine lp ?_ ?_
    · rintro ll M1 ⟨v5, rfl, hS, e1⟩
      refine g3 hC rfl rfl ?_
      refine g0 hC rfl ?_
      refine g13g hC rfl (fun h17 => ?_) (fun h17 => (by omega))
      refine body ha t0 (List.range (nQ V h)) (-1, []) M1 _ _ gd2 gd3 ?_ hS (fun i hi => ?_) (Or.inl rfl)
      · rw [srch_ext, gd1]
      · rw [List.length_range] at hi
        rw [e1 i (by omega)]
        unfold gk
        rw [List.getD_eq_getElem?_getD, List.getElem?_range hi]; rfl
    · rintro k hk ll M1 ⟨v5, rfl, hS, e1⟩ hnext
      refine g3 hC rfl rfl ?_
      refine g0 hC rfl ?_
      refine g13g hC rfl (fun h17 => (by omega)) (fun h17 => ?_)
      refine g3 hC rfl rfl ?_
      refine g19 hC rfl sh142 (flt12 rfl) ft12_71 ((hS.fix hw hF).g fx_142_71) ?_
      refine g3 hC rfl rfl ?_
      refine g3 hC rfl rfl ?_
      refine r22s (k) hC rfl (by omega) sh195 (by omega) rfl hS rfl (fun hS => ?_)
      refine n4 hC rfl rfl ⟨by omega, by omega⟩ ?_
      refine g14 hC rfl ?_
      refine hnext _ _ ⟨v5, rfl, hS, fun i hi => ?_⟩
      by_cases y : i = k
      · rw [y, ax_up_at]
      · rw [ax_up_of y]; exact e1 i (by omega)
  by_cases z1 : a = -1
  · skip
    refine g3 hC rfl rfl ?_
    refine g0 hC rfl ?_
    refine g13e hC rfl (fun h2 => ?_) (fun h2 => (by omega))
    refine g0 hC rfl ?_
    refine s2 hC rfl rfl rfl ?_
    refine g0 hC rfl ?_
    refine s3 hC rfl rfl rfl ?_
    refine g0 hC rfl ?_
    refine s4 hC rfl rfl rfl ?_
    exact lrow (Or.inl z1) 5 0 rfl _ _ ⟨_, rfl, hS, fun i hi => absurd hi (Nat.not_lt_zero i)⟩
  · by_cases z2 : 0 ≤ a ∧ a < (nQ V h : Int)
    · skip
      refine g3 hC rfl rfl ?_
      refine g0 hC rfl ?_
      refine g13e hC rfl (fun h2 => (by omega)) (fun h2 => ?_)
      refine g3 hC rfl rfl ?_
      refine g3 hC rfl rfl ?_
      refine c1 hC rfl rfl rfl (Nat.le_of_ble_eq_true rfl) (Nat.le_of_ble_eq_true rfl) (mayR k188 rfl) (m188 hF hV hW) (Nat.le_of_ble_eq_true rfl) (fun x M2 hr => ?_)
      obtain ⟨rfl, hr⟩ := hr; replace hr := hr.symm; subst hr; rw [if_pos z2]
      refine g12n hC rfl (fun h6 => ?_) (fun h6 => (by omega))
      refine g0 hC rfl ?_
      refine s2 hC rfl rfl rfl ?_
      refine g0 hC rfl ?_
      refine s3 hC rfl rfl rfl ?_
      refine g0 hC rfl ?_
      refine s4 hC rfl rfl rfl ?_
      exact lrow (Or.inr z2) 5 0 rfl _ _ ⟨_, rfl, hS, fun i hi => absurd hi (Nat.not_lt_zero i)⟩
    · skip
      refine g3 hC rfl rfl ?_
      refine g0 hC rfl ?_
      refine g13e hC rfl (fun h2 => (by omega)) (fun h2 => ?_)
      refine g3 hC rfl rfl ?_
      refine g3 hC rfl rfl ?_
      refine c1 hC rfl rfl rfl (Nat.le_of_ble_eq_true rfl) (Nat.le_of_ble_eq_true rfl) (mayR k188 rfl) (m188 hF hV hW) (Nat.le_of_ble_eq_true rfl) (fun x M2 hr => ?_)
      obtain ⟨rfl, hr⟩ := hr; replace hr := hr.symm; subst hr; rw [if_neg z2]
      refine g12n hC rfl (fun h6 => (by omega)) (fun h6 => ?_)
      refine g0 hC rfl ?_
      refine ret1 hC rfl rfl ?_
      rw [hP]
      exact ⟨by unfold poV; rw [if_neg z1, if_neg z2], hS⟩
theorem op17 (hR0 : Rel n M) {a : Int} : OP L X n 0 117 232 [(2, 0), (0, a)] [(2, 142), (0, a)] M := by
  have hR := hR0
  obtain ⟨h, hh, hF, hG⟩ := hR
  have hG0 := hG
  obtain ⟨hW, hSW, hPW, hRV, hGT, hGN, hGM, hGH, hGS, hGX⟩ := hG
  have hV : HV M h M := HV.refl
  have hH3 : M 0 3 = (h : Int) := hGX.1.1
  refine OP.sc (W' := X232) hR0 (by decide +kernel) (by decide +kernel) (by decide +kernel) (by decide +kernel) (m117 hF hh hG0) (fun M1 hS => ?_) (by decide) (d' := 7) (by decide)
  exact m232 (hS.fix (by decide +kernel) hF) (hRV.sb hS (rokB (by decide +kernel))) hW hSW hPW ((hS 142 69 rfl).trans hGX.2.2.1.1) ((hS 142 70 rfl).trans hGX.2.2.1.2)
end POT
