def WVQ : ax_W := ([(138, 139), (5, 6), (23, 24), (26, 27), (41, 42), (44, 45)], [])
def XTQ : ax_W := ([(230, 231)], [(142, 53), (142, 116)])
def lfQ (V : ax_M) (h : Nat) (ou : Nat → Int) (c i : Nat) : Int := if i = 0 then (cp V h c : Int) else if i = 1 then V (h + 11) c else if i = 2 then V 45 0 else if i = 7 then (c : Int) else if i = 8 then V 46 (ckq V h c) else if i = 9 then ou c else if i = 10 then sgO V c (nC V h) else 0
def mtQ (V : ax_M) (h : Nat) (mm : Nat → Nat → Int) (c : Nat) (x : Int) : Int := if 0 ≤ x ∧ x < (nC V h : Int) ∧ ¬ x = (c : Int) then mm c x.toNat else 0
def ouB (V : ax_M) (h : Nat) (ou : Nat → Int) : Prop := ∀ c, c < nC V h → -1 ≤ ou c ∧ ou c ≤ 99
theorem ou_b {V : ax_M} {h : Nat} {sm wd : Int} : ∀ m, m ≤ 9 → ∀ c, -1 ≤ (DD V h sm wd m).2.2.1 c ∧ (DD V h sm wd m).2.2.1 c ≤ 99 := by
  intro m
  induction m with
  | zero =>
    intro _ c
    show -1 ≤ (if ch V h c = 0 then (-1 : Int) else 99) ∧ (if ch V h c = 0 then (-1 : Int) else 99) ≤ 99
    split <;> decide
  | succ m ih =>
    intro hm
    show ∀ c, -1 ≤ (Dmi V h sm wd m (DD V h sm wd m)).2.2.1 c ∧ (Dmi V h sm wd m (DD V h sm wd m)).2.2.1 c ≤ 99
    unfold Dmi
    refine it_ind (P := fun D : DT => ∀ c, -1 ≤ D.2.2.1 c ∧ D.2.2.1 c ≤ 99) (ih (by omega)) (fun k D _ hD => ?_)
    unfold D1
    split
    · exact hD
    · split
      · split
        · exact hD
        · exact hD
      · intro c
        dsimp only
        split
        · unfold up; split
          · omega
          · exact hD c
        · exact hD c
theorem mt_self {V : ax_M} {h : Nat} {sm wd : Int} {c : Nat} : mt V h sm wd c c = 0 := by
  unfold mt
  split
  · unfold tg
    refine it_ind (P := fun x : Int => x = 0) rfl (fun k x _ hx => ?_)
    rw [hx, if_neg (fun z => z.1 rfl)]; rfl
  · rfl
section ASV
variable {L : Nat} {X : Nat → Int} {M V : ax_M} {h : Nat}
theorem lfQ_b (hW : HW V h) (hSW : SW V) {ou : Nat → Int} (ho : ouB V h ou) {c : Nat} (hc : c < nC V h) : ∀ i, bnd (lfQ V h ou c i) := by
  intro i
  have h1 := hW.2.2.2.1 c hc
  have h2 := hW.1.2.2.2.2
  have h3 := hW.1.2.2.1.2
  have h4 := hSW.2.1 (ckq V h c) (by omega)
  have h5 := sgO_b (V := V) (c := c) (by omega) hSW.2.2.2 (nC V h) h2
  have h6 := ho c hc
  have h7 := hSW.1
  unfold lfQ bnd
  split
  · omega
  split
  · omega
  split
  · omega
  split
  · omega
  split
  · omega
  split
  · omega
  split
  · omega
  · omega
theorem mtQ_b {mm : Nat → Nat → Int} (hm : ∀ a b, 0 ≤ mm a b ∧ mm a b ≤ 9) {c : Nat} : ∀ x, bnd (mtQ V h mm c x) := by
  intro x
  unfold mtQ bnd
  split
  · have := hm c x.toNat; omega
  · omega
theorem m149 (hF : Fix M) (hh : h = 9 ∨ h = 27) (hV : HV V h M) (hW : HW V h) (hSW : SW V) (hH3 : M 0 3 = (h : Int)) {ou : Nat → Int} (ho : ouB V h ou) (hou : ∀ c, c < nC V h → M 73 c = ou c) {mm : Nat → Nat → Int} (hmb : ∀ a b, 0 ≤ mm a b ∧ mm a b ≤ 9) (hmm : ∀ a b, a < 8 → b < 8 → M (95 + a) b = mm a b) (hm0 : ∀ a b, (nC V h ≤ b ∨ a = b) → mm a b = 0) {cc : Nat → Int} {m : Nat} {b : Bool} (hc : Code M 3 2 cc m) (hT : Typed cc m b) {c : Nat} (hcn : c < nC V h) : ax_Ev L X SH 3 149 [(2, 0), (0, (c : Int))] M (R1 0 (fun x M' => x = pval (lfQ V h ou c) (mtQ V h mm c) cc m ∧ Sb WVQ M M')) := by
  show ax_G L X SH 3 149 0 [(2, 0), (0, (c : Int))] [] M _
  have hC := at149
  have hw : wok WVQ = true := by decide +kernel
  have hwh : hok WVQ h := hokB (by decide +kernel) hh
  have hso : sok WVQ := sokB (by decide +kernel)
  have hS : Sb WVQ M M := Sb.refl
  have hb := hW.1.2.2.2.2
  have hb5 := hW.1.2.2.1.2
  have hcl := hW.2.2.2.1 c hcn
  obtain ⟨v, hv⟩ : ∃ v : Nat → Int, v = fun i => if i = 0 then (cp V h c : Int) else if i = 1 then V (h + 11) c else if i = 2 then V 45 0 else if i = 3 then (c : Int) else if i = 4 then V 46 (ckq V h c) else if i = 5 then ou c else sgO V c (nC V h) := ⟨_, rfl⟩
  have c60 : ∀ M2, Sb WVQ M M2 → (∀ i, i < 7 → M2 138 i = v i) → ax_Ev L X SH 2 60 [(2, 3), (2, 138), (2, ((95 + c : Nat) : Int))] M2 (R1 0 (fun x M' => x = pval (lfQ V h ou c) (mtQ V h mm c) cc m ∧ Sb W0 M2 M')) := by
    intro M2 hs2 h138
    refine m60 (p := 3) (la := 138) (nl := 7) (mr := 95 + c) (kind := 2) (hs2.fix hw hF) (Or.inl rfl) sh138 (shR95 (by omega)) rfl (hc.of (hs2 _ _ rfl) (fun k => hs2 _ _ rfl)) (fun w h40 h60 hl => ?_) hT (lfQ_b hW hSW ho hcn) (mtQ_b hmb) (fun _ x => ?_) (fun k => rfl) (fun k => wbo 95 103 rfl (by omega) (by omega))
    · have hll := hl.1 h40 h60
      have : w = 40 ∨ w = 41 ∨ w = 42 ∨ w = 47 ∨ w = 48 ∨ w = 49 ∨ w = 50 := by omega
      rcases this with rfl | rfl | rfl | rfl | rfl | rfl | rfl
      · exact (h138 0 (by decide)).trans (by rw [hv]; rfl)
      · exact (h138 1 (by decide)).trans (by rw [hv]; rfl)
      · exact (h138 2 (by decide)).trans (by rw [hv]; rfl)
      · exact (h138 3 (by decide)).trans (by rw [hv]; rfl)
      · exact (h138 4 (by decide)).trans (by rw [hv]; rfl)
      · exact (h138 5 (by decide)).trans (by rw [hv]; rfl)
      · exact (h138 6 (by decide)).trans (by rw [hv]; rfl)
    · unfold mtQ
      by_cases z : 0 ≤ x ∧ x < 8
      · rw [if_pos z, hs2 _ _ (wbo 95 103 rfl (by omega) (by omega)), hmm c x.toNat (by omega) (by omega)]
        by_cases y : 0 ≤ x ∧ x < (nC V h : Int) ∧ ¬ x = (c : Int)
        · rw [if_pos y]
        · rw [if_neg y]; exact hm0 _ _ (by omega)
      · rw [if_neg z, if_neg (by omega)]
  refine g3 hC rfl rfl ?_
  refine g19 hC rfl rfl (Nat.le_of_ble_eq_true rfl) rfl ((hS.fix hw hF).g rfl) ?_
  refine g0 hC rfl ?_
  refine g3 hC rfl rfl ?_
  refine g19 hC rfl rfl (Nat.le_of_ble_eq_true rfl) rfl ((hS _ _ rfl).trans hH3) ?_
  refine g19 hC rfl (shH hh) (Nat.le_of_ble_eq_true rfl) rfl ((hS.fix hw hF).h (v := 10) hh rfl rfl) ?_
  refine g3 hC rfl rfl ?_
  refine r21 (c) hC rfl (by omega) (shA (v := 10) hh rfl rfl) (Or.inl rfl) (by omega) (rdP hS hwh hV hW (by omega)) ?_
  refine r22s (0) hC rfl (by omega) sh138 (by omega) rfl hS rfl (fun hS => ?_)
  refine g3 hC rfl rfl ?_
  refine g19 hC rfl rfl (Nat.le_of_ble_eq_true rfl) rfl ((hS.fix hw hF).g rfl) ?_
  refine g0 hC rfl ?_
  refine g3 hC rfl rfl ?_
  refine g19 hC rfl rfl (Nat.le_of_ble_eq_true rfl) rfl ((hS _ _ rfl).trans hH3) ?_
  refine g19 hC rfl (shH hh) (Nat.le_of_ble_eq_true rfl) rfl ((hS.fix hw hF).h (v := 11) hh rfl rfl) ?_
  refine g3 hC rfl rfl ?_
  refine r21 (c) hC rfl (by omega) (shA (v := 11) hh rfl rfl) (Or.inl rfl) (by omega) (rdi hS hwh hV 11 _ (by decide) (by decide) (by decide)) ?_
  refine r22s (1) hC rfl (by omega) sh138 (by omega) rfl hS rfl (fun hS => ?_)
  refine g3 hC rfl rfl ?_
  refine g19 hC rfl rfl (Nat.le_of_ble_eq_true rfl) rfl ((hS.fix hw hF).g rfl) ?_
  refine g0 hC rfl ?_
  refine g3 hC rfl rfl ?_
  refine g19 hC rfl rfl (Nat.le_of_ble_eq_true rfl) rfl ((hS.fix hw hF).g rfl) ?_
  refine g19 hC rfl rfl (Nat.le_of_ble_eq_true rfl) rfl ((hS _ _ rfl).trans (hV.2 0).1) ?_
  refine r22s (2) hC rfl (by omega) sh138 (by omega) rfl hS rfl (fun hS => ?_)
  refine g3 hC rfl rfl ?_
  refine g19 hC rfl rfl (Nat.le_of_ble_eq_true rfl) rfl ((hS.fix hw hF).g rfl) ?_
  refine g0 hC rfl ?_
  refine g3 hC rfl rfl ?_
  refine r22s (3) hC rfl (by omega) sh138 (by omega) rfl hS rfl (fun hS => ?_)
  refine g3 hC rfl rfl ?_
  refine g19 hC rfl rfl (Nat.le_of_ble_eq_true rfl) rfl ((hS.fix hw hF).g rfl) ?_
  refine g0 hC rfl ?_
  refine g3 hC rfl rfl ?_
  refine g19 hC rfl rfl (Nat.le_of_ble_eq_true rfl) rfl ((hS.fix hw hF).g rfl) ?_
  refine g19 hC rfl rfl (Nat.le_of_ble_eq_true rfl) rfl ((hS.fix hw hF).g rfl) ?_
  refine g3 hC rfl rfl ?_
  refine g19 hC rfl rfl (Nat.le_of_ble_eq_true rfl) rfl ((hS _ _ rfl).trans hH3) ?_
  refine g19 hC rfl (shH hh) (Nat.le_of_ble_eq_true rfl) rfl ((hS.fix hw hF).h (v := 9) hh rfl rfl) ?_
  refine g3 hC rfl rfl ?_
  refine r21 (c) hC rfl (by omega) (shA (v := 9) hh rfl rfl) (Or.inl rfl) (by omega) (rdQ hS hwh hV hW (by omega)) ?_
  refine r21 ((ckq V h (c))) hC rfl (by omega) rfl (Or.inl rfl) (by omega) ((hS _ _ rfl).trans (hV.2 _).2.1) ?_
  refine r22s (4) hC rfl (by omega) sh138 (by omega) rfl hS rfl (fun hS => ?_)
  refine g3 hC rfl rfl ?_
  refine g19 hC rfl rfl (Nat.le_of_ble_eq_true rfl) rfl ((hS.fix hw hF).g rfl) ?_
  refine g0 hC rfl ?_
  refine g3 hC rfl rfl ?_
  refine g19 hC rfl rfl (Nat.le_of_ble_eq_true rfl) rfl ((hS.fix hw hF).g rfl) ?_
  refine g19 hC rfl rfl (Nat.le_of_ble_eq_true rfl) rfl ((hS.fix hw hF).g fx_71_1) ?_
  refine g3 hC rfl rfl ?_
  refine r21 (c) hC rfl (by omega) rfl (Or.inl rfl) (by omega) ((hS 73 _ rfl).trans (hou c hcn)) ?_
  refine r22s (5) hC rfl (by omega) sh138 (by omega) rfl hS rfl (fun hS => ?_)
  refine g3 hC rfl rfl ?_
  refine g19 hC rfl rfl (Nat.le_of_ble_eq_true rfl) rfl ((hS.fix hw hF).g rfl) ?_
  refine g0 hC rfl ?_
  refine g3 hC rfl rfl ?_
  refine g19 hC rfl rfl (Nat.le_of_ble_eq_true rfl) rfl ((hS.fix hw hF).g rfl) ?_
  refine g3 hC rfl rfl ?_
  refine g3 hC rfl rfl ?_
  refine g19 hC rfl rfl (Nat.le_of_ble_eq_true rfl) rfl ((hS _ _ rfl).trans hH3) ?_
  refine g19 hC rfl (shH hh) (Nat.le_of_ble_eq_true rfl) rfl (rd3 hS hwh hV hW) ?_
  refine c1 hC rfl rfl rfl (Nat.le_of_ble_eq_true rfl) (Nat.le_of_ble_eq_true rfl) rfl (m69 (V := V) (hS.fix hw hF) (fun k => (hS 48 k rfl).trans (hV.2 k).2.2.2) hSW.2.2.2 (c := c) (m0 := nC V h) (by omega) hb) (Nat.le_of_ble_eq_true rfl) (fun x M2 hr => ?_)
  obtain ⟨rfl, hr⟩ := hr
  replace hr := hr.symm
  subst hr
  refine r22s (6) hC rfl (by omega) sh138 (by omega) rfl hS rfl (fun hS => ?_)
  refine g3 hC rfl rfl ?_
  refine g19 hC rfl rfl (Nat.le_of_ble_eq_true rfl) rfl ((hS.fix hw hF).g rfl) ?_
  refine g3 hC rfl rfl ?_
  refine g19 hC rfl rfl (Nat.le_of_ble_eq_true rfl) rfl ((hS.fix hw hF).g rfl) ?_
  refine g3 hC rfl rfl ?_
  refine g19 hC rfl rfl (Nat.le_of_ble_eq_true rfl) rfl ((hS.fix hw hF).g rfl) ?_
  refine g19 hC rfl rfl (Nat.le_of_ble_eq_true rfl) rfl ((hS.fix hw hF).g fx_71_5) ?_
  refine g3 hC rfl rfl ?_
  refine r21 (c) hC rfl (by omega) sh94 (Or.inl rfl) (by omega) ((hS.fix hw hF).r (n := 8) (v := 95) rfl (by omega)) ?_
  refine c1 hC rfl rfl rfl (Nat.le_of_ble_eq_true rfl) (Nat.le_of_ble_eq_true rfl) rfl (c60 _ hS (fun i hi => by { rw [hv]; have h7 : i = 0 ∨ i = 1 ∨ i = 2 ∨ i = 3 ∨ i = 4 ∨ i = 5 ∨ i = 6 := (by omega); rcases h7 with rfl | rfl | rfl | rfl | rfl | rfl | rfl <;> rfl })) (Nat.le_of_ble_eq_true rfl) (fun x M2 hr => ?_)
  refine ret1 hC rfl rfl ?_
  exact ⟨hr.1, hS.then hr.2 rfl⟩
theorem m286q (hF : Fix M) (hV : RV V h M) (hW : HW V h) (hSW : SW V) {ou : Nat → Int} (hou : ∀ c, c < nC V h → M 190 c = ou c) {c : Nat} {w : Int} (hc : c < nC V h) (hw0 : (0 ≤ w ∧ w ≤ 2) ∨ (7 ≤ w ∧ w ≤ 10)) : ax_Ev L X SH 3 286 [(2, 142), (0, w), (0, (c : Int))] M (R1 1 (fun x M' => x = lfQ V h ou c w.toNat ∧ M' = M)) := by
  show ax_G L X SH 3 286 0 [(2, 142), (0, w), (0, (c : Int))] [] M _
  have hC := at286
  have hw := wX0
  have hwr := rX0
  have hS : Sb X0 M M := Sb.refl
  have hb := hW.1.2.2.2.2
  have hb5 := hW.1.2.2.1.2
  have hcl := hW.2.2.2.1 c hc
  refine g3 hC rfl rfl ?_
  by_cases k1_0 : w = 0
  ·
    refine g15k (key := 0) (i' := 2) hC rfl rfl k1_0 rfl ?_
    refine g3 hC rfl rfl ?_
    refine g19 hC rfl sh142 (flt12 rfl) ft12_46 ((hS.fix hw hF).g fx_142_46) ?_
    refine g0 hC rfl ?_
    refine g0 hC rfl ?_
    refine g3 hC rfl rfl ?_
    refine g6m hC rfl ⟨by omega, by omega⟩ ?_
    refine g6a hC rfl ⟨by omega, by omega⟩ ?_
    refine r21 ((34 + (4 * c))) hC rfl (by omega) sh180 (Or.inl rfl) (by omega) (rmP hS hwr hV hW (by omega)) ?_
    refine g9 hC rfl ?_
    refine ret1 hC rfl rfl ?_
    first | omega | exact ⟨by subst k1_0; rfl, rfl⟩ | exact ⟨by subst k1_1; rfl, rfl⟩ | exact ⟨by subst k1_2; rfl, rfl⟩ | exact ⟨by subst k1_7; rfl, rfl⟩ | exact ⟨by subst k1_8; rfl, rfl⟩ | exact ⟨by subst k1_9; rfl, rfl⟩ | exact ⟨by have hw10 : w = 10 := (by omega); subst hw10; rfl, rfl⟩
  by_cases k1_1 : w = 1
  ·
    refine g15k (key := 1) (i' := 12) hC rfl rfl k1_1 rfl ?_
    refine g3 hC rfl rfl ?_
    refine g19 hC rfl sh142 (flt12 rfl) ft12_46 ((hS.fix hw hF).g fx_142_46) ?_
    refine g0 hC rfl ?_
    refine g0 hC rfl ?_
    refine g3 hC rfl rfl ?_
    refine g6m hC rfl ⟨by omega, by omega⟩ ?_
    refine g6a hC rfl ⟨by omega, by omega⟩ ?_
    refine r21 ((35 + (4 * c))) hC rfl (by omega) sh180 (Or.inl rfl) (by omega) (rmG hS hwr hV hW (by omega)) ?_
    refine g9 hC rfl ?_
    refine ret1 hC rfl rfl ?_
    first | omega | exact ⟨by subst k1_0; rfl, rfl⟩ | exact ⟨by subst k1_1; rfl, rfl⟩ | exact ⟨by subst k1_2; rfl, rfl⟩ | exact ⟨by subst k1_7; rfl, rfl⟩ | exact ⟨by subst k1_8; rfl, rfl⟩ | exact ⟨by subst k1_9; rfl, rfl⟩ | exact ⟨by have hw10 : w = 10 := (by omega); subst hw10; rfl, rfl⟩
  by_cases k1_2 : w = 2
  ·
    refine g15k (key := 2) (i' := 22) hC rfl rfl k1_2 rfl ?_
    refine g3 hC rfl rfl ?_
    refine g19 hC rfl sh142 (flt12 rfl) ft12_54 ((hS.fix hw hF).g fx_142_54) ?_
    refine g0 hC rfl ?_
    refine r21 (0) hC rfl (by omega) sh185 (Or.inl rfl) (by omega) (rmdr hS hwr hV hW) ?_
    refine g9 hC rfl ?_
    refine ret1 hC rfl rfl ?_
    first | omega | exact ⟨by subst k1_0; rfl, rfl⟩ | exact ⟨by subst k1_1; rfl, rfl⟩ | exact ⟨by subst k1_2; rfl, rfl⟩ | exact ⟨by subst k1_7; rfl, rfl⟩ | exact ⟨by subst k1_8; rfl, rfl⟩ | exact ⟨by subst k1_9; rfl, rfl⟩ | exact ⟨by have hw10 : w = 10 := (by omega); subst hw10; rfl, rfl⟩
  by_cases k1_3 : w = 3
  ·
    refine g15k (key := 3) (i' := 28) hC rfl rfl k1_3 rfl ?_
    first | omega | exact ⟨by subst k1_0; rfl, rfl⟩ | exact ⟨by subst k1_1; rfl, rfl⟩ | exact ⟨by subst k1_2; rfl, rfl⟩ | exact ⟨by subst k1_7; rfl, rfl⟩ | exact ⟨by subst k1_8; rfl, rfl⟩ | exact ⟨by subst k1_9; rfl, rfl⟩ | exact ⟨by have hw10 : w = 10 := (by omega); subst hw10; rfl, rfl⟩
  by_cases k1_4 : w = 4
  ·
    refine g15k (key := 4) (i' := 32) hC rfl rfl k1_4 rfl ?_
    first | omega | exact ⟨by subst k1_0; rfl, rfl⟩ | exact ⟨by subst k1_1; rfl, rfl⟩ | exact ⟨by subst k1_2; rfl, rfl⟩ | exact ⟨by subst k1_7; rfl, rfl⟩ | exact ⟨by subst k1_8; rfl, rfl⟩ | exact ⟨by subst k1_9; rfl, rfl⟩ | exact ⟨by have hw10 : w = 10 := (by omega); subst hw10; rfl, rfl⟩
  by_cases k1_5 : w = 5
  ·
    refine g15k (key := 5) (i' := 36) hC rfl rfl k1_5 rfl ?_
    first | omega | exact ⟨by subst k1_0; rfl, rfl⟩ | exact ⟨by subst k1_1; rfl, rfl⟩ | exact ⟨by subst k1_2; rfl, rfl⟩ | exact ⟨by subst k1_7; rfl, rfl⟩ | exact ⟨by subst k1_8; rfl, rfl⟩ | exact ⟨by subst k1_9; rfl, rfl⟩ | exact ⟨by have hw10 : w = 10 := (by omega); subst hw10; rfl, rfl⟩
  by_cases k1_6 : w = 6
  ·
    refine g15k (key := 6) (i' := 40) hC rfl rfl k1_6 rfl ?_
    first | omega | exact ⟨by subst k1_0; rfl, rfl⟩ | exact ⟨by subst k1_1; rfl, rfl⟩ | exact ⟨by subst k1_2; rfl, rfl⟩ | exact ⟨by subst k1_7; rfl, rfl⟩ | exact ⟨by subst k1_8; rfl, rfl⟩ | exact ⟨by subst k1_9; rfl, rfl⟩ | exact ⟨by have hw10 : w = 10 := (by omega); subst hw10; rfl, rfl⟩
  by_cases k1_7 : w = 7
  ·
    refine g15k (key := 7) (i' := 44) hC rfl rfl k1_7 rfl ?_
    refine g3 hC rfl rfl ?_
    refine g9 hC rfl ?_
    refine ret1 hC rfl rfl ?_
    first | omega | exact ⟨by subst k1_0; rfl, rfl⟩ | exact ⟨by subst k1_1; rfl, rfl⟩ | exact ⟨by subst k1_2; rfl, rfl⟩ | exact ⟨by subst k1_7; rfl, rfl⟩ | exact ⟨by subst k1_8; rfl, rfl⟩ | exact ⟨by subst k1_9; rfl, rfl⟩ | exact ⟨by have hw10 : w = 10 := (by omega); subst hw10; rfl, rfl⟩
  by_cases k1_8 : w = 8
  ·
    refine g15k (key := 8) (i' := 47) hC rfl rfl k1_8 rfl ?_
    refine g3 hC rfl rfl ?_
    refine g19 hC rfl sh142 (flt12 rfl) ft12_54 ((hS.fix hw hF).g fx_142_54) ?_
    refine g0 hC rfl ?_
    refine g3 hC rfl rfl ?_
    refine g3 hC rfl rfl ?_
    refine c1 hC rfl rfl rfl (Nat.le_of_ble_eq_true rfl) (Nat.le_of_ble_eq_true rfl) (mayR k191 rfl) (m191 hF hV hW hc) (Nat.le_of_ble_eq_true rfl) (fun x M2 hr => ?_)
    obtain ⟨rfl, hr⟩ := hr
    replace hr := hr.symm
    subst hr
    refine g6a hC rfl ⟨by omega, by omega⟩ ?_
    refine r21 ((1 + (ckq V h c))) hC rfl (by omega) sh185 (Or.inl rfl) (by omega) (rmpo hS hwr hV hW (by omega)) ?_
    refine g9 hC rfl ?_
    refine ret1 hC rfl rfl ?_
    first | omega | exact ⟨by subst k1_0; rfl, rfl⟩ | exact ⟨by subst k1_1; rfl, rfl⟩ | exact ⟨by subst k1_2; rfl, rfl⟩ | exact ⟨by subst k1_7; rfl, rfl⟩ | exact ⟨by subst k1_8; rfl, rfl⟩ | exact ⟨by subst k1_9; rfl, rfl⟩ | exact ⟨by have hw10 : w = 10 := (by omega); subst hw10; rfl, rfl⟩
  by_cases k1_9 : w = 9
  ·
    refine g15k (key := 9) (i' := 57) hC rfl rfl k1_9 rfl ?_
    refine g3 hC rfl rfl ?_
    refine g19 hC rfl sh142 (flt12 rfl) ft12_63 ((hS.fix hw hF).g fx_142_63) ?_
    refine g3 hC rfl rfl ?_
    refine r21 (c) hC rfl (by omega) sh190 (Or.inl rfl) (by omega) (hou c hc) ?_
    refine g9 hC rfl ?_
    refine ret1 hC rfl rfl ?_
    first | omega | exact ⟨by subst k1_0; rfl, rfl⟩ | exact ⟨by subst k1_1; rfl, rfl⟩ | exact ⟨by subst k1_2; rfl, rfl⟩ | exact ⟨by subst k1_7; rfl, rfl⟩ | exact ⟨by subst k1_8; rfl, rfl⟩ | exact ⟨by subst k1_9; rfl, rfl⟩ | exact ⟨by have hw10 : w = 10 := (by omega); subst hw10; rfl, rfl⟩
  refine g15d (i' := 63) hC rfl rfl (by show ¬ ((0 : Int) ≤ _ ∧ _ ≤ (9 : Int)); omega) rfl ?_
  refine g3 hC rfl rfl ?_
  refine g3 hC rfl rfl ?_
  refine c1 hC rfl rfl rfl (Nat.le_of_ble_eq_true rfl) (Nat.le_of_ble_eq_true rfl) (mayR k194 rfl) (m194 hF hV hW hSW.2.2.2 (by omega)) (Nat.le_of_ble_eq_true rfl) (fun x M2 hr => ?_)
  obtain ⟨rfl, hr⟩ := hr
  replace hr := hr.symm
  subst hr
  refine g9 hC rfl ?_
  refine ret1 hC rfl rfl ?_
  first | omega | exact ⟨by subst k1_0; rfl, rfl⟩ | exact ⟨by subst k1_1; rfl, rfl⟩ | exact ⟨by subst k1_2; rfl, rfl⟩ | exact ⟨by subst k1_7; rfl, rfl⟩ | exact ⟨by subst k1_8; rfl, rfl⟩ | exact ⟨by subst k1_9; rfl, rfl⟩ | exact ⟨by have hw10 : w = 10 := (by omega); subst hw10; rfl, rfl⟩
theorem m287 (hF : Fix M) (hV : RV V h M) (hW : HW V h) {mm : Nat → Nat → Int} (hmm : ∀ a b, a < 8 → b < 8 → M 193 (8 * a + b) = mm a b) {c : Nat} {w v : Int} (hc : c < nC V h) (hv : -1000000 ≤ v ∧ v ≤ 1000000) : ax_Ev L X SH 1 287 [(2, 142), (0, w), (1, v), (0, (c : Int))] M (R1 1 (fun x M' => x = mtQ V h mm c v ∧ M' = M)) := by
  show ax_G L X SH 1 287 0 [(2, 142), (0, w), (1, v), (3, 0), (0, (c : Int))] [] M _
  have hC := at287
  have hw := wX0
  have hwr := rX0
  have hS : Sb X0 M M := Sb.refl
  have hb := hW.1.2.2.2.2
  have hcz := @cmp0 v (c : Int)
  unfold mtQ
  refine g3 hC rfl rfl ?_
  refine g15d (i' := 2) hC rfl rfl (by show ¬ ((0 : Int) ≤ _ ∧ _ ≤ (-1 : Int)); omega) rfl ?_
  refine g3 hC rfl rfl ?_
  refine g1 hC rfl ?_
  refine g3 hC rfl rfl ?_
  refine c1 hC rfl rfl rfl (Nat.le_of_ble_eq_true rfl) (Nat.le_of_ble_eq_true rfl) (mayR k186 rfl) (m186 hF hV hW) (Nat.le_of_ble_eq_true rfl) (fun x M2 hr => ?_)
  obtain ⟨rfl, hr⟩ := hr
  replace hr := hr.symm
  subst hr
  refine g0 hC rfl ?_
  refine g6s hC rfl ⟨by omega, by omega⟩ ?_
  refine g9 hC rfl ?_
  refine c1 hC rfl rfl rfl (Nat.le_of_ble_eq_true rfl) (Nat.le_of_ble_eq_true rfl) (mayS k153 rfl) (m153) (Nat.le_of_ble_eq_true rfl) (fun x M2 hr => ?_)
  obtain ⟨hx, hr⟩ := hr; replace hr := hr.symm; subst hr; have hx := ite01 hx
  refine g12e hC rfl (fun h10 => ?_) (fun h10 => ?_)
  ·
    refine g1 hC rfl ?_
    refine ret1 hC rfl rfl ?_
    exact ⟨by rw [if_neg (by omega)], rfl⟩
  ·
    refine g3 hC rfl rfl ?_
    refine g3 hC rfl rfl ?_
    refine g9 hC rfl ?_
    refine g11 hC rfl ?_
    refine g12e hC rfl (fun h15 => ?_) (fun h15 => ?_)
    ·
      refine g1 hC rfl ?_
      refine ret1 hC rfl rfl ?_
      exact ⟨by rw [if_neg (by omega)], rfl⟩
    ·
      refine g3 hC rfl rfl ?_
      refine g19 hC rfl sh142 (flt12 rfl) ft12_66 ((hS.fix hw hF).g fx_142_66) ?_
      refine g0 hC rfl ?_
      refine g3 hC rfl rfl ?_
      refine g6m hC rfl ⟨by omega, by omega⟩ ?_
      refine g3 hC rfl rfl ?_
      refine g10 hC rfl ⟨by omega, by omega⟩ ?_
      refine g6a hC rfl ⟨by omega, by omega⟩ ?_
      refine r21 (8 * c + v.toNat) hC rfl (by omega) sh193 (Or.inl rfl) (by omega) (hmm c v.toNat (by omega) (by omega)) ?_
      refine g9 hC rfl ?_
      refine g14 hC rfl ?_
      refine ret1 hC rfl rfl ?_
      exact ⟨by rw [if_pos (by omega)], rfl⟩
end ASV
theorem clip_id {x : Int} (h : bnd x) : clip x = x := by
  unfold bnd at h
  unfold clip; rw [if_neg (by omega), if_neg (by omega)]
section ASW
variable {L : Nat} {X : Nat → Int} {M V : ax_M} {h : Nat}
theorem m288 (hF : Fix M) (hV : RV V h M) (hW : HW V h) (hSW : SW V) {ou : Nat → Int} (ho : ouB V h ou) (hou : ∀ c, c < nC V h → M 190 c = ou c) {mm : Nat → Nat → Int} (hmm0 : ∀ a b, 0 ≤ mm a b ∧ mm a b ≤ 9) (hmm : ∀ a b, a < 8 → b < 8 → M 193 (8 * a + b) = mm a b) {cc : Nat → Int} {n c : Nat} {b : Bool} (hn0 : M 142 110 = (n : Int)) (hn : n ≤ 1600) (hcc : ∀ k, k < n → M 228 k = cc k) (hcl : ∀ k, k < n → lal 2 (cc k)) (hT : Typed cc n b) (hc : c < nC V h) : ax_Ev L X SH 4 288 [(2, 142), (0, (c : Int))] M (R1 1 (fun x M' => x = pval (lfQ V h ou c) (mtQ V h mm c) cc n ∧ Sb X196 M M')) := by
  show ax_G L X SH 4 288 0 [(2, 142), (0, (c : Int)), (3, 0), (3, 0)] [] M _
  have hC := at288
  have hw : wok X196 = true := by decide +kernel
  have hwr : rok X196 := rokI rfl
  have hb := hW.1.2.2.2.2
  have hlb := lfQ_b hW hSW ho hc
  have hmb := mtQ_b (V := V) (h := h) hmm0 (c := c)
  obtain ⟨lf, hlf⟩ : ∃ lf, lf = lfQ V h ou c := ⟨_, rfl⟩
  obtain ⟨mt', hmt⟩ : ∃ mt', mt' = mtQ V h mm c := ⟨_, rfl⟩
  rw [← hlf] at hlb
  rw [← hmt] at hmb
  rw [← hlf, ← hmt]
  obtain ⟨hT1, hT2, hT3⟩ := hT
  have l1 : ∀ (m i : Nat), i + m = n → ∀ ll M1, (∃ u, ll = [(2, 142), (0, (c : Int)), (0, (i : Int)), u] ∧ Sb X196 M M1 ∧ M1 142 116 = ((ev lf mt' cc i).2 : Int) ∧ ∀ q, q < (ev lf mt' cc i).2 → M1 230 q = (ev lf mt' cc i).1 q) → ax_G L X SH 4 288 5 ll [] M1 (R1 1 (fun x M' => x = pval lf mt' cc n ∧ Sb X196 M M')) := by
    refine lp ?_ ?_
    · rintro ll M1 ⟨u, rfl, hS, h1, h2⟩
      have hv := vok_ev hlb hmb hT1 n (Nat.le_refl n)
      have ht : (ev lf mt' cc n).2 = 1 := hv.1.trans hT2
      have hp20 := h2 0 (by omega)
      refine g3 hC rfl rfl ?_
      refine g3 hC rfl rfl ?_
      refine g19 hC rfl sh142 (flt12 rfl) ft12_110 ((hS _ _ rfl).trans hn0) ?_
      refine g13g hC rfl (fun h8 => ?_) (fun h8 => (by omega))
      refine g3 hC rfl rfl ?_
      refine g19 hC rfl sh142 (flt12 rfl) ft12_115 ((hS.fix hw hF).g fx_142_115) ?_
      refine g0 hC rfl ?_
      refine r21 (0) hC rfl (by omega) sh230 (Or.inl rfl) (by omega) hp20 ?_
      refine ret1 hC rfl rfl ?_
      exact ⟨rfl, hS⟩
    · rintro i hi ll M1 ⟨u, rfl, hS, h1, h2⟩ hnext
      have hv := vok_ev hlb hmb hT1 i (Nat.le_of_lt hi)
      have hok := hT1 i hi
      have h64' := tys_le hT1 i (Nat.le_of_lt hi)
      have hcl := hcl i hi
      have hes := ev_succ (lf := lf) (mt := mt') (c := cc) (k := i)
      have hcode : M1 228 i = cc i := by rw [hS 228 _ rfl]; exact hcc i hi
      generalize ev lf mt' cc i = x at *
      obtain ⟨s, t⟩ := x
      generalize tys cc i = y at *
      obtain ⟨τ, t1⟩ := y
      obtain ⟨ht, hv⟩ := hv
      dsimp only at ht hv h1 h2 hes h64' ⊢
      subst ht
      generalize cc i = w at *
      unfold tok at hok
      unfold e1 at hes
      dsimp only at hok hes
      have go : ∀ (M2 : ax_M) (z : Int) (k t' : Nat) (u : ax_V), Sb X196 M M2 → M2 230 = up (M1 230) k z → M2 142 116 = (t' : Int) → (∀ q, q < t' → q ≠ k → q < t) → ev lf mt' cc (i + 1) = (up s k z, t') → ax_G L X SH 4 288 5 [(2, 142), (0, (c : Int)), (0, (i : Int) + 1), u] [] M2 (R1 1 (fun x M' => x = pval lf mt' cc n ∧ Sb X196 M M')) := by
        intro M2 z k t' u g0 g1 g2 g3 g4
        refine hnext _ _ ⟨u, rfl, g0, ?_, ?_⟩
        · rw [g4]; exact g2
        · rw [g4]
          intro q hq
          rw [g1]
          dsimp only at hq ⊢
          unfold up
          split
          · rfl
          · rename_i z; exact h2 q (g3 q hq z)
      have hput : ∀ x : Int, Fix M1 → t < 64 → ax_Ev L X SH 0 284 [(2, 142), (1, x)] M1 (R0 (fun M' => Sb X196 M1 M' ∧ M' 230 = up (M1 230) t x ∧ M' 142 116 = ((t + 1 : Nat) : Int))) := fun x hF1 q => m284 hF1 h1 (by omega)
      have hncd := (hS 142 110 rfl).trans hn0
      by_cases k3 : 1000 ≤ w
      · rw [if_pos k3] at hok hes
        refine g3 hC rfl rfl ?_
        refine g3 hC rfl rfl ?_
        refine g19 hC rfl sh142 (flt12 rfl) ft12_110 hncd ?_
        refine g13g hC rfl (fun h8 => (by omega)) (fun h8 => ?_)
        refine g3 hC rfl rfl ?_
        refine g19 hC rfl sh142 (flt12 rfl) ft12_109 ((hS.fix hw hF).g fx_142_109) ?_
        refine g3 hC rfl rfl ?_
        refine r21 (i) hC rfl rfl sh228 (Or.inl rfl) (by omega) hcode ?_
        refine s3 hC rfl rfl rfl ?_
        refine g3 hC rfl rfl ?_
        refine g0 hC rfl ?_
        refine g13l hC rfl (fun h16 => (by omega)) (fun h16 => ?_)
        refine g3 hC rfl rfl ?_
        refine g3 hC rfl rfl ?_
        refine g0 hC rfl ?_
        refine g6s hC rfl ⟨by omega, by omega⟩ ?_
        refine g9 hC rfl ?_
        refine c0 hC rfl rfl rfl (Nat.le_of_ble_eq_true rfl) (Nat.le_of_ble_eq_true rfl) (mayR k284 rfl) (hput _ (hS.fix hw hF) (by omega)) (Nat.le_of_ble_eq_true rfl) (fun M2 hr => ?_)
        obtain ⟨r0, r1, r2⟩ := hr; have hS := hS.then r0 rfl
        refine g14 hC rfl ?_
        refine n2 hC rfl rfl ⟨by omega, by omega⟩ ?_
        refine g14 hC rfl ?_
        exact go _ _ _ _ _ hS r1 r2 (fun q _ _ => by omega) hes
      rw [if_neg k3] at hok hes
      by_cases k4 : 60 ≤ w
      · rw [if_pos k4] at hok hes
        have hvb := (hv (t - 1) (by omega)).2 hok.2.2
        have h21 := h2 (t - 1) (by omega)
        have h60 := hok.1
        subst h60
        have cl : clip (mt' (s (t - 1))) = mt' (s (t - 1)) := clip_id (hmb _)
        refine g3 hC rfl rfl ?_
        refine g3 hC rfl rfl ?_
        refine g19 hC rfl sh142 (flt12 rfl) ft12_110 hncd ?_
        refine g13g hC rfl (fun h8 => (by omega)) (fun h8 => ?_)
        refine g3 hC rfl rfl ?_
        refine g19 hC rfl sh142 (flt12 rfl) ft12_109 ((hS.fix hw hF).g fx_142_109) ?_
        refine g3 hC rfl rfl ?_
        refine r21 (i) hC rfl rfl sh228 (Or.inl rfl) (by omega) hcode ?_
        refine s3 hC rfl rfl rfl ?_
        refine g3 hC rfl rfl ?_
        refine g0 hC rfl ?_
        refine g13l hC rfl (fun h16 => ?_) (fun h16 => (by omega))
        refine g3 hC rfl rfl ?_
        refine g0 hC rfl ?_
        refine g13l hC rfl (fun h26 => (by omega)) (fun h26 => ?_)
        refine g3 hC rfl rfl ?_
        refine g19 hC rfl sh142 (flt12 rfl) ft12_115 ((hS.fix hw hF).g fx_142_115) ?_
        refine g3 hC rfl rfl ?_
        refine g19 hC rfl sh142 (flt12 rfl) ft12_116 h1 ?_
        refine g0 hC rfl ?_
        refine g6s hC rfl ⟨by omega, by omega⟩ ?_
        refine g3 hC rfl rfl ?_
        refine g3 hC rfl rfl ?_
        refine g0 hC rfl ?_
        refine g6s hC rfl ⟨by omega, by omega⟩ ?_
        refine g3 hC rfl rfl ?_
        refine g19 hC rfl sh142 (flt12 rfl) ft12_115 ((hS.fix hw hF).g fx_142_115) ?_
        refine g3 hC rfl rfl ?_
        refine g19 hC rfl sh142 (flt12 rfl) ft12_116 h1 ?_
        refine g0 hC rfl ?_
        refine g6s hC rfl ⟨by omega, by omega⟩ ?_
        refine r21 (t - 1) hC rfl (by omega) sh230 (Or.inl rfl) (by omega) h21 ?_
        refine g3 hC rfl rfl ?_
        refine c1 hC rfl rfl rfl (Nat.le_of_ble_eq_true rfl) (Nat.le_of_ble_eq_true rfl) (mayR k287 rfl) (m287 (hS.fix hw hF) (hV.sb hS hwr) hW (mm := mm) (fun a b ha hb => (hS 193 _ rfl).trans (hmm a b ha hb)) hc (by omega)) (Nat.le_of_ble_eq_true rfl) (fun x M2 hr => ?_)
        obtain ⟨rfl, hr⟩ := hr; replace hr := hr.symm; subst hr; rw [← hmt]
        refine c1 hC rfl rfl rfl (Nat.le_of_ble_eq_true rfl) (Nat.le_of_ble_eq_true rfl) (mayS k282 rfl) (m282) (Nat.le_of_ble_eq_true rfl) (fun x M2 hr => ?_)
        obtain ⟨rfl, hr⟩ := hr; replace hr := hr.symm; subst hr; rw [cl]
        refine r22s (t - 1) hC rfl (by omega) sh230 (by omega) rfl hS rfl (fun hS => ?_)
        refine g14 hC rfl ?_
        refine n2 hC rfl rfl ⟨by omega, by omega⟩ ?_
        refine g14 hC rfl ?_
        exact go _ _ _ _ _ hS ax_upf (by rw [ax_up2n (by decide)]; exact h1) (fun q z _ => z) hes
      rw [if_neg k4] at hok hes
      by_cases k5 : 40 ≤ w
      · rw [if_pos k5] at hok hes
        have hl6 := hcl.1 k5 (by omega)
        have cl : clip (lf (w - 40).toNat) = lf (w - 40).toNat := clip_id (hlb _)
        refine g3 hC rfl rfl ?_
        refine g3 hC rfl rfl ?_
        refine g19 hC rfl sh142 (flt12 rfl) ft12_110 hncd ?_
        refine g13g hC rfl (fun h8 => (by omega)) (fun h8 => ?_)
        refine g3 hC rfl rfl ?_
        refine g19 hC rfl sh142 (flt12 rfl) ft12_109 ((hS.fix hw hF).g fx_142_109) ?_
        refine g3 hC rfl rfl ?_
        refine r21 (i) hC rfl rfl sh228 (Or.inl rfl) (by omega) hcode ?_
        refine s3 hC rfl rfl rfl ?_
        refine g3 hC rfl rfl ?_
        refine g0 hC rfl ?_
        refine g13l hC rfl (fun h16 => ?_) (fun h16 => (by omega))
        refine g3 hC rfl rfl ?_
        refine g0 hC rfl ?_
        refine g13l hC rfl (fun h26 => ?_) (fun h26 => (by omega))
        refine g3 hC rfl rfl ?_
        refine g0 hC rfl ?_
        refine g13l hC rfl (fun h51 => (by omega)) (fun h51 => ?_)
        refine g3 hC rfl rfl ?_
        refine g3 hC rfl rfl ?_
        refine g3 hC rfl rfl ?_
        refine g0 hC rfl ?_
        refine g6s hC rfl ⟨by omega, by omega⟩ ?_
        refine g3 hC rfl rfl ?_
        refine c1 hC rfl rfl rfl (Nat.le_of_ble_eq_true rfl) (Nat.le_of_ble_eq_true rfl) (mayR k286 rfl) (m286q (hS.fix hw hF) (hV.sb hS hwr) hW hSW (ou := ou) (fun c hc => (hS 190 _ rfl).trans (hou c hc)) (c := c) hc (by omega)) (Nat.le_of_ble_eq_true rfl) (fun x M2 hr => ?_)
        obtain ⟨rfl, hr⟩ := hr; replace hr := hr.symm; subst hr; rw [← hlf]
        refine c1 hC rfl rfl rfl (Nat.le_of_ble_eq_true rfl) (Nat.le_of_ble_eq_true rfl) (mayS k282 rfl) (m282) (Nat.le_of_ble_eq_true rfl) (fun x M2 hr => ?_)
        obtain ⟨rfl, hr⟩ := hr; replace hr := hr.symm; subst hr; rw [cl]
        refine c0 hC rfl rfl rfl (Nat.le_of_ble_eq_true rfl) (Nat.le_of_ble_eq_true rfl) (mayR k284 rfl) (hput _ (hS.fix hw hF) (by omega)) (Nat.le_of_ble_eq_true rfl) (fun M2 hr => ?_)
        obtain ⟨r0, r1, r2⟩ := hr; have hS := hS.then r0 rfl
        refine g14 hC rfl ?_
        refine n2 hC rfl rfl ⟨by omega, by omega⟩ ?_
        refine g14 hC rfl ?_
        exact go _ _ _ _ _ hS r1 r2 (fun q _ _ => by omega) hes
      rw [if_neg k5] at hok hes
      by_cases k6 : w = 13
      · rw [if_pos k6] at hok hes
        refine g3 hC rfl rfl ?_
        refine g3 hC rfl rfl ?_
        refine g19 hC rfl sh142 (flt12 rfl) ft12_110 hncd ?_
        refine g13g hC rfl (fun h8 => (by omega)) (fun h8 => ?_)
        refine g3 hC rfl rfl ?_
        refine g19 hC rfl sh142 (flt12 rfl) ft12_109 ((hS.fix hw hF).g fx_142_109) ?_
        refine g3 hC rfl rfl ?_
        refine r21 (i) hC rfl rfl sh228 (Or.inl rfl) (by omega) hcode ?_
        refine s3 hC rfl rfl rfl ?_
        refine g3 hC rfl rfl ?_
        refine g0 hC rfl ?_
        refine g13l hC rfl (fun h16 => ?_) (fun h16 => (by omega))
        refine g3 hC rfl rfl ?_
        refine g0 hC rfl ?_
        refine g13l hC rfl (fun h26 => ?_) (fun h26 => (by omega))
        refine g3 hC rfl rfl ?_
        refine g0 hC rfl ?_
        refine g13l hC rfl (fun h51 => ?_) (fun h51 => (by omega))
        refine g3 hC rfl rfl ?_
        refine g0 hC rfl ?_
        refine g13n hC rfl (fun h64 => (by omega)) (fun h64 => ?_)
        refine g3 hC rfl rfl ?_
        refine g1 hC rfl ?_
        refine c0 hC rfl rfl rfl (Nat.le_of_ble_eq_true rfl) (Nat.le_of_ble_eq_true rfl) (mayR k284 rfl) (hput _ (hS.fix hw hF) (by omega)) (Nat.le_of_ble_eq_true rfl) (fun M2 hr => ?_)
        obtain ⟨r0, r1, r2⟩ := hr; have hS := hS.then r0 rfl
        refine g14 hC rfl ?_
        refine n2 hC rfl rfl ⟨by omega, by omega⟩ ?_
        refine g14 hC rfl ?_
        exact go _ _ _ _ _ hS r1 r2 (fun q _ _ => by omega) hes
      rw [if_neg k6] at hok hes
      by_cases k7 : w = 12
      · rw [if_pos k7] at hok hes
        have hvb := (hv (t - 1) (by omega)).1 hok.2
        have h21 := h2 (t - 1) (by omega)
        refine g3 hC rfl rfl ?_
        refine g3 hC rfl rfl ?_
        refine g19 hC rfl sh142 (flt12 rfl) ft12_110 hncd ?_
        refine g13g hC rfl (fun h8 => (by omega)) (fun h8 => ?_)
        refine g3 hC rfl rfl ?_
        refine g19 hC rfl sh142 (flt12 rfl) ft12_109 ((hS.fix hw hF).g fx_142_109) ?_
        refine g3 hC rfl rfl ?_
        refine r21 (i) hC rfl rfl sh228 (Or.inl rfl) (by omega) hcode ?_
        refine s3 hC rfl rfl rfl ?_
        refine g3 hC rfl rfl ?_
        refine g0 hC rfl ?_
        refine g13l hC rfl (fun h16 => ?_) (fun h16 => (by omega))
        refine g3 hC rfl rfl ?_
        refine g0 hC rfl ?_
        refine g13l hC rfl (fun h26 => ?_) (fun h26 => (by omega))
        refine g3 hC rfl rfl ?_
        refine g0 hC rfl ?_
        refine g13l hC rfl (fun h51 => ?_) (fun h51 => (by omega))
        refine g3 hC rfl rfl ?_
        refine g0 hC rfl ?_
        refine g13n hC rfl (fun h64 => ?_) (fun h64 => (by omega))
        refine g3 hC rfl rfl ?_
        refine g0 hC rfl ?_
        refine g13n hC rfl (fun h71 => (by omega)) (fun h71 => ?_)
        refine g3 hC rfl rfl ?_
        refine g19 hC rfl sh142 (flt12 rfl) ft12_115 ((hS.fix hw hF).g fx_142_115) ?_
        refine g3 hC rfl rfl ?_
        refine g19 hC rfl sh142 (flt12 rfl) ft12_116 h1 ?_
        refine g0 hC rfl ?_
        refine g6s hC rfl ⟨by omega, by omega⟩ ?_
        refine g1 hC rfl ?_
        refine g3 hC rfl rfl ?_
        refine g19 hC rfl sh142 (flt12 rfl) ft12_115 ((hS.fix hw hF).g fx_142_115) ?_
        refine g3 hC rfl rfl ?_
        refine g19 hC rfl sh142 (flt12 rfl) ft12_116 h1 ?_
        refine g0 hC rfl ?_
        refine g6s hC rfl ⟨by omega, by omega⟩ ?_
        refine r21 (t - 1) hC rfl (by omega) sh230 (Or.inl rfl) (by omega) h21 ?_
        refine g7s hC rfl ⟨by omega, by omega⟩ ?_
        refine r22s (t - 1) hC rfl (by omega) sh230 (by omega) rfl hS rfl (fun hS => ?_)
        refine g14 hC rfl ?_
        refine n2 hC rfl rfl ⟨by omega, by omega⟩ ?_
        refine g14 hC rfl ?_
        exact go _ _ _ _ _ hS ax_upf (by rw [ax_up2n (by decide)]; exact h1) (fun q z _ => z) hes
      rw [if_neg k7] at hok hes
      obtain ⟨a1, a2, a3, a4, a5⟩ := hok
      have k1 := hv (t - 1) (by omega)
      have k2 := hv (t - 2) (by omega)
      rw [a4] at k1
      rw [a5] at k2
      have r1 : -1000000 ≤ s (t - 1) ∧ s (t - 1) ≤ 1000000 := by
        by_cases q : 10 ≤ w
        · have := k1.1 (decide_eq_true q); omega
        · exact k1.2 (decide_eq_false q)
      have r2 : -1000000 ≤ s (t - 2) ∧ s (t - 2) ≤ 1000000 := by
        by_cases q : 10 ≤ w
        · have := k2.1 (decide_eq_true q); omega
        · exact k2.2 (decide_eq_false q)
      rw [← h2 (t - 1) (by omega)] at r1
      rw [← h2 (t - 2) (by omega)] at r2
      refine g3 hC rfl rfl ?_
      refine g3 hC rfl rfl ?_
      refine g19 hC rfl sh142 (flt12 rfl) ft12_110 hncd ?_
      refine g13g hC rfl (fun h8 => (by omega)) (fun h8 => ?_)
      refine g3 hC rfl rfl ?_
      refine g19 hC rfl sh142 (flt12 rfl) ft12_109 ((hS.fix hw hF).g fx_142_109) ?_
      refine g3 hC rfl rfl ?_
      refine r21 (i) hC rfl rfl sh228 (Or.inl rfl) (by omega) hcode ?_
      refine s3 hC rfl rfl rfl ?_
      refine g3 hC rfl rfl ?_
      refine g0 hC rfl ?_
      refine g13l hC rfl (fun h16 => ?_) (fun h16 => (by omega))
      refine g3 hC rfl rfl ?_
      refine g0 hC rfl ?_
      refine g13l hC rfl (fun h26 => ?_) (fun h26 => (by omega))
      refine g3 hC rfl rfl ?_
      refine g0 hC rfl ?_
      refine g13l hC rfl (fun h51 => ?_) (fun h51 => (by omega))
      refine g3 hC rfl rfl ?_
      refine g0 hC rfl ?_
      refine g13n hC rfl (fun h64 => ?_) (fun h64 => (by omega))
      refine g3 hC rfl rfl ?_
      refine g0 hC rfl ?_
      refine g13n hC rfl (fun h71 => ?_) (fun h71 => (by omega))
      refine g3 hC rfl rfl ?_
      refine g3 hC rfl rfl ?_
      refine c0 hC rfl rfl rfl (Nat.le_of_ble_eq_true rfl) (Nat.le_of_ble_eq_true rfl) (mayR k285 rfl) (m285 (hS.fix hw hF) h1 a3 (by omega) a1 a2 r2 r1) (Nat.le_of_ble_eq_true rfl) (fun M2 hr => ?_)
      obtain ⟨y0, y1, y2⟩ := hr; have hS := hS.then y0 rfl
      refine n2 hC rfl rfl ⟨by omega, by omega⟩ ?_
      refine g14 hC rfl ?_
      rw [h2 (t - 1) (by omega), h2 (t - 2) (by omega)] at y1
      exact go _ _ _ _ _ hS y1 y2 (fun q _ _ => by omega) hes
  have hS : Sb X196 M M := Sb.refl
  refine g3 hC rfl rfl ?_
  refine g0 hC rfl ?_
  refine g20s hC rfl sh142 (flt12 rfl) (by rw [fy12_116]; rfl) hS rfl (fun hS => ?_)
  refine g0 hC rfl ?_
  refine s2 hC rfl rfl rfl ?_
  exact l1 n 0 (Nat.zero_add n) _ _ ⟨_, rfl, hS, up1, fun q hq => absurd hq (Nat.not_lt_zero q)⟩
end ASW
