section WHW
variable {L : Nat} {X : Nat → Int} {M V : ax_M} {h n : Nat}
theorem askN_0 {q : Nat → Int} {o : Nat → Nat → Int} (hz : ∀ k, k < 11 → q k ≠ 1) : ∀ m, askN q o m = (-1, -1) := by
  intro m
  induction m with
  | zero => rfl
  | succ m ih =>
    have e : askN q o (m + 1) = ask1 q o m (askN q o m) := rfl
    rw [e, ih]
    exact if_neg (fun w => by have := w.1; rw [mo_0 11 hz] at this; omega)
theorem m253 (hF : Fix M) (hG : GG n h M) {M1 : ax_M} (hS0 : Sb W126 M M1) {a : Int} : ax_Ev L X SH 8 253 [(2, 142), (0, a)] M1 (R1 0 (fun x M' => x = (if a = 0 then (askN (fvM M h) (oS M h) (nC M h)).1 else if a = 1 then (askN (fvM M h) (oS M h) (nC M h)).2 else -1) ∧ Sb X250d M1 M')) := by
  show ax_G L X SH 8 253 0 [(2, 142), (0, a), (3, 0), (3, 0), (3, 0), (3, 0), (3, 0)] [] M1 _
  have hC := at253
  have hw : wok X250d = true := by decide +kernel
  have hwr : rok X250d := rokB (by decide +kernel)
  have hF1 := hS0.fix (by decide +kernel) hF
  have hV1 := hG.2.2.2.1.sb hS0 (rokB (by decide +kernel))
  have hW := hG.1
  have h4 := hW.1.2.2.2.2
  have hS : Sb X250d M1 M1 := Sb.refl
  obtain ⟨P, hP⟩ : ∃ P, P = fun (x : Int) M' => x = (if a = 0 then (askN (fvM M h) (oS M h) (nC M h)).1 else if a = 1 then (askN (fvM M h) (oS M h) (nC M h)).2 else -1) ∧ Sb X250d M1 M' := ⟨_, rfl⟩
  rw [← hP]
  have hq1 : ∀ s, fvM M h s = 0 ∨ fvM M h s = 1 := fun s => fv_b
  have hfm : ∀ s, fvM M h s = 1 → mb M h s := by
    intro s hs
    by_cases z : mb M h s
    · exact z
    · unfold fvM fv at hs; rw [if_neg (fun w => z w.1)] at hs; omega
  obtain ⟨q, hq⟩ : ∃ q, q = fvM M h := ⟨_, rfl⟩
  rw [← hq] at hq1 hfm hP
  have lend : 0 ≤ a ∧ a ≤ 1 → ∀ M2 (f w : Int) v4 v5 v6, Sb X250d M1 M2 → f = (askN q (oS M h) (nC M h)).1 → (f = -1 → (askN q (oS M h) (nC M h)).2 = -1) → (f ≠ -1 → w = (askN q (oS M h) (nC M h)).2) → ax_G L X SH 8 253 61 [(2, 142), (0, a), (0, f), (0, w), v4, v5, v6] [] M2 (R1 0 P) := by
    intro ha M2 f w v4 v5 v6 hS hf h1 h2
    refine g3 hC rfl rfl ?_
    refine g0 hC rfl ?_
    refine g13n hC rfl (fun h63 => ?_) (fun h63 => ?_)
    ·
      refine g3 hC rfl rfl ?_
      refine g12n hC rfl (fun h67 => ?_) (fun h67 => ?_)
      ·
        refine g3 hC rfl rfl ?_
        refine ret1 hC rfl rfl ?_
        rw [hP]
        exact ⟨by rw [if_neg h67, if_pos (by omega)]; exact h2 h63, hS⟩
      ·
        refine g3 hC rfl rfl ?_
        refine g14 hC rfl ?_
        refine ret1 hC rfl rfl ?_
        rw [hP]
        exact ⟨by rw [if_pos (by omega)]; exact hf, hS⟩
    ·
      refine g0 hC rfl ?_
      refine g14 hC rfl ?_
      refine ret1 hC rfl rfl ?_
      rw [hP]
      refine ⟨?_, hS⟩
      by_cases z : a = 0
      · rw [if_pos z, ← hf]; omega
      · rw [if_neg z, if_pos (by omega), h1 (by omega)]
  have l1 : 0 ≤ a ∧ a ≤ 1 → ∀ M2 : ax_M, FRr M h q 11 M2 → M2 142 80 = fm q 11 → Sb X250d M1 M2 → ∀ (m c : Nat), c + m = nC M h → ∀ ll M3, (∃ (f w : Int) (v5 v6 : ax_V), ll = [(2, 142), (0, a), (0, f), (0, w), (0, (c : Int)), v5, v6] ∧ M3 = M2 ∧ f = (askN q (oS M h) c).1 ∧ -1 ≤ f ∧ (f = -1 → (askN q (oS M h) c).2 = -1) ∧ (f ≠ -1 → w = (askN q (oS M h) c).2)) → ax_G L X SH 8 253 16 ll [] M3 (R1 0 P) := by
    intro ha M2 hfr h80 hS
    have hF := hF1
    have hV2 := hV1.sb hS hwr
    refine lp ?_ ?_
    · rintro ll M3 ⟨f, w, v5, v6, rfl, rfl, e1, e0, e2, e3⟩
      refine g3 hC rfl rfl ?_
      refine g3 hC rfl rfl ?_
      refine c1 hC rfl rfl rfl (Nat.le_of_ble_eq_true rfl) (Nat.le_of_ble_eq_true rfl) (mayR k186 rfl) (m186 (hS.fix hw hF) hV2 hW) (Nat.le_of_ble_eq_true rfl) (fun x M2 hr => ?_)
      obtain ⟨rfl, hr⟩ := hr
      replace hr := hr.symm
      subst hr
      refine g13g hC rfl (fun h19 => ?_) (fun h19 => (by omega))
      exact lend ha _ _ _ _ _ _ hS e1 e2 e3
    · rintro c hc ll M3 ⟨f, w, v5, v6, rfl, rfl, e1, e0, e2, e3⟩ hnext
      have hfmb := fm_b (q := q) 11
      have es : askN q (oS M h) (c + 1) = ask1 q (oS M h) c (askN q (oS M h) c) := rfl
      have hmob := mo_b (q := q) (o := oS M h) (c := c) 11
      have fin : 0 < fm q 11 → ∀ v5', v5' = mo q (oS M h) c 11 → ax_G L X SH 8 253 48 [(2, 142), (0, a), (0, f), (0, w), (0, (c : Int)), (0, v5'), (0, ((11 : Nat) : Int))] [] M3 (R1 0 P) := by
        intro hp v5' hv5
        obtain ⟨k0, hk0, hqk0⟩ := (fm_p 11).1 hp
        have hmo1 := mo_1 (o := oS M h) (c := c) hqk0 hk0 11 hk0
        refine g3 hC rfl rfl ?_
        refine g0 hC rfl ?_
        refine g13e hC rfl (fun h50 => ?_) (fun h50 => ?_)
        ·
          refine g3 hC rfl rfl ?_
          refine s2 hC rfl rfl rfl ?_
          refine g3 hC rfl rfl ?_
          refine s3 hC rfl rfl rfl ?_
          refine n4 hC rfl rfl ⟨by omega, by omega⟩ ?_
          refine g14 hC rfl ?_
          have ec : ask1 q (oS M h) c (askN q (oS M h) c) = ((c : Int), mo q (oS M h) c 11) := if_pos ⟨by omega, Or.inl (by rw [← e1]; exact h50)⟩
          refine hnext _ _ ⟨_, _, _, _, rfl, rfl, ?_, by omega, fun z => by omega, fun _ => ?_⟩
          · rw [es, ec]
          · rw [es, ec]; exact hv5
        ·
          refine g3 hC rfl rfl ?_
          refine g3 hC rfl rfl ?_
          refine g13l hC rfl (fun h53 => ?_) (fun h53 => ?_)
          ·
            refine g3 hC rfl rfl ?_
            refine s2 hC rfl rfl rfl ?_
            refine g3 hC rfl rfl ?_
            refine s3 hC rfl rfl rfl ?_
            refine n4 hC rfl rfl ⟨by omega, by omega⟩ ?_
            refine g14 hC rfl ?_
            have ec : ask1 q (oS M h) c (askN q (oS M h) c) = ((c : Int), mo q (oS M h) c 11) := if_pos ⟨by omega, Or.inr (by rw [← e3 h50, ← hv5]; exact h53)⟩
            refine hnext _ _ ⟨_, _, _, _, rfl, rfl, ?_, by omega, fun z => by omega, fun _ => ?_⟩
            · rw [es, ec]
            · rw [es, ec]; exact hv5
          ·
            refine g14 hC rfl ?_
            refine n4 hC rfl rfl ⟨by omega, by omega⟩ ?_
            refine g14 hC rfl ?_
            have ec : ask1 q (oS M h) c (askN q (oS M h) c) = askN q (oS M h) c := if_neg (fun z => by
              rcases z.2 with y | y
              · exact h50 (e1.trans y)
              · rw [← e3 h50, ← hv5] at y; omega)
            refine hnext _ _ ⟨_, _, _, _, rfl, rfl, ?_, e0, fun z => ?_, fun z => ?_⟩
            · rw [es, ec]; exact e1
            · rw [es, ec]; exact e2 z
            · rw [es, ec]; exact e3 z
      have l2 : 0 < fm q 11 → ∀ (m k : Nat), k + m = 11 → ∀ ll M4, (ll = [(2, 142), (0, a), (0, f), (0, w), (0, (c : Int)), (0, mo q (oS M h) c k), (0, (k : Int))] ∧ M4 = M3) → ax_G L X SH 8 253 27 ll [] M4 (R1 0 P) := by
        intro hp
        refine lp ?_ ?_
        · rintro ll M4 ⟨rfl, rfl⟩
          refine g3 hC rfl rfl ?_
          refine g0 hC rfl ?_
          refine g13t hC rfl (fun h29 => ?_) (fun h29 => (by omega))
          exact fin hp _ rfl
        · rintro k hk ll M4 ⟨rfl, rfl⟩ hnx
          have em : mo q (oS M h) c (k + 1) = max (mo q (oS M h) c k) (al q (oS M h) c k 11) := rfl
          have hmk := mo_b (q := q) (o := oS M h) (c := c) k
          have hqk := (hfr k hk).1
          have h1k := hq1 k
          refine g3 hC rfl rfl ?_
          refine g0 hC rfl ?_
          refine g13t hC rfl (fun h29 => (by omega)) (fun h29 => ?_)
          refine g3 hC rfl rfl ?_
          refine g19 hC rfl sh142 (flt12 rfl) ft12_79 ((hS.fix hw hF).g fx_142_79) ?_
          refine g3 hC rfl rfl ?_
          refine r21 (k) hC rfl rfl sh202 (Or.inl rfl) (by omega) hqk ?_
          refine g12e hC rfl (fun h34 => ?_) (fun h34 => ?_)
          ·
            refine n6 hC rfl rfl ⟨by omega, by omega⟩ ?_
            refine g14 hC rfl ?_
            refine hnx _ _ ⟨?_, rfl⟩
            rw [em, al_0 (by omega) 11, show max (mo q (oS M h) c k) 0 = mo q (oS M h) c k by omega]; rfl
          ·
            refine g3 hC rfl rfl ?_
            refine g3 hC rfl rfl ?_
            refine g3 hC rfl rfl ?_
            refine c1 hC rfl rfl rfl (Nat.le_of_ble_eq_true rfl) (Nat.le_of_ble_eq_true rfl) (mayR k252 rfl) (m252 (hS.fix hw hF) (q := q) (o := oS M h) (fun s hs => (hfr s hs).1) hq1 (by omega) hk (by omega) (fun s hs hf => (hfr s hs).2 (hfm s hf) c hc)) (Nat.le_of_ble_eq_true rfl) (fun x M5 hr => ?_)
            obtain ⟨rfl, hr⟩ := hr
            replace hr := hr.symm
            subst hr
            refine g3 hC rfl rfl ?_
            refine g13s hC rfl (fun h40 => ?_) (fun h40 => ?_)
            ·
              refine n6 hC rfl rfl ⟨by omega, by omega⟩ ?_
              refine g14 hC rfl ?_
              refine hnx _ _ ⟨?_, rfl⟩
              rw [em, show max (mo q (oS M h) c k) (al q (oS M h) c k 11) = mo q (oS M h) c k by omega]; rfl
            ·
              refine g3 hC rfl rfl ?_
              refine g3 hC rfl rfl ?_
              refine g3 hC rfl rfl ?_
              refine c1 hC rfl rfl rfl (Nat.le_of_ble_eq_true rfl) (Nat.le_of_ble_eq_true rfl) (mayR k252 rfl) (m252 (hS.fix hw hF) (q := q) (o := oS M h) (fun s hs => (hfr s hs).1) hq1 (by omega) hk (by omega) (fun s hs hf => (hfr s hs).2 (hfm s hf) c hc)) (Nat.le_of_ble_eq_true rfl) (fun x M5 hr => ?_)
              obtain ⟨rfl, hr⟩ := hr
              replace hr := hr.symm
              subst hr
              refine s5 hC rfl rfl rfl ?_
              refine n6 hC rfl rfl ⟨by omega, by omega⟩ ?_
              refine g14 hC rfl ?_
              refine hnx _ _ ⟨?_, rfl⟩
              rw [em, show max (mo q (oS M h) c k) (al q (oS M h) c k 11) = al q (oS M h) c k 11 by omega]; rfl
      refine g3 hC rfl rfl ?_
      refine g3 hC rfl rfl ?_
      refine c1 hC rfl rfl rfl (Nat.le_of_ble_eq_true rfl) (Nat.le_of_ble_eq_true rfl) (mayR k186 rfl) (m186 (hS.fix hw hF) hV2 hW) (Nat.le_of_ble_eq_true rfl) (fun x M2 hr => ?_)
      obtain ⟨rfl, hr⟩ := hr
      replace hr := hr.symm
      subst hr
      refine g13g hC rfl (fun h19 => (by omega)) (fun h19 => ?_)
      refine g3 hC rfl rfl ?_
      refine g19 hC rfl sh142 (flt12 rfl) ft12_80 h80 ?_
      refine g12s hC rfl (fun h22 => ?_) (fun h22 => ?_)
      ·
        have hz : ∀ k, k < 11 → q k ≠ 1 := fun k hk z => by have := (fm_p 11).2 ⟨k, hk, z⟩; omega
        have ef : f = -1 := by rw [e1, askN_0 hz]
        refine lend ha _ _ _ _ _ _ hS ?_ (fun _ => ?_) (fun z => absurd ef z)
        · rw [askN_0 hz]; exact ef
        · rw [askN_0 hz]
      ·
        refine g0 hC rfl ?_
        refine s5 hC rfl rfl rfl ?_
        refine g0 hC rfl ?_
        refine s6 hC rfl rfl rfl ?_
        exact l2 (by omega) 11 0 rfl _ _ ⟨rfl, rfl⟩
  by_cases z : 0 ≤ a ∧ a ≤ 1
  · skip
    refine g3 hC rfl rfl ?_
    refine g9 hC rfl ?_
    refine g1 hC rfl ?_
    refine g1 hC rfl ?_
    refine c1 hC rfl rfl rfl (Nat.le_of_ble_eq_true rfl) (Nat.le_of_ble_eq_true rfl) (mayS k153 rfl) (m153) (Nat.le_of_ble_eq_true rfl) (fun x M2 hr => ?_)
    obtain ⟨rfl, hr⟩ := hr; replace hr := hr.symm; subst hr; rw [if_pos z]
    refine g12n hC rfl (fun h5 => ?_) (fun h5 => (by omega))
    refine g3 hC rfl rfl ?_
    refine c0 hC rfl rfl rfl (Nat.le_of_ble_eq_true rfl) (Nat.le_of_ble_eq_true rfl) (mayR k250 rfl) (m250' hF hG hS0 (by decide +kernel) (by decide +kernel) rfl rfl) (Nat.le_of_ble_eq_true rfl) (fun M2 hr => ?_)
    obtain ⟨hr0, hr1, hr2⟩ := hr; have hS := hS.then hr0 rfl; rw [← hq] at hr1 hr2
    refine g0 hC rfl ?_
    refine s2 hC rfl rfl rfl ?_
    refine g0 hC rfl ?_
    refine s3 hC rfl rfl rfl ?_
    refine g0 hC rfl ?_
    refine s4 hC rfl rfl rfl ?_
    exact l1 z _ hr1 hr2 hS (nC M h) 0 (Nat.zero_add _) _ _ ⟨_, _, _, _, rfl, rfl, rfl, by decide, fun _ => rfl, fun y => absurd rfl y⟩
  · skip
    refine g3 hC rfl rfl ?_
    refine g9 hC rfl ?_
    refine g1 hC rfl ?_
    refine g1 hC rfl ?_
    refine c1 hC rfl rfl rfl (Nat.le_of_ble_eq_true rfl) (Nat.le_of_ble_eq_true rfl) (mayS k153 rfl) (m153) (Nat.le_of_ble_eq_true rfl) (fun x M2 hr => ?_)
    obtain ⟨rfl, hr⟩ := hr; replace hr := hr.symm; subst hr; rw [if_neg z]
    refine g12n hC rfl (fun h5 => (by omega)) (fun h5 => ?_)
    refine g0 hC rfl ?_
    refine ret1 hC rfl rfl ?_
    rw [hP]
    exact ⟨by rw [if_neg (by omega), if_neg (by omega)], hS⟩
theorem op26 (hR : Rel n M) {a : Int} : OP L X n 0 126 253 [(2, 0), (0, a)] [(2, 142), (0, a)] M := by
  have hR0 := hR
  obtain ⟨h, hh, hF, hG⟩ := hR
  have hG0 := hG
  obtain ⟨hW, hSW, hPW, hRV, hGT, hGN, hGM, hGH, hGS, hGX⟩ := hG
  have hV : HV M h M := HV.refl
  have hH3 : M 0 3 = (h : Int) := hGX.1.1
  exact OP.sc hR0 (by decide +kernel) (by decide +kernel) (by decide +kernel) (by decide +kernel) (m126 hF hh hG0) (fun M1 hS => m253 hF hG0 hS) (by decide) (by decide)
end WHW
