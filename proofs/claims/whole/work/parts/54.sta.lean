def W71 : ax_W := ([(51, 71), (141, 142)], [])
def W72 : ax_W := ([(46, 49)], [(45, 0)])
def WA : ax_W := ([(51, 71), (141, 142)], [(49, 1), (49, 2)])
def WU : ax_W := ([(46, 49)], [(45, 0), (49, 1), (49, 2)])
def XK : ax_W := ([(203, 204)], [(142, 82), (142, 83)])
def XU : ax_W := ([(185, 186)], [(142, 82), (142, 83)])
def WP : ax_W := ([(46, 48), (51, 71), (141, 142)], [(49, 1), (49, 2)])
def XP : ax_W := ([(185, 186), (203, 204)], [(142, 82), (142, 83)])
def WXP : ax_W := ([(46, 49), (51, 71), (141, 142), (185, 186), (203, 204)], [(45, 0), (49, 1), (49, 2), (142, 82), (142, 83)])
def CS (M : ax_M) (i : Nat) : Int := if i = 0 then M 45 0 else if i < 6 then M 46 (i - 1) else if i < 16 then M 47 (i - 6) else M 48 (i - 16)
theorem CS0 {M : ax_M} : CS M 0 = M 45 0 := rfl
theorem CS1 {M : ax_M} {q : Nat} (h : q < 5) : CS M (1 + q) = M 46 q := by unfold CS; rw [if_neg (by omega), if_pos (by omega), Nat.add_sub_cancel_left]
theorem CS6 {M : ax_M} {s : Nat} (h : s < 10) : CS M (6 + s) = M 47 s := by unfold CS; rw [if_neg (by omega), if_neg (by omega), if_pos (by omega), Nat.add_sub_cancel_left]
theorem CS16 {M : ax_M} {i : Nat} : CS M (16 + i) = M 48 i := by unfold CS; rw [if_neg (by omega), if_neg (by omega), if_neg (by omega), Nat.add_sub_cancel_left]
theorem RK.of {M V M2 : ax_M} {h : Nat} (hS : SW M) (hV : RV M h M2) : RK (CS M) (M2 185) := by
  obtain ⟨a1, a2, a3, a4⟩ := hV.2.2.2.2.1
  refine ⟨⟨a1, hS.1.1, hS.1.2⟩, fun q hq => ?_, fun s hs => ?_, fun a b hab hb => ?_, fun i hi => ?_⟩
  · rw [CS1 hq]; exact ⟨a2 q hq, hS.2.1 q hq⟩
  · rw [CS6 hs]; exact ⟨a3 s hs, hS.2.2.1 s hs⟩
  · rw [CS16]; exact a4 a b hab hb
  · rw [CS16]; exact hS.2.2.2 i hi
theorem RK.sw {M : ax_M} {g : Nat → Int} (hK : RK (CS M) g) : SW M := by
  refine ⟨⟨hK.1.2.1, hK.1.2.2⟩, fun q hq => ?_, fun s hs => ?_, fun i hi => ?_⟩
  · have := (hK.2.1 q hq).2; rw [CS1 hq] at this; exact this
  · have := (hK.2.2.1 s hs).2; rw [CS6 hs] at this; exact this
  · have := hK.2.2.2.2 i hi; rw [CS16] at this; exact this
theorem RK.cg {f g f' g' : Nat → Int} (hK : RK f g) (h1 : ∀ i, i < 44 → f' i = f i) (h2 : ∀ i, i < 44 → g' i = g i) : RK f' g' := by
  refine ⟨?_, fun q hq => ?_, fun s hs => ?_, fun a b hab hb => ?_, fun i hi => ?_⟩
  · rw [h1 0 (by decide), h2 0 (by decide)]; exact hK.1
  · rw [h1 _ (by omega), h2 _ (by omega)]; exact hK.2.1 q hq
  · rw [h1 _ (by omega), h2 _ (by omega)]; exact hK.2.2.1 s hs
  · have := pO_lt hab hb; have := pA_lt hab hb
    rw [h1 _ (by omega), h2 _ (by omega)]; exact hK.2.2.2.1 a b hab hb
  · rw [h1 _ (by omega)]; exact hK.2.2.2.2 i hi
section STA
variable {L : Nat} {X : Nat → Int} {M V M1 M2 : ax_M} {h n m : Nat} {W : ax_W}
theorem PW.sb2 (hP : PW M h) (hS : Sb W M M1) (hwh : hok W h) (hw2 : ccs W [182, 183, 184] = true) : PW M1 h := by
  have e2 : ∀ k, M1 182 k = M 182 k := fun k => hS _ _ (ccsU hw2 rfl k)
  have e3 : ∀ k, M1 183 k = M 183 k := fun k => hS _ _ (ccsU hw2 rfl k)
  have e4 : ∀ k, M1 184 k = M 184 k := fun k => hS _ _ (ccsU hw2 rfl k)
  have e12 : ∀ k, M1 (h + 12) k = M (h + 12) k := fun k => hCells hS hwh 12 k (by decide) (by decide) (by decide)
  have e13 : ∀ k, M1 (h + 13) k = M (h + 13) k := fun k => hCells hS hwh 13 k (by decide) (by decide) (by decide)
  have e15 : ∀ k, M1 (h + 15) k = M (h + 15) k := fun k => hCells hS hwh 15 k (by decide) (by decide) (by decide)
  have e16 : ∀ k, M1 (h + 16) k = M (h + 16) k := fun k => hCells hS hwh 16 k (by decide) (by decide) (by decide)
  unfold PW tf tn tc df dn dc tf df at *
  simp only [e2, e3, e4, e12, e15, e16]
  refine ⟨?_, ?_⟩
  · rcases hP.1 with z | ⟨z1, z2, z3, z4, z5⟩
    · exact Or.inl z
    · exact Or.inr ⟨z1, z2, z3, z4.of (e12 1) (fun k => e13 k), z5⟩
  · rcases hP.2 with z | ⟨z1, z2, z3, z4, z5⟩
    · exact Or.inl z
    · exact Or.inr ⟨z1, z2, z3, z4.of (e15 1) (fun k => e16 k), z5⟩
theorem RV.st (hV : RV M h M) (hS : Sb W M M2) (hwh : hok W h) (hc : ccs W [176, 178, 180, 181] = true) (hK : RK (CS M2) (M2 185)) : RV M2 h M2 := by
  obtain ⟨n1, n2, n3, n4⟩ := nREq hS hwh
  have e0 : ∀ k, M2 h k = M h k := fun k => hCells hS hwh 0 k (by decide) (by decide) (by decide)
  obtain ⟨a1, a2, a3, a4, a5, a6⟩ := hV
  refine ⟨?_, ?_, ?_, ?_, ?_, ⟨rfl, rfl, rfl, rfl, fun _ _ => rfl⟩⟩
  · rw [e0, e0, e0, e0, hS 176 _ (ccsU hc rfl _), hS 176 _ (ccsU hc rfl _), hS 176 _ (ccsU hc rfl _), hS 176 _ (ccsU hc rfl _)]; exact a1
  · intro s hs; rw [n2] at hs
    rw [hCells hS hwh 4 s (by decide) (by decide) (by decide), hCells hS hwh 5 s (by decide) (by decide) (by decide), hCells hS hwh 6 s (by decide) (by decide) (by decide), hS 178 _ (ccsU hc rfl _), hS 178 _ (ccsU hc rfl _), hS 178 _ (ccsU hc rfl _)]; exact a2 s hs
  · intro s hs; rw [n4] at hs
    rw [hCells hS hwh 8 s (by decide) (by decide) (by decide), hCells hS hwh 9 s (by decide) (by decide) (by decide), hCells hS hwh 10 s (by decide) (by decide) (by decide), hCells hS hwh 11 s (by decide) (by decide) (by decide), hS 180 _ (ccsU hc rfl _), hS 180 _ (ccsU hc rfl _), hS 180 _ (ccsU hc rfl _), hS 180 _ (ccsU hc rfl _)]; exact a3 s hs
  · rw [e0, e0, e0, hS 181 _ (ccsU hc rfl _), hS 181 _ (ccsU hc rfl _), hS 181 _ (ccsU hc rfl _)]; exact a4
  · refine ⟨hK.1.1, fun q hq => ?_, fun s hs => ?_, fun a b hab hb => ?_⟩
    · rw [(hK.2.1 q hq).1, CS1 hq]
    · rw [(hK.2.2.1 s hs).1, CS6 hs]
    · rw [hK.2.2.2.1 a b hab hb, CS16]
theorem GG.st (hG : GG n h M) (hh : h = 9 ∨ h = 27) (hS : Sb W M M2) (k1 : hokb W = true) (k2 : ccs W [176, 178, 180, 181] = true) (k3 : ccs W [182, 183, 184] = true) (k5 : (ccs W kT && ccf W kTf) = true ∨ GT M2) (k6 : (ccs W kN = true ∧ n ≤ m) ∨ GN m M2) (k7 : cf W 177 = true) (hH : GH h M2) (k9 : (ccs W kS && ccf W kSf) = true) (hK : RK (CS M2) (M2 185)) (k10 : ((ccs W [139, 231] && ccf W kXf) = true ∧ ∀ s, nS M h ≤ s → s < 10 → M2 47 s = 0) ∨ GX h M2) : GG m h M2 := by
  have hwh : hok W h := hokB k1 hh
  obtain ⟨a1, a2, a3, a4, a5, a6, a7, a8, a9, a10⟩ := hG
  rw [Bool.and_eq_true] at k9
  refine ⟨a1.sbb hS hwh, hK.sw, a3.sb2 hS hwh k3, a4.st hS hwh k2 hK, ?_, ?_, a7.sb hS hwh k7, hH, a9.sb hS hwh k9.1 k9.2, ?_⟩
  · rcases k5 with z | z
    · rw [Bool.and_eq_true] at z; exact a5.sb hS z.1 z.2
    · exact z
  · rcases k6 with z | z
    · exact (a6.sb hS z.1).up z.2
    · exact z
  · rcases k10 with ⟨z, y⟩ | z
    · rw [Bool.and_eq_true] at z
      obtain ⟨n1, n2, n3, n4⟩ := nREq hS hwh
      obtain ⟨h1, h2⟩ := z
      unfold GX at *
      rw [hS 0 3 (ccfU h2 rfl), hS 0 4 (ccfU h2 rfl), hS 0 14 (ccfU h2 rfl), hS 0 16 (ccfU h2 rfl), hS 142 69 (ccfU h2 rfl), hS 142 70 (ccfU h2 rfl), hS 142 84 (ccfU h2 rfl), hS 142 120 (ccfU h2 rfl), n2]
      refine ⟨a10.1, a10.2.1, a10.2.2.1, y, a10.2.2.2.2.1, fun k hk hk2 => ?_⟩
      rw [hS 139 k (ccsU h1 rfl k), hS 231 k (ccsU h1 rfl k)]; exact a10.2.2.2.2.2 k hk hk2
    · exact z
def cpT (M : ax_M) (c : Nat) : ax_M := ax_cpy (ax_cpy (ax_cpy (ax_up M c 0 (M 45 0)) 46 0 c 1 5) 47 0 c 6 10) 48 0 c 16 28
theorem cpT_ne {c b : Nat} (hb : b ≠ c) : cpT M c b = M b := by
  funext k; unfold cpT ax_cpy
  simp only [if_neg (fun z : b = c ∧ _ => hb z.1), ax_up2n hb]
theorem cpy_ne {M : ax_M} {a sp c dp n b k : Nat} (hb : b ≠ c) : ax_cpy M a sp c dp n b k = M b k := if_neg (fun z => hb z.1)
theorem cpy_in {M : ax_M} {a sp c dp n k : Nat} (h1 : dp ≤ k) (h2 : k < dp + n) : ax_cpy M a sp c dp n c k = M a (sp + (k - dp)) := if_pos ⟨rfl, h1, h2⟩
theorem cpy_out {M : ax_M} {a sp c dp n k : Nat} (h1 : ¬ (dp ≤ k ∧ k < dp + n)) : ax_cpy M a sp c dp n c k = M c k := if_neg (fun z => h1 z.2)
theorem cpT_at {c i : Nat} (hi : i < 44) (h5 : c ≠ 45) (h6 : c ≠ 46) (h7 : c ≠ 47) (h8 : c ≠ 48) : cpT M c c i = CS M i := by
  unfold cpT CS
  by_cases z0 : i = 0
  · rw [if_pos z0, cpy_out (by omega), cpy_out (by omega), cpy_out (by omega), z0, ax_up_at]
  rw [if_neg z0]
  by_cases z1 : i < 6
  · rw [if_pos z1, cpy_out (by omega), cpy_out (by omega), cpy_in (by omega) (by omega), ax_up2n h6.symm, Nat.zero_add]
  rw [if_neg z1]
  by_cases z2 : i < 16
  · rw [if_pos z2, cpy_out (by omega), cpy_in (by omega) (by omega), cpy_ne h7.symm, ax_up2n h7.symm, Nat.zero_add]
  · rw [if_neg z2, cpy_in (by omega) (by omega), cpy_ne h8.symm, cpy_ne h8.symm, ax_up2n h8.symm, Nat.zero_add]
theorem m71 (hF : Fix M) {c : Nat} (hc : SH[c]? = some (1, 0, 44)) (hwc : ∀ k, wb W71 c k = true) : ax_Ev L X SH 0 71 [(2, 45), (2, (c : Int))] M (R0 (fun M' => Sb W71 M M' ∧ M' = cpT M c)) := by
  show ax_G L X SH 0 71 0 [(2, 45), (2, (c : Int))] [] M _
  have hC := at71
  have hw : wok W71 = true := by decide +kernel
  have hS : Sb W71 M M := Sb.refl
  refine g3 hC rfl rfl ?_
  refine g0 hC rfl ?_
  refine g3 hC rfl rfl ?_
  refine g19 hC rfl rfl (Nat.le_of_ble_eq_true rfl) rfl rfl ?_
  refine r22s (0) hC rfl rfl hc (by decide) rfl hS (hwc 0) (fun hS => ?_)
  refine g3 hC rfl rfl ?_
  refine g19 hC rfl rfl (Nat.le_of_ble_eq_true rfl) rfl ((hS.fix hw hF).g rfl) ?_
  refine g0 hC rfl ?_
  refine g3 hC rfl rfl ?_
  refine g0 hC rfl ?_
  refine g0 hC rfl ?_
  refine r29s 0 1 5 hC rfl rfl rfl rfl rfl hc (by decide) (by decide) (Nat.le_of_ble_eq_true rfl) hS hwc (fun hS => ?_)
  refine g3 hC rfl rfl ?_
  refine g19 hC rfl rfl (Nat.le_of_ble_eq_true rfl) rfl ((hS.fix hw hF).g rfl) ?_
  refine g0 hC rfl ?_
  refine g3 hC rfl rfl ?_
  refine g0 hC rfl ?_
  refine g0 hC rfl ?_
  refine r29s 0 6 10 hC rfl rfl rfl rfl rfl hc (by decide) (by decide) (Nat.le_of_ble_eq_true rfl) hS hwc (fun hS => ?_)
  refine g3 hC rfl rfl ?_
  refine g19 hC rfl rfl (Nat.le_of_ble_eq_true rfl) rfl ((hS.fix hw hF).g rfl) ?_
  refine g0 hC rfl ?_
  refine g3 hC rfl rfl ?_
  refine g0 hC rfl ?_
  refine g0 hC rfl ?_
  refine r29s 0 16 28 hC rfl rfl rfl rfl rfl hc (by decide) (by decide) (Nat.le_of_ble_eq_true rfl) hS hwc (fun hS => ?_)
  refine ret0 hC rfl ?_
  exact ⟨hS, rfl⟩
def cpF (M : ax_M) (c : Nat) : ax_M := ax_cpy (ax_cpy (ax_cpy (ax_up M 45 0 (M c 0)) c 1 46 0 5) c 6 47 0 10) c 16 48 0 28
theorem cpF_ne {c b : Nat} (h5 : b ≠ 45) (h6 : b ≠ 46) (h7 : b ≠ 47) (h8 : b ≠ 48) : cpF M c b = M b := by
  funext k; unfold cpF ax_cpy
  simp only [if_neg (fun z : b = 46 ∧ _ => h6 z.1), if_neg (fun z : b = 47 ∧ _ => h7 z.1), if_neg (fun z : b = 48 ∧ _ => h8 z.1), ax_up2n h5]
theorem cpF_at {c i : Nat} (hi : i < 44) (h5 : c ≠ 45) (h6 : c ≠ 46) (h7 : c ≠ 47) (h8 : c ≠ 48) : CS (cpF M c) i = M c i := by
  unfold CS cpF
  by_cases z0 : i = 0
  · rw [if_pos z0, cpy_ne (show 45 ≠ 48 by decide), cpy_ne (show 45 ≠ 47 by decide), cpy_ne (show 45 ≠ 46 by decide), ax_up_at, z0]
  rw [if_neg z0]
  by_cases z1 : i < 6
  · rw [if_pos z1, cpy_ne (show 46 ≠ 48 by decide), cpy_ne (show 46 ≠ 47 by decide), cpy_in (by omega) (by omega), ax_up2n h5, show 1 + (i - 1 - 0) = i by omega]
  rw [if_neg z1]
  by_cases z2 : i < 16
  · rw [if_pos z2, cpy_ne (show 47 ≠ 48 by decide), cpy_in (by omega) (by omega), cpy_ne h6, ax_up2n h5, show 6 + (i - 6 - 0) = i by omega]
  · rw [if_neg z2, cpy_in (by omega) (by omega), cpy_ne h7, cpy_ne h6, ax_up2n h5, show 16 + (i - 16 - 0) = i by omega]
theorem m72 (hF : Fix M) {c : Nat} (hc : SH[c]? = some (1, 0, 44)) : ax_Ev L X SH 0 72 [(2, 45), (2, (c : Int))] M (R0 (fun M' => Sb W72 M M' ∧ M' = cpF M c)) := by
  show ax_G L X SH 0 72 0 [(2, 45), (2, (c : Int))] [] M _
  have hC := at72
  have hw : wok W72 = true := by decide +kernel
  have hS : Sb W72 M M := Sb.refl
  refine g3 hC rfl rfl ?_
  refine g3 hC rfl rfl ?_
  refine g0 hC rfl ?_
  refine r21 (0) hC rfl rfl hc (Or.inl rfl) (by decide) rfl ?_
  refine g20s hC rfl rfl (Nat.le_of_ble_eq_true rfl) rfl hS rfl (fun hS => ?_)
  refine g3 hC rfl rfl ?_
  refine g0 hC rfl ?_
  refine g3 hC rfl rfl ?_
  refine g19 hC rfl rfl (Nat.le_of_ble_eq_true rfl) rfl ((hS.fix hw hF).g rfl) ?_
  refine g0 hC rfl ?_
  refine g0 hC rfl ?_
  refine r29s (1) (0) (5) hC rfl (by omega) (by omega) (by omega) hc rfl (by omega) (by omega) (Nat.le_of_ble_eq_true rfl) hS (fun _ => rfl) (fun hS => ?_)
  refine g3 hC rfl rfl ?_
  refine g0 hC rfl ?_
  refine g3 hC rfl rfl ?_
  refine g19 hC rfl rfl (Nat.le_of_ble_eq_true rfl) rfl ((hS.fix hw hF).g rfl) ?_
  refine g0 hC rfl ?_
  refine g0 hC rfl ?_
  refine r29s (6) (0) (10) hC rfl (by omega) (by omega) (by omega) hc rfl (by omega) (by omega) (Nat.le_of_ble_eq_true rfl) hS (fun _ => rfl) (fun hS => ?_)
  refine g3 hC rfl rfl ?_
  refine g0 hC rfl ?_
  refine g3 hC rfl rfl ?_
  refine g19 hC rfl rfl (Nat.le_of_ble_eq_true rfl) rfl ((hS.fix hw hF).g rfl) ?_
  refine g0 hC rfl ?_
  refine g0 hC rfl ?_
  refine r29s (16) (0) (28) hC rfl (by omega) (by omega) (by omega) hc rfl (by omega) (by omega) (Nat.le_of_ble_eq_true rfl) hS (fun _ => rfl) (fun hS => ?_)
  refine ret0 hC rfl ?_
  exact ⟨hS, rfl⟩
theorem w71r {r k : Nat} (hr : r < 20) : wb W71 (51 + r) k = true := wbr (lo := 51) (hi := 71) rfl (by omega) (by omega)
theorem m31 (hF : Fix M) (hr : M 49 1 = (hR M : Int) ∧ hR M < 20) (hn : M 49 2 = (hN M : Int) ∧ hN M ≤ 20) : ax_Ev L X SH 1 31 [(2, 49), (2, 45)] M (R0 (fun M' => Sb WA M M' ∧ (∀ b, b ≠ 51 + hR M → b ≠ 49 → M' b = M b) ∧ (∀ i, i < 44 → M' (51 + hR M) i = CS M i) ∧ M' 49 1 = (((hR M + 1) % 20 : Nat) : Int) ∧ M' 49 2 = ((min 20 (hN M + 1) : Nat) : Int))) := by
  show ax_G L X SH 1 31 0 [(2, 49), (2, 45)] [] M _
  have hC := at31
  have hw : wok WA = true := by decide +kernel
  have hS : Sb WA M M := Sb.refl
  generalize hR M = r at *
  generalize hN M = q at *
  refine g3 hC rfl rfl ?_
  refine g3 hC rfl rfl ?_
  refine g19 hC rfl rfl (Nat.le_of_ble_eq_true rfl) rfl ((hS.fix hw hF).g rfl) ?_
  refine g3 hC rfl rfl ?_
  refine g19 hC rfl rfl (Nat.le_of_ble_eq_true rfl) rfl hr.1 ?_
  refine r21 (r) hC rfl rfl rfl (Or.inl rfl) hr.2 ((hS.fix hw hF).r (n := 20) (v := 51) rfl hr.2) ?_
  refine c0 hC rfl rfl rfl (Nat.le_of_ble_eq_true rfl) (Nat.le_of_ble_eq_true rfl) rfl (m71 (hS.fix hw hF) (shR51 hr.2) (fun k => w71r hr.2)) (Nat.le_of_ble_eq_true rfl) (fun M2 hrr => ?_)
  obtain ⟨hr0, hrr⟩ := hrr; have hS := hS.then hr0 rfl
  refine g3 hC rfl rfl ?_
  refine g3 hC rfl rfl ?_
  refine g19 hC rfl rfl (Nat.le_of_ble_eq_true rfl) rfl ((hr0 49 1 rfl).trans hr.1) ?_
  refine g0 hC rfl ?_
  refine g6a hC rfl ⟨by omega, by omega⟩ ?_
  refine g0 hC rfl ?_
  refine g6rN (a := r + 1) (b := 20) hC rfl (by omega) rfl (by decide) (by omega) ?_
  refine g20s hC rfl rfl (Nat.le_of_ble_eq_true rfl) rfl hS rfl (fun hS => ?_)
  refine g3 hC rfl rfl ?_
  refine g0 hC rfl ?_
  refine g3 hC rfl rfl ?_
  refine g19 hC rfl rfl (Nat.le_of_ble_eq_true rfl) rfl ((up2 (by decide)).trans ((hr0 49 2 rfl).trans hn.1)) ?_
  refine g0 hC rfl ?_
  refine g6a hC rfl ⟨by omega, by omega⟩ ?_
  refine c1 hC rfl rfl rfl (Nat.le_of_ble_eq_true rfl) (Nat.le_of_ble_eq_true rfl) rfl (m306) (Nat.le_of_ble_eq_true rfl) (fun x M2 hr => ?_)
  obtain ⟨rfl, hr⟩ := hr
  replace hr := hr.symm
  subst hr
  refine g20s hC rfl rfl (Nat.le_of_ble_eq_true rfl) rfl hS rfl (fun hS => ?_)
  refine ret0 hC rfl ?_
  refine ⟨hS, fun b hb1 hb2 => ?_, fun i hi => ?_, ?_, ?_⟩
  · rw [ax_up_ne hb2, ax_up_ne hb2, hrr, cpT_ne hb1]
  · rw [ax_up_ne (show 51 + r ≠ 49 by omega), ax_up_ne (show 51 + r ≠ 49 by omega), hrr]; exact cpT_at hi (by omega) (by omega) (by omega) (by omega)
  · rw [ax_up_of (by decide), ax_up_at]
  · rw [ax_up_at]; omega
theorem m254 (hF : Fix M) {r q : Nat} (hr : M 142 83 = (r : Int) ∧ r < 20) (hn : M 142 82 = (q : Int) ∧ q ≤ 20) : ax_Ev L X SH 1 254 [(2, 142)] M (R0 (fun M' => Sb XK M M' ∧ (∀ k, M' 203 k = if 44 * ((r + 1) % 20) ≤ k ∧ k < 44 * ((r + 1) % 20) + 44 then M 185 (k - 44 * ((r + 1) % 20)) else M 203 k) ∧ M' 142 83 = (((r + 1) % 20 : Nat) : Int) ∧ M' 142 82 = ((min 20 (q + 1) : Nat) : Int))) := by
  show ax_G L X SH 1 254 0 [(2, 142), (3, 0)] [] M _
  have hC := at254
  have hw : wok XK = true := by decide +kernel
  have hS : Sb XK M M := Sb.refl
  have hp : (r + 1) % 20 < 20 := Nat.mod_lt _ (by decide)
  generalize hp0 : (r + 1) % 20 = p at *
  have l1 : ∀ (m k : Nat), k + m = 44 → ∀ ll M1, (ll = [(2, 142), (0, (k : Int))] ∧ Sb XK M M1 ∧ M1 142 83 = (p : Int) ∧ M1 142 82 = (q : Int) ∧ ∀ i, M1 203 i = if 44 * p ≤ i ∧ i < 44 * p + k then M 185 (i - 44 * p) else M 203 i) → ax_G L X SH 1 254 10 ll [] M1 (R0 (fun M' => Sb XK M M' ∧ (∀ k, M' 203 k = if 44 * p ≤ k ∧ k < 44 * p + 44 then M 185 (k - 44 * p) else M 203 k) ∧ M' 142 83 = (p : Int) ∧ M' 142 82 = ((min 20 (q + 1) : Nat) : Int))) := by
    refine lp ?_ ?_
    · rintro ll M1 ⟨rfl, hS, h1, h2, h3⟩
      refine g3 hC rfl rfl ?_
      refine g0 hC rfl ?_
      refine g13g hC rfl (fun h12 => ?_) (fun h12 => (by omega))
      refine g3 hC rfl rfl ?_
      refine g19 hC rfl sh142 (flt12 rfl) ft12_82 h2 ?_
      refine g0 hC rfl ?_
      refine g13g hC rfl (fun h31 => ?_) (fun h31 => ?_)
      ·
        refine ret0 hC rfl ?_
        exact ⟨hS, h3, h1, by rw [h2]; omega⟩
      ·
        refine g3 hC rfl rfl ?_
        refine g16 hC rfl (by decide) ?_
        refine g19 hC rfl sh142 (flt12 rfl) ft12_82 h2 ?_
        refine g0 hC rfl ?_
        refine g6a hC rfl ⟨by omega, by omega⟩ ?_
        refine g20s hC rfl sh142 (flt12 rfl) (by rw [fy12_82]; rfl) hS rfl (fun hS => ?_)
        refine ret0 hC rfl ?_
        exact ⟨hS, h3, by rw [ax_up_of (by decide)]; exact h1, by rw [ax_up_at]; omega⟩
    · rintro k hk ll M1 ⟨rfl, hS, h1, h2, h3⟩ hnext
      refine g3 hC rfl rfl ?_
      refine g0 hC rfl ?_
      refine g13g hC rfl (fun h12 => (by omega)) (fun h12 => ?_)
      refine g3 hC rfl rfl ?_
      refine g19 hC rfl sh142 (flt12 rfl) ft12_81 ((hS.fix hw hF).g fx_142_81) ?_
      refine g0 hC rfl ?_
      refine g3 hC rfl rfl ?_
      refine g19 hC rfl sh142 (flt12 rfl) ft12_83 h1 ?_
      refine g6m hC rfl ⟨by omega, by omega⟩ ?_
      refine g3 hC rfl rfl ?_
      refine g6a hC rfl ⟨by omega, by omega⟩ ?_
      refine g3 hC rfl rfl ?_
      refine g19 hC rfl sh142 (flt12 rfl) ft12_54 ((hS.fix hw hF).g fx_142_54) ?_
      refine g3 hC rfl rfl ?_
      refine r21 (k) hC rfl (by omega) sh185 (Or.inl rfl) (by omega) (hS 185 (k) rfl) ?_
      refine r22s (((44 * p) + k)) hC rfl (by omega) sh203 (by omega) rfl hS rfl (fun hS => ?_)
      refine n1 hC rfl rfl ⟨by omega, by omega⟩ ?_
      refine g14 hC rfl ?_
      refine hnext _ _ ⟨rfl, hS, h1, h2, fun i => ?_⟩
      rw [ax_upf]; unfold up
      by_cases z : i = 44 * p + k
      · rw [if_pos z, if_pos (by omega), z, show 44 * p + k - 44 * p = k by omega]
      · rw [if_neg z, h3 i]
        by_cases y : 44 * p ≤ i ∧ i < 44 * p + k
        · rw [if_pos y, if_pos (by omega)]
        · rw [if_neg y, if_neg (by omega)]
  refine g3 hC rfl rfl ?_
  refine g3 hC rfl rfl ?_
  refine g19 hC rfl sh142 (flt12 rfl) ft12_83 hr.1 ?_
  refine g0 hC rfl ?_
  refine g6a hC rfl ⟨by omega, by omega⟩ ?_
  refine g0 hC rfl ?_
  refine g6rN (a := r + 1) (b := 20) hC rfl (by omega) rfl (by decide) (by omega) ?_
  rw [hp0]
  refine g20s hC rfl sh142 (flt12 rfl) (by rw [fy12_83]; rfl) hS rfl (fun hS => ?_)
  refine g0 hC rfl ?_
  refine s1 hC rfl rfl rfl ?_
  exact l1 44 0 rfl _ _ ⟨rfl, hS, ax_up_at, (up2 (by decide)).trans hn.1, fun i => by rw [ax_up_ne (by decide), if_neg (by omega)]⟩
theorem GH.add (hG : GG n h M) (hn2 : nS M2 h = nS M h) (e1 : ∀ b, 51 ≤ b → b < 71 → b ≠ 51 + hR M → M2 b = M b) (e2 : ∀ i, i < 44 → M2 (51 + hR M) i = CS M i) (e3 : M2 49 1 = (((hR M + 1) % 20 : Nat) : Int)) (e4 : M2 49 2 = ((min 20 (hN M + 1) : Nat) : Int)) (f1 : ∀ k, M2 203 k = if 44 * ((hR M + 1) % 20) ≤ k ∧ k < 44 * ((hR M + 1) % 20) + 44 then M 185 (k - 44 * ((hR M + 1) % 20)) else M 203 k) (f2 : M2 142 83 = (((hR M + 1) % 20 : Nat) : Int)) (f3 : M2 142 82 = ((min 20 (hN M + 1) : Nat) : Int)) : GH h M2 := by
  obtain ⟨a1, a2, a3, a4, a5, a6, a7, a8, a9, a10⟩ := hG
  have hK : RK (CS M) (M 185) := RK.of (V := M) a2 a4
  obtain ⟨⟨b1, b2, b3⟩, ⟨b4, b5, b6⟩, b7, b8⟩ := a8
  have r2 : hR M2 = (hR M + 1) % 20 := by unfold hR; rw [e3]; rfl
  have q2 : hN M2 = min 20 (hN M + 1) := by unfold hN; rw [e4]; rfl
  generalize hR M = r at *
  generalize hN M = q at *
  refine ⟨⟨by rw [r2, e3], by rw [r2]; omega, by rw [r2, f2]⟩, ⟨by rw [q2, e4], by rw [q2]; omega, by rw [q2, f3]⟩, fun r' hr' => ?_, fun j hj s hs1 hs2 => ?_⟩
  · by_cases z : r' = r
    · rw [z]
      refine hK.cg (fun i hi => e2 i hi) (fun i hi => ?_)
      rw [f1, if_pos (by omega)]; congr 1; omega
    · refine (b7 r' hr').cg (fun i hi => by rw [e1 _ (by omega) (by omega) (by omega)]) (fun i hi => ?_)
      rw [f1, if_neg (by omega)]
  · rw [hn2] at hs1
    rw [r2, q2] at *
    by_cases z : j = 0
    · rw [show ((r + 1) % 20 + 19 - j) % 20 = r by omega, e2 _ (by omega), CS6 hs2]
      exact a10.2.2.2.1 s hs1 hs2
    · rw [show ((r + 1) % 20 + 19 - j) % 20 = (r + 19 - (j - 1)) % 20 by omega, e1 _ (by omega) (by omega) (by omega)]
      exact b8 (j - 1) (by omega) s hs1 hs2
theorem m256 (hF : Fix M) (hb : 0 ≤ M 144 2 ∧ M 144 2 ≤ 1000000) : ax_Ev L X SH 0 256 [(2, 142)] M (R1 0 (fun x M' => x = 0 ∧ M' = ax_up M 144 2 (M 144 2 + 1))) := by
  show ax_G L X SH 0 256 0 [(2, 142)] [] M _
  have hC := at256
  have hw : wok XR = true := by decide +kernel
  have hS : Sb XR M M := Sb.refl
  refine g3 hC rfl rfl ?_
  refine g19 hC rfl sh142 (flt12 rfl) ft12_9 ((hS.fix hw hF).g fx_142_9) ?_
  refine g0 hC rfl ?_
  refine g17 hC rfl (by decide) ?_
  refine r21 (2) hC rfl (by omega) sh144 (Or.inl rfl) (by omega) rfl ?_
  refine g0 hC rfl ?_
  refine g6a hC rfl ⟨by omega, by omega⟩ ?_
  refine r22s (2) hC rfl (by omega) sh144 (by omega) rfl hS rfl (fun hS => ?_)
  refine g0 hC rfl ?_
  refine ret3 hC rfl ⟨by omega, by omega⟩ ?_
  exact ⟨rfl, rfl⟩
end STA
