def NM (c r : Int) : Prop := ∃ (n : Nat) (f : Nat → Nat), 1 ≤ n ∧ n ≤ 6 ∧ (∀ i, i < n → 1 ≤ f i ∧ f i ≤ 26) ∧ c = (nc f n : Int) ∧ r = (nr f n : Int)
def GT (M : ax_M) : Prop := (0 ≤ M 1 1 ∧ M 1 1 ≤ 1600 ∧ M 142 1 = M 1 1) ∧ (∀ i, i < 1600 → M 143 i = M 2 i ∧ 0 ≤ M 2 i ∧ M 2 i ≤ 255) ∧ M 142 7 = M 1 8 ∧ M 142 8 = M 1 9
def GN (n : Nat) (M : ax_M) : Prop := ∀ k, k < 6 → M 144 k = M 140 k ∧ 0 ≤ M 140 k ∧ M 140 k ≤ (n : Int)
def GM (h : Nat) (M : ax_M) : Prop := (∀ k, k < nR M h → NM (M (h + 1) k) (M 177 (24 + k))) ∧ (∀ k, k < nQ M h → NM (M (h + 2) k) (M 177 (32 + k))) ∧ (∀ k, k < nC M h → NM (M (h + 3) k) (M 177 (40 + k)))
def RK (f g : Nat → Int) : Prop := (g 0 = f 0 ∧ 0 ≤ f 0 ∧ f 0 ≤ 999) ∧ (∀ q, q < 5 → g (1 + q) = f (1 + q) ∧ 0 ≤ f (1 + q) ∧ f (1 + q) ≤ 20) ∧ (∀ s, s < 10 → g (6 + s) = f (6 + s) ∧ (f (6 + s) = 0 ∨ f (6 + s) = 1)) ∧ (∀ a b, a < b → b < 8 → g (16 + pA a b) = f (16 + pO a b)) ∧ ∀ i, i < 28 → 0 ≤ f (16 + i) ∧ f (16 + i) ≤ 9999
def hR (M : ax_M) : Nat := (M 49 1).toNat
def hN (M : ax_M) : Nat := (M 49 2).toNat
def GH (h : Nat) (M : ax_M) : Prop := (M 49 1 = (hR M : Int) ∧ hR M < 20 ∧ M 142 83 = (hR M : Int)) ∧ (M 49 2 = (hN M : Int) ∧ hN M ≤ 20 ∧ M 142 82 = (hN M : Int)) ∧ (∀ r, r < 20 → RK (M (51 + r)) (fun k => M 203 (44 * ((r + 1) % 20) + k))) ∧ ∀ j, j < hN M → ∀ s, nS M h ≤ s → s < 10 → M (51 + (hR M + 19 - j) % 20) (6 + s) = 0
def sN (M : ax_M) : Nat := (M 122 0).toNat
def GS (h : Nat) (M : ax_M) : Prop := (M 122 0 = (sN M : Int) ∧ sN M ≤ 16 ∧ M 142 76 = (sN M : Int)) ∧ ∀ k, k < sN M → (M 123 k = ((M 123 k).toNat : Int) ∧ (M 123 k).toNat < nC M h ∧ M 200 (2 * k) = M 123 k) ∧ M 200 (2 * k + 1) = M 124 k
def GX (h : Nat) (M : ax_M) : Prop := (M 0 3 = (h : Int) ∧ M 0 4 = ((36 - h : Nat) : Int)) ∧ (M 142 84 = M 0 16 ∧ 0 ≤ M 0 16 ∧ M 0 16 ≤ 2147483647) ∧ (M 142 69 = -1 ∧ M 142 70 = -1) ∧ (∀ s, nS M h ≤ s → s < 10 → M 47 s = 0) ∧ (0 ≤ M 0 14 ∧ M 0 14 ≤ 74 ∧ M 142 120 = M 0 14) ∧ ∀ k : Nat, k < 74 → (k : Int) < M 0 14 → M 231 k = M 139 k
def GG (n h : Nat) (M : ax_M) : Prop := HW M h ∧ SW M ∧ PW M h ∧ RV M h M ∧ GT M ∧ GN n M ∧ GM h M ∧ GH h M ∧ GS h M ∧ GX h M
def Rel (n : Nat) (M : ax_M) : Prop := ∃ h, (h = 9 ∨ h = 27) ∧ Fix M ∧ GG n h M
def cf (W : ax_W) (a : Nat) : Bool := W.1.all (fun e => Nat.ble e.2 a || Nat.ble (a + 1) e.1) && W.2.all (fun e => !(Nat.beq e.1 a))
theorem cfU {W : ax_W} {a k : Nat} (h : cf W a = true) : wb W a k = false := by
  unfold cf at h
  rw [Bool.and_eq_true] at h
  cases e : wb W a k with
  | false => rfl
  | true =>
    unfold wb at e
    rw [Bool.or_eq_true] at e
    rcases e with e | e
    · obtain ⟨x, hx, e⟩ := List.any_eq_true.mp e
      have := List.all_eq_true.mp h.1 x hx
      simp only [Bool.and_eq_true, Bool.or_eq_true] at this e
      have e1 := Nat.le_of_ble_eq_true e.1
      have e2 := Nat.le_of_ble_eq_true e.2
      rcases this with t | t <;> (have := Nat.le_of_ble_eq_true t; omega)
    · obtain ⟨x, hx, e⟩ := List.any_eq_true.mp e
      have := List.all_eq_true.mp h.2 x hx
      simp only [Bool.and_eq_true] at e
      rw [e.1] at this
      cases this
def kN : List Nat := [140, 144]
def kT : List Nat := [2, 143]
def kTf : List (Nat × Nat) := [(1, 1), (1, 8), (1, 9), (142, 1), (142, 7), (142, 8)]
def ccs (W : ax_W) (l : List Nat) : Bool := l.all (cf W)
def ccf (W : ax_W) (l : List (Nat × Nat)) : Bool := l.all (fun e => !(wb W e.1 e.2))
theorem ccsU {W : ax_W} {l : List Nat} (h : ccs W l = true) {a : Nat} (ha : l.contains a = true) (k : Nat) : wb W a k = false := cfU (List.all_eq_true.mp h a (List.elem_iff.mp ha))
theorem ccfU {W : ax_W} {l : List (Nat × Nat)} (h : ccf W l = true) {a k : Nat} (ha : l.contains (a, k) = true) : wb W a k = false := by
  have := List.all_eq_true.mp h (a, k) (List.elem_iff.mp ha)
  cases e : wb W a k with
  | false => rfl
  | true => dsimp only at this; rw [e] at this; cases this
section GSB
variable {M M1 : ax_M} {h n : Nat} {W : ax_W}
theorem hCells (hS : Sb W M M1) (hwh : hok W h) (i k : Nat) (h1 : i < 18) (h2 : i ≠ 14) (h3 : i ≠ 17) : M1 (h + i) k = M (h + i) k := hS _ _ (hwh i k h1 h2 h3)
theorem nREq (hS : Sb W M M1) (hwh : hok W h) : nR M1 h = nR M h ∧ nS M1 h = nS M h ∧ nQ M1 h = nQ M h ∧ nC M1 h = nC M h := by
  have e0 : ∀ k, M1 h k = M h k := fun k => hCells hS hwh 0 k (by decide) (by decide) (by decide)
  unfold nR nS nQ nC
  rw [e0, e0, e0, e0]; exact ⟨rfl, rfl, rfl, rfl⟩
theorem HW.sbb (hW : HW M h) (hS : Sb W M M1) (hwh : hok W h) : HW M1 h := by
  have e0 : ∀ k, M1 h k = M h k := fun k => hCells hS hwh 0 k (by decide) (by decide) (by decide)
  have e4 : ∀ k, M1 (h + 4) k = M (h + 4) k := fun k => hCells hS hwh 4 k (by decide) (by decide) (by decide)
  have e5 : ∀ k, M1 (h + 5) k = M (h + 5) k := fun k => hCells hS hwh 5 k (by decide) (by decide) (by decide)
  have e6 : ∀ k, M1 (h + 6) k = M (h + 6) k := fun k => hCells hS hwh 6 k (by decide) (by decide) (by decide)
  have e8 : ∀ k, M1 (h + 8) k = M (h + 8) k := fun k => hCells hS hwh 8 k (by decide) (by decide) (by decide)
  have e9 : ∀ k, M1 (h + 9) k = M (h + 9) k := fun k => hCells hS hwh 9 k (by decide) (by decide) (by decide)
  have e10 : ∀ k, M1 (h + 10) k = M (h + 10) k := fun k => hCells hS hwh 10 k (by decide) (by decide) (by decide)
  have e11 : ∀ k, M1 (h + 11) k = M (h + 11) k := fun k => hCells hS hwh 11 k (by decide) (by decide) (by decide)
  unfold HW nR nS nQ nC sa sb ch ckq cp at *
  simp only [e0, e4, e5, e6, e8, e9, e10, e11]
  exact hW
theorem SW.sb (hW : SW M) (hS : Sb W M M1) (hs : sok W) : SW M1 := by
  have e5 : ∀ k, M1 45 k = M 45 k := fun k => hS _ _ (hs k).1
  have e6 : ∀ k, M1 46 k = M 46 k := fun k => hS _ _ (hs k).2.1
  have e7 : ∀ k, M1 47 k = M 47 k := fun k => hS _ _ (hs k).2.2.1
  have e8 : ∀ k, M1 48 k = M 48 k := fun k => hS _ _ (hs k).2.2.2
  unfold SW at *
  simp only [e5, e6, e7, e8]
  exact hW
theorem PW.sb (hP : PW M h) (hS : Sb W M M1) (hwh : hok W h) (hwr : rok W) : PW M1 h := by
  have e2 : ∀ k, M1 182 k = M 182 k := fun k => hS _ _ (hwr _ k (by decide) (by decide))
  have e3 : ∀ k, M1 183 k = M 183 k := fun k => hS _ _ (hwr _ k (by decide) (by decide))
  have e4 : ∀ k, M1 184 k = M 184 k := fun k => hS _ _ (hwr _ k (by decide) (by decide))
  have e12 : ∀ k, M1 (h + 12) k = M (h + 12) k := fun k => hCells hS hwh 12 k (by decide) (by decide) (by decide)
  have e13 : ∀ k, M1 (h + 13) k = M (h + 13) k := fun k => hCells hS hwh 13 k (by decide) (by decide) (by decide)
  have e15 : ∀ k, M1 (h + 15) k = M (h + 15) k := fun k => hCells hS hwh 15 k (by decide) (by decide) (by decide)
  have e16 : ∀ k, M1 (h + 16) k = M (h + 16) k := fun k => hCells hS hwh 16 k (by decide) (by decide) (by decide)
  unfold PW tf tn tc df dn dc tf df at *
  simp only [e2, e3, e4, e12, e15, e16]
  refine ⟨?_, ?_⟩
  · rcases hP.1 with z | ⟨z1, z2, z3, z4, z5⟩
    · exact Or.inl z
    · exact Or.inr ⟨z1, z2, z3, z4.of (e12 1) (fun k => e13 k), z5⟩
  · rcases hP.2 with z | ⟨z1, z2, z3, z4, z5⟩
    · exact Or.inl z
    · exact Or.inr ⟨z1, z2, z3, z4.of (e15 1) (fun k => e16 k), z5⟩
theorem RV.self (hV : RV M h M1) (hH : HV M h M1) (e2 : ∀ k, M1 182 k = M 182 k) (e3 : ∀ k, M1 183 k = M 183 k) (e4 : ∀ k, M1 184 k = M 184 k) : RV M1 h M1 := by
  have e0 : ∀ k, M1 h k = M h k := fun k => hH.1 0 k (by decide) (by decide) (by decide)
  have e4' : ∀ k, M1 (h + 4) k = M (h + 4) k := fun k => hH.1 4 k (by decide) (by decide) (by decide)
  have e5 : ∀ k, M1 (h + 5) k = M (h + 5) k := fun k => hH.1 5 k (by decide) (by decide) (by decide)
  have e6 : ∀ k, M1 (h + 6) k = M (h + 6) k := fun k => hH.1 6 k (by decide) (by decide) (by decide)
  have e8 : ∀ k, M1 (h + 8) k = M (h + 8) k := fun k => hH.1 8 k (by decide) (by decide) (by decide)
  have e9 : ∀ k, M1 (h + 9) k = M (h + 9) k := fun k => hH.1 9 k (by decide) (by decide) (by decide)
  have e10 : ∀ k, M1 (h + 10) k = M (h + 10) k := fun k => hH.1 10 k (by decide) (by decide) (by decide)
  have e11 : ∀ k, M1 (h + 11) k = M (h + 11) k := fun k => hH.1 11 k (by decide) (by decide) (by decide)
  have s5 : ∀ k, M1 45 k = M 45 k := fun k => (hH.2 k).1
  have s6 : ∀ k, M1 46 k = M 46 k := fun k => (hH.2 k).2.1
  have s7 : ∀ k, M1 47 k = M 47 k := fun k => (hH.2 k).2.2.1
  have s8 : ∀ k, M1 48 k = M 48 k := fun k => (hH.2 k).2.2.2
  obtain ⟨h1, h2, h3, h4, h5, h6⟩ := hV
  have n1 : nS M1 h = nS M h := by unfold nS; rw [e0]
  have n2 : nC M1 h = nC M h := by unfold nC; rw [e0]
  refine ⟨?_, ?_, ?_, ?_, ?_, ⟨rfl, rfl, rfl, rfl, fun _ _ => rfl⟩⟩
  · rw [e0, e0, e0, e0]; exact h1
  · intro s hs; rw [n1] at hs; rw [e4', e5, e6]; exact h2 s hs
  · intro s hs; rw [n2] at hs; rw [e8, e9, e10, e11]; exact h3 s hs
  · rw [e0, e0, e0]; exact h4
  · rw [s5]
    refine ⟨h5.1, fun q hq => ?_, fun q hq => ?_, fun a b hab hb => ?_⟩
    · rw [s6]; exact h5.2.1 q hq
    · rw [s7]; exact h5.2.2.1 q hq
    · rw [s8]; exact h5.2.2.2 a b hab hb
theorem RV.sbs (hV : RV M h M) (hS : Sb W M M1) (hwh : hok W h) (hs : sok W) (hwr : rok W) : RV M1 h M1 := (hV.sb hS hwr).self (HV.refl.sb hS hwh hs) (fun k => hS _ _ (hwr _ k (by decide) (by decide))) (fun k => hS _ _ (hwr _ k (by decide) (by decide))) (fun k => hS _ _ (hwr _ k (by decide) (by decide)))
theorem GT.sb (hG : GT M) (hS : Sb W M M1) (h1 : ccs W kT = true) (h2 : ccf W kTf = true) : GT M1 := by
  unfold GT at *
  rw [hS 1 1 (ccfU h2 rfl), hS 142 1 (ccfU h2 rfl), hS 142 7 (ccfU h2 rfl), hS 142 8 (ccfU h2 rfl), hS 1 8 (ccfU h2 rfl), hS 1 9 (ccfU h2 rfl)]
  refine ⟨hG.1, fun i hi => ?_, hG.2.2⟩
  rw [hS 2 i (ccsU h1 rfl i), hS 143 i (ccsU h1 rfl i)]
  exact hG.2.1 i hi
theorem GN.sb (hG : GN n M) (hS : Sb W M M1) (h1 : ccs W kN = true) : GN n M1 := by
  intro k hk
  rw [hS 140 k (ccsU h1 rfl k), hS 144 k (ccsU h1 rfl k)]
  exact hG k hk
theorem GN.up {m : Nat} (hG : GN n M) (hm : n ≤ m) : GN m M := fun k hk => by
  have := hG k hk
  refine ⟨this.1, this.2.1, by omega⟩
theorem GM.sb (hG : GM h M) (hS : Sb W M M1) (hwh : hok W h) (h1 : cf W 177 = true) : GM h M1 := by
  obtain ⟨n1, n2, n3, n4⟩ := nREq hS hwh
  unfold GM at *
  rw [n1, n3, n4]
  refine ⟨fun k hk => ?_, fun k hk => ?_, fun k hk => ?_⟩
  · rw [hS 177 _ (cfU h1), hCells hS hwh 1 k (by decide) (by decide) (by decide)]; exact hG.1 k hk
  · rw [hS 177 _ (cfU h1), hCells hS hwh 2 k (by decide) (by decide) (by decide)]; exact hG.2.1 k hk
  · rw [hS 177 _ (cfU h1), hCells hS hwh 3 k (by decide) (by decide) (by decide)]; exact hG.2.2 k hk
def kHf : List (Nat × Nat) := [(49, 1), (49, 2), (142, 82), (142, 83)]
def kH (W : ax_W) : Bool := ccf W kHf && cf W 203 && (W.1.all (fun e => Nat.ble e.2 51 || Nat.ble 71 e.1) && W.2.all (fun e => Nat.ble (e.1 + 1) 51 || Nat.ble 71 e.1))
theorem GH.sb (hG : GH h M) (hS : Sb W M M1) (hwh : hok W h) (h1 : kH W = true) : GH h M1 := by
  unfold kH at h1
  rw [Bool.and_eq_true, Bool.and_eq_true] at h1
  obtain ⟨⟨h2, h3⟩, h4⟩ := h1
  obtain ⟨n1, n2, n3, n4⟩ := nREq hS hwh
  have e1 := hS 49 1 (ccfU h2 rfl)
  have e2 := hS 49 2 (ccfU h2 rfl)
  have e3 : ∀ r, r < 20 → M1 (51 + r) = M (51 + r) := fun r hr => funext fun k => hS _ _ (wbo 51 71 h4 (by omega) (by omega))
  have e4 : M1 203 = M 203 := funext fun k => hS _ _ (cfU h3)
  have r1 : hR M1 = hR M := by unfold hR; rw [e1]
  have r2 : hN M1 = hN M := by unfold hN; rw [e2]
  unfold GH at *
  rw [r1, r2, e1, e2, n2, hS 142 82 (ccfU h2 rfl), hS 142 83 (ccfU h2 rfl), e4]
  refine ⟨hG.1, hG.2.1, fun r hr => ?_, fun j hj s hs1 hs2 => ?_⟩
  · rw [e3 r hr]; exact hG.2.2.1 r hr
  · rw [e3 _ (Nat.mod_lt _ (by decide))]; exact hG.2.2.2 j hj s hs1 hs2
def kS : List Nat := [123, 124, 200]
def kSf : List (Nat × Nat) := [(122, 0), (142, 76)]
theorem GS.sb (hG : GS h M) (hS : Sb W M M1) (hwh : hok W h) (h1 : ccs W kS = true) (h2 : ccf W kSf = true) : GS h M1 := by
  obtain ⟨n1, n2, n3, n4⟩ := nREq hS hwh
  have e1 := hS 122 0 (ccfU h2 rfl)
  have r1 : sN M1 = sN M := by unfold sN; rw [e1]
  unfold GS at *
  rw [r1, e1, n4, hS 142 76 (ccfU h2 rfl)]
  refine ⟨hG.1, fun k hk => ?_⟩
  rw [hS 123 k (ccsU h1 rfl k), hS 124 k (ccsU h1 rfl k), hS 200 _ (ccsU h1 rfl _), hS 200 _ (ccsU h1 rfl _)]
  exact hG.2 k hk
def kX : List Nat := [47, 139, 231]
def kXf : List (Nat × Nat) := [(0, 3), (0, 4), (0, 14), (0, 16), (142, 69), (142, 70), (142, 84), (142, 120)]
theorem GX.sb (hG : GX h M) (hS : Sb W M M1) (hwh : hok W h) (h1 : ccs W kX = true) (h2 : ccf W kXf = true) : GX h M1 := by
  obtain ⟨n1, n2, n3, n4⟩ := nREq hS hwh
  unfold GX at *
  rw [hS 0 3 (ccfU h2 rfl), hS 0 4 (ccfU h2 rfl), hS 0 14 (ccfU h2 rfl), hS 0 16 (ccfU h2 rfl), hS 142 69 (ccfU h2 rfl), hS 142 70 (ccfU h2 rfl), hS 142 84 (ccfU h2 rfl), hS 142 120 (ccfU h2 rfl), n2]
  refine ⟨hG.1, hG.2.1, hG.2.2.1, fun s hs1 hs2 => ?_, hG.2.2.2.2.1, fun k hk hk2 => ?_⟩
  · rw [hS 47 s (ccsU h1 rfl s)]; exact hG.2.2.2.1 s hs1 hs2
  · rw [hS 139 k (ccsU h1 rfl k), hS 231 k (ccsU h1 rfl k)]; exact hG.2.2.2.2.2 k hk hk2
def gok (W : ax_W) : Bool := hokb W && ccs W [45, 46, 47, 48, 176, 177, 178, 179, 180, 181, 182, 183, 184, 185] && ccs W kT && ccf W kTf && ccs W kN && kH W && ccs W kS && ccf W kSf && ccs W kX && ccf W kXf
def sokb (W : ax_W) : Bool := ccs W [45, 46, 47, 48]
def rokb (W : ax_W) : Bool := ccs W [176, 177, 178, 179, 180, 181, 182, 183, 184, 185]
theorem sokB (h : sokb W = true) : sok W := fun k => ⟨ccsU h rfl k, ccsU h rfl k, ccsU h rfl k, ccsU h rfl k⟩
theorem rokB (h : rokb W = true) : rok W := by
  intro a k h1 h2
  have : a = 176 ∨ a = 177 ∨ a = 178 ∨ a = 179 ∨ a = 180 ∨ a = 181 ∨ a = 182 ∨ a = 183 ∨ a = 184 ∨ a = 185 := by omega
  rcases this with rfl | rfl | rfl | rfl | rfl | rfl | rfl | rfl | rfl | rfl <;> exact ccsU h rfl k
theorem GG.sb (hG : GG n h M) (hh : h = 9 ∨ h = 27) (hS : Sb W M M1) (h1 : gok W = true) : GG n h M1 := by
  unfold gok at h1
  simp only [Bool.and_eq_true] at h1
  obtain ⟨⟨⟨⟨⟨⟨⟨⟨⟨k1, k2⟩, k3⟩, k4⟩, k5⟩, k6⟩, k7⟩, k8⟩, k9⟩, k10⟩ := h1
  have hwh : hok W h := hokB k1 hh
  have hso : sok W := fun k => ⟨ccsU k2 rfl k, ccsU k2 rfl k, ccsU k2 rfl k, ccsU k2 rfl k⟩
  have hwr : rok W := by
    intro a k h1 h2
    have : a = 176 ∨ a = 177 ∨ a = 178 ∨ a = 179 ∨ a = 180 ∨ a = 181 ∨ a = 182 ∨ a = 183 ∨ a = 184 ∨ a = 185 := by omega
    rcases this with rfl | rfl | rfl | rfl | rfl | rfl | rfl | rfl | rfl | rfl <;> exact ccsU k2 rfl k
  obtain ⟨g1, g2, g3, g4, g5, g6, g7, g8, g9, g10⟩ := hG
  exact ⟨g1.sbb hS hwh, g2.sb hS hso, g3.sb hS hwh hwr, g4.sbs hS hwh hso hwr, g5.sb hS k3 k4, g6.sb hS k5, g7.sb hS hwh (List.all_eq_true.mp k2 177 (List.elem_iff.mp rfl)), g8.sb hS hwh k6, g9.sb hS hwh k7 k8, g10.sb hS hwh k9 k10⟩
theorem GG.up {m : Nat} (hG : GG n h M) (hm : n ≤ m) : GG m h M := ⟨hG.1, hG.2.1, hG.2.2.1, hG.2.2.2.1, hG.2.2.2.2.1, hG.2.2.2.2.2.1.up hm, hG.2.2.2.2.2.2⟩
end GSB
