def W136 : ax_W := ([(46, 49), (140, 141)], [(1, 1), (45, 0), (49, 2)])
def X299 : ax_W := ([(144, 145), (185, 186)], [(142, 1), (142, 82)])
def WXO : ax_W := ([(46, 49), (140, 141), (144, 145), (185, 186)], [(1, 1), (45, 0), (49, 2), (142, 1), (142, 82)])
def lst (V : ax_M) (h : Nat) : Nat := 2 + nQ V h + nS V h + 2 * cntP (nC V h) (nC V h)
def pa (V : ax_M) (h : Nat) : Nat := 2 + nQ V h + nS V h
def bB (f : Nat → Int) : Prop := ∀ i, i < 1600 → 0 ≤ f i ∧ f i ≤ 255
def isIm (V : ax_M) (h : Nat) (f : Nat → Int) (len : Int) : Prop := len = ((lst V h + 1 : Nat) : Int) ∧ f (lst V h) = (chk f (lst V h) : Int) ∧ 256 * f 0 + f 1 ≤ 999 ∧ (∀ i, 2 ≤ i → i < 2 + nQ V h → f i ≤ 20) ∧ (∀ i, 2 + nQ V h ≤ i → i < pa V h → f i ≤ 1) ∧ ∀ j, j < cntP (nC V h) (nC V h) → 256 * f (pa V h + 2 * j) + f (pa V h + 2 * j + 1) ≤ 9999
section ONN
variable {L : Nat} {X : Nat → Int} {M V : ax_M} {h n : Nat}
theorem lst_b (hW : HW V h) : lst V h ≤ 73 ∧ lst V h = pa V h + 2 * cntP (nC V h) (nC V h) ∧ pa V h = 2 + nQ V h + nS V h ∧ cntP (nC V h) (nC V h) ≤ 28 := by
  have h2 := hW.1.2.1.2; have h3 := hW.1.2.2.1.2; have h4 := hW.1.2.2.2.2
  have := cntP_c (nC V h) (by omega)
  unfold lst pa; omega
theorem ecC (hW : HW V h) : (nC V h : Int) * ((nC V h : Int) - 1) = ((2 * cntP (nC V h) (nC V h) : Nat) : Int) := by
  have h4 := hW.1.2.2.2.2
  rw [(cntP_c (nC V h) (by omega)).1]
  generalize nC V h = c
  cases c with
  | zero => rfl
  | succ q => rw [Int.natCast_mul, Nat.add_sub_cancel, Int.natCast_add]; congr 1; simp
theorem m73 (hF : Fix M) (hh : h = 9 ∨ h = 27) (hV : HV V h M) (hW : HW V h) : ax_Ev L X SH 0 73 [(2, (h : Int))] M (R1 0 (fun x M' => x = ((lst V h + 1 : Nat) : Int) ∧ M' = M)) := by
  show ax_G L X SH 0 73 0 [(2, (h : Int))] [] M _
  have hC := at73
  have hw := wX0
  have hwh : hok X0 h := hokB (by decide +kernel) hh
  have hS : Sb X0 M M := Sb.refl
  have hl := lst_b hW
  have h2 := hW.1.2.1.2; have h3 := hW.1.2.2.1.2; have h4 := hW.1.2.2.2.2
  have ec := ecC hW
  refine g0 hC rfl ?_
  refine g3 hC rfl rfl ?_
  refine g19 hC rfl (shH hh) (Nat.le_of_ble_eq_true rfl) rfl (rd2 hS hwh hV hW) ?_
  refine g6a hC rfl ⟨by omega, by omega⟩ ?_
  refine g3 hC rfl rfl ?_
  refine g19 hC rfl (shH hh) (Nat.le_of_ble_eq_true rfl) rfl (rd1 hS hwh hV hW) ?_
  refine g6a hC rfl ⟨by omega, by omega⟩ ?_
  refine g3 hC rfl rfl ?_
  refine g19 hC rfl (shH hh) (Nat.le_of_ble_eq_true rfl) rfl (rd3 hS hwh hV hW) ?_
  refine g3 hC rfl rfl ?_
  refine g19 hC rfl (shH hh) (Nat.le_of_ble_eq_true rfl) rfl (rd3 hS hwh hV hW) ?_
  refine g0 hC rfl ?_
  refine g6s hC rfl ⟨by omega, by omega⟩ ?_
  refine g6m hC rfl (by rw [ec]; exact ⟨by omega, by omega⟩) ?_
  rw [ec]
  refine g6a hC rfl ⟨by omega, by omega⟩ ?_
  refine g0 hC rfl ?_
  refine g6a hC rfl ⟨by omega, by omega⟩ ?_
  refine ret1 hC rfl rfl ?_
  exact ⟨by omega, rfl⟩
theorem m76 (hF : Fix M) (hh : h = 9 ∨ h = 27) (hV : HV V h M) (hW : HW V h) (hB : bB (M 2)) : ax_Ev L X SH 1 76 [(2, (h : Int)), (2, 1)] M (R1 0 (fun x M' => ((x = 1 ∧ isIm V h (M 2) (M 1 1)) ∨ (x = 0 ∧ ¬ isIm V h (M 2) (M 1 1))) ∧ M' = M)) := by
  show ax_G L X SH 1 76 0 [(2, (h : Int)), (2, 1), (3, 0), (3, 0), (3, 0), (3, 0), (3, 0), (3, 0)] [] M _
  obtain ⟨P, hP⟩ : ∃ P, P = fun (x : Int) M' => ((x = 1 ∧ isIm V h (M 2) (M 1 1)) ∨ (x = 0 ∧ ¬ isIm V h (M 2) (M 1 1))) ∧ M' = M := ⟨_, rfl⟩
  rw [← hP]
  have hC := at76
  have hw := wX0
  have hwh : hok X0 h := hokB (by decide +kernel) hh
  have hS : Sb X0 M M := Sb.refl
  have h2 := hW.1.2.1.2; have h3 := hW.1.2.2.1.2; have h4 := hW.1.2.2.2.2
  obtain ⟨q1, q2, q3, q4⟩ := lst_b hW
  have b0 := hB 0 (by decide)
  have b1 := hB 1 (by decide)
  have l3 : M 1 1 = ((lst V h + 1 : Nat) : Int) → M 2 (lst V h) = (chk (M 2) (lst V h) : Int) → ∀ (m j : Nat), j + m = cntP (nC V h) (nC V h) → ∀ ll M1, (∃ r : Int, ll = [(2, (h : Int)), (2, 1), (0, (lst V h : Int)), (2, 2), (0, r), (0, ((2 + nQ V h : Nat) : Int)), (0, (pa V h : Int)), (0, ((pa V h + 2 * j : Nat) : Int))] ∧ M1 = M ∧ ((r = 1 ∧ (256 * M 2 0 + M 2 1 ≤ 999 ∧ (∀ i, 2 ≤ i → i < 2 + nQ V h → M 2 i ≤ 20) ∧ (∀ i, 2 + nQ V h ≤ i → i < pa V h → M 2 i ≤ 1) ∧ ∀ j', j' < j → 256 * M 2 (pa V h + 2 * j') + M 2 (pa V h + 2 * j' + 1) ≤ 9999)) ∨ (r = 0 ∧ ¬ (256 * M 2 0 + M 2 1 ≤ 999 ∧ (∀ i, 2 ≤ i → i < 2 + nQ V h → M 2 i ≤ 20) ∧ (∀ i, 2 + nQ V h ≤ i → i < pa V h → M 2 i ≤ 1) ∧ ∀ j', j' < j → 256 * M 2 (pa V h + 2 * j') + M 2 (pa V h + 2 * j' + 1) ≤ 9999)))) → ax_G L X SH 1 76 86 ll [] M1 (R1 0 P) := by
    intro e1 e2
    refine lp ?_ ?_
    · rintro ll M1 ⟨r, rfl, rfl, hr⟩
      have hrb : 0 ≤ r ∧ r < 2 := by rcases hr with z | z <;> omega
      refine g3 hC rfl rfl ?_
      refine g0 hC rfl ?_
      refine g6a hC rfl ⟨by omega, by omega⟩ ?_
      refine g3 hC rfl rfl ?_
      refine g13g hC rfl (fun h90 => ?_) (fun h90 => (by omega))
      refine g3 hC rfl rfl ?_
      refine ret3 hC rfl hrb ?_
      rw [hP]
      refine ⟨?_, rfl⟩
      rcases hr with z | z
      · exact Or.inl ⟨z.1, e1, e2, z.2⟩
      · exact Or.inr ⟨z.1, fun w => z.2 w.2.2⟩
    · rintro j hj ll M1 ⟨r, rfl, rfl, hr⟩ hnext
      have c1 := hB (pa V h + 2 * j) (by omega)
      have c2 := hB (pa V h + 2 * j + 1) (by omega)
      have ej : ((pa V h + 2 * j : Nat) : Int) + 2 = ((pa V h + 2 * (j + 1) : Nat) : Int) := by omega
      have er0 : ¬ (256 * M1 2 0 + M1 2 1 ≤ 999 ∧ (∀ i, 2 ≤ i → i < 2 + nQ V h → M1 2 i ≤ 20) ∧ (∀ i, 2 + nQ V h ≤ i → i < pa V h → M1 2 i ≤ 1) ∧ ∀ j', j' < j → 256 * M1 2 (pa V h + 2 * j') + M1 2 (pa V h + 2 * j' + 1) ≤ 9999) ∨ ¬ 256 * M1 2 (pa V h + 2 * j) + M1 2 (pa V h + 2 * j + 1) ≤ 9999 → ¬ (256 * M1 2 0 + M1 2 1 ≤ 999 ∧ (∀ i, 2 ≤ i → i < 2 + nQ V h → M1 2 i ≤ 20) ∧ (∀ i, 2 + nQ V h ≤ i → i < pa V h → M1 2 i ≤ 1) ∧ ∀ j', j' < j + 1 → 256 * M1 2 (pa V h + 2 * j') + M1 2 (pa V h + 2 * j' + 1) ≤ 9999) := by
        rintro (z | z) w
        · exact z ⟨w.1, w.2.1, w.2.2.1, fun j' hj' => w.2.2.2 j' (by omega)⟩
        · exact z (w.2.2.2 j (by omega))
      refine g3 hC rfl rfl ?_
      refine g0 hC rfl ?_
      refine g6a hC rfl ⟨by omega, by omega⟩ ?_
      refine g3 hC rfl rfl ?_
      refine g13g hC rfl (fun h90 => (by omega)) (fun h90 => ?_)
      refine g3 hC rfl rfl ?_
      refine g12e hC rfl (fun h92 => ?_) (fun h92 => ?_)
      ·
        refine g0 hC rfl ?_
        refine s4 hC rfl rfl rfl ?_
        refine n7 hC rfl rfl ⟨by omega, by omega⟩ ?_
        refine g14 hC rfl ?_
        refine hnext _ _ ⟨0, by rw [ej], rfl, Or.inr ⟨rfl, er0 (Or.inl ?_)⟩⟩
        rcases hr with z | z
        · omega
        · exact z.2
      ·
        refine g0 hC rfl ?_
        refine g3 hC rfl rfl ?_
        refine g3 hC rfl rfl ?_
        refine r21 ((pa V h+2*j)) hC rfl (by omega) rfl (Or.inl rfl) (by omega) (hS 2 ((pa V h+2*j)) rfl) ?_
        refine g6m hC rfl ⟨by omega, by omega⟩ ?_
        refine g3 hC rfl rfl ?_
        refine g3 hC rfl rfl ?_
        refine g0 hC rfl ?_
        refine g6a hC rfl ⟨by omega, by omega⟩ ?_
        refine r21 (((pa V h+2*j) + 1)) hC rfl (by omega) rfl (Or.inl rfl) (by omega) (hS 2 (((pa V h+2*j) + 1)) rfl) ?_
        refine g6a hC rfl ⟨by omega, by omega⟩ ?_
        refine g0 hC rfl ?_
        refine g13t hC rfl (fun h105 => ?_) (fun h105 => ?_)
        ·
          refine g0 hC rfl ?_
          refine s4 hC rfl rfl rfl ?_
          refine n7 hC rfl rfl ⟨by omega, by omega⟩ ?_
          refine g14 hC rfl ?_
          exact hnext _ _ ⟨0, by rw [ej], rfl, Or.inr ⟨rfl, er0 (Or.inr (by omega))⟩⟩
        ·
          refine g0 hC rfl ?_
          refine g14 hC rfl ?_
          refine s4 hC rfl rfl rfl ?_
          refine n7 hC rfl rfl ⟨by omega, by omega⟩ ?_
          refine g14 hC rfl ?_
          refine hnext _ _ ⟨1, by rw [ej], rfl, Or.inl ⟨rfl, ?_⟩⟩
          rcases hr with z | z
          · refine ⟨z.2.1, z.2.2.1, z.2.2.2.1, fun j' hj' => ?_⟩
            by_cases w : j' = j
            · rw [w]; omega
            · exact z.2.2.2.2 j' (by omega)
          · omega
  have l2 : M 1 1 = ((lst V h + 1 : Nat) : Int) → M 2 (lst V h) = (chk (M 2) (lst V h) : Int) → ∀ (m j : Nat), j + m = nS V h → ∀ ll M1, (∃ r : Int, ll = [(2, (h : Int)), (2, 1), (0, (lst V h : Int)), (2, 2), (0, r), (0, ((2 + nQ V h : Nat) : Int)), (0, (pa V h : Int)), (0, ((2 + nQ V h + j : Nat) : Int))] ∧ M1 = M ∧ ((r = 1 ∧ (256 * M 2 0 + M 2 1 ≤ 999 ∧ (∀ i, 2 ≤ i → i < 2 + nQ V h → M 2 i ≤ 20) ∧ (∀ i, 2 + nQ V h ≤ i → i < 2 + nQ V h + j → M 2 i ≤ 1))) ∨ (r = 0 ∧ ¬ (256 * M 2 0 + M 2 1 ≤ 999 ∧ (∀ i, 2 ≤ i → i < 2 + nQ V h → M 2 i ≤ 20) ∧ (∀ i, 2 + nQ V h ≤ i → i < 2 + nQ V h + j → M 2 i ≤ 1))))) → ax_G L X SH 1 76 68 ll [] M1 (R1 0 P) := by
    intro e1 e2
    refine lp ?_ ?_
    · rintro ll M1 ⟨r, rfl, rfl, hr⟩
      refine g3 hC rfl rfl ?_
      refine g3 hC rfl rfl ?_
      refine g13g hC rfl (fun h70 => ?_) (fun h70 => (by omega))
      refine g3 hC rfl rfl ?_
      refine s7 hC rfl rfl rfl ?_
      refine l3 e1 e2 (cntP (nC V h) (nC V h)) 0 (Nat.zero_add _) _ _ ⟨r, rfl, rfl, ?_⟩
      rcases hr with z | z
      · exact Or.inl ⟨z.1, z.2.1, z.2.2.1, z.2.2.2, fun j' hj' => absurd hj' (Nat.not_lt_zero _)⟩
      · exact Or.inr ⟨z.1, fun w => z.2 ⟨w.1, w.2.1, w.2.2.1⟩⟩
    · rintro j hj ll M1 ⟨r, rfl, rfl, hr⟩ hnext
      have c1 := hB (2 + nQ V h + j) (by omega)
      have er0 : ¬ (256 * M1 2 0 + M1 2 1 ≤ 999 ∧ (∀ i, 2 ≤ i → i < 2 + nQ V h → M1 2 i ≤ 20) ∧ (∀ i, 2 + nQ V h ≤ i → i < 2 + nQ V h + j → M1 2 i ≤ 1)) ∨ ¬ M1 2 (2 + nQ V h + j) ≤ 1 → ¬ (256 * M1 2 0 + M1 2 1 ≤ 999 ∧ (∀ i, 2 ≤ i → i < 2 + nQ V h → M1 2 i ≤ 20) ∧ (∀ i, 2 + nQ V h ≤ i → i < 2 + nQ V h + (j + 1) → M1 2 i ≤ 1)) := by
        rintro (z | z) w
        · exact z ⟨w.1, w.2.1, fun i h1 h2 => w.2.2 i h1 (by omega)⟩
        · exact z (w.2.2 _ (by omega) (by omega))
      refine g3 hC rfl rfl ?_
      refine g3 hC rfl rfl ?_
      refine g13g hC rfl (fun h70 => (by omega)) (fun h70 => ?_)
      refine g3 hC rfl rfl ?_
      refine g12e hC rfl (fun h72 => ?_) (fun h72 => ?_)
      ·
        refine g0 hC rfl ?_
        refine s4 hC rfl rfl rfl ?_
        refine n7 hC rfl rfl ⟨by omega, by omega⟩ ?_
        refine g14 hC rfl ?_
        refine hnext _ _ ⟨0, rfl, rfl, Or.inr ⟨rfl, er0 (Or.inl ?_)⟩⟩
        rcases hr with z | z
        · omega
        · exact z.2
      ·
        refine g3 hC rfl rfl ?_
        refine g3 hC rfl rfl ?_
        refine r21 ((2+nQ V h+j)) hC rfl (by omega) rfl (Or.inl rfl) (by omega) (hS 2 ((2+nQ V h+j)) rfl) ?_
        refine g0 hC rfl ?_
        refine g13t hC rfl (fun h77 => ?_) (fun h77 => ?_)
        ·
          refine g0 hC rfl ?_
          refine s4 hC rfl rfl rfl ?_
          refine n7 hC rfl rfl ⟨by omega, by omega⟩ ?_
          refine g14 hC rfl ?_
          exact hnext _ _ ⟨0, rfl, rfl, Or.inr ⟨rfl, er0 (Or.inr (by omega))⟩⟩
        ·
          refine g0 hC rfl ?_
          refine g14 hC rfl ?_
          refine s4 hC rfl rfl rfl ?_
          refine n7 hC rfl rfl ⟨by omega, by omega⟩ ?_
          refine g14 hC rfl ?_
          refine hnext _ _ ⟨1, rfl, rfl, Or.inl ⟨rfl, ?_⟩⟩
          rcases hr with z | z
          · refine ⟨z.2.1, z.2.2.1, fun i h1 h2 => ?_⟩
            by_cases w : i = 2 + nQ V h + j
            · rw [w]; omega
            · exact z.2.2.2 i h1 (by omega)
          · omega
  have l1 : M 1 1 = ((lst V h + 1 : Nat) : Int) → M 2 (lst V h) = (chk (M 2) (lst V h) : Int) → ∀ (m j : Nat), j + m = nQ V h → ∀ ll M1, (∃ r : Int, ll = [(2, (h : Int)), (2, 1), (0, (lst V h : Int)), (2, 2), (0, r), (0, ((2 + nQ V h : Nat) : Int)), (0, (pa V h : Int)), (0, ((2 + j : Nat) : Int))] ∧ M1 = M ∧ ((r = 1 ∧ (256 * M 2 0 + M 2 1 ≤ 999 ∧ (∀ i, 2 ≤ i → i < 2 + j → M 2 i ≤ 20))) ∨ (r = 0 ∧ ¬ (256 * M 2 0 + M 2 1 ≤ 999 ∧ (∀ i, 2 ≤ i → i < 2 + j → M 2 i ≤ 20))))) → ax_G L X SH 1 76 50 ll [] M1 (R1 0 P) := by
    intro e1 e2
    refine lp ?_ ?_
    · rintro ll M1 ⟨r, rfl, rfl, hr⟩
      refine g3 hC rfl rfl ?_
      refine g3 hC rfl rfl ?_
      refine g13g hC rfl (fun h52 => ?_) (fun h52 => (by omega))
      refine g3 hC rfl rfl ?_
      refine s7 hC rfl rfl rfl ?_
      refine l2 e1 e2 (nS V h) 0 (Nat.zero_add _) _ _ ⟨r, rfl, rfl, ?_⟩
      rcases hr with z | z
      · exact Or.inl ⟨z.1, z.2.1, z.2.2, fun i h1 h2 => by omega⟩
      · exact Or.inr ⟨z.1, fun w => z.2 ⟨w.1, w.2.1⟩⟩
    · rintro j hj ll M1 ⟨r, rfl, rfl, hr⟩ hnext
      have c1 := hB (2 + j) (by omega)
      have er0 : ¬ (256 * M1 2 0 + M1 2 1 ≤ 999 ∧ (∀ i, 2 ≤ i → i < 2 + j → M1 2 i ≤ 20)) ∨ ¬ M1 2 (2 + j) ≤ 20 → ¬ (256 * M1 2 0 + M1 2 1 ≤ 999 ∧ (∀ i, 2 ≤ i → i < 2 + (j + 1) → M1 2 i ≤ 20)) := by
        rintro (z | z) w
        · exact z ⟨w.1, fun i h1 h2 => w.2 i h1 (by omega)⟩
        · exact z (w.2 _ (by omega) (by omega))
      refine g3 hC rfl rfl ?_
      refine g3 hC rfl rfl ?_
      refine g13g hC rfl (fun h52 => (by omega)) (fun h52 => ?_)
      refine g3 hC rfl rfl ?_
      refine g12e hC rfl (fun h54 => ?_) (fun h54 => ?_)
      ·
        refine g0 hC rfl ?_
        refine s4 hC rfl rfl rfl ?_
        refine n7 hC rfl rfl ⟨by omega, by omega⟩ ?_
        refine g14 hC rfl ?_
        refine hnext _ _ ⟨0, rfl, rfl, Or.inr ⟨rfl, er0 (Or.inl ?_)⟩⟩
        rcases hr with z | z
        · omega
        · exact z.2
      ·
        refine g3 hC rfl rfl ?_
        refine g3 hC rfl rfl ?_
        refine r21 ((2+j)) hC rfl (by omega) rfl (Or.inl rfl) (by omega) (hS 2 ((2+j)) rfl) ?_
        refine g0 hC rfl ?_
        refine g13t hC rfl (fun h59 => ?_) (fun h59 => ?_)
        ·
          refine g0 hC rfl ?_
          refine s4 hC rfl rfl rfl ?_
          refine n7 hC rfl rfl ⟨by omega, by omega⟩ ?_
          refine g14 hC rfl ?_
          exact hnext _ _ ⟨0, rfl, rfl, Or.inr ⟨rfl, er0 (Or.inr (by omega))⟩⟩
        ·
          refine g0 hC rfl ?_
          refine g14 hC rfl ?_
          refine s4 hC rfl rfl rfl ?_
          refine n7 hC rfl rfl ⟨by omega, by omega⟩ ?_
          refine g14 hC rfl ?_
          refine hnext _ _ ⟨1, rfl, rfl, Or.inl ⟨rfl, ?_⟩⟩
          rcases hr with z | z
          · refine ⟨z.2.1, fun i h1 h2 => ?_⟩
            by_cases w : i = 2 + j
            · rw [w]; omega
            · exact z.2.2 i h1 (by omega)
          · omega
  have hck := chk_b (f := M 2) (lst V h)
  refine g3 hC rfl rfl ?_
  refine c1 hC rfl rfl rfl (Nat.le_of_ble_eq_true rfl) (Nat.le_of_ble_eq_true rfl) rfl (m73 hF hh hV hW) (Nat.le_of_ble_eq_true rfl) (fun x M2 hr => ?_)
  obtain ⟨rfl, hr⟩ := hr
  replace hr := hr.symm
  subst hr
  refine g0 hC rfl ?_
  refine g6s hC rfl ⟨by omega, by omega⟩ ?_
  rw [show ((lst V h + 1 : Nat) : Int) - 1 = (lst V h : Int) by omega]
  refine s2 hC rfl rfl rfl ?_
  refine g3 hC rfl rfl ?_
  refine g19 hC rfl rfl (Nat.le_of_ble_eq_true rfl) rfl ((hS.fix hw hF).g rfl) ?_
  refine s3 hC rfl rfl rfl ?_
  refine g3 hC rfl rfl ?_
  refine g19 hC rfl rfl (Nat.le_of_ble_eq_true rfl) rfl (hS 1 1 rfl) ?_
  refine g3 hC rfl rfl ?_
  refine g0 hC rfl ?_
  refine g6a hC rfl ⟨by omega, by omega⟩ ?_
  refine g13n hC rfl (fun h13 => ?_) (fun h13 => ?_)
  ·
    refine g0 hC rfl ?_
    refine ret3 hC rfl ⟨by omega, by omega⟩ ?_
    rw [hP]
    exact ⟨Or.inr ⟨rfl, fun w => h13 (by rw [w.1]; omega)⟩, rfl⟩
  ·
    refine g3 hC rfl rfl ?_
    refine g3 hC rfl rfl ?_
    refine r21 (lst V h) hC rfl rfl rfl (Or.inl rfl) (by omega) rfl ?_
    refine g3 hC rfl rfl ?_
    refine g3 hC rfl rfl ?_
    refine c1 hC rfl rfl rfl (Nat.le_of_ble_eq_true rfl) (Nat.le_of_ble_eq_true rfl) rfl (m74 (c := 2) (len := 1600) (n := lst V h) rfl (by omega) (by omega) (fun k hk => hB k (by omega))) (Nat.le_of_ble_eq_true rfl) (fun x M2 hr => ?_)
    obtain ⟨rfl, hr⟩ := hr; replace hr := hr.symm; subst hr
    refine g13e hC rfl (fun h20 => ?_) (fun h20 => ?_)
    ·
      refine g0 hC rfl ?_
      refine g3 hC rfl rfl ?_
      refine g0 hC rfl ?_
      refine r21 (0) hC rfl rfl rfl (Or.inl rfl) (by decide) rfl ?_
      refine g6m hC rfl ⟨by omega, by omega⟩ ?_
      refine g3 hC rfl rfl ?_
      refine g0 hC rfl ?_
      refine r21 (1) hC rfl rfl rfl (Or.inl rfl) (by decide) rfl ?_
      refine g6a hC rfl ⟨by omega, by omega⟩ ?_
      refine g0 hC rfl ?_
      refine g13t hC rfl (fun h33 => ?_) (fun h33 => ?_)
      ·
        refine g0 hC rfl ?_
        refine s4 hC rfl rfl rfl ?_
        refine g0 hC rfl ?_
        refine g3 hC rfl rfl ?_
        refine g19 hC rfl (shH hh) (Nat.le_of_ble_eq_true rfl) rfl (rd2 hS hwh hV hW) ?_
        refine g6a hC rfl ⟨by omega, by omega⟩ ?_
        refine s5 hC rfl rfl rfl ?_
        refine g3 hC rfl rfl ?_
        refine g3 hC rfl rfl ?_
        refine g19 hC rfl (shH hh) (Nat.le_of_ble_eq_true rfl) rfl (rd1 hS hwh hV hW) ?_
        refine g6a hC rfl ⟨by omega, by omega⟩ ?_
        refine s6 hC rfl rfl rfl ?_
        refine g0 hC rfl ?_
        refine s7 hC rfl rfl rfl ?_
        refine l1 (by omega) h20 (nQ V h) 0 (Nat.zero_add _) _ _ ⟨0, ?_, rfl, Or.inr ⟨rfl, fun w => by have := w.1; omega⟩⟩
        rw [show ((2 + nQ V h : Nat) : Int) = 2 + (nQ V h : Int) by omega, show ((pa V h : Nat) : Int) = 2 + (nQ V h : Int) + (nS V h : Int) by omega]; rfl
      ·
        refine g0 hC rfl ?_
        refine g14 hC rfl ?_
        refine s4 hC rfl rfl rfl ?_
        refine g0 hC rfl ?_
        refine g3 hC rfl rfl ?_
        refine g19 hC rfl (shH hh) (Nat.le_of_ble_eq_true rfl) rfl (rd2 hS hwh hV hW) ?_
        refine g6a hC rfl ⟨by omega, by omega⟩ ?_
        refine s5 hC rfl rfl rfl ?_
        refine g3 hC rfl rfl ?_
        refine g3 hC rfl rfl ?_
        refine g19 hC rfl (shH hh) (Nat.le_of_ble_eq_true rfl) rfl (rd1 hS hwh hV hW) ?_
        refine g6a hC rfl ⟨by omega, by omega⟩ ?_
        refine s6 hC rfl rfl rfl ?_
        refine g0 hC rfl ?_
        refine s7 hC rfl rfl rfl ?_
        refine l1 (by omega) h20 (nQ V h) 0 (Nat.zero_add _) _ _ ⟨1, ?_, rfl, Or.inl ⟨rfl, by omega, fun i h1 h2 => by omega⟩⟩
        rw [show ((2 + nQ V h : Nat) : Int) = 2 + (nQ V h : Int) by omega, show ((pa V h : Nat) : Int) = 2 + (nQ V h : Int) + (nS V h : Int) by omega]; rfl
    ·
      refine g0 hC rfl ?_
      refine ret3 hC rfl ⟨by omega, by omega⟩ ?_
      rw [hP]
      exact ⟨Or.inr ⟨rfl, fun w => h20 w.2.1⟩, rfl⟩
end ONN
