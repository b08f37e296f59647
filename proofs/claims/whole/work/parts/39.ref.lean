def pA (a b : Nat) : Nat := a * (15 - a) / 2 + b - a - 1
def pO (a b : Nat) : Nat := b * (b - 1) / 2 + a
def RV (V : ax_M) (h : Nat) (M : ax_M) : Prop :=
  (M 176 4 = V h 0 ∧ M 176 7 = V h 1 ∧ M 176 5 = V h 2 ∧ M 176 6 = V h 3) ∧
  (∀ s, s < nS V h → M 178 (30 + 3 * s) = V (h + 4) s ∧ M 178 (31 + 3 * s) = V (h + 5) s ∧ M 178 (32 + 3 * s) = V (h + 6) s) ∧
  (∀ c, c < nC V h → M 180 (32 + 4 * c) = V (h + 8) c ∧ M 180 (33 + 4 * c) = V (h + 9) c ∧ M 180 (34 + 4 * c) = V (h + 10) c ∧ M 180 (35 + 4 * c) = V (h + 11) c) ∧
  (M 181 3 = V h 17 ∧ M 181 4 = V h 18 ∧ M 181 5 = V h 19) ∧
  (M 185 0 = V 45 0 ∧ (∀ q, q < 5 → M 185 (1 + q) = V 46 q) ∧ (∀ s, s < 10 → M 185 (6 + s) = V 47 s) ∧ ∀ a b, a < b → b < 8 → M 185 (16 + pA a b) = V 48 (pO a b)) ∧
  (M 182 2 = V 182 2 ∧ M 182 3 = V 182 3 ∧ M 183 2 = V 183 2 ∧ M 183 3 = V 183 3 ∧ ∀ k, 1600 ≤ k → M 184 k = V 184 k)
def rok (W : ax_W) : Prop := ∀ a k, 176 ≤ a → a ≤ 185 → wb W a k = false
theorem rokI {W : ax_W} (h : (W.1.all (fun e => Nat.ble e.2 176 || Nat.ble 186 e.1) && W.2.all (fun e => Nat.ble (e.1 + 1) 176 || Nat.ble 186 e.1)) = true) : rok W := fun a k h1 h2 => wbo 176 186 h h1 (by omega)
section RM
variable {V M M1 : ax_M} {h : Nat} {W : ax_W}
theorem RV.sb (hV : RV V h M) (hS : Sb W M M1) (hwr : rok W) : RV V h M1 := by
  have e : ∀ a k, 176 ≤ a → a ≤ 185 → M1 a k = M a k := fun a k h1 h2 => hS a k (hwr a k h1 h2)
  obtain ⟨a1, a2, a3, a4, a5, a6⟩ := hV
  refine ⟨?_, fun s hs => ?_, fun c hc => ?_, ?_, ⟨?_, fun q hq => ?_, fun s hs => ?_, fun a b ha hb => ?_⟩, ?_, ?_, ?_, ?_, fun k hk => ?_⟩
  · rw [e 176 4 (by decide) (by decide), e 176 7 (by decide) (by decide), e 176 5 (by decide) (by decide), e 176 6 (by decide) (by decide)]; exact a1
  · rw [e 178 _ (by decide) (by decide), e 178 _ (by decide) (by decide), e 178 _ (by decide) (by decide)]; exact a2 s hs
  · rw [e 180 _ (by decide) (by decide), e 180 _ (by decide) (by decide), e 180 _ (by decide) (by decide), e 180 _ (by decide) (by decide)]; exact a3 c hc
  · rw [e 181 _ (by decide) (by decide), e 181 _ (by decide) (by decide), e 181 _ (by decide) (by decide)]; exact a4
  · rw [e 185 _ (by decide) (by decide)]; exact a5.1
  · rw [e 185 _ (by decide) (by decide)]; exact a5.2.1 q hq
  · rw [e 185 _ (by decide) (by decide)]; exact a5.2.2.1 s hs
  · rw [e 185 _ (by decide) (by decide)]; exact a5.2.2.2 a b ha hb
  · rw [e 182 _ (by decide) (by decide)]; exact a6.1
  · rw [e 182 _ (by decide) (by decide)]; exact a6.2.1
  · rw [e 183 _ (by decide) (by decide)]; exact a6.2.2.1
  · rw [e 183 _ (by decide) (by decide)]; exact a6.2.2.2.1
  · rw [e 184 _ (by decide) (by decide)]; exact a6.2.2.2.2 k hk
theorem rm4 (hS : Sb W M M1) (hwr : rok W) (hV : RV V h M) (hW : HW V h) : M1 176 4 = (nR V h : Int) := (hV.sb hS hwr).1.1.trans hW.1.1.1
theorem rm7 (hS : Sb W M M1) (hwr : rok W) (hV : RV V h M) (hW : HW V h) : M1 176 7 = (nS V h : Int) := (hV.sb hS hwr).1.2.1.trans hW.1.2.1.1
theorem rm5 (hS : Sb W M M1) (hwr : rok W) (hV : RV V h M) (hW : HW V h) : M1 176 5 = (nQ V h : Int) := (hV.sb hS hwr).1.2.2.1.trans hW.1.2.2.1.1
theorem rm6 (hS : Sb W M M1) (hwr : rok W) (hV : RV V h M) (hW : HW V h) : M1 176 6 = (nC V h : Int) := (hV.sb hS hwr).1.2.2.2.trans hW.1.2.2.2.1
theorem rmA (hS : Sb W M M1) (hwr : rok W) (hV : RV V h M) (hW : HW V h) {s : Nat} (hs : s < nS V h) : M1 178 (30 + 3 * s) = (sa V h s : Int) := ((hV.sb hS hwr).2.1 s hs).1.trans (hW.2.1 s hs).1.1
theorem rmB (hS : Sb W M M1) (hwr : rok W) (hV : RV V h M) (hW : HW V h) {s : Nat} (hs : s < nS V h) : M1 178 (31 + 3 * s) = (sb V h s : Int) := ((hV.sb hS hwr).2.1 s hs).2.1.trans (hW.2.1 s hs).2.1.1
theorem rmW (hS : Sb W M M1) (hwr : rok W) (hV : RV V h M) (hW : HW V h) {s : Nat} (hs : s < nS V h) : M1 178 (32 + 3 * s) = V (h + 6) s := ((hV.sb hS hwr).2.1 s hs).2.2
theorem rmH (hS : Sb W M M1) (hwr : rok W) (hV : RV V h M) (hW : HW V h) {c : Nat} (hc : c < nC V h) : M1 180 (32 + 4 * c) = (ch V h c : Int) := ((hV.sb hS hwr).2.2.1 c hc).1.trans (hW.2.2.2.1 c hc).1.1
theorem rmQ (hS : Sb W M M1) (hwr : rok W) (hV : RV V h M) (hW : HW V h) {c : Nat} (hc : c < nC V h) : M1 180 (33 + 4 * c) = (ckq V h c : Int) := ((hV.sb hS hwr).2.2.1 c hc).2.1.trans (hW.2.2.2.1 c hc).2.1.1
theorem rmP (hS : Sb W M M1) (hwr : rok W) (hV : RV V h M) (hW : HW V h) {c : Nat} (hc : c < nC V h) : M1 180 (34 + 4 * c) = (cp V h c : Int) := ((hV.sb hS hwr).2.2.1 c hc).2.2.1.trans (hW.2.2.2.1 c hc).2.2.1.1
theorem rmG (hS : Sb W M M1) (hwr : rok W) (hV : RV V h M) (hW : HW V h) {c : Nat} (hc : c < nC V h) : M1 180 (35 + 4 * c) = V (h + 11) c := ((hV.sb hS hwr).2.2.1 c hc).2.2.2
theorem rmhe (hS : Sb W M M1) (hwr : rok W) (hV : RV V h M) (hW : HW V h) : M1 181 3 = V h 17 := (hV.sb hS hwr).2.2.2.1.1
theorem rmsi (hS : Sb W M M1) (hwr : rok W) (hV : RV V h M) (hW : HW V h) : M1 181 4 = V h 18 := (hV.sb hS hwr).2.2.2.1.2.1
theorem rmsm (hS : Sb W M M1) (hwr : rok W) (hV : RV V h M) (hW : HW V h) : M1 181 5 = V h 19 := (hV.sb hS hwr).2.2.2.1.2.2
theorem rmdr (hS : Sb W M M1) (hwr : rok W) (hV : RV V h M) (hW : HW V h) : M1 185 0 = V 45 0 := (hV.sb hS hwr).2.2.2.2.1.1
theorem rmpo (hS : Sb W M M1) (hwr : rok W) (hV : RV V h M) (hW : HW V h) {q : Nat} (hq : q < 5) : M1 185 (1 + q) = V 46 q := (hV.sb hS hwr).2.2.2.2.1.2.1 q hq
theorem rmsh (hS : Sb W M M1) (hwr : rok W) (hV : RV V h M) (hW : HW V h) {s : Nat} (hs : s < 10) : M1 185 (6 + s) = V 47 s := (hV.sb hS hwr).2.2.2.2.1.2.2.1 s hs
end RM
def X0 : ax_W := ([], [])
def X198 : ax_W := ([(187, 188)], [])
def X196 : ax_W := ([(230, 231)], [(142, 53), (142, 116)])
def X204 : ax_W := ([(188, 192), (230, 231)], [(142, 53), (142, 56), (142, 57), (142, 116)])
def X206 : ax_W := ([(193, 194)], [])
def XD : ax_W := ([(187, 194), (230, 231)], [(142, 53), (142, 56), (142, 57), (142, 67), (142, 116)])
def XN : ax_W := ([(187, 195), (230, 231)], [(142, 53), (142, 56), (142, 57), (142, 67), (142, 116)])
section REF
variable {L : Nat} {X : Nat → Int} {M V : ax_M} {h : Nat}
theorem wX0 : wok X0 = true := by decide +kernel
theorem rX0 : rok X0 := rokI rfl
theorem m183 (hF : Fix M) (hV : RV V h M) (hW : HW V h) : ax_Ev L X SH 0 183 [(2, 142)] M (R1 0 (fun x M' => x = (nR V h : Int) ∧ M' = M)) := by
  show ax_G L X SH 0 183 0 [(2, 142)] [] M _
  have hC := at183
  have hw := wX0
  have hwr := rX0
  have hS : Sb X0 M M := Sb.refl
  refine g3 hC rfl rfl ?_
  refine g19 hC rfl sh142 (flt12 rfl) ft12_42 ((hS.fix hw hF).g fx_142_42) ?_
  refine g0 hC rfl ?_
  refine r21 (4) hC rfl (by omega) sh176 (Or.inl rfl) (by omega) (rm4 hS hwr hV hW) ?_
  refine ret1 hC rfl rfl ?_
  exact ⟨rfl, rfl⟩
theorem m184 (hF : Fix M) (hV : RV V h M) (hW : HW V h) : ax_Ev L X SH 0 184 [(2, 142)] M (R1 0 (fun x M' => x = (nS V h : Int) ∧ M' = M)) := by
  show ax_G L X SH 0 184 0 [(2, 142)] [] M _
  have hC := at184
  have hw := wX0
  have hwr := rX0
  have hS : Sb X0 M M := Sb.refl
  refine g3 hC rfl rfl ?_
  refine g19 hC rfl sh142 (flt12 rfl) ft12_42 ((hS.fix hw hF).g fx_142_42) ?_
  refine g0 hC rfl ?_
  refine r21 (7) hC rfl (by omega) sh176 (Or.inl rfl) (by omega) (rm7 hS hwr hV hW) ?_
  refine ret1 hC rfl rfl ?_
  exact ⟨rfl, rfl⟩
theorem m185 (hF : Fix M) (hV : RV V h M) (hW : HW V h) : ax_Ev L X SH 0 185 [(2, 142)] M (R1 0 (fun x M' => x = (nQ V h : Int) ∧ M' = M)) := by
  show ax_G L X SH 0 185 0 [(2, 142)] [] M _
  have hC := at185
  have hw := wX0
  have hwr := rX0
  have hS : Sb X0 M M := Sb.refl
  refine g3 hC rfl rfl ?_
  refine g19 hC rfl sh142 (flt12 rfl) ft12_42 ((hS.fix hw hF).g fx_142_42) ?_
  refine g0 hC rfl ?_
  refine r21 (5) hC rfl (by omega) sh176 (Or.inl rfl) (by omega) (rm5 hS hwr hV hW) ?_
  refine ret1 hC rfl rfl ?_
  exact ⟨rfl, rfl⟩
theorem m186 (hF : Fix M) (hV : RV V h M) (hW : HW V h) : ax_Ev L X SH 0 186 [(2, 142)] M (R1 0 (fun x M' => x = (nC V h : Int) ∧ M' = M)) := by
  show ax_G L X SH 0 186 0 [(2, 142)] [] M _
  have hC := at186
  have hw := wX0
  have hwr := rX0
  have hS : Sb X0 M M := Sb.refl
  refine g3 hC rfl rfl ?_
  refine g19 hC rfl sh142 (flt12 rfl) ft12_42 ((hS.fix hw hF).g fx_142_42) ?_
  refine g0 hC rfl ?_
  refine r21 (6) hC rfl (by omega) sh176 (Or.inl rfl) (by omega) (rm6 hS hwr hV hW) ?_
  refine ret1 hC rfl rfl ?_
  exact ⟨rfl, rfl⟩
theorem m187 (hF : Fix M) (hV : RV V h M) (hW : HW V h) {s : Int} : ax_Ev L X SH 1 187 [(2, 142), (0, s)] M (R1 0 (fun x M' => x = (if 0 ≤ s ∧ s < (nS V h : Int) then 1 else 0) ∧ M' = M)) := by
  show ax_G L X SH 1 187 0 [(2, 142), (0, s)] [] M _
  have hC := at187
  have hw := wX0
  have hwr := rX0
  have hS : Sb X0 M M := Sb.refl
  have hb := hW.1
  refine g3 hC rfl rfl ?_
  refine g9 hC rfl ?_
  refine g1 hC rfl ?_
  refine g3 hC rfl rfl ?_
  refine c1 hC rfl rfl rfl (Nat.le_of_ble_eq_true rfl) (Nat.le_of_ble_eq_true rfl) (mayR k184 rfl) (m184 (hS.fix hw hF) (hV.sb hS hwr) hW) (Nat.le_of_ble_eq_true rfl) (fun x M2 hr => ?_)
  obtain ⟨rfl, hr⟩ := hr
  replace hr := hr.symm
  subst hr
  refine g0 hC rfl ?_
  refine g6s hC rfl ⟨by omega, by omega⟩ ?_
  refine g9 hC rfl ?_
  refine c1 hC rfl rfl rfl (Nat.le_of_ble_eq_true rfl) (Nat.le_of_ble_eq_true rfl) (mayS k153 rfl) (m153) (Nat.le_of_ble_eq_true rfl) (fun x M2 hr => ?_)
  obtain ⟨rfl, hr⟩ := hr
  replace hr := hr.symm
  subst hr
  refine ret3 hC rfl ⟨by split <;> omega, by split <;> omega⟩ ?_
  exact ⟨by split <;> split <;> omega, rfl⟩
theorem m188 (hF : Fix M) (hV : RV V h M) (hW : HW V h) {s : Int} : ax_Ev L X SH 1 188 [(2, 142), (0, s)] M (R1 0 (fun x M' => x = (if 0 ≤ s ∧ s < (nQ V h : Int) then 1 else 0) ∧ M' = M)) := by
  show ax_G L X SH 1 188 0 [(2, 142), (0, s)] [] M _
  have hC := at188
  have hw := wX0
  have hwr := rX0
  have hS : Sb X0 M M := Sb.refl
  have hb := hW.1
  refine g3 hC rfl rfl ?_
  refine g9 hC rfl ?_
  refine g1 hC rfl ?_
  refine g3 hC rfl rfl ?_
  refine c1 hC rfl rfl rfl (Nat.le_of_ble_eq_true rfl) (Nat.le_of_ble_eq_true rfl) (mayR k185 rfl) (m185 (hS.fix hw hF) (hV.sb hS hwr) hW) (Nat.le_of_ble_eq_true rfl) (fun x M2 hr => ?_)
  obtain ⟨rfl, hr⟩ := hr
  replace hr := hr.symm
  subst hr
  refine g0 hC rfl ?_
  refine g6s hC rfl ⟨by omega, by omega⟩ ?_
  refine g9 hC rfl ?_
  refine c1 hC rfl rfl rfl (Nat.le_of_ble_eq_true rfl) (Nat.le_of_ble_eq_true rfl) (mayS k153 rfl) (m153) (Nat.le_of_ble_eq_true rfl) (fun x M2 hr => ?_)
  obtain ⟨rfl, hr⟩ := hr
  replace hr := hr.symm
  subst hr
  refine ret3 hC rfl ⟨by split <;> omega, by split <;> omega⟩ ?_
  exact ⟨by split <;> split <;> omega, rfl⟩
theorem m189 (hF : Fix M) (hV : RV V h M) (hW : HW V h) {s : Int} : ax_Ev L X SH 1 189 [(2, 142), (0, s)] M (R1 0 (fun x M' => x = (if 0 ≤ s ∧ s < (nC V h : Int) then 1 else 0) ∧ M' = M)) := by
  show ax_G L X SH 1 189 0 [(2, 142), (0, s)] [] M _
  have hC := at189
  have hw := wX0
  have hwr := rX0
  have hS : Sb X0 M M := Sb.refl
  have hb := hW.1
  refine g3 hC rfl rfl ?_
  refine g9 hC rfl ?_
  refine g1 hC rfl ?_
  refine g3 hC rfl rfl ?_
  refine c1 hC rfl rfl rfl (Nat.le_of_ble_eq_true rfl) (Nat.le_of_ble_eq_true rfl) (mayR k186 rfl) (m186 (hS.fix hw hF) (hV.sb hS hwr) hW) (Nat.le_of_ble_eq_true rfl) (fun x M2 hr => ?_)
  obtain ⟨rfl, hr⟩ := hr
  replace hr := hr.symm
  subst hr
  refine g0 hC rfl ?_
  refine g6s hC rfl ⟨by omega, by omega⟩ ?_
  refine g9 hC rfl ?_
  refine c1 hC rfl rfl rfl (Nat.le_of_ble_eq_true rfl) (Nat.le_of_ble_eq_true rfl) (mayS k153 rfl) (m153) (Nat.le_of_ble_eq_true rfl) (fun x M2 hr => ?_)
  obtain ⟨rfl, hr⟩ := hr
  replace hr := hr.symm
  subst hr
  refine ret3 hC rfl ⟨by split <;> omega, by split <;> omega⟩ ?_
  exact ⟨by split <;> split <;> omega, rfl⟩
theorem m190 (hF : Fix M) (hV : RV V h M) (hW : HW V h) {c : Nat} (hc : c < nC V h) : ax_Ev L X SH 0 190 [(2, 142), (0, (c : Int))] M (R1 0 (fun x M' => x = (ch V h c : Int) ∧ M' = M)) := by
  show ax_G L X SH 0 190 0 [(2, 142), (0, (c : Int))] [] M _
  have hC := at190
  have hw := wX0
  have hwr := rX0
  have hS : Sb X0 M M := Sb.refl
  have hb := hW.1.2.2.2.2
  refine g3 hC rfl rfl ?_
  refine g19 hC rfl sh142 (flt12 rfl) ft12_46 ((hS.fix hw hF).g fx_142_46) ?_
  refine g0 hC rfl ?_
  refine g0 hC rfl ?_
  refine g3 hC rfl rfl ?_
  refine g6m hC rfl ⟨by omega, by omega⟩ ?_
  refine g6a hC rfl ⟨by omega, by omega⟩ ?_
  refine r21 ((32 + (4 * c))) hC rfl (by omega) sh180 (Or.inl rfl) (by omega) (rmH hS hwr hV hW (by omega)) ?_
  refine ret1 hC rfl rfl ?_
  exact ⟨rfl, rfl⟩
theorem m191 (hF : Fix M) (hV : RV V h M) (hW : HW V h) {c : Nat} (hc : c < nC V h) : ax_Ev L X SH 0 191 [(2, 142), (0, (c : Int))] M (R1 0 (fun x M' => x = (ckq V h c : Int) ∧ M' = M)) := by
  show ax_G L X SH 0 191 0 [(2, 142), (0, (c : Int))] [] M _
  have hC := at191
  have hw := wX0
  have hwr := rX0
  have hS : Sb X0 M M := Sb.refl
  have hb := hW.1.2.2.2.2
  refine g3 hC rfl rfl ?_
  refine g19 hC rfl sh142 (flt12 rfl) ft12_46 ((hS.fix hw hF).g fx_142_46) ?_
  refine g0 hC rfl ?_
  refine g0 hC rfl ?_
  refine g3 hC rfl rfl ?_
  refine g6m hC rfl ⟨by omega, by omega⟩ ?_
  refine g6a hC rfl ⟨by omega, by omega⟩ ?_
  refine r21 ((33 + (4 * c))) hC rfl (by omega) sh180 (Or.inl rfl) (by omega) (rmQ hS hwr hV hW (by omega)) ?_
  refine ret1 hC rfl rfl ?_
  exact ⟨rfl, rfl⟩
theorem m192 (hF : Fix M) (hV : RV V h M) (hW : HW V h) {s : Nat} (hs : s < 10) : ax_Ev L X SH 0 192 [(2, 142), (0, (s : Int))] M (R1 0 (fun x M' => x = (if V 47 s = 1 then 1 else 0) ∧ M' = M)) := by
  show ax_G L X SH 0 192 0 [(2, 142), (0, (s : Int))] [] M _
  have hC := at192
  have hw := wX0
  have hwr := rX0
  have hS : Sb X0 M M := Sb.refl
  refine g3 hC rfl rfl ?_
  refine g19 hC rfl sh142 (flt12 rfl) ft12_54 ((hS.fix hw hF).g fx_142_54) ?_
  refine g0 hC rfl ?_
  refine g3 hC rfl rfl ?_
  refine g6a hC rfl ⟨by omega, by omega⟩ ?_
  refine r21 ((6 + s)) hC rfl (by omega) sh185 (Or.inl rfl) (by omega) (rmsh hS hwr hV hW (by omega)) ?_
  refine g0 hC rfl ?_
  refine g13n hC rfl (fun h7 => ?_) (fun h7 => ?_)
  ·
    refine g0 hC rfl ?_
    refine ret3 hC rfl ⟨by omega, by omega⟩ ?_
    exact ⟨by rw [if_neg h7], rfl⟩
  ·
    refine g0 hC rfl ?_
    refine g14 hC rfl ?_
    refine ret3 hC rfl ⟨by omega, by omega⟩ ?_
    exact ⟨by rw [if_pos (by omega)], rfl⟩
theorem m197 (hF : Fix M) (hV : RV V h M) (hW : HW V h) {s : Nat} {sm : Int} (hs : s < 10) (hsm : M 142 69 = sm) : ax_Ev L X SH 1 197 [(2, 142), (0, (s : Int))] M (R1 0 (fun x M' => x = (if V 47 s = 1 ∨ (s : Int) = sm then 1 else 0) ∧ M' = M)) := by
  show ax_G L X SH 1 197 0 [(2, 142), (0, (s : Int))] [] M _
  have hC := at197
  have hw := wX0
  have hwr := rX0
  have hS : Sb X0 M M := Sb.refl
  refine g3 hC rfl rfl ?_
  refine g3 hC rfl rfl ?_
  refine c1 hC rfl rfl rfl (Nat.le_of_ble_eq_true rfl) (Nat.le_of_ble_eq_true rfl) (mayR k192 rfl) (m192 (hS.fix hw hF) (hV.sb hS hwr) hW (s := (s)) (by omega)) (Nat.le_of_ble_eq_true rfl) (fun x M2 hr => ?_)
  obtain ⟨rfl, hr⟩ := hr
  replace hr := hr.symm
  subst hr
  refine g12n hC rfl (fun h3 => ?_) (fun h3 => ?_)
  ·
    refine g0 hC rfl ?_
    refine g14 hC rfl ?_
    refine ret3 hC rfl ⟨by omega, by omega⟩ ?_
    exact ⟨by split <;> split at h3 <;> omega, rfl⟩
  ·
    refine g3 hC rfl rfl ?_
    refine g3 hC rfl rfl ?_
    refine g19 hC rfl sh142 (flt12 rfl) ft12_69 hsm ?_
    refine g13n hC rfl (fun h7 => ?_) (fun h7 => ?_)
    ·
      refine g0 hC rfl ?_
      refine ret3 hC rfl ⟨by omega, by omega⟩ ?_
      exact ⟨by split <;> split at h3 <;> omega, rfl⟩
    ·
      refine g0 hC rfl ?_
      refine g14 hC rfl ?_
      refine ret3 hC rfl ⟨by omega, by omega⟩ ?_
      exact ⟨by split <;> split at h3 <;> omega, rfl⟩
theorem m202 (hF : Fix M) {c : Nat} (hc : c < 8) : ax_Ev L X SH 0 202 [(2, 142), (0, (c : Int))] M (R1 0 (fun x M' => x = (if M 189 c = 0 ∧ M 191 c = -1 then 1 else 0) ∧ M' = M)) := by
  show ax_G L X SH 0 202 0 [(2, 142), (0, (c : Int))] [] M _
  have hC := at202
  have hw := wX0
  have hS : Sb X0 M M := Sb.refl
  refine g3 hC rfl rfl ?_
  refine g19 hC rfl sh142 (flt12 rfl) ft12_62 ((hS.fix hw hF).g fx_142_62) ?_
  refine g3 hC rfl rfl ?_
  refine r21 (c) hC rfl (by omega) sh189 (Or.inl rfl) (by omega) rfl ?_
  refine g12n hC rfl (fun h4 => ?_) (fun h4 => ?_)
  ·
    refine g0 hC rfl ?_
    refine ret3 hC rfl ⟨by omega, by omega⟩ ?_
    refine ⟨?_, rfl⟩
    split <;> omega
  ·
    refine g3 hC rfl rfl ?_
    refine g19 hC rfl sh142 (flt12 rfl) ft12_64 ((hS.fix hw hF).g fx_142_64) ?_
    refine g3 hC rfl rfl ?_
    refine r21 (c) hC rfl (by omega) sh191 (Or.inl rfl) (by omega) rfl ?_
    refine g0 hC rfl ?_
    refine g13n hC rfl (fun h10 => ?_) (fun h10 => ?_)
    ·
      refine g0 hC rfl ?_
      refine ret3 hC rfl ⟨by omega, by omega⟩ ?_
      refine ⟨?_, rfl⟩
      split <;> omega
    ·
      refine g0 hC rfl ?_
      refine g14 hC rfl ?_
      refine ret3 hC rfl ⟨by omega, by omega⟩ ?_
      refine ⟨?_, rfl⟩
      split <;> omega
end REF
