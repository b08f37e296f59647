section LAW
variable {L : Nat} {X : Nat → Int} {M : ax_M} {k : Nat}
def HOP2 (L : Nat) (X : Nat → Int) : Prop := ∀ n M, n ≤ 1000 → Rel n M → Wd M → OP L X n 0 102 180 [(2, 0)] [(2, 142)] M
theorem gX {S : List ax_H} {d j i p g : Nat} {w x : Int} {ll st : List ax_V} {P : List ax_V → ax_M → Prop} {C : List ax_O} (hC : ∀ i, ax_at j i = C[i]?) (h : C[i]? = some (21, 0, g, w)) (hx : x = (p : Int)) (hp : p < L) (hL : L ≤ 3072) (k : ax_G L X S d j (i + 1) ll ((0, X p) :: st) M P) : ax_G L X S d j i ll ((0, x) :: (2, -2) :: st) M P := by
  subst hx
  refine ax_gs ((hC i).trans h) (fun q => (by cases q)) (fun q => (by cases q)) ?_ k
  have e : ax_ald L X S M 0 (-2) (p : Int) = some (0, X p) := by
    unfold ax_ald
    rw [if_neg (by omega), if_pos rfl, if_pos ⟨rfl, by omega, by omega, hL⟩]
    rfl
  show (match ax_ald L X S M 0 (-2) (p : Int) with | some v => some (i + 1, ll, v :: st, S, M) | none => none) = _
  rw [e]
theorem gXl {S : List ax_H} {d j i f g : Nat} {w : Int} {ll st : List ax_V} {P : List ax_V → ax_M → Prop} {C : List ax_O} (hC : ∀ i, ax_at j i = C[i]?) (h : C[i]? = some (23, f, g, w)) (hL : L ≤ 3072) (k : ax_G L X S d j (i + 1) ll ((0, (L : Int)) :: st) M P) : ax_G L X S d j i ll ((2, -2) :: st) M P := by
  refine ax_gs ((hC i).trans h) (fun q => (by cases q)) (fun q => (by cases q)) ?_ k
  have e : ax_aln L S (-2) = some (L : Int) := by
    unfold ax_aln
    rw [if_neg (by omega), if_pos rfl, if_pos hL]
  show (match ax_aln L S (-2) with | some n => some (i + 1, ll, (0, n) :: st, S, M) | none => none) = _
  rw [e]
theorem law0 (h2 : HOP2 L X) (hX : ∀ i, ax_i (X i)) (hL : L ≤ 3072) (hk : 6 * k + 6 ≤ L) (hn : k ≤ 1000) (hR : Rel k M) (hWd : Wd M) {P : List ax_V → ax_M → Prop} (nxt : ∀ M2, Rel (k + 1) M2 → Wd M2 → ax_G L X SH 41 315 711 [(2, -2), (2, 0), (2, 142), (0, ((6 * k : Nat) : Int))] [] M2 P) : ax_G L X SH 41 315 22 [(2, -2), (2, 0), (2, 142), (0, ((6 * k : Nat) : Int))] [] M P := by
  have hC := at315
  have e : OPW L X k 0 100 154 [(2, 0), (0, X (6 * k + 1)), (0, X (6 * k + 2)), (0, X (6 * k + 3)), (0, X (6 * k + 4)), (0, X (6 * k + 5))] [(2, 142), (0, X (6 * k + 1)), (0, X (6 * k + 2)), (0, X (6 * k + 3)), (0, X (6 * k + 4)), (0, X (6 * k + 5))] M := OP.w (op0 (a := X (6 * k + 1)) (b := X (6 * k + 2)) (c := X (6 * k + 3)) (d := X (6 * k + 4)) (e := X (6 * k + 5)) hR hn) hWd rfl rfl
  unfold OPW at e
  refine g3 hC (show ax_c315[22]? = some (3, 2, 1, 0) by decide +kernel) rfl ?_
  refine g3 hC (show ax_c315[23]? = some (3, 2, 0, 0) by decide +kernel) rfl ?_
  refine g3 hC (show ax_c315[24]? = some (3, 0, 3, 0) by decide +kernel) rfl ?_
  refine g0 hC (show ax_c315[25]? = some (0, 0, 0, 1) by decide +kernel) ?_
  refine g6a hC (show ax_c315[26]? = some (6, 0, 0, 0) by decide +kernel) ⟨by omega, by omega⟩ ?_
  refine gX (p := 6 * k + 1) hC (show ax_c315[27]? = some (21, 0, 0, 0) by decide +kernel) (by omega) (by omega) hL ?_
  refine g3 hC (show ax_c315[28]? = some (3, 2, 0, 0) by decide +kernel) rfl ?_
  refine g3 hC (show ax_c315[29]? = some (3, 0, 3, 0) by decide +kernel) rfl ?_
  refine g0 hC (show ax_c315[30]? = some (0, 0, 0, 2) by decide +kernel) ?_
  refine g6a hC (show ax_c315[31]? = some (6, 0, 0, 0) by decide +kernel) ⟨by omega, by omega⟩ ?_
  refine gX (p := 6 * k + 2) hC (show ax_c315[32]? = some (21, 0, 0, 0) by decide +kernel) (by omega) (by omega) hL ?_
  refine g3 hC (show ax_c315[33]? = some (3, 2, 0, 0) by decide +kernel) rfl ?_
  refine g3 hC (show ax_c315[34]? = some (3, 0, 3, 0) by decide +kernel) rfl ?_
  refine g0 hC (show ax_c315[35]? = some (0, 0, 0, 3) by decide +kernel) ?_
  refine g6a hC (show ax_c315[36]? = some (6, 0, 0, 0) by decide +kernel) ⟨by omega, by omega⟩ ?_
  refine gX (p := 6 * k + 3) hC (show ax_c315[37]? = some (21, 0, 0, 0) by decide +kernel) (by omega) (by omega) hL ?_
  refine g3 hC (show ax_c315[38]? = some (3, 2, 0, 0) by decide +kernel) rfl ?_
  refine g3 hC (show ax_c315[39]? = some (3, 0, 3, 0) by decide +kernel) rfl ?_
  refine g0 hC (show ax_c315[40]? = some (0, 0, 0, 4) by decide +kernel) ?_
  refine g6a hC (show ax_c315[41]? = some (6, 0, 0, 0) by decide +kernel) ⟨by omega, by omega⟩ ?_
  refine gX (p := 6 * k + 4) hC (show ax_c315[42]? = some (21, 0, 0, 0) by decide +kernel) (by omega) (by omega) hL ?_
  refine g3 hC (show ax_c315[43]? = some (3, 2, 0, 0) by decide +kernel) rfl ?_
  refine g3 hC (show ax_c315[44]? = some (3, 0, 3, 0) by decide +kernel) rfl ?_
  refine g0 hC (show ax_c315[45]? = some (0, 0, 0, 5) by decide +kernel) ?_
  refine g6a hC (show ax_c315[46]? = some (6, 0, 0, 0) by decide +kernel) ⟨by omega, by omega⟩ ?_
  refine gX (p := 6 * k + 5) hC (show ax_c315[47]? = some (21, 0, 0, 0) by decide +kernel) (by omega) (by omega) hL ?_
  refine c1 hC (show ax_c315[48]? = some (27, 100, 6, 13) by decide +kernel) rfl rfl (Nat.le_of_ble_eq_true rfl) (Nat.le_of_ble_eq_true rfl) (by rfl) e (Nat.le_of_ble_eq_true rfl) (fun x M1 e1 => ?_)
  refine g3 hC (show ax_c315[49]? = some (3, 2, 2, 0) by decide +kernel) rfl ?_
  refine g3 hC (show ax_c315[50]? = some (3, 2, 0, 0) by decide +kernel) rfl ?_
  refine g3 hC (show ax_c315[51]? = some (3, 0, 3, 0) by decide +kernel) rfl ?_
  refine g0 hC (show ax_c315[52]? = some (0, 0, 0, 1) by decide +kernel) ?_
  refine g6a hC (show ax_c315[53]? = some (6, 0, 0, 0) by decide +kernel) ⟨by omega, by omega⟩ ?_
  refine gX (p := 6 * k + 1) hC (show ax_c315[54]? = some (21, 0, 0, 0) by decide +kernel) (by omega) (by omega) hL ?_
  refine g3 hC (show ax_c315[55]? = some (3, 2, 0, 0) by decide +kernel) rfl ?_
  refine g3 hC (show ax_c315[56]? = some (3, 0, 3, 0) by decide +kernel) rfl ?_
  refine g0 hC (show ax_c315[57]? = some (0, 0, 0, 2) by decide +kernel) ?_
  refine g6a hC (show ax_c315[58]? = some (6, 0, 0, 0) by decide +kernel) ⟨by omega, by omega⟩ ?_
  refine gX (p := 6 * k + 2) hC (show ax_c315[59]? = some (21, 0, 0, 0) by decide +kernel) (by omega) (by omega) hL ?_
  refine g3 hC (show ax_c315[60]? = some (3, 2, 0, 0) by decide +kernel) rfl ?_
  refine g3 hC (show ax_c315[61]? = some (3, 0, 3, 0) by decide +kernel) rfl ?_
  refine g0 hC (show ax_c315[62]? = some (0, 0, 0, 3) by decide +kernel) ?_
  refine g6a hC (show ax_c315[63]? = some (6, 0, 0, 0) by decide +kernel) ⟨by omega, by omega⟩ ?_
  refine gX (p := 6 * k + 3) hC (show ax_c315[64]? = some (21, 0, 0, 0) by decide +kernel) (by omega) (by omega) hL ?_
  refine g3 hC (show ax_c315[65]? = some (3, 2, 0, 0) by decide +kernel) rfl ?_
  refine g3 hC (show ax_c315[66]? = some (3, 0, 3, 0) by decide +kernel) rfl ?_
  refine g0 hC (show ax_c315[67]? = some (0, 0, 0, 4) by decide +kernel) ?_
  refine g6a hC (show ax_c315[68]? = some (6, 0, 0, 0) by decide +kernel) ⟨by omega, by omega⟩ ?_
  refine gX (p := 6 * k + 4) hC (show ax_c315[69]? = some (21, 0, 0, 0) by decide +kernel) (by omega) (by omega) hL ?_
  refine g3 hC (show ax_c315[70]? = some (3, 2, 0, 0) by decide +kernel) rfl ?_
  refine g3 hC (show ax_c315[71]? = some (3, 0, 3, 0) by decide +kernel) rfl ?_
  refine g0 hC (show ax_c315[72]? = some (0, 0, 0, 5) by decide +kernel) ?_
  refine g6a hC (show ax_c315[73]? = some (6, 0, 0, 0) by decide +kernel) ⟨by omega, by omega⟩ ?_
  refine gX (p := 6 * k + 5) hC (show ax_c315[74]? = some (21, 0, 0, 0) by decide +kernel) (by omega) (by omega) hL ?_
  refine c1 hC (show ax_c315[75]? = some (27, 154, 6, 17) by decide +kernel) rfl rfl (Nat.le_of_ble_eq_true rfl) (Nat.le_of_ble_eq_true rfl) (mayR k154 rfl) e1 (Nat.le_of_ble_eq_true rfl) (fun y M2 e2 => ?_)
  obtain ⟨rfl, hR2, hW2⟩ := e2
  exact g13e hC (show ax_c315[76]? = some (13, 0, 711, 0) by decide +kernel) (fun _ => nxt _ hR2 hW2) (fun w => absurd rfl w)
theorem law1 (h2 : HOP2 L X) (hX : ∀ i, ax_i (X i)) (hL : L ≤ 3072) (hk : 6 * k + 6 ≤ L) (hn : k ≤ 1000) (hR : Rel k M) (hWd : Wd M) {P : List ax_V → ax_M → Prop} (nxt : ∀ M2, Rel (k + 1) M2 → Wd M2 → ax_G L X SH 41 315 711 [(2, -2), (2, 0), (2, 142), (0, ((6 * k : Nat) : Int))] [] M2 P) : ax_G L X SH 41 315 79 [(2, -2), (2, 0), (2, 142), (0, ((6 * k : Nat) : Int))] [] M P := by
  have hC := at315
  have e : OPW L X k 0 101 155 [(2, 0), (0, X (6 * k + 1))] [(2, 142), (0, X (6 * k + 1))] M := OP.w (op1 (a := X (6 * k + 1)) hR hn) hWd rfl rfl
  unfold OPW at e
  refine g3 hC (show ax_c315[79]? = some (3, 2, 1, 0) by decide +kernel) rfl ?_
  refine g3 hC (show ax_c315[80]? = some (3, 2, 0, 0) by decide +kernel) rfl ?_
  refine g3 hC (show ax_c315[81]? = some (3, 0, 3, 0) by decide +kernel) rfl ?_
  refine g0 hC (show ax_c315[82]? = some (0, 0, 0, 1) by decide +kernel) ?_
  refine g6a hC (show ax_c315[83]? = some (6, 0, 0, 0) by decide +kernel) ⟨by omega, by omega⟩ ?_
  refine gX (p := 6 * k + 1) hC (show ax_c315[84]? = some (21, 0, 0, 0) by decide +kernel) (by omega) (by omega) hL ?_
  refine c1 hC (show ax_c315[85]? = some (27, 101, 2, 18) by decide +kernel) rfl rfl (Nat.le_of_ble_eq_true rfl) (Nat.le_of_ble_eq_true rfl) (by rfl) e (Nat.le_of_ble_eq_true rfl) (fun x M1 e1 => ?_)
  refine g3 hC (show ax_c315[86]? = some (3, 2, 2, 0) by decide +kernel) rfl ?_
  refine g3 hC (show ax_c315[87]? = some (3, 2, 0, 0) by decide +kernel) rfl ?_
  refine g3 hC (show ax_c315[88]? = some (3, 0, 3, 0) by decide +kernel) rfl ?_
  refine g0 hC (show ax_c315[89]? = some (0, 0, 0, 1) by decide +kernel) ?_
  refine g6a hC (show ax_c315[90]? = some (6, 0, 0, 0) by decide +kernel) ⟨by omega, by omega⟩ ?_
  refine gX (p := 6 * k + 1) hC (show ax_c315[91]? = some (21, 0, 0, 0) by decide +kernel) (by omega) (by omega) hL ?_
  refine c1 hC (show ax_c315[92]? = some (27, 155, 2, 22) by decide +kernel) rfl rfl (Nat.le_of_ble_eq_true rfl) (Nat.le_of_ble_eq_true rfl) (mayR k155 rfl) e1 (Nat.le_of_ble_eq_true rfl) (fun y M2 e2 => ?_)
  obtain ⟨rfl, hR2, hW2⟩ := e2
  exact g13e hC (show ax_c315[93]? = some (13, 0, 711, 0) by decide +kernel) (fun _ => nxt _ hR2 hW2) (fun w => absurd rfl w)
theorem law2 (h2 : HOP2 L X) (hX : ∀ i, ax_i (X i)) (hL : L ≤ 3072) (hk : 6 * k + 6 ≤ L) (hn : k ≤ 1000) (hR : Rel k M) (hWd : Wd M) {P : List ax_V → ax_M → Prop} (nxt : ∀ M2, Rel (k + 1) M2 → Wd M2 → ax_G L X SH 41 315 711 [(2, -2), (2, 0), (2, 142), (0, ((6 * k : Nat) : Int))] [] M2 P) : ax_G L X SH 41 315 96 [(2, -2), (2, 0), (2, 142), (0, ((6 * k : Nat) : Int))] [] M P := by
  have hC := at315
  have e : OPW L X k 0 102 180 [(2, 0)] [(2, 142)] M := OP.w (h2 k M hn hR hWd) hWd rfl rfl
  unfold OPW at e
  refine g3 hC (show ax_c315[96]? = some (3, 2, 1, 0) by decide +kernel) rfl ?_
  refine c1 hC (show ax_c315[97]? = some (27, 102, 1, 23) by decide +kernel) rfl rfl (Nat.le_of_ble_eq_true rfl) (Nat.le_of_ble_eq_true rfl) (by rfl) e (Nat.le_of_ble_eq_true rfl) (fun x M1 e1 => ?_)
  refine g3 hC (show ax_c315[98]? = some (3, 2, 2, 0) by decide +kernel) rfl ?_
  refine c1 hC (show ax_c315[99]? = some (27, 180, 1, 27) by decide +kernel) rfl rfl (Nat.le_of_ble_eq_true rfl) (Nat.le_of_ble_eq_true rfl) (mayR k180 rfl) e1 (Nat.le_of_ble_eq_true rfl) (fun y M2 e2 => ?_)
  obtain ⟨rfl, hR2, hW2⟩ := e2
  exact g13e hC (show ax_c315[100]? = some (13, 0, 711, 0) by decide +kernel) (fun _ => nxt _ hR2 hW2) (fun w => absurd rfl w)
theorem law3 (h2 : HOP2 L X) (hX : ∀ i, ax_i (X i)) (hL : L ≤ 3072) (hk : 6 * k + 6 ≤ L) (hn : k ≤ 1000) (hR : Rel k M) (hWd : Wd M) {P : List ax_V → ax_M → Prop} (nxt : ∀ M2, Rel (k + 1) M2 → Wd M2 → ax_G L X SH 41 315 711 [(2, -2), (2, 0), (2, 142), (0, ((6 * k : Nat) : Int))] [] M2 P) : ax_G L X SH 41 315 103 [(2, -2), (2, 0), (2, 142), (0, ((6 * k : Nat) : Int))] [] M P := by
  have hC := at315
  have e : OPW L X k 0 103 182 [(2, 0), (0, X (6 * k + 1))] [(2, 142), (0, X (6 * k + 1))] M := OP.w (op3 (a := X (6 * k + 1)) hR) hWd rfl rfl
  unfold OPW at e
  refine g3 hC (show ax_c315[103]? = some (3, 2, 1, 0) by decide +kernel) rfl ?_
  refine g3 hC (show ax_c315[104]? = some (3, 2, 0, 0) by decide +kernel) rfl ?_
  refine g3 hC (show ax_c315[105]? = some (3, 0, 3, 0) by decide +kernel) rfl ?_
  refine g0 hC (show ax_c315[106]? = some (0, 0, 0, 1) by decide +kernel) ?_
  refine g6a hC (show ax_c315[107]? = some (6, 0, 0, 0) by decide +kernel) ⟨by omega, by omega⟩ ?_
  refine gX (p := 6 * k + 1) hC (show ax_c315[108]? = some (21, 0, 0, 0) by decide +kernel) (by omega) (by omega) hL ?_
  refine c1 hC (show ax_c315[109]? = some (27, 103, 2, 28) by decide +kernel) rfl rfl (Nat.le_of_ble_eq_true rfl) (Nat.le_of_ble_eq_true rfl) (by rfl) e (Nat.le_of_ble_eq_true rfl) (fun x M1 e1 => ?_)
  refine g3 hC (show ax_c315[110]? = some (3, 2, 2, 0) by decide +kernel) rfl ?_
  refine g3 hC (show ax_c315[111]? = some (3, 2, 0, 0) by decide +kernel) rfl ?_
  refine g3 hC (show ax_c315[112]? = some (3, 0, 3, 0) by decide +kernel) rfl ?_
  refine g0 hC (show ax_c315[113]? = some (0, 0, 0, 1) by decide +kernel) ?_
  refine g6a hC (show ax_c315[114]? = some (6, 0, 0, 0) by decide +kernel) ⟨by omega, by omega⟩ ?_
  refine gX (p := 6 * k + 1) hC (show ax_c315[115]? = some (21, 0, 0, 0) by decide +kernel) (by omega) (by omega) hL ?_
  refine c1 hC (show ax_c315[116]? = some (27, 182, 2, 32) by decide +kernel) rfl rfl (Nat.le_of_ble_eq_true rfl) (Nat.le_of_ble_eq_true rfl) (mayR k182 rfl) e1 (Nat.le_of_ble_eq_true rfl) (fun y M2 e2 => ?_)
  obtain ⟨rfl, hR2, hW2⟩ := e2
  exact g13e hC (show ax_c315[117]? = some (13, 0, 711, 0) by decide +kernel) (fun _ => nxt _ hR2 hW2) (fun w => absurd rfl w)
theorem law4 (h2 : HOP2 L X) (hX : ∀ i, ax_i (X i)) (hL : L ≤ 3072) (hk : 6 * k + 6 ≤ L) (hn : k ≤ 1000) (hR : Rel k M) (hWd : Wd M) {P : List ax_V → ax_M → Prop} (nxt : ∀ M2, Rel (k + 1) M2 → Wd M2 → ax_G L X SH 41 315 711 [(2, -2), (2, 0), (2, 142), (0, ((6 * k : Nat) : Int))] [] M2 P) : ax_G L X SH 41 315 120 [(2, -2), (2, 0), (2, 142), (0, ((6 * k : Nat) : Int))] [] M P := by
  have hC := at315
  have e : OPW L X k 0 104 217 [(2, 0), (0, X (6 * k + 1))] [(2, 142), (0, X (6 * k + 1))] M := OP.w (op4 (a := X (6 * k + 1)) hR) hWd rfl rfl
  unfold OPW at e
  refine g3 hC (show ax_c315[120]? = some (3, 2, 1, 0) by decide +kernel) rfl ?_
  refine g3 hC (show ax_c315[121]? = some (3, 2, 0, 0) by decide +kernel) rfl ?_
  refine g3 hC (show ax_c315[122]? = some (3, 0, 3, 0) by decide +kernel) rfl ?_
  refine g0 hC (show ax_c315[123]? = some (0, 0, 0, 1) by decide +kernel) ?_
  refine g6a hC (show ax_c315[124]? = some (6, 0, 0, 0) by decide +kernel) ⟨by omega, by omega⟩ ?_
  refine gX (p := 6 * k + 1) hC (show ax_c315[125]? = some (21, 0, 0, 0) by decide +kernel) (by omega) (by omega) hL ?_
  refine c1 hC (show ax_c315[126]? = some (27, 104, 2, 33) by decide +kernel) rfl rfl (Nat.le_of_ble_eq_true rfl) (Nat.le_of_ble_eq_true rfl) (by rfl) e (Nat.le_of_ble_eq_true rfl) (fun x M1 e1 => ?_)
  refine g3 hC (show ax_c315[127]? = some (3, 2, 2, 0) by decide +kernel) rfl ?_
  refine g3 hC (show ax_c315[128]? = some (3, 2, 0, 0) by decide +kernel) rfl ?_
  refine g3 hC (show ax_c315[129]? = some (3, 0, 3, 0) by decide +kernel) rfl ?_
  refine g0 hC (show ax_c315[130]? = some (0, 0, 0, 1) by decide +kernel) ?_
  refine g6a hC (show ax_c315[131]? = some (6, 0, 0, 0) by decide +kernel) ⟨by omega, by omega⟩ ?_
  refine gX (p := 6 * k + 1) hC (show ax_c315[132]? = some (21, 0, 0, 0) by decide +kernel) (by omega) (by omega) hL ?_
  refine c1 hC (show ax_c315[133]? = some (27, 217, 2, 36) by decide +kernel) rfl rfl (Nat.le_of_ble_eq_true rfl) (Nat.le_of_ble_eq_true rfl) (mayR k217 rfl) e1 (Nat.le_of_ble_eq_true rfl) (fun y M2 e2 => ?_)
  obtain ⟨rfl, hR2, hW2⟩ := e2
  exact g13e hC (show ax_c315[134]? = some (13, 0, 711, 0) by decide +kernel) (fun _ => nxt _ hR2 hW2) (fun w => absurd rfl w)
theorem law5 (h2 : HOP2 L X) (hX : ∀ i, ax_i (X i)) (hL : L ≤ 3072) (hk : 6 * k + 6 ≤ L) (hn : k ≤ 1000) (hR : Rel k M) (hWd : Wd M) {P : List ax_V → ax_M → Prop} (nxt : ∀ M2, Rel (k + 1) M2 → Wd M2 → ax_G L X SH 41 315 711 [(2, -2), (2, 0), (2, 142), (0, ((6 * k : Nat) : Int))] [] M2 P) : ax_G L X SH 41 315 137 [(2, -2), (2, 0), (2, 142), (0, ((6 * k : Nat) : Int))] [] M P := by
  have hC := at315
  have e : OPW L X k 0 105 218 [(2, 0), (0, X (6 * k + 1)), (0, X (6 * k + 2)), (0, X (6 * k + 3))] [(2, 142), (0, X (6 * k + 1)), (0, X (6 * k + 2)), (0, X (6 * k + 3))] M := OP.w (op5 (a := X (6 * k + 1)) (b := X (6 * k + 2)) (c := X (6 * k + 3)) hR) hWd rfl rfl
  unfold OPW at e
  refine g3 hC (show ax_c315[137]? = some (3, 2, 1, 0) by decide +kernel) rfl ?_
  refine g3 hC (show ax_c315[138]? = some (3, 2, 0, 0) by decide +kernel) rfl ?_
  refine g3 hC (show ax_c315[139]? = some (3, 0, 3, 0) by decide +kernel) rfl ?_
  refine g0 hC (show ax_c315[140]? = some (0, 0, 0, 1) by decide +kernel) ?_
  refine g6a hC (show ax_c315[141]? = some (6, 0, 0, 0) by decide +kernel) ⟨by omega, by omega⟩ ?_
  refine gX (p := 6 * k + 1) hC (show ax_c315[142]? = some (21, 0, 0, 0) by decide +kernel) (by omega) (by omega) hL ?_
  refine g3 hC (show ax_c315[143]? = some (3, 2, 0, 0) by decide +kernel) rfl ?_
  refine g3 hC (show ax_c315[144]? = some (3, 0, 3, 0) by decide +kernel) rfl ?_
  refine g0 hC (show ax_c315[145]? = some (0, 0, 0, 2) by decide +kernel) ?_
  refine g6a hC (show ax_c315[146]? = some (6, 0, 0, 0) by decide +kernel) ⟨by omega, by omega⟩ ?_
  refine gX (p := 6 * k + 2) hC (show ax_c315[147]? = some (21, 0, 0, 0) by decide +kernel) (by omega) (by omega) hL ?_
  refine g3 hC (show ax_c315[148]? = some (3, 2, 0, 0) by decide +kernel) rfl ?_
  refine g3 hC (show ax_c315[149]? = some (3, 0, 3, 0) by decide +kernel) rfl ?_
  refine g0 hC (show ax_c315[150]? = some (0, 0, 0, 3) by decide +kernel) ?_
  refine g6a hC (show ax_c315[151]? = some (6, 0, 0, 0) by decide +kernel) ⟨by omega, by omega⟩ ?_
  refine gX (p := 6 * k + 3) hC (show ax_c315[152]? = some (21, 0, 0, 0) by decide +kernel) (by omega) (by omega) hL ?_
  refine c1 hC (show ax_c315[153]? = some (27, 105, 4, 37) by decide +kernel) rfl rfl (Nat.le_of_ble_eq_true rfl) (Nat.le_of_ble_eq_true rfl) (by rfl) e (Nat.le_of_ble_eq_true rfl) (fun x M1 e1 => ?_)
  refine g3 hC (show ax_c315[154]? = some (3, 2, 2, 0) by decide +kernel) rfl ?_
  refine g3 hC (show ax_c315[155]? = some (3, 2, 0, 0) by decide +kernel) rfl ?_
  refine g3 hC (show ax_c315[156]? = some (3, 0, 3, 0) by decide +kernel) rfl ?_
  refine g0 hC (show ax_c315[157]? = some (0, 0, 0, 1) by decide +kernel) ?_
  refine g6a hC (show ax_c315[158]? = some (6, 0, 0, 0) by decide +kernel) ⟨by omega, by omega⟩ ?_
  refine gX (p := 6 * k + 1) hC (show ax_c315[159]? = some (21, 0, 0, 0) by decide +kernel) (by omega) (by omega) hL ?_
  refine g3 hC (show ax_c315[160]? = some (3, 2, 0, 0) by decide +kernel) rfl ?_
  refine g3 hC (show ax_c315[161]? = some (3, 0, 3, 0) by decide +kernel) rfl ?_
  refine g0 hC (show ax_c315[162]? = some (0, 0, 0, 2) by decide +kernel) ?_
  refine g6a hC (show ax_c315[163]? = some (6, 0, 0, 0) by decide +kernel) ⟨by omega, by omega⟩ ?_
  refine gX (p := 6 * k + 2) hC (show ax_c315[164]? = some (21, 0, 0, 0) by decide +kernel) (by omega) (by omega) hL ?_
  refine g3 hC (show ax_c315[165]? = some (3, 2, 0, 0) by decide +kernel) rfl ?_
  refine g3 hC (show ax_c315[166]? = some (3, 0, 3, 0) by decide +kernel) rfl ?_
  refine g0 hC (show ax_c315[167]? = some (0, 0, 0, 3) by decide +kernel) ?_
  refine g6a hC (show ax_c315[168]? = some (6, 0, 0, 0) by decide +kernel) ⟨by omega, by omega⟩ ?_
  refine gX (p := 6 * k + 3) hC (show ax_c315[169]? = some (21, 0, 0, 0) by decide +kernel) (by omega) (by omega) hL ?_
  refine c1 hC (show ax_c315[170]? = some (27, 218, 4, 41) by decide +kernel) rfl rfl (Nat.le_of_ble_eq_true rfl) (Nat.le_of_ble_eq_true rfl) (mayR k218 rfl) e1 (Nat.le_of_ble_eq_true rfl) (fun y M2 e2 => ?_)
  obtain ⟨rfl, hR2, hW2⟩ := e2
  exact g13e hC (show ax_c315[171]? = some (13, 0, 711, 0) by decide +kernel) (fun _ => nxt _ hR2 hW2) (fun w => absurd rfl w)
theorem law6 (h2 : HOP2 L X) (hX : ∀ i, ax_i (X i)) (hL : L ≤ 3072) (hk : 6 * k + 6 ≤ L) (hn : k ≤ 1000) (hR : Rel k M) (hWd : Wd M) {P : List ax_V → ax_M → Prop} (nxt : ∀ M2, Rel (k + 1) M2 → Wd M2 → ax_G L X SH 41 315 711 [(2, -2), (2, 0), (2, 142), (0, ((6 * k : Nat) : Int))] [] M2 P) : ax_G L X SH 41 315 174 [(2, -2), (2, 0), (2, 142), (0, ((6 * k : Nat) : Int))] [] M P := by
  have hC := at315
  have e : OPW L X k 0 106 219 [(2, 0), (0, X (6 * k + 1))] [(2, 142), (0, X (6 * k + 1))] M := OP.w (op6 (a := X (6 * k + 1)) hR) hWd rfl rfl
  unfold OPW at e
  refine g3 hC (show ax_c315[174]? = some (3, 2, 1, 0) by decide +kernel) rfl ?_
  refine g3 hC (show ax_c315[175]? = some (3, 2, 0, 0) by decide +kernel) rfl ?_
  refine g3 hC (show ax_c315[176]? = some (3, 0, 3, 0) by decide +kernel) rfl ?_
  refine g0 hC (show ax_c315[177]? = some (0, 0, 0, 1) by decide +kernel) ?_
  refine g6a hC (show ax_c315[178]? = some (6, 0, 0, 0) by decide +kernel) ⟨by omega, by omega⟩ ?_
  refine gX (p := 6 * k + 1) hC (show ax_c315[179]? = some (21, 0, 0, 0) by decide +kernel) (by omega) (by omega) hL ?_
  refine c1 hC (show ax_c315[180]? = some (27, 106, 2, 42) by decide +kernel) rfl rfl (Nat.le_of_ble_eq_true rfl) (Nat.le_of_ble_eq_true rfl) (by rfl) e (Nat.le_of_ble_eq_true rfl) (fun x M1 e1 => ?_)
  refine g3 hC (show ax_c315[181]? = some (3, 2, 2, 0) by decide +kernel) rfl ?_
  refine g3 hC (show ax_c315[182]? = some (3, 2, 0, 0) by decide +kernel) rfl ?_
  refine g3 hC (show ax_c315[183]? = some (3, 0, 3, 0) by decide +kernel) rfl ?_
  refine g0 hC (show ax_c315[184]? = some (0, 0, 0, 1) by decide +kernel) ?_
  refine g6a hC (show ax_c315[185]? = some (6, 0, 0, 0) by decide +kernel) ⟨by omega, by omega⟩ ?_
  refine gX (p := 6 * k + 1) hC (show ax_c315[186]? = some (21, 0, 0, 0) by decide +kernel) (by omega) (by omega) hL ?_
  refine c1 hC (show ax_c315[187]? = some (27, 219, 2, 45) by decide +kernel) rfl rfl (Nat.le_of_ble_eq_true rfl) (Nat.le_of_ble_eq_true rfl) (mayR k219 rfl) e1 (Nat.le_of_ble_eq_true rfl) (fun y M2 e2 => ?_)
  obtain ⟨rfl, hR2, hW2⟩ := e2
  exact g13e hC (show ax_c315[188]? = some (13, 0, 711, 0) by decide +kernel) (fun _ => nxt _ hR2 hW2) (fun w => absurd rfl w)
theorem law7 (h2 : HOP2 L X) (hX : ∀ i, ax_i (X i)) (hL : L ≤ 3072) (hk : 6 * k + 6 ≤ L) (hn : k ≤ 1000) (hR : Rel k M) (hWd : Wd M) {P : List ax_V → ax_M → Prop} (nxt : ∀ M2, Rel (k + 1) M2 → Wd M2 → ax_G L X SH 41 315 711 [(2, -2), (2, 0), (2, 142), (0, ((6 * k : Nat) : Int))] [] M2 P) : ax_G L X SH 41 315 191 [(2, -2), (2, 0), (2, 142), (0, ((6 * k : Nat) : Int))] [] M P := by
  have hC := at315
  have e : OPW L X k 0 107 220 [(2, 0), (0, X (6 * k + 1)), (0, X (6 * k + 2))] [(2, 142), (0, X (6 * k + 1)), (0, X (6 * k + 2))] M := OP.w (op7 (a := X (6 * k + 1)) (b := X (6 * k + 2)) hR) hWd rfl rfl
  unfold OPW at e
  refine g3 hC (show ax_c315[191]? = some (3, 2, 1, 0) by decide +kernel) rfl ?_
  refine g3 hC (show ax_c315[192]? = some (3, 2, 0, 0) by decide +kernel) rfl ?_
  refine g3 hC (show ax_c315[193]? = some (3, 0, 3, 0) by decide +kernel) rfl ?_
  refine g0 hC (show ax_c315[194]? = some (0, 0, 0, 1) by decide +kernel) ?_
  refine g6a hC (show ax_c315[195]? = some (6, 0, 0, 0) by decide +kernel) ⟨by omega, by omega⟩ ?_
  refine gX (p := 6 * k + 1) hC (show ax_c315[196]? = some (21, 0, 0, 0) by decide +kernel) (by omega) (by omega) hL ?_
  refine g3 hC (show ax_c315[197]? = some (3, 2, 0, 0) by decide +kernel) rfl ?_
  refine g3 hC (show ax_c315[198]? = some (3, 0, 3, 0) by decide +kernel) rfl ?_
  refine g0 hC (show ax_c315[199]? = some (0, 0, 0, 2) by decide +kernel) ?_
  refine g6a hC (show ax_c315[200]? = some (6, 0, 0, 0) by decide +kernel) ⟨by omega, by omega⟩ ?_
  refine gX (p := 6 * k + 2) hC (show ax_c315[201]? = some (21, 0, 0, 0) by decide +kernel) (by omega) (by omega) hL ?_
  refine c1 hC (show ax_c315[202]? = some (27, 107, 3, 46) by decide +kernel) rfl rfl (Nat.le_of_ble_eq_true rfl) (Nat.le_of_ble_eq_true rfl) (by rfl) e (Nat.le_of_ble_eq_true rfl) (fun x M1 e1 => ?_)
  refine g3 hC (show ax_c315[203]? = some (3, 2, 2, 0) by decide +kernel) rfl ?_
  refine g3 hC (show ax_c315[204]? = some (3, 2, 0, 0) by decide +kernel) rfl ?_
  refine g3 hC (show ax_c315[205]? = some (3, 0, 3, 0) by decide +kernel) rfl ?_
  refine g0 hC (show ax_c315[206]? = some (0, 0, 0, 1) by decide +kernel) ?_
  refine g6a hC (show ax_c315[207]? = some (6, 0, 0, 0) by decide +kernel) ⟨by omega, by omega⟩ ?_
  refine gX (p := 6 * k + 1) hC (show ax_c315[208]? = some (21, 0, 0, 0) by decide +kernel) (by omega) (by omega) hL ?_
  refine g3 hC (show ax_c315[209]? = some (3, 2, 0, 0) by decide +kernel) rfl ?_
  refine g3 hC (show ax_c315[210]? = some (3, 0, 3, 0) by decide +kernel) rfl ?_
  refine g0 hC (show ax_c315[211]? = some (0, 0, 0, 2) by decide +kernel) ?_
  refine g6a hC (show ax_c315[212]? = some (6, 0, 0, 0) by decide +kernel) ⟨by omega, by omega⟩ ?_
  refine gX (p := 6 * k + 2) hC (show ax_c315[213]? = some (21, 0, 0, 0) by decide +kernel) (by omega) (by omega) hL ?_
  refine c1 hC (show ax_c315[214]? = some (27, 220, 3, 50) by decide +kernel) rfl rfl (Nat.le_of_ble_eq_true rfl) (Nat.le_of_ble_eq_true rfl) (mayR k220 rfl) e1 (Nat.le_of_ble_eq_true rfl) (fun y M2 e2 => ?_)
  obtain ⟨rfl, hR2, hW2⟩ := e2
  exact g13e hC (show ax_c315[215]? = some (13, 0, 711, 0) by decide +kernel) (fun _ => nxt _ hR2 hW2) (fun w => absurd rfl w)
theorem law8 (h2 : HOP2 L X) (hX : ∀ i, ax_i (X i)) (hL : L ≤ 3072) (hk : 6 * k + 6 ≤ L) (hn : k ≤ 1000) (hR : Rel k M) (hWd : Wd M) {P : List ax_V → ax_M → Prop} (nxt : ∀ M2, Rel (k + 1) M2 → Wd M2 → ax_G L X SH 41 315 711 [(2, -2), (2, 0), (2, 142), (0, ((6 * k : Nat) : Int))] [] M2 P) : ax_G L X SH 41 315 218 [(2, -2), (2, 0), (2, 142), (0, ((6 * k : Nat) : Int))] [] M P := by
  have hC := at315
  have e : OPW L X k 0 108 221 [(2, 0), (0, X (6 * k + 1)), (0, X (6 * k + 2))] [(2, 142), (0, X (6 * k + 1)), (0, X (6 * k + 2))] M := OP.w (op8 (a := X (6 * k + 1)) (b := X (6 * k + 2)) hR) hWd rfl rfl
  unfold OPW at e
  refine g3 hC (show ax_c315[218]? = some (3, 2, 1, 0) by decide +kernel) rfl ?_
  refine g3 hC (show ax_c315[219]? = some (3, 2, 0, 0) by decide +kernel) rfl ?_
  refine g3 hC (show ax_c315[220]? = some (3, 0, 3, 0) by decide +kernel) rfl ?_
  refine g0 hC (show ax_c315[221]? = some (0, 0, 0, 1) by decide +kernel) ?_
  refine g6a hC (show ax_c315[222]? = some (6, 0, 0, 0) by decide +kernel) ⟨by omega, by omega⟩ ?_
  refine gX (p := 6 * k + 1) hC (show ax_c315[223]? = some (21, 0, 0, 0) by decide +kernel) (by omega) (by omega) hL ?_
  refine g3 hC (show ax_c315[224]? = some (3, 2, 0, 0) by decide +kernel) rfl ?_
  refine g3 hC (show ax_c315[225]? = some (3, 0, 3, 0) by decide +kernel) rfl ?_
  refine g0 hC (show ax_c315[226]? = some (0, 0, 0, 2) by decide +kernel) ?_
  refine g6a hC (show ax_c315[227]? = some (6, 0, 0, 0) by decide +kernel) ⟨by omega, by omega⟩ ?_
  refine gX (p := 6 * k + 2) hC (show ax_c315[228]? = some (21, 0, 0, 0) by decide +kernel) (by omega) (by omega) hL ?_
  refine c1 hC (show ax_c315[229]? = some (27, 108, 3, 51) by decide +kernel) rfl rfl (Nat.le_of_ble_eq_true rfl) (Nat.le_of_ble_eq_true rfl) (by rfl) e (Nat.le_of_ble_eq_true rfl) (fun x M1 e1 => ?_)
  refine g3 hC (show ax_c315[230]? = some (3, 2, 2, 0) by decide +kernel) rfl ?_
  refine g3 hC (show ax_c315[231]? = some (3, 2, 0, 0) by decide +kernel) rfl ?_
  refine g3 hC (show ax_c315[232]? = some (3, 0, 3, 0) by decide +kernel) rfl ?_
  refine g0 hC (show ax_c315[233]? = some (0, 0, 0, 1) by decide +kernel) ?_
  refine g6a hC (show ax_c315[234]? = some (6, 0, 0, 0) by decide +kernel) ⟨by omega, by omega⟩ ?_
  refine gX (p := 6 * k + 1) hC (show ax_c315[235]? = some (21, 0, 0, 0) by decide +kernel) (by omega) (by omega) hL ?_
  refine g3 hC (show ax_c315[236]? = some (3, 2, 0, 0) by decide +kernel) rfl ?_
  refine g3 hC (show ax_c315[237]? = some (3, 0, 3, 0) by decide +kernel) rfl ?_
  refine g0 hC (show ax_c315[238]? = some (0, 0, 0, 2) by decide +kernel) ?_
  refine g6a hC (show ax_c315[239]? = some (6, 0, 0, 0) by decide +kernel) ⟨by omega, by omega⟩ ?_
  refine gX (p := 6 * k + 2) hC (show ax_c315[240]? = some (21, 0, 0, 0) by decide +kernel) (by omega) (by omega) hL ?_
  refine c1 hC (show ax_c315[241]? = some (27, 221, 3, 54) by decide +kernel) rfl rfl (Nat.le_of_ble_eq_true rfl) (Nat.le_of_ble_eq_true rfl) (mayR k221 rfl) e1 (Nat.le_of_ble_eq_true rfl) (fun y M2 e2 => ?_)
  obtain ⟨rfl, hR2, hW2⟩ := e2
  exact g13e hC (show ax_c315[242]? = some (13, 0, 711, 0) by decide +kernel) (fun _ => nxt _ hR2 hW2) (fun w => absurd rfl w)
theorem law9 (h2 : HOP2 L X) (hX : ∀ i, ax_i (X i)) (hL : L ≤ 3072) (hk : 6 * k + 6 ≤ L) (hn : k ≤ 1000) (hR : Rel k M) (hWd : Wd M) {P : List ax_V → ax_M → Prop} (nxt : ∀ M2, Rel (k + 1) M2 → Wd M2 → ax_G L X SH 41 315 711 [(2, -2), (2, 0), (2, 142), (0, ((6 * k : Nat) : Int))] [] M2 P) : ax_G L X SH 41 315 245 [(2, -2), (2, 0), (2, 142), (0, ((6 * k : Nat) : Int))] [] M P := by
  have hC := at315
  have e : OPW L X k 0 109 222 [(2, 0), (0, X (6 * k + 1)), (0, X (6 * k + 2))] [(2, 142), (0, X (6 * k + 1)), (0, X (6 * k + 2))] M := OP.w (op9 (a := X (6 * k + 1)) (b := X (6 * k + 2)) hR) hWd rfl rfl
  unfold OPW at e
  refine g3 hC (show ax_c315[245]? = some (3, 2, 1, 0) by decide +kernel) rfl ?_
  refine g3 hC (show ax_c315[246]? = some (3, 2, 0, 0) by decide +kernel) rfl ?_
  refine g3 hC (show ax_c315[247]? = some (3, 0, 3, 0) by decide +kernel) rfl ?_
  refine g0 hC (show ax_c315[248]? = some (0, 0, 0, 1) by decide +kernel) ?_
  refine g6a hC (show ax_c315[249]? = some (6, 0, 0, 0) by decide +kernel) ⟨by omega, by omega⟩ ?_
  refine gX (p := 6 * k + 1) hC (show ax_c315[250]? = some (21, 0, 0, 0) by decide +kernel) (by omega) (by omega) hL ?_
  refine g3 hC (show ax_c315[251]? = some (3, 2, 0, 0) by decide +kernel) rfl ?_
  refine g3 hC (show ax_c315[252]? = some (3, 0, 3, 0) by decide +kernel) rfl ?_
  refine g0 hC (show ax_c315[253]? = some (0, 0, 0, 2) by decide +kernel) ?_
  refine g6a hC (show ax_c315[254]? = some (6, 0, 0, 0) by decide +kernel) ⟨by omega, by omega⟩ ?_
  refine gX (p := 6 * k + 2) hC (show ax_c315[255]? = some (21, 0, 0, 0) by decide +kernel) (by omega) (by omega) hL ?_
  refine c1 hC (show ax_c315[256]? = some (27, 109, 3, 55) by decide +kernel) rfl rfl (Nat.le_of_ble_eq_true rfl) (Nat.le_of_ble_eq_true rfl) (by rfl) e (Nat.le_of_ble_eq_true rfl) (fun x M1 e1 => ?_)
  refine g3 hC (show ax_c315[257]? = some (3, 2, 2, 0) by decide +kernel) rfl ?_
  refine g3 hC (show ax_c315[258]? = some (3, 2, 0, 0) by decide +kernel) rfl ?_
  refine g3 hC (show ax_c315[259]? = some (3, 0, 3, 0) by decide +kernel) rfl ?_
  refine g0 hC (show ax_c315[260]? = some (0, 0, 0, 1) by decide +kernel) ?_
  refine g6a hC (show ax_c315[261]? = some (6, 0, 0, 0) by decide +kernel) ⟨by omega, by omega⟩ ?_
  refine gX (p := 6 * k + 1) hC (show ax_c315[262]? = some (21, 0, 0, 0) by decide +kernel) (by omega) (by omega) hL ?_
  refine g3 hC (show ax_c315[263]? = some (3, 2, 0, 0) by decide +kernel) rfl ?_
  refine g3 hC (show ax_c315[264]? = some (3, 0, 3, 0) by decide +kernel) rfl ?_
  refine g0 hC (show ax_c315[265]? = some (0, 0, 0, 2) by decide +kernel) ?_
  refine g6a hC (show ax_c315[266]? = some (6, 0, 0, 0) by decide +kernel) ⟨by omega, by omega⟩ ?_
  refine gX (p := 6 * k + 2) hC (show ax_c315[267]? = some (21, 0, 0, 0) by decide +kernel) (by omega) (by omega) hL ?_
  refine c1 hC (show ax_c315[268]? = some (27, 222, 3, 58) by decide +kernel) rfl rfl (Nat.le_of_ble_eq_true rfl) (Nat.le_of_ble_eq_true rfl) (mayR k222 rfl) e1 (Nat.le_of_ble_eq_true rfl) (fun y M2 e2 => ?_)
  obtain ⟨rfl, hR2, hW2⟩ := e2
  exact g13e hC (show ax_c315[269]? = some (13, 0, 711, 0) by decide +kernel) (fun _ => nxt _ hR2 hW2) (fun w => absurd rfl w)
theorem law10 (h2 : HOP2 L X) (hX : ∀ i, ax_i (X i)) (hL : L ≤ 3072) (hk : 6 * k + 6 ≤ L) (hn : k ≤ 1000) (hR : Rel k M) (hWd : Wd M) {P : List ax_V → ax_M → Prop} (nxt : ∀ M2, Rel (k + 1) M2 → Wd M2 → ax_G L X SH 41 315 711 [(2, -2), (2, 0), (2, 142), (0, ((6 * k : Nat) : Int))] [] M2 P) : ax_G L X SH 41 315 272 [(2, -2), (2, 0), (2, 142), (0, ((6 * k : Nat) : Int))] [] M P := by
  have hC := at315
  have e : OPW L X k 0 110 224 [(2, 0), (0, X (6 * k + 1)), (0, X (6 * k + 2))] [(2, 142), (0, X (6 * k + 1)), (0, X (6 * k + 2))] M := OP.w (op10 (a := X (6 * k + 1)) (b := X (6 * k + 2)) hR) hWd rfl rfl
  unfold OPW at e
  refine g3 hC (show ax_c315[272]? = some (3, 2, 1, 0) by decide +kernel) rfl ?_
  refine g3 hC (show ax_c315[273]? = some (3, 2, 0, 0) by decide +kernel) rfl ?_
  refine g3 hC (show ax_c315[274]? = some (3, 0, 3, 0) by decide +kernel) rfl ?_
  refine g0 hC (show ax_c315[275]? = some (0, 0, 0, 1) by decide +kernel) ?_
  refine g6a hC (show ax_c315[276]? = some (6, 0, 0, 0) by decide +kernel) ⟨by omega, by omega⟩ ?_
  refine gX (p := 6 * k + 1) hC (show ax_c315[277]? = some (21, 0, 0, 0) by decide +kernel) (by omega) (by omega) hL ?_
  refine g3 hC (show ax_c315[278]? = some (3, 2, 0, 0) by decide +kernel) rfl ?_
  refine g3 hC (show ax_c315[279]? = some (3, 0, 3, 0) by decide +kernel) rfl ?_
  refine g0 hC (show ax_c315[280]? = some (0, 0, 0, 2) by decide +kernel) ?_
  refine g6a hC (show ax_c315[281]? = some (6, 0, 0, 0) by decide +kernel) ⟨by omega, by omega⟩ ?_
  refine gX (p := 6 * k + 2) hC (show ax_c315[282]? = some (21, 0, 0, 0) by decide +kernel) (by omega) (by omega) hL ?_
  refine c1 hC (show ax_c315[283]? = some (27, 110, 3, 59) by decide +kernel) rfl rfl (Nat.le_of_ble_eq_true rfl) (Nat.le_of_ble_eq_true rfl) (by rfl) e (Nat.le_of_ble_eq_true rfl) (fun x M1 e1 => ?_)
  refine g3 hC (show ax_c315[284]? = some (3, 2, 2, 0) by decide +kernel) rfl ?_
  refine g3 hC (show ax_c315[285]? = some (3, 2, 0, 0) by decide +kernel) rfl ?_
  refine g3 hC (show ax_c315[286]? = some (3, 0, 3, 0) by decide +kernel) rfl ?_
  refine g0 hC (show ax_c315[287]? = some (0, 0, 0, 1) by decide +kernel) ?_
  refine g6a hC (show ax_c315[288]? = some (6, 0, 0, 0) by decide +kernel) ⟨by omega, by omega⟩ ?_
  refine gX (p := 6 * k + 1) hC (show ax_c315[289]? = some (21, 0, 0, 0) by decide +kernel) (by omega) (by omega) hL ?_
  refine g3 hC (show ax_c315[290]? = some (3, 2, 0, 0) by decide +kernel) rfl ?_
  refine g3 hC (show ax_c315[291]? = some (3, 0, 3, 0) by decide +kernel) rfl ?_
  refine g0 hC (show ax_c315[292]? = some (0, 0, 0, 2) by decide +kernel) ?_
  refine g6a hC (show ax_c315[293]? = some (6, 0, 0, 0) by decide +kernel) ⟨by omega, by omega⟩ ?_
  refine gX (p := 6 * k + 2) hC (show ax_c315[294]? = some (21, 0, 0, 0) by decide +kernel) (by omega) (by omega) hL ?_
  refine c1 hC (show ax_c315[295]? = some (27, 224, 3, 62) by decide +kernel) rfl rfl (Nat.le_of_ble_eq_true rfl) (Nat.le_of_ble_eq_true rfl) (mayR k224 rfl) e1 (Nat.le_of_ble_eq_true rfl) (fun y M2 e2 => ?_)
  obtain ⟨rfl, hR2, hW2⟩ := e2
  exact g13e hC (show ax_c315[296]? = some (13, 0, 711, 0) by decide +kernel) (fun _ => nxt _ hR2 hW2) (fun w => absurd rfl w)
theorem law11 (h2 : HOP2 L X) (hX : ∀ i, ax_i (X i)) (hL : L ≤ 3072) (hk : 6 * k + 6 ≤ L) (hn : k ≤ 1000) (hR : Rel k M) (hWd : Wd M) {P : List ax_V → ax_M → Prop} (nxt : ∀ M2, Rel (k + 1) M2 → Wd M2 → ax_G L X SH 41 315 711 [(2, -2), (2, 0), (2, 142), (0, ((6 * k : Nat) : Int))] [] M2 P) : ax_G L X SH 41 315 299 [(2, -2), (2, 0), (2, 142), (0, ((6 * k : Nat) : Int))] [] M P := by
  have hC := at315
  have e : OPW L X k 0 111 225 [(2, 0), (0, X (6 * k + 1))] [(2, 142), (0, X (6 * k + 1))] M := OP.w (op11 (a := X (6 * k + 1)) hR) hWd rfl rfl
  unfold OPW at e
  refine g3 hC (show ax_c315[299]? = some (3, 2, 1, 0) by decide +kernel) rfl ?_
  refine g3 hC (show ax_c315[300]? = some (3, 2, 0, 0) by decide +kernel) rfl ?_
  refine g3 hC (show ax_c315[301]? = some (3, 0, 3, 0) by decide +kernel) rfl ?_
  refine g0 hC (show ax_c315[302]? = some (0, 0, 0, 1) by decide +kernel) ?_
  refine g6a hC (show ax_c315[303]? = some (6, 0, 0, 0) by decide +kernel) ⟨by omega, by omega⟩ ?_
  refine gX (p := 6 * k + 1) hC (show ax_c315[304]? = some (21, 0, 0, 0) by decide +kernel) (by omega) (by omega) hL ?_
  refine c1 hC (show ax_c315[305]? = some (27, 111, 2, 63) by decide +kernel) rfl rfl (Nat.le_of_ble_eq_true rfl) (Nat.le_of_ble_eq_true rfl) (by rfl) e (Nat.le_of_ble_eq_true rfl) (fun x M1 e1 => ?_)
  refine g3 hC (show ax_c315[306]? = some (3, 2, 2, 0) by decide +kernel) rfl ?_
  refine g3 hC (show ax_c315[307]? = some (3, 2, 0, 0) by decide +kernel) rfl ?_
  refine g3 hC (show ax_c315[308]? = some (3, 0, 3, 0) by decide +kernel) rfl ?_
  refine g0 hC (show ax_c315[309]? = some (0, 0, 0, 1) by decide +kernel) ?_
  refine g6a hC (show ax_c315[310]? = some (6, 0, 0, 0) by decide +kernel) ⟨by omega, by omega⟩ ?_
  refine gX (p := 6 * k + 1) hC (show ax_c315[311]? = some (21, 0, 0, 0) by decide +kernel) (by omega) (by omega) hL ?_
  refine c1 hC (show ax_c315[312]? = some (27, 225, 2, 66) by decide +kernel) rfl rfl (Nat.le_of_ble_eq_true rfl) (Nat.le_of_ble_eq_true rfl) (mayR k225 rfl) e1 (Nat.le_of_ble_eq_true rfl) (fun y M2 e2 => ?_)
  obtain ⟨rfl, hR2, hW2⟩ := e2
  exact g13e hC (show ax_c315[313]? = some (13, 0, 711, 0) by decide +kernel) (fun _ => nxt _ hR2 hW2) (fun w => absurd rfl w)
theorem law12 (h2 : HOP2 L X) (hX : ∀ i, ax_i (X i)) (hL : L ≤ 3072) (hk : 6 * k + 6 ≤ L) (hn : k ≤ 1000) (hR : Rel k M) (hWd : Wd M) {P : List ax_V → ax_M → Prop} (nxt : ∀ M2, Rel (k + 1) M2 → Wd M2 → ax_G L X SH 41 315 711 [(2, -2), (2, 0), (2, 142), (0, ((6 * k : Nat) : Int))] [] M2 P) : ax_G L X SH 41 315 316 [(2, -2), (2, 0), (2, 142), (0, ((6 * k : Nat) : Int))] [] M P := by
  have hC := at315
  have e : OPW L X k 0 112 226 [(2, 0), (0, X (6 * k + 1))] [(2, 142), (0, X (6 * k + 1))] M := OP.w (op12 (a := X (6 * k + 1)) hR) hWd rfl rfl
  unfold OPW at e
  refine g3 hC (show ax_c315[316]? = some (3, 2, 1, 0) by decide +kernel) rfl ?_
  refine g3 hC (show ax_c315[317]? = some (3, 2, 0, 0) by decide +kernel) rfl ?_
  refine g3 hC (show ax_c315[318]? = some (3, 0, 3, 0) by decide +kernel) rfl ?_
  refine g0 hC (show ax_c315[319]? = some (0, 0, 0, 1) by decide +kernel) ?_
  refine g6a hC (show ax_c315[320]? = some (6, 0, 0, 0) by decide +kernel) ⟨by omega, by omega⟩ ?_
  refine gX (p := 6 * k + 1) hC (show ax_c315[321]? = some (21, 0, 0, 0) by decide +kernel) (by omega) (by omega) hL ?_
  refine c1 hC (show ax_c315[322]? = some (27, 112, 2, 67) by decide +kernel) rfl rfl (Nat.le_of_ble_eq_true rfl) (Nat.le_of_ble_eq_true rfl) (by rfl) e (Nat.le_of_ble_eq_true rfl) (fun x M1 e1 => ?_)
  refine g3 hC (show ax_c315[323]? = some (3, 2, 2, 0) by decide +kernel) rfl ?_
  refine g3 hC (show ax_c315[324]? = some (3, 2, 0, 0) by decide +kernel) rfl ?_
  refine g3 hC (show ax_c315[325]? = some (3, 0, 3, 0) by decide +kernel) rfl ?_
  refine g0 hC (show ax_c315[326]? = some (0, 0, 0, 1) by decide +kernel) ?_
  refine g6a hC (show ax_c315[327]? = some (6, 0, 0, 0) by decide +kernel) ⟨by omega, by omega⟩ ?_
  refine gX (p := 6 * k + 1) hC (show ax_c315[328]? = some (21, 0, 0, 0) by decide +kernel) (by omega) (by omega) hL ?_
  refine c1 hC (show ax_c315[329]? = some (27, 226, 2, 70) by decide +kernel) rfl rfl (Nat.le_of_ble_eq_true rfl) (Nat.le_of_ble_eq_true rfl) (mayR k226 rfl) e1 (Nat.le_of_ble_eq_true rfl) (fun y M2 e2 => ?_)
  obtain ⟨rfl, hR2, hW2⟩ := e2
  exact g13e hC (show ax_c315[330]? = some (13, 0, 711, 0) by decide +kernel) (fun _ => nxt _ hR2 hW2) (fun w => absurd rfl w)
theorem law13 (h2 : HOP2 L X) (hX : ∀ i, ax_i (X i)) (hL : L ≤ 3072) (hk : 6 * k + 6 ≤ L) (hn : k ≤ 1000) (hR : Rel k M) (hWd : Wd M) {P : List ax_V → ax_M → Prop} (nxt : ∀ M2, Rel (k + 1) M2 → Wd M2 → ax_G L X SH 41 315 711 [(2, -2), (2, 0), (2, 142), (0, ((6 * k : Nat) : Int))] [] M2 P) : ax_G L X SH 41 315 333 [(2, -2), (2, 0), (2, 142), (0, ((6 * k : Nat) : Int))] [] M P := by
  have hC := at315
  have e : OPW L X k 0 113 227 [(2, 0), (0, X (6 * k + 1)), (0, X (6 * k + 2))] [(2, 142), (0, X (6 * k + 1)), (0, X (6 * k + 2))] M := OP.w (op13 (a := X (6 * k + 1)) (b := X (6 * k + 2)) hR) hWd rfl rfl
  unfold OPW at e
  refine g3 hC (show ax_c315[333]? = some (3, 2, 1, 0) by decide +kernel) rfl ?_
  refine g3 hC (show ax_c315[334]? = some (3, 2, 0, 0) by decide +kernel) rfl ?_
  refine g3 hC (show ax_c315[335]? = some (3, 0, 3, 0) by decide +kernel) rfl ?_
  refine g0 hC (show ax_c315[336]? = some (0, 0, 0, 1) by decide +kernel) ?_
  refine g6a hC (show ax_c315[337]? = some (6, 0, 0, 0) by decide +kernel) ⟨by omega, by omega⟩ ?_
  refine gX (p := 6 * k + 1) hC (show ax_c315[338]? = some (21, 0, 0, 0) by decide +kernel) (by omega) (by omega) hL ?_
  refine g3 hC (show ax_c315[339]? = some (3, 2, 0, 0) by decide +kernel) rfl ?_
  refine g3 hC (show ax_c315[340]? = some (3, 0, 3, 0) by decide +kernel) rfl ?_
  refine g0 hC (show ax_c315[341]? = some (0, 0, 0, 2) by decide +kernel) ?_
  refine g6a hC (show ax_c315[342]? = some (6, 0, 0, 0) by decide +kernel) ⟨by omega, by omega⟩ ?_
  refine gX (p := 6 * k + 2) hC (show ax_c315[343]? = some (21, 0, 0, 0) by decide +kernel) (by omega) (by omega) hL ?_
  refine c1 hC (show ax_c315[344]? = some (27, 113, 3, 71) by decide +kernel) rfl rfl (Nat.le_of_ble_eq_true rfl) (Nat.le_of_ble_eq_true rfl) (by rfl) e (Nat.le_of_ble_eq_true rfl) (fun x M1 e1 => ?_)
  refine g3 hC (show ax_c315[345]? = some (3, 2, 2, 0) by decide +kernel) rfl ?_
  refine g3 hC (show ax_c315[346]? = some (3, 2, 0, 0) by decide +kernel) rfl ?_
  refine g3 hC (show ax_c315[347]? = some (3, 0, 3, 0) by decide +kernel) rfl ?_
  refine g0 hC (show ax_c315[348]? = some (0, 0, 0, 1) by decide +kernel) ?_
  refine g6a hC (show ax_c315[349]? = some (6, 0, 0, 0) by decide +kernel) ⟨by omega, by omega⟩ ?_
  refine gX (p := 6 * k + 1) hC (show ax_c315[350]? = some (21, 0, 0, 0) by decide +kernel) (by omega) (by omega) hL ?_
  refine g3 hC (show ax_c315[351]? = some (3, 2, 0, 0) by decide +kernel) rfl ?_
  refine g3 hC (show ax_c315[352]? = some (3, 0, 3, 0) by decide +kernel) rfl ?_
  refine g0 hC (show ax_c315[353]? = some (0, 0, 0, 2) by decide +kernel) ?_
  refine g6a hC (show ax_c315[354]? = some (6, 0, 0, 0) by decide +kernel) ⟨by omega, by omega⟩ ?_
  refine gX (p := 6 * k + 2) hC (show ax_c315[355]? = some (21, 0, 0, 0) by decide +kernel) (by omega) (by omega) hL ?_
  refine c1 hC (show ax_c315[356]? = some (27, 227, 3, 74) by decide +kernel) rfl rfl (Nat.le_of_ble_eq_true rfl) (Nat.le_of_ble_eq_true rfl) (mayR k227 rfl) e1 (Nat.le_of_ble_eq_true rfl) (fun y M2 e2 => ?_)
  obtain ⟨rfl, hR2, hW2⟩ := e2
  exact g13e hC (show ax_c315[357]? = some (13, 0, 711, 0) by decide +kernel) (fun _ => nxt _ hR2 hW2) (fun w => absurd rfl w)
theorem law14 (h2 : HOP2 L X) (hX : ∀ i, ax_i (X i)) (hL : L ≤ 3072) (hk : 6 * k + 6 ≤ L) (hn : k ≤ 1000) (hR : Rel k M) (hWd : Wd M) {P : List ax_V → ax_M → Prop} (nxt : ∀ M2, Rel (k + 1) M2 → Wd M2 → ax_G L X SH 41 315 711 [(2, -2), (2, 0), (2, 142), (0, ((6 * k : Nat) : Int))] [] M2 P) : ax_G L X SH 41 315 360 [(2, -2), (2, 0), (2, 142), (0, ((6 * k : Nat) : Int))] [] M P := by
  have hC := at315
  have e : OPW L X k 0 114 228 [(2, 0), (0, X (6 * k + 1)), (0, X (6 * k + 2))] [(2, 142), (0, X (6 * k + 1)), (0, X (6 * k + 2))] M := OP.w (op14 (a := X (6 * k + 1)) (b := X (6 * k + 2)) hR) hWd rfl rfl
  unfold OPW at e
  refine g3 hC (show ax_c315[360]? = some (3, 2, 1, 0) by decide +kernel) rfl ?_
  refine g3 hC (show ax_c315[361]? = some (3, 2, 0, 0) by decide +kernel) rfl ?_
  refine g3 hC (show ax_c315[362]? = some (3, 0, 3, 0) by decide +kernel) rfl ?_
  refine g0 hC (show ax_c315[363]? = some (0, 0, 0, 1) by decide +kernel) ?_
  refine g6a hC (show ax_c315[364]? = some (6, 0, 0, 0) by decide +kernel) ⟨by omega, by omega⟩ ?_
  refine gX (p := 6 * k + 1) hC (show ax_c315[365]? = some (21, 0, 0, 0) by decide +kernel) (by omega) (by omega) hL ?_
  refine g3 hC (show ax_c315[366]? = some (3, 2, 0, 0) by decide +kernel) rfl ?_
  refine g3 hC (show ax_c315[367]? = some (3, 0, 3, 0) by decide +kernel) rfl ?_
  refine g0 hC (show ax_c315[368]? = some (0, 0, 0, 2) by decide +kernel) ?_
  refine g6a hC (show ax_c315[369]? = some (6, 0, 0, 0) by decide +kernel) ⟨by omega, by omega⟩ ?_
  refine gX (p := 6 * k + 2) hC (show ax_c315[370]? = some (21, 0, 0, 0) by decide +kernel) (by omega) (by omega) hL ?_
  refine c1 hC (show ax_c315[371]? = some (27, 114, 3, 75) by decide +kernel) rfl rfl (Nat.le_of_ble_eq_true rfl) (Nat.le_of_ble_eq_true rfl) (by rfl) e (Nat.le_of_ble_eq_true rfl) (fun x M1 e1 => ?_)
  refine g3 hC (show ax_c315[372]? = some (3, 2, 2, 0) by decide +kernel) rfl ?_
  refine g3 hC (show ax_c315[373]? = some (3, 2, 0, 0) by decide +kernel) rfl ?_
  refine g3 hC (show ax_c315[374]? = some (3, 0, 3, 0) by decide +kernel) rfl ?_
  refine g0 hC (show ax_c315[375]? = some (0, 0, 0, 1) by decide +kernel) ?_
  refine g6a hC (show ax_c315[376]? = some (6, 0, 0, 0) by decide +kernel) ⟨by omega, by omega⟩ ?_
  refine gX (p := 6 * k + 1) hC (show ax_c315[377]? = some (21, 0, 0, 0) by decide +kernel) (by omega) (by omega) hL ?_
  refine g3 hC (show ax_c315[378]? = some (3, 2, 0, 0) by decide +kernel) rfl ?_
  refine g3 hC (show ax_c315[379]? = some (3, 0, 3, 0) by decide +kernel) rfl ?_
  refine g0 hC (show ax_c315[380]? = some (0, 0, 0, 2) by decide +kernel) ?_
  refine g6a hC (show ax_c315[381]? = some (6, 0, 0, 0) by decide +kernel) ⟨by omega, by omega⟩ ?_
  refine gX (p := 6 * k + 2) hC (show ax_c315[382]? = some (21, 0, 0, 0) by decide +kernel) (by omega) (by omega) hL ?_
  refine c1 hC (show ax_c315[383]? = some (27, 228, 3, 78) by decide +kernel) rfl rfl (Nat.le_of_ble_eq_true rfl) (Nat.le_of_ble_eq_true rfl) (mayR k228 rfl) e1 (Nat.le_of_ble_eq_true rfl) (fun y M2 e2 => ?_)
  obtain ⟨rfl, hR2, hW2⟩ := e2
  exact g13e hC (show ax_c315[384]? = some (13, 0, 711, 0) by decide +kernel) (fun _ => nxt _ hR2 hW2) (fun w => absurd rfl w)
theorem law15 (h2 : HOP2 L X) (hX : ∀ i, ax_i (X i)) (hL : L ≤ 3072) (hk : 6 * k + 6 ≤ L) (hn : k ≤ 1000) (hR : Rel k M) (hWd : Wd M) {P : List ax_V → ax_M → Prop} (nxt : ∀ M2, Rel (k + 1) M2 → Wd M2 → ax_G L X SH 41 315 711 [(2, -2), (2, 0), (2, 142), (0, ((6 * k : Nat) : Int))] [] M2 P) : ax_G L X SH 41 315 387 [(2, -2), (2, 0), (2, 142), (0, ((6 * k : Nat) : Int))] [] M P := by
  have hC := at315
  have e : OPW L X k 0 115 229 [(2, 0)] [(2, 142)] M := OP.w (op15 hR) hWd rfl rfl
  unfold OPW at e
  refine g3 hC (show ax_c315[387]? = some (3, 2, 1, 0) by decide +kernel) rfl ?_
  refine c1 hC (show ax_c315[388]? = some (27, 115, 1, 79) by decide +kernel) rfl rfl (Nat.le_of_ble_eq_true rfl) (Nat.le_of_ble_eq_true rfl) (by rfl) e (Nat.le_of_ble_eq_true rfl) (fun x M1 e1 => ?_)
  refine g3 hC (show ax_c315[389]? = some (3, 2, 2, 0) by decide +kernel) rfl ?_
  refine c1 hC (show ax_c315[390]? = some (27, 229, 1, 82) by decide +kernel) rfl rfl (Nat.le_of_ble_eq_true rfl) (Nat.le_of_ble_eq_true rfl) (mayR k229 rfl) e1 (Nat.le_of_ble_eq_true rfl) (fun y M2 e2 => ?_)
  obtain ⟨rfl, hR2, hW2⟩ := e2
  exact g13e hC (show ax_c315[391]? = some (13, 0, 711, 0) by decide +kernel) (fun _ => nxt _ hR2 hW2) (fun w => absurd rfl w)
theorem law16 (h2 : HOP2 L X) (hX : ∀ i, ax_i (X i)) (hL : L ≤ 3072) (hk : 6 * k + 6 ≤ L) (hn : k ≤ 1000) (hR : Rel k M) (hWd : Wd M) {P : List ax_V → ax_M → Prop} (nxt : ∀ M2, Rel (k + 1) M2 → Wd M2 → ax_G L X SH 41 315 711 [(2, -2), (2, 0), (2, 142), (0, ((6 * k : Nat) : Int))] [] M2 P) : ax_G L X SH 41 315 394 [(2, -2), (2, 0), (2, 142), (0, ((6 * k : Nat) : Int))] [] M P := by
  have hC := at315
  have e : OPW L X k 0 116 230 [(2, 0)] [(2, 142)] M := OP.w (op16 hR) hWd rfl rfl
  unfold OPW at e
  refine g3 hC (show ax_c315[394]? = some (3, 2, 1, 0) by decide +kernel) rfl ?_
  refine c1 hC (show ax_c315[395]? = some (27, 116, 1, 83) by decide +kernel) rfl rfl (Nat.le_of_ble_eq_true rfl) (Nat.le_of_ble_eq_true rfl) (by rfl) e (Nat.le_of_ble_eq_true rfl) (fun x M1 e1 => ?_)
  refine g3 hC (show ax_c315[396]? = some (3, 2, 2, 0) by decide +kernel) rfl ?_
  refine c1 hC (show ax_c315[397]? = some (27, 230, 1, 86) by decide +kernel) rfl rfl (Nat.le_of_ble_eq_true rfl) (Nat.le_of_ble_eq_true rfl) (mayR k230 rfl) e1 (Nat.le_of_ble_eq_true rfl) (fun y M2 e2 => ?_)
  obtain ⟨rfl, hR2, hW2⟩ := e2
  exact g13e hC (show ax_c315[398]? = some (13, 0, 711, 0) by decide +kernel) (fun _ => nxt _ hR2 hW2) (fun w => absurd rfl w)
theorem law17 (h2 : HOP2 L X) (hX : ∀ i, ax_i (X i)) (hL : L ≤ 3072) (hk : 6 * k + 6 ≤ L) (hn : k ≤ 1000) (hR : Rel k M) (hWd : Wd M) {P : List ax_V → ax_M → Prop} (nxt : ∀ M2, Rel (k + 1) M2 → Wd M2 → ax_G L X SH 41 315 711 [(2, -2), (2, 0), (2, 142), (0, ((6 * k : Nat) : Int))] [] M2 P) : ax_G L X SH 41 315 401 [(2, -2), (2, 0), (2, 142), (0, ((6 * k : Nat) : Int))] [] M P := by
  have hC := at315
  have e : OPW L X k 0 117 232 [(2, 0), (0, X (6 * k + 1))] [(2, 142), (0, X (6 * k + 1))] M := OP.w (op17 (a := X (6 * k + 1)) hR) hWd rfl rfl
  unfold OPW at e
  refine g3 hC (show ax_c315[401]? = some (3, 2, 1, 0) by decide +kernel) rfl ?_
  refine g3 hC (show ax_c315[402]? = some (3, 2, 0, 0) by decide +kernel) rfl ?_
  refine g3 hC (show ax_c315[403]? = some (3, 0, 3, 0) by decide +kernel) rfl ?_
  refine g0 hC (show ax_c315[404]? = some (0, 0, 0, 1) by decide +kernel) ?_
  refine g6a hC (show ax_c315[405]? = some (6, 0, 0, 0) by decide +kernel) ⟨by omega, by omega⟩ ?_
  refine gX (p := 6 * k + 1) hC (show ax_c315[406]? = some (21, 0, 0, 0) by decide +kernel) (by omega) (by omega) hL ?_
  refine c1 hC (show ax_c315[407]? = some (27, 117, 2, 87) by decide +kernel) rfl rfl (Nat.le_of_ble_eq_true rfl) (Nat.le_of_ble_eq_true rfl) (by rfl) e (Nat.le_of_ble_eq_true rfl) (fun x M1 e1 => ?_)
  refine g3 hC (show ax_c315[408]? = some (3, 2, 2, 0) by decide +kernel) rfl ?_
  refine g3 hC (show ax_c315[409]? = some (3, 2, 0, 0) by decide +kernel) rfl ?_
  refine g3 hC (show ax_c315[410]? = some (3, 0, 3, 0) by decide +kernel) rfl ?_
  refine g0 hC (show ax_c315[411]? = some (0, 0, 0, 1) by decide +kernel) ?_
  refine g6a hC (show ax_c315[412]? = some (6, 0, 0, 0) by decide +kernel) ⟨by omega, by omega⟩ ?_
  refine gX (p := 6 * k + 1) hC (show ax_c315[413]? = some (21, 0, 0, 0) by decide +kernel) (by omega) (by omega) hL ?_
  refine c1 hC (show ax_c315[414]? = some (27, 232, 2, 90) by decide +kernel) rfl rfl (Nat.le_of_ble_eq_true rfl) (Nat.le_of_ble_eq_true rfl) (mayR k232 rfl) e1 (Nat.le_of_ble_eq_true rfl) (fun y M2 e2 => ?_)
  obtain ⟨rfl, hR2, hW2⟩ := e2
  exact g13e hC (show ax_c315[415]? = some (13, 0, 711, 0) by decide +kernel) (fun _ => nxt _ hR2 hW2) (fun w => absurd rfl w)
theorem law18 (h2 : HOP2 L X) (hX : ∀ i, ax_i (X i)) (hL : L ≤ 3072) (hk : 6 * k + 6 ≤ L) (hn : k ≤ 1000) (hR : Rel k M) (hWd : Wd M) {P : List ax_V → ax_M → Prop} (nxt : ∀ M2, Rel (k + 1) M2 → Wd M2 → ax_G L X SH 41 315 711 [(2, -2), (2, 0), (2, 142), (0, ((6 * k : Nat) : Int))] [] M2 P) : ax_G L X SH 41 315 418 [(2, -2), (2, 0), (2, 142), (0, ((6 * k : Nat) : Int))] [] M P := by
  have hC := at315
  have e : OPW L X k 0 118 233 [(2, 0)] [(2, 142)] M := OP.w (op18 hR) hWd rfl rfl
  unfold OPW at e
  refine g3 hC (show ax_c315[418]? = some (3, 2, 1, 0) by decide +kernel) rfl ?_
  refine c1 hC (show ax_c315[419]? = some (27, 118, 1, 91) by decide +kernel) rfl rfl (Nat.le_of_ble_eq_true rfl) (Nat.le_of_ble_eq_true rfl) (by rfl) e (Nat.le_of_ble_eq_true rfl) (fun x M1 e1 => ?_)
  refine g3 hC (show ax_c315[420]? = some (3, 2, 2, 0) by decide +kernel) rfl ?_
  refine c1 hC (show ax_c315[421]? = some (27, 233, 1, 94) by decide +kernel) rfl rfl (Nat.le_of_ble_eq_true rfl) (Nat.le_of_ble_eq_true rfl) (mayR k233 rfl) e1 (Nat.le_of_ble_eq_true rfl) (fun y M2 e2 => ?_)
  obtain ⟨rfl, hR2, hW2⟩ := e2
  exact g13e hC (show ax_c315[422]? = some (13, 0, 711, 0) by decide +kernel) (fun _ => nxt _ hR2 hW2) (fun w => absurd rfl w)
theorem law19 (h2 : HOP2 L X) (hX : ∀ i, ax_i (X i)) (hL : L ≤ 3072) (hk : 6 * k + 6 ≤ L) (hn : k ≤ 1000) (hR : Rel k M) (hWd : Wd M) {P : List ax_V → ax_M → Prop} (nxt : ∀ M2, Rel (k + 1) M2 → Wd M2 → ax_G L X SH 41 315 711 [(2, -2), (2, 0), (2, 142), (0, ((6 * k : Nat) : Int))] [] M2 P) : ax_G L X SH 41 315 425 [(2, -2), (2, 0), (2, 142), (0, ((6 * k : Nat) : Int))] [] M P := by
  have hC := at315
  have e : OPW L X k 0 119 236 [(2, 0)] [(2, 142)] M := OP.w (op19 hR) hWd rfl rfl
  unfold OPW at e
  refine g3 hC (show ax_c315[425]? = some (3, 2, 1, 0) by decide +kernel) rfl ?_
  refine c1 hC (show ax_c315[426]? = some (27, 119, 1, 95) by decide +kernel) rfl rfl (Nat.le_of_ble_eq_true rfl) (Nat.le_of_ble_eq_true rfl) (by rfl) e (Nat.le_of_ble_eq_true rfl) (fun x M1 e1 => ?_)
  refine g3 hC (show ax_c315[427]? = some (3, 2, 2, 0) by decide +kernel) rfl ?_
  refine c1 hC (show ax_c315[428]? = some (27, 236, 1, 98) by decide +kernel) rfl rfl (Nat.le_of_ble_eq_true rfl) (Nat.le_of_ble_eq_true rfl) (mayR k236 rfl) e1 (Nat.le_of_ble_eq_true rfl) (fun y M2 e2 => ?_)
  obtain ⟨rfl, hR2, hW2⟩ := e2
  exact g13e hC (show ax_c315[429]? = some (13, 0, 711, 0) by decide +kernel) (fun _ => nxt _ hR2 hW2) (fun w => absurd rfl w)
theorem law20 (h2 : HOP2 L X) (hX : ∀ i, ax_i (X i)) (hL : L ≤ 3072) (hk : 6 * k + 6 ≤ L) (hn : k ≤ 1000) (hR : Rel k M) (hWd : Wd M) {P : List ax_V → ax_M → Prop} (nxt : ∀ M2, Rel (k + 1) M2 → Wd M2 → ax_G L X SH 41 315 711 [(2, -2), (2, 0), (2, 142), (0, ((6 * k : Nat) : Int))] [] M2 P) : ax_G L X SH 41 315 432 [(2, -2), (2, 0), (2, 142), (0, ((6 * k : Nat) : Int))] [] M P := by
  have hC := at315
  have e : OPW L X k 1 120 239 [(2, 0), (0, X (6 * k + 1)), (0, X (6 * k + 2))] [(2, 142), (0, X (6 * k + 1)), (0, X (6 * k + 2))] M := OP.w (op20 (a := X (6 * k + 1)) (b := X (6 * k + 2)) hR) hWd rfl rfl
  unfold OPW at e
  refine g3 hC (show ax_c315[432]? = some (3, 2, 1, 0) by decide +kernel) rfl ?_
  refine g3 hC (show ax_c315[433]? = some (3, 2, 0, 0) by decide +kernel) rfl ?_
  refine g3 hC (show ax_c315[434]? = some (3, 0, 3, 0) by decide +kernel) rfl ?_
  refine g0 hC (show ax_c315[435]? = some (0, 0, 0, 1) by decide +kernel) ?_
  refine g6a hC (show ax_c315[436]? = some (6, 0, 0, 0) by decide +kernel) ⟨by omega, by omega⟩ ?_
  refine gX (p := 6 * k + 1) hC (show ax_c315[437]? = some (21, 0, 0, 0) by decide +kernel) (by omega) (by omega) hL ?_
  refine g3 hC (show ax_c315[438]? = some (3, 2, 0, 0) by decide +kernel) rfl ?_
  refine g3 hC (show ax_c315[439]? = some (3, 0, 3, 0) by decide +kernel) rfl ?_
  refine g0 hC (show ax_c315[440]? = some (0, 0, 0, 2) by decide +kernel) ?_
  refine g6a hC (show ax_c315[441]? = some (6, 0, 0, 0) by decide +kernel) ⟨by omega, by omega⟩ ?_
  refine gX (p := 6 * k + 2) hC (show ax_c315[442]? = some (21, 0, 0, 0) by decide +kernel) (by omega) (by omega) hL ?_
  refine c1 hC (show ax_c315[443]? = some (27, 120, 3, 99) by decide +kernel) rfl rfl (Nat.le_of_ble_eq_true rfl) (Nat.le_of_ble_eq_true rfl) (by rfl) e (Nat.le_of_ble_eq_true rfl) (fun x M1 e1 => ?_)
  refine g3 hC (show ax_c315[444]? = some (3, 2, 2, 0) by decide +kernel) rfl ?_
  refine g3 hC (show ax_c315[445]? = some (3, 2, 0, 0) by decide +kernel) rfl ?_
  refine g3 hC (show ax_c315[446]? = some (3, 0, 3, 0) by decide +kernel) rfl ?_
  refine g0 hC (show ax_c315[447]? = some (0, 0, 0, 1) by decide +kernel) ?_
  refine g6a hC (show ax_c315[448]? = some (6, 0, 0, 0) by decide +kernel) ⟨by omega, by omega⟩ ?_
  refine gX (p := 6 * k + 1) hC (show ax_c315[449]? = some (21, 0, 0, 0) by decide +kernel) (by omega) (by omega) hL ?_
  refine g3 hC (show ax_c315[450]? = some (3, 2, 0, 0) by decide +kernel) rfl ?_
  refine g3 hC (show ax_c315[451]? = some (3, 0, 3, 0) by decide +kernel) rfl ?_
  refine g0 hC (show ax_c315[452]? = some (0, 0, 0, 2) by decide +kernel) ?_
  refine g6a hC (show ax_c315[453]? = some (6, 0, 0, 0) by decide +kernel) ⟨by omega, by omega⟩ ?_
  refine gX (p := 6 * k + 2) hC (show ax_c315[454]? = some (21, 0, 0, 0) by decide +kernel) (by omega) (by omega) hL ?_
  refine c1 hC (show ax_c315[455]? = some (27, 239, 3, 103) by decide +kernel) rfl rfl (Nat.le_of_ble_eq_true rfl) (Nat.le_of_ble_eq_true rfl) (mayR k239 rfl) e1 (Nat.le_of_ble_eq_true rfl) (fun y M2 e2 => ?_)
  obtain ⟨rfl, hR2, hW2⟩ := e2
  refine g11 hC (show ax_c315[456]? = some (11, 0, 0, 0) by decide +kernel) ?_
  exact g12e hC (show ax_c315[457]? = some (12, 0, 711, 0) by decide +kernel) (fun _ => nxt _ hR2 hW2) (fun w => absurd (by unfold ax_cmp; rw [if_neg (by omega), if_pos rfl]) w)
theorem law21 (h2 : HOP2 L X) (hX : ∀ i, ax_i (X i)) (hL : L ≤ 3072) (hk : 6 * k + 6 ≤ L) (hn : k ≤ 1000) (hR : Rel k M) (hWd : Wd M) {P : List ax_V → ax_M → Prop} (nxt : ∀ M2, Rel (k + 1) M2 → Wd M2 → ax_G L X SH 41 315 711 [(2, -2), (2, 0), (2, 142), (0, ((6 * k : Nat) : Int))] [] M2 P) : ax_G L X SH 41 315 460 [(2, -2), (2, 0), (2, 142), (0, ((6 * k : Nat) : Int))] [] M P := by
  have hC := at315
  have e : OPW L X k 1 121 244 [(2, 0)] [(2, 142)] M := OP.w (op21 hR) hWd rfl rfl
  unfold OPW at e
  refine g3 hC (show ax_c315[460]? = some (3, 2, 1, 0) by decide +kernel) rfl ?_
  refine c1 hC (show ax_c315[461]? = some (27, 121, 1, 104) by decide +kernel) rfl rfl (Nat.le_of_ble_eq_true rfl) (Nat.le_of_ble_eq_true rfl) (by rfl) e (Nat.le_of_ble_eq_true rfl) (fun x M1 e1 => ?_)
  refine g3 hC (show ax_c315[462]? = some (3, 2, 2, 0) by decide +kernel) rfl ?_
  refine c1 hC (show ax_c315[463]? = some (27, 244, 1, 108) by decide +kernel) rfl rfl (Nat.le_of_ble_eq_true rfl) (Nat.le_of_ble_eq_true rfl) (mayR k244 rfl) e1 (Nat.le_of_ble_eq_true rfl) (fun y M2 e2 => ?_)
  obtain ⟨rfl, hR2, hW2⟩ := e2
  refine g11 hC (show ax_c315[464]? = some (11, 0, 0, 0) by decide +kernel) ?_
  exact g12e hC (show ax_c315[465]? = some (12, 0, 711, 0) by decide +kernel) (fun _ => nxt _ hR2 hW2) (fun w => absurd (by unfold ax_cmp; rw [if_neg (by omega), if_pos rfl]) w)
theorem law22 (h2 : HOP2 L X) (hX : ∀ i, ax_i (X i)) (hL : L ≤ 3072) (hk : 6 * k + 6 ≤ L) (hn : k ≤ 1000) (hR : Rel k M) (hWd : Wd M) {P : List ax_V → ax_M → Prop} (nxt : ∀ M2, Rel (k + 1) M2 → Wd M2 → ax_G L X SH 41 315 711 [(2, -2), (2, 0), (2, 142), (0, ((6 * k : Nat) : Int))] [] M2 P) : ax_G L X SH 41 315 468 [(2, -2), (2, 0), (2, 142), (0, ((6 * k : Nat) : Int))] [] M P := by
  have hC := at315
  have e : OPW L X k 0 122 245 [(2, 0), (0, X (6 * k + 1))] [(2, 142), (0, X (6 * k + 1))] M := OP.w (op22 (a := X (6 * k + 1)) hR) hWd rfl rfl
  unfold OPW at e
  refine g3 hC (show ax_c315[468]? = some (3, 2, 1, 0) by decide +kernel) rfl ?_
  refine g3 hC (show ax_c315[469]? = some (3, 2, 0, 0) by decide +kernel) rfl ?_
  refine g3 hC (show ax_c315[470]? = some (3, 0, 3, 0) by decide +kernel) rfl ?_
  refine g0 hC (show ax_c315[471]? = some (0, 0, 0, 1) by decide +kernel) ?_
  refine g6a hC (show ax_c315[472]? = some (6, 0, 0, 0) by decide +kernel) ⟨by omega, by omega⟩ ?_
  refine gX (p := 6 * k + 1) hC (show ax_c315[473]? = some (21, 0, 0, 0) by decide +kernel) (by omega) (by omega) hL ?_
  refine c1 hC (show ax_c315[474]? = some (27, 122, 2, 109) by decide +kernel) rfl rfl (Nat.le_of_ble_eq_true rfl) (Nat.le_of_ble_eq_true rfl) (by rfl) e (Nat.le_of_ble_eq_true rfl) (fun x M1 e1 => ?_)
  refine g3 hC (show ax_c315[475]? = some (3, 2, 2, 0) by decide +kernel) rfl ?_
  refine g3 hC (show ax_c315[476]? = some (3, 2, 0, 0) by decide +kernel) rfl ?_
  refine g3 hC (show ax_c315[477]? = some (3, 0, 3, 0) by decide +kernel) rfl ?_
  refine g0 hC (show ax_c315[478]? = some (0, 0, 0, 1) by decide +kernel) ?_
  refine g6a hC (show ax_c315[479]? = some (6, 0, 0, 0) by decide +kernel) ⟨by omega, by omega⟩ ?_
  refine gX (p := 6 * k + 1) hC (show ax_c315[480]? = some (21, 0, 0, 0) by decide +kernel) (by omega) (by omega) hL ?_
  refine c1 hC (show ax_c315[481]? = some (27, 245, 2, 112) by decide +kernel) rfl rfl (Nat.le_of_ble_eq_true rfl) (Nat.le_of_ble_eq_true rfl) (mayR k245 rfl) e1 (Nat.le_of_ble_eq_true rfl) (fun y M2 e2 => ?_)
  obtain ⟨rfl, hR2, hW2⟩ := e2
  exact g13e hC (show ax_c315[482]? = some (13, 0, 711, 0) by decide +kernel) (fun _ => nxt _ hR2 hW2) (fun w => absurd rfl w)
theorem law23 (h2 : HOP2 L X) (hX : ∀ i, ax_i (X i)) (hL : L ≤ 3072) (hk : 6 * k + 6 ≤ L) (hn : k ≤ 1000) (hR : Rel k M) (hWd : Wd M) {P : List ax_V → ax_M → Prop} (nxt : ∀ M2, Rel (k + 1) M2 → Wd M2 → ax_G L X SH 41 315 711 [(2, -2), (2, 0), (2, 142), (0, ((6 * k : Nat) : Int))] [] M2 P) : ax_G L X SH 41 315 485 [(2, -2), (2, 0), (2, 142), (0, ((6 * k : Nat) : Int))] [] M P := by
  have hC := at315
  have e : OPW L X k 0 123 246 [(2, 0), (0, X (6 * k + 1))] [(2, 142), (0, X (6 * k + 1))] M := OP.w (op23 (a := X (6 * k + 1)) hR) hWd rfl rfl
  unfold OPW at e
  refine g3 hC (show ax_c315[485]? = some (3, 2, 1, 0) by decide +kernel) rfl ?_
  refine g3 hC (show ax_c315[486]? = some (3, 2, 0, 0) by decide +kernel) rfl ?_
  refine g3 hC (show ax_c315[487]? = some (3, 0, 3, 0) by decide +kernel) rfl ?_
  refine g0 hC (show ax_c315[488]? = some (0, 0, 0, 1) by decide +kernel) ?_
  refine g6a hC (show ax_c315[489]? = some (6, 0, 0, 0) by decide +kernel) ⟨by omega, by omega⟩ ?_
  refine gX (p := 6 * k + 1) hC (show ax_c315[490]? = some (21, 0, 0, 0) by decide +kernel) (by omega) (by omega) hL ?_
  refine c1 hC (show ax_c315[491]? = some (27, 123, 2, 113) by decide +kernel) rfl rfl (Nat.le_of_ble_eq_true rfl) (Nat.le_of_ble_eq_true rfl) (by rfl) e (Nat.le_of_ble_eq_true rfl) (fun x M1 e1 => ?_)
  refine g3 hC (show ax_c315[492]? = some (3, 2, 2, 0) by decide +kernel) rfl ?_
  refine g3 hC (show ax_c315[493]? = some (3, 2, 0, 0) by decide +kernel) rfl ?_
  refine g3 hC (show ax_c315[494]? = some (3, 0, 3, 0) by decide +kernel) rfl ?_
  refine g0 hC (show ax_c315[495]? = some (0, 0, 0, 1) by decide +kernel) ?_
  refine g6a hC (show ax_c315[496]? = some (6, 0, 0, 0) by decide +kernel) ⟨by omega, by omega⟩ ?_
  refine gX (p := 6 * k + 1) hC (show ax_c315[497]? = some (21, 0, 0, 0) by decide +kernel) (by omega) (by omega) hL ?_
  refine c1 hC (show ax_c315[498]? = some (27, 246, 2, 116) by decide +kernel) rfl rfl (Nat.le_of_ble_eq_true rfl) (Nat.le_of_ble_eq_true rfl) (mayR k246 rfl) e1 (Nat.le_of_ble_eq_true rfl) (fun y M2 e2 => ?_)
  obtain ⟨rfl, hR2, hW2⟩ := e2
  exact g13e hC (show ax_c315[499]? = some (13, 0, 711, 0) by decide +kernel) (fun _ => nxt _ hR2 hW2) (fun w => absurd rfl w)
theorem law24 (h2 : HOP2 L X) (hX : ∀ i, ax_i (X i)) (hL : L ≤ 3072) (hk : 6 * k + 6 ≤ L) (hn : k ≤ 1000) (hR : Rel k M) (hWd : Wd M) {P : List ax_V → ax_M → Prop} (nxt : ∀ M2, Rel (k + 1) M2 → Wd M2 → ax_G L X SH 41 315 711 [(2, -2), (2, 0), (2, 142), (0, ((6 * k : Nat) : Int))] [] M2 P) : ax_G L X SH 41 315 502 [(2, -2), (2, 0), (2, 142), (0, ((6 * k : Nat) : Int))] [] M P := by
  have hC := at315
  have e : OPW L X k 0 124 248 [(2, 0)] [(2, 142)] M := OP.w (op24 hR hn) hWd rfl rfl
  unfold OPW at e
  refine g3 hC (show ax_c315[502]? = some (3, 2, 1, 0) by decide +kernel) rfl ?_
  refine c1 hC (show ax_c315[503]? = some (27, 124, 1, 117) by decide +kernel) rfl rfl (Nat.le_of_ble_eq_true rfl) (Nat.le_of_ble_eq_true rfl) (by rfl) e (Nat.le_of_ble_eq_true rfl) (fun x M1 e1 => ?_)
  refine g3 hC (show ax_c315[504]? = some (3, 2, 2, 0) by decide +kernel) rfl ?_
  refine c1 hC (show ax_c315[505]? = some (27, 248, 1, 120) by decide +kernel) rfl rfl (Nat.le_of_ble_eq_true rfl) (Nat.le_of_ble_eq_true rfl) (mayR k248 rfl) e1 (Nat.le_of_ble_eq_true rfl) (fun y M2 e2 => ?_)
  obtain ⟨rfl, hR2, hW2⟩ := e2
  exact g13e hC (show ax_c315[506]? = some (13, 0, 711, 0) by decide +kernel) (fun _ => nxt _ hR2 hW2) (fun w => absurd rfl w)
theorem law25 (h2 : HOP2 L X) (hX : ∀ i, ax_i (X i)) (hL : L ≤ 3072) (hk : 6 * k + 6 ≤ L) (hn : k ≤ 1000) (hR : Rel k M) (hWd : Wd M) {P : List ax_V → ax_M → Prop} (nxt : ∀ M2, Rel (k + 1) M2 → Wd M2 → ax_G L X SH 41 315 711 [(2, -2), (2, 0), (2, 142), (0, ((6 * k : Nat) : Int))] [] M2 P) : ax_G L X SH 41 315 509 [(2, -2), (2, 0), (2, 142), (0, ((6 * k : Nat) : Int))] [] M P := by
  have hC := at315
  have e : OPW L X k 0 125 251 [(2, 0), (0, X (6 * k + 1))] [(2, 142), (0, X (6 * k + 1))] M := OP.w (op25 (a := X (6 * k + 1)) hR) hWd rfl rfl
  unfold OPW at e
  refine g3 hC (show ax_c315[509]? = some (3, 2, 1, 0) by decide +kernel) rfl ?_
  refine g3 hC (show ax_c315[510]? = some (3, 2, 0, 0) by decide +kernel) rfl ?_
  refine g3 hC (show ax_c315[511]? = some (3, 0, 3, 0) by decide +kernel) rfl ?_
  refine g0 hC (show ax_c315[512]? = some (0, 0, 0, 1) by decide +kernel) ?_
  refine g6a hC (show ax_c315[513]? = some (6, 0, 0, 0) by decide +kernel) ⟨by omega, by omega⟩ ?_
  refine gX (p := 6 * k + 1) hC (show ax_c315[514]? = some (21, 0, 0, 0) by decide +kernel) (by omega) (by omega) hL ?_
  refine c1 hC (show ax_c315[515]? = some (27, 125, 2, 121) by decide +kernel) rfl rfl (Nat.le_of_ble_eq_true rfl) (Nat.le_of_ble_eq_true rfl) (by rfl) e (Nat.le_of_ble_eq_true rfl) (fun x M1 e1 => ?_)
  refine g3 hC (show ax_c315[516]? = some (3, 2, 2, 0) by decide +kernel) rfl ?_
  refine g3 hC (show ax_c315[517]? = some (3, 2, 0, 0) by decide +kernel) rfl ?_
  refine g3 hC (show ax_c315[518]? = some (3, 0, 3, 0) by decide +kernel) rfl ?_
  refine g0 hC (show ax_c315[519]? = some (0, 0, 0, 1) by decide +kernel) ?_
  refine g6a hC (show ax_c315[520]? = some (6, 0, 0, 0) by decide +kernel) ⟨by omega, by omega⟩ ?_
  refine gX (p := 6 * k + 1) hC (show ax_c315[521]? = some (21, 0, 0, 0) by decide +kernel) (by omega) (by omega) hL ?_
  refine c1 hC (show ax_c315[522]? = some (27, 251, 2, 124) by decide +kernel) rfl rfl (Nat.le_of_ble_eq_true rfl) (Nat.le_of_ble_eq_true rfl) (mayR k251 rfl) e1 (Nat.le_of_ble_eq_true rfl) (fun y M2 e2 => ?_)
  obtain ⟨rfl, hR2, hW2⟩ := e2
  exact g13e hC (show ax_c315[523]? = some (13, 0, 711, 0) by decide +kernel) (fun _ => nxt _ hR2 hW2) (fun w => absurd rfl w)
theorem law26 (h2 : HOP2 L X) (hX : ∀ i, ax_i (X i)) (hL : L ≤ 3072) (hk : 6 * k + 6 ≤ L) (hn : k ≤ 1000) (hR : Rel k M) (hWd : Wd M) {P : List ax_V → ax_M → Prop} (nxt : ∀ M2, Rel (k + 1) M2 → Wd M2 → ax_G L X SH 41 315 711 [(2, -2), (2, 0), (2, 142), (0, ((6 * k : Nat) : Int))] [] M2 P) : ax_G L X SH 41 315 526 [(2, -2), (2, 0), (2, 142), (0, ((6 * k : Nat) : Int))] [] M P := by
  have hC := at315
  have e : OPW L X k 0 126 253 [(2, 0), (0, X (6 * k + 1))] [(2, 142), (0, X (6 * k + 1))] M := OP.w (op26 (a := X (6 * k + 1)) hR) hWd rfl rfl
  unfold OPW at e
  refine g3 hC (show ax_c315[526]? = some (3, 2, 1, 0) by decide +kernel) rfl ?_
  refine g3 hC (show ax_c315[527]? = some (3, 2, 0, 0) by decide +kernel) rfl ?_
  refine g3 hC (show ax_c315[528]? = some (3, 0, 3, 0) by decide +kernel) rfl ?_
  refine g0 hC (show ax_c315[529]? = some (0, 0, 0, 1) by decide +kernel) ?_
  refine g6a hC (show ax_c315[530]? = some (6, 0, 0, 0) by decide +kernel) ⟨by omega, by omega⟩ ?_
  refine gX (p := 6 * k + 1) hC (show ax_c315[531]? = some (21, 0, 0, 0) by decide +kernel) (by omega) (by omega) hL ?_
  refine c1 hC (show ax_c315[532]? = some (27, 126, 2, 125) by decide +kernel) rfl rfl (Nat.le_of_ble_eq_true rfl) (Nat.le_of_ble_eq_true rfl) (by rfl) e (Nat.le_of_ble_eq_true rfl) (fun x M1 e1 => ?_)
  refine g3 hC (show ax_c315[533]? = some (3, 2, 2, 0) by decide +kernel) rfl ?_
  refine g3 hC (show ax_c315[534]? = some (3, 2, 0, 0) by decide +kernel) rfl ?_
  refine g3 hC (show ax_c315[535]? = some (3, 0, 3, 0) by decide +kernel) rfl ?_
  refine g0 hC (show ax_c315[536]? = some (0, 0, 0, 1) by decide +kernel) ?_
  refine g6a hC (show ax_c315[537]? = some (6, 0, 0, 0) by decide +kernel) ⟨by omega, by omega⟩ ?_
  refine gX (p := 6 * k + 1) hC (show ax_c315[538]? = some (21, 0, 0, 0) by decide +kernel) (by omega) (by omega) hL ?_
  refine c1 hC (show ax_c315[539]? = some (27, 253, 2, 128) by decide +kernel) rfl rfl (Nat.le_of_ble_eq_true rfl) (Nat.le_of_ble_eq_true rfl) (mayR k253 rfl) e1 (Nat.le_of_ble_eq_true rfl) (fun y M2 e2 => ?_)
  obtain ⟨rfl, hR2, hW2⟩ := e2
  exact g13e hC (show ax_c315[540]? = some (13, 0, 711, 0) by decide +kernel) (fun _ => nxt _ hR2 hW2) (fun w => absurd rfl w)
theorem law27 (h2 : HOP2 L X) (hX : ∀ i, ax_i (X i)) (hL : L ≤ 3072) (hk : 6 * k + 6 ≤ L) (hn : k ≤ 1000) (hR : Rel k M) (hWd : Wd M) {P : List ax_V → ax_M → Prop} (nxt : ∀ M2, Rel (k + 1) M2 → Wd M2 → ax_G L X SH 41 315 711 [(2, -2), (2, 0), (2, 142), (0, ((6 * k : Nat) : Int))] [] M2 P) : ax_G L X SH 41 315 543 [(2, -2), (2, 0), (2, 142), (0, ((6 * k : Nat) : Int))] [] M P := by
  have hC := at315
  have e : OPW L X k 0 127 257 [(2, 0), (0, X (6 * k + 1)), (0, X (6 * k + 2))] [(2, 142), (0, X (6 * k + 1)), (0, X (6 * k + 2))] M := OP.w (op27 (a := X (6 * k + 1)) (b := X (6 * k + 2)) hR hn) hWd rfl rfl
  unfold OPW at e
  refine g3 hC (show ax_c315[543]? = some (3, 2, 1, 0) by decide +kernel) rfl ?_
  refine g3 hC (show ax_c315[544]? = some (3, 2, 0, 0) by decide +kernel) rfl ?_
  refine g3 hC (show ax_c315[545]? = some (3, 0, 3, 0) by decide +kernel) rfl ?_
  refine g0 hC (show ax_c315[546]? = some (0, 0, 0, 1) by decide +kernel) ?_
  refine g6a hC (show ax_c315[547]? = some (6, 0, 0, 0) by decide +kernel) ⟨by omega, by omega⟩ ?_
  refine gX (p := 6 * k + 1) hC (show ax_c315[548]? = some (21, 0, 0, 0) by decide +kernel) (by omega) (by omega) hL ?_
  refine g3 hC (show ax_c315[549]? = some (3, 2, 0, 0) by decide +kernel) rfl ?_
  refine g3 hC (show ax_c315[550]? = some (3, 0, 3, 0) by decide +kernel) rfl ?_
  refine g0 hC (show ax_c315[551]? = some (0, 0, 0, 2) by decide +kernel) ?_
  refine g6a hC (show ax_c315[552]? = some (6, 0, 0, 0) by decide +kernel) ⟨by omega, by omega⟩ ?_
  refine gX (p := 6 * k + 2) hC (show ax_c315[553]? = some (21, 0, 0, 0) by decide +kernel) (by omega) (by omega) hL ?_
  refine c1 hC (show ax_c315[554]? = some (27, 127, 3, 129) by decide +kernel) rfl rfl (Nat.le_of_ble_eq_true rfl) (Nat.le_of_ble_eq_true rfl) (by rfl) e (Nat.le_of_ble_eq_true rfl) (fun x M1 e1 => ?_)
  refine g3 hC (show ax_c315[555]? = some (3, 2, 2, 0) by decide +kernel) rfl ?_
  refine g3 hC (show ax_c315[556]? = some (3, 2, 0, 0) by decide +kernel) rfl ?_
  refine g3 hC (show ax_c315[557]? = some (3, 0, 3, 0) by decide +kernel) rfl ?_
  refine g0 hC (show ax_c315[558]? = some (0, 0, 0, 1) by decide +kernel) ?_
  refine g6a hC (show ax_c315[559]? = some (6, 0, 0, 0) by decide +kernel) ⟨by omega, by omega⟩ ?_
  refine gX (p := 6 * k + 1) hC (show ax_c315[560]? = some (21, 0, 0, 0) by decide +kernel) (by omega) (by omega) hL ?_
  refine g3 hC (show ax_c315[561]? = some (3, 2, 0, 0) by decide +kernel) rfl ?_
  refine g3 hC (show ax_c315[562]? = some (3, 0, 3, 0) by decide +kernel) rfl ?_
  refine g0 hC (show ax_c315[563]? = some (0, 0, 0, 2) by decide +kernel) ?_
  refine g6a hC (show ax_c315[564]? = some (6, 0, 0, 0) by decide +kernel) ⟨by omega, by omega⟩ ?_
  refine gX (p := 6 * k + 2) hC (show ax_c315[565]? = some (21, 0, 0, 0) by decide +kernel) (by omega) (by omega) hL ?_
  refine c1 hC (show ax_c315[566]? = some (27, 257, 3, 133) by decide +kernel) rfl rfl (Nat.le_of_ble_eq_true rfl) (Nat.le_of_ble_eq_true rfl) (mayR k257 rfl) e1 (Nat.le_of_ble_eq_true rfl) (fun y M2 e2 => ?_)
  obtain ⟨rfl, hR2, hW2⟩ := e2
  exact g13e hC (show ax_c315[567]? = some (13, 0, 711, 0) by decide +kernel) (fun _ => nxt _ hR2 hW2) (fun w => absurd rfl w)
theorem law28 (h2 : HOP2 L X) (hX : ∀ i, ax_i (X i)) (hL : L ≤ 3072) (hk : 6 * k + 6 ≤ L) (hn : k ≤ 1000) (hR : Rel k M) (hWd : Wd M) {P : List ax_V → ax_M → Prop} (nxt : ∀ M2, Rel (k + 1) M2 → Wd M2 → ax_G L X SH 41 315 711 [(2, -2), (2, 0), (2, 142), (0, ((6 * k : Nat) : Int))] [] M2 P) : ax_G L X SH 41 315 570 [(2, -2), (2, 0), (2, 142), (0, ((6 * k : Nat) : Int))] [] M P := by
  have hC := at315
  have e : OPW L X k 0 128 258 [(2, 0), (0, X (6 * k + 1)), (0, X (6 * k + 2))] [(2, 142), (0, X (6 * k + 1)), (0, X (6 * k + 2))] M := OP.w (op28 (a := X (6 * k + 1)) (b := X (6 * k + 2)) hR hn) hWd rfl rfl
  unfold OPW at e
  refine g3 hC (show ax_c315[570]? = some (3, 2, 1, 0) by decide +kernel) rfl ?_
  refine g3 hC (show ax_c315[571]? = some (3, 2, 0, 0) by decide +kernel) rfl ?_
  refine g3 hC (show ax_c315[572]? = some (3, 0, 3, 0) by decide +kernel) rfl ?_
  refine g0 hC (show ax_c315[573]? = some (0, 0, 0, 1) by decide +kernel) ?_
  refine g6a hC (show ax_c315[574]? = some (6, 0, 0, 0) by decide +kernel) ⟨by omega, by omega⟩ ?_
  refine gX (p := 6 * k + 1) hC (show ax_c315[575]? = some (21, 0, 0, 0) by decide +kernel) (by omega) (by omega) hL ?_
  refine g3 hC (show ax_c315[576]? = some (3, 2, 0, 0) by decide +kernel) rfl ?_
  refine g3 hC (show ax_c315[577]? = some (3, 0, 3, 0) by decide +kernel) rfl ?_
  refine g0 hC (show ax_c315[578]? = some (0, 0, 0, 2) by decide +kernel) ?_
  refine g6a hC (show ax_c315[579]? = some (6, 0, 0, 0) by decide +kernel) ⟨by omega, by omega⟩ ?_
  refine gX (p := 6 * k + 2) hC (show ax_c315[580]? = some (21, 0, 0, 0) by decide +kernel) (by omega) (by omega) hL ?_
  refine c1 hC (show ax_c315[581]? = some (27, 128, 3, 134) by decide +kernel) rfl rfl (Nat.le_of_ble_eq_true rfl) (Nat.le_of_ble_eq_true rfl) (by rfl) e (Nat.le_of_ble_eq_true rfl) (fun x M1 e1 => ?_)
  refine g3 hC (show ax_c315[582]? = some (3, 2, 2, 0) by decide +kernel) rfl ?_
  refine g3 hC (show ax_c315[583]? = some (3, 2, 0, 0) by decide +kernel) rfl ?_
  refine g3 hC (show ax_c315[584]? = some (3, 0, 3, 0) by decide +kernel) rfl ?_
  refine g0 hC (show ax_c315[585]? = some (0, 0, 0, 1) by decide +kernel) ?_
  refine g6a hC (show ax_c315[586]? = some (6, 0, 0, 0) by decide +kernel) ⟨by omega, by omega⟩ ?_
  refine gX (p := 6 * k + 1) hC (show ax_c315[587]? = some (21, 0, 0, 0) by decide +kernel) (by omega) (by omega) hL ?_
  refine g3 hC (show ax_c315[588]? = some (3, 2, 0, 0) by decide +kernel) rfl ?_
  refine g3 hC (show ax_c315[589]? = some (3, 0, 3, 0) by decide +kernel) rfl ?_
  refine g0 hC (show ax_c315[590]? = some (0, 0, 0, 2) by decide +kernel) ?_
  refine g6a hC (show ax_c315[591]? = some (6, 0, 0, 0) by decide +kernel) ⟨by omega, by omega⟩ ?_
  refine gX (p := 6 * k + 2) hC (show ax_c315[592]? = some (21, 0, 0, 0) by decide +kernel) (by omega) (by omega) hL ?_
  refine c1 hC (show ax_c315[593]? = some (27, 258, 3, 137) by decide +kernel) rfl rfl (Nat.le_of_ble_eq_true rfl) (Nat.le_of_ble_eq_true rfl) (mayR k258 rfl) e1 (Nat.le_of_ble_eq_true rfl) (fun y M2 e2 => ?_)
  obtain ⟨rfl, hR2, hW2⟩ := e2
  exact g13e hC (show ax_c315[594]? = some (13, 0, 711, 0) by decide +kernel) (fun _ => nxt _ hR2 hW2) (fun w => absurd rfl w)
theorem law29 (h2 : HOP2 L X) (hX : ∀ i, ax_i (X i)) (hL : L ≤ 3072) (hk : 6 * k + 6 ≤ L) (hn : k ≤ 1000) (hR : Rel k M) (hWd : Wd M) {P : List ax_V → ax_M → Prop} (nxt : ∀ M2, Rel (k + 1) M2 → Wd M2 → ax_G L X SH 41 315 711 [(2, -2), (2, 0), (2, 142), (0, ((6 * k : Nat) : Int))] [] M2 P) : ax_G L X SH 41 315 597 [(2, -2), (2, 0), (2, 142), (0, ((6 * k : Nat) : Int))] [] M P := by
  have hC := at315
  have e : OPW L X k 0 129 259 [(2, 0), (0, X (6 * k + 1))] [(2, 142), (0, X (6 * k + 1))] M := OP.w (op29 (a := X (6 * k + 1)) hR hn) hWd rfl rfl
  unfold OPW at e
  refine g3 hC (show ax_c315[597]? = some (3, 2, 1, 0) by decide +kernel) rfl ?_
  refine g3 hC (show ax_c315[598]? = some (3, 2, 0, 0) by decide +kernel) rfl ?_
  refine g3 hC (show ax_c315[599]? = some (3, 0, 3, 0) by decide +kernel) rfl ?_
  refine g0 hC (show ax_c315[600]? = some (0, 0, 0, 1) by decide +kernel) ?_
  refine g6a hC (show ax_c315[601]? = some (6, 0, 0, 0) by decide +kernel) ⟨by omega, by omega⟩ ?_
  refine gX (p := 6 * k + 1) hC (show ax_c315[602]? = some (21, 0, 0, 0) by decide +kernel) (by omega) (by omega) hL ?_
  refine c1 hC (show ax_c315[603]? = some (27, 129, 2, 138) by decide +kernel) rfl rfl (Nat.le_of_ble_eq_true rfl) (Nat.le_of_ble_eq_true rfl) (by rfl) e (Nat.le_of_ble_eq_true rfl) (fun x M1 e1 => ?_)
  refine g3 hC (show ax_c315[604]? = some (3, 2, 2, 0) by decide +kernel) rfl ?_
  refine g3 hC (show ax_c315[605]? = some (3, 2, 0, 0) by decide +kernel) rfl ?_
  refine g3 hC (show ax_c315[606]? = some (3, 0, 3, 0) by decide +kernel) rfl ?_
  refine g0 hC (show ax_c315[607]? = some (0, 0, 0, 1) by decide +kernel) ?_
  refine g6a hC (show ax_c315[608]? = some (6, 0, 0, 0) by decide +kernel) ⟨by omega, by omega⟩ ?_
  refine gX (p := 6 * k + 1) hC (show ax_c315[609]? = some (21, 0, 0, 0) by decide +kernel) (by omega) (by omega) hL ?_
  refine c1 hC (show ax_c315[610]? = some (27, 259, 2, 141) by decide +kernel) rfl rfl (Nat.le_of_ble_eq_true rfl) (Nat.le_of_ble_eq_true rfl) (mayR k259 rfl) e1 (Nat.le_of_ble_eq_true rfl) (fun y M2 e2 => ?_)
  obtain ⟨rfl, hR2, hW2⟩ := e2
  exact g13e hC (show ax_c315[611]? = some (13, 0, 711, 0) by decide +kernel) (fun _ => nxt _ hR2 hW2) (fun w => absurd rfl w)
theorem law30 (h2 : HOP2 L X) (hX : ∀ i, ax_i (X i)) (hL : L ≤ 3072) (hk : 6 * k + 6 ≤ L) (hn : k ≤ 1000) (hR : Rel k M) (hWd : Wd M) {P : List ax_V → ax_M → Prop} (nxt : ∀ M2, Rel (k + 1) M2 → Wd M2 → ax_G L X SH 41 315 711 [(2, -2), (2, 0), (2, 142), (0, ((6 * k : Nat) : Int))] [] M2 P) : ax_G L X SH 41 315 614 [(2, -2), (2, 0), (2, 142), (0, ((6 * k : Nat) : Int))] [] M P := by
  have hC := at315
  have e : OPW L X k 0 130 262 [(2, 0), (0, X (6 * k + 1))] [(2, 142), (0, X (6 * k + 1))] M := OP.w (op30 (a := X (6 * k + 1)) hR hn) hWd rfl rfl
  unfold OPW at e
  refine g3 hC (show ax_c315[614]? = some (3, 2, 1, 0) by decide +kernel) rfl ?_
  refine g3 hC (show ax_c315[615]? = some (3, 2, 0, 0) by decide +kernel) rfl ?_
  refine g3 hC (show ax_c315[616]? = some (3, 0, 3, 0) by decide +kernel) rfl ?_
  refine g0 hC (show ax_c315[617]? = some (0, 0, 0, 1) by decide +kernel) ?_
  refine g6a hC (show ax_c315[618]? = some (6, 0, 0, 0) by decide +kernel) ⟨by omega, by omega⟩ ?_
  refine gX (p := 6 * k + 1) hC (show ax_c315[619]? = some (21, 0, 0, 0) by decide +kernel) (by omega) (by omega) hL ?_
  refine c1 hC (show ax_c315[620]? = some (27, 130, 2, 142) by decide +kernel) rfl rfl (Nat.le_of_ble_eq_true rfl) (Nat.le_of_ble_eq_true rfl) (by rfl) e (Nat.le_of_ble_eq_true rfl) (fun x M1 e1 => ?_)
  refine g3 hC (show ax_c315[621]? = some (3, 2, 2, 0) by decide +kernel) rfl ?_
  refine g3 hC (show ax_c315[622]? = some (3, 2, 0, 0) by decide +kernel) rfl ?_
  refine g3 hC (show ax_c315[623]? = some (3, 0, 3, 0) by decide +kernel) rfl ?_
  refine g0 hC (show ax_c315[624]? = some (0, 0, 0, 1) by decide +kernel) ?_
  refine g6a hC (show ax_c315[625]? = some (6, 0, 0, 0) by decide +kernel) ⟨by omega, by omega⟩ ?_
  refine gX (p := 6 * k + 1) hC (show ax_c315[626]? = some (21, 0, 0, 0) by decide +kernel) (by omega) (by omega) hL ?_
  refine c1 hC (show ax_c315[627]? = some (27, 262, 2, 145) by decide +kernel) rfl rfl (Nat.le_of_ble_eq_true rfl) (Nat.le_of_ble_eq_true rfl) (mayR k262 rfl) e1 (Nat.le_of_ble_eq_true rfl) (fun y M2 e2 => ?_)
  obtain ⟨rfl, hR2, hW2⟩ := e2
  exact g13e hC (show ax_c315[628]? = some (13, 0, 711, 0) by decide +kernel) (fun _ => nxt _ hR2 hW2) (fun w => absurd rfl w)
theorem law31 (h2 : HOP2 L X) (hX : ∀ i, ax_i (X i)) (hL : L ≤ 3072) (hk : 6 * k + 6 ≤ L) (hn : k ≤ 1000) (hR : Rel k M) (hWd : Wd M) {P : List ax_V → ax_M → Prop} (nxt : ∀ M2, Rel (k + 1) M2 → Wd M2 → ax_G L X SH 41 315 711 [(2, -2), (2, 0), (2, 142), (0, ((6 * k : Nat) : Int))] [] M2 P) : ax_G L X SH 41 315 631 [(2, -2), (2, 0), (2, 142), (0, ((6 * k : Nat) : Int))] [] M P := by
  have hC := at315
  have e : OPW L X k 0 131 255 [(2, 0)] [(2, 142)] M := OP.w (op31 hR hn) hWd rfl rfl
  unfold OPW at e
  refine g3 hC (show ax_c315[631]? = some (3, 2, 1, 0) by decide +kernel) rfl ?_
  refine c1 hC (show ax_c315[632]? = some (27, 131, 1, 146) by decide +kernel) rfl rfl (Nat.le_of_ble_eq_true rfl) (Nat.le_of_ble_eq_true rfl) (by rfl) e (Nat.le_of_ble_eq_true rfl) (fun x M1 e1 => ?_)
  refine g3 hC (show ax_c315[633]? = some (3, 2, 2, 0) by decide +kernel) rfl ?_
  refine c1 hC (show ax_c315[634]? = some (27, 255, 1, 150) by decide +kernel) rfl rfl (Nat.le_of_ble_eq_true rfl) (Nat.le_of_ble_eq_true rfl) (mayR k255 rfl) e1 (Nat.le_of_ble_eq_true rfl) (fun y M2 e2 => ?_)
  obtain ⟨rfl, hR2, hW2⟩ := e2
  exact g13e hC (show ax_c315[635]? = some (13, 0, 711, 0) by decide +kernel) (fun _ => nxt _ hR2 hW2) (fun w => absurd rfl w)
theorem law32 (h2 : HOP2 L X) (hX : ∀ i, ax_i (X i)) (hL : L ≤ 3072) (hk : 6 * k + 6 ≤ L) (hn : k ≤ 1000) (hR : Rel k M) (hWd : Wd M) {P : List ax_V → ax_M → Prop} (nxt : ∀ M2, Rel (k + 1) M2 → Wd M2 → ax_G L X SH 41 315 711 [(2, -2), (2, 0), (2, 142), (0, ((6 * k : Nat) : Int))] [] M2 P) : ax_G L X SH 41 315 638 [(2, -2), (2, 0), (2, 142), (0, ((6 * k : Nat) : Int))] [] M P := by
  have hC := at315
  have e : OPW L X k 0 132 260 [(2, 0), (0, X (6 * k + 1))] [(2, 142), (0, X (6 * k + 1))] M := OP.w (op32 (a := X (6 * k + 1)) hR hn (by have := (hX (6 * k + 1)).2; omega)) hWd rfl rfl
  unfold OPW at e
  refine g3 hC (show ax_c315[638]? = some (3, 2, 1, 0) by decide +kernel) rfl ?_
  refine g3 hC (show ax_c315[639]? = some (3, 2, 0, 0) by decide +kernel) rfl ?_
  refine g3 hC (show ax_c315[640]? = some (3, 0, 3, 0) by decide +kernel) rfl ?_
  refine g0 hC (show ax_c315[641]? = some (0, 0, 0, 1) by decide +kernel) ?_
  refine g6a hC (show ax_c315[642]? = some (6, 0, 0, 0) by decide +kernel) ⟨by omega, by omega⟩ ?_
  refine gX (p := 6 * k + 1) hC (show ax_c315[643]? = some (21, 0, 0, 0) by decide +kernel) (by omega) (by omega) hL ?_
  refine c1 hC (show ax_c315[644]? = some (27, 132, 2, 151) by decide +kernel) rfl rfl (Nat.le_of_ble_eq_true rfl) (Nat.le_of_ble_eq_true rfl) (by rfl) e (Nat.le_of_ble_eq_true rfl) (fun x M1 e1 => ?_)
  refine g3 hC (show ax_c315[645]? = some (3, 2, 2, 0) by decide +kernel) rfl ?_
  refine g3 hC (show ax_c315[646]? = some (3, 2, 0, 0) by decide +kernel) rfl ?_
  refine g3 hC (show ax_c315[647]? = some (3, 0, 3, 0) by decide +kernel) rfl ?_
  refine g0 hC (show ax_c315[648]? = some (0, 0, 0, 1) by decide +kernel) ?_
  refine g6a hC (show ax_c315[649]? = some (6, 0, 0, 0) by decide +kernel) ⟨by omega, by omega⟩ ?_
  refine gX (p := 6 * k + 1) hC (show ax_c315[650]? = some (21, 0, 0, 0) by decide +kernel) (by omega) (by omega) hL ?_
  refine c1 hC (show ax_c315[651]? = some (27, 260, 2, 154) by decide +kernel) rfl rfl (Nat.le_of_ble_eq_true rfl) (Nat.le_of_ble_eq_true rfl) (mayR k260 rfl) e1 (Nat.le_of_ble_eq_true rfl) (fun y M2 e2 => ?_)
  obtain ⟨rfl, hR2, hW2⟩ := e2
  exact g13e hC (show ax_c315[652]? = some (13, 0, 711, 0) by decide +kernel) (fun _ => nxt _ hR2 hW2) (fun w => absurd rfl w)
theorem law33 (h2 : HOP2 L X) (hX : ∀ i, ax_i (X i)) (hL : L ≤ 3072) (hk : 6 * k + 6 ≤ L) (hn : k ≤ 1000) (hR : Rel k M) (hWd : Wd M) {P : List ax_V → ax_M → Prop} (nxt : ∀ M2, Rel (k + 1) M2 → Wd M2 → ax_G L X SH 41 315 711 [(2, -2), (2, 0), (2, 142), (0, ((6 * k : Nat) : Int))] [] M2 P) : ax_G L X SH 41 315 655 [(2, -2), (2, 0), (2, 142), (0, ((6 * k : Nat) : Int))] [] M P := by
  have hC := at315
  have e : OPW L X k 1 133 291 [(2, 0)] [(2, 142)] M := OP.w (op33 hR hWd) hWd rfl rfl
  unfold OPW at e
  refine g3 hC (show ax_c315[655]? = some (3, 2, 1, 0) by decide +kernel) rfl ?_
  refine c1 hC (show ax_c315[656]? = some (27, 133, 1, 155) by decide +kernel) rfl rfl (Nat.le_of_ble_eq_true rfl) (Nat.le_of_ble_eq_true rfl) (by rfl) e (Nat.le_of_ble_eq_true rfl) (fun x M1 e1 => ?_)
  refine g3 hC (show ax_c315[657]? = some (3, 2, 2, 0) by decide +kernel) rfl ?_
  refine c1 hC (show ax_c315[658]? = some (27, 291, 1, 158) by decide +kernel) rfl rfl (Nat.le_of_ble_eq_true rfl) (Nat.le_of_ble_eq_true rfl) (mayR k291 rfl) e1 (Nat.le_of_ble_eq_true rfl) (fun y M2 e2 => ?_)
  obtain ⟨rfl, hR2, hW2⟩ := e2
  refine g11 hC (show ax_c315[659]? = some (11, 0, 0, 0) by decide +kernel) ?_
  exact g12e hC (show ax_c315[660]? = some (12, 0, 711, 0) by decide +kernel) (fun _ => nxt _ hR2 hW2) (fun w => absurd (by unfold ax_cmp; rw [if_neg (by omega), if_pos rfl]) w)
theorem law34 (h2 : HOP2 L X) (hX : ∀ i, ax_i (X i)) (hL : L ≤ 3072) (hk : 6 * k + 6 ≤ L) (hn : k ≤ 1000) (hR : Rel k M) (hWd : Wd M) {P : List ax_V → ax_M → Prop} (nxt : ∀ M2, Rel (k + 1) M2 → Wd M2 → ax_G L X SH 41 315 711 [(2, -2), (2, 0), (2, 142), (0, ((6 * k : Nat) : Int))] [] M2 P) : ax_G L X SH 41 315 663 [(2, -2), (2, 0), (2, 142), (0, ((6 * k : Nat) : Int))] [] M P := by
  have hC := at315
  have e : OPW L X k 0 134 295 [(2, 0)] [(2, 142)] M := OP.w (op34 hR) hWd rfl rfl
  unfold OPW at e
  refine g3 hC (show ax_c315[663]? = some (3, 2, 1, 0) by decide +kernel) rfl ?_
  refine c1 hC (show ax_c315[664]? = some (27, 134, 1, 159) by decide +kernel) rfl rfl (Nat.le_of_ble_eq_true rfl) (Nat.le_of_ble_eq_true rfl) (by rfl) e (Nat.le_of_ble_eq_true rfl) (fun x M1 e1 => ?_)
  refine g3 hC (show ax_c315[665]? = some (3, 2, 2, 0) by decide +kernel) rfl ?_
  refine c1 hC (show ax_c315[666]? = some (27, 295, 1, 162) by decide +kernel) rfl rfl (Nat.le_of_ble_eq_true rfl) (Nat.le_of_ble_eq_true rfl) (mayR k295 rfl) e1 (Nat.le_of_ble_eq_true rfl) (fun y M2 e2 => ?_)
  obtain ⟨rfl, hR2, hW2⟩ := e2
  exact g13e hC (show ax_c315[667]? = some (13, 0, 711, 0) by decide +kernel) (fun _ => nxt _ hR2 hW2) (fun w => absurd rfl w)
theorem law35 (h2 : HOP2 L X) (hX : ∀ i, ax_i (X i)) (hL : L ≤ 3072) (hk : 6 * k + 6 ≤ L) (hn : k ≤ 1000) (hR : Rel k M) (hWd : Wd M) {P : List ax_V → ax_M → Prop} (nxt : ∀ M2, Rel (k + 1) M2 → Wd M2 → ax_G L X SH 41 315 711 [(2, -2), (2, 0), (2, 142), (0, ((6 * k : Nat) : Int))] [] M2 P) : ax_G L X SH 41 315 670 [(2, -2), (2, 0), (2, 142), (0, ((6 * k : Nat) : Int))] [] M P := by
  have hC := at315
  have e : OPW L X k 0 135 296 [(2, 0), (0, X (6 * k + 1))] [(2, 142), (0, X (6 * k + 1))] M := OP.w (op35 (a := X (6 * k + 1)) hR) hWd rfl rfl
  unfold OPW at e
  refine g3 hC (show ax_c315[670]? = some (3, 2, 1, 0) by decide +kernel) rfl ?_
  refine g3 hC (show ax_c315[671]? = some (3, 2, 0, 0) by decide +kernel) rfl ?_
  refine g3 hC (show ax_c315[672]? = some (3, 0, 3, 0) by decide +kernel) rfl ?_
  refine g0 hC (show ax_c315[673]? = some (0, 0, 0, 1) by decide +kernel) ?_
  refine g6a hC (show ax_c315[674]? = some (6, 0, 0, 0) by decide +kernel) ⟨by omega, by omega⟩ ?_
  refine gX (p := 6 * k + 1) hC (show ax_c315[675]? = some (21, 0, 0, 0) by decide +kernel) (by omega) (by omega) hL ?_
  refine c1 hC (show ax_c315[676]? = some (27, 135, 2, 163) by decide +kernel) rfl rfl (Nat.le_of_ble_eq_true rfl) (Nat.le_of_ble_eq_true rfl) (by rfl) e (Nat.le_of_ble_eq_true rfl) (fun x M1 e1 => ?_)
  refine g3 hC (show ax_c315[677]? = some (3, 2, 2, 0) by decide +kernel) rfl ?_
  refine g3 hC (show ax_c315[678]? = some (3, 2, 0, 0) by decide +kernel) rfl ?_
  refine g3 hC (show ax_c315[679]? = some (3, 0, 3, 0) by decide +kernel) rfl ?_
  refine g0 hC (show ax_c315[680]? = some (0, 0, 0, 1) by decide +kernel) ?_
  refine g6a hC (show ax_c315[681]? = some (6, 0, 0, 0) by decide +kernel) ⟨by omega, by omega⟩ ?_
  refine gX (p := 6 * k + 1) hC (show ax_c315[682]? = some (21, 0, 0, 0) by decide +kernel) (by omega) (by omega) hL ?_
  refine c1 hC (show ax_c315[683]? = some (27, 296, 2, 166) by decide +kernel) rfl rfl (Nat.le_of_ble_eq_true rfl) (Nat.le_of_ble_eq_true rfl) (mayR k296 rfl) e1 (Nat.le_of_ble_eq_true rfl) (fun y M2 e2 => ?_)
  obtain ⟨rfl, hR2, hW2⟩ := e2
  exact g13e hC (show ax_c315[684]? = some (13, 0, 711, 0) by decide +kernel) (fun _ => nxt _ hR2 hW2) (fun w => absurd rfl w)
theorem law36 (h2 : HOP2 L X) (hX : ∀ i, ax_i (X i)) (hL : L ≤ 3072) (hk : 6 * k + 6 ≤ L) (hn : k ≤ 1000) (hR : Rel k M) (hWd : Wd M) {P : List ax_V → ax_M → Prop} (nxt : ∀ M2, Rel (k + 1) M2 → Wd M2 → ax_G L X SH 41 315 711 [(2, -2), (2, 0), (2, 142), (0, ((6 * k : Nat) : Int))] [] M2 P) : ax_G L X SH 41 315 687 [(2, -2), (2, 0), (2, 142), (0, ((6 * k : Nat) : Int))] [] M P := by
  have hC := at315
  have e : OPW L X k 0 136 299 [(2, 0)] [(2, 142)] M := OP.w (op36 hR hn) hWd rfl rfl
  unfold OPW at e
  refine g3 hC (show ax_c315[687]? = some (3, 2, 1, 0) by decide +kernel) rfl ?_
  refine c1 hC (show ax_c315[688]? = some (27, 136, 1, 167) by decide +kernel) rfl rfl (Nat.le_of_ble_eq_true rfl) (Nat.le_of_ble_eq_true rfl) (by rfl) e (Nat.le_of_ble_eq_true rfl) (fun x M1 e1 => ?_)
  refine g3 hC (show ax_c315[689]? = some (3, 2, 2, 0) by decide +kernel) rfl ?_
  refine c1 hC (show ax_c315[690]? = some (27, 299, 1, 170) by decide +kernel) rfl rfl (Nat.le_of_ble_eq_true rfl) (Nat.le_of_ble_eq_true rfl) (mayR k299 rfl) e1 (Nat.le_of_ble_eq_true rfl) (fun y M2 e2 => ?_)
  obtain ⟨rfl, hR2, hW2⟩ := e2
  exact g13e hC (show ax_c315[691]? = some (13, 0, 711, 0) by decide +kernel) (fun _ => nxt _ hR2 hW2) (fun w => absurd rfl w)
theorem law37 (h2 : HOP2 L X) (hX : ∀ i, ax_i (X i)) (hL : L ≤ 3072) (hk : 6 * k + 6 ≤ L) (hn : k ≤ 1000) (hR : Rel k M) (hWd : Wd M) {P : List ax_V → ax_M → Prop} (nxt : ∀ M2, Rel (k + 1) M2 → Wd M2 → ax_G L X SH 41 315 711 [(2, -2), (2, 0), (2, 142), (0, ((6 * k : Nat) : Int))] [] M2 P) : ax_G L X SH 41 315 694 [(2, -2), (2, 0), (2, 142), (0, ((6 * k : Nat) : Int))] [] M P := by
  have hC := at315
  have e : OPW L X k 0 137 300 [(2, 0), (0, X (6 * k + 1))] [(2, 142), (0, X (6 * k + 1))] M := OP.w (op37 (a := X (6 * k + 1)) hR) hWd rfl rfl
  unfold OPW at e
  refine g3 hC (show ax_c315[694]? = some (3, 2, 1, 0) by decide +kernel) rfl ?_
  refine g3 hC (show ax_c315[695]? = some (3, 2, 0, 0) by decide +kernel) rfl ?_
  refine g3 hC (show ax_c315[696]? = some (3, 0, 3, 0) by decide +kernel) rfl ?_
  refine g0 hC (show ax_c315[697]? = some (0, 0, 0, 1) by decide +kernel) ?_
  refine g6a hC (show ax_c315[698]? = some (6, 0, 0, 0) by decide +kernel) ⟨by omega, by omega⟩ ?_
  refine gX (p := 6 * k + 1) hC (show ax_c315[699]? = some (21, 0, 0, 0) by decide +kernel) (by omega) (by omega) hL ?_
  refine c1 hC (show ax_c315[700]? = some (27, 137, 2, 171) by decide +kernel) rfl rfl (Nat.le_of_ble_eq_true rfl) (Nat.le_of_ble_eq_true rfl) (by rfl) e (Nat.le_of_ble_eq_true rfl) (fun x M1 e1 => ?_)
  refine g3 hC (show ax_c315[701]? = some (3, 2, 2, 0) by decide +kernel) rfl ?_
  refine g3 hC (show ax_c315[702]? = some (3, 2, 0, 0) by decide +kernel) rfl ?_
  refine g3 hC (show ax_c315[703]? = some (3, 0, 3, 0) by decide +kernel) rfl ?_
  refine g0 hC (show ax_c315[704]? = some (0, 0, 0, 1) by decide +kernel) ?_
  refine g6a hC (show ax_c315[705]? = some (6, 0, 0, 0) by decide +kernel) ⟨by omega, by omega⟩ ?_
  refine gX (p := 6 * k + 1) hC (show ax_c315[706]? = some (21, 0, 0, 0) by decide +kernel) (by omega) (by omega) hL ?_
  refine c1 hC (show ax_c315[707]? = some (27, 300, 2, 174) by decide +kernel) rfl rfl (Nat.le_of_ble_eq_true rfl) (Nat.le_of_ble_eq_true rfl) (mayR k300 rfl) e1 (Nat.le_of_ble_eq_true rfl) (fun y M2 e2 => ?_)
  obtain ⟨rfl, hR2, hW2⟩ := e2
  exact g13e hC (show ax_c315[708]? = some (13, 0, 711, 0) by decide +kernel) (fun _ => nxt _ hR2 hW2) (fun w => absurd rfl w)
end LAW
