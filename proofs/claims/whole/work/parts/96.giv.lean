def ax_st : List (String × Nat) := [("FireDrill$Formula", 9), ("FireDrill$HouseReader", 52), ("FireDrill$Text", 65), ("FireDrill$HouseReader", 151), ("FireDrill$HouseReader", 156), ("FireDrill$HouseReader", 177), ("FireDrill$HouseReader", 194), ("FireDrill$HouseReader", 196), ("FireDrill$HouseReader", 198), ("FireDrill$HouseReader", 203), ("FireDrill$HouseReader", 80), ("FireDrill$Formula", 55), ("FireDrill$Formula", 70), ("FireDrill$Formula", 102), ("FireDrill$Formula", 104), ("FireDrill$Formula", 109), ("FireDrill$Formula", 53), ("FireDrill$Formula", 33), ("FireDrill$HouseReader", 100), ("FireDrill", 380), ("FireDrill", 385)]
def ax_tm (i : Nat) : Term := .string (ax_st.getD i ("", 0)).1 (ax_st.getD i ("", 0)).2
def ax_gv : List Cond := flatC (Jvm.Cond.and given_1 narrow_1)
def ax_bt (i : Nat) : List Int := (ax_tx.getD i ("", [])).2
def flatA : Jvm.Cond → List Jvm.Cond → List Jvm.Cond
  | .and a b, acc => flatA a (flatA b acc)
  | c, acc => c :: acc
theorem flatA_eq (c : Jvm.Cond) : ∀ acc, flatA c acc = flatC c ++ acc := by
  induction c with
  | and a b iha ihb =>
    intro acc
    show flatA a (flatA b acc) = (flatC a ++ flatC b) ++ acc
    rw [iha, ihb, List.append_assoc]
  | _ => intro acc; rfl
def ax_gw : List Jvm.Cond := flatA (Jvm.Cond.and given_1 narrow_1) []
theorem gv_gw : ax_gv = ax_gw := by
  unfold ax_gw ax_gv
  rw [flatA_eq, List.append_nil]
def gvp (p : Nat) (c : Jvm.Cond) : Bool := match ax_gw[p]? with
  | some d => decide (d = c)
  | none => false
theorem gv_of {p : Nat} {c : Jvm.Cond} (h : gvp p c = true) : c ∈ ax_gv := by
  unfold gvp at h
  split at h
  · rename_i d hd
    rw [← of_decide_eq_true h, gv_gw]
    exact List.mem_of_getElem? hd
  · cases h
def gvB : List Nat := [21, 25, 80, 241, 250, 262, 275, 287, 300, 316, 332, 373, 391, 410, 430, 451, 475, 498, 521, 568, 628]
def gvQ : List (List Nat) := [[0, 79, 239, 247, 258, 270, 281, 293, 308, 323, 363, 380, 398, 417, 437, 460, 482, 504, 550, 609, 665], [79, 0, 240, 248, 259, 271, 282, 294, 309, 324, 364, 381, 399, 418, 438, 461, 483, 505, 551, 610, 666], [239, 240, 0, 249, 260, 272, 283, 295, 310, 325, 365, 382, 400, 419, 439, 462, 484, 506, 552, 611, 667], [247, 248, 249, 0, 261, 273, 284, 296, 311, 326, 366, 383, 401, 420, 440, 463, 485, 507, 553, 612, 668], [258, 259, 260, 261, 0, 274, 285, 297, 312, 327, 367, 384, 402, 421, 441, 464, 486, 508, 554, 613, 669], [270, 271, 272, 273, 274, 0, 286, 298, 313, 328, 368, 385, 403, 422, 442, 465, 487, 509, 555, 614, 670], [281, 282, 283, 284, 285, 286, 0, 299, 314, 329, 369, 386, 404, 423, 443, 466, 488, 510, 556, 615, 671], [293, 294, 295, 296, 297, 298, 299, 0, 315, 330, 370, 387, 405, 424, 444, 467, 489, 511, 557, 616, 672], [308, 309, 310, 311, 312, 313, 314, 315, 0, 331, 371, 388, 406, 425, 445, 468, 490, 512, 558, 617, 673], [323, 324, 325, 326, 327, 328, 329, 330, 331, 0, 372, 389, 407, 426, 446, 469, 491, 513, 559, 618, 674], [363, 364, 365, 366, 367, 368, 369, 370, 371, 372, 0, 390, 408, 427, 447, 470, 492, 514, 560, 619, 675], [380, 381, 382, 383, 384, 385, 386, 387, 388, 389, 390, 0, 409, 428, 448, 471, 493, 515, 561, 620, 676], [398, 399, 400, 401, 402, 403, 404, 405, 406, 407, 408, 409, 0, 429, 449, 472, 494, 516, 562, 621, 677], [417, 418, 419, 420, 421, 422, 423, 424, 425, 426, 427, 428, 429, 0, 450, 473, 495, 517, 563, 622, 678], [437, 438, 439, 440, 441, 442, 443, 444, 445, 446, 447, 448, 449, 450, 0, 474, 496, 518, 564, 623, 679], [460, 461, 462, 463, 464, 465, 466, 467, 468, 469, 470, 471, 472, 473, 474, 0, 497, 519, 565, 624, 680], [482, 483, 484, 485, 486, 487, 488, 489, 490, 491, 492, 493, 494, 495, 496, 497, 0, 520, 566, 625, 681], [504, 505, 506, 507, 508, 509, 510, 511, 512, 513, 514, 515, 516, 517, 518, 519, 520, 0, 567, 626, 682], [550, 551, 552, 553, 554, 555, 556, 557, 558, 559, 560, 561, 562, 563, 564, 565, 566, 567, 0, 627, 683], [609, 610, 611, 612, 613, 614, 615, 616, 617, 618, 619, 620, 621, 622, 623, 624, 625, 626, 627, 0, 684], [665, 666, 667, 668, 669, 670, 671, 672, 673, 674, 675, 676, 677, 678, 679, 680, 681, 682, 683, 684, 0]]
theorem ax_v1 : ∀ i, i < 21 → Cond.exactly (ax_tm i) "java/lang/String" ∈ ax_gv := by
  have h : ∀ i, i < 21 → gvp (gvB.getD i 0 + 0) (Cond.exactly (ax_tm i) "java/lang/String") = true := by decide +kernel
  exact fun i hi => gv_of (h i hi)
theorem ax_v2 : ∀ i, i < 21 → Cond.eq (.field (ax_tm i) "java/lang/String" "coder" "B") (.int 0) ∈ ax_gv := by
  have h : ∀ i, i < 21 → gvp (gvB.getD i 0 + 1) (Cond.eq (.field (ax_tm i) "java/lang/String" "coder" "B") (.int 0)) = true := by decide +kernel
  exact fun i hi => gv_of (h i hi)
theorem ax_v3 : ∀ i, i < 21 → Cond.arrayOf (.field (ax_tm i) "java/lang/String" "value" "[B") .byte ∈ ax_gv := by
  have h : ∀ i, i < 21 → gvp (gvB.getD i 0 + 2) (Cond.arrayOf (.field (ax_tm i) "java/lang/String" "value" "[B") .byte) = true := by decide +kernel
  exact fun i hi => gv_of (h i hi)
theorem ax_v4 : ∀ i, i < 21 → Cond.eq (.length (.field (ax_tm i) "java/lang/String" "value" "[B")) (.int (Int32.ofNat (ax_bt i).length)) ∈ ax_gv := by
  have h : ∀ i, i < 21 → gvp (gvB.getD i 0 + 3) (Cond.eq (.length (.field (ax_tm i) "java/lang/String" "value" "[B")) (.int (Int32.ofNat (ax_bt i).length))) = true := by decide +kernel
  exact fun i hi => gv_of (h i hi)
theorem ax_v5 : ∀ i, i < 21 → ∀ j, j < (ax_bt i).length → Cond.eq (.elem (.field (ax_tm i) "java/lang/String" "value" "[B") (.int (Int32.ofNat j))) (.int (Int32.ofInt ((ax_bt i).getD j 0))) ∈ ax_gv := by
  have h : ∀ i, i < 21 → ∀ j, j < (ax_bt i).length → gvp (gvB.getD i 0 + 4 + j) (Cond.eq (.elem (.field (ax_tm i) "java/lang/String" "value" "[B") (.int (Int32.ofNat j))) (.int (Int32.ofInt ((ax_bt i).getD j 0)))) = true := by decide +kernel
  exact fun i hi j hj => gv_of (h i hi j hj)
theorem ax_v6 : ∀ i, i < 21 → ∀ j, j < 21 → i ≠ j → Cond.not (Cond.eq (ax_tm i) (ax_tm j)) ∈ ax_gv ∨ Cond.not (Cond.eq (ax_tm j) (ax_tm i)) ∈ ax_gv := by
  have h : ∀ i, i < 21 → ∀ j, j < 21 → i ≠ j → (gvp ((gvQ.getD i []).getD j 0) (Cond.not (Cond.eq (ax_tm i) (ax_tm j))) || gvp ((gvQ.getD i []).getD j 0) (Cond.not (Cond.eq (ax_tm j) (ax_tm i)))) = true := by decide +kernel
  intro i hi j hj hij
  rcases Bool.or_eq_true _ _ |>.mp (h i hi j hj hij) with y | y
  · exact Or.inl (gv_of y)
  · exact Or.inr (gv_of y)
theorem ax_v7 : Cond.eq (.static "java/lang/String" "COMPACT_STRINGS" "Z") (.int 1) ∈ ax_gv := gv_of (p := 4) (by decide +kernel)
theorem ax_v8 : Cond.isRef (.static "jdk/internal/util/Preconditions" "SIOOBE_FORMATTER" "Ljava/util/function/BiFunction;") ∈ ax_gv := gv_of (p := 5) (by decide +kernel)
theorem ax_v9 : Cond.arrayOf (.static "FireDrill$HouseReader" "MOST_OF" "[I") .int ∈ ax_gv := gv_of (p := 10) (by decide +kernel)
theorem ax_v10 : Cond.eq (.length (.static "FireDrill$HouseReader" "MOST_OF" "[I")) (.int (Int32.ofNat 9)) ∈ ax_gv := gv_of (p := 11) (by decide +kernel)
theorem ax_v11 : ∀ j, j < 9 → Cond.eq (.elem (.static "FireDrill$HouseReader" "MOST_OF" "[I") (.int (Int32.ofNat j))) (.int (Int32.ofInt (ax_mo.getD j 0))) ∈ ax_gv := by
  have h : ∀ j, j < 9 → gvp (12 + j) (Cond.eq (.elem (.static "FireDrill$HouseReader" "MOST_OF" "[I") (.int (Int32.ofNat j))) (.int (Int32.ofInt (ax_mo.getD j 0)))) = true := by decide +kernel
  exact fun j hj => gv_of (h j hj)
theorem ax_v12 : ∀ w ∈ ([.laysStatic "java/lang/String" "COMPACT_STRINGS" "Z", .initialized "java/lang/String", .laysStatic "jdk/internal/util/Preconditions" "SIOOBE_FORMATTER" "Ljava/util/function/BiFunction;", .initialized "jdk/internal/util/Preconditions", .laysStatic "FireDrill$HouseReader" "MOST_OF" "[I", .initialized "FireDrill$HouseReader", .arrayOver (.array .int), .arrayOver (.array .long)] : List Cond), w ∈ lw_tbl := by decide +kernel
theorem ax_v13 : ∀ k : Nat, k < 21 → ax_isS (-10 - 2 * (k : Int)) = true ∧ ax_sx (-10 - 2 * (k : Int)) = k ∧ ax_isB (-11 - 2 * (k : Int)) = true ∧ ax_sx (-11 - 2 * (k : Int) + 1) = k ∧ ax_isS (-11 - 2 * (k : Int)) = false := by decide +kernel
