/-! the machine's rows, instruction by instruction -/
section AXR
variable {p : Program} {l : Launch} {e : Env} {R : Room} {s : State} {m : MethodId} {args : Array Value} {below : List Frame} {meth : Method} {c : Code} {H : Heap} {locs : List Loc} {cells slots : Nat} {Q : State → Prop}
variable {cc : ByteArray} {pc : Nat} {ls : Array Slot} {rest : List Value} {pcs : List Nat} {i f g : Nat} {b : Int}
theorem ax_w6 (hx : p.tables.exec = Jvm.exec) (hb : c.code = cc) (hf : f ≤ 10) {x y z : Int} (hxi : ax_i x) (hyi : ax_i y) (hz : ax_ib f x y = some z) (hd : decode cc pc = .ok (ax_ins pcs i (6, f, g, b)))
    (k : W p l e R s m args below meth c H locs cells slots Q (F0 m (pc + 1) ls (.int (Int32.ofInt z) :: rest))) : W p l e R s m args below meth c H locs cells slots Q (F0 m pc ls (.int (Int32.ofInt y) :: .int (Int32.ofInt x) :: rest)) := by
  match f, hf, hz, hd with
  | 0, _, hz, hd =>
    have hz : (if ax_i (x + y) then some (x + y) else none) = some z := hz
    split at hz
    · cases hz
      refine lv_iadd hx hb hd ?_
      rw [← Int32.ofInt_add]
      exact k
    · cases hz
  | 1, _, hz, hd =>
    have hz : (if ax_i (x - y) then some (x - y) else none) = some z := hz
    split at hz
    · cases hz
      refine lv_isub hx hb hd ?_
      rw [← Int32.ofInt_sub]
      exact k
    · cases hz
  | 2, _, hz, hd =>
    have hz : (if ax_i (x * y) then some (x * y) else none) = some z := hz
    split at hz
    · cases hz
      refine lv_imul hx hb hd ?_
      rw [← Int32.ofInt_mul]
      exact k
    · cases hz
  | 3, _, hz, hd =>
    have hz : (if y ≠ 0 ∧ ax_i (x.tdiv y) then some (x.tdiv y) else none) = some z := hz
    split at hz
    · rename_i q
      cases hz
      refine lv_idiv hx hb hd (fun e => q.1 ((ax_eqI hyi ax_i0).mp e)) ?_
      rw [ax_divI hxi hyi]
      exact k
    · cases hz
  | 4, _, hz, hd =>
    have hz : (if y ≠ 0 ∧ ax_i (x.tdiv y) then some (x.tmod y) else none) = some z := hz
    split at hz
    · rename_i q
      cases hz
      refine lv_irem hx hb hd (fun e => q.1 ((ax_eqI hyi ax_i0).mp e)) ?_
      rw [ax_remI hxi hyi]
      exact k
    · cases hz
  | 5, _, hz, hd =>
    cases hz
    refine lv_iand hx hb hd ?_
    rw [Int32.ofInt_toInt] at k
    exact k
  | 6, _, hz, hd =>
    cases hz
    refine lv_ior hx hb hd ?_
    rw [Int32.ofInt_toInt] at k
    exact k
  | 7, _, hz, hd =>
    cases hz
    refine lv_ixor hx hb hd ?_
    rw [Int32.ofInt_toInt] at k
    exact k
  | 8, _, hz, hd =>
    cases hz
    refine lv_ishl hx hb hd ?_
    rw [Int32.ofInt_toInt] at k
    exact k
  | 9, _, hz, hd =>
    cases hz
    refine lv_ishr hx hb hd ?_
    rw [Int32.ofInt_toInt] at k
    exact k
  | 10, _, hz, hd =>
    cases hz
    refine lv_iushr hx hb hd rfl ?_
    rw [Int32.ofInt_toInt] at k
    exact k
theorem ax_w7 (hx : p.tables.exec = Jvm.exec) (hb : c.code = cc) (hf : f ≤ 5) {x y z : Int} (hxi : ax_l x) (hyi : ax_l y) (hz : ax_lb f x y = some z) (hd : decode cc pc = .ok (ax_ins pcs i (7, f, g, b)))
    (k : W p l e R s m args below meth c H locs cells slots Q (F0 m (pc + 1) ls (.long (Int64.ofInt z) :: rest))) : W p l e R s m args below meth c H locs cells slots Q (F0 m pc ls (.long (Int64.ofInt y) :: .long (Int64.ofInt x) :: rest)) := by
  have h0 : ax_l 0 := by decide
  have hne : y ≠ 0 → ¬ Int64.ofInt y = 0 := fun q e => q (by
    have := congrArg Int64.toInt e
    rw [ax_n64 hyi] at this
    exact this)
  match f, hf, hz, hd with
  | 0, _, hz, hd =>
    have hz : (if ax_l (x + y) then some (x + y) else none) = some z := hz
    split at hz
    · cases hz
      refine lv_ladd hx hb hd ?_
      rw [← Int64.ofInt_add]
      exact k
    · cases hz
  | 1, _, hz, hd =>
    have hz : (if ax_l (x - y) then some (x - y) else none) = some z := hz
    split at hz
    · cases hz
      refine lv_lsub hx hb hd ?_
      rw [← Int64.ofInt_sub]
      exact k
    · cases hz
  | 2, _, hz, hd =>
    have hz : (if ax_l (x * y) then some (x * y) else none) = some z := hz
    split at hz
    · cases hz
      refine lv_lmul hx hb hd ?_
      rw [← Int64.ofInt_mul]
      exact k
    · cases hz
  | 3, _, hz, hd =>
    have hz : (if y ≠ 0 ∧ ax_l (x.tdiv y) then some (x.tdiv y) else none) = some z := hz
    split at hz
    · rename_i q
      cases hz
      refine lv_ldiv hx hb hd (hne q.1) ?_
      rw [ax_divL hxi hyi]
      exact k
    · cases hz
  | 4, _, hz, hd =>
    have hz : (if y ≠ 0 ∧ ax_l (x.tdiv y) then some (x.tmod y) else none) = some z := hz
    split at hz
    · rename_i q
      cases hz
      refine lv_lrem hx hb hd (hne q.1) ?_
      rw [ax_remL hxi hyi]
      exact k
    · cases hz
  | 5, _, hz, hd =>
    cases hz
    refine lv_land hx hb hd ?_
    rw [Int64.ofInt_toInt] at k
    exact k
theorem ax_w12 (hx : p.tables.exec = Jvm.exec) (hb : c.code = cc) (hf : f ≤ 5) {x : Int} (hxi : ax_i x) (hpc : pcs.getD i 0 = pc) (hd : decode cc pc = .ok (ax_ins pcs i (12, f, g, b)))
    (kt : ax_cd f x 0 = true → W p l e R s m args below meth c H locs cells slots Q (F0 m (pcs.getD g 0) ls rest)) (kf : ax_cd f x 0 = false → W p l e R s m args below meth c H locs cells slots Q (F0 m (pc + 3) ls rest)) : W p l e R s m args below meth c H locs cells slots Q (F0 m pc ls (.int (Int32.ofInt x) :: rest)) := by
  have ht : (pc : Int) + (((pcs.getD g 0 : Nat) : Int) - ((pcs.getD i 0 : Nat) : Int)) = ((pcs.getD g 0 : Nat) : Int) := by rw [hpc]; omega
  have e1 : Int32.ofInt x = 0 ↔ x = 0 := ax_eqI hxi ax_i0
  have e2 : Int32.ofInt x < 0 ↔ x < 0 := ax_ltI hxi ax_i0
  have e3 : 0 ≤ Int32.ofInt x ↔ 0 ≤ x := ax_leI ax_i0 hxi
  have e4 : 0 < Int32.ofInt x ↔ 0 < x := ax_ltI ax_i0 hxi
  have e5 : Int32.ofInt x ≤ 0 ↔ x ≤ 0 := ax_leI hxi ax_i0
  match f, hf, hd, kt, kf with
  | 0, _, hd, kt, kf => exact lv_if_eq hx hb hd ht (fun q => kt (decide_eq_true (e1.mp q))) (fun q => kf (decide_eq_false (fun z => q (e1.mpr z))))
  | 1, _, hd, kt, kf => exact lv_if_ne hx hb hd ht (fun q => kt (decide_eq_true (fun z => q (e1.mpr z)))) (fun q => kf (decide_eq_false (fun z => z (e1.mp q))))
  | 2, _, hd, kt, kf => exact lv_if_lt hx hb hd ht (fun q => kt (decide_eq_true (e2.mp q))) (fun q => kf (decide_eq_false (fun z => q (e2.mpr z))))
  | 3, _, hd, kt, kf => exact lv_if_ge hx hb hd ht (fun q => kt (decide_eq_true (e3.mp q))) (fun q => kf (decide_eq_false (fun z => q (e3.mpr z))))
  | 4, _, hd, kt, kf => exact lv_if_gt hx hb hd ht (fun q => kt (decide_eq_true (e4.mp q))) (fun q => kf (decide_eq_false (fun z => q (e4.mpr z))))
  | 5, _, hd, kt, kf => exact lv_if_le hx hb hd ht (fun q => kt (decide_eq_true (e5.mp q))) (fun q => kf (decide_eq_false (fun z => q (e5.mpr z))))
theorem ax_w13 (hx : p.tables.exec = Jvm.exec) (hb : c.code = cc) (hf : f ≤ 5) {x y : Int} (hxi : ax_i x) (hyi : ax_i y) (hpc : pcs.getD i 0 = pc) (hd : decode cc pc = .ok (ax_ins pcs i (13, f, g, b)))
    (kt : ax_cd f x y = true → W p l e R s m args below meth c H locs cells slots Q (F0 m (pcs.getD g 0) ls rest)) (kf : ax_cd f x y = false → W p l e R s m args below meth c H locs cells slots Q (F0 m (pc + 3) ls rest)) : W p l e R s m args below meth c H locs cells slots Q (F0 m pc ls (.int (Int32.ofInt y) :: .int (Int32.ofInt x) :: rest)) := by
  have ht : (pc : Int) + (((pcs.getD g 0 : Nat) : Int) - ((pcs.getD i 0 : Nat) : Int)) = ((pcs.getD g 0 : Nat) : Int) := by rw [hpc]; omega
  have e1 : Int32.ofInt x = Int32.ofInt y ↔ x = y := ax_eqI hxi hyi
  have e2 : Int32.ofInt x < Int32.ofInt y ↔ x < y := ax_ltI hxi hyi
  have e3 : Int32.ofInt y ≤ Int32.ofInt x ↔ y ≤ x := ax_leI hyi hxi
  have e4 : Int32.ofInt y < Int32.ofInt x ↔ y < x := ax_ltI hyi hxi
  have e5 : Int32.ofInt x ≤ Int32.ofInt y ↔ x ≤ y := ax_leI hxi hyi
  match f, hf, hd, kt, kf with
  | 0, _, hd, kt, kf => exact lv_icmp_eq hx hb hd ht (fun q => kt (decide_eq_true (e1.mp q))) (fun q => kf (decide_eq_false (fun z => q (e1.mpr z))))
  | 1, _, hd, kt, kf => exact lv_icmp_ne hx hb hd ht (fun q => kt (decide_eq_true (fun z => q (e1.mpr z)))) (fun q => kf (decide_eq_false (fun z => z (e1.mp q))))
  | 2, _, hd, kt, kf => exact lv_icmp_lt hx hb hd ht (fun q => kt (decide_eq_true (e2.mp q))) (fun q => kf (decide_eq_false (fun z => q (e2.mpr z))))
  | 3, _, hd, kt, kf => exact lv_icmp_ge hx hb hd ht (fun q => kt (decide_eq_true (e3.mp q))) (fun q => kf (decide_eq_false (fun z => q (e3.mpr z))))
  | 4, _, hd, kt, kf => exact lv_icmp_gt hx hb hd ht (fun q => kt (decide_eq_true (e4.mp q))) (fun q => kf (decide_eq_false (fun z => q (e4.mpr z))))
  | 5, _, hd, kt, kf => exact lv_icmp_le hx hb hd ht (fun q => kt (decide_eq_true (e5.mp q))) (fun q => kf (decide_eq_false (fun z => q (e5.mpr z))))
theorem ax_w15 (hx : p.tables.exec = Jvm.exec) (hb : c.code = cc) {w : Nat × Int × Int × List Nat × Nat × Nat} (hw : ax_sw[f]? = some w) (hw2 : (w.1 = 0 ∧ w.2.2.2.1.length = (w.2.2.1 - w.2.1 + 1).toNat) ∨ (w.1 = 1 ∧ w.2.2.1 < w.2.1)) {x : Int} (hxi : ax_i x) (hpc : pcs.getD i 0 = pc) (hd : decode cc pc = .ok (ax_ins pcs i (15, f, g, b)))
    (k : W p l e R s m args below meth c H locs cells slots Q (F0 m (pcs.getD (if w.2.1 ≤ x ∧ x ≤ w.2.2.1 then w.2.2.2.1.getD (x - w.2.1).toNat 0 else w.2.2.2.2.1) 0) ls rest)) : W p l e R s m args below meth c H locs cells slots Q (F0 m pc ls (.int (Int32.ofInt x) :: rest)) := by
  have hd : decode cc pc = .ok (match ax_sw[f]? with
    | some w =>
      let df : Int := ((pcs.getD w.2.2.2.2.1 0 : Nat) : Int) - ((pcs.getD i 0 : Nat) : Int)
      if w.1 = 0 then (.tableswitch df w.2.1 w.2.2.1 (w.2.2.2.1.map (fun k => ((pcs.getD k 0 : Nat) : Int) - ((pcs.getD i 0 : Nat) : Int))).toArray, w.2.2.2.2.2) else (.lookupswitch df #[], w.2.2.2.2.2)
    | none => (.nop, 1)) := hd
  rw [hw] at hd
  dsimp only at hd
  rcases hw2 with ⟨h0, hl⟩ | ⟨h1, hl⟩
  · rw [if_pos h0] at hd
    by_cases q : w.2.1 ≤ x ∧ x ≤ w.2.2.1
    · rw [if_pos q] at k
      have hk : (x - w.2.1).toNat < w.2.2.2.1.length := by rw [hl]; omega
      refine lv_tableIn (tgt := pcs.getD (w.2.2.2.1.getD (x - w.2.1).toNat 0) 0) (off := ((pcs.getD (w.2.2.2.1.getD (x - w.2.1).toNat 0) 0 : Nat) : Int) - ((pcs.getD i 0 : Nat) : Int)) hx hb hd (by rw [ax_n32 hxi]; omega) (by rw [ax_n32 hxi]; omega) ?_ (by rw [hpc]; omega) k
      rw [ax_n32 hxi, List.getElem?_toArray, List.getElem?_map, List.getElem?_eq_getElem hk, List.getD_eq_getElem?_getD (l := w.2.2.2.1), List.getElem?_eq_getElem hk]
      rfl
    · rw [if_neg q] at k
      exact lv_tableOut hx hb hd (by rw [ax_n32 hxi]; omega) (by rw [hpc]; omega) k
  · rw [if_neg (by rw [h1]; decide)] at hd
    rw [if_neg (by omega)] at k
    exact lv_lookup (off := ((pcs.getD w.2.2.2.2.1 0 : Nat) : Int) - ((pcs.getD i 0 : Nat) : Int)) hx hb hd rfl rfl (by rw [hpc]; omega) k
end AXR
