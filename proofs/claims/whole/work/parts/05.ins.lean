/-- the instruction of the machine that a row of the tables stands for, with its length -/
def ax_ins (pcs : List Nat) (i : Nat) (o : ax_O) : Instr × Nat :=
  let tg : Int := ((pcs.getD o.2.2.1 0 : Nat) : Int) - ((pcs.getD i 0 : Nat) : Int)
  match o.1 with
  | 0 => (match o.2.1 with
    | 0 => (.iconst o.2.2.2, 1)
    | 1 => (.bipush o.2.2.2, 2)
    | 2 => (.sipush o.2.2.2, 3)
    | 3 => (.ldc o.2.2.1, 2)
    | 4 => (.ldc_w o.2.2.1, 3)
    | _ => (.getstatic o.2.2.1, 3))
  | 1 => (match o.2.1 with
    | 0 => (.lconst (Fin.ofNat 2 o.2.2.2.toNat), 1)
    | _ => (.ldc2_w o.2.2.1, 3))
  | 2 => (match o.2.1 with
    | 0 => (.ldc o.2.2.1, 2)
    | 3 => (.ldc_w o.2.2.1, 3)
    | _ => (.getstatic o.2.2.1, 3))
  | 3 => (match o.2.1 with
    | 0 => if o.2.2.2 = 0 then (.iload_n (Fin.ofNat 4 o.2.2.1), 1) else (.iload o.2.2.1, 2)
    | 1 => if o.2.2.2 = 0 then (.lload_n (Fin.ofNat 4 o.2.2.1), 1) else (.lload o.2.2.1, 2)
    | _ => if o.2.2.2 = 0 then (.aload_n (Fin.ofNat 4 o.2.2.1), 1) else (.aload o.2.2.1, 2))
  | 4 => (match o.2.1 with
    | 0 => if o.2.2.2 = 0 then (.istore_n (Fin.ofNat 4 o.2.2.1), 1) else (.istore o.2.2.1, 2)
    | 1 => if o.2.2.2 = 0 then (.lstore_n (Fin.ofNat 4 o.2.2.1), 1) else (.lstore o.2.2.1, 2)
    | _ => if o.2.2.2 = 0 then (.astore_n (Fin.ofNat 4 o.2.2.1), 1) else (.astore o.2.2.1, 2))
  | 5 => (.iinc o.2.1 o.2.2.2, 3)
  | 6 => (match o.2.1 with
    | 0 => (.iadd, 1)
    | 1 => (.isub, 1)
    | 2 => (.imul, 1)
    | 3 => (.idiv, 1)
    | 4 => (.irem, 1)
    | 5 => (.iand, 1)
    | 6 => (.ior, 1)
    | 7 => (.ixor, 1)
    | 8 => (.ishl, 1)
    | 9 => (.ishr, 1)
    | _ => (.iushr, 1))
  | 7 => (match o.2.1 with
    | 0 => (.ladd, 1)
    | 1 => (.lsub, 1)
    | 2 => (.lmul, 1)
    | 3 => (.ldiv, 1)
    | 4 => (.lrem, 1)
    | _ => (.land, 1))
  | 8 => (.ineg, 1)
  | 9 => (.i2l, 1)
  | 10 => (.l2i, 1)
  | 11 => (.lcmp, 1)
  | 12 => (match o.2.1 with
    | 0 => (.ifCond .eq tg, 3)
    | 1 => (.ifCond .ne tg, 3)
    | 2 => (.ifCond .lt tg, 3)
    | 3 => (.ifCond .ge tg, 3)
    | 4 => (.ifCond .gt tg, 3)
    | _ => (.ifCond .le tg, 3))
  | 13 => (match o.2.1 with
    | 0 => (.if_icmp .eq tg, 3)
    | 1 => (.if_icmp .ne tg, 3)
    | 2 => (.if_icmp .lt tg, 3)
    | 3 => (.if_icmp .ge tg, 3)
    | 4 => (.if_icmp .gt tg, 3)
    | _ => (.if_icmp .le tg, 3))
  | 14 => (.goto tg, 3)
  | 15 => (match ax_sw[o.2.1]? with
    | some w =>
      let df : Int := ((pcs.getD w.2.2.2.2.1 0 : Nat) : Int) - ((pcs.getD i 0 : Nat) : Int)
      if w.1 = 0 then (.tableswitch df w.2.1 w.2.2.1 (w.2.2.2.1.map (fun k => ((pcs.getD k 0 : Nat) : Int) - ((pcs.getD i 0 : Nat) : Int))).toArray, w.2.2.2.2.2) else (.lookupswitch df #[], w.2.2.2.2.2)
    | none => (.nop, 1))
  | 16 => (.dup, 1)
  | 17 => (.dup2, 1)
  | 18 => (.pop, 1)
  | 19 => (.getfield o.2.2.2.toNat, 3)
  | 20 => (.putfield o.2.2.2.toNat, 3)
  | 21 => (match o.2.1 with
    | 0 => (.iaload, 1)
    | 1 => (.laload, 1)
    | 2 => (.caload, 1)
    | 3 => (.baload, 1)
    | _ => (.aaload, 1))
  | 22 => (match o.2.1 with
    | 0 => (.iastore, 1)
    | 1 => (.lastore, 1)
    | 2 => (.castore, 1)
    | _ => (.bastore, 1))
  | 23 => (.arraylength, 1)
  | 24 => (match o.2.1 with
    | 0 => (.newarray .int, 2)
    | 1 => (.newarray .long, 2)
    | 2 => (.newarray .char, 2)
    | _ => (.newarray .boolean, 2))
  | 25 => (.new o.2.2.2.toNat, 3)
  | 26 => (.multianewarray o.2.2.2.toNat 2, 4)
  | 27 => (match ax_kd o.2.1 with
    | 0 => (.invokestatic o.2.2.2.toNat, 3)
    | 1 => (.invokevirtual o.2.2.2.toNat, 3)
    | _ => (.invokespecial o.2.2.2.toNat, 3))
  | 28 => (match o.2.1 with
    | 1 => (.lreturn, 1)
    | 2 => (.return_, 1)
    | _ => (.ireturn, 1))
  | 29 => (.invokestatic o.2.2.2.toNat, 3)
  | 30 => (.invokespecial o.2.2.2.toNat, 3)
  | 31 => (.i2c, 1)
  | _ => (.nop, 1)
/-- the link that a row uses -/
def ax_lnk (o : ax_O) : Option (List (Nat × Nat × Nat × Int)) :=
  match o.1 with
  | 0 => if 3 ≤ o.2.1 then (if o.2.1 = 5 then some [(3, o.2.2.1, 0, 1)] else some [(0, o.2.2.1, 0, o.2.2.2)]) else none
  | 1 => if o.2.1 = 0 then none else some [(1, o.2.2.1, 0, o.2.2.2)]
  | 2 => if o.2.1 = 0 ∨ o.2.1 = 3 then some [(2, o.2.2.1, 0, o.2.2.2)] else some [(3, o.2.2.1, 0, o.2.2.2)]
  | 19 => if o.2.1 = 13 then some [(5, o.2.2.2.toNat, 13, o.2.2.1)] else some [(4, o.2.2.2.toNat, o.2.1, o.2.2.1)]
  | 20 => some [(4, o.2.2.2.toNat, o.2.1, o.2.2.1)]
  | 25 => some [(6, o.2.2.2.toNat, o.2.1, 0)]
  | 26 => some [(7, o.2.2.2.toNat, o.2.1, 0)]
  | 27 => some [(8, o.2.2.2.toNat, o.2.1, 0), (9, o.2.2.2.toNat, o.2.1, 0)]
  | 29 => some [(10, o.2.2.2.toNat, 0, 0)]
  | 30 => some [(11, o.2.2.2.toNat, 0, 0)]
  | _ => none
/-- small things that a row must keep -/
def ax_sml (j : Nat) (o : ax_O) : Bool :=
  match o.1 with
  | 0 => decide (o.2.1 ≤ 5 ∧ ax_i o.2.2.2 ∧ (o.2.1 = 1 → -128 ≤ o.2.2.2 ∧ o.2.2.2 < 128) ∧ (o.2.1 = 2 → -32768 ≤ o.2.2.2 ∧ o.2.2.2 < 32768) ∧ (o.2.1 = 5 → o.2.2.2 = 1))
  | 1 => decide (o.2.1 ≤ 1 ∧ ax_l o.2.2.2 ∧ (o.2.1 = 0 → 0 ≤ o.2.2.2 ∧ o.2.2.2 < 2))
  | 2 => decide (o.2.1 ≤ 3 ∧ o.2.2.2 < -1 ∧ (o.2.1 = 1 ∨ o.2.1 = 2 → o.2.2.2 = -3 ∨ o.2.2.2 = -4))
  | 3 => decide (o.2.1 ≤ 2 ∧ (o.2.2.2 = 0 → o.2.2.1 < 4))
  | 4 => decide (o.2.1 ≤ 2 ∧ (o.2.2.2 = 0 → o.2.2.1 < 4))
  | 5 => decide (ax_i o.2.2.2)
  | 6 => decide (o.2.1 ≤ 10)
  | 7 => decide (o.2.1 ≤ 5)
  | 12 => decide (o.2.1 ≤ 5)
  | 13 => decide (o.2.1 ≤ 5)
  | 19 => decide (o.2.1 < 14 ∧ (o.2.1 = 13 ∨ o.2.2.1 < ax_fl o.2.1))
  | 20 => decide (o.2.1 < 13 ∧ o.2.2.1 < ax_fl o.2.1 ∧ (((vwCl.getD o.2.1 ("", TX0, 0)).2.1 o.2.2.1).2.2.2 = false ∨ (ax_kd j = 2 ∧ ax_own j = o.2.1)))
  | 21 => decide (o.2.1 ≤ 4)
  | 22 => decide (o.2.1 ≤ 3)
  | 24 => decide (o.2.1 ≤ 3)
  | 25 => decide (o.2.1 < 13)
  | 26 => decide (o.2.1 ≤ 1)
  | 27 => decide (o.2.1 < 315 ∧ o.2.2.1 = (ax_inf o.2.1).2.2.2.2.2.1 + (if ax_kd o.2.1 = 0 then 0 else 1))
  | 28 => decide (o.2.1 = (ax_inf j).2.2.2.2.2.2.2)
  | _ => true
def ax_run1 (o : ax_O) : Bool := decide (o.1 = 14 ∨ o.1 = 15 ∨ o.1 = 28)
def ax_okI (j i : Nat) (o : ax_O) : Bool :=
  decide (o.1 = 99) || (decide (decode (ax_inf j).2.2.1 ((ax_pcs.getD j []).getD i 0) = .ok (ax_ins (ax_pcs.getD j []) i o)) && ax_sml j o
    && (ax_run1 o || decide ((ax_pcs.getD j [])[i + 1]? = some ((ax_pcs.getD j []).getD i 0 + (ax_ins (ax_pcs.getD j []) i o).2)))
    && match ax_lnk o with
      | none => true
      | some ls => ls.any (fun t => (ax_lk.getD (ax_own j) []).contains t))
def ax_okM (j : Nat) : Bool := (List.range (ax_code.getD j []).length).all (fun i => match ax_at j i with
  | some o => ax_okI j i o
  | none => false)
