/-! rows of loads, stores, fields and elements -/
section AXR2
variable {p : Program} {l : Launch} {e : Env} {R : Room} {s : State} {m : MethodId} {args : Array Value} {below : List Frame} {meth : Method} {c : Code} {H : Heap} {locs : List Loc} {cells slots : Nat} {Q : State → Prop}
variable {cc : ByteArray} {pc : Nat} {ls : Array Slot} {rest : List Value} {pcs : List Nat} {i f g : Nat} {b : Int}
variable {cad : Int → Value} {Y : Nat → ClassId} {ad : Nat → Nat} {sh : List ax_H} {M : ax_M} {D : va_G} {A : Nat → Prop} {H0 : Heap} {tys : List (ClassId × FieldType)}
theorem ax_w3 (hx : p.tables.exec = Jvm.exec) (hb : c.code = cc) (hcad : ∀ x, cad x = .null ∨ ∃ q, cad x = .ref q) {nL : Nat} {ll : List ax_V} (hl : ax_lv cad ad ls nL ll) {v : ax_V} (hv : ll[g]? = some v) (hvf : v.1 = f) (hs : f ≤ 2 ∧ (b = 0 → g < 4)) (hd : decode cc pc = .ok (ax_ins pcs i (3, f, g, b)))
    (k : W p l e R s m args below meth c H locs cells slots Q (F0 m (pc + (ax_ins pcs i (3, f, g, b)).2) ls (ax_cv cad ad v :: rest))) : W p l e R s m args below meth c H locs cells slots Q (F0 m pc ls rest) := by
  obtain ⟨t, x⟩ := v
  have hvf : t = f := hvf
  subst hvf
  have hv2 := hl.2.2.2 g _ hv (show t < 3 by omega)
  obtain ⟨h1, h2⟩ := hs
  match t, h1, hd, k, hv2 with
  | 0, _, hd, k, hv2 =>
    have hd : decode cc pc = .ok (if b = 0 then (.iload_n (Fin.ofNat 4 g), 1) else (.iload g, 2)) := hd
    have k : W p l e R s m args below meth c H locs cells slots Q (F0 m (pc + (if b = 0 then ((.iload_n (Fin.ofNat 4 g) : Instr), 1) else (.iload g, 2)).2) ls (ax_cv cad ad (0, x) :: rest)) := k
    by_cases e : b = 0
    · rw [if_pos e] at hd k
      exact lv_iload_n hx hb hd (Nat.mod_eq_of_lt (h2 e)) hv2 k
    · rw [if_neg e] at hd k
      exact lv_iload hx hb hd hv2 k
  | 1, _, hd, k, hv2 =>
    have hd : decode cc pc = .ok (if b = 0 then (.lload_n (Fin.ofNat 4 g), 1) else (.lload g, 2)) := hd
    have k : W p l e R s m args below meth c H locs cells slots Q (F0 m (pc + (if b = 0 then ((.lload_n (Fin.ofNat 4 g) : Instr), 1) else (.lload g, 2)).2) ls (ax_cv cad ad (1, x) :: rest)) := k
    by_cases e : b = 0
    · rw [if_pos e] at hd k
      exact lv_lload_n hx hb hd (Nat.mod_eq_of_lt (h2 e)) hv2 k
    · rw [if_neg e] at hd k
      exact lv_lload hx hb hd hv2 k
  | 2, _, hd, k, hv2 =>
    have hd : decode cc pc = .ok (if b = 0 then (.aload_n (Fin.ofNat 4 g), 1) else (.aload g, 2)) := hd
    have k : W p l e R s m args below meth c H locs cells slots Q (F0 m (pc + (if b = 0 then ((.aload_n (Fin.ofNat 4 g) : Instr), 1) else (.aload g, 2)).2) ls (ax_cv cad ad (2, x) :: rest)) := k
    rcases ax_cref hcad ad x with q | ⟨r, q⟩
    · rw [q] at hv2 k
      by_cases e : b = 0
      · rw [if_pos e] at hd k
        exact lv_aload_nN hx hb hd (Nat.mod_eq_of_lt (h2 e)) hv2 k
      · rw [if_neg e] at hd k
        exact lv_aloadN hx hb hd hv2 k
    · rw [q] at hv2 k
      by_cases e : b = 0
      · rw [if_pos e] at hd k
        exact lv_aload_n hx hb hd (Nat.mod_eq_of_lt (h2 e)) hv2 k
      · rw [if_neg e] at hd k
        exact lv_aload hx hb hd hv2 k
theorem ax_w4 (hx : p.tables.exec = Jvm.exec) (hb : c.code = cc) (hcad : ∀ x, cad x = .null ∨ ∃ q, cad x = .ref q) {nL : Nat} {ll : List ax_V} (hl : ax_lv cad ad ls nL ll) {v : ax_V} (hvf : v.1 = f) (hlt : g + (if v.1 = 1 then 1 else 0) < ll.length) (hs : f ≤ 2 ∧ (b = 0 → g < 4)) (hd : decode cc pc = .ok (ax_ins pcs i (4, f, g, b)))
    (k : ∀ ls' : Array Slot, ax_lv cad ad ls' nL (ax_set ll g v) → W p l e R s m args below meth c H locs cells slots Q (F0 m (pc + (ax_ins pcs i (4, f, g, b)).2) ls' rest)) : W p l e R s m args below meth c H locs cells slots Q (F0 m pc ls (ax_cv cad ad v :: rest)) := by
  obtain ⟨t, x⟩ := v
  have hvf : t = f := hvf
  subst hvf
  obtain ⟨h1, h2⟩ := hs
  have hn : ll.length = nL := hl.2.2.1
  rw [hn] at hlt
  match t, h1, hd, k, hlt with
  | 0, _, hd, k, hlt =>
    have hd : decode cc pc = .ok (if b = 0 then (.istore_n (Fin.ofNat 4 g), 1) else (.istore g, 2)) := hd
    have k : ∀ ls' : Array Slot, ax_lv cad ad ls' nL (ax_set ll g (0, x)) → W p l e R s m args below meth c H locs cells slots Q (F0 m (pc + (if b = 0 then ((.istore_n (Fin.ofNat 4 g) : Instr), 1) else (.istore g, 2)).2) ls' rest) := k
    have hlt : g + 0 < nL := hlt
    by_cases e : b = 0
    · rw [if_pos e] at hd k
      exact lv_istore_n hx hb hd (Nat.mod_eq_of_lt (h2 e)) (ax_lv_as hl) hlt rfl (fun ls' h => k ls' (ax_lv_st1 (ls := ls) hcad rfl hn h))
    · rw [if_neg e] at hd k
      exact lv_istore hx hb hd (ax_lv_as hl) hlt rfl (fun ls' h => k ls' (ax_lv_st1 (ls := ls) hcad rfl hn h))
  | 1, _, hd, k, hlt =>
    have hd : decode cc pc = .ok (if b = 0 then (.lstore_n (Fin.ofNat 4 g), 1) else (.lstore g, 2)) := hd
    have k : ∀ ls' : Array Slot, ax_lv cad ad ls' nL (ax_set ll g (1, x)) → W p l e R s m args below meth c H locs cells slots Q (F0 m (pc + (if b = 0 then ((.lstore_n (Fin.ofNat 4 g) : Instr), 1) else (.lstore g, 2)).2) ls' rest) := k
    have hlt : g + 1 < nL := hlt
    by_cases e : b = 0
    · rw [if_pos e] at hd k
      exact lv_lstore_n hx hb hd (Nat.mod_eq_of_lt (h2 e)) (ax_lv_as hl) hlt rfl (fun ls' h => k ls' (ax_lv_st2 hcad rfl rfl hn h))
    · rw [if_neg e] at hd k
      exact lv_lstore hx hb hd (ax_lv_as hl) hlt rfl (fun ls' h => k ls' (ax_lv_st2 hcad rfl rfl hn h))
  | 2, _, hd, k, hlt =>
    have hd : decode cc pc = .ok (if b = 0 then (.astore_n (Fin.ofNat 4 g), 1) else (.astore g, 2)) := hd
    have k : ∀ ls' : Array Slot, ax_lv cad ad ls' nL (ax_set ll g (2, x)) → W p l e R s m args below meth c H locs cells slots Q (F0 m (pc + (if b = 0 then ((.astore_n (Fin.ofNat 4 g) : Instr), 1) else (.astore g, 2)).2) ls' rest) := k
    have hlt : g + 0 < nL := hlt
    rcases ax_cref hcad ad x with q | ⟨r, q⟩
    · rw [q]
      by_cases e : b = 0
      · rw [if_pos e] at hd k
        exact lv_astore_nN hx hb hd (Nat.mod_eq_of_lt (h2 e)) (ax_lv_as hl) hlt rfl (fun ls' h => k ls' (ax_lv_st1 (ls := ls) hcad q hn h))
      · rw [if_neg e] at hd k
        exact lv_astoreN hx hb hd (ax_lv_as hl) hlt rfl (fun ls' h => k ls' (ax_lv_st1 (ls := ls) hcad q hn h))
    · rw [q]
      by_cases e : b = 0
      · rw [if_pos e] at hd k
        exact lv_astore_n hx hb hd (Nat.mod_eq_of_lt (h2 e)) (ax_lv_as hl) hlt rfl (fun ls' h => k ls' (ax_lv_st1 (ls := ls) hcad q hn h))
      · rw [if_neg e] at hd k
        exact lv_astore hx hb hd (ax_lv_as hl) hlt rfl (fun ls' h => k ls' (ax_lv_st1 (ls := ls) hcad q hn h))
theorem ax_w5 (hx : p.tables.exec = Jvm.exec) (hb : c.code = cc) (hcad : ∀ x, cad x = .null ∨ ∃ q, cad x = .ref q) {nL : Nat} {ll : List ax_V} (hl : ax_lv cad ad ls nL ll) {x : Int} (hv : ll[f]? = some (0, x)) (hd : decode cc pc = .ok (ax_ins pcs i (5, f, g, b)))
    (k : ∀ ls' : Array Slot, ax_lv cad ad ls' nL (ax_set ll f (0, x + b)) → W p l e R s m args below meth c H locs cells slots Q (F0 m (pc + 3) ls' rest)) : W p l e R s m args below meth c H locs cells slots Q (F0 m pc ls rest) := by
  have hn : ll.length = nL := hl.2.2.1
  have hlt : f < nL := by rw [← hn]; exact (List.getElem?_eq_some_iff.mp hv).1
  obtain ⟨q, hq⟩ := List.getElem?_of_mem (ax_as_in (cad := cad) (ad := ad) hv (by show 0 < 3; decide))
  exact lv_iinc (v := Int32.ofInt (x + b)) hx hb hd (ax_lv_as hl) hq (by rw [Int32.ofInt_add]) hlt rfl (fun ls' h => k ls' (ax_lv_st1 (ls := ls) hcad rfl hn h))
/-- an element read -/
theorem ax_w21 (hx : p.tables.exec = Jvm.exec) (hb : c.code = cc) (hK : va_K D vwCl (ax_ty Y) s) (hP : va_P D vwCl (ax_Wd cad Y ad sh M) H) {a t n : Nat} {x : Int} (ha : sh[a]? = some (1, t, n)) (ht : t = f ∨ (f = 4 ∧ t = 5)) (hf : f ≤ 4) (h0 : 0 ≤ x) (hn : x < n) (hxi : ax_i x) (hne : f = 4 → -1 ≤ M a x.toNat) (hd : decode cc pc = .ok (ax_ins pcs i (21, f, g, b)))
    (k : W p l e R s m args below meth c H locs cells slots Q (F0 m (pc + 1) ls (ax_cv cad ad (ax_et f, M a x.toNat) :: rest))) : W p l e R s m args below meth c H locs cells slots Q (F0 m pc ls (.int (Int32.ofInt x) :: .ref (ad a) :: rest)) := by
  have hat := ax_Wd_at (cad := cad) (Y := Y) (ad := ad) (M := M) ha
  rw [ax_E_arr] at hat
  have hin := ax_in (n := n) hxi h0 hn
  have hcl := ax_clamp hxi
  match f, hf, ht, hd, k, hne with
  | 0, _, ht, hd, k, _ =>
    have e : t = 0 := by omega
    subst e
    refine va_iald hx hb hK hP a 0 hat rfl hin hd ?_
    rw [hcl]
    exact k
  | 1, _, ht, hd, k, _ =>
    have e : t = 1 := by omega
    subst e
    refine va_lald hx hb hK hP a 1 hat rfl hin hd ?_
    rw [hcl]
    exact k
  | 2, _, ht, hd, k, _ =>
    have e : t = 2 := by omega
    subst e
    refine va_cald hx hb hK hP a 2 hat rfl hin hd ?_
    rw [hcl]
    exact k
  | 3, _, ht, hd, k, _ =>
    have e : t = 3 := by omega
    subst e
    refine va_zald hx hb hK hP a 3 hat rfl hin hd ?_
    rw [hcl]
    exact k
  | 4, _, ht, hd, k, hne =>
    have hlt : (Int32.ofInt x).toNatClampNeg < n := by rw [hcl]; omega
    have hv : ax_cv cad ad (2, M a x.toNat) = va_rf (if 0 ≤ M a x.toNat then some (ad (M a x.toNat).toNat) else none) := by
      by_cases q : 0 ≤ M a x.toNat
      · rw [ax_cR _ _ q, if_pos q]
        rfl
      · have q1 : M a x.toNat = -1 := by have := hne rfl; omega
        rw [q1]
        rfl
    have k : W p l e R s m args below meth c H locs cells slots Q (F0 m (pc + 1) ls (ax_cv cad ad (2, M a x.toNat) :: rest)) := k
    rw [hv] at k
    rcases (show t = 4 ∨ t = 5 by omega) with e | e
    · subst e
      exact W.aald (v := va_rf (if 0 ≤ M a x.toNat then some (ad (M a x.toNat).toNat) else none)) (ty := .array .int) hx hb (hP a _ hat) ((hK.2 4 _ rfl).1 n (fun j => va_rf (if 0 ≤ M a j then some (ad (M a j).toNat) else none))) rfl (fun q => by cases q) (by show ¬ (Int32.ofInt x < 0 ∨ (arrV _ _ _).slots.size ≤ _); rw [arrV_size]; exact hin) (by show (arrV _ _ _).slots[_]? = _; rw [arrV_read _ _ hlt, hcl]) rfl rfl hd k
    · subst e
      exact W.aald (v := va_rf (if 0 ≤ M a x.toNat then some (ad (M a x.toNat).toNat) else none)) (ty := .array .long) hx hb (hP a _ hat) ((hK.2 5 _ rfl).1 n (fun j => va_rf (if 0 ≤ M a j then some (ad (M a j).toNat) else none))) rfl (fun q => by cases q) (by show ¬ (Int32.ofInt x < 0 ∨ (arrV _ _ _).slots.size ≤ _); rw [arrV_size]; exact hin) (by show (arrV _ _ _).slots[_]? = _; rw [arrV_read _ _ hlt, hcl]) rfl rfl hd k
end AXR2
