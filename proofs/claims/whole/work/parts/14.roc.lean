/-! rows that write -/
theorem ax_nat {x : Int} (h : 0 ≤ x) : Int32.ofInt x = nI x.toNat := by
  unfold nI
  rw [← Int32.ofInt_eq_ofNat, Int.toNat_of_nonneg h]
theorem ax_narC {x : Int} (h0 : 0 ≤ x) (h1 : x < 65536) : vp_nar .char (Int32.ofInt x) = Int32.ofInt x := by
  rw [ax_nat h0]
  unfold vp_nar
  rw [(pk_charN (q := x.toNat) (by omega)).1]
theorem ax_01 {x : Int} (h0 : 0 ≤ x) (h1 : x < 2) : x = 0 ∨ x = 1 := by omega
theorem ax_narZ {x : Int} (h0 : 0 ≤ x) (h1 : x < 2) : vp_nar .boolean (Int32.ofInt x) = Int32.ofInt x := by
  rcases ax_01 h0 h1 with rfl | rfl <;> rfl
theorem ax_updI {M : ax_M} {a k : Nat} {x : Int} : upd (fun j => Int32.ofInt (M a j)) k (Int32.ofInt x) = fun j => Int32.ofInt (ax_up M a k x a j) := by
  funext j
  by_cases h : j = k
  · subst h
    rw [ax_up_at]
    exact pk_us
  · rw [ax_up_of h]
    exact pk_un h
theorem ax_updL {M : ax_M} {a k : Nat} {x : Int} : vp_updL (fun j => Int64.ofInt (M a j)) k (Int64.ofInt x) = fun j => Int64.ofInt (ax_up M a k x a j) := by
  funext j
  by_cases h : j = k
  · subst h
    rw [ax_up_at]
    exact pk_uLs
  · rw [ax_up_of h]
    exact pk_uLn h
section AXR3
variable {p : Program} {l : Launch} {e : Env} {R : Room} {s : State} {m : MethodId} {args : Array Value} {below : List Frame} {meth : Method} {c : Code} {H : Heap} {locs : List Loc} {cells slots : Nat} {Q : State → Prop}
variable {cc : ByteArray} {pc : Nat} {ls : Array Slot} {rest : List Value} {pcs : List Nat} {i f g : Nat} {b : Int}
variable {cad : Int → Value} {Y : Nat → ClassId} {ad : Nat → Nat} {sh : List ax_H} {M : ax_M} {D : va_G} {A : Nat → Prop} {H0 : Heap} {tys : List (ClassId × FieldType)}
theorem ax_w22 (hx : p.tables.exec = Jvm.exec) (hb : c.code = cc) (hK : va_K D vwCl (ax_ty Y) s) (hP : va_P D vwCl (ax_Wd cad Y ad sh M) H) (hD : va_D A (ax_Wd cad Y ad sh M)) (hS : va_S A H0 H locs) {a n : Nat} {x : Int} {v : ax_V} (ha : sh[a]? = some (1, f, n)) (hv : ax_es f v = true) (h0 : 0 ≤ x) (hn : x < n) (hxi : ax_i x) (hd : decode cc pc = .ok (ax_ins pcs i (22, f, g, b)))
    (k : ∀ (H1 : Heap) (locs1 : List Loc), va_P D vwCl (ax_Wd cad Y ad sh (ax_up M a x.toNat v.2)) H1 → va_D A (ax_Wd cad Y ad sh (ax_up M a x.toNat v.2)) → va_S A H0 H1 locs1 → W p l e R s m args below meth c H1 locs1 cells slots Q (F0 m (pc + 1) ls rest)) : W p l e R s m args below meth c H locs cells slots Q (F0 m pc ls (ax_cv cad ad v :: .int (Int32.ofInt x) :: .ref (ad a) :: rest)) := by
  have hat := ax_Wd_at (cad := cad) (Y := Y) (ad := ad) (M := M) ha
  rw [ax_E_arr] at hat
  have hin := ax_in (n := n) hxi h0 hn
  have hcl := ax_clamp hxi
  have hset := ax_Wd_set (cad := cad) (Y := Y) (ad := ad) (M := M) (M' := ax_up M a x.toNat v.2) ha (fun b hb => ax_up_ne hb)
  rw [ax_E_arr] at hset
  obtain ⟨t, y⟩ := v
  match f, hv, hd, hat, hset with
  | 0, hv, hd, hat, hset =>
    have ht : t = 0 := of_decide_eq_true hv
    subst ht
    refine va_iast hx hb hK hP hD hS a 0 hat rfl hin hd (fun H1 locs1 h1 h2 h3 => ?_)
    rw [hcl, ax_updI] at h1 h2
    exact k H1 locs1 (by rw [← hset]; exact h1) (by rw [← hset]; exact h2) h3
  | 1, hv, hd, hat, hset =>
    have ht : t = 1 := of_decide_eq_true hv
    subst ht
    refine va_last hx hb hK hP hD hS a 1 hat rfl hin hd (fun H1 locs1 h1 h2 h3 => ?_)
    rw [hcl, ax_updL] at h1 h2
    exact k H1 locs1 (by rw [← hset]; exact h1) (by rw [← hset]; exact h2) h3
  | 2, hv, hd, hat, hset =>
    have hq : t = 0 ∧ 0 ≤ y ∧ y < 65536 := of_decide_eq_true hv
    obtain ⟨ht, q1, q2⟩ := hq
    subst ht
    refine va_cast hx hb hK hP hD hS a 2 hat rfl hin hd (fun H1 locs1 h1 h2 h3 => ?_)
    rw [hcl, ax_narC q1 q2, ax_updI] at h1 h2
    exact k H1 locs1 (by rw [← hset]; exact h1) (by rw [← hset]; exact h2) h3
  | 3, hv, hd, hat, hset =>
    have hq : t = 0 ∧ 0 ≤ y ∧ y < 2 := of_decide_eq_true hv
    obtain ⟨ht, q1, q2⟩ := hq
    subst ht
    refine va_zast hx hb hK hP hD hS a 3 hat rfl hin hd (fun H1 locs1 h1 h2 h3 => ?_)
    rw [hcl, ax_narZ q1 q2, ax_updI] at h1 h2
    exact k H1 locs1 (by rw [← hset]; exact h1) (by rw [← hset]; exact h2) h3
  | f + 4, hv, _, _, _ => cases hv
theorem ax_vwcl {f : Nat} (hf : f < 13) : vwCl[f]? = some ((ax_cl f).1, (ax_cl f).2.1, (ax_cl f).2.2) := by
  unfold ax_cl
  rw [List.getD_eq_getElem?_getD]
  have h : f < vwCl.length := hf
  rw [List.getElem?_eq_getElem h]
  rfl
theorem ax_w19 (hx : p.tables.exec = Jvm.exec) (hb : c.code = cc) {own : String} (hts : ∀ w ∈ ax_tb, w.before args s = true) (hown : s.vm.findClass own = some m.cls) (hK : va_K D vwCl (ax_ty Y) s) (hP : va_P D vwCl (ax_Wd cad Y ad sh M) H) {a : Nat} (ha : sh[a]? = some (0, f, ax_fl f)) (hf : f < 13) (hco : ax_cok f) (hg : g < ax_fl f) (hw : Cond.fieldLink own b.toNat ((ax_cl f).2.1 g).1 ((ax_cl f).2.1 g).2.1 ((ax_cl f).2.1 g).2.2.1 ∈ ax_tb) (hd : decode cc pc = .ok (ax_ins pcs i (19, f, g, b)))
    (k : W p l e R s m args below meth c H locs cells slots Q (F0 m (pc + 3) ls (ax_cv cad ad (ax_ft (ax_fty f g), M a g) :: rest))) : W p l e R s m args below meth c H locs cells slots Q (F0 m pc ls (.ref (ad a) :: rest)) := by
  have hat := ax_Wd_at (cad := cad) (Y := Y) (ad := ad) (M := M) ha
  rw [ax_E_obj] at hat
  obtain ⟨c1, c2, c3, -⟩ := hco
  exact va_get hx hb hts c3 hown hK hP a hat (ax_vwcl hf) g (by rw [c1]; exact hg) (hts _ hw) (fun x h => h) (ax_F_at hg) hd k
theorem ax_fitF {n f : Nat} {ty : FieldType} {v : ax_V} (hcad : ∀ x, cad x = .null ∨ ∃ q, cad x = .ref q) (hk : ax_tk ty = f) (hf : f ≤ 3) (hv : ax_fs f v = true) : narrow ty (ax_cv cad ad v) = ax_cv cad ad v ∧ fits ty (ax_cv cad ad v) = true ∧ ax_ft f = v.1 := by
  obtain ⟨t, x⟩ := v
  subst hk
  match ty, hf, hv with
  | .int, _, hv =>
    have ht : t = 0 := of_decide_eq_true hv
    subst ht
    exact ⟨rfl, rfl, rfl⟩
  | .long, _, hv =>
    have ht : t = 1 := of_decide_eq_true hv
    subst ht
    exact ⟨rfl, rfl, rfl⟩
  | .boolean, _, hv =>
    have hq : t = 0 ∧ 0 ≤ x ∧ x < 2 := of_decide_eq_true hv
    obtain ⟨ht, q1, q2⟩ := hq
    subst ht
    rcases ax_01 q1 q2 with rfl | rfl <;> exact ⟨rfl, rfl, rfl⟩
  | .object _, _, hv =>
    have ht : t = 2 := of_decide_eq_true hv
    subst ht
    rcases ax_cref hcad ad x with q | ⟨r, q⟩ <;> rw [q] <;> exact ⟨rfl, rfl, rfl⟩
  | .array _, _, hv =>
    have ht : t = 2 := of_decide_eq_true hv
    subst ht
    rcases ax_cref hcad ad x with q | ⟨r, q⟩ <;> rw [q] <;> exact ⟨rfl, rfl, rfl⟩
  | .byte, hf, _ => exact absurd hf (by decide)
  | .char, hf, _ => exact absurd hf (by decide)
  | .short, hf, _ => exact absurd hf (by decide)
  | .float, hf, _ => exact absurd hf (by decide)
  | .double, hf, _ => exact absurd hf (by decide)
theorem ax_w20 (hx : p.tables.exec = Jvm.exec) (hb : c.code = cc) (hcad : ∀ x, cad x = .null ∨ ∃ q, cad x = .ref q) {own : String} (hts : ∀ w ∈ ax_tb, w.before args s = true) (hown : s.vm.findClass own = some m.cls) (hK : va_K D vwCl (ax_ty Y) s) (hP : va_P D vwCl (ax_Wd cad Y ad sh M) H) (hD : va_D A (ax_Wd cad Y ad sh M)) (hS : va_S A H0 H locs) {a : Nat} {v : ax_V} (ha : sh[a]? = some (0, f, ax_fl f)) (hf : f < 13) (hco : ax_cok f) (hg : g < ax_fl f) (hv : ax_fs (ax_fty f g) v = true) (hw : Cond.fieldLink own b.toNat ((ax_cl f).2.1 g).1 ((ax_cl f).2.1 g).2.1 ((ax_cl f).2.1 g).2.2.1 ∈ ax_tb) (hfin : ((ax_cl f).2.1 g).2.2.2 = false ∨ (meth.name = "<init>" ∧ own = ax_cn f)) (hd : decode cc pc = .ok (ax_ins pcs i (20, f, g, b)))
    (k : ∀ (H1 : Heap) (locs1 : List Loc), va_P D vwCl (ax_Wd cad Y ad sh (ax_up M a g v.2)) H1 → va_D A (ax_Wd cad Y ad sh (ax_up M a g v.2)) → va_S A H0 H1 locs1 → W p l e R s m args below meth c H1 locs1 cells slots Q (F0 m (pc + 3) ls rest)) : W p l e R s m args below meth c H locs cells slots Q (F0 m pc ls (ax_cv cad ad v :: .ref (ad a) :: rest)) := by
  have hat := ax_Wd_at (cad := cad) (Y := Y) (ad := ad) (M := M) ha
  rw [ax_E_obj] at hat
  have hset := ax_Wd_set (cad := cad) (Y := Y) (ad := ad) (M := M) (M' := ax_up M a g v.2) ha (fun b hb => ax_up_ne hb)
  rw [ax_E_obj, ← ax_F_set (cad := cad) (ad := ad) (f := M a) hg (fun j hj => ax_up_of hj), ax_up_at] at hset
  obtain ⟨c1, c2, c3, -, -, c6, c7⟩ := hco
  have hgN : g < (ax_cl f).2.2 := by rw [c1]; exact hg
  obtain ⟨d1, d2, d3⟩ := c6 g hgN
  obtain ⟨n1, n2, n3⟩ := ax_fitF (n := 0) (cad := cad) (ad := ad) hcad d2 (ax_fty3 f g) hv
  have ev : ax_cv cad ad (ax_ft (ax_fty f g), v.2) = ax_cv cad ad v := by rw [n3]
  rw [ev] at hset
  cases hq : ((ax_cl f).2.1 g).2.2.2 with
  | false =>
    refine va_put hx hb hts c3 (ax_fT f) (fun k hk => (c6 k hk).1) c7 hown hK hP hD hS a hat (ax_vwcl hf) g hgN (hts _ hw) (fun x h => h) hq d1 n1 n2 (by rw [ax_F_len]; exact hg) hd (fun H1 locs1 h1 h2 h3 => ?_)
    exact k H1 locs1 (by rw [← hset]; exact h1) (by rw [← hset]; exact h2) h3
  | true =>
    rcases hfin with q | ⟨q1, q2⟩
    · rw [hq] at q; cases q
    · refine va_putF hx hb hts c3 (ax_fT f) (fun k hk => (c6 k hk).1) c7 hown hK hP hD hS a hat (ax_vwcl hf) g hgN (hts _ hw) (fun x h => h) hq q1 (by rw [q2]; exact d3) d1 n1 n2 (by rw [ax_F_len]; exact hg) hd (fun H1 locs1 h1 h2 h3 => ?_)
      exact k H1 locs1 (by rw [← hset]; exact h1) (by rw [← hset]; exact h2) h3
end AXR3
