/-! constants: the script, texts, statics -/
theorem ax_ldcwS {p : Program} {l : Launch} {e : Env} {R : Room} {s : State} {m : MethodId} {args : Array Value} {below : List Frame} {meth : Method} {c : Code} {T : State} {locs : List Loc} {cells slots : Nat}
    (X : Stand p l e R s m args below meth c T locs cells slots) (hexec : p.tables.exec = Jvm.exec) {own text : String} {index : Nat} {a : Addr} (hown : s.vm.findClass own = some m.cls)
    (hconst : (Cond.stringRef own index text).before args s = true) (hev : (Term.string own index).eval args s none [] s = some (.ref a)) {g : JFrame} (hg : g.method = m) (hdg : decode c.code g.pc = .ok (.ldc_w index, 3)) :
    ∀ target, Steps p.tables e below (T.setTop { g with pc := g.pc + 3, stack := .ref a :: g.stack }) target → Steps p.tables e below (T.setTop g) target := by
  obtain ⟨k, cf, i, a', hk, hcf, hcp, -, hr, hev'⟩ := Cond.stringRef_spec hown hconst
  cases hev.symm.trans hev'
  obtain ⟨k', hk', he⟩ := X.warmed.alike.2.2 _ _ hk
  have hr' : k'.resolved[index]? = some (some (.string a)) := by
    rcases X.warmed.entry hk hk' index with h | ⟨h, -⟩
    · rw [h]; exact hr
    · rw [hr] at h; cases h
  intro target hrest
  subst hg
  jvm_step X.here [hexec, hdg, ldc_w.wp_string (e := e) (s := T) (f := g) X.here.top hk' (by rw [he]; exact hcf) hcp hr']
  exact hrest
/-- what is so in every state: classes and arrays, the script, texts and statics -/
def ax_Ks (D : va_G) (Y : Nat → ClassId) (cad : Int → Value) (base L : Nat) (X : Nat → Int) (U : State) : Prop :=
  base ≤ U.heap.size ∧ va_K D vwCl (ax_ty Y) U ∧
  (∃ q : Nat, cad (-2) = .ref q ∧ q < base ∧ va_X q L (fun k => Int32.ofInt (X k)) U U.heap) ∧
  (∃ t : Nat, cad (-3) = .ref t ∧ va_Z "FireDrill$HouseReader" "MOST_OF" "[I" (.ref t) (fun q => base ≤ q) U U.heap ∧ va_T .int t 9 (fun j => .int (Int32.ofInt (ax_mo.getD j 0))) (fun q => base ≤ q) U U.heap) ∧
  va_Z "jdk/internal/util/Preconditions" "SIOOBE_FORMATTER" "Ljava/util/function/BiFunction;" (cad (-4)) (fun q => base ≤ q) U U.heap ∧
  va_Z "java/lang/String" "COMPACT_STRINGS" "Z" (.int 1) (fun q => base ≤ q) U U.heap ∧
  (∀ k : Nat, k < 21 → ∃ qS qB : Nat, cad (-10 - 2 * (k : Int)) = .ref qS ∧ cad (-11 - 2 * (k : Int)) = .ref qB ∧ va_O "java/lang/String" qS (fun q => base ≤ q) U U.heap ∧ va_OF "java/lang/String" "coder" "B" (.int 0) qS (fun q => base ≤ q) U U.heap ∧ va_OF "java/lang/String" "value" "[B" (.ref qB) qS (fun q => base ≤ q) U U.heap ∧ va_T .byte qB (ax_tx.getD k ("", [])).2.length (fun j => .int (Int32.ofInt ((ax_tx.getD k ("", [])).2.getD j 0))) (fun q => base ≤ q) U U.heap) ∧
  (∀ (o idx : Nat) (z : Int), (2, idx, 0, z) ∈ ax_lk.getD o [] → ∃ q : Nat, cad z = .ref q ∧ vk_R (ax_cn o) idx (ax_tx.getD (ax_sx z) ("", [])).1 q U) ∧
  (∀ o idx z : Nat, (9, idx, z, 0) ∈ ax_lk.getD o [] → va_Nw (.methodLinkNest (ax_cn o) idx (ax_inf z).2.1 "FireDrill") U) ∧ va_AOA .int U ∧ va_AOA .long U
theorem ax_Ks.go {D : va_G} {Y : Nat → ClassId} {cad : Int → Value} {base L : Nat} {X : Nat → Int} {u U : State} (h : ax_Ks D Y cad base L X u) (hvm : u.vm.Alike U.vm) (hR : ∀ own k tx a, vk_R own k tx a u → vk_R own k tx a U) (hN : ∀ own k y h, va_Nw (.methodLinkNest own k y h) u → va_Nw (.methodLinkNest own k y h) U) (hz : u.heap.size ≤ U.heap.size) (hk : ∀ q : Nat, q < u.heap.size → ¬ base ≤ q → U.heap[q]? = u.heap[q]?) : ax_Ks D Y cad base L X U := by
  obtain ⟨h1, h2, ⟨q, h3, h4, h5⟩, ⟨t, h6, h7, h8⟩, h9, h10, h11, h12, h13, h14, h15⟩ := h
  refine ⟨Nat.le_trans h1 hz, va_K.moved hvm h2, ⟨q, h3, h4, (va_X.moved hvm h5).kept (hk q (by omega) (by omega))⟩, ⟨t, h6, (va_Z.moved hvm h7).kept hk, (va_T.moved hvm h8).kept hk⟩, (va_Z.moved hvm h9).kept hk, (va_Z.moved hvm h10).kept hk, fun k hkk => ?_, fun o idx z hin => ?_, fun o idx z hin => hN _ _ _ _ (h13 o idx z hin), h14.moved hvm, h15.moved hvm⟩
  · obtain ⟨qS, qB, g1, g2, g3, g4, g5, g6⟩ := h11 k hkk
    exact ⟨qS, qB, g1, g2, (va_O.moved hvm g3).kept hk, (va_OF.moved hvm g4).kept hk, (va_OF.moved hvm g5).kept hk, (va_T.moved hvm g6).kept hk⟩
  · obtain ⟨q, g1, g2⟩ := h12 o idx z hin
    exact ⟨q, g1, hR _ _ _ _ g2⟩
theorem ax_Ks.call {D : va_G} {Y : Nat → ClassId} {cad : Int → Value} {base L : Nat} {X : Nat → Int} {u U : State} {H : Heap} {locs : List Loc} (h : ax_Ks D Y cad base L X u) (hW : u.WarmedH U.vm) (hS : va_S (fun q => base ≤ q) u.heap H locs) (hH : U.heap = H) : ax_Ks D Y cad base L X U := by
  subst hH
  exact h.go hW.alike (fun own k tx a g => vk_R.warm hW g) (fun own k y h g => va_Nw.warmM hW g) hS.1 hS.2.1
theorem ax_Ks.same {D : va_G} {Y : Nat → ClassId} {cad : Int → Value} {base L : Nat} {X : Nat → Int} {u U : State} (h : ax_Ks D Y cad base L X u) (hv : U.vm = u.vm) (hh : U.heap = u.heap) : ax_Ks D Y cad base L X U := by
  refine h.go (by rw [hv]; exact Vm.Alike.refl _) (fun own k tx a g => vk_R.same hv g) (fun own k y h g => va_Nw.same rfl hv.symm g) (by rw [hh]; exact Nat.le_refl _) (fun q _ _ => by rw [hh])
theorem ax_sx_of {a : Int} (h : ax_isS a = true) : ∃ k : Nat, k < 21 ∧ a = -10 - 2 * (k : Int) ∧ ax_sx a = k := by
  have h : a ≤ -10 ∧ a % 2 = 0 ∧ ax_sx a < 21 := of_decide_eq_true h
  refine ⟨ax_sx a, h.2.2, ?_, rfl⟩
  unfold ax_sx
  omega
theorem ax_bx_of {a : Int} (h : ax_isB a = true) : ∃ k : Nat, k < 21 ∧ a = -11 - 2 * (k : Int) ∧ ax_sx (a + 1) = k := by
  have h : a ≤ -11 ∧ a % 2 = 1 ∧ ax_sx (a + 1) < 21 := of_decide_eq_true h
  refine ⟨ax_sx (a + 1), h.2.2, ?_, rfl⟩
  unfold ax_sx
  omega
section AXK
variable {p : Program} {l : Launch} {e : Env} {R : Room} {s : State} {m : MethodId} {args : Array Value} {below : List Frame} {meth : Method} {c : Code} {H : Heap} {locs : List Loc} {cells slots : Nat} {Q : State → Prop}
variable {cc : ByteArray} {pc : Nat} {ls : Array Slot} {rest : List Value} {pcs : List Nat} {i f g : Nat} {b : Int}
variable {cad : Int → Value} {Y : Nat → ClassId} {ad : Nat → Nat} {sh : List ax_H} {M : ax_M} {D : va_G} {base L : Nat} {X : Nat → Int}
/-- numbers pushed -/
theorem ax_w0 (hx : p.tables.exec = Jvm.exec) (hb : c.code = cc) {o : Nat} (hKs : ax_Ks D Y cad base L X s) (hS : va_S (fun q => base ≤ q) s.heap H locs) (hts : ∀ w ∈ ax_tb, w.before args s = true) (hown : s.vm.findClass (ax_cn o) = some m.cls) (hsm : f ≤ 5 ∧ ax_i b ∧ (f = 1 → -128 ≤ b ∧ b < 128) ∧ (f = 2 → -32768 ≤ b ∧ b < 32768)) (hlk : 3 ≤ f → (if f = 5 then ax_wd o (3, g, 0, 1) else ax_wd o (0, g, 0, b)) ∈ ax_tb) (h5 : f = 5 → b = 1) (hd : decode cc pc = .ok (ax_ins pcs i (0, f, g, b)))
    (k : W p l e R s m args below meth c H locs cells slots Q (F0 m (pc + (ax_ins pcs i (0, f, g, b)).2) ls (.int (Int32.ofInt b) :: rest))) : W p l e R s m args below meth c H locs cells slots Q (F0 m pc ls rest) := by
  obtain ⟨s1, s2, s3, s4⟩ := hsm
  match f, s1, s3, s4, hlk, h5, hd, k with
  | 0, _, _, _, _, _, hd, k => exact lv_iconst hx hb hd rfl k
  | 1, _, s3, _, _, _, hd, k => exact lv_bipush hx hb hd (ax_byte (s3 rfl).1 (s3 rfl).2) k
  | 2, _, _, s4, _, _, hd, k => exact lv_sipush hx hb hd (ax_short (s4 rfl).1 (s4 rfl).2) k
  | 3, _, _, _, hlk, _, hd, k => exact lv_ldc hx hb hown (hts _ (hlk (by decide))) hd k
  | 4, _, _, _, hlk, _, hd, k => exact lv_ldcw hx hb hown (hts _ (hlk (by decide))) hd k
  | 5, _, _, _, hlk, h5, hd, k =>
    have hb1 := h5 rfl
    subst hb1
    exact va_gets hx hb hKs.2.2.2.2.2.1 hS hown (hts _ (hlk (by decide))) (fun x h => h) hd k
theorem ax_w1 (hx : p.tables.exec = Jvm.exec) (hb : c.code = cc) {o : Nat} (hts : ∀ w ∈ ax_tb, w.before args s = true) (hown : s.vm.findClass (ax_cn o) = some m.cls) (hsm : f ≤ 1 ∧ ax_l b ∧ (f = 0 → 0 ≤ b ∧ b < 2)) (hlk : f ≠ 0 → ax_wd o (1, g, 0, b) ∈ ax_tb) (hd : decode cc pc = .ok (ax_ins pcs i (1, f, g, b)))
    (k : W p l e R s m args below meth c H locs cells slots Q (F0 m (pc + (ax_ins pcs i (1, f, g, b)).2) ls (.long (Int64.ofInt b) :: rest))) : W p l e R s m args below meth c H locs cells slots Q (F0 m pc ls rest) := by
  obtain ⟨s1, s2, s3⟩ := hsm
  match f, s1, s3, hlk, hd, k with
  | 0, _, s3, _, hd, k =>
    have hq := s3 rfl
    rcases ax_01 hq.1 hq.2 with e | e
    · subst e
      exact lv_lconst hx hb hd rfl k
    · subst e
      exact lv_lconst hx hb hd rfl k
  | 1, _, _, hlk, hd, k => exact lv_ldc2 hx hb hown (hts _ (hlk (by decide))) hd k
/-- references pushed -/
theorem ax_w2 (hx : p.tables.exec = Jvm.exec) (hb : c.code = cc) {o : Nat} (hKs : ax_Ks D Y cad base L X s) (hS : va_S (fun q => base ≤ q) s.heap H locs) (hts : ∀ w ∈ ax_tb, w.before args s = true) (hown : s.vm.findClass (ax_cn o) = some m.cls) (hsm : f ≤ 3 ∧ b < -1) (hlk : (f = 0 ∨ f = 3 → (2, g, 0, b) ∈ ax_lk.getD o []) ∧ (f = 1 ∨ f = 2 → ax_wd o (3, g, 0, b) ∈ ax_tb ∧ (b = -3 ∨ b = -4))) (hd : decode cc pc = .ok (ax_ins pcs i (2, f, g, b)))
    (k : W p l e R s m args below meth c H locs cells slots Q (F0 m (pc + (ax_ins pcs i (2, f, g, b)).2) ls (cad b :: rest))) : W p l e R s m args below meth c H locs cells slots Q (F0 m pc ls rest) := by
  obtain ⟨s1, s2⟩ := hsm
  have st : ∀ (hd : decode cc pc = .ok (.getstatic g, 3)), ax_wd o (3, g, 0, b) ∈ ax_tb ∧ (b = -3 ∨ b = -4) → W p l e R s m args below meth c H locs cells slots Q (F0 m (pc + 3) ls (cad b :: rest)) → W p l e R s m args below meth c H locs cells slots Q (F0 m pc ls rest) := by
    intro hd2 hlk2 k2
    clear hd hlk k
    obtain ⟨hw, rfl | rfl⟩ := hlk2
    · obtain ⟨t, e1, e2, -⟩ := hKs.2.2.2.1
      rw [e1] at k2
      exact va_gets hx hb e2 hS hown (hts _ hw) (fun x h => h) hd2 k2
    · exact va_gets hx hb hKs.2.2.2.2.1 hS hown (hts _ hw) (fun x h => h) hd2 k2
  match f, s1, hlk, hd, k with
  | 0, _, hlk, hd, k =>
    obtain ⟨q, e1, e2⟩ := hKs.2.2.2.2.2.2.2.1 o g b (hlk.1 (Or.inl rfl))
    rw [e1] at k
    exact va_ldcS hx hb hown e2 hd k
  | 1, _, hlk, hd, k => exact st hd (hlk.2 (Or.inl rfl)) k
  | 2, _, hlk, hd, k => exact st hd (hlk.2 (Or.inr rfl)) k
  | 3, _, hlk, hd, k =>
    obtain ⟨q, e1, e2⟩ := hKs.2.2.2.2.2.2.2.1 o g b (hlk.1 (Or.inr rfl))
    rw [e1] at k
    intro T hT X0
    obtain ⟨t, a1, b1⟩ := k T hT X0
    exact ⟨t, ax_ldcwS X0 hx hown e2.1 e2.2 (g := F0 m pc ls rest) rfl (by rw [hb]; exact hd) t a1, b1⟩
/-- a text's fields -/
theorem ax_w19s (hx : p.tables.exec = Jvm.exec) (hb : c.code = cc) {o : Nat} (hKs : ax_Ks D Y cad base L X s) (hS : va_S (fun q => base ≤ q) s.heap H locs) (hts : ∀ w ∈ ax_tb, w.before args s = true) (hown : s.vm.findClass (ax_cn o) = some m.cls) {a : Int} (ha : ax_isS a = true) (hg : g = 0 ∨ g = 1) (hw : ax_wd o (5, b.toNat, 13, g) ∈ ax_tb) (hd : decode cc pc = .ok (ax_ins pcs i (19, 13, g, b)))
    (k : W p l e R s m args below meth c H locs cells slots Q (F0 m (pc + 3) ls (ax_cv cad ad (if g = 0 then (2, a - 1) else (0, 0)) :: rest))) : W p l e R s m args below meth c H locs cells slots Q (F0 m pc ls (ax_cv cad ad (2, a) :: rest)) := by
  obtain ⟨n, h1, h2, h3⟩ := ax_sx_of ha
  obtain ⟨qS, qB, g1, g2, -, g4, g5, -⟩ := hKs.2.2.2.2.2.2.1 n h1
  rw [ax_cK _ _ (show a < -1 by omega), h2, g1]
  rcases hg with e | e
  · subst e
    rw [if_pos rfl, ax_cK _ _ (show a - 1 < -1 by omega), show a - 1 = -11 - 2 * (n : Int) by omega, g2] at k
    exact vk_getf hx hb g5 hS hown (hts _ hw) (fun x h => h) hd k
  · subst e
    exact vk_getf hx hb g4 hS hown (hts _ hw) (fun x h => h) hd k
/-- an element of what is constant -/
theorem ax_w21c (hx : p.tables.exec = Jvm.exec) (hb : c.code = cc) (hKs : ax_Ks D Y cad base L X s) (hS : va_S (fun q => base ≤ q) s.heap H locs) {a x : Int} {v : ax_V} (ha : ¬ 0 ≤ a) (hxi : ax_i x) (hv : ax_ald L X sh M f a x = some v) (hd : decode cc pc = .ok (ax_ins pcs i (21, f, g, b)))
    (k : W p l e R s m args below meth c H locs cells slots Q (F0 m (pc + 1) ls (ax_cv cad ad v :: rest))) : W p l e R s m args below meth c H locs cells slots Q (F0 m pc ls (.int (Int32.ofInt x) :: ax_cv cad ad (2, a) :: rest)) := by
  have hcl := ax_clamp hxi
  unfold ax_ald at hv
  rw [if_neg ha] at hv
  split at hv
  · rename_i e
    split at hv
    · rename_i q
      cases hv
      obtain ⟨q1, q2, q3⟩ := q
      subst q1
      subst e
      obtain ⟨t, e1, e2, e3⟩ := hKs.2.2.1
      rw [ax_cK _ _ (by decide), e1]
      refine va_sld hx hb e3 (Nat.lt_of_lt_of_le e2 hKs.1) (show ¬ base ≤ t by omega) hS (ax_in hxi q2 q3.1) hd ?_
      rw [hcl]
      exact k
    · cases hv
  · split at hv
    · rename_i e
      split at hv
      · rename_i q
        cases hv
        obtain ⟨q1, q2, q3⟩ := q
        subst q1
        subst e
        obtain ⟨t, e1, -, e3⟩ := hKs.2.2.2.1
        rw [ax_cK _ _ (by decide), e1]
        exact va_ti hx hb e3 hS (ax_in (n := 9) hxi q2 q3) (by rw [hcl]; rfl) hd k
      · cases hv
    · split at hv
      · rename_i e
        split at hv
        · rename_i q
          cases hv
          obtain ⟨q1, q2, q3⟩ := q
          subst q1
          obtain ⟨n, h1, h2, h3⟩ := ax_bx_of e
          obtain ⟨qS, qB, -, g2, -, -, -, g6⟩ := hKs.2.2.2.2.2.2.1 n h1
          have eb : ax_by a = (ax_tx.getD n ("", [])).2 := by unfold ax_by; rw [h3]
          rw [eb] at q3 k
          rw [ax_cK _ _ (show a < -1 by omega), h2, g2]
          exact va_tb hx hb g6 hS (ax_in hxi q2 q3) (by rw [hcl]; rfl) hd k
        · cases hv
      · cases hv
theorem ax_w23c (hx : p.tables.exec = Jvm.exec) (hb : c.code = cc) (hKs : ax_Ks D Y cad base L X s) (hS : va_S (fun q => base ≤ q) s.heap H locs) {a n : Int} (ha : ¬ 0 ≤ a) (hv : ax_aln L sh a = some n) (hd : decode cc pc = .ok (ax_ins pcs i (23, f, g, b)))
    (k : W p l e R s m args below meth c H locs cells slots Q (F0 m (pc + 1) ls (.int (Int32.ofInt n) :: rest))) : W p l e R s m args below meth c H locs cells slots Q (F0 m pc ls (ax_cv cad ad (2, a) :: rest)) := by
  unfold ax_aln at hv
  rw [if_neg ha] at hv
  split at hv
  · rename_i e
    split at hv
    · cases hv
      subst e
      obtain ⟨t, e1, e2, e3⟩ := hKs.2.2.1
      rw [ax_cK _ _ (by decide), e1]
      refine va_slen hx hb e3 (Nat.lt_of_lt_of_le e2 hKs.1) (show ¬ base ≤ t by omega) hS hd ?_
      rw [Int32.ofInt_eq_ofNat] at k
      exact k
    · cases hv
  · split at hv
    · rename_i e
      cases hv
      obtain ⟨n, h1, h2, h3⟩ := ax_bx_of e
      obtain ⟨qS, qB, -, g2, -, -, -, g6⟩ := hKs.2.2.2.2.2.2.1 n h1
      have eb : ax_by a = (ax_tx.getD n ("", [])).2 := by unfold ax_by; rw [h3]
      rw [eb] at k
      rw [ax_cK _ _ (show a < -1 by omega), h2, g2]
      exact va_tlen hx hb g6 hS (by rw [Int32.ofInt_eq_ofNat]) hd k
    · cases hv
end AXK
