/-! a run of the small machine is a run of the machine -/
def ax_rk (j : Nat) : Nat := (ax_inf j).2.2.2.2.2.2.2
def ax_rt (j : Nat) : Option FieldType := (ax_inf j).2.2.2.2.1
def ax_y (j : Nat) : MethodName := (ax_inf j).2.1
def ax_np (j : Nat) : Nat := (ax_inf j).2.2.2.2.2.1
theorem ax_ent_args {cad : Int → Value} (hcad : ∀ x, cad x = .null ∨ ∃ q, cad x = .ref q) {ad : Nat → Nat} : ∀ (as : List ax_V) (off k : Nat) (v : ax_V), (ax_ent as)[k]? = some v → v.1 < 3 → (off + k, ax_cv cad ad v) ∈ lv_args off (as.map (ax_cv cad ad))
  | [], _, k, v, h, _ => by simp [ax_ent] at h
  | w :: as, off, k, v, h, hv => by
    show _ ∈ (off, ax_cv cad ad w) :: lv_args (if (ax_cv cad ad w).category = 2 then off + 2 else off + 1) (as.map (ax_cv cad ad))
    rw [ax_ccat hcad]
    unfold ax_ent at h
    by_cases h1 : w.1 = 1
    · rw [if_pos h1] at h
      rw [if_pos h1, if_pos rfl]
      match k, h with
      | 0, h => cases h; exact List.mem_cons_self
      | 1, h => cases h; exact absurd hv (by decide)
      | k + 2, h =>
        have := ax_ent_args hcad (ad := ad) as (off + 2) k v h hv
        rw [show off + (k + 2) = off + 2 + k by omega]
        exact List.mem_cons_of_mem _ this
    · rw [if_neg h1] at h
      rw [if_neg h1, if_neg (by decide)]
      match k, h with
      | 0, h => cases h; exact List.mem_cons_self
      | k + 1, h =>
        have := ax_ent_args hcad (ad := ad) as (off + 1) k v h hv
        rw [show off + (k + 1) = off + 1 + k by omega]
        exact List.mem_cons_of_mem _ this
theorem ax_ent_len {cad : Int → Value} (hcad : ∀ x, cad x = .null ∨ ∃ q, cad x = .ref q) {ad : Nat → Nat} : ∀ as : List ax_V, (lg_sl (as.map (ax_cv cad ad))).length = (ax_ent as).length
  | [] => rfl
  | w :: as => by
    have ih := ax_ent_len hcad (ad := ad) as
    show ((if (ax_cv cad ad w).category = 2 then [Slot.val (ax_cv cad ad w), Slot.second] else [Slot.val (ax_cv cad ad w)]) ++ lg_sl (as.map (ax_cv cad ad))).length = _
    rw [ax_ccat hcad]
    unfold ax_ent
    by_cases h1 : w.1 = 1
    · rw [if_pos h1, if_pos rfl, if_pos h1, List.length_append, ih]
      simp only [List.length_cons, List.length_nil]
      omega
    · rw [if_neg h1, if_neg (by decide), if_neg h1, List.length_append, ih]
      simp only [List.length_cons, List.length_nil]
      omega
theorem ax_lv_in {cad : Int → Value} (hcad : ∀ x, cad x = .null ∨ ∃ q, cad x = .ref q) {ad : Nat → Nat} {as : List ax_V} {n : Nat} {ls : Array Slot} (hn : (ax_ent as).length ≤ n) (h : lv_has ls n (lv_args 0 (as.map (ax_cv cad ad)))) : ax_lv cad ad ls n (ax_loc as n) := by
  refine ⟨h.1, h.2.1, by unfold ax_loc; rw [List.length_append, List.length_replicate]; omega, fun k v hk hv => ?_⟩
  unfold ax_loc at hk
  by_cases hl : k < (ax_ent as).length
  · rw [List.getElem?_append_left hl] at hk
    have := h.2.2 _ (ax_ent_args hcad (ad := ad) as 0 k v hk hv)
    rw [Nat.zero_add] at this
    exact this
  · rw [List.getElem?_append_right (by omega)] at hk
    have := List.eq_of_mem_replicate (List.mem_of_getElem? hk)
    subst this
    exact absurd hv (by decide)
/-- a method's contract out of a walk of its body, also where its class has entries of its own but not for it -/
theorem ax_ofW {l : Launch} {y : MethodName} {ws ws' : List Cond} {rm : Room} {Pc : Array Value → State → Prop} {Qc : Array Value → State → Outcome → State → Prop} {mc ms : Nat} {free : Addr → Prop} {cc : ByteArray} {maxL : Nat} {ret : Option FieldType} (hy : plainFor y = true) (hw : ws = Cond.code y cc maxL ret :: ws') (body : ∀ p e s m args below meth c s₁, BodyLoose p l y (headSpec ws rm) cc maxL ret e s m args below meth c s₁ → c.maxLocals = maxL → Pc args s → W p l e (headSpec ws rm).room s m args below meth c s.heap [] 0 0 (MQ below Qc args s mc ms free) (entryFrame m args maxL)) : Met l y ws rm Pc Qc mc ms free := by
  refine MetFree.of_bodySF (code := cc) (maxLocals := maxL) (ret := ret) hy (fun args s m h hn => ?_) (fun p e s m args below meth c s₁ B hml hP _ => ?_)
  · have hcode : (Cond.code y cc maxL ret).before args s = true := atoms_spec (ws := ws) h _ (by rw [hw]; exact List.mem_cons_self)
    obtain ⟨meth, c, h1, h2, h3, h4, h5, h6, -, -⟩ := Cond.code_spec hn hcode
    exact ⟨meth, c, h1, h2, h3, h4, h5, h6⟩
  · have hh0 : s₁.heap = s.heap := by rw [B.state]; rfl
    obtain ⟨t, a1, o, b1, b2, b3⟩ := body p e s m args below meth c s₁ B hml hP s₁ hh0 (Stand.of_body B)
    exact ⟨t, o, a1, b1, b2, ⟨b3.1, b3.2⟩⟩
theorem ax_mp_use {j : Nat} (h : ax_mp j = true) : plainFor (ax_y j) = true ∧ (ax_y j).cls ≠ "java/lang/invoke/MethodHandle" ∧ (ax_y j).cls ≠ "java/lang/invoke/VarHandle" ∧ (parseMethodDescriptor (ax_y j).desc).map (fun d => d.parameters.length) = some (ax_np j) ∧ (ax_y j).cls = ax_cn (ax_own j) ∧ (ax_kd j = 2 → (ax_y j).name = "<init>") ∧ ax_ml j ≤ 11 ∧ ax_kd j ≤ 2 ∧ (ax_kd j = 1 → ax_own j < 13 ∨ ax_own j = 14) ∧ (ax_kd j = 2 → ax_rt j = none) ∧ (match ax_rk j with
    | 0 => ax_rt j = some .int
    | 1 => ax_rt j = some .long
    | 2 => ax_rt j = none
    | 3 => ax_rt j = some .boolean
    | 4 => ax_rt j = some .char
    | 5 => ax_rt j = some .byte
    | _ => False) := by
  unfold ax_mp at h
  simp only [Bool.and_eq_true, decide_eq_true_eq] at h
  obtain ⟨⟨⟨⟨⟨⟨⟨⟨⟨⟨h1, h2⟩, h3⟩, h4⟩, h5⟩, h6⟩, h7⟩, h8⟩, h9⟩, h10⟩, h11⟩ := h
  refine ⟨h1, h2, h3, h4, h5, h6, h7, h8, h9, h10, ?_⟩
  show (match (ax_inf j).2.2.2.2.2.2.2 with
    | 0 => ax_rt j = some .int
    | 1 => ax_rt j = some .long
    | 2 => ax_rt j = none
    | 3 => ax_rt j = some .boolean
    | 4 => ax_rt j = some .char
    | 5 => ax_rt j = some .byte
    | _ => False)
  split at h11
  · rename_i e; rw [e]; exact (of_decide_eq_true h11 : (ax_inf j).2.2.2.2.1 = _)
  · rename_i e; rw [e]; exact (of_decide_eq_true h11 : (ax_inf j).2.2.2.2.1 = _)
  · rename_i e; rw [e]; exact (of_decide_eq_true h11 : (ax_inf j).2.2.2.2.1 = _)
  · rename_i e; rw [e]; exact (of_decide_eq_true h11 : (ax_inf j).2.2.2.2.1 = _)
  · rename_i e; rw [e]; exact (of_decide_eq_true h11 : (ax_inf j).2.2.2.2.1 = _)
  · rename_i e; rw [e]; exact (of_decide_eq_true h11 : (ax_inf j).2.2.2.2.1 = _)
  · cases h11
theorem ax_pc0 : ∀ j : Nat, j < 316 → ax_pc j 0 = 0 := by
  have h : (List.range 316).all (fun j => decide (ax_pc j 0 = 0)) = true := by decide +kernel
  exact fun j hj => of_decide_eq_true (List.all_eq_true.mp h j (List.mem_range.mpr hj))
def ax_Pc (D : va_G) (Y : Nat → ClassId) (cad : Int → Value) (base L : Nat) (X : Nat → Int) (as : List ax_V) (ad : Nat → Nat) (sh : List ax_H) (M : ax_M) : Array Value → State → Prop := va_Pc (as.map (ax_cv cad ad)) (fun U => ax_Ks D Y cad base L X U ∧ va_P D vwCl (ax_Wd cad Y ad sh M) U.heap ∧ va_D (fun q => base ≤ q) (ax_Wd cad Y ad sh M))
def ax_Qc (D : va_G) (Y : Nat → ClassId) (cad : Int → Value) (base : Nat) (ad : Nat → Nat) (n : Nat) (sh' : List ax_H) (M' : ax_M) (r : List ax_V) : Array Value → State → Outcome → State → Prop := fun _ st oc t => (∃ ad' : Nat → Nat, oc = .returned (r.map (ax_cv cad ad')).head? ∧ (∀ a, a < n → ad' a = ad a) ∧ va_P D vwCl (ax_Wd cad Y ad' sh' M') t.heap ∧ va_D (fun q => base ≤ q) (ax_Wd cad Y ad' sh' M')) ∧ va_F (fun q => base ≤ q) st t
/-- what is to be shown of runs of n steps -/
def ax_Sim (D : va_G) (Y : Nat → ClassId) (cad : Int → Value) (base L : Nat) (X : Nat → Int) (l : Launch) (n : Nat) : Prop :=
  ∀ (d j i : Nat) (ll st : List ax_V) (sh : List ax_H) (M : ax_M) (r : List ax_V) (sh' : List ax_H) (M' : ax_M), ax_run L X n d j i ll st sh M = some (r, sh', M') →
  ∀ (p : Program) (e : Env) (R : Room) (s : State) (m : MethodId) (args : Array Value) (below : List Frame) (meth : Method) (c : Code) (H : Heap) (locs : List Loc) (cells slots : Nat) (Q : State → Prop) (ls : Array Slot) (ad : Nat → Nat),
    j < 316 → p.tables.exec = Jvm.exec → c.code = ax_bc j → c.maxLocals = ax_ml j → s.vm.findClass (ax_cn (ax_own j)) = some m.cls → (∀ w ∈ ax_tb, w.before args s = true) → (ax_kd j = 2 → meth.name = "<init>") → ax_Ks D Y cad base L X s →
    va_P D vwCl (ax_Wd cad Y ad sh M) H → va_D (fun q => base ≤ q) (ax_Wd cad Y ad sh M) → va_S (fun q => base ≤ q) s.heap H locs → ax_wm sh M → ax_ws sh.length ll → ax_ws sh.length st → ax_lv cad ad ls (ax_ml j) ll →
    d + 1 ≤ R.frames → 32 * d + 64 ≤ R.locals → cells + (sh'.length - sh.length) ≤ R.cells → slots + (ax_sl sh' - ax_sl sh) ≤ R.slots →
    (∀ (H' : Heap) (locs' : List Loc) (ls' : Array Slot) (ad' : Nat → Nat) (pc' : Nat), (∀ a, a < sh.length → ad' a = ad a) → va_P D vwCl (ax_Wd cad Y ad' sh' M') H' → va_D (fun q => base ≤ q) (ax_Wd cad Y ad' sh' M') → va_S (fun q => base ≤ q) s.heap H' locs' → decode (ax_bc j) pc' = .ok (ax_ins [] 0 (28, ax_rk j, 0, 0)) → ax_ret (ax_rk j) r = some r → W p l e R s m args below meth c H' locs' (cells + (sh'.length - sh.length)) (slots + (ax_sl sh' - ax_sl sh)) Q (F0 m pc' ls' (r.map (ax_cv cad ad')))) →
    W p l e R s m args below meth c H locs cells slots Q (F0 m (ax_pc j i) ls (st.map (ax_cv cad ad)))
theorem ax_ret_r {k : Nat} {st r : List ax_V} (h : ax_ret k st = some r) : r = st ∧ ax_ret k r = some r ∧ r.length ≤ 1 := by
  have h0 := h
  unfold ax_ret at h
  split at h
  · cases h; exact ⟨rfl, h0, Nat.le_refl _⟩
  · cases h; exact ⟨rfl, h0, Nat.le_refl _⟩
  · cases h; exact ⟨rfl, h0, Nat.zero_le _⟩
  · split at h
    · cases h; exact ⟨rfl, h0, Nat.le_refl _⟩
    · cases h
  · split at h
    · cases h; exact ⟨rfl, h0, Nat.le_refl _⟩
    · cases h
  · split at h
    · cases h; exact ⟨rfl, h0, Nat.le_refl _⟩
    · cases h
  · cases h
theorem ax_retf0 : ∀ {st r : List ax_V}, ax_ret 0 st = some r → ∃ x, st = [(0, x)]
  | [], _, h => by cases h
  | [(0, x)], _, _ => ⟨x, rfl⟩
  | [(_ + 1, _)], _, h => by cases h
  | _ :: _ :: _, _, h => by simp [ax_ret] at h
theorem ax_retf1 : ∀ {st r : List ax_V}, ax_ret 1 st = some r → ∃ x, st = [(1, x)]
  | [], _, h => by cases h
  | [(0, _)], _, h => by cases h
  | [(1, x)], _, _ => ⟨x, rfl⟩
  | [(_ + 2, _)], _, h => by cases h
  | _ :: _ :: _, _, h => by simp [ax_ret] at h
theorem ax_retf2 : ∀ {st r : List ax_V}, ax_ret 2 st = some r → st = []
  | [], _, _ => rfl
  | [_], _, h => by cases h
  | _ :: _ :: _, _, h => by simp [ax_ret] at h
theorem ax_retf3 : ∀ {st r : List ax_V}, ax_ret 3 st = some r → ∃ x, st = [(0, x)] ∧ 0 ≤ x ∧ x < 2
  | [], _, h => by cases h
  | [(0, x)], r, h => by
    have h : (if 0 ≤ x ∧ x < 2 then some [((0, x) : ax_V)] else none) = some r := h
    split at h
    · rename_i q; exact ⟨x, rfl, q⟩
    · cases h
  | [(_ + 1, _)], _, h => by cases h
  | _ :: _ :: _, _, h => by simp [ax_ret] at h
theorem ax_retf4 : ∀ {st r : List ax_V}, ax_ret 4 st = some r → ∃ x, st = [(0, x)] ∧ 0 ≤ x ∧ x < 65536
  | [], _, h => by cases h
  | [(0, x)], r, h => by
    have h : (if 0 ≤ x ∧ x < 65536 then some [((0, x) : ax_V)] else none) = some r := h
    split at h
    · rename_i q; exact ⟨x, rfl, q⟩
    · cases h
  | [(_ + 1, _)], _, h => by cases h
  | _ :: _ :: _, _, h => by simp [ax_ret] at h
theorem ax_retf5 : ∀ {st r : List ax_V}, ax_ret 5 st = some r → ∃ x, st = [(0, x)] ∧ -128 ≤ x ∧ x < 128
  | [], _, h => by cases h
  | [(0, x)], r, h => by
    have h : (if -128 ≤ x ∧ x < 128 then some [((0, x) : ax_V)] else none) = some r := h
    split at h
    · rename_i q; exact ⟨x, rfl, q⟩
    · cases h
  | [(_ + 1, _)], _, h => by cases h
  | _ :: _ :: _, _, h => by simp [ax_ret] at h
theorem ax_narB {x : Int} (h0 : -128 ≤ x) (h1 : x < 128) : narrow .byte (.int (Int32.ofInt x)) = .int (Int32.ofInt x) := by
  have := pk_nb (Int32.ofInt x)
  rw [Int32.toInt8_ofInt, ax_byte h0 h1] at this
  exact this
section AXM
variable {D : va_G} {Y : Nat → ClassId} {cad : Int → Value} {base L : Nat} {X : Nat → Int} {l : Launch}
theorem ax_met (K : ax_OK) (hcad : ∀ x, cad x = .null ∨ ∃ q, cad x = .ref q) {n d j : Nat} {as : List ax_V} {sh sh' : List ax_H} {M M' : ax_M} {r : List ax_V} {ad : Nat → Nat} (ih : ax_Sim D Y cad base L X l n) (hj : j < 316) (hrun : ax_run L X n d j 0 (ax_loc as (ax_ml j)) [] sh M = some (r, sh', M')) (hm : ax_wm sh M) (has : ax_ws sh.length as) (hlen : (ax_ent as).length ≤ ax_ml j) :
    Met l (ax_y j) (.code (ax_y j) (ax_bc j) (ax_ml j) (ax_rt j) :: ax_tb) { frames := d + 1, cells := sh'.length - sh.length, slots := ax_sl sh' - ax_sl sh, locals := 32 * d + 64 } (ax_Pc D Y cad base L X as ad sh M) (ax_Qc D Y cad base ad sh.length sh' M' r) (sh'.length - sh.length) (ax_sl sh' - ax_sl sh) (fun q => base ≤ q) := by
  obtain ⟨m1, -, -, -, m5, m6, m7, m8, -, -, m11⟩ := ax_mp_use (K.2.2.2.2.2 j hj)
  refine ax_ofW (cc := ax_bc j) (maxL := ax_ml j) (ret := ax_rt j) m1 rfl ?_
  intro p e s m args below meth c s₁ B hml hv
  obtain ⟨rfl, hKs, hP, hD⟩ := hv
  have hx := B.exec
  have hb := B.bytes
  have hr := B.returns
  have hts0 := atoms_spec (ws := .code (ax_y j) (ax_bc j) (ax_ml j) (ax_rt j) :: ax_tb) B.pre
  have hts : ∀ w ∈ ax_tb, w.before (as.map (ax_cv cad ad)).toArray s = true := fun w hw => hts0 w (List.mem_cons_of_mem _ hw)
  have hown : s.vm.findClass (ax_cn (ax_own j)) = some m.cls := by rw [← m5]; exact findClass_of_methodNamed B.named
  have hlocks := B.notSynchronized
  have hin : ax_kd j = 2 → meth.name = "<init>" := fun q => by rw [(name_of_methodNamed B.named B.method).1]; exact m6 q
  have hl := lv_entry (as.map (ax_cv cad ad)) (n := ax_ml j) (by rw [ax_ent_len hcad]; exact hlen)
  rw [lg_entry_eq]
  generalize (lg_sl (as.map (ax_cv cad ad)) ++ List.replicate (ax_ml j - (lg_sl (as.map (ax_cv cad ad))).length) Slot.unset).toArray = ls at hl ⊢
  have hlv := ax_lv_in hcad hlen hl
  have key := ih d j 0 (ax_loc as (ax_ml j)) [] sh M r sh' M' hrun p e { frames := d + 1, cells := sh'.length - sh.length, slots := ax_sl sh' - ax_sl sh, locals := 32 * d + 64 } s m (as.map (ax_cv cad ad)).toArray below meth c s.heap [] 0 0 (MQ below (ax_Qc D Y cad base ad sh.length sh' M' r) (as.map (ax_cv cad ad)).toArray s (sh'.length - sh.length) (ax_sl sh' - ax_sl sh) (fun q => base ≤ q)) ls ad hj hx hb hml hown hts hin hKs hP hD va_S.rf hm (ax_wloc has) ax_ws_n hlv (Nat.le_refl _) (Nat.le_refl _) (by rw [Nat.zero_add]; exact Nat.le_refl _) (by rw [Nat.zero_add]; exact Nat.le_refl _)
  rw [ax_pc0 j hj] at key
  refine key (fun H' locs' ls' ad' pc' ha h1 h2 h3 hd hret => ?_)
  rw [Nat.zero_add, Nat.zero_add]
  have hq : ∀ v, v = (r.map (ax_cv cad ad')).head? → ∀ t : State, t.heap = H' → s.WarmedH t.vm → ax_Qc D Y cad base ad sh.length sh' M' r (as.map (ax_cv cad ad)).toArray s (.returned v) t := fun v hv t ht _ => ⟨⟨ad', by rw [hv], ha, by rw [ht]; exact h1, h2⟩, h3.F ht⟩
  have hf : ∀ q ∈ locs', base ≤ q.base := h3.2.2
  generalize hk : ax_rk j = k at hd hret m11
  match k, hd, hret, m11 with
  | 0, hd, hret, m11 =>
    obtain ⟨x, rfl⟩ := ax_retf0 hret
    exact W.iret hx hb (hr.trans m11) (hq _ rfl) hf hd
  | 1, hd, hret, m11 =>
    obtain ⟨x, rfl⟩ := ax_retf1 hret
    exact W.lret hx hb (hr.trans m11) (hq _ rfl) hf hd
  | 2, hd, hret, m11 =>
    have e := ax_retf2 hret
    subst e
    exact W.vret hx hb (hr.trans m11) (hq _ rfl) hf hd
  | 3, hd, hret, m11 =>
    obtain ⟨x, rfl, h4, h5⟩ := ax_retf3 hret
    exact W.zret hx hb (hr.trans m11) (by rcases ax_01 h4 h5 with rfl | rfl <;> rfl) (hq _ rfl) hf hd
  | 4, hd, hret, m11 =>
    obtain ⟨x, rfl, h4, h5⟩ := ax_retf4 hret
    exact W.zret hx hb (hr.trans m11) (by rw [ax_nat h4]; exact (pk_charN (by omega)).1) (hq _ rfl) hf hd
  | 5, hd, hret, m11 =>
    obtain ⟨x, rfl, h4, h5⟩ := ax_retf5 hret
    exact W.zret hx hb (hr.trans m11) (ax_narB h4 h5) (hq _ rfl) hf hd
  | k + 6, hd, hret, m11 => exact m11.elim
end AXM
section AXC
variable {D : va_G} {Y : Nat → ClassId} {cad : Int → Value} {base L : Nat} {X : Nat → Int}
variable {p : Program} {l : Launch} {e : Env} {R : Room} {s : State} {m : MethodId} {args : Array Value} {below : List Frame} {meth : Method} {c : Code} {H : Heap} {locs : List Loc} {cells slots : Nat} {Q : State → Prop}
/-- behind a call -/
theorem ax_callx {pc mc ms n : Nat} {ls : Array Slot} {rest st0 : List Value} {a : Array Value} {ad : Nat → Nat} {sh' : List ax_H} {M' : ax_M} {r : List ax_V} (hr1 : r.length ≤ 1) (hr : va_Run p l e R s m args below meth c H locs cells slots mc ms (F0 m pc ls st0) rest (ax_Qc D Y cad base ad n sh' M' r a) (fun q => base ≤ q)) (hS : va_S (fun q => base ≤ q) s.heap H locs)
    (kk : ∀ (ad' : Nat → Nat) (H1 : Heap) (locs1 : List Loc), (∀ a, a < n → ad' a = ad a) → va_P D vwCl (ax_Wd cad Y ad' sh' M') H1 → va_D (fun q => base ≤ q) (ax_Wd cad Y ad' sh' M') → va_S (fun q => base ≤ q) s.heap H1 locs1 → W p l e R s m args below meth c H1 locs1 (cells + mc) (slots + ms) Q (F0 m (pc + 3) ls (r.map (ax_cv cad ad') ++ rest))) : W p l e R s m args below meth c H locs cells slots Q (F0 m pc ls st0) := by
  intro T hT X0
  obtain ⟨v, st₀, t, T', L', h0, X', hL, e1, e2, ⟨⟨ad', hv, ha, hp, hd⟩, hz, hk⟩, st⟩ := hr T hT X0
  have hv : v = (r.map (ax_cv cad ad')).head? := by injection hv
  have hvl : v.toList = r.map (ax_cv cad ad') := by
    rw [hv]
    match r, hr1 with
    | [], _ => rfl
    | [_], _ => rfl
  rw [h0] at hz hk
  rw [hvl] at st
  obtain ⟨t2, a1, b1⟩ := kk ad' T'.heap (locs ++ L') ha (by rw [e1]; exact hp) hd ⟨Nat.le_trans hS.1 (by rw [e1]; exact hz), fun q h1 h2 => by rw [e1, hk q (Nat.lt_of_lt_of_le h1 hS.1) h2]; exact hS.2.1 q h1 h2, fun q hq => by
      rcases List.mem_append.mp hq with h | h
      · exact hS.2.2 q h
      · exact hL q h⟩ T' rfl X'
  exact ⟨t2, st t2 a1, b1⟩
theorem ax_blind {as : List ax_V} {ad : Nat → Nat} {sh : List ax_H} {M : ax_M} : FrameBlind (ax_Pc D Y cad base L X as ad sh M) := fun a U g mk h => ⟨h.1, h.2.1.same rfl rfl, h.2.2⟩
theorem ax_good {j : Nat} (K : ax_OK) (hj : j < 316) (hjl : j ≠ ax_law) : GoodIn ax_tb (.code (ax_y j) (ax_bc j) (ax_ml j) (ax_rt j) :: ax_tb) := by
  intro w hw
  have hm : w ∈ ax_tb := by
    rcases List.mem_cons.mp hw with rfl | hw
    · refine K.2.2.2.2.1 j hj hjl _ ?_
      unfold ax_mw
      dsimp only
      split
      · exact List.mem_cons_self
      · exact List.mem_cons_self
      · exact List.mem_cons_self
    · exact hw
  exact ⟨hm, good_of_word (List.mem_filter.mp hm).2⟩
theorem ax_mwi {j : Nat} (K : ax_OK) (hj : j < 316) (hjl : j ≠ ax_law) : Cond.initialized (ax_y j).cls ∈ ax_tb := by
  refine K.2.2.2.2.1 j hj hjl _ ?_
  unfold ax_mw
  dsimp only
  split
  · exact List.mem_cons_of_mem _ List.mem_cons_self
  · exact List.mem_cons_of_mem _ List.mem_cons_self
  · exact List.mem_cons_of_mem _ List.mem_cons_self
theorem ax_mws {j : Nat} (K : ax_OK) (hj : j < 316) (hjl : j ≠ ax_law) (hk : ax_kd j = 0) : Cond.static (ax_y j) ∈ ax_tb := by
  refine K.2.2.2.2.1 j hj hjl _ ?_
  unfold ax_mw
  dsimp only
  rw [hk]
  exact List.mem_cons_of_mem _ (List.mem_cons_of_mem _ List.mem_cons_self)
theorem ax_mwv {j : Nat} (K : ax_OK) (hj : j < 316) (hjl : j ≠ ax_law) (hk : ax_kd j = 1) : Cond.instanceMethod (ax_y j) ∈ ax_tb ∧ Cond.selects (ax_y j).cls (ax_y j) (ax_y j) ∈ ax_tb := by
  constructor
  · refine K.2.2.2.2.1 j hj hjl _ ?_
    unfold ax_mw
    dsimp only
    rw [hk]
    exact List.mem_cons_of_mem _ (List.mem_cons_of_mem _ List.mem_cons_self)
  · refine K.2.2.2.2.1 j hj hjl _ ?_
    unfold ax_mw
    dsimp only
    rw [hk]
    exact List.mem_cons_of_mem _ (List.mem_cons_of_mem _ (List.mem_cons_of_mem _ List.mem_cons_self))
theorem ax_mwc {j : Nat} (K : ax_OK) (hj : j < 316) (hjl : j ≠ ax_law) (hk : ax_kd j = 2) : Cond.instanceMethod (ax_y j) ∈ ax_tb := by
  refine K.2.2.2.2.1 j hj hjl _ ?_
  unfold ax_mw
  dsimp only
  rw [hk]
  exact List.mem_cons_of_mem _ (List.mem_cons_of_mem _ List.mem_cons_self)
end AXC
