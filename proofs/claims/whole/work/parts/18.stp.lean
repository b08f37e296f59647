/-! one step of the small machine is steps of the machine -/
def ax_pc (j i : Nat) : Nat := (ax_pcs.getD j []).getD i 0
def ax_bc (j : Nat) : ByteArray := (ax_inf j).2.2.1
theorem ax_use {j i : Nat} {o : ax_O} (hj : ax_okM j = true) (ho : ax_at j i = some o) (h9 : o.1 ≠ 99) : decode (ax_bc j) (ax_pc j i) = .ok (ax_ins (ax_pcs.getD j []) i o) ∧ ax_sml j o = true ∧ (ax_run1 o = false → ax_pc j (i + 1) = ax_pc j i + (ax_ins (ax_pcs.getD j []) i o).2) ∧ ∀ ls, ax_lnk o = some ls → ∃ t, t ∈ ls ∧ t ∈ ax_lk.getD (ax_own j) [] := by
  have h1 := ax_ok_at hj ho
  unfold ax_okI at h1
  rw [decide_eq_false h9, Bool.false_or] at h1
  simp only [Bool.and_eq_true] at h1
  obtain ⟨⟨⟨a1, a2⟩, a3⟩, a4⟩ := h1
  refine ⟨of_decide_eq_true a1, a2, fun hr => ?_, fun ls hls => ?_⟩
  · rw [hr, Bool.false_or] at a3
    have := of_decide_eq_true a3
    show (ax_pcs.getD j []).getD (i + 1) 0 = _
    rw [List.getD_eq_getElem?_getD, this]
    rfl
  · rw [hls] at a4
    dsimp only at a4
    obtain ⟨t, ht, hc⟩ := List.any_eq_true.mp a4
    exact ⟨t, ht, List.elem_iff.mp hc⟩
theorem ax_l6 (pcs : List Nat) (i f g : Nat) (b : Int) (h : f ≤ 10) : (ax_ins pcs i (6, f, g, b)).2 = 1 := by
  match f, h with
  | 0, _ => rfl
  | 1, _ => rfl
  | 2, _ => rfl
  | 3, _ => rfl
  | 4, _ => rfl
  | 5, _ => rfl
  | 6, _ => rfl
  | 7, _ => rfl
  | 8, _ => rfl
  | 9, _ => rfl
  | 10, _ => rfl
theorem ax_l7 (pcs : List Nat) (i f g : Nat) (b : Int) (h : f ≤ 5) : (ax_ins pcs i (7, f, g, b)).2 = 1 := by
  match f, h with
  | 0, _ => rfl
  | 1, _ => rfl
  | 2, _ => rfl
  | 3, _ => rfl
  | 4, _ => rfl
  | 5, _ => rfl
theorem ax_l12 (pcs : List Nat) (i f g : Nat) (b : Int) (h : f ≤ 5) : (ax_ins pcs i (12, f, g, b)).2 = 3 := by
  match f, h with
  | 0, _ => rfl
  | 1, _ => rfl
  | 2, _ => rfl
  | 3, _ => rfl
  | 4, _ => rfl
  | 5, _ => rfl
theorem ax_l13 (pcs : List Nat) (i f g : Nat) (b : Int) (h : f ≤ 5) : (ax_ins pcs i (13, f, g, b)).2 = 3 := by
  match f, h with
  | 0, _ => rfl
  | 1, _ => rfl
  | 2, _ => rfl
  | 3, _ => rfl
  | 4, _ => rfl
  | 5, _ => rfl
theorem ax_l21 (pcs : List Nat) (i f g : Nat) (b : Int) (h : f ≤ 4) : (ax_ins pcs i (21, f, g, b)).2 = 1 := by
  match f, h with
  | 0, _ => rfl
  | 1, _ => rfl
  | 2, _ => rfl
  | 3, _ => rfl
  | 4, _ => rfl
theorem ax_l22 (pcs : List Nat) (i f g : Nat) (b : Int) (h : f ≤ 3) : (ax_ins pcs i (22, f, g, b)).2 = 1 := by
  match f, h with
  | 0, _ => rfl
  | 1, _ => rfl
  | 2, _ => rfl
  | 3, _ => rfl
theorem ax_l24 (pcs : List Nat) (i f g : Nat) (b : Int) (h : f ≤ 3) : (ax_ins pcs i (24, f, g, b)).2 = 2 := by
  match f, h with
  | 0, _ => rfl
  | 1, _ => rfl
  | 2, _ => rfl
  | 3, _ => rfl
theorem ax_catm {cad : Int → Value} (hcad : ∀ x, cad x = .null ∨ ∃ q, cad x = .ref q) (ad : Nat → Nat) : ∀ st : List ax_V, ((st.map (ax_cv cad ad)).map fun v => v.category).sum = ax_cat st
  | [] => rfl
  | v :: st => by
    show (ax_cv cad ad v).category + ((st.map (ax_cv cad ad)).map fun v => v.category).sum = (if v.1 = 1 then 2 else 1) + ax_cat st
    rw [ax_ccat hcad, ax_catm hcad ad st]
theorem ax_cat1 {cad : Int → Value} (hcad : ∀ x, cad x = .null ∨ ∃ q, cad x = .ref q) (ad : Nat → Nat) {v : ax_V} (h : v.1 = 0 ∨ v.1 = 2) : (ax_cv cad ad v).category = 1 := by
  rw [ax_ccat hcad, if_neg (by omega)]
theorem ax_swok : ∀ w ∈ ax_sw, (w.1 = 0 ∧ w.2.2.2.1.length = (w.2.2.1 - w.2.1 + 1).toNat) ∨ (w.1 = 1 ∧ w.2.2.1 < w.2.1) := by decide +kernel
theorem ax_i2c {x : Int} (h : ax_i x) : ((Int32.ofInt x).toUInt32 % 65536).toInt32 = Int32.ofInt (x % 65536) := by
  rw [pk_char]
  have h1 : ((Int32.ofInt x).toBitVec.toNat : Int) = x % 4294967296 := by
    show (((BitVec.ofInt 32 x).toNat : Nat) : Int) = _
    rw [BitVec.toNat_ofInt]
    omega
  rw [ax_nat (show 0 ≤ x % 65536 by omega)]
  congr 1
  omega
theorem ax_map_ad {cad : Int → Value} {ad ad' : Nat → Nat} {n : Nat} {st : List ax_V} (h : ∀ a, a < n → ad' a = ad a) (hs : ax_ws n st) : st.map (ax_cv cad ad') = st.map (ax_cv cad ad) := List.map_congr_left (fun v hv => ax_cv_ad h (hs v hv))
theorem ax_lv_ad {cad : Int → Value} {ad ad' : Nat → Nat} {ls : Array Slot} {nL n : Nat} {ll : List ax_V} (hl : ax_lv cad ad ls nL ll) (hw : ax_ws n ll) (h : ∀ a, a < n → ad' a = ad a) : ax_lv cad ad' ls nL ll := ⟨hl.1, hl.2.1, hl.2.2.1, fun k v hk hv => by rw [ax_cv_ad h (hw v (List.mem_of_getElem? hk))]; exact hl.2.2.2 k v hk hv⟩
section AXS
variable {p : Program} {l : Launch} {e : Env} {R : Room} {s : State} {m : MethodId} {args : Array Value} {below : List Frame} {meth : Method} {c : Code} {H : Heap} {locs : List Loc} {cells slots : Nat} {Q : State → Prop}
variable {ls : Array Slot} {cad : Int → Value} {Y : Nat → ClassId} {ad : Nat → Nat} {sh sh' : List ax_H} {M M' : ax_M} {D : va_G} {base L : Nat} {X : Nat → Int} {i i' j : Nat} {ll ll' st st' : List ax_V} {o : ax_O}
set_option maxHeartbeats 4000000 in
theorem ax_sstep (K : ax_OK) (hcad : ∀ x, cad x = .null ∨ ∃ q, cad x = .ref q) (hx : p.tables.exec = Jvm.exec) (hb : c.code = ax_bc j) (hml : c.maxLocals = ax_ml j) (hown : s.vm.findClass (ax_cn (ax_own j)) = some m.cls) (hts : ∀ w ∈ ax_tb, w.before args s = true) (hin : ax_kd j = 2 → meth.name = "<init>") (hKs : ax_Ks D Y cad base L X s) (hX : ∀ k, ax_i (X k)) (hL : L ≤ 3072) (hj : j < 316) (ho : ax_at j i = some o)
    (hP : va_P D vwCl (ax_Wd cad Y ad sh M) H) (hD : va_D (fun q => base ≤ q) (ax_Wd cad Y ad sh M)) (hS : va_S (fun q => base ≤ q) s.heap H locs) (hm : ax_wm sh M) (hl : ax_ws sh.length ll) (hs : ax_ws sh.length st) (hlv : ax_lv cad ad ls (ax_ml j) ll) (h : ax_step L X o i ll st sh M = some (i', ll', st', sh', M')) (hfr : 1 ≤ R.frames) (hlo : 64 ≤ R.locals) (hrc : cells + (sh'.length - sh.length) ≤ R.cells) (hrs : slots + (ax_sl sh' - ax_sl sh) ≤ R.slots)
    (k : ∀ (H' : Heap) (locs' : List Loc) (ls' : Array Slot) (ad' : Nat → Nat), (∀ a, a < sh.length → ad' a = ad a) → va_P D vwCl (ax_Wd cad Y ad' sh' M') H' → va_D (fun q => base ≤ q) (ax_Wd cad Y ad' sh' M') → va_S (fun q => base ≤ q) s.heap H' locs' → ax_lv cad ad' ls' (ax_ml j) ll' → W p l e R s m args below meth c H' locs' (cells + (sh'.length - sh.length)) (slots + (ax_sl sh' - ax_sl sh)) Q (F0 m (ax_pc j i') ls' (st'.map (ax_cv cad ad')))) :
    W p l e R s m args below meth c H locs cells slots Q (F0 m (ax_pc j i) ls (st.map (ax_cv cad ad))) := by
  have h9 : o.1 ≠ 99 := fun q => by
    obtain ⟨a, b, c, d⟩ := o
    have q : a = 99 := q
    subst q
    cases h
  obtain ⟨hd, hsm, hnx, hlk⟩ := ax_use (K.2.2.1 j hj) ho h9
  have hcok := K.1
  have hjw := K.2.1
  have hwd := K.2.2.2.1
  have hA : ∀ q, s.heap.size ≤ q → (fun q => base ≤ q) q := fun q hq => Nat.le_trans hKs.1 hq
  have hKK := hKs.2.1
  obtain ⟨n, f, g, b⟩ := o
  clear h9
  match n, h, hd, hsm, hnx, hlk with
  | 0, h, hd, hsm, hnx, hlk =>
    cases h
    simp only [Nat.sub_self, Nat.add_zero] at k
    have hnx := hnx rfl
    have hsm := of_decide_eq_true hsm
    have k0 := k H locs ls ad (fun _ _ => rfl) hP hD hS hlv
    rw [hnx] at k0
    refine ax_w0 hx hb hKs hS hts hown ⟨hsm.1, hsm.2.1, hsm.2.2.1, hsm.2.2.2.1⟩ (fun h3 => ?_) hsm.2.2.2.2 hd k0
    · by_cases h5 : f = 5
      · rw [if_pos h5]
        obtain ⟨t, t1, t2⟩ := hlk _ (by show (if 3 ≤ f then (if f = 5 then some [(3, g, 0, 1)] else some [(0, g, 0, b)]) else none) = some [(3, g, 0, 1)]; rw [if_pos h3, if_pos h5])
        rw [List.mem_singleton.mp t1] at t2
        exact (hwd _ _ t2 (fun q => (by cases q)) (fun q => (by cases q)))
      · rw [if_neg h5]
        obtain ⟨t, t1, t2⟩ := hlk _ (by show (if 3 ≤ f then (if f = 5 then some [(3, g, 0, 1)] else some [(0, g, 0, b)]) else none) = some [(0, g, 0, b)]; rw [if_pos h3, if_neg h5])
        rw [List.mem_singleton.mp t1] at t2
        exact (hwd _ _ t2 (fun q => (by cases q)) (fun q => (by cases q)))
  | 1, h, hd, hsm, hnx, hlk =>
    cases h
    simp only [Nat.sub_self, Nat.add_zero] at k
    have hnx := hnx rfl
    have hsm := of_decide_eq_true hsm
    have k0 := k H locs ls ad (fun _ _ => rfl) hP hD hS hlv
    rw [hnx] at k0
    refine ax_w1 hx hb hts hown hsm (fun h3 => ?_) hd k0
    obtain ⟨t, t1, t2⟩ := hlk _ (by show (if f = 0 then none else some [(1, g, 0, b)]) = some [(1, g, 0, b)]; rw [if_neg h3])
    rw [List.mem_singleton.mp t1] at t2
    exact (hwd _ _ t2 (fun q => (by cases q)) (fun q => (by cases q)))
  | 2, h, hd, hsm, hnx, hlk =>
    cases h
    simp only [Nat.sub_self, Nat.add_zero] at k
    have hnx := hnx rfl
    have hsm := of_decide_eq_true hsm
    have k0 := k H locs ls ad (fun _ _ => rfl) hP hD hS hlv
    rw [hnx] at k0
    have k0 : W p l e R s m args below meth c H locs cells slots Q (F0 m (ax_pc j i + (ax_ins (ax_pcs.getD j []) i (2, f, g, b)).2) ls (ax_cv cad ad (2, b) :: st.map (ax_cv cad ad))) := k0
    rw [ax_cK _ _ hsm.2.1] at k0
    refine ax_w2 hx hb hKs hS hts hown ⟨hsm.1, hsm.2.1⟩ ⟨fun h3 => ?_, fun h3 => ?_⟩ hd k0
    · obtain ⟨t, t1, t2⟩ := hlk _ (by show (if f = 0 ∨ f = 3 then some [(2, g, 0, b)] else some [(3, g, 0, b)]) = some [(2, g, 0, b)]; rw [if_pos h3])
      rw [List.mem_singleton.mp t1] at t2
      exact t2
    · obtain ⟨t, t1, t2⟩ := hlk _ (by show (if f = 0 ∨ f = 3 then some [(2, g, 0, b)] else some [(3, g, 0, b)]) = some [(3, g, 0, b)]; rw [if_neg (by rcases h3 with e | e <;> subst e <;> decide)])
      rw [List.mem_singleton.mp t1] at t2
      exact ⟨(hwd _ _ t2 (fun q => (by cases q)) (fun q => (by cases q))), hsm.2.2 h3⟩
  | 3, h, hd, hsm, hnx, hlk =>
    have h : ax_x3 f g i ll st sh M = some (i', ll', st', sh', M') := h
    have hnx := hnx rfl
    have hsm := of_decide_eq_true hsm
    unfold ax_x3 at h
    split at h
    · rename_i v hv
      split at h
      · rename_i hvf
        cases h
        simp only [Nat.sub_self, Nat.add_zero] at k
        have k0 := k H locs ls ad (fun _ _ => rfl) hP hD hS hlv
        rw [hnx] at k0
        exact ax_w3 hx hb hcad hlv hv hvf hsm hd k0
      · cases h
    · cases h
  | 4, h, hd, hsm, hnx, hlk =>
    have hnx := hnx rfl
    have hsm := of_decide_eq_true hsm
    cases st with
    | nil => cases h
    | cons v st0 =>
      have h : (if v.1 = f ∧ g + (if v.1 = 1 then 1 else 0) < ll.length then some (i + 1, ax_set ll g v, st0, sh, M) else none) = some (i', ll', st', sh', M') := h
      by_cases q : v.1 = f ∧ g + (if v.1 = 1 then 1 else 0) < ll.length
      · rw [if_pos q] at h
        cases h
        simp only [Nat.sub_self, Nat.add_zero] at k
        refine ax_w4 hx hb hcad hlv q.1 q.2 hsm hd (fun ls' hls' => ?_)
        have k0 := k H locs ls' ad (fun _ _ => rfl) hP hD hS hls'
        rw [hnx] at k0
        exact k0
      · rw [if_neg q] at h
        cases h
  | 5, h, hd, hsm, hnx, hlk =>
    have h : ax_x5 f b i ll st sh M = some (i', ll', st', sh', M') := h
    have hnx := hnx rfl
    unfold ax_x5 at h
    split at h
    · rename_i x hv
      split at h
      · cases h
        simp only [Nat.sub_self, Nat.add_zero] at k
        refine ax_w5 hx hb hcad hlv hv hd (fun ls' hls' => ?_)
        have k0 := k H locs ls' ad (fun _ _ => rfl) hP hD hS hls'
        rw [hnx] at k0
        exact k0
      · cases h
    · cases h
  | 6, h, hd, hsm, hnx, hlk =>
    have h : ax_x6 f i ll st sh M = some (i', ll', st', sh', M') := h
    have hnx := hnx rfl
    have hsm : f ≤ 10 := of_decide_eq_true hsm
    unfold ax_x6 at h
    split at h
    · split at h
      · rename_i z hz
        cases h
        simp only [Nat.sub_self, Nat.add_zero] at k
        have k0 := k H locs ls ad (fun _ _ => rfl) hP hD hS hlv
        rw [hnx, ax_l6 _ _ _ _ _ hsm] at k0
        exact ax_w6 hx hb hsm ((ax_ws_h (ax_ws_t hs)).1 rfl) ((ax_ws_h hs).1 rfl) hz hd k0
      · cases h
    · cases h
  | 7, h, hd, hsm, hnx, hlk =>
    have h : ax_x7 f i ll st sh M = some (i', ll', st', sh', M') := h
    have hnx := hnx rfl
    have hsm : f ≤ 5 := of_decide_eq_true hsm
    unfold ax_x7 at h
    split at h
    · split at h
      · rename_i z hz
        cases h
        simp only [Nat.sub_self, Nat.add_zero] at k
        have k0 := k H locs ls ad (fun _ _ => rfl) hP hD hS hlv
        rw [hnx, ax_l7 _ _ _ _ _ hsm] at k0
        exact ax_w7 hx hb hsm ((ax_ws_h (ax_ws_t hs)).2.1 rfl) ((ax_ws_h hs).2.1 rfl) hz hd k0
      · cases h
    · cases h
  | 8, h, hd, hsm, hnx, hlk =>
    have h : ax_x8 i ll st sh M = some (i', ll', st', sh', M') := h
    have hnx := hnx rfl
    unfold ax_x8 at h
    split at h
    · split at h
      · cases h
        simp only [Nat.sub_self, Nat.add_zero] at k
        have k0 := k H locs ls ad (fun _ _ => rfl) hP hD hS hlv
        rw [hnx] at k0
        refine lv_ineg hx hb hd ?_
        rw [← Int32.ofInt_neg]
        exact k0
      · cases h
    · cases h
  | 9, h, hd, hsm, hnx, hlk =>
    have h : ax_x9 i ll st sh M = some (i', ll', st', sh', M') := h
    have hnx := hnx rfl
    unfold ax_x9 at h
    split at h
    · cases h
      simp only [Nat.sub_self, Nat.add_zero] at k
      have k0 := k H locs ls ad (fun _ _ => rfl) hP hD hS hlv
      rw [hnx] at k0
      exact lv_i2l hx hb hd (ax_wide ((ax_ws_h hs).1 rfl)) k0
    · cases h
  | 10, h, hd, hsm, hnx, hlk =>
    have h : ax_x10 i ll st sh M = some (i', ll', st', sh', M') := h
    have hnx := hnx rfl
    unfold ax_x10 at h
    split at h
    · split at h
      · cases h
        simp only [Nat.sub_self, Nat.add_zero] at k
        have k0 := k H locs ls ad (fun _ _ => rfl) hP hD hS hlv
        rw [hnx] at k0
        exact lv_l2i hx hb hd Int64.toInt32_ofInt k0
      · cases h
    · cases h
  | 11, h, hd, hsm, hnx, hlk =>
    have h : ax_x11 i ll st sh M = some (i', ll', st', sh', M') := h
    have hnx := hnx rfl
    unfold ax_x11 at h
    split at h
    · cases h
      simp only [Nat.sub_self, Nat.add_zero] at k
      have k0 := k H locs ls ad (fun _ _ => rfl) hP hD hS hlv
      rw [hnx] at k0
      refine W.lcmp hx hb hd ?_
      rw [ax_cmpL ((ax_ws_h (ax_ws_t hs)).2.1 rfl) ((ax_ws_h hs).2.1 rfl)]
      exact k0
    · cases h
  | 12, h, hd, hsm, hnx, hlk =>
    have h : ax_x12 f g i ll st sh M = some (i', ll', st', sh', M') := h
    have hnx := hnx rfl
    have hsm : f ≤ 5 := of_decide_eq_true hsm
    unfold ax_x12 at h
    split at h
    · cases h
      simp only [Nat.sub_self, Nat.add_zero] at k
      have k0 := k H locs ls ad (fun _ _ => rfl) hP hD hS hlv
      refine ax_w12 hx hb hsm ((ax_ws_h hs).1 rfl) rfl hd (fun q => ?_) (fun q => ?_)
      · rw [if_pos q] at k0
        exact k0
      · rw [if_neg (by rw [q]; decide), hnx, ax_l12 _ _ _ _ _ hsm] at k0
        exact k0
    · cases h
  | 13, h, hd, hsm, hnx, hlk =>
    have h : ax_x13 f g i ll st sh M = some (i', ll', st', sh', M') := h
    have hnx := hnx rfl
    have hsm : f ≤ 5 := of_decide_eq_true hsm
    unfold ax_x13 at h
    split at h
    · cases h
      simp only [Nat.sub_self, Nat.add_zero] at k
      have k0 := k H locs ls ad (fun _ _ => rfl) hP hD hS hlv
      refine ax_w13 hx hb hsm ((ax_ws_h (ax_ws_t hs)).1 rfl) ((ax_ws_h hs).1 rfl) rfl hd (fun q => ?_) (fun q => ?_)
      · rw [if_pos q] at k0
        exact k0
      · rw [if_neg (by rw [q]; decide), hnx, ax_l13 _ _ _ _ _ hsm] at k0
        exact k0
    · cases h
  | 14, h, hd, hsm, hnx, hlk =>
    cases h
    simp only [Nat.sub_self, Nat.add_zero] at k
    have k0 := k H locs ls ad (fun _ _ => rfl) hP hD hS hlv
    exact lv_goto hx hb hd (by show ((ax_pc j i : Nat) : Int) + (((ax_pc j g : Nat) : Int) - ((ax_pc j i : Nat) : Int)) = ((ax_pc j g : Nat) : Int); omega) k0
  | 15, h, hd, hsm, hnx, hlk =>
    have h : ax_x15 f ll st sh M = some (i', ll', st', sh', M') := h
    unfold ax_x15 at h
    split at h
    · split at h
      · rename_i w hw
        cases h
        simp only [Nat.sub_self, Nat.add_zero] at k
        have k0 := k H locs ls ad (fun _ _ => rfl) hP hD hS hlv
        exact ax_w15 hx hb hw (ax_swok w (List.mem_of_getElem? hw)) ((ax_ws_h hs).1 rfl) rfl hd k0
      · cases h
    · cases h
  | 16, h, hd, hsm, hnx, hlk =>
    have h : ax_x16 i ll st sh M = some (i', ll', st', sh', M') := h
    have hnx := hnx rfl
    unfold ax_x16 at h
    split at h
    · split at h
      · rename_i q
        cases h
        simp only [Nat.sub_self, Nat.add_zero] at k
        have k0 := k H locs ls ad (fun _ _ => rfl) hP hD hS hlv
        rw [hnx] at k0
        exact lv_dup hx hb hd (ax_cat1 hcad ad q) k0
      · cases h
    · cases h
  | 17, h, hd, hsm, hnx, hlk =>
    have h : ax_x17 i ll st sh M = some (i', ll', st', sh', M') := h
    have hnx := hnx rfl
    unfold ax_x17 at h
    split at h
    · split at h
      · rename_i q
        cases h
        simp only [Nat.sub_self, Nat.add_zero] at k
        have k0 := k H locs ls ad (fun _ _ => rfl) hP hD hS hlv
        rw [hnx] at k0
        exact lv_dup2_11 hx hb hd (ax_cat1 hcad ad q.1) (ax_cat1 hcad ad q.2) k0
      · cases h
    · cases h
  | 18, h, hd, hsm, hnx, hlk =>
    have h : ax_x18 i ll st sh M = some (i', ll', st', sh', M') := h
    have hnx := hnx rfl
    unfold ax_x18 at h
    split at h
    · split at h
      · rename_i q
        cases h
        simp only [Nat.sub_self, Nat.add_zero] at k
        have k0 := k H locs ls ad (fun _ _ => rfl) hP hD hS hlv
        rw [hnx] at k0
        exact lv_pop hx hb hd (ax_cat1 hcad ad q) k0
      · cases h
    · cases h
  | 19, h, hd, hsm, hnx, hlk =>
    have h : ax_x19 f g i ll st sh M = some (i', ll', st', sh', M') := h
    have hnx := hnx rfl
    have hsm := of_decide_eq_true hsm
    unfold ax_x19 at h
    split at h
    · rename_i a st0 _ _
      split at h
      · rename_i v hv
        cases h
        simp only [Nat.sub_self, Nat.add_zero] at k
        have k0 := k H locs ls ad (fun _ _ => rfl) hP hD hS hlv
        rw [hnx] at k0
        unfold ax_get at hv
        split at hv
        · rename_i ha
          split at hv
          · rename_i c' n' hq
            split at hv
            · rename_i q
              cases hv
              obtain ⟨q1, q2⟩ := q
              subst q1
              rcases hm _ _ hq with ⟨-, w1, w2, -⟩ | ⟨w1, -⟩
              · have w1 : c' < 13 := w1
                have w2 : n' = ax_fl c' := w2
                subst w2
                obtain ⟨t, t1, t2⟩ := hlk _ (by show (if c' = 13 then some [(5, b.toNat, 13, (g : Int))] else some [(4, b.toNat, c', (g : Int))]) = some [(4, b.toNat, c', (g : Int))]; rw [if_neg (by omega)])
                rw [List.mem_singleton.mp t1] at t2
                show W p l e R s m args below meth c H locs cells slots Q (F0 m (ax_pc j i) ls (ax_cv cad ad (2, a) :: st0.map (ax_cv cad ad)))
                rw [ax_cR _ _ ha]
                exact ax_w19 hx hb hts hown hKK hP hq w1 (hcok _ w1) q2 ((hwd _ _ t2 (fun q => (by cases q)) (fun q => (by cases q)))) hd k0
              · cases w1
            · cases hv
          · cases hv
        · split at hv
          · rename_i q
            obtain ⟨q1, q2⟩ := q
            subst q1
            obtain ⟨t, t1, t2⟩ := hlk _ (show ax_lnk (19, 13, g, b) = some [(5, b.toNat, 13, (g : Int))] from rfl)
            rw [List.mem_singleton.mp t1] at t2
            split at hv
            · rename_i e
              cases hv
              subst e
              exact ax_w19s hx hb hKs hS hts hown q2 (Or.inl rfl) ((hwd _ _ t2 (fun q => (by cases q)) (fun q => (by cases q)))) hd k0
            · split at hv
              · rename_i e
                cases hv
                subst e
                exact ax_w19s hx hb hKs hS hts hown q2 (Or.inr rfl) ((hwd _ _ t2 (fun q => (by cases q)) (fun q => (by cases q)))) hd k0
              · cases hv
          · cases hv
      · cases h
    · cases h
  | 20, h, hd, hsm, hnx, hlk =>
    have h : ax_x20 f g i ll st sh M = some (i', ll', st', sh', M') := h
    have hnx := hnx rfl
    have hsm := of_decide_eq_true hsm
    unfold ax_x20 at h
    split at h
    · rename_i v a st0 _ _
      split at h
      · rename_i q
        cases h
        simp only [Nat.sub_self, Nat.add_zero] at k
        obtain ⟨q1, q2, q3, q4⟩ := q
        obtain ⟨t, t1, t2⟩ := hlk _ (show ax_lnk (20, f, g, b) = some [(4, b.toNat, f, (g : Int))] from rfl)
        rw [List.mem_singleton.mp t1] at t2
        show W p l e R s m args below meth c H locs cells slots Q (F0 m (ax_pc j i) ls (ax_cv cad ad v :: ax_cv cad ad (2, a) :: st'.map (ax_cv cad ad)))
        rw [ax_cR _ _ q1]
        refine ax_w20 hx hb hcad hts hown hKK hP hD hS q2 hsm.1 (hcok _ hsm.1) q3 q4 ((hwd _ _ t2 (fun q => (by cases q)) (fun q => (by cases q)))) ?_ hd (fun H1 locs1 h1 h2 h3 => ?_)
        · rcases hsm.2.2 with w | w
          · exact Or.inl w
          · exact Or.inr ⟨hin w.1, by rw [w.2]⟩
        · have k0 := k H1 locs1 ls ad (fun _ _ => rfl) h1 h2 h3 hlv
          rw [hnx] at k0
          exact k0
      · cases h
    · cases h
  | 21, h, hd, hsm, hnx, hlk =>
    have h : ax_x21 L X f i ll st sh M = some (i', ll', st', sh', M') := h
    have hnx := hnx rfl
    have hsm : f ≤ 4 := of_decide_eq_true hsm
    unfold ax_x21 at h
    split at h
    · rename_i x a st0 _ _
      split at h
      · rename_i v hv
        cases h
        simp only [Nat.sub_self, Nat.add_zero] at k
        have k0 := k H locs ls ad (fun _ _ => rfl) hP hD hS hlv
        rw [hnx, ax_l21 _ _ _ _ _ hsm] at k0
        have hxi := (ax_ws_h hs).1 rfl
        show W p l e R s m args below meth c H locs cells slots Q (F0 m (ax_pc j i) ls (.int (Int32.ofInt x) :: ax_cv cad ad (2, a) :: st0.map (ax_cv cad ad)))
        by_cases ha : 0 ≤ a
        · unfold ax_ald at hv
          rw [if_pos ha] at hv
          split at hv
          · rename_i t' n' hq
            split at hv
            · rename_i q
              cases hv
              obtain ⟨q1, q2, q3⟩ := q
              rw [ax_cR _ _ ha]
              refine ax_w21 hx hb hKK hP hq q1 hsm q2 q3 hxi (fun e4 => ?_) hd k0
              rcases hm _ _ hq with ⟨w1, -⟩ | ⟨-, -, -, -, w4⟩
              · cases w1
              · exact (w4 (by show 4 ≤ t'; omega) _).1
            · cases hv
          · cases hv
        · exact ax_w21c hx hb hKs hS ha hxi hv hd k0
      · cases h
    · cases h
  | 22, h, hd, hsm, hnx, hlk =>
    have h : ax_x22 f i ll st sh M = some (i', ll', st', sh', M') := h
    have hnx := hnx rfl
    have hsm : f ≤ 3 := of_decide_eq_true hsm
    unfold ax_x22 at h
    split at h
    · rename_i v x a st0 _ _
      split at h
      · rename_i u n' hq
        split at h
        · rename_i q
          cases h
          simp only [Nat.sub_self, Nat.add_zero] at k
          obtain ⟨q1, q2, q3, q4, q5⟩ := q
          subst q2
          have hxi := (ax_ws_h (ax_ws_t hs)).1 rfl
          show W p l e R s m args below meth c H locs cells slots Q (F0 m (ax_pc j i) ls (ax_cv cad ad v :: .int (Int32.ofInt x) :: ax_cv cad ad (2, a) :: st'.map (ax_cv cad ad)))
          rw [ax_cR _ _ q1]
          refine ax_w22 hx hb hKK hP hD hS hq q3 q4 q5 hxi hd (fun H1 locs1 h1 h2 h3 => ?_)
          have k0 := k H1 locs1 ls ad (fun _ _ => rfl) h1 h2 h3 hlv
          rw [hnx, ax_l22 _ _ _ _ _ hsm] at k0
          exact k0
        · cases h
      · cases h
    · cases h
  | 23, h, hd, hsm, hnx, hlk =>
    have h : ax_x23 L i ll st sh M = some (i', ll', st', sh', M') := h
    have hnx := hnx rfl
    unfold ax_x23 at h
    split at h
    · rename_i a st0 _ _
      split at h
      · rename_i n' hv
        cases h
        simp only [Nat.sub_self, Nat.add_zero] at k
        have k0 := k H locs ls ad (fun _ _ => rfl) hP hD hS hlv
        rw [hnx] at k0
        show W p l e R s m args below meth c H locs cells slots Q (F0 m (ax_pc j i) ls (ax_cv cad ad (2, a) :: st0.map (ax_cv cad ad)))
        by_cases ha : 0 ≤ a
        · unfold ax_aln at hv
          rw [if_pos ha] at hv
          split at hv
          · rename_i u z hq
            cases hv
            rw [ax_cR _ _ ha]
            have hat := ax_Wd_at (cad := cad) (Y := Y) (ad := ad) (M := M) hq
            rw [ax_E_arr] at hat
            have hu : u ≤ 5 := by
              rcases hm _ _ hq with ⟨w1, -⟩ | ⟨-, w, -⟩
              · cases w1
              · exact w
            have hty : ∃ ty, (ax_ty Y)[u]? = some (Y u, ty) := by
              match u, hu with
              | 0, _ => exact ⟨_, rfl⟩
              | 1, _ => exact ⟨_, rfl⟩
              | 2, _ => exact ⟨_, rfl⟩
              | 3, _ => exact ⟨_, rfl⟩
              | 4, _ => exact ⟨_, rfl⟩
              | 5, _ => exact ⟨_, rfl⟩
            obtain ⟨ty, hty⟩ := hty
            exact va_alen hx hb hKK hP a.toNat u hat hty (by rw [← Int32.ofInt_eq_ofNat]) hd k0
          · cases hv
        · exact ax_w23c hx hb hKs hS ha hv hd k0
      · cases h
    · cases h
  | 24, h, hd, hsm, hnx, hlk =>
    have h : ax_x24 f i ll st sh M = some (i', ll', st', sh', M') := h
    have hnx := hnx rfl
    have hsm : f ≤ 3 := of_decide_eq_true hsm
    unfold ax_x24 at h
    split at h
    · rename_i x st0 _ _
      split at h
      · rename_i q
        cases h
        have e1 : (sh ++ [((1, f, x.toNat) : ax_H)]).length - sh.length = 1 := by simp
        have e2 : ax_sl (sh ++ [((1, f, x.toNat) : ax_H)]) - ax_sl sh = x.toNat := by
          rw [ax_sl_app]
          show ax_sl sh + (x.toNat + 0) - ax_sl sh = x.toNat
          omega
        rw [e1, e2] at k
        rw [e1] at hrc
        rw [e2] at hrs
        have hxi := (ax_ws_h hs).1 rfl
        refine ax_w24 hx hb hts hjw hKK hP hD hS hA hm hsm hxi q.1 q.2 hrc hrs hd (fun ad' H1 ha h1 h2 h3 => ?_)
        have k0 := k H1 locs ls ad' ha h1 h2 h3 (ax_lv_ad hlv hl ha)
        rw [hnx, ax_l24 _ _ _ _ _ hsm] at k0
        have k0 : W p l e R s m args below meth c H1 locs (cells + 1) (slots + x.toNat) Q (F0 m (ax_pc j i + 2) ls (ax_cv cad ad' (2, (sh.length : Int)) :: st0.map (ax_cv cad ad'))) := k0
        rw [ax_cR _ _ (by omega), ax_map_ad ha (ax_ws_t hs)] at k0
        exact k0
      · cases h
    · cases h
  | 25, h, hd, hsm, hnx, hlk =>
    have hnx := hnx rfl
    have hsm : f < 13 := of_decide_eq_true hsm
    cases h
    have e1 : (sh ++ [((0, f, ax_fl f) : ax_H)]).length - sh.length = 1 := by simp
    have e2 : ax_sl (sh ++ [((0, f, ax_fl f) : ax_H)]) - ax_sl sh = ax_fl f := by
      rw [ax_sl_app]
      show ax_sl sh + (ax_fl f + 0) - ax_sl sh = ax_fl f
      omega
    have k : ∀ (H' : Heap) (locs' : List Loc) (ls' : Array Slot) (ad' : Nat → Nat), (∀ a, a < sh.length → ad' a = ad a) → va_P D vwCl (ax_Wd cad Y ad' (sh ++ [((0, f, ax_fl f) : ax_H)]) (ax_nw M sh.length (ax_df f))) H' → va_D (fun q => base ≤ q) (ax_Wd cad Y ad' (sh ++ [((0, f, ax_fl f) : ax_H)]) (ax_nw M sh.length (ax_df f))) → va_S (fun q => base ≤ q) s.heap H' locs' → ax_lv cad ad' ls' (ax_ml j) ll → W p l e R s m args below meth c H' locs' (cells + ((sh ++ [((0, f, ax_fl f) : ax_H)]).length - sh.length)) (slots + (ax_sl (sh ++ [((0, f, ax_fl f) : ax_H)]) - ax_sl sh)) Q (F0 m (ax_pc j (i + 1)) ls' (ax_cv cad ad' (2, (sh.length : Int)) :: st.map (ax_cv cad ad'))) := k
    have hrc : cells + ((sh ++ [((0, f, ax_fl f) : ax_H)]).length - sh.length) ≤ R.cells := hrc
    have hrs : slots + (ax_sl (sh ++ [((0, f, ax_fl f) : ax_H)]) - ax_sl sh) ≤ R.slots := hrs
    rw [e1, e2] at k
    rw [e1] at hrc
    rw [e2] at hrs
    obtain ⟨t, t1, t2⟩ := hlk _ (show ax_lnk (25, f, g, b) = some [(6, b.toNat, f, 0)] from rfl)
    rw [List.mem_singleton.mp t1] at t2
    refine ax_w25 hx hb hts hown hKK hP hD hS hA hm hsm (hcok _ hsm) ((hwd _ _ t2 (fun q => (by cases q)) (fun q => (by cases q)))) hrc hrs hd (fun ad' H1 ha h1 h2 h3 => ?_)
    have k0 := k H1 locs ls ad' ha h1 h2 h3 (ax_lv_ad hlv hl ha)
    rw [hnx] at k0
    rw [ax_cR _ _ (by omega), ax_map_ad ha hs] at k0
    exact k0
  | 26, h, hd, hsm, hnx, hlk =>
    have h : ax_x26 f i ll st sh M = some (i', ll', st', sh', M') := h
    have hnx := hnx rfl
    have hsm : f ≤ 1 := of_decide_eq_true hsm
    unfold ax_x26 at h
    split at h
    · rename_i y x st0 _ _
      split at h
      · rename_i q
        cases h
        have e1 : (sh ++ ((1, 4 + f, x.toNat) : ax_H) :: List.replicate x.toNat ((1, f, y.toNat) : ax_H)).length - sh.length = 1 + x.toNat := by
          simp only [List.length_append, List.length_cons, List.length_replicate]
          omega
        have e3 : ∀ n : Nat, ax_sl (List.replicate n ((1, f, y.toNat) : ax_H)) = n * y.toNat := by
          intro n
          unfold ax_sl
          rw [List.map_replicate, List.sum_replicate_nat]
        have e2 : ax_sl (sh ++ ((1, 4 + f, x.toNat) : ax_H) :: List.replicate x.toNat ((1, f, y.toNat) : ax_H)) - ax_sl sh = x.toNat + x.toNat * y.toNat := by
          rw [ax_sl_app]
          show ax_sl sh + (x.toNat + ax_sl (List.replicate x.toNat ((1, f, y.toNat) : ax_H))) - ax_sl sh = _
          rw [e3]
          omega
        rw [e1, e2] at k
        rw [e1] at hrc
        rw [e2] at hrs
        have hyi := (ax_ws_h hs).1 rfl
        have hxi := (ax_ws_h (ax_ws_t hs)).1 rfl
        obtain ⟨t, t1, t2⟩ := hlk _ (show ax_lnk (26, f, g, b) = some [(7, b.toNat, f, 0)] from rfl)
        rw [List.mem_singleton.mp t1] at t2
        have hw : Cond.classLink (ax_cn (ax_own j)) b.toNat (if f = 0 then "[[I" else "[[J") ∈ ax_tb := by
          have hw := (hwd _ _ t2 (fun q => (by cases q)) (fun q => (by cases q)))
          match f, hsm, hw with
          | 0, _, hw => exact hw
          | 1, _, hw => exact hw
        refine ax_w26 hx hb hts hjw hKs.2.2.2.2.2.2.2.2.2.1 hKs.2.2.2.2.2.2.2.2.2.2 hown hKK hP hD hS hA hm hsm hxi hyi q.1 q.2.1 q.2.2.1 q.2.2.2 hw hrc hrs hd (fun ad' H1 ha h1 h2 h3 => ?_)
        have k0 := k H1 locs ls ad' ha h1 h2 h3 (ax_lv_ad hlv hl ha)
        rw [hnx] at k0
        have k0 : W p l e R s m args below meth c H1 locs (cells + (1 + x.toNat)) (slots + (x.toNat + x.toNat * y.toNat)) Q (F0 m (ax_pc j i + 4) ls (ax_cv cad ad' (2, (sh.length : Int)) :: st0.map (ax_cv cad ad'))) := k0
        rw [ax_cR _ _ (by omega), ax_map_ad ha (ax_ws_t (ax_ws_t hs)), ← Nat.add_assoc, ← Nat.add_assoc] at k0
        exact k0
      · cases h
    · cases h
  | 27, h, _, _, _, _ => cases h
  | 28, h, _, _, _, _ => cases h
  | 29, h, hd, hsm, hnx, hlk =>
    have h : ax_x29 i ll st sh M = some (i', ll', st', sh', M') := h
    have hnx := hnx rfl
    unfold ax_x29 at h
    split at h
    · rename_i n' dp b' sp a st0 _ _
      split at h
      · rename_i la lb hla hlb
        split at h
        · rename_i q
          cases h
          simp only [Nat.sub_self, Nat.add_zero] at k
          obtain ⟨q1, q2, q3, q4, q5, q6, q7, q8⟩ := q
          obtain ⟨t, t1, t2⟩ := hlk _ (show ax_lnk (29, f, g, b) = some [(10, b.toNat, 0, 0)] from rfl)
          rw [List.mem_singleton.mp t1] at t2
          show W p l e R s m args below meth c H locs cells slots Q (F0 m (ax_pc j i) ls (.int (Int32.ofInt n') :: .int (Int32.ofInt dp) :: ax_cv cad ad (2, b') :: .int (Int32.ofInt sp) :: ax_cv cad ad (2, a) :: st'.map (ax_cv cad ad)))
          rw [ax_cR _ _ q1, ax_cR _ _ q2]
          refine ax_w29 hx hb (by rw [hml]; exact hlv.1.symm) hts hjw hown hKK hP hD hS hla hlb ((ax_ws_h (ax_ws_t (ax_ws_t (ax_ws_t hs)))).1 rfl) ((ax_ws_h (ax_ws_t hs)).1 rfl) ((ax_ws_h hs).1 rfl) q3 q4 q5 q6 q7 (by rw [ax_catm hcad]; exact q8) hfr hlo ((hwd _ _ t2 (fun q => (by cases q)) (fun q => (by cases q)))) hd (fun H1 locs1 h1 h2 h3 => ?_)
          have k0 := k H1 locs1 ls ad (fun _ _ => rfl) h1 h2 h3 hlv
          rw [hnx] at k0
          exact k0
        · cases h
      · cases h
    · cases h
  | 30, h, hd, hsm, hnx, hlk =>
    have h : ax_x30 i ll st sh M = some (i', ll', st', sh', M') := h
    have hnx := hnx rfl
    unfold ax_x30 at h
    split at h
    · rename_i a st0 _ _
      split at h
      · rename_i q
        cases h
        simp only [Nat.sub_self, Nat.add_zero] at k
        have k0 := k H locs ls ad (fun _ _ => rfl) hP hD hS hlv
        rw [hnx] at k0
        obtain ⟨t, t1, t2⟩ := hlk _ (show ax_lnk (30, f, g, b) = some [(11, b.toNat, 0, 0)] from rfl)
        rw [List.mem_singleton.mp t1] at t2
        show W p l e R s m args below meth c H locs cells slots Q (F0 m (ax_pc j i) ls (ax_cv cad ad (2, a) :: st'.map (ax_cv cad ad)))
        rw [ax_cR _ _ q.1]
        exact W.objInit hx hb hown (hts _ ((hwd _ _ t2 (fun q => (by cases q)) (fun q => (by cases q))))) (hts _ (hjw _ (by decide))) (hts _ (hjw _ (by decide))) (g := F0 m (ax_pc j i) ls (.ref (ad a.toNat) :: st'.map (ax_cv cad ad))) rfl (by show ls.size = c.maxLocals; rw [hml]; exact hlv.1) rfl hd hfr (by
          have h1 : 2 * (F0 m (ax_pc j i) ls (.ref (ad a.toNat) :: st'.map (ax_cv cad ad))).monitorRoom + ((st'.map (ax_cv cad ad)).map fun v => v.category).sum ≤ 8 := lv_room (by rw [ax_catm hcad]; exact q.2)
          omega) k0
      · cases h
    · cases h
  | 31, h, hd, hsm, hnx, hlk =>
    have h : ax_x31 i ll st sh M = some (i', ll', st', sh', M') := h
    have hnx := hnx rfl
    unfold ax_x31 at h
    split at h
    · rename_i x st0 _ _
      cases h
      simp only [Nat.sub_self, Nat.add_zero] at k
      have k0 := k H locs ls ad (fun _ _ => rfl) hP hD hS hlv
      rw [hnx] at k0
      refine lv_i2c hx hb hd ?_ k0
      exact ax_i2c ((ax_ws_h hs).1 rfl)
    · cases h
  | n + 32, h, _, _, _, _ => cases h
end AXS
