/-! rows that make cells, and of the JDK's arraycopy -/
def va_AOA (ty : FieldType) (U : State) : Prop := (Cond.arrayOver (.array ty)).before #[] U = true
theorem va_AOA.moved {ty : FieldType} {u U : State} (hvm : u.vm.Alike U.vm) (h : va_AOA ty u) : va_AOA ty U := by
  unfold va_AOA Cond.before Cond.holds at h ⊢
  simp only [Cond.value, beq_iff_eq] at h ⊢
  obtain ⟨comp, hcomp, h⟩ := Option.bind_eq_some_iff.mp h
  obtain ⟨k, hk, h⟩ := Option.bind_eq_some_iff.mp h
  obtain ⟨kc, hkc, h⟩ := Option.map_eq_some_iff.mp h
  obtain ⟨kc', hkc', he⟩ := hvm.2.2 _ _ hkc
  have hidx : (U.vm.classes.findIdx? fun (x : Class) => match x.kind with | .array component _ => component == comp | _ => false) = some k := by
    have h1 := va_idx_bare U.vm comp
    have h0 := va_idx_bare u.vm comp
    have hb : U.vm.bare = u.vm.bare := by first | exact hvm.bare_eq | exact hvm.bare_eq.symm
    rw [hb] at h1
    exact h1.symm.trans (h0.trans hk)
  refine Option.bind_eq_some_iff.mpr ⟨comp, by rw [hvm.findClass]; exact hcomp, Option.bind_eq_some_iff.mpr ⟨k, hidx, Option.map_eq_some_iff.mpr ⟨kc', hkc', ?_⟩⟩⟩
  have hkind : kc'.kind = kc.kind := by rw [he]
  rw [hkind, hvm.findClass]
  exact h
theorem va_AOA.use {ty : FieldType} {A : Array Value} {U : State} (h : va_AOA ty U) : (Cond.arrayOver (.array ty)).before A U = true := h
/-! ===== BEGIN new T[n][m]: the outer array a place, the inner ones among the pooled ===== -/
/-- f, but v at every address of l -/
def vr_up {α : Type} (f : Nat → α) (l : List Nat) (v : α) : Nat → α := fun a => if a ∈ l then v else f a
theorem vr_up_in {α : Type} {f : Nat → α} {l : List Nat} {v : α} {a : Nat} (h : a ∈ l) : vr_up f l v a = v := if_pos h
theorem vr_up_ne {α : Type} {f : Nat → α} {l : List Nat} {v : α} {a : Nat} (h : a ∉ l) : vr_up f l v a = f a := if_neg h
theorem vr_rows {L l : List Nat} {f : Nat → va_E} {e : va_E} (h : ∀ a, a ∈ l → a ∉ L) : va_pl L f ++ l.map (fun a => (a, e)) = va_pl (L ++ l) (vr_up f l e) := by
  unfold va_pl
  rw [List.map_append]
  congr 1
  · apply List.map_congr_left
    intro a ha
    rw [vr_up_ne (fun q => h a q ha)]
  · apply List.map_congr_left
    intro a ha
    rw [vr_up_in ha]
theorem vr_lay {X rows : va_W} {x : Nat × va_E} {pl : va_W} {D : va_G} {cl : List vw_C} {H : Heap} (hP : va_P D cl (((X ++ pl) ++ [x]) ++ rows) H) : va_P D cl ((X ++ [x]) ++ (pl ++ rows)) H := by
  rw [List.append_assoc (X ++ pl)] at hP
  have h := va_P.swap hP
  rw [← List.append_assoc X] at h
  have h2 := va_P.swap h
  rw [List.append_assoc (X ++ [x])] at h2
  exact h2
theorem vr_layD {X rows : va_W} {x : Nat × va_E} {pl : va_W} {A : Nat → Prop} (hD : va_D A (((X ++ pl) ++ [x]) ++ rows)) : va_D A ((X ++ [x]) ++ (pl ++ rows)) := by
  rw [List.append_assoc (X ++ pl)] at hD
  have h := va_D.swap hD
  rw [← List.append_assoc X] at h
  have h2 := va_D.swap h
  rw [List.append_assoc (X ++ [x])] at h2
  exact h2
theorem vr_outer (c : ClassId) (N h0 : Nat) : ∀ i : Nat, Jvm.Free.Multi.outerC c N h0 i = arrV c N (fun j => va_rf (if j < i then some (h0 + 1 + j) else none))
  | 0 => by
    show ({ cls := c, slots := Array.replicate N .null, vm := .none } : Cell) = _
    rw [arrV_new]
    refine congrArg (arrV c N) (funext fun j => ?_)
    simp [va_rf]
  | i + 1 => by
    show (Jvm.Free.Multi.outerC c N h0 i).setSlot i (.ref (h0 + 1 + i)) = _
    rw [vr_outer c N h0 i, arrV_store]
    refine congrArg (arrV c N) (funext fun j => ?_)
    by_cases e : j = i
    · subst e
      simp [updV, va_rf]
    · by_cases h : j < i
      · simp [updV, e, h, Nat.lt_succ_of_lt h]
      · simp [updV, e, h, show ¬ j < i + 1 by omega]
section VGM
variable {p : Program} {l : Launch} {e : Env} {R : Room} {s : State} {m : MethodId} {args : Array Value} {below : List Frame} {meth : Method} {c : Code} {H : Heap} {locs : List Loc} {cells slots : Nat} {Q : State → Prop}
variable {cc : ByteArray} {pc : Nat} {ls : Array Slot} {rest : List Value} {D : va_G} {cl : List vw_C} {A : Nat → Prop} {a : Nat} {tys : List (ClassId × FieldType)} {ws : va_W} {H0 : Heap}
theorem va_mna {X : va_W} {L : List Nat} {f : Nat → va_E} {cc : ByteArray} (hexec : p.tables.exec = Jvm.exec) (hb : c.code = cc) {own : String} {index : Nat} {ty : FieldType} {cy : ClassId} (hown : s.vm.findClass own = some m.cls) (hclink : (Cond.classLink own index ("[" ++ (FieldType.array ty).toString)).before args s = true) (hover : va_AOA ty s) (harr : (Cond.arrayClass ty).before args s = true) (hcy : s.vm.findClass (FieldType.array ty).toString = some cy)
    (hK : va_K D cl tys s) (hP : va_P D cl (X ++ va_pl L f) H) (hD : va_D A (X ++ va_pl L f)) (hS : va_S A H0 H locs) (hA : ∀ q, H0.size ≤ q → A q) {n k : Int32} {N' K' : Nat} {z : vp_A} (hn : ¬ n < 0) (hk : ¬ k < 0) (hN : n.toNatClampNeg = N') (hM : k.toNatClampNeg = K')
    (hb1 : N' * 4 ≤ 536870912) (hb2 : K' * componentBytes ty ≤ 536870912) (hb3 : K' ≤ 536870912) (hdf : fits ty (defaultValue ty) = true) (hdd : (defaultValue ty).isDefault = true) (hcells : cells + (1 + N') ≤ R.cells) (hslots : slots + (N' + N' * K') ≤ R.slots) (hz : ∀ c : ClassId, Jvm.Free.Multi.innerC c K' (defaultValue ty) = vp_cell c z) (hdg : decode cc pc = .ok (.multianewarray index 2, 4))
    (kk : ∀ (q : Nat) (r : Nat → Nat) (cA : ClassId) (H1 : Heap), (∀ i j : Nat, i < N' → j < N' → r i = r j → i = j) → (∀ i : Nat, i < N' → r i ∉ L) → va_K D cl (tys ++ [(cA, .array ty)]) s →
      va_P D cl ((X ++ [(q, .inl (cA, N', .inr (.inr (.inr (.inr (fun i => if i < N' then some (r i) else none))))))]) ++ va_pl (L ++ (List.range N').map r) (vr_up f ((List.range N').map r) (.inl (cy, z)))) H1 → va_D A ((X ++ [(q, .inl (cA, N', .inr (.inr (.inr (.inr (fun i => if i < N' then some (r i) else none))))))]) ++ va_pl (L ++ (List.range N').map r) (vr_up f ((List.range N').map r) (.inl (cy, z)))) → va_S A H0 H1 locs →
      W p l e R s m args below meth c H1 locs (cells + 1 + N') (slots + N' + N' * K') Q (F0 m (pc + 4) ls (.ref q :: rest))) : W p l e R s m args below meth c H locs cells slots Q (F0 m pc ls (.int k :: .int n :: rest)) := by
  subst hN
  subst hM
  intro T hT Xs
  obtain ⟨vm₁, cA, comp, -, fA, fC, hO, -, X', step⟩ := Xs.multianewarray2F hexec hown hclink (va_AOA.use hover) harr (g := F0 m pc ls (.int k :: .int n :: rest)) rfl (by rw [hb]; exact hdg) rfl hn hk hb1 hb2 hb3 hdf hdd hcells hslots
  have ec : some cy = some comp := hcy.symm.trans fC
  cases ec
  generalize hF : Jvm.Free.Multi.fill (T.setVm vm₁) cA cy n.toNatClampNeg k.toNatClampNeg (defaultValue ty) n.toNatClampNeg = F at X' step
  have hTh : (T.setVm vm₁).heap = H := hT
  obtain ⟨f1, f2, -, -⟩ := Jvm.Free.Multi.fill_facts (T.setVm vm₁) cA cy n.toNatClampNeg k.toNatClampNeg (defaultValue ty) n.toNatClampNeg
  rw [hF, hTh] at f1 f2
  have hold : ∀ x : Nat, x < H.size → F.heap[x]? = H[x]? := fun x hx => by
    have := Jvm.Free.Multi.fill_old (T.setVm vm₁) cA cy n.toNatClampNeg k.toNatClampNeg (defaultValue ty) (a := x) (by rw [hTh]; exact hx) n.toNatClampNeg
    rw [hF, hTh] at this
    exact this
  have hrow : ∀ j : Nat, j < n.toNatClampNeg → F.heap[H.size + 1 + j]? = some (vp_cell cy z) := fun j hj => by
    have := Jvm.Free.Multi.fill_inner (T.setVm vm₁) cA cy n.toNatClampNeg k.toNatClampNeg (defaultValue ty) n.toNatClampNeg j hj
    rw [hF, hTh, hz] at this
    exact this
  have hout : Jvm.Free.Multi.outerC cA n.toNatClampNeg H.size n.toNatClampNeg = vp_cell cA (n.toNatClampNeg, .inr (.inr (.inr (.inr (fun i => if i < n.toNatClampNeg then some (H.size + 1 + i) else none))))) := by
    rw [vp_cell_q]
    exact vr_outer cA n.toNatClampNeg H.size n.toNatClampNeg
  rw [hout] at f2
  have hlt : ∀ a, a ∈ L → a < H.size := fun a ha => by
    obtain ⟨k9, hk9⟩ := va_pl_get (X := X) (f := f) ha
    exact (hP k9 _ hk9).lt
  have hnl : ∀ i : Nat, i < n.toNatClampNeg → H.size + 1 + i ∉ L := fun i _ h => by
    have := hlt _ h
    omega
  have hnm : ∀ a, a ∈ (List.range n.toNatClampNeg).map (fun i => H.size + 1 + i) → a ∉ L := fun a ha h => by
    obtain ⟨i, -, rfl⟩ := List.mem_map.mp ha
    have := hlt _ h
    omega
  have hP0 : va_P D cl (X ++ va_pl L f) F.heap := hP.kept (fun k9 x hx => hold x.1 ((hP k9 x hx).lt))
  have hP1 : va_P D cl ((X ++ va_pl L f) ++ [(H.size, .inl (cA, n.toNatClampNeg, .inr (.inr (.inr (.inr (fun i => if i < n.toNatClampNeg then some (H.size + 1 + i) else none))))))]) F.heap := hP0.app (fun k9 x hx => by
    have h0 : k9 < 1 := (List.getElem?_eq_some_iff.mp hx).1
    rw [show k9 = 0 by omega] at hx
    cases hx
    exact f2)
  have hP2 : va_P D cl (((X ++ va_pl L f) ++ [(H.size, .inl (cA, n.toNatClampNeg, .inr (.inr (.inr (.inr (fun i => if i < n.toNatClampNeg then some (H.size + 1 + i) else none))))))]) ++ ((List.range n.toNatClampNeg).map (fun i => H.size + 1 + i)).map (fun a => (a, .inl (cy, z)))) F.heap := hP1.app (fun k9 x hx => by
    obtain ⟨a, ha, rfl⟩ := List.mem_map.mp (List.mem_of_getElem? hx)
    obtain ⟨i, hi, rfl⟩ := List.mem_map.mp ha
    exact hrow i (List.mem_range.mp hi))
  have hD2 : va_D A (((X ++ va_pl L f) ++ [(H.size, .inl (cA, n.toNatClampNeg, .inr (.inr (.inr (.inr (fun i => if i < n.toNatClampNeg then some (H.size + 1 + i) else none))))))]) ++ ((List.range n.toNatClampNeg).map (fun i => H.size + 1 + i)).map (fun a => (a, .inl (cy, z)))) := by
    have hD1 := hD.push (e := .inl (cA, n.toNatClampNeg, .inr (.inr (.inr (.inr (fun i => if i < n.toNatClampNeg then some (H.size + 1 + i) else none)))))) hP rfl (hA _ hS.1)
    generalize hW1 : (X ++ va_pl L f) ++ [(H.size, .inl (cA, n.toNatClampNeg, .inr (.inr (.inr (.inr (fun i => if i < n.toNatClampNeg then some (H.size + 1 + i) else none))))))] = W1 at hD1 hP1 ⊢
    have hle : ∀ (k9 : Nat) (x : Nat × va_E), W1[k9]? = some x → x.1 ≤ H.size := fun k9 x hx => by
      rw [← hW1] at hx
      by_cases hl : k9 < (X ++ va_pl L f).length
      · rw [List.getElem?_append_left hl] at hx
        exact Nat.le_of_lt ((hP k9 x hx).lt)
      · rw [List.getElem?_append_right (by omega)] at hx
        have h0 : k9 - (X ++ va_pl L f).length < 1 := (List.getElem?_eq_some_iff.mp hx).1
        rw [show k9 - (X ++ va_pl L f).length = 0 by omega] at hx
        cases hx
        exact Nat.le_refl _
    have hr : ∀ (k9 : Nat) (x : Nat × va_E), (((List.range n.toNatClampNeg).map (fun i => H.size + 1 + i)).map (fun a => ((a, .inl (cy, z)) : Nat × va_E)))[k9]? = some x → x.1 = H.size + 1 + k9 := fun k9 x hx => by
      rw [List.getElem?_map, List.getElem?_map] at hx
      by_cases h9 : k9 < n.toNatClampNeg
      · rw [List.getElem?_range h9] at hx
        cases hx
        rfl
      · have hn0 : (List.range n.toNatClampNeg)[k9]? = none := List.getElem?_eq_none (by rw [List.length_range]; omega)
        rw [hn0] at hx
        cases hx
    refine ⟨fun i j x y hi hj hxy => ?_, fun k9 x hx => ?_⟩
    · by_cases h1 : i < W1.length <;> by_cases h2 : j < W1.length
      · rw [List.getElem?_append_left h1] at hi
        rw [List.getElem?_append_left h2] at hj
        exact hD1.1 i j x y hi hj hxy
      · rw [List.getElem?_append_left h1] at hi
        rw [List.getElem?_append_right (by omega)] at hj
        have := hle _ _ hi
        have := hr _ _ hj
        omega
      · rw [List.getElem?_append_right (by omega)] at hi
        rw [List.getElem?_append_left h2] at hj
        have := hle _ _ hj
        have := hr _ _ hi
        omega
      · rw [List.getElem?_append_right (by omega)] at hi hj
        have := hr _ _ hi
        have := hr _ _ hj
        omega
    · by_cases h1 : k9 < W1.length
      · rw [List.getElem?_append_left h1] at hx
        exact hD1.2 k9 x hx
      · rw [List.getElem?_append_right (by omega)] at hx
        have := hr _ _ hx
        exact hA _ (by have := hS.1; omega)
  have hAr : ArrOfT s cA (.array ty) := fun N9 z9 => by
    obtain ⟨-, k9, hk9, cm9, hkk9⟩ := (hO 0 0 0).1
    exact ⟨(fun q hq => by cases hq), k9, hk9, cm9, hkk9⟩
  have hK2 : va_K D cl (tys ++ [(cA, .array ty)]) s := ⟨hK.1, fun k9 x hx => by
    by_cases hl : k9 < tys.length
    · rw [List.getElem?_append_left hl] at hx
      exact hK.2 k9 x hx
    · rw [List.getElem?_append_right (by omega)] at hx
      have h0 : k9 - tys.length < 1 := (List.getElem?_eq_some_iff.mp hx).1
      rw [show k9 - tys.length = 0 by omega] at hx
      cases hx
      exact ⟨hAr, fA⟩⟩
  obtain ⟨t, a1, b1⟩ := kk H.size (fun i => H.size + 1 + i) cA F.heap (fun i j _ _ h => by have h9 : H.size + 1 + i = H.size + 1 + j := h; omega) hnl hK2 (by rw [← vr_rows hnm]; exact vr_lay hP2) (by rw [← vr_rows hnm]; exact vr_layD hD2) ⟨by rw [f1]; have := hS.1; omega, fun x h1 h2 => (hold x (Nat.lt_of_lt_of_le h1 hS.1)).trans (hS.2.1 x h1 h2), hS.2.2⟩ F rfl X'
  refine ⟨t, step t ?_, b1⟩
  have e : T.heap.size = H.size := by rw [hT]
  rw [e]
  exact a1
end VGM
/-! ===== END ===== -/
theorem ax_Wd_app {cad : Int → Value} {Y : Nat → ClassId} {ad ad' : Nat → Nat} {sh t : List ax_H} {M M' : ax_M} (hA : ∀ a, a < sh.length → ad' a = ad a) (hM : ∀ a, a < sh.length → M' a = M a) (w : ax_wm sh M) : ax_Wd cad Y ad' (sh ++ t) M' = ax_Wd cad Y ad sh M ++ (List.range t.length).map (fun b => (ad' (sh.length + b), ax_E cad Y ad' (t.getD b (0, 0, 0)) (M' (sh.length + b)))) := by
  refine List.ext_getElem? (fun k => ?_)
  by_cases hk : k < sh.length
  · have e : sh[k]? = some sh[k] := List.getElem?_eq_getElem hk
    rw [List.getElem?_append_left (by rw [ax_Wd_len]; exact hk), ax_Wd_at e, ax_Wd_at (h := sh[k]) (by rw [List.getElem?_append_left hk]; exact e), hA k hk, hM k hk, ax_E_ad hA (w k _ e)]
  · rw [List.getElem?_append_right (by rw [ax_Wd_len]; omega), ax_Wd_len]
    by_cases hk2 : k - sh.length < t.length
    · have e : t[k - sh.length]? = some t[k - sh.length] := List.getElem?_eq_getElem hk2
      rw [ax_Wd_at (h := t[k - sh.length]) (by rw [List.getElem?_append_right (by omega)]; exact e), List.getElem?_map, List.getElem?_range hk2]
      show _ = some (ad' (sh.length + (k - sh.length)), ax_E cad Y ad' (t.getD (k - sh.length) (0, 0, 0)) (M' (sh.length + (k - sh.length))))
      rw [List.getD_eq_getElem?_getD, e, show sh.length + (k - sh.length) = k by omega]
      rfl
    · rw [List.getElem?_eq_none (by rw [ax_Wd_len, List.length_append]; omega), List.getElem?_eq_none (by rw [List.length_map, List.length_range]; omega)]
theorem ax_sl_app (sh t : List ax_H) : ax_sl (sh ++ t) = ax_sl sh + ax_sl t := by
  unfold ax_sl
  rw [List.map_append, List.sum_append]
section AXR4
variable {p : Program} {l : Launch} {e : Env} {R : Room} {s : State} {m : MethodId} {args : Array Value} {below : List Frame} {meth : Method} {c : Code} {H : Heap} {locs : List Loc} {cells slots : Nat} {Q : State → Prop}
variable {cc : ByteArray} {pc : Nat} {ls : Array Slot} {rest : List Value} {pcs : List Nat} {i f g : Nat} {b : Int}
variable {cad : Int → Value} {Y : Nat → ClassId} {ad : Nat → Nat} {sh : List ax_H} {M : ax_M} {D : va_G} {A : Nat → Prop} {H0 : Heap} {tys : List (ClassId × FieldType)}
theorem ax_w25 (hx : p.tables.exec = Jvm.exec) (hb : c.code = cc) {own : String} (hts : ∀ w ∈ ax_tb, w.before args s = true) (hown : s.vm.findClass own = some m.cls) (hK : va_K D vwCl (ax_ty Y) s) (hP : va_P D vwCl (ax_Wd cad Y ad sh M) H) (hD : va_D A (ax_Wd cad Y ad sh M)) (hS : va_S A H0 H locs) (hA : ∀ q, H0.size ≤ q → A q) (w : ax_wm sh M) (hf : f < 13) (hco : ax_cok f) (hw : Cond.classLink own b.toNat (ax_cl f).1 ∈ ax_tb) (hcells : cells + 1 ≤ R.cells) (hslots : slots + ax_fl f ≤ R.slots) (hd : decode cc pc = .ok (ax_ins pcs i (25, f, g, b)))
    (k : ∀ (ad' : Nat → Nat) (H1 : Heap), (∀ a, a < sh.length → ad' a = ad a) → va_P D vwCl (ax_Wd cad Y ad' (sh ++ [(0, f, ax_fl f)]) (ax_nw M sh.length (ax_df f))) H1 → va_D A (ax_Wd cad Y ad' (sh ++ [(0, f, ax_fl f)]) (ax_nw M sh.length (ax_df f))) → va_S A H0 H1 locs → W p l e R s m args below meth c H1 locs (cells + 1) (slots + ax_fl f) Q (F0 m (pc + 3) ls (.ref (ad' sh.length) :: rest))) : W p l e R s m args below meth c H locs cells slots Q (F0 m pc ls rest) := by
  obtain ⟨c1, c2, c3, c4, c5, c6, c7⟩ := hco
  rw [← c1] at k hslots
  refine va_new (fs := ax_F cad ad f (ax_cl f).2.2 (ax_df f)) hx hb hts c3 (ax_fT f) (fun k hk => (c6 k hk).1) hown (hts _ hw) (hts _ c4) (hts _ c5) hK hP hD hS hA (ax_vwcl hf) (fun j hj => ?_) hcells hslots hd (fun q H1 h1 h2 h3 => ?_)
  · unfold vp_V
    rw [List.getD_eq_getElem?_getD, ax_F_at hj]
    show _ = ax_cv cad ad (ax_ft (ax_fty f j), ax_df f j)
    have ht := (c6 j hj).2.1
    unfold ax_df
    rw [← ht]
    have h3 : ax_tk (ax_fT f j) ≤ 3 := by rw [ht]; exact ax_fty3 f j
    generalize ax_fT f j = ty at h3 ⊢
    match ty, h3 with
    | .int, _ => rfl
    | .long, _ => rfl
    | .boolean, _ => rfl
    | .object _, _ => rfl
    | .array _, _ => rfl
    | .byte, hf => exact absurd hf (by decide)
    | .char, hf => exact absurd hf (by decide)
    | .short, hf => exact absurd hf (by decide)
    | .float, hf => exact absurd hf (by decide)
    | .double, hf => exact absurd hf (by decide)
  · have hA' : ∀ a, a < sh.length → (fun a => if a = sh.length then q else ad a) a = ad a := fun a ha => if_neg (by omega)
    have hW : ax_Wd cad Y (fun a => if a = sh.length then q else ad a) (sh ++ [(0, f, (ax_cl f).2.2)]) (ax_nw M sh.length (ax_df f)) = ax_Wd cad Y ad sh M ++ [(q, .inr (f, ax_F cad ad f (ax_cl f).2.2 (ax_df f)))] := by
      rw [ax_Wd_app hA' (fun a ha => ax_nw_old M sh.length _ ha) w]
      congr 1
      show [((if sh.length + 0 = sh.length then q else ad (sh.length + 0)), ax_E cad Y (fun a => if a = sh.length then q else ad a) (0, f, (ax_cl f).2.2) (ax_nw M sh.length (ax_df f) (sh.length + 0)))] = _
      rw [if_pos (by omega), ax_nw_at, ax_E_obj]
      congr 4
      unfold ax_F
      refine List.map_congr_left (fun j _ => ?_)
      unfold ax_df
      have h3 := ax_fty3 f j
      generalize ax_fty f j = t at h3 ⊢
      match t, h3 with
      | 0, _ => rfl
      | 1, _ => rfl
      | 2, _ => rfl
      | 3, _ => rfl
    have := k (fun a => if a = sh.length then q else ad a) H1 hA' (by rw [hW]; exact h1) (by rw [hW]; exact h2) h3
    rw [if_pos rfl] at this
    exact this
theorem ax_w24 (hx : p.tables.exec = Jvm.exec) (hb : c.code = cc) (hts : ∀ w ∈ ax_tb, w.before args s = true) (hjw : ∀ w ∈ ax_jw, w ∈ ax_tb) (hK : va_K D vwCl (ax_ty Y) s) (hP : va_P D vwCl (ax_Wd cad Y ad sh M) H) (hD : va_D A (ax_Wd cad Y ad sh M)) (hS : va_S A H0 H locs) (hA : ∀ q, H0.size ≤ q → A q) (w : ax_wm sh M) (hf : f ≤ 3) {x : Int} (hxi : ax_i x) (h0 : 0 ≤ x) (hn : x ≤ 10000) (hcells : cells + 1 ≤ R.cells) (hslots : slots + x.toNat ≤ R.slots) (hd : decode cc pc = .ok (ax_ins pcs i (24, f, g, b)))
    (k : ∀ (ad' : Nat → Nat) (H1 : Heap), (∀ a, a < sh.length → ad' a = ad a) → va_P D vwCl (ax_Wd cad Y ad' (sh ++ [(1, f, x.toNat)]) (ax_nw M sh.length (fun _ => 0))) H1 → va_D A (ax_Wd cad Y ad' (sh ++ [(1, f, x.toNat)]) (ax_nw M sh.length (fun _ => 0))) → va_S A H0 H1 locs → W p l e R s m args below meth c H1 locs (cells + 1) (slots + x.toNat) Q (F0 m (pc + 2) ls (.ref (ad' sh.length) :: rest))) : W p l e R s m args below meth c H locs cells slots Q (F0 m pc ls (.int (Int32.ofInt x) :: rest)) := by
  have hn0 : ¬ Int32.ofInt x < 0 := fun q => by
    have := (ax_ltI hxi ax_i0).mp q
    omega
  have hcl := ax_clamp hxi
  have key : ∀ (ty : FieldType) (q : Nat) (H1 : Heap), va_P D vwCl (ax_Wd cad Y ad sh M ++ [(q, .inl (Y f, x.toNat, ax_A ad f (fun _ => 0)))]) H1 → va_D A (ax_Wd cad Y ad sh M ++ [(q, .inl (Y f, x.toNat, ax_A ad f (fun _ => 0)))]) → va_S A H0 H1 locs → W p l e R s m args below meth c H1 locs (cells + 1) (slots + x.toNat) Q (F0 m (pc + 2) ls (.ref q :: rest)) := by
    intro ty q H1 h1 h2 h3
    have hA' : ∀ a, a < sh.length → (fun a => if a = sh.length then q else ad a) a = ad a := fun a ha => if_neg (by omega)
    have hW : ax_Wd cad Y (fun a => if a = sh.length then q else ad a) (sh ++ [(1, f, x.toNat)]) (ax_nw M sh.length (fun _ => 0)) = ax_Wd cad Y ad sh M ++ [(q, .inl (Y f, x.toNat, ax_A ad f (fun _ => 0)))] := by
      rw [ax_Wd_app hA' (fun a ha => ax_nw_old M sh.length _ ha) w]
      congr 1
      show [((if sh.length + 0 = sh.length then q else ad (sh.length + 0)), ax_E cad Y (fun a => if a = sh.length then q else ad a) (1, f, x.toNat) (ax_nw M sh.length (fun _ => 0) (sh.length + 0)))] = _
      rw [if_pos (by omega), ax_nw_at, ax_E_arr]
      unfold ax_A
      rw [if_neg (show ¬ 4 ≤ f by omega)]
      rw [if_neg (show ¬ 4 ≤ f by omega)]
    have := k (fun a => if a = sh.length then q else ad a) H1 hA' (by rw [hW]; exact h1) (by rw [hW]; exact h2) h3
    rw [if_pos rfl] at this
    exact this
  match f, hf, hd, key with
  | 0, _, hd, key =>
    refine va_newa (ty := .int) (a0 := (x.toNat, ax_A ad 0 (fun _ => 0))) hx hb (hts _ (hjw _ (by decide))) rfl hK hP hD hS hA (fun cA => rfl) hn0 hcl (Nat.le_trans (Nat.mul_le_mul (show x.toNat ≤ 10000 by omega) (show componentBytes .int ≤ 8 by decide)) (by decide)) hcells hslots hd (fun q cA H1 hK1 h1 h2 h3 => ?_)
    have e1 := (hK1.2 6 (cA, .int) rfl).2
    have e2 := (hK.2 0 (Y 0, .int) rfl).2
    have ec : Y 0 = cA := Option.some.inj (e2.symm.trans e1)
    rw [← ec] at h1 h2
    exact key .int q H1 h1 h2 h3
  | 1, _, hd, key =>
    refine va_newa (ty := .long) (a0 := (x.toNat, ax_A ad 1 (fun _ => 0))) hx hb (hts _ (hjw _ (by decide))) rfl hK hP hD hS hA (fun cA => rfl) hn0 hcl (Nat.le_trans (Nat.mul_le_mul (show x.toNat ≤ 10000 by omega) (show componentBytes .long ≤ 8 by decide)) (by decide)) hcells hslots hd (fun q cA H1 hK1 h1 h2 h3 => ?_)
    have e1 := (hK1.2 6 (cA, .long) rfl).2
    have e2 := (hK.2 1 (Y 1, .long) rfl).2
    have ec : Y 1 = cA := Option.some.inj (e2.symm.trans e1)
    rw [← ec] at h1 h2
    exact key .long q H1 h1 h2 h3
  | 2, _, hd, key =>
    refine va_newa (ty := .char) (a0 := (x.toNat, ax_A ad 2 (fun _ => 0))) hx hb (hts _ (hjw _ (by decide))) rfl hK hP hD hS hA (fun cA => rfl) hn0 hcl (Nat.le_trans (Nat.mul_le_mul (show x.toNat ≤ 10000 by omega) (show componentBytes .char ≤ 8 by decide)) (by decide)) hcells hslots hd (fun q cA H1 hK1 h1 h2 h3 => ?_)
    have e1 := (hK1.2 6 (cA, .char) rfl).2
    have e2 := (hK.2 2 (Y 2, .char) rfl).2
    have ec : Y 2 = cA := Option.some.inj (e2.symm.trans e1)
    rw [← ec] at h1 h2
    exact key .char q H1 h1 h2 h3
  | 3, _, hd, key =>
    refine va_newa (ty := .boolean) (a0 := (x.toNat, ax_A ad 3 (fun _ => 0))) hx hb (hts _ (hjw _ (by decide))) rfl hK hP hD hS hA (fun cA => rfl) hn0 hcl (Nat.le_trans (Nat.mul_le_mul (show x.toNat ≤ 10000 by omega) (show componentBytes .boolean ≤ 8 by decide)) (by decide)) hcells hslots hd (fun q cA H1 hK1 h1 h2 h3 => ?_)
    have e1 := (hK1.2 6 (cA, .boolean) rfl).2
    have e2 := (hK.2 3 (Y 3, .boolean) rfl).2
    have ec : Y 3 = cA := Option.some.inj (e2.symm.trans e1)
    rw [← ec] at h1 h2
    exact key .boolean q H1 h1 h2 h3
theorem ax_w29 (hx : p.tables.exec = Jvm.exec) (hb : c.code = cc) (hml : c.maxLocals = ls.size) {own : String} (hts : ∀ w ∈ ax_tb, w.before args s = true) (hjw : ∀ w ∈ ax_jw, w ∈ ax_tb) (hown : s.vm.findClass own = some m.cls) (hK : va_K D vwCl (ax_ty Y) s) (hP : va_P D vwCl (ax_Wd cad Y ad sh M) H) (hD : va_D A (ax_Wd cad Y ad sh M)) (hS : va_S A H0 H locs) {a d la lb : Nat} {sp dp n : Int} (ha : sh[a]? = some (1, 0, la)) (hd0 : sh[d]? = some (1, 0, lb)) (i1 : ax_i sp) (i2 : ax_i dp) (i3 : ax_i n) (h1 : 0 ≤ sp) (h2 : 0 ≤ dp) (h3 : 0 ≤ n) (h4 : sp + n ≤ la) (h5 : dp + n ≤ lb) (hcat : (rest.map fun v => v.category).sum ≤ 8) (hfr : 1 ≤ R.frames) (hlo : 64 ≤ R.locals) (hw : Cond.methodLink own b.toNat ⟨"java/lang/System", "arraycopy", "(Ljava/lang/Object;ILjava/lang/Object;II)V"⟩ ∈ ax_tb) (hd : decode cc pc = .ok (ax_ins pcs i (29, f, g, b)))
    (k : ∀ (H1 : Heap) (locs1 : List Loc), va_P D vwCl (ax_Wd cad Y ad sh (ax_cpy M a sp.toNat d dp.toNat n.toNat)) H1 → va_D A (ax_Wd cad Y ad sh (ax_cpy M a sp.toNat d dp.toNat n.toNat)) → va_S A H0 H1 locs1 → W p l e R s m args below meth c H1 locs1 cells slots Q (F0 m (pc + 3) ls rest)) : W p l e R s m args below meth c H locs cells slots Q (F0 m pc ls (.int (Int32.ofInt n) :: .int (Int32.ofInt dp) :: .ref (ad d) :: .int (Int32.ofInt sp) :: .ref (ad a) :: rest)) := by
  have hat := ax_Wd_at (cad := cad) (Y := Y) (ad := ad) (M := M) ha
  have hbt := ax_Wd_at (cad := cad) (Y := Y) (ad := ad) (M := M) hd0
  rw [ax_E_arr] at hat hbt
  have hset := ax_Wd_set (cad := cad) (Y := Y) (ad := ad) (M := M) (M' := ax_cpy M a sp.toNat d dp.toNat n.toNat) hd0 (fun b hb => by
    funext j
    unfold ax_cpy
    rw [if_neg (fun q => hb q.1)])
  rw [ax_E_arr] at hset
  have neg : ∀ {x : Int}, ax_i x → 0 ≤ x → ¬ Int32.ofInt x < 0 := fun hi h q => by
    have := (ax_ltI hi ax_i0).mp q
    omega
  have e1 := ax_clamp i1
  have e2 := ax_clamp i2
  have e3 := ax_clamp i3
  refine va_copyi (ty := .int) hx hb hml hown (hts _ hw) (hts _ (hjw _ (by decide))) (hts _ (hjw _ (by decide))) (hts _ (hjw _ (by decide))) hK hP hD hS a d 0 0 hat hbt rfl rfl rfl (neg i1 h1) (neg i2 h2) (neg i3 h3) (by rw [e1, e3]; omega) (by rw [e2, e3]; omega) (fun _ _ => rfl) hfr (Nat.le_trans (Nat.add_le_add_right hcat _) (Nat.le_trans (show 8 + (nativeFrameWords "java/lang/System" "arraycopy" 5 + 11) ≤ 64 by decide) hlo)) hd (fun H1 locs1 q1 q2 q3 => ?_)
  have ef : va_cpy (fun k => Int32.ofInt (M a k)) (fun k => Int32.ofInt (M d k)) (Int32.ofInt sp).toNatClampNeg (Int32.ofInt dp).toNatClampNeg (Int32.ofInt n).toNatClampNeg = fun k => Int32.ofInt (ax_cpy M a sp.toNat d dp.toNat n.toNat d k) := by
    rw [e1, e2, e3]
    funext k
    unfold va_cpy ax_cpy
    by_cases q : dp.toNat ≤ k ∧ k < dp.toNat + n.toNat
    · rw [if_pos q, if_pos ⟨rfl, q⟩]
    · rw [if_neg q, if_neg (fun z => q z.2)]
  rw [ef] at q1 q2
  exact k H1 locs1 (by rw [← hset]; exact q1) (by rw [← hset]; exact q2) q3
end AXR4
