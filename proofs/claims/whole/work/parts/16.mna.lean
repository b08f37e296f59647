/-! arrays of arrays -/
section AXR5
variable {p : Program} {l : Launch} {e : Env} {R : Room} {s : State} {m : MethodId} {args : Array Value} {below : List Frame} {meth : Method} {c : Code} {H : Heap} {locs : List Loc} {cells slots : Nat} {Q : State → Prop}
variable {cc : ByteArray} {pc : Nat} {ls : Array Slot} {rest : List Value} {pcs : List Nat} {i f g : Nat} {b : Int}
variable {cad : Int → Value} {Y : Nat → ClassId} {ad : Nat → Nat} {sh : List ax_H} {M : ax_M} {D : va_G} {A : Nat → Prop} {H0 : Heap}
def ax_adr (ad : Nat → Nat) (o q : Nat) (r : Nat → Nat) : Nat → Nat := fun a => if a < o then ad a else if a = o then q else r (a - o - 1)
theorem ax_Wd_rows {N K q : Nat} {r : Nat → Nat} (hf : f ≤ 1) (w : ax_wm sh M) (f0 : Nat → va_E) : ax_Wd cad Y (ax_adr ad sh.length q r) (sh ++ (1, 4 + f, N) :: List.replicate N (1, f, K)) (ax_nr M sh.length N) = (ax_Wd cad Y ad sh M ++ [(q, .inl (Y (4 + f), N, .inr (.inr (.inr (.inr (fun i => if i < N then some (r i) else none))))))]) ++ va_pl ([] ++ (List.range N).map r) (vr_up f0 ((List.range N).map r) (.inl (Y f, K, ax_A ad f (fun _ => 0)))) := by
  have hA : ∀ a, a < sh.length → ax_adr ad sh.length q r a = ad a := fun a ha => if_pos ha
  rw [ax_Wd_app hA (fun a ha => ax_nr_old M sh.length N ha) w, List.append_assoc]
  congr 1
  rw [List.length_cons, List.length_replicate, List.range_succ_eq_map, List.map_cons, List.map_map, List.nil_append]
  show _ :: _ = _ :: _
  congr 1
  · show (ax_adr ad sh.length q r (sh.length + 0), ax_E cad Y (ax_adr ad sh.length q r) (1, 4 + f, N) (ax_nr M sh.length N (sh.length + 0))) = _
    rw [ax_E_arr]
    have e1 : ax_adr ad sh.length q r (sh.length + 0) = q := by
      unfold ax_adr
      rw [if_neg (by omega), if_pos (by omega)]
    rw [e1]
    congr 3
    unfold ax_A
    rw [if_neg (by omega), if_pos (by omega)]
    congr 5
    funext k
    rw [ax_nr_at]
    by_cases hk : k < N
    · rw [if_pos hk, if_pos hk, if_pos (by omega)]
      congr 1
      unfold ax_adr
      rw [if_neg (by omega), if_neg (by omega)]
      congr 1
      omega
    · rw [if_neg hk, if_neg hk, if_neg (by omega)]
  · unfold va_pl
    rw [List.map_map]
    refine List.map_congr_left (fun k hk => ?_)
    have hk := List.mem_range.mp hk
    show (ax_adr ad sh.length q r (sh.length + (k + 1)), ax_E cad Y (ax_adr ad sh.length q r) (((1, 4 + f, N) :: List.replicate N ((1, f, K) : ax_H)).getD (k + 1) (0, 0, 0)) (ax_nr M sh.length N (sh.length + (k + 1)))) = (r k, vr_up f0 ((List.range N).map r) (.inl (Y f, K, ax_A ad f (fun _ => 0))) (r k))
    rw [vr_up_in (List.mem_map.mpr ⟨k, List.mem_range.mpr hk, rfl⟩)]
    have e1 : ax_adr ad sh.length q r (sh.length + (k + 1)) = r k := by
      unfold ax_adr
      rw [if_neg (by omega), if_neg (by omega)]
      congr 1
      omega
    have e2 : ((1, 4 + f, N) :: List.replicate N ((1, f, K) : ax_H)).getD (k + 1) (0, 0, 0) = (1, f, K) := by
      rw [List.getD_cons_succ, List.getD_eq_getElem?_getD, List.getElem?_replicate_of_lt hk]
      rfl
    have e3 : ax_nr M sh.length N (sh.length + (k + 1)) = fun _ => 0 := by
      funext z
      rw [ax_nr_row]
    rw [e1, e2, e3, ax_E_arr]
    congr 3
    unfold ax_A
    rw [if_neg (show ¬ 4 ≤ f by omega), if_neg (show ¬ 4 ≤ f by omega)]
theorem ax_w26 (hx : p.tables.exec = Jvm.exec) (hb : c.code = cc) {own : String} (hts : ∀ w ∈ ax_tb, w.before args s = true) (hjw : ∀ w ∈ ax_jw, w ∈ ax_tb) (hov1 : va_AOA .int s) (hov2 : va_AOA .long s) (hown : s.vm.findClass own = some m.cls) (hK : va_K D vwCl (ax_ty Y) s) (hP : va_P D vwCl (ax_Wd cad Y ad sh M) H) (hD : va_D A (ax_Wd cad Y ad sh M)) (hS : va_S A H0 H locs) (hA : ∀ q, H0.size ≤ q → A q) (w : ax_wm sh M) (hf : f ≤ 1) {x y : Int} (hxi : ax_i x) (hyi : ax_i y) (h0 : 0 ≤ x) (h1 : x ≤ 1000) (h2 : 0 ≤ y) (h3 : y ≤ 1000) (hw : Cond.classLink own b.toNat (if f = 0 then "[[I" else "[[J") ∈ ax_tb) (hcells : cells + (1 + x.toNat) ≤ R.cells) (hslots : slots + (x.toNat + x.toNat * y.toNat) ≤ R.slots) (hd : decode cc pc = .ok (ax_ins pcs i (26, f, g, b)))
    (k : ∀ (ad' : Nat → Nat) (H1 : Heap), (∀ a, a < sh.length → ad' a = ad a) → va_P D vwCl (ax_Wd cad Y ad' (sh ++ (1, 4 + f, x.toNat) :: List.replicate x.toNat (1, f, y.toNat)) (ax_nr M sh.length x.toNat)) H1 → va_D A (ax_Wd cad Y ad' (sh ++ (1, 4 + f, x.toNat) :: List.replicate x.toNat (1, f, y.toNat)) (ax_nr M sh.length x.toNat)) → va_S A H0 H1 locs → W p l e R s m args below meth c H1 locs (cells + 1 + x.toNat) (slots + x.toNat + x.toNat * y.toNat) Q (F0 m (pc + 4) ls (.ref (ad' sh.length) :: rest))) : W p l e R s m args below meth c H locs cells slots Q (F0 m pc ls (.int (Int32.ofInt y) :: .int (Int32.ofInt x) :: rest)) := by
  have neg : ∀ {x : Int}, ax_i x → 0 ≤ x → ¬ Int32.ofInt x < 0 := fun hi h q => by
    have := (ax_ltI hi ax_i0).mp q
    omega
  have hadr : ∀ (q : Nat) (r : Nat → Nat), ax_adr ad sh.length q r sh.length = q := fun q r => by
    unfold ax_adr
    rw [if_neg (by omega), if_pos rfl]
  have hold : ∀ (q : Nat) (r : Nat → Nat) (a : Nat), a < sh.length → ax_adr ad sh.length q r a = ad a := fun q r a ha => if_pos ha
  have nil : ∀ F : Nat → va_E, ax_Wd cad Y ad sh M ++ va_pl [] F = ax_Wd cad Y ad sh M := fun F => List.append_nil _
  match f, hf, hd, hw, k with
  | 0, hf, hd, hw, k =>
    refine va_mna (X := ax_Wd cad Y ad sh M) (L := []) (f := fun _ => .inl (Y 0, 0, ax_A ad 0 (fun _ => 0))) (ty := .int) (cy := Y 0) (z := (y.toNat, ax_A ad 0 (fun _ => 0))) hx hb hown (hts _ hw) hov1 (hts _ (hjw _ (by decide))) (hK.2 0 (Y 0, .int) rfl).2 hK (by rw [nil]; exact hP) (by rw [nil]; exact hD) hS hA (neg hxi h0) (neg hyi h2) (ax_clamp hxi) (ax_clamp hyi) (by omega) (Nat.le_trans (Nat.mul_le_mul (show y.toNat ≤ 1000 by omega) (show componentBytes .int ≤ 8 by decide)) (by decide)) (by omega) rfl rfl hcells hslots (fun cA => arrV_new cA y.toNat _) hd (fun q r cA H1 _ _ hK1 q1 q2 q3 => ?_)
    have e1 := (hK1.2 6 (cA, .array .int) rfl).2
    have e2 := (hK.2 4 (Y 4, .array .int) rfl).2
    have ec : Y 4 = cA := Option.some.inj (e2.symm.trans e1)
    subst ec
    have hW := ax_Wd_rows (cad := cad) (Y := Y) (ad := ad) (N := x.toNat) (K := y.toNat) (q := q) (r := r) hf w (fun _ => .inl (Y 0, 0, ax_A ad 0 (fun _ => 0)))
    have := k (ax_adr ad sh.length q r) H1 (hold q r) (by rw [hW]; exact q1) (by rw [hW]; exact q2) q3
    rw [hadr] at this
    exact this
  | 1, hf, hd, hw, k =>
    refine va_mna (X := ax_Wd cad Y ad sh M) (L := []) (f := fun _ => .inl (Y 0, 0, ax_A ad 0 (fun _ => 0))) (ty := .long) (cy := Y 1) (z := (y.toNat, ax_A ad 1 (fun _ => 0))) hx hb hown (hts _ hw) hov2 (hts _ (hjw _ (by decide))) (hK.2 1 (Y 1, .long) rfl).2 hK (by rw [nil]; exact hP) (by rw [nil]; exact hD) hS hA (neg hxi h0) (neg hyi h2) (ax_clamp hxi) (ax_clamp hyi) (by omega) (Nat.le_trans (Nat.mul_le_mul (show y.toNat ≤ 1000 by omega) (show componentBytes .long ≤ 8 by decide)) (by decide)) (by omega) rfl rfl hcells hslots (fun cA => arrV_new cA y.toNat _) hd (fun q r cA H1 _ _ hK1 q1 q2 q3 => ?_)
    have e1 := (hK1.2 6 (cA, .array .long) rfl).2
    have e2 := (hK.2 5 (Y 5, .array .long) rfl).2
    have ec : Y 5 = cA := Option.some.inj (e2.symm.trans e1)
    subst ec
    have hW := ax_Wd_rows (cad := cad) (Y := Y) (ad := ad) (N := x.toNat) (K := y.toNat) (q := q) (r := r) hf w (fun _ => .inl (Y 0, 0, ax_A ad 0 (fun _ => 0)))
    have := k (ax_adr ad sh.length q r) H1 (hold q r) (by rw [hW]; exact q1) (by rw [hW]; exact q2) q3
    rw [hadr] at this
    exact this
end AXR5
