/-! calls -/
section AXL
variable {D : va_G} {Y : Nat → ClassId} {cad : Int → Value} {base L : Nat} {X : Nat → Int}
variable {p : Program} {l : Launch} {e : Env} {R : Room} {s : State} {m : MethodId} {args : Array Value} {below : List Frame} {meth : Method} {c : Code} {H : Heap} {locs : List Loc} {cells slots : Nat} {Q : State → Prop}
theorem ax_scall (K : ax_OK) (hcad : ∀ x, cad x = .null ∨ ∃ q, cad x = .ref q) {n d j i f g : Nat} {b : Int} {pcs : List Nat} {pc : Nat} {st : List ax_V} {sh sh1 : List ax_H} {M M1 : ax_M} {r1 : List ax_V} {ad : Nat → Nat} {ls : Array Slot} (ih : ax_Sim D Y cad base L X l n) (hx : p.tables.exec = Jvm.exec) (hb : c.code = ax_bc j) (hml : c.maxLocals = ax_ml j) (hown : s.vm.findClass (ax_cn (ax_own j)) = some m.cls) (hts : ∀ w ∈ ax_tb, w.before args s = true) (hKs : ax_Ks D Y cad base L X s)
    (hP : va_P D vwCl (ax_Wd cad Y ad sh M) H) (hD : va_D (fun q => base ≤ q) (ax_Wd cad Y ad sh M)) (hS : va_S (fun q => base ≤ q) s.heap H locs) (hm : ax_wm sh M) (hs : ax_ws sh.length st) (hls : ls.size = ax_ml j) (hf : f < 315) (hg : g = ax_np f + (if ax_kd f = 0 then 0 else 1)) (hd : decode (ax_bc j) pc = .ok (ax_ins pcs i (27, f, g, b))) (hlk : ∃ t, t ∈ [((8, b.toNat, f, 0) : Nat × Nat × Nat × Int), (9, b.toNat, f, 0)] ∧ t ∈ ax_lk.getD (ax_own j) [])
    (hgl : g ≤ st.length) (hcat : ax_cat (st.drop g) ≤ 8) (hmay : ax_may f sh (st.take g).reverse = true) (hrun : ax_run L X n d f 0 (ax_loc (st.take g).reverse (ax_ml f)) [] sh M = some (r1, sh1, M1)) (hr1 : r1.length ≤ 1) (hfr : d + 2 ≤ R.frames) (hlo : 32 * (d + 1) + 64 ≤ R.locals) (hrc : cells + (sh1.length - sh.length) ≤ R.cells) (hrs : slots + (ax_sl sh1 - ax_sl sh) ≤ R.slots)
    (kk : ∀ (ad' : Nat → Nat) (H1 : Heap) (locs1 : List Loc), (∀ a, a < sh.length → ad' a = ad a) → va_P D vwCl (ax_Wd cad Y ad' sh1 M1) H1 → va_D (fun q => base ≤ q) (ax_Wd cad Y ad' sh1 M1) → va_S (fun q => base ≤ q) s.heap H1 locs1 → W p l e R s m args below meth c H1 locs1 (cells + (sh1.length - sh.length)) (slots + (ax_sl sh1 - ax_sl sh)) Q (F0 m (pc + 3) ls (r1.map (ax_cv cad ad') ++ (st.drop g).map (ax_cv cad ad)))) :
    W p l e R s m args below meth c H locs cells slots Q (F0 m pc ls (st.map (ax_cv cad ad))) := by
  have hf6 : f < 316 := by omega
  have hfl : f ≠ ax_law := by show f ≠ 315; omega
  obtain ⟨-, m2, m3, m4, m5, m6, m7, m8, m9, m10, -⟩ := ax_mp_use (K.2.2.2.2.2 f hf6)
  generalize hasr : (st.take g).reverse = asr at hmay hrun
  have hlen : asr.length = g := by rw [← hasr, List.length_reverse, List.length_take]; omega
  have hst : st.map (ax_cv cad ad) = (asr.map (ax_cv cad ad)).reverse ++ (st.drop g).map (ax_cv cad ad) := by
    rw [← hasr, List.map_reverse, List.reverse_reverse, ← List.map_append, List.take_append_drop]
  have has : ax_ws sh.length asr := by rw [← hasr]; exact ax_wtake hs
  unfold ax_may at hmay
  rw [Bool.and_eq_true] at hmay
  obtain ⟨hent, hmay⟩ := hmay
  have hent := of_decide_eq_true hent
  have hM := ax_met (Y := Y) (ad := ad) K hcad ih hf6 hrun hm has hent
  have hG := ax_good K hf6 hfl
  have hini := hts _ (ax_mwi K hf6 hfl)
  have hnd : (ax_y f).cls ≠ "java/lang/invoke/MethodHandle" ∧ (ax_y f).cls ≠ "java/lang/invoke/VarHandle" ∧ (parseMethodDescriptor (ax_y f).desc).map (fun d => d.parameters.length) = some (ax_np f) := ⟨m2, m3, m4⟩
  have hW : 2 * (F0 m pc ls (st.map (ax_cv cad ad))).monitorRoom + (((st.drop g).map (ax_cv cad ad)).map fun v => v.category).sum ≤ 8 := lv_room (by rw [ax_catm hcad]; exact hcat)
  have hPc : ∀ av : List Value, av = asr.map (ax_cv cad ad) → ∀ U : State, U.heap = H → s.WarmedH U.vm → ax_Pc D Y cad base L X asr ad sh M av.toArray U := fun av hav U hU hWm => ⟨by rw [hav], hKs.call hWm hS hU, by rw [hU]; exact hP, hD⟩
  have hRm : ({ frames := d + 1, cells := sh1.length - sh.length, slots := ax_sl sh1 - ax_sl sh, locals := 32 * d + 64 } : Room).frames + 1 ≤ R.frames ∧ 8 + (ax_ml f + 11) + ({ frames := d + 1, cells := sh1.length - sh.length, slots := ax_sl sh1 - ax_sl sh, locals := 32 * d + 64 } : Room).locals ≤ R.locals := ⟨by show d + 1 + 1 ≤ R.frames; omega, by show 8 + (ax_ml f + 11) + (32 * d + 64) ≤ R.locals; omega⟩
  have hfix : CallFix p m c (ax_bc j) (ax_ml j) s args ax_tb (ax_cn (ax_own j)) := ⟨hx, hb, hml, hown, hts⟩
  have hins : ∀ q, ax_kd f = q → decode (ax_bc j) pc = .ok (match q with
    | 0 => (.invokestatic b.toNat, 3)
    | 1 => (.invokevirtual b.toNat, 3)
    | _ => (.invokespecial b.toNat, 3)) := fun q hq => by
    subst hq
    exact hd
  obtain ⟨t, ht1, ht2⟩ := hlk
  have hwd := K.2.2.2.1
  have hl8 : t = (8, b.toNat, f, 0) → (Cond.methodLink (ax_cn (ax_own j)) b.toNat (ax_y f)).before args s = true := fun q => by
    rw [q] at ht2
    exact hts _ (hwd _ _ ht2 (fun z => (by cases z)) (fun z => (by cases z)))
  have hl9 : t = (9, b.toNat, f, 0) → va_Nw (.methodLinkNest (ax_cn (ax_own j)) b.toNat (ax_y f) "FireDrill") s := fun q => by
    rw [q] at ht2
    exact hKs.2.2.2.2.2.2.2.2.1 _ _ _ ht2
  have h89 : t = (8, b.toNat, f, 0) ∨ t = (9, b.toNat, f, 0) := by
    rcases List.mem_cons.mp ht1 with q | q
    · exact Or.inl q
    · exact Or.inr (List.mem_singleton.mp q)
  rcases (show ax_kd f = 0 ∨ ax_kd f = 1 ∨ ax_kd f = 2 by omega) with hk | hk | hk
  · have hdg := hins 0 hk
    rw [hk, if_pos rfl] at hg
    have hstat := hts _ (ax_mws K hf6 hfl hk)
    have hn : (asr.map (ax_cv cad ad)).length = ax_np f := by rw [List.length_map, hlen]; exact hg
    rcases h89 with q | q
    · exact ax_callx hr1 (va_runS (g := F0 m pc ls (st.map (ax_cv cad ad))) hfix hM ⟨callB_of (ax_np f) hts hG rfl rfl rfl hini (hl8 q) hnd hRm, hstat⟩ ⟨ax_blind, fun U hU hWm => hPc _ rfl U hU hWm⟩ rfl hn hls hst hW hdg ⟨hrc, hrs⟩) hS kk
    · exact ax_callx hr1 (va_runSN (g := F0 m pc ls (st.map (ax_cv cad ad))) hfix hM ⟨va_cnB (ax_np f) hts hG rfl rfl rfl (hl9 q) hini hnd hRm, hstat, trivial⟩ ⟨ax_blind, fun U hU hWm => hPc _ rfl U hU hWm⟩ rfl hn hls hst hW hdg ⟨hrc, hrs⟩) hS kk
  · have hdg := hins 1 hk
    rw [hk, if_neg (by decide)] at hg
    rw [hk] at hmay
    obtain ⟨hinst, hsel⟩ := ax_mwv K hf6 hfl hk
    match asr, hlen, hst, has, hmay, hM, hPc with
    | [], _, _, _, hmay, _, _ => cases hmay
    | (0, _) :: _, _, _, _, hmay, _, _ => cases hmay
    | (1, _) :: _, _, _, _, hmay, _, _ => cases hmay
    | (_ + 3, _) :: _, _, _, _, hmay, _, _ => cases hmay
    | (2, a) :: as, hlen, hst, has, hmay, hM, hPc =>
      have hn : (as.map (ax_cv cad ad)).length = ax_np f := by
        rw [List.length_map]
        have : as.length + 1 = g := hlen
        omega
      have hrecv : ∃ q : Nat, ax_cv cad ad (2, a) = .ref q ∧ ∃ cellB : Cell, H[q]? = some cellB ∧ cellB.vm.isStatics = false ∧ s.vm.findClass (ax_y f).cls = some cellB.cls := by
        have hmay : (decide (0 ≤ a ∧ sh[a.toNat]? = some (0, ax_own f, ax_fl (ax_own f))) || (decide (ax_own f = 14) && ax_isS a)) = true := hmay
        rcases Bool.or_eq_true_iff.mp hmay with q | q
        · have q := of_decide_eq_true q
          have ho : ax_own f < 13 := by
            rcases hm _ _ q.2 with ⟨-, w, -⟩ | ⟨w, -⟩
            · exact w
            · cases w
          have hat := ax_Wd_at (cad := cad) (Y := Y) (ad := ad) (M := M) q.2
          rw [ax_E_obj] at hat
          obtain ⟨cell, g1, g2, g3⟩ := va_recv hKs.2.1 hP (ax_vwcl ho) hat
          refine ⟨ad a.toNat, ax_cR _ _ q.1, cell, g1, g2, ?_⟩
          rw [m5, ← (K.1 _ ho).2.1]
          exact g3
        · rw [Bool.and_eq_true] at q
          obtain ⟨q1, q2⟩ := q
          have q1 := of_decide_eq_true q1
          obtain ⟨z, h1, h2, h3⟩ := ax_sx_of q2
          obtain ⟨qS, qB, g1, -, g3, -⟩ := hKs.2.2.2.2.2.2.1 z h1
          obtain ⟨cell, c1, c2, c3, -⟩ := g3.kept hS.2.1
          refine ⟨qS, by rw [ax_cK _ _ (show a < -1 by omega), h2, g1], cell, c1, c2, ?_⟩
          rw [m5, q1]
          exact c3
      obtain ⟨q0, hq0, hcell⟩ := hrecv
      have hst2 : st.map (ax_cv cad ad) = (as.map (ax_cv cad ad)).reverse ++ .ref q0 :: (st.drop g).map (ax_cv cad ad) := by
        rw [hst, List.map_cons, List.reverse_cons, hq0, List.append_assoc]
        rfl
      have hav : Value.ref q0 :: as.map (ax_cv cad ad) = ((2, a) :: as).map (ax_cv cad ad) := by rw [List.map_cons, hq0]
      rcases h89 with q | q
      · exact ax_callx hr1 (va_runV (C := (ax_y f).cls) (g := F0 m pc ls (st.map (ax_cv cad ad))) hfix hM ⟨callB_of (ax_np f) hts hG rfl rfl rfl hini (hl8 q) hnd hRm, hts _ hinst, hts _ hsel⟩ ⟨ax_blind, hcell, fun U hU hWm => hPc _ hav U hU hWm⟩ rfl hn hls hst2 hW hdg ⟨hrc, hrs⟩) hS kk
      · exact ax_callx hr1 (va_runVN (C := (ax_y f).cls) (g := F0 m pc ls (st.map (ax_cv cad ad))) hfix hM ⟨va_cnB (ax_np f) hts hG rfl rfl rfl (hl9 q) hini hnd hRm, hts _ hinst, hts _ hsel⟩ ⟨ax_blind, hcell, fun U hU hWm => hPc _ hav U hU hWm⟩ rfl hn hls hst2 hW hdg ⟨hrc, hrs⟩) hS kk
  · have hdg := hins 2 hk
    rw [hk, if_neg (by decide)] at hg
    rw [hk] at hmay
    have hinst := ax_mwc K hf6 hfl hk
    have hrt := m10 hk
    rw [hrt] at hM hG
    match asr, hlen, hst, has, hmay, hM, hPc with
    | [], _, _, _, hmay, _, _ => cases hmay
    | (0, _) :: _, _, _, _, hmay, _, _ => cases hmay
    | (1, _) :: _, _, _, _, hmay, _, _ => cases hmay
    | (_ + 3, _) :: _, _, _, _, hmay, _, _ => cases hmay
    | (2, a) :: as, hlen, hst, has, hmay, hM, hPc =>
      have hn : (as.map (ax_cv cad ad)).length = ax_np f := by
        rw [List.length_map]
        have : as.length + 1 = g := hlen
        omega
      have ha : 0 ≤ a := of_decide_eq_true hmay
      have hq0 : ax_cv cad ad (2, a) = .ref (ad a.toNat) := ax_cR _ _ ha
      have hst2 : st.map (ax_cv cad ad) = (as.map (ax_cv cad ad)).reverse ++ .ref (ad a.toNat) :: (st.drop g).map (ax_cv cad ad) := by
        rw [hst, List.map_cons, List.reverse_cons, hq0, List.append_assoc]
        rfl
      have hav : Value.ref (ad a.toNat) :: as.map (ax_cv cad ad) = ((2, a) :: as).map (ax_cv cad ad) := by rw [List.map_cons, hq0]
      rcases h89 with q | q
      · exact ax_callx hr1 (va_runI (g := F0 m pc ls (st.map (ax_cv cad ad))) hfix hM ⟨callB_of (ax_np f) hts hG rfl rfl rfl hini (hl8 q) hnd hRm, m6 hk, hts _ hinst⟩ ⟨ax_blind, fun U hU hWm => hPc _ hav U hU hWm⟩ rfl hn hls hst2 hW hdg ⟨hrc, hrs⟩) hS kk
      · exact ax_callx hr1 (va_runIN (g := F0 m pc ls (st.map (ax_cv cad ad))) hfix hM ⟨va_cnB (ax_np f) hts hG rfl rfl rfl (hl9 q) hini hnd hRm, m6 hk, hts _ hinst⟩ ⟨ax_blind, fun U hU hWm => hPc _ hav U hU hWm⟩ rfl hn hls hst2 hW hdg ⟨hrc, hrs⟩) hS kk
end AXL
