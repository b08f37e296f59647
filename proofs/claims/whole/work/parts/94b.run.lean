theorem Rel.law_up {n : Nat} {M : ax_M} (h : Rel n M) : Rel (n + 1) M := by
  obtain ⟨h, hh, hF, hG⟩ := h
  exact ⟨h, hh, hF, hG.up (by omega)⟩
section LRN
variable {L : Nat} {X : Nat → Int}
theorem law_loop (h2 : HOP2 L X) (hX : ∀ i, ax_i (X i)) (hL : L ≤ 3072) : ∀ (m k : Nat), k + m = L / 6 → ∀ ll M, (ll = [(2, -2), (2, 0), (2, 142), (0, ((6 * k : Nat) : Int))] ∧ Rel k M ∧ Wd M) → ax_G L X SH 41 315 10 ll [] M (R1 0 (fun x _ => x = 1)) := by
  have hC := at315
  refine lp ?_ ?_
  · rintro ll M ⟨rfl, hR, hW⟩
    refine g3 hC (show ax_c315[10]? = some (3, 0, 3, 0) by decide +kernel) rfl ?_
    refine g3 hC (show ax_c315[11]? = some (3, 2, 0, 0) by decide +kernel) rfl ?_
    refine gXl hC (show ax_c315[12]? = some (23, 0, 0, 0) by decide +kernel) hL ?_
    refine g0 hC (show ax_c315[13]? = some (0, 1, 0, 6) by decide +kernel) ?_
    refine g6s hC (show ax_c315[14]? = some (6, 1, 0, 0) by decide +kernel) ⟨by omega, by omega⟩ ?_
    refine g13t hC (show ax_c315[15]? = some (13, 4, 713, 0) by decide +kernel) (fun _ => ?_) (fun w => absurd (by omega) w)
    refine g0 hC (show ax_c315[713]? = some (0, 0, 0, 1) by decide +kernel) ?_
    exact ret3 hC (show ax_c315[714]? = some (28, 3, 0, 0) by decide +kernel) ⟨by decide, by decide⟩ rfl
  · rintro k hk ll M ⟨rfl, hR, hWd⟩ hnext
    have hk6 : 6 * k + 6 ≤ L := by omega
    have hn : k ≤ 1000 := by omega
    have nxt : ∀ M2, Rel (k + 1) M2 → Wd M2 → ax_G L X SH 41 315 711 [(2, -2), (2, 0), (2, 142), (0, ((6 * k : Nat) : Int))] [] M2 (R1 0 (fun x _ => x = 1)) := by
      intro M2 hR2 hW2
      refine n3 hC (show ax_c315[711]? = some (5, 3, 0, 6) by decide +kernel) rfl ⟨by omega, by omega⟩ ?_
      refine g14 hC (show ax_c315[712]? = some (14, 0, 10, 0) by decide +kernel) ?_
      exact hnext _ _ ⟨by rw [show ((6 * k : Nat) : Int) + 6 = ((6 * (k + 1) : Nat) : Int) by omega], hR2, hW2⟩
    refine g3 hC (show ax_c315[10]? = some (3, 0, 3, 0) by decide +kernel) rfl ?_
    refine g3 hC (show ax_c315[11]? = some (3, 2, 0, 0) by decide +kernel) rfl ?_
    refine gXl hC (show ax_c315[12]? = some (23, 0, 0, 0) by decide +kernel) hL ?_
    refine g0 hC (show ax_c315[13]? = some (0, 1, 0, 6) by decide +kernel) ?_
    refine g6s hC (show ax_c315[14]? = some (6, 1, 0, 0) by decide +kernel) ⟨by omega, by omega⟩ ?_
    refine g13t hC (show ax_c315[15]? = some (13, 4, 713, 0) by decide +kernel) (fun w => absurd w (by omega)) (fun _ => ?_)
    refine g3 hC (show ax_c315[16]? = some (3, 2, 0, 0) by decide +kernel) rfl ?_
    refine g3 hC (show ax_c315[17]? = some (3, 0, 3, 0) by decide +kernel) rfl ?_
    refine gX (p := 6 * k) hC (show ax_c315[18]? = some (21, 0, 0, 0) by decide +kernel) rfl (by omega) hL ?_
    refine g0 hC (show ax_c315[19]? = some (0, 1, 0, 63) by decide +kernel) ?_
    refine g6 hC (show ax_c315[20]? = some (6, 5, 0, 0) by decide +kernel) rfl ?_
    have hv0 := andle (x := X (6 * k)) (b := 63) (by decide)
    obtain ⟨v, hv⟩ : ∃ v, v = (Int32.ofInt (X (6 * k)) &&& Int32.ofInt 63).toInt := ⟨_, rfl⟩
    rw [← hv]
    by_cases v0 : v = 0
    · exact g15k hC (show ax_c315[21]? = some (15, 11, 0, 0) by decide +kernel) rfl v0 (i' := 22) rfl (law0 h2 hX hL hk6 hn hR hWd nxt)
    by_cases v1 : v = 1
    · exact g15k hC (show ax_c315[21]? = some (15, 11, 0, 0) by decide +kernel) rfl v1 (i' := 79) rfl (law1 h2 hX hL hk6 hn hR hWd nxt)
    by_cases v2 : v = 2
    · exact g15k hC (show ax_c315[21]? = some (15, 11, 0, 0) by decide +kernel) rfl v2 (i' := 96) rfl (law2 h2 hX hL hk6 hn hR hWd nxt)
    by_cases v3 : v = 3
    · exact g15k hC (show ax_c315[21]? = some (15, 11, 0, 0) by decide +kernel) rfl v3 (i' := 103) rfl (law3 h2 hX hL hk6 hn hR hWd nxt)
    by_cases v4 : v = 4
    · exact g15k hC (show ax_c315[21]? = some (15, 11, 0, 0) by decide +kernel) rfl v4 (i' := 120) rfl (law4 h2 hX hL hk6 hn hR hWd nxt)
    by_cases v5 : v = 5
    · exact g15k hC (show ax_c315[21]? = some (15, 11, 0, 0) by decide +kernel) rfl v5 (i' := 137) rfl (law5 h2 hX hL hk6 hn hR hWd nxt)
    by_cases v6 : v = 6
    · exact g15k hC (show ax_c315[21]? = some (15, 11, 0, 0) by decide +kernel) rfl v6 (i' := 174) rfl (law6 h2 hX hL hk6 hn hR hWd nxt)
    by_cases v7 : v = 7
    · exact g15k hC (show ax_c315[21]? = some (15, 11, 0, 0) by decide +kernel) rfl v7 (i' := 191) rfl (law7 h2 hX hL hk6 hn hR hWd nxt)
    by_cases v8 : v = 8
    · exact g15k hC (show ax_c315[21]? = some (15, 11, 0, 0) by decide +kernel) rfl v8 (i' := 218) rfl (law8 h2 hX hL hk6 hn hR hWd nxt)
    by_cases v9 : v = 9
    · exact g15k hC (show ax_c315[21]? = some (15, 11, 0, 0) by decide +kernel) rfl v9 (i' := 245) rfl (law9 h2 hX hL hk6 hn hR hWd nxt)
    by_cases v10 : v = 10
    · exact g15k hC (show ax_c315[21]? = some (15, 11, 0, 0) by decide +kernel) rfl v10 (i' := 272) rfl (law10 h2 hX hL hk6 hn hR hWd nxt)
    by_cases v11 : v = 11
    · exact g15k hC (show ax_c315[21]? = some (15, 11, 0, 0) by decide +kernel) rfl v11 (i' := 299) rfl (law11 h2 hX hL hk6 hn hR hWd nxt)
    by_cases v12 : v = 12
    · exact g15k hC (show ax_c315[21]? = some (15, 11, 0, 0) by decide +kernel) rfl v12 (i' := 316) rfl (law12 h2 hX hL hk6 hn hR hWd nxt)
    by_cases v13 : v = 13
    · exact g15k hC (show ax_c315[21]? = some (15, 11, 0, 0) by decide +kernel) rfl v13 (i' := 333) rfl (law13 h2 hX hL hk6 hn hR hWd nxt)
    by_cases v14 : v = 14
    · exact g15k hC (show ax_c315[21]? = some (15, 11, 0, 0) by decide +kernel) rfl v14 (i' := 360) rfl (law14 h2 hX hL hk6 hn hR hWd nxt)
    by_cases v15 : v = 15
    · exact g15k hC (show ax_c315[21]? = some (15, 11, 0, 0) by decide +kernel) rfl v15 (i' := 387) rfl (law15 h2 hX hL hk6 hn hR hWd nxt)
    by_cases v16 : v = 16
    · exact g15k hC (show ax_c315[21]? = some (15, 11, 0, 0) by decide +kernel) rfl v16 (i' := 394) rfl (law16 h2 hX hL hk6 hn hR hWd nxt)
    by_cases v17 : v = 17
    · exact g15k hC (show ax_c315[21]? = some (15, 11, 0, 0) by decide +kernel) rfl v17 (i' := 401) rfl (law17 h2 hX hL hk6 hn hR hWd nxt)
    by_cases v18 : v = 18
    · exact g15k hC (show ax_c315[21]? = some (15, 11, 0, 0) by decide +kernel) rfl v18 (i' := 418) rfl (law18 h2 hX hL hk6 hn hR hWd nxt)
    by_cases v19 : v = 19
    · exact g15k hC (show ax_c315[21]? = some (15, 11, 0, 0) by decide +kernel) rfl v19 (i' := 425) rfl (law19 h2 hX hL hk6 hn hR hWd nxt)
    by_cases v20 : v = 20
    · exact g15k hC (show ax_c315[21]? = some (15, 11, 0, 0) by decide +kernel) rfl v20 (i' := 432) rfl (law20 h2 hX hL hk6 hn hR hWd nxt)
    by_cases v21 : v = 21
    · exact g15k hC (show ax_c315[21]? = some (15, 11, 0, 0) by decide +kernel) rfl v21 (i' := 460) rfl (law21 h2 hX hL hk6 hn hR hWd nxt)
    by_cases v22 : v = 22
    · exact g15k hC (show ax_c315[21]? = some (15, 11, 0, 0) by decide +kernel) rfl v22 (i' := 468) rfl (law22 h2 hX hL hk6 hn hR hWd nxt)
    by_cases v23 : v = 23
    · exact g15k hC (show ax_c315[21]? = some (15, 11, 0, 0) by decide +kernel) rfl v23 (i' := 485) rfl (law23 h2 hX hL hk6 hn hR hWd nxt)
    by_cases v24 : v = 24
    · exact g15k hC (show ax_c315[21]? = some (15, 11, 0, 0) by decide +kernel) rfl v24 (i' := 502) rfl (law24 h2 hX hL hk6 hn hR hWd nxt)
    by_cases v25 : v = 25
    · exact g15k hC (show ax_c315[21]? = some (15, 11, 0, 0) by decide +kernel) rfl v25 (i' := 509) rfl (law25 h2 hX hL hk6 hn hR hWd nxt)
    by_cases v26 : v = 26
    · exact g15k hC (show ax_c315[21]? = some (15, 11, 0, 0) by decide +kernel) rfl v26 (i' := 526) rfl (law26 h2 hX hL hk6 hn hR hWd nxt)
    by_cases v27 : v = 27
    · exact g15k hC (show ax_c315[21]? = some (15, 11, 0, 0) by decide +kernel) rfl v27 (i' := 543) rfl (law27 h2 hX hL hk6 hn hR hWd nxt)
    by_cases v28 : v = 28
    · exact g15k hC (show ax_c315[21]? = some (15, 11, 0, 0) by decide +kernel) rfl v28 (i' := 570) rfl (law28 h2 hX hL hk6 hn hR hWd nxt)
    by_cases v29 : v = 29
    · exact g15k hC (show ax_c315[21]? = some (15, 11, 0, 0) by decide +kernel) rfl v29 (i' := 597) rfl (law29 h2 hX hL hk6 hn hR hWd nxt)
    by_cases v30 : v = 30
    · exact g15k hC (show ax_c315[21]? = some (15, 11, 0, 0) by decide +kernel) rfl v30 (i' := 614) rfl (law30 h2 hX hL hk6 hn hR hWd nxt)
    by_cases v31 : v = 31
    · exact g15k hC (show ax_c315[21]? = some (15, 11, 0, 0) by decide +kernel) rfl v31 (i' := 631) rfl (law31 h2 hX hL hk6 hn hR hWd nxt)
    by_cases v32 : v = 32
    · exact g15k hC (show ax_c315[21]? = some (15, 11, 0, 0) by decide +kernel) rfl v32 (i' := 638) rfl (law32 h2 hX hL hk6 hn hR hWd nxt)
    by_cases v33 : v = 33
    · exact g15k hC (show ax_c315[21]? = some (15, 11, 0, 0) by decide +kernel) rfl v33 (i' := 655) rfl (law33 h2 hX hL hk6 hn hR hWd nxt)
    by_cases v34 : v = 34
    · exact g15k hC (show ax_c315[21]? = some (15, 11, 0, 0) by decide +kernel) rfl v34 (i' := 663) rfl (law34 h2 hX hL hk6 hn hR hWd nxt)
    by_cases v35 : v = 35
    · exact g15k hC (show ax_c315[21]? = some (15, 11, 0, 0) by decide +kernel) rfl v35 (i' := 670) rfl (law35 h2 hX hL hk6 hn hR hWd nxt)
    by_cases v36 : v = 36
    · exact g15k hC (show ax_c315[21]? = some (15, 11, 0, 0) by decide +kernel) rfl v36 (i' := 687) rfl (law36 h2 hX hL hk6 hn hR hWd nxt)
    by_cases v37 : v = 37
    · exact g15k hC (show ax_c315[21]? = some (15, 11, 0, 0) by decide +kernel) rfl v37 (i' := 694) rfl (law37 h2 hX hL hk6 hn hR hWd nxt)
    have hv1 : 0 ≤ v := by rw [hv]; exact hv0.1
    exact g15d hC (show ax_c315[21]? = some (15, 11, 0, 0) by decide +kernel) rfl (fun w => by have w1 : v ≤ 37 := w.2; omega) (i' := 711) rfl (nxt M hR.law_up hWd)
theorem run27 {d j i f g : Nat} {w : Int} {ll st r : List ax_V} {sh sh1 : List ax_H} {M M1 : ax_M} {q : List ax_V × List ax_H × ax_M} (ho : ax_at j i = some (27, f, g, w)) (hc : g ≤ st.length ∧ ax_cat (st.drop g) ≤ 8 ∧ ax_may f sh (st.take g).reverse = true) (h1 : ∃ n, ax_run L X n d f 0 (ax_loc (st.take g).reverse (ax_ml f)) [] sh M = some (r, sh1, M1)) (h2 : ∃ n, ax_run L X n (d + 1) j (i + 1) ll (r ++ st.drop g) sh1 M1 = some q) : ∃ n, ax_run L X n (d + 1) j i ll st sh M = some q := by
  obtain ⟨n1, h1⟩ := h1
  obtain ⟨n2, h2⟩ := h2
  refine ⟨n1 + n2 + 1, ?_⟩
  rw [ax_run, ho]
  dsimp only
  rw [if_neg (by decide), if_pos rfl, if_pos hc, ax_mono _ _ _ _ _ _ _ _ _ h1 (n1 + n2) d (by omega) (Nat.le_refl _)]
  exact ax_mono _ _ _ _ _ _ _ _ _ h2 (n1 + n2) (d + 1) (by omega) (Nat.le_refl _)
theorem e0 : sseg 2 315 0 (ax_loc [(2, -2)] (ax_ml 315)) [] [] [] = some (2, [(2, -2), (3, 0), (3, 0), (3, 0)], [(2, 0), (2, 0)], [(0, 11, 18)], [rw0]) := eq5_ok (by decide +kernel)
theorem e3 : sseg 3 315 3 [(2, -2), (3, 0), (3, 0), (3, 0)] [(2, 0)] (SH.take 142) T99 = some (6, [(2, -2), (2, 0), (3, 0), (3, 0)], [(2, 142), (2, 142)], SH.take 143, T152_0) := eq5_ok (by decide +kernel)
theorem e7 : sseg 3 315 7 [(2, -2), (2, 0), (3, 0), (3, 0)] [(2, 142)] SH T0 = some (10, [(2, -2), (2, 0), (2, 142), (0, 0)], [], SH, T0) := eq5_ok (by decide +kernel)
theorem law_run2 (L : Nat) (X : Nat → Int) (h2 : HOP2 L X) (hL : L ≤ 3072) (hX : ∀ i, ax_i (X i)) : ∃ (n : Nat) (sh' : List ax_H) (M' : ax_M), ax_run L X n 60 315 0 (ax_loc [(2, -2)] (ax_ml 315)) [] [] (fun _ _ => 0) = some ([(0, 1)], sh', M') ∧ sh'.length ≤ 600000 ∧ ax_sl sh' ≤ 7302249 := by
  obtain ⟨n, r, M', hr, x, rfl, rfl⟩ := (law_loop h2 hX hL (L / 6) 0 (Nat.zero_add _) _ (ofT T0) ⟨rfl, rel0, wd0⟩).mono (show 41 ≤ 60 by decide)
  have f : ∃ n, ax_run L X n 60 315 10 [(2, -2), (2, 0), (2, 142), (0, 0)] [] SH (ofT T0) = some ([(0, 1)], SH, M') := ⟨n, hr⟩
  have l0 : ([] : TT).length = ([] : List ax_H).length := rfl
  have l3 : T99.length = (SH.take 142).length := by decide +kernel
  have l7 : T0.length = SH.length := by decide +kernel
  have f := (sseg_ok (L := L) (X := X) (d := 60) _ _ _ _ _ _ _ _ _ _ _ _ l7 e7).2 _ f
  have f : ∃ n, ax_run L X n 60 315 6 [(2, -2), (2, 0), (3, 0), (3, 0)] [(2, 142), (2, 142)] (SH.take 143) (ofT T152_0) = some ([(0, 1)], SH, M') := run27 (d := 59) (f := 152) (g := 1) (w := 12) (by decide +kernel) (by decide +kernel) e152 f
  have f := (sseg_ok (L := L) (X := X) (d := 60) _ _ _ _ _ _ _ _ _ _ _ _ l3 e3).2 _ f
  have f : ∃ n, ax_run L X n 60 315 2 [(2, -2), (3, 0), (3, 0), (3, 0)] [(2, 0), (2, 0)] [(0, 11, 18)] (ofT [rw0]) = some ([(0, 1)], SH, M') := run27 (d := 59) (f := 99) (g := 1) (w := 9) (by decide +kernel) (by decide +kernel) ⟨_, (sx_ok _ _ _ _ _ _ _ _ _ _ _ rfl s99).2⟩ f
  obtain ⟨n, f⟩ := (sseg_ok (L := L) (X := X) (d := 60) _ _ _ _ _ _ _ _ _ _ _ _ l0 e0).2 _ f
  exact ⟨n, SH, M', f, by decide +kernel, by decide +kernel⟩
end LRN
