/-! reasoning about runs of the small machine, the cells being made -/
theorem ax_mono {L : Nat} {X : Nat → Int} : ∀ (n d j i : Nat) (ll st : List ax_V) (sh : List ax_H) (M : ax_M) (q : List ax_V × List ax_H × ax_M), ax_run L X n d j i ll st sh M = some q → ∀ n' d' : Nat, n ≤ n' → d ≤ d' → ax_run L X n' d' j i ll st sh M = some q := by
  intro n
  induction n with
  | zero => intro d j i ll st sh M q h; cases h
  | succ n ih =>
    intro d j i ll st sh M q h n' d' hn hd
    obtain ⟨n1, rfl⟩ : ∃ n1, n' = n1 + 1 := ⟨n' - 1, by omega⟩
    unfold ax_run at h ⊢
    cases ho : ax_at j i with
    | none => rw [ho] at h; cases h
    | some o =>
      rw [ho] at h
      dsimp only at h ⊢
      by_cases h28 : o.1 = 28
      · rw [if_pos h28] at h ⊢
        exact h
      · rw [if_neg h28] at h ⊢
        by_cases h27 : o.1 = 27
        · rw [if_pos h27] at h ⊢
          cases d with
          | zero => cases h
          | succ d =>
            obtain ⟨d1, rfl⟩ : ∃ d1, d' = d1 + 1 := ⟨d' - 1, by omega⟩
            dsimp only at h ⊢
            split at h
            · rename_i hc
              rw [if_pos hc]
              cases h1 : ax_run L X n d o.2.1 0 (ax_loc (st.take o.2.2.1).reverse (ax_ml o.2.1)) [] sh M with
              | none => rw [h1] at h; cases h
              | some q1 =>
                rw [h1] at h
                rw [ih d o.2.1 0 _ [] sh M q1 h1 n1 d1 (by omega) (by omega)]
                exact ih _ _ _ _ _ _ _ _ h n1 (d1 + 1) (by omega) (by omega)
            · cases h
        · rw [if_neg h27] at h ⊢
          cases h1 : ax_step L X o i ll st sh M with
          | none => rw [h1] at h; cases h
          | some S =>
            obtain ⟨i', ll', st', sh1, M1⟩ := S
            rw [h1] at h
            exact ih _ _ _ _ _ _ _ _ h n1 d' (by omega) hd
/-- from here on the method ends, with P -/
def ax_G (L : Nat) (X : Nat → Int) (S : List ax_H) (d j i : Nat) (ll st : List ax_V) (M : ax_M) (P : List ax_V → ax_M → Prop) : Prop := ∃ (n : Nat) (r : List ax_V) (M' : ax_M), ax_run L X n d j i ll st S M = some (r, S, M') ∧ P r M'
/-- a whole call -/
def ax_Ev (L : Nat) (X : Nat → Int) (S : List ax_H) (d j : Nat) (as : List ax_V) (M : ax_M) (P : List ax_V → ax_M → Prop) : Prop := ax_G L X S d j 0 (ax_loc as (ax_ml j)) [] M P
section AXG
variable {L : Nat} {X : Nat → Int} {S : List ax_H} {d j i : Nat} {ll st : List ax_V} {M : ax_M} {P : List ax_V → ax_M → Prop} {C : List ax_O}
theorem ax_G.mono {d' : Nat} (h : ax_G L X S d j i ll st M P) (hd : d ≤ d') : ax_G L X S d' j i ll st M P := by
  obtain ⟨n, r, M', h1, h2⟩ := h
  exact ⟨n, r, M', ax_mono n d j i ll st S M _ h1 n d' (Nat.le_refl _) hd, h2⟩
theorem ax_G.imp {P' : List ax_V → ax_M → Prop} (h : ax_G L X S d j i ll st M P) (hp : ∀ r M', P r M' → P' r M') : ax_G L X S d j i ll st M P' := by
  obtain ⟨n, r, M', h1, h2⟩ := h
  exact ⟨n, r, M', h1, hp r M' h2⟩
theorem ax_gs {o : ax_O} {i' : Nat} {ll' st' : List ax_V} {M1 : ax_M} (ho : ax_at j i = some o) (h28 : o.1 ≠ 28) (h27 : o.1 ≠ 27) (h : ax_step L X o i ll st S M = some (i', ll', st', S, M1)) (k : ax_G L X S d j i' ll' st' M1 P) : ax_G L X S d j i ll st M P := by
  obtain ⟨n, r, M', h1, h2⟩ := k
  refine ⟨n + 1, r, M', ?_, h2⟩
  unfold ax_run
  rw [ho]
  dsimp only
  rw [if_neg h28, if_neg h27, h]
  exact h1
theorem g0 {a b : Nat} {v : Int} (hC : ∀ i, ax_at j i = C[i]?) (h : C[i]? = some (0, a, b, v)) (k : ax_G L X S d j (i + 1) ll ((0, v) :: st) M P) : ax_G L X S d j i ll st M P := ax_gs ((hC i).trans h) (fun q => (by cases q)) (fun q => (by cases q)) rfl k
theorem g1 {a b : Nat} {v : Int} (hC : ∀ i, ax_at j i = C[i]?) (h : C[i]? = some (1, a, b, v)) (k : ax_G L X S d j (i + 1) ll ((1, v) :: st) M P) : ax_G L X S d j i ll st M P := ax_gs ((hC i).trans h) (fun q => (by cases q)) (fun q => (by cases q)) rfl k
theorem g2 {a b : Nat} {v : Int} (hC : ∀ i, ax_at j i = C[i]?) (h : C[i]? = some (2, a, b, v)) (k : ax_G L X S d j (i + 1) ll ((2, v) :: st) M P) : ax_G L X S d j i ll st M P := ax_gs ((hC i).trans h) (fun q => (by cases q)) (fun q => (by cases q)) rfl k
theorem g3 {t g : Nat} {w x : Int} (hC : ∀ i, ax_at j i = C[i]?) (h : C[i]? = some (3, t, g, w)) (hv : ll[g]? = some (t, x)) (k : ax_G L X S d j (i + 1) ll ((t, x) :: st) M P) : ax_G L X S d j i ll st M P := by
  refine ax_gs ((hC i).trans h) (fun q => (by cases q)) (fun q => (by cases q)) ?_ k
  show ax_x3 t g i ll st S M = _
  unfold ax_x3
  rw [hv]
  dsimp only
  rw [if_pos rfl]
/-- a store of one place, no long just ahead -/
theorem g4 {t g : Nat} {w x : Int} {ll' : List ax_V} (hC : ∀ i, ax_at j i = C[i]?) (h : C[i]? = some (4, t, g, w)) (hl : g + (if t = 1 then 1 else 0) < ll.length) (hs : ax_set ll g (t, x) = ll') (k : ax_G L X S d j (i + 1) ll' st M P) : ax_G L X S d j i ll ((t, x) :: st) M P := by
  refine ax_gs ((hC i).trans h) (fun q => (by cases q)) (fun q => (by cases q)) ?_ k
  show (if t = t ∧ g + (if t = 1 then 1 else 0) < ll.length then some (i + 1, ax_set ll g (t, x), st, S, M) else none) = _
  rw [if_pos ⟨rfl, hl⟩, hs]
theorem g5 {g b : Nat} {w x : Int} {ll' : List ax_V} (hC : ∀ i, ax_at j i = C[i]?) (h : C[i]? = some (5, g, b, w)) (hv : ll[g]? = some (0, x)) (hi : ax_i (x + w)) (hs : ax_set ll g (0, x + w) = ll') (k : ax_G L X S d j (i + 1) ll' st M P) : ax_G L X S d j i ll st M P := by
  refine ax_gs ((hC i).trans h) (fun q => (by cases q)) (fun q => (by cases q)) ?_ k
  show ax_x5 g w i ll st S M = _
  unfold ax_x5
  rw [hv]
  show (if ax_i (x + w) then some (i + 1, ax_set ll g (0, x + w), st, S, M) else none) = _
  rw [if_pos hi, hs]
theorem g6a {b : Nat} {w x y : Int} (hC : ∀ i, ax_at j i = C[i]?) (h : C[i]? = some (6, 0, b, w)) (hi : ax_i (x + y)) (k : ax_G L X S d j (i + 1) ll ((0, x + y) :: st) M P) : ax_G L X S d j i ll ((0, y) :: (0, x) :: st) M P := by
  refine ax_gs ((hC i).trans h) (fun q => (by cases q)) (fun q => (by cases q)) ?_ k
  show (match (if ax_i (x + y) then some (x + y) else none) with | some z => some (i + 1, ll, (0, z) :: st, S, M) | none => none) = _
  rw [if_pos hi]
theorem g6s {b : Nat} {w x y : Int} (hC : ∀ i, ax_at j i = C[i]?) (h : C[i]? = some (6, 1, b, w)) (hi : ax_i (x - y)) (k : ax_G L X S d j (i + 1) ll ((0, x - y) :: st) M P) : ax_G L X S d j i ll ((0, y) :: (0, x) :: st) M P := by
  refine ax_gs ((hC i).trans h) (fun q => (by cases q)) (fun q => (by cases q)) ?_ k
  show (match (if ax_i (x - y) then some (x - y) else none) with | some z => some (i + 1, ll, (0, z) :: st, S, M) | none => none) = _
  rw [if_pos hi]
theorem g6m {b : Nat} {w x y : Int} (hC : ∀ i, ax_at j i = C[i]?) (h : C[i]? = some (6, 2, b, w)) (hi : ax_i (x * y)) (k : ax_G L X S d j (i + 1) ll ((0, x * y) :: st) M P) : ax_G L X S d j i ll ((0, y) :: (0, x) :: st) M P := by
  refine ax_gs ((hC i).trans h) (fun q => (by cases q)) (fun q => (by cases q)) ?_ k
  show (match (if ax_i (x * y) then some (x * y) else none) with | some z => some (i + 1, ll, (0, z) :: st, S, M) | none => none) = _
  rw [if_pos hi]
/-- any other of the kind: what it gives is named -/
theorem g6 {f b : Nat} {w x y z : Int} (hC : ∀ i, ax_at j i = C[i]?) (h : C[i]? = some (6, f, b, w)) (hz : ax_ib f x y = some z) (k : ax_G L X S d j (i + 1) ll ((0, z) :: st) M P) : ax_G L X S d j i ll ((0, y) :: (0, x) :: st) M P := by
  refine ax_gs ((hC i).trans h) (fun q => (by cases q)) (fun q => (by cases q)) ?_ k
  show (match ax_ib f x y with | some z => some (i + 1, ll, (0, z) :: st, S, M) | none => none) = _
  rw [hz]
theorem g7 {f b : Nat} {w x y z : Int} (hC : ∀ i, ax_at j i = C[i]?) (h : C[i]? = some (7, f, b, w)) (hz : ax_lb f x y = some z) (k : ax_G L X S d j (i + 1) ll ((1, z) :: st) M P) : ax_G L X S d j i ll ((1, y) :: (1, x) :: st) M P := by
  refine ax_gs ((hC i).trans h) (fun q => (by cases q)) (fun q => (by cases q)) ?_ k
  show (match ax_lb f x y with | some z => some (i + 1, ll, (1, z) :: st, S, M) | none => none) = _
  rw [hz]
theorem g8 {f b : Nat} {w x : Int} (hC : ∀ i, ax_at j i = C[i]?) (h : C[i]? = some (8, f, b, w)) (hi : ax_i (-x)) (k : ax_G L X S d j (i + 1) ll ((0, -x) :: st) M P) : ax_G L X S d j i ll ((0, x) :: st) M P := by
  refine ax_gs ((hC i).trans h) (fun q => (by cases q)) (fun q => (by cases q)) ?_ k
  show (if ax_i (-x) then some (i + 1, ll, (0, -x) :: st, S, M) else none) = _
  rw [if_pos hi]
theorem g9 {f b : Nat} {w x : Int} (hC : ∀ i, ax_at j i = C[i]?) (h : C[i]? = some (9, f, b, w)) (k : ax_G L X S d j (i + 1) ll ((1, x) :: st) M P) : ax_G L X S d j i ll ((0, x) :: st) M P := ax_gs ((hC i).trans h) (fun q => (by cases q)) (fun q => (by cases q)) rfl k
theorem g10 {f b : Nat} {w x : Int} (hC : ∀ i, ax_at j i = C[i]?) (h : C[i]? = some (10, f, b, w)) (hi : ax_i x) (k : ax_G L X S d j (i + 1) ll ((0, x) :: st) M P) : ax_G L X S d j i ll ((1, x) :: st) M P := by
  refine ax_gs ((hC i).trans h) (fun q => (by cases q)) (fun q => (by cases q)) ?_ k
  show (if ax_i x then some (i + 1, ll, (0, x) :: st, S, M) else none) = _
  rw [if_pos hi]
theorem g11 {f b : Nat} {w x y : Int} (hC : ∀ i, ax_at j i = C[i]?) (h : C[i]? = some (11, f, b, w)) (k : ax_G L X S d j (i + 1) ll ((0, ax_cmp x y) :: st) M P) : ax_G L X S d j i ll ((1, y) :: (1, x) :: st) M P := ax_gs ((hC i).trans h) (fun q => (by cases q)) (fun q => (by cases q)) rfl k
/-- a branch: c is the condition in plain words -/
theorem g12 {f g : Nat} {w x : Int} (hC : ∀ i, ax_at j i = C[i]?) (h : C[i]? = some (12, f, g, w)) (kt : ax_cd f x 0 = true → ax_G L X S d j g ll st M P) (kf : ax_cd f x 0 = false → ax_G L X S d j (i + 1) ll st M P) : ax_G L X S d j i ll ((0, x) :: st) M P := by
  cases q : ax_cd f x 0 with
  | true => exact ax_gs ((hC i).trans h) (fun q => (by cases q)) (fun q => (by cases q)) (by show some (if ax_cd f x 0 = true then g else i + 1, ll, st, S, M) = _; rw [if_pos q]) (kt q)
  | false => exact ax_gs ((hC i).trans h) (fun q => (by cases q)) (fun q => (by cases q)) (by show some (if ax_cd f x 0 = true then g else i + 1, ll, st, S, M) = _; rw [if_neg (by rw [q]; decide)]) (kf q)
theorem g13 {f g : Nat} {w x y : Int} (hC : ∀ i, ax_at j i = C[i]?) (h : C[i]? = some (13, f, g, w)) (kt : ax_cd f x y = true → ax_G L X S d j g ll st M P) (kf : ax_cd f x y = false → ax_G L X S d j (i + 1) ll st M P) : ax_G L X S d j i ll ((0, y) :: (0, x) :: st) M P := by
  cases q : ax_cd f x y with
  | true => exact ax_gs ((hC i).trans h) (fun q => (by cases q)) (fun q => (by cases q)) (by show some (if ax_cd f x y = true then g else i + 1, ll, st, S, M) = _; rw [if_pos q]) (kt q)
  | false => exact ax_gs ((hC i).trans h) (fun q => (by cases q)) (fun q => (by cases q)) (by show some (if ax_cd f x y = true then g else i + 1, ll, st, S, M) = _; rw [if_neg (by rw [q]; decide)]) (kf q)
theorem g14 {f g : Nat} {w : Int} (hC : ∀ i, ax_at j i = C[i]?) (h : C[i]? = some (14, f, g, w)) (k : ax_G L X S d j g ll st M P) : ax_G L X S d j i ll st M P := ax_gs ((hC i).trans h) (fun q => (by cases q)) (fun q => (by cases q)) rfl k
theorem g15 {f g : Nat} {w x : Int} {i' : Nat} {q : Nat × Int × Int × List Nat × Nat × Nat} (hC : ∀ i, ax_at j i = C[i]?) (h : C[i]? = some (15, f, g, w)) (hq : ax_sw[f]? = some q) (hi : (if q.2.1 ≤ x ∧ x ≤ q.2.2.1 then q.2.2.2.1.getD (x - q.2.1).toNat 0 else q.2.2.2.2.1) = i') (k : ax_G L X S d j i' ll st M P) : ax_G L X S d j i ll ((0, x) :: st) M P := by
  refine ax_gs ((hC i).trans h) (fun q => (by cases q)) (fun q => (by cases q)) ?_ k
  show (match ax_sw[f]? with | some w => some (if w.2.1 ≤ x ∧ x ≤ w.2.2.1 then w.2.2.2.1.getD (x - w.2.1).toNat 0 else w.2.2.2.2.1, ll, st, S, M) | none => none) = _
  rw [hq]
  dsimp only
  rw [hi]
theorem g16 {f g : Nat} {w x : Int} {t : Nat} (hC : ∀ i, ax_at j i = C[i]?) (h : C[i]? = some (16, f, g, w)) (ht : t = 0 ∨ t = 2) (k : ax_G L X S d j (i + 1) ll ((t, x) :: (t, x) :: st) M P) : ax_G L X S d j i ll ((t, x) :: st) M P := by
  refine ax_gs ((hC i).trans h) (fun q => (by cases q)) (fun q => (by cases q)) ?_ k
  show (if t = 0 ∨ t = 2 then some (i + 1, ll, (t, x) :: (t, x) :: st, S, M) else none) = _
  rw [if_pos ht]
theorem g17 {f g : Nat} {w x y : Int} {t u : Nat} (hC : ∀ i, ax_at j i = C[i]?) (h : C[i]? = some (17, f, g, w)) (ht : (t = 0 ∨ t = 2) ∧ (u = 0 ∨ u = 2)) (k : ax_G L X S d j (i + 1) ll ((t, x) :: (u, y) :: (t, x) :: (u, y) :: st) M P) : ax_G L X S d j i ll ((t, x) :: (u, y) :: st) M P := by
  refine ax_gs ((hC i).trans h) (fun q => (by cases q)) (fun q => (by cases q)) ?_ k
  show (if (t = 0 ∨ t = 2) ∧ (u = 0 ∨ u = 2) then some (i + 1, ll, (t, x) :: (u, y) :: (t, x) :: (u, y) :: st, S, M) else none) = _
  rw [if_pos ht]
theorem g18 {f g : Nat} {w x : Int} {t : Nat} (hC : ∀ i, ax_at j i = C[i]?) (h : C[i]? = some (18, f, g, w)) (ht : t = 0 ∨ t = 2) (k : ax_G L X S d j (i + 1) ll st M P) : ax_G L X S d j i ll ((t, x) :: st) M P := by
  refine ax_gs ((hC i).trans h) (fun q => (by cases q)) (fun q => (by cases q)) ?_ k
  show (if t = 0 ∨ t = 2 then some (i + 1, ll, st, S, M) else none) = _
  rw [if_pos ht]
/-- a field read: its cell by a number -/
theorem g19 {f g a : Nat} {w y : Int} {t : Nat} (hC : ∀ i, ax_at j i = C[i]?) (h : C[i]? = some (19, f, g, w)) (ha : S[a]? = some (0, f, ax_fl f)) (hg : g < ax_fl f) (ht : ax_ft (ax_fty f g) = t) (hy : M a g = y) (k : ax_G L X S d j (i + 1) ll ((t, y) :: st) M P) : ax_G L X S d j i ll ((2, (a : Int)) :: st) M P := by
  refine ax_gs ((hC i).trans h) (fun q => (by cases q)) (fun q => (by cases q)) ?_ k
  have e : ax_get S M f g (a : Int) = some (t, y) := by
    unfold ax_get
    rw [if_pos (by omega), Int.toNat_natCast, ha]
    show (if f = f ∧ g < ax_fl f then some (ax_ft (ax_fty f g), M a g) else none) = _
    rw [if_pos ⟨rfl, hg⟩, ht, hy]
  show (match ax_get S M f g (a : Int) with | some v => some (i + 1, ll, v :: st, S, M) | none => none) = _
  rw [e]
theorem g20 {f g a : Nat} {w y : Int} {t : Nat} (hC : ∀ i, ax_at j i = C[i]?) (h : C[i]? = some (20, f, g, w)) (ha : S[a]? = some (0, f, ax_fl f)) (hg : g < ax_fl f) (hs : ax_fs (ax_fty f g) (t, y) = true) (k : ax_G L X S d j (i + 1) ll st (ax_up M a g y) P) : ax_G L X S d j i ll ((t, y) :: (2, (a : Int)) :: st) M P := by
  refine ax_gs ((hC i).trans h) (fun q => (by cases q)) (fun q => (by cases q)) ?_ k
  show (if 0 ≤ (a : Int) ∧ S[(a : Int).toNat]? = some (0, f, ax_fl f) ∧ g < ax_fl f ∧ ax_fs (ax_fty f g) (t, y) = true then some (i + 1, ll, st, S, ax_up M (a : Int).toNat g y) else none) = _
  rw [Int.toNat_natCast, if_pos ⟨by omega, ha, hg, hs⟩]
/-- an element read: its cell and its place by numbers -/
theorem g21 {f g a n q : Nat} {w y : Int} {t : Nat} (hC : ∀ i, ax_at j i = C[i]?) (h : C[i]? = some (21, f, g, w)) (ha : S[a]? = some (1, t, n)) (ht : t = f ∨ (f = 4 ∧ t = 5)) (hq : q < n) (hy : M a q = y) (k : ax_G L X S d j (i + 1) ll ((ax_et f, y) :: st) M P) : ax_G L X S d j i ll ((0, (q : Int)) :: (2, (a : Int)) :: st) M P := by
  refine ax_gs ((hC i).trans h) (fun q => (by cases q)) (fun q => (by cases q)) ?_ k
  have e : ax_ald L X S M f (a : Int) (q : Int) = some (ax_et f, y) := by
    unfold ax_ald
    rw [if_pos (by omega), Int.toNat_natCast, ha]
    show (if (t = f ∨ (f = 4 ∧ t = 5)) ∧ 0 ≤ (q : Int) ∧ (q : Int) < n then some (ax_et f, M a (q : Int).toNat) else none) = _
    rw [Int.toNat_natCast, if_pos ⟨ht, by omega, by omega⟩, hy]
  show (match ax_ald L X S M f (a : Int) (q : Int) with | some v => some (i + 1, ll, v :: st, S, M) | none => none) = _
  rw [e]
theorem g22 {f g a n q : Nat} {w y : Int} {t : Nat} (hC : ∀ i, ax_at j i = C[i]?) (h : C[i]? = some (22, f, g, w)) (ha : S[a]? = some (1, f, n)) (hq : q < n) (hs : ax_es f (t, y) = true) (k : ax_G L X S d j (i + 1) ll st (ax_up M a q y) P) : ax_G L X S d j i ll ((t, y) :: (0, (q : Int)) :: (2, (a : Int)) :: st) M P := by
  refine ax_gs ((hC i).trans h) (fun q => (by cases q)) (fun q => (by cases q)) ?_ k
  show (match S[(a : Int).toNat]? with | some (1, u, n) => if 0 ≤ (a : Int) ∧ u = f ∧ ax_es f (t, y) = true ∧ 0 ≤ (q : Int) ∧ (q : Int) < n then some (i + 1, ll, st, S, ax_up M (a : Int).toNat (q : Int).toNat y) else none | _ => none) = _
  rw [Int.toNat_natCast, Int.toNat_natCast, ha]
  show (if 0 ≤ (a : Int) ∧ f = f ∧ ax_es f (t, y) = true ∧ 0 ≤ (q : Int) ∧ (q : Int) < n then some (i + 1, ll, st, S, ax_up M a q y) else none) = _
  rw [if_pos ⟨by omega, rfl, hs, by omega, by omega⟩]
theorem g23 {f g a n : Nat} {w : Int} {t : Nat} (hC : ∀ i, ax_at j i = C[i]?) (h : C[i]? = some (23, f, g, w)) (ha : S[a]? = some (1, t, n)) (k : ax_G L X S d j (i + 1) ll ((0, (n : Int)) :: st) M P) : ax_G L X S d j i ll ((2, (a : Int)) :: st) M P := by
  refine ax_gs ((hC i).trans h) (fun q => (by cases q)) (fun q => (by cases q)) ?_ k
  have e : ax_aln L S (a : Int) = some (n : Int) := by
    unfold ax_aln
    rw [if_pos (by omega), Int.toNat_natCast, ha]
    rfl
  show (match ax_aln L S (a : Int) with | some n => some (i + 1, ll, (0, n) :: st, S, M) | none => none) = _
  rw [e]
theorem g29 {f g a b la lb sp dp n : Nat} {w : Int} (hC : ∀ i, ax_at j i = C[i]?) (h : C[i]? = some (29, f, g, w)) (ha : S[a]? = some (1, 0, la)) (hb : S[b]? = some (1, 0, lb)) (h1 : sp + n ≤ la) (h2 : dp + n ≤ lb) (hc : ax_cat st ≤ 8) (k : ax_G L X S d j (i + 1) ll st (ax_cpy M a sp b dp n) P) : ax_G L X S d j i ll ((0, (n : Int)) :: (0, (dp : Int)) :: (2, (b : Int)) :: (0, (sp : Int)) :: (2, (a : Int)) :: st) M P := by
  refine ax_gs ((hC i).trans h) (fun q => (by cases q)) (fun q => (by cases q)) ?_ k
  show (match S[(a : Int).toNat]?, S[(b : Int).toNat]? with | some (1, 0, la), some (1, 0, lb) => if 0 ≤ (a : Int) ∧ 0 ≤ (b : Int) ∧ 0 ≤ (sp : Int) ∧ 0 ≤ (dp : Int) ∧ 0 ≤ (n : Int) ∧ (sp : Int) + n ≤ la ∧ (dp : Int) + n ≤ lb ∧ ax_cat st ≤ 8 then some (i + 1, ll, st, S, ax_cpy M (a : Int).toNat (sp : Int).toNat (b : Int).toNat (dp : Int).toNat (n : Int).toNat) else none | _, _ => none) = _
  simp only [Int.toNat_natCast]
  rw [ha, hb]
  show (if 0 ≤ (a : Int) ∧ 0 ≤ (b : Int) ∧ 0 ≤ (sp : Int) ∧ 0 ≤ (dp : Int) ∧ 0 ≤ (n : Int) ∧ (sp : Int) + n ≤ la ∧ (dp : Int) + n ≤ lb ∧ ax_cat st ≤ 8 then some (i + 1, ll, st, S, ax_cpy M a sp b dp n) else none) = _
  rw [if_pos ⟨by omega, by omega, by omega, by omega, by omega, by omega, by omega, hc⟩]
theorem g31 {f g : Nat} {w x : Int} (hC : ∀ i, ax_at j i = C[i]?) (h : C[i]? = some (31, f, g, w)) (k : ax_G L X S d j (i + 1) ll ((0, x % 65536) :: st) M P) : ax_G L X S d j i ll ((0, x) :: st) M P := ax_gs ((hC i).trans h) (fun q => (by cases q)) (fun q => (by cases q)) rfl k
theorem g28 {f g : Nat} {w : Int} (hC : ∀ i, ax_at j i = C[i]?) (h : C[i]? = some (28, f, g, w)) (hr : ax_ret f st = some st) (hP : P st M) : ax_G L X S d j i ll st M P := by
  refine ⟨1, st, M, ?_, hP⟩
  unfold ax_run
  rw [(hC i).trans h]
  dsimp only
  rw [if_pos rfl, hr]
/-- a call -/
theorem g27 {f g d0 : Nat} {w : Int} {as rest : List ax_V} {P1 : List ax_V → ax_M → Prop} (hC : ∀ i, ax_at j i = C[i]?) (h : C[i]? = some (27, f, g, w)) (ha : st.take g = as) (hrest : st.drop g = rest) (hg : g ≤ st.length) (hc : ax_cat rest ≤ 8) (hm : ax_may f S as.reverse = true) (hE : ax_Ev L X S d0 f as.reverse M P1) (hd : d0 + 1 ≤ d) (k : ∀ r M1, P1 r M1 → ax_G L X S d j (i + 1) ll (r ++ rest) M1 P) : ax_G L X S d j i ll st M P := by
  obtain ⟨d', rfl⟩ : ∃ d', d = d' + 1 := ⟨d - 1, by omega⟩
  obtain ⟨n1, r1, M1, e1, p1⟩ := hE.mono (d' := d') (by omega)
  obtain ⟨n2, r2, M2, e2, p2⟩ := k r1 M1 p1
  refine ⟨max n1 n2 + 1, r2, M2, ?_, p2⟩
  unfold ax_run
  rw [(hC i).trans h]
  dsimp only
  rw [if_neg (by decide), if_pos rfl, ha, hrest, if_pos ⟨hg, hc, hm⟩, ax_mono n1 d' f 0 _ [] S M _ e1 (max n1 n2) d' (Nat.le_max_left _ _) (Nat.le_refl _)]
  exact ax_mono n2 (d' + 1) j (i + 1) ll _ S M1 _ e2 (max n1 n2) (d' + 1) (Nat.le_max_right _ _) (Nat.le_refl _)
end AXG
