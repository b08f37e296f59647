def ax_at (j i : Nat) : Option ax_O := (ax_code.getD j [])[i]?
def ax_inf (j : Nat) : ax_I := ax_T.getD j (0, ⟨"", "", ""⟩, ⟨#[]⟩, 0, none, 0, 0, 0)
def ax_ml (j : Nat) : Nat := (ax_inf j).2.2.2.1
def ax_kd (j : Nat) : Nat := (ax_inf j).2.2.2.2.2.2.1
def ax_own (j : Nat) : Nat := (ax_inf j).1
def ax_fty (c k : Nat) : Nat := (ax_fk.getD c []).getD k 0
/-- a constant text by its reference: -10, -12, ..; its bytes one lower -/
def ax_sx (a : Int) : Nat := ((-10 - a) / 2).toNat
def ax_isS (a : Int) : Bool := decide (a ≤ -10 ∧ a % 2 = 0 ∧ ax_sx a < 21)
def ax_isB (a : Int) : Bool := decide (a ≤ -11 ∧ a % 2 = 1 ∧ ax_sx (a + 1) < 21)
def ax_by (a : Int) : List Int := (ax_tx.getD (ax_sx (a + 1)) ("", [])).2
/-- an element, read -/
def ax_ald (L : Nat) (X : Nat → Int) (sh : List ax_H) (M : ax_M) (et : Nat) (a i : Int) : Option ax_V :=
  if 0 ≤ a then match sh[a.toNat]? with
    | some (1, t, n) => if (t = et ∨ (et = 4 ∧ t = 5)) ∧ 0 ≤ i ∧ i < n then some (ax_et et, M a.toNat i.toNat) else none
    | _ => none
  else if a = -2 then (if et = 0 ∧ 0 ≤ i ∧ i < L ∧ L ≤ 3072 then some (0, X i.toNat) else none)
  else if a = -3 then (if et = 0 ∧ 0 ≤ i ∧ i < 9 then some (0, ax_mo.getD i.toNat 0) else none)
  else if ax_isB a = true then (if et = 3 ∧ 0 ≤ i ∧ i < (ax_by a).length then some (0, (ax_by a).getD i.toNat 0) else none)
  else none
def ax_aln (L : Nat) (sh : List ax_H) (a : Int) : Option Int :=
  if 0 ≤ a then match sh[a.toNat]? with
    | some (1, _, n) => some n
    | _ => none
  else if a = -2 then (if L ≤ 3072 then some (L : Int) else none)
  else if ax_isB a = true then some (ax_by a).length
  else none
def ax_get (sh : List ax_H) (M : ax_M) (c k : Nat) (a : Int) : Option ax_V :=
  if 0 ≤ a then match sh[a.toNat]? with
    | some (0, c', n) => if c' = c ∧ k < n then some (ax_ft (ax_fty c k), M a.toNat k) else none
    | _ => none
  else if c = 13 ∧ ax_isS a = true then (if k = 0 then some (2, a - 1) else if k = 1 then some (0, 0) else none)
  else none
def ax_fl (c : Nat) : Nat := (ax_fk.getD c []).length
/-- a new object's fields -/
def ax_df (c k : Nat) : Int := if ax_fty c k = 2 then -1 else 0
def ax_nw (M : ax_M) (o : Nat) (f : Nat → Int) : ax_M := fun b j => if b = o then f j else M b j
/-- rows behind an array of arrays -/
def ax_nr (M : ax_M) (o n : Nat) : ax_M := fun b j => if b = o then (if j < n then ((o + 1 + j : Nat) : Int) else -1) else if o < b then 0 else M b j
def ax_cpy (M : ax_M) (a sp b dp n : Nat) : ax_M := fun c k => if c = b ∧ dp ≤ k ∧ k < dp + n then M a (sp + (k - dp)) else M c k
/-! one instruction that is neither a call nor a return, kind by kind -/
def ax_x3 (t k i : Nat) (ll st : List ax_V) (sh : List ax_H) (M : ax_M) : Option ax_S := match ll[k]? with
  | some v => if v.1 = t then some (i + 1, ll, v :: st, sh, M) else none
  | none => none
def ax_x4 (t k i : Nat) (ll st : List ax_V) (sh : List ax_H) (M : ax_M) : Option ax_S := match st with
  | v :: st0 => if v.1 = t ∧ k + (if v.1 = 1 then 1 else 0) < ll.length then some (i + 1, ax_set ll k v, st0, sh, M) else none
  | [] => none
def ax_x5 (k : Nat) (c : Int) (i : Nat) (ll st : List ax_V) (sh : List ax_H) (M : ax_M) : Option ax_S := match ll[k]? with
  | some (0, x) => if ax_i (x + c) then some (i + 1, ax_set ll k (0, x + c), st, sh, M) else none
  | _ => none
def ax_x6 (f i : Nat) (ll st : List ax_V) (sh : List ax_H) (M : ax_M) : Option ax_S := match st with
  | (0, y) :: (0, x) :: st0 => (match ax_ib f x y with
    | some z => some (i + 1, ll, (0, z) :: st0, sh, M)
    | none => none)
  | _ => none
def ax_x7 (f i : Nat) (ll st : List ax_V) (sh : List ax_H) (M : ax_M) : Option ax_S := match st with
  | (1, y) :: (1, x) :: st0 => (match ax_lb f x y with
    | some z => some (i + 1, ll, (1, z) :: st0, sh, M)
    | none => none)
  | _ => none
def ax_x8 (i : Nat) (ll st : List ax_V) (sh : List ax_H) (M : ax_M) : Option ax_S := match st with
  | (0, x) :: st0 => if ax_i (-x) then some (i + 1, ll, (0, -x) :: st0, sh, M) else none
  | _ => none
def ax_x9 (i : Nat) (ll st : List ax_V) (sh : List ax_H) (M : ax_M) : Option ax_S := match st with
  | (0, x) :: st0 => some (i + 1, ll, (1, x) :: st0, sh, M)
  | _ => none
def ax_x10 (i : Nat) (ll st : List ax_V) (sh : List ax_H) (M : ax_M) : Option ax_S := match st with
  | (1, x) :: st0 => if ax_i x then some (i + 1, ll, (0, x) :: st0, sh, M) else none
  | _ => none
def ax_x11 (i : Nat) (ll st : List ax_V) (sh : List ax_H) (M : ax_M) : Option ax_S := match st with
  | (1, y) :: (1, x) :: st0 => some (i + 1, ll, (0, ax_cmp x y) :: st0, sh, M)
  | _ => none
def ax_x12 (c tg i : Nat) (ll st : List ax_V) (sh : List ax_H) (M : ax_M) : Option ax_S := match st with
  | (0, x) :: st0 => some (if ax_cd c x 0 = true then tg else i + 1, ll, st0, sh, M)
  | _ => none
def ax_x13 (c tg i : Nat) (ll st : List ax_V) (sh : List ax_H) (M : ax_M) : Option ax_S := match st with
  | (0, y) :: (0, x) :: st0 => some (if ax_cd c x y = true then tg else i + 1, ll, st0, sh, M)
  | _ => none
def ax_x15 (w : Nat) (ll st : List ax_V) (sh : List ax_H) (M : ax_M) : Option ax_S := match st with
  | (0, x) :: st0 => (match ax_sw[w]? with
    | some w => some (if w.2.1 ≤ x ∧ x ≤ w.2.2.1 then w.2.2.2.1.getD (x - w.2.1).toNat 0 else w.2.2.2.2.1, ll, st0, sh, M)
    | none => none)
  | _ => none
def ax_x16 (i : Nat) (ll st : List ax_V) (sh : List ax_H) (M : ax_M) : Option ax_S := match st with
  | v :: st0 => if v.1 = 0 ∨ v.1 = 2 then some (i + 1, ll, v :: v :: st0, sh, M) else none
  | [] => none
def ax_x17 (i : Nat) (ll st : List ax_V) (sh : List ax_H) (M : ax_M) : Option ax_S := match st with
  | v :: w :: st0 => if (v.1 = 0 ∨ v.1 = 2) ∧ (w.1 = 0 ∨ w.1 = 2) then some (i + 1, ll, v :: w :: v :: w :: st0, sh, M) else none
  | _ => none
def ax_x18 (i : Nat) (ll st : List ax_V) (sh : List ax_H) (M : ax_M) : Option ax_S := match st with
  | v :: st0 => if v.1 = 0 ∨ v.1 = 2 then some (i + 1, ll, st0, sh, M) else none
  | [] => none
def ax_x19 (c k i : Nat) (ll st : List ax_V) (sh : List ax_H) (M : ax_M) : Option ax_S := match st with
  | (2, a) :: st0 => (match ax_get sh M c k a with
    | some v => some (i + 1, ll, v :: st0, sh, M)
    | none => none)
  | _ => none
def ax_x20 (c k i : Nat) (ll st : List ax_V) (sh : List ax_H) (M : ax_M) : Option ax_S := match st with
  | v :: (2, a) :: st0 => if 0 ≤ a ∧ sh[a.toNat]? = some (0, c, ax_fl c) ∧ k < ax_fl c ∧ ax_fs (ax_fty c k) v = true then some (i + 1, ll, st0, sh, ax_up M a.toNat k v.2) else none
  | _ => none
def ax_x21 (L : Nat) (X : Nat → Int) (t i : Nat) (ll st : List ax_V) (sh : List ax_H) (M : ax_M) : Option ax_S := match st with
  | (0, k) :: (2, a) :: st0 => (match ax_ald L X sh M t a k with
    | some v => some (i + 1, ll, v :: st0, sh, M)
    | none => none)
  | _ => none
def ax_x22 (t i : Nat) (ll st : List ax_V) (sh : List ax_H) (M : ax_M) : Option ax_S := match st with
  | v :: (0, k) :: (2, a) :: st0 => (match sh[a.toNat]? with
    | some (1, u, n) => if 0 ≤ a ∧ u = t ∧ ax_es t v = true ∧ 0 ≤ k ∧ k < n then some (i + 1, ll, st0, sh, ax_up M a.toNat k.toNat v.2) else none
    | _ => none)
  | _ => none
def ax_x23 (L i : Nat) (ll st : List ax_V) (sh : List ax_H) (M : ax_M) : Option ax_S := match st with
  | (2, a) :: st0 => (match ax_aln L sh a with
    | some n => some (i + 1, ll, (0, n) :: st0, sh, M)
    | none => none)
  | _ => none
def ax_x24 (t i : Nat) (ll st : List ax_V) (sh : List ax_H) (M : ax_M) : Option ax_S := match st with
  | (0, n) :: st0 => if 0 ≤ n ∧ n ≤ 10000 then some (i + 1, ll, (2, sh.length) :: st0, sh ++ [(1, t, n.toNat)], ax_nw M sh.length (fun _ => 0)) else none
  | _ => none
def ax_x26 (t i : Nat) (ll st : List ax_V) (sh : List ax_H) (M : ax_M) : Option ax_S := match st with
  | (0, k) :: (0, n) :: st0 => if 0 ≤ n ∧ n ≤ 1000 ∧ 0 ≤ k ∧ k ≤ 1000 then some (i + 1, ll, (2, sh.length) :: st0, sh ++ (1, 4 + t, n.toNat) :: List.replicate n.toNat (1, t, k.toNat), ax_nr M sh.length n.toNat) else none
  | _ => none
def ax_x29 (i : Nat) (ll st : List ax_V) (sh : List ax_H) (M : ax_M) : Option ax_S := match st with
  | (0, n) :: (0, dp) :: (2, b) :: (0, sp) :: (2, a) :: st0 => (match sh[a.toNat]?, sh[b.toNat]? with
    | some (1, 0, la), some (1, 0, lb) => if 0 ≤ a ∧ 0 ≤ b ∧ 0 ≤ sp ∧ 0 ≤ dp ∧ 0 ≤ n ∧ sp + n ≤ la ∧ dp + n ≤ lb ∧ ax_cat st0 ≤ 8 then some (i + 1, ll, st0, sh, ax_cpy M a.toNat sp.toNat b.toNat dp.toNat n.toNat) else none
    | _, _ => none)
  | _ => none
def ax_x30 (i : Nat) (ll st : List ax_V) (sh : List ax_H) (M : ax_M) : Option ax_S := match st with
  | (2, a) :: st0 => if 0 ≤ a ∧ ax_cat st0 ≤ 8 then some (i + 1, ll, st0, sh, M) else none
  | _ => none
def ax_x31 (i : Nat) (ll st : List ax_V) (sh : List ax_H) (M : ax_M) : Option ax_S := match st with
  | (0, x) :: st0 => some (i + 1, ll, (0, x % 65536) :: st0, sh, M)
  | _ => none
def ax_step (L : Nat) (X : Nat → Int) (o : ax_O) (i : Nat) (ll st : List ax_V) (sh : List ax_H) (M : ax_M) : Option ax_S :=
  match o.1 with
  | 0 => some (i + 1, ll, (0, o.2.2.2) :: st, sh, M)
  | 1 => some (i + 1, ll, (1, o.2.2.2) :: st, sh, M)
  | 2 => some (i + 1, ll, (2, o.2.2.2) :: st, sh, M)
  | 3 => ax_x3 o.2.1 o.2.2.1 i ll st sh M
  | 4 => ax_x4 o.2.1 o.2.2.1 i ll st sh M
  | 5 => ax_x5 o.2.1 o.2.2.2 i ll st sh M
  | 6 => ax_x6 o.2.1 i ll st sh M
  | 7 => ax_x7 o.2.1 i ll st sh M
  | 8 => ax_x8 i ll st sh M
  | 9 => ax_x9 i ll st sh M
  | 10 => ax_x10 i ll st sh M
  | 11 => ax_x11 i ll st sh M
  | 12 => ax_x12 o.2.1 o.2.2.1 i ll st sh M
  | 13 => ax_x13 o.2.1 o.2.2.1 i ll st sh M
  | 14 => some (o.2.2.1, ll, st, sh, M)
  | 15 => ax_x15 o.2.1 ll st sh M
  | 16 => ax_x16 i ll st sh M
  | 17 => ax_x17 i ll st sh M
  | 18 => ax_x18 i ll st sh M
  | 19 => ax_x19 o.2.1 o.2.2.1 i ll st sh M
  | 20 => ax_x20 o.2.1 o.2.2.1 i ll st sh M
  | 21 => ax_x21 L X o.2.1 i ll st sh M
  | 22 => ax_x22 o.2.1 i ll st sh M
  | 23 => ax_x23 L i ll st sh M
  | 24 => ax_x24 o.2.1 i ll st sh M
  | 25 => some (i + 1, ll, (2, sh.length) :: st, sh ++ [(0, o.2.1, ax_fl o.2.1)], ax_nw M sh.length (ax_df o.2.1))
  | 26 => ax_x26 o.2.1 i ll st sh M
  | 29 => ax_x29 i ll st sh M
  | 30 => ax_x30 i ll st sh M
  | 31 => ax_x31 i ll st sh M
  | _ => none
/-- what a return leaves: 0 int 1 long 2 nothing 3 boolean 4 char 5 byte -/
def ax_ret (k : Nat) (st : List ax_V) : Option (List ax_V) := match k, st with
  | 0, [(0, x)] => some [(0, x)]
  | 1, [(1, x)] => some [(1, x)]
  | 2, [] => some []
  | 3, [(0, x)] => if 0 ≤ x ∧ x < 2 then some [(0, x)] else none
  | 4, [(0, x)] => if 0 ≤ x ∧ x < 65536 then some [(0, x)] else none
  | 5, [(0, x)] => if -128 ≤ x ∧ x < 128 then some [(0, x)] else none
  | _, _ => none
/-- may this method be called with these arguments? -/
def ax_may (j : Nat) (sh : List ax_H) (as : List ax_V) : Bool :=
  decide ((ax_ent as).length ≤ ax_ml j) && match ax_kd j, as with
    | 0, _ => true
    | 1, (2, a) :: _ => decide (0 ≤ a ∧ sh[a.toNat]? = some (0, ax_own j, ax_fl (ax_own j))) || (decide (ax_own j = 14) && ax_isS a)
    | 2, (2, a) :: _ => decide (0 ≤ a)
    | _, _ => false
def ax_run (L : Nat) (X : Nat → Int) : Nat → Nat → Nat → Nat → List ax_V → List ax_V → List ax_H → ax_M → Option (List ax_V × List ax_H × ax_M)
  | 0, _, _, _, _, _, _, _ => none
  | n + 1, d, j, i, ll, st, sh, M => match ax_at j i with
    | none => none
    | some o =>
      if o.1 = 28 then (match ax_ret o.2.1 st with
        | some r => some (r, sh, M)
        | none => none)
      else if o.1 = 27 then (match d with
        | 0 => none
        | d' + 1 =>
          if o.2.2.1 ≤ st.length ∧ ax_cat (st.drop o.2.2.1) ≤ 8 ∧ ax_may o.2.1 sh (st.take o.2.2.1).reverse = true then
            (match ax_run L X n d' o.2.1 0 (ax_loc (st.take o.2.2.1).reverse (ax_ml o.2.1)) [] sh M with
            | none => none
            | some (r, sh1, M1) => ax_run L X n d j (i + 1) ll (r ++ st.drop o.2.2.1) sh1 M1)
          else none)
      else match ax_step L X o i ll st sh M with
        | none => none
        | some (i', ll', st', sh', M') => ax_run L X n d j i' ll' st' sh' M'
