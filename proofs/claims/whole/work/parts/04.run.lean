def ax_at (j i : Nat) : Option ax_O := (ax_code.getD j [])[i]?
def ax_inf (j : Nat) : ax_I := ax_T.getD j (0, ⟨"", "", ""⟩, ⟨#[]⟩, 0, none, 0, 0, 0)
def ax_ml (j : Nat) : Nat := (ax_inf j).2.2.2.1
def ax_kd (j : Nat) : Nat := (ax_inf j).2.2.2.2.2.2.1
def ax_own (j : Nat) : Nat := (ax_inf j).1
def ax_fty (c k : Nat) : Nat := (ax_fk.getD c []).getD k 0
/-- a constant text by its reference: -10, -12, ..; its bytes one lower -/
def ax_sx (a : Int) : Nat := ((-10 - a) / 2).toNat
def ax_isS (a : Int) : Bool := decide (a ≤ -10 ∧ a % 2 = 0 ∧ ax_sx a < 21)
def ax_isB (a : Int) : Bool := decide (a ≤ -11 ∧ a % 2 = 1 ∧ ax_sx (a + 1) < 21)
def ax_by (a : Int) : List Int := (ax_tx.getD (ax_sx (a + 1)) ("", [])).2
/-- an element, read -/
def ax_ald (L : Nat) (X : Nat → Int) (sh : List ax_H) (M : ax_M) (et : Nat) (a i : Int) : Option ax_V :=
  if 0 ≤ a then match sh[a.toNat]? with
    | some (1, t, n) => if (t = et ∨ (et = 4 ∧ t = 5)) ∧ 0 ≤ i ∧ i < n then some (ax_et et, M a.toNat i.toNat) else none
    | _ => none
  else if a = -2 then (if et = 0 ∧ 0 ≤ i ∧ i < L then some (0, X i.toNat) else none)
  else if a = -3 then (if et = 0 ∧ 0 ≤ i ∧ i < 9 then some (0, ax_mo.getD i.toNat 0) else none)
  else if ax_isB a = true then (if et = 3 ∧ 0 ≤ i ∧ i < (ax_by a).length then some (0, (ax_by a).getD i.toNat 0) else none)
  else none
def ax_aln (L : Nat) (sh : List ax_H) (a : Int) : Option Int :=
  if 0 ≤ a then match sh[a.toNat]? with
    | some (1, _, n) => some n
    | _ => none
  else if a = -2 then some L
  else if ax_isB a = true then some (ax_by a).length
  else none
def ax_get (sh : List ax_H) (M : ax_M) (c k : Nat) (a : Int) : Option ax_V :=
  if 0 ≤ a then match sh[a.toNat]? with
    | some (0, c', n) => if c' = c ∧ k < n then some (ax_ft (ax_fty c k), M a.toNat k) else none
    | _ => none
  else if c = 13 ∧ ax_isS a = true then (if k = 0 then some (2, a - 1) else if k = 1 then some (0, 0) else none)
  else none
def ax_fl (c : Nat) : Nat := (ax_fk.getD c []).length
/-- a new object's fields -/
def ax_df (c k : Nat) : Int := if ax_fty c k = 2 then -1 else 0
def ax_nw (M : ax_M) (o : Nat) (f : Nat → Int) : ax_M := fun b j => if b = o then f j else M b j
/-- rows behind an array of arrays -/
def ax_nr (M : ax_M) (o : Nat) : ax_M := fun b j => if b = o then ((o + 1 + j : Nat) : Int) else if o < b then 0 else M b j
def ax_cpy (M : ax_M) (a sp b dp n : Nat) : ax_M := fun c k => if c = b ∧ dp ≤ k ∧ k < dp + n then M a (sp + (k - dp)) else M c k
/-- one instruction that is neither a call nor a return -/
def ax_step (L : Nat) (X : Nat → Int) (o : ax_O) (i : Nat) (ll st : List ax_V) (sh : List ax_H) (M : ax_M) : Option ax_S :=
  match o.1, st with
  | 0, st => some (i + 1, ll, (0, o.2.2.2) :: st, sh, M)
  | 1, st => some (i + 1, ll, (1, o.2.2.2) :: st, sh, M)
  | 2, st => some (i + 1, ll, (2, o.2.2.2) :: st, sh, M)
  | 3, st => match ll[o.2.2.1]? with
    | some v => if v.1 = o.2.1 then some (i + 1, ll, v :: st, sh, M) else none
    | none => none
  | 4, v :: st => if v.1 = o.2.1 ∧ o.2.2.1 + (if v.1 = 1 then 1 else 0) < ll.length then some (i + 1, ax_set ll o.2.2.1 v, st, sh, M) else none
  | 5, st => match ll[o.2.1]? with
    | some (0, x) => if ax_i (x + o.2.2.2) then some (i + 1, ax_set ll o.2.1 (0, x + o.2.2.2), st, sh, M) else none
    | _ => none
  | 6, (0, y) :: (0, x) :: st => match ax_ib o.2.1 x y with
    | some z => some (i + 1, ll, (0, z) :: st, sh, M)
    | none => none
  | 7, (1, y) :: (1, x) :: st => match ax_lb o.2.1 x y with
    | some z => some (i + 1, ll, (1, z) :: st, sh, M)
    | none => none
  | 8, (0, x) :: st => if ax_i (-x) then some (i + 1, ll, (0, -x) :: st, sh, M) else none
  | 9, (0, x) :: st => some (i + 1, ll, (1, x) :: st, sh, M)
  | 10, (1, x) :: st => if ax_i x then some (i + 1, ll, (0, x) :: st, sh, M) else none
  | 11, (1, y) :: (1, x) :: st => some (i + 1, ll, (0, ax_cmp x y) :: st, sh, M)
  | 12, (0, x) :: st => some (if ax_cd o.2.1 x 0 = true then o.2.2.1 else i + 1, ll, st, sh, M)
  | 13, (0, y) :: (0, x) :: st => some (if ax_cd o.2.1 x y = true then o.2.2.1 else i + 1, ll, st, sh, M)
  | 14, st => some (o.2.2.1, ll, st, sh, M)
  | 15, (0, x) :: st => match ax_sw[o.2.1]? with
    | some w => some (if w.2.1 ≤ x ∧ x ≤ w.2.2.1 then w.2.2.2.1.getD (x - w.2.1).toNat 0 else w.2.2.2.2.1, ll, st, sh, M)
    | none => none
  | 16, v :: st => if v.1 = 0 ∨ v.1 = 2 then some (i + 1, ll, v :: v :: st, sh, M) else none
  | 17, v :: w :: st => if (v.1 = 0 ∨ v.1 = 2) ∧ (w.1 = 0 ∨ w.1 = 2) then some (i + 1, ll, v :: w :: v :: w :: st, sh, M) else none
  | 18, v :: st => if v.1 = 0 ∨ v.1 = 2 then some (i + 1, ll, st, sh, M) else none
  | 19, (2, a) :: st => match ax_get sh M o.2.1 o.2.2.1 a with
    | some v => some (i + 1, ll, v :: st, sh, M)
    | none => none
  | 20, v :: (2, a) :: st =>
    if 0 ≤ a ∧ sh[a.toNat]? = some (0, o.2.1, ax_fl o.2.1) ∧ o.2.2.1 < ax_fl o.2.1 ∧ ax_fs (ax_fty o.2.1 o.2.2.1) v = true then some (i + 1, ll, st, sh, ax_up M a.toNat o.2.2.1 v.2) else none
  | 21, (0, k) :: (2, a) :: st => match ax_ald L X sh M o.2.1 a k with
    | some v => some (i + 1, ll, v :: st, sh, M)
    | none => none
  | 22, v :: (0, k) :: (2, a) :: st => match sh[a.toNat]? with
    | some (1, t, n) => if 0 ≤ a ∧ t = o.2.1 ∧ ax_es t v = true ∧ 0 ≤ k ∧ k < n then some (i + 1, ll, st, sh, ax_up M a.toNat k.toNat v.2) else none
    | _ => none
  | 23, (2, a) :: st => match ax_aln L sh a with
    | some n => some (i + 1, ll, (0, n) :: st, sh, M)
    | none => none
  | 24, (0, n) :: st => if 0 ≤ n ∧ n ≤ 10000 then some (i + 1, ll, (2, sh.length) :: st, sh ++ [(1, o.2.1, n.toNat)], ax_nw M sh.length (fun _ => 0)) else none
  | 25, st => some (i + 1, ll, (2, sh.length) :: st, sh ++ [(0, o.2.1, ax_fl o.2.1)], ax_nw M sh.length (ax_df o.2.1))
  | 26, (0, k) :: (0, n) :: st =>
    if 0 ≤ n ∧ n ≤ 1000 ∧ 0 ≤ k ∧ k ≤ 1000 then some (i + 1, ll, (2, sh.length) :: st, sh ++ (1, 4 + o.2.1, n.toNat) :: List.replicate n.toNat (1, o.2.1, k.toNat), ax_nr M sh.length) else none
  | 29, (0, n) :: (0, dp) :: (2, b) :: (0, sp) :: (2, a) :: st => match sh[a.toNat]?, sh[b.toNat]? with
    | some (1, 0, la), some (1, 0, lb) => if 0 ≤ a ∧ 0 ≤ b ∧ 0 ≤ sp ∧ 0 ≤ dp ∧ 0 ≤ n ∧ sp + n ≤ la ∧ dp + n ≤ lb ∧ ax_cat st ≤ 8 then some (i + 1, ll, st, sh, ax_cpy M a.toNat sp.toNat b.toNat dp.toNat n.toNat) else none
    | _, _ => none
  | 30, (2, a) :: st => if 0 ≤ a ∧ ax_cat st ≤ 8 then some (i + 1, ll, st, sh, M) else none
  | 31, (0, x) :: st => some (i + 1, ll, (0, x % 65536) :: st, sh, M)
  | _, _ => none
/-- what a return leaves: 0 int 1 long 2 nothing 3 boolean 4 char 5 byte -/
def ax_ret (k : Nat) (st : List ax_V) : Option (List ax_V) := match k, st with
  | 0, [(0, x)] => some [(0, x)]
  | 1, [(1, x)] => some [(1, x)]
  | 2, [] => some []
  | 3, [(0, x)] => if 0 ≤ x ∧ x < 2 then some [(0, x)] else none
  | 4, [(0, x)] => if 0 ≤ x ∧ x < 65536 then some [(0, x)] else none
  | 5, [(0, x)] => if -128 ≤ x ∧ x < 128 then some [(0, x)] else none
  | _, _ => none
/-- may this method be called with these arguments? -/
def ax_may (j : Nat) (sh : List ax_H) (as : List ax_V) : Bool :=
  decide ((ax_ent as).length ≤ ax_ml j) && match ax_kd j, as with
    | 0, _ => true
    | 1, (2, a) :: _ => decide (0 ≤ a ∧ sh[a.toNat]? = some (0, ax_own j, ax_fl (ax_own j))) || (decide (ax_own j = 14) && ax_isS a)
    | 2, (2, a) :: _ => decide (0 ≤ a)
    | _, _ => false
def ax_run (L : Nat) (X : Nat → Int) : Nat → Nat → Nat → Nat → List ax_V → List ax_V → List ax_H → ax_M → Option (List ax_V × List ax_H × ax_M)
  | 0, _, _, _, _, _, _, _ => none
  | n + 1, d, j, i, ll, st, sh, M => match ax_at j i with
    | none => none
    | some o =>
      if o.1 = 28 then (match ax_ret o.2.1 st with
        | some r => some (r, sh, M)
        | none => none)
      else if o.1 = 27 then (match d with
        | 0 => none
        | d' + 1 =>
          if o.2.2.1 ≤ st.length ∧ ax_cat (st.drop o.2.2.1) ≤ 8 ∧ ax_may o.2.1 sh (st.take o.2.2.1).reverse = true then
            (match ax_run L X n d' o.2.1 0 (ax_loc (st.take o.2.2.1).reverse (ax_ml o.2.1)) [] sh M with
            | none => none
            | some (r, sh1, M1) => ax_run L X n d j (i + 1) ll (r ++ st.drop o.2.2.1) sh1 M1)
          else none)
      else match ax_step L X o i ll st sh M with
        | none => none
        | some (i', ll', st', sh', M') => ax_run L X n d j i' ll' st' sh' M'
