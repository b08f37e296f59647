/-! The small machine: values with a tag (0 int, 1 long, 2 reference, 3 nothing), a store of whole numbers, resolved instructions. -/
abbrev ax_V : Type := Nat × Int
abbrev ax_O : Type := Nat × Nat × Nat × Int
abbrev ax_H : Type := Nat × Nat × Nat
abbrev ax_M : Type := Nat → Nat → Int
abbrev ax_S : Type := Nat × List ax_V × List ax_V × List ax_H × ax_M
abbrev ax_i (x : Int) : Prop := -2147483648 ≤ x ∧ x < 2147483648
abbrev ax_l (x : Int) : Prop := -9223372036854775808 ≤ x ∧ x < 9223372036854775808
def ax_up (M : ax_M) (a k : Nat) (x : Int) : ax_M := fun b j => if b = a ∧ j = k then x else M b j
/-- a local gets a value: a long takes the next place too, a long just ahead is lost -/
def ax_set (ll : List ax_V) (i : Nat) (v : ax_V) : List ax_V :=
  let l1 := ll.set i v
  let l2 := if v.1 = 1 then l1.set (i + 1) (3, 0) else l1
  match i with
  | 0 => l2
  | k + 1 => match ll[k]? with
    | some (1, _) => l2.set k (3, 0)
    | _ => l2
/-- whole numbers of 32 bits: 0 + 1 - 2 * 3 / 4 % 5 and 6 or 7 xor 8 shl 9 shr 10 ushr -/
def ax_ib (f : Nat) (x y : Int) : Option Int := match f with
  | 0 => if ax_i (x + y) then some (x + y) else none
  | 1 => if ax_i (x - y) then some (x - y) else none
  | 2 => if ax_i (x * y) then some (x * y) else none
  | 3 => if y ≠ 0 ∧ ax_i (x.tdiv y) then some (x.tdiv y) else none
  | 4 => if y ≠ 0 ∧ ax_i (x.tdiv y) then some (x.tmod y) else none
  | 5 => some (Int32.ofInt x &&& Int32.ofInt y).toInt
  | 6 => some (Int32.ofInt x ||| Int32.ofInt y).toInt
  | 7 => some (Int32.ofInt x ^^^ Int32.ofInt y).toInt
  | 8 => some (Int32.ofInt x <<< (Int32.ofInt y &&& 31)).toInt
  | 9 => some (Int32.ofInt x >>> (Int32.ofInt y &&& 31)).toInt
  | 10 => some ((Int32.ofInt x).toUInt32 >>> ((Int32.ofInt y).toUInt32 &&& Int32.toUInt32 31)).toInt32.toInt
  | _ => none
def ax_lb (f : Nat) (x y : Int) : Option Int := match f with
  | 0 => if ax_l (x + y) then some (x + y) else none
  | 1 => if ax_l (x - y) then some (x - y) else none
  | 2 => if ax_l (x * y) then some (x * y) else none
  | 3 => if y ≠ 0 ∧ ax_l (x.tdiv y) then some (x.tdiv y) else none
  | 4 => if y ≠ 0 ∧ ax_l (x.tdiv y) then some (x.tmod y) else none
  | 5 => some (Int64.ofInt x &&& Int64.ofInt y).toInt
  | _ => none
/-- 0 = 1 ≠ 2 < 3 ≥ 4 > 5 ≤ -/
def ax_cd (c : Nat) (x y : Int) : Bool := match c with
  | 0 => decide (x = y)
  | 1 => decide (¬ x = y)
  | 2 => decide (x < y)
  | 3 => decide (y ≤ x)
  | 4 => decide (y < x)
  | _ => decide (x ≤ y)
def ax_cmp (x y : Int) : Int := if y < x then 1 else if x = y then 0 else -1
/-- the tag of an element: 0 int 1 long 2 char 3 boolean 4 int[] 5 long[] -/
def ax_et (t : Nat) : Nat := match t with
  | 1 => 1
  | 4 => 2
  | 5 => 2
  | _ => 0
/-- the tag of a field: 0 int 1 long 2 reference 3 boolean -/
def ax_ft (t : Nat) : Nat := match t with
  | 1 => 1
  | 2 => 2
  | _ => 0
/-- what may be stored as an element -/
def ax_es (t : Nat) (v : ax_V) : Bool := match t with
  | 0 => decide (v.1 = 0)
  | 1 => decide (v.1 = 1)
  | 2 => decide (v.1 = 0 ∧ 0 ≤ v.2 ∧ v.2 < 65536)
  | 3 => decide (v.1 = 0 ∧ 0 ≤ v.2 ∧ v.2 < 2)
  | _ => false
def ax_fs (t : Nat) (v : ax_V) : Bool := match t with
  | 0 => decide (v.1 = 0)
  | 1 => decide (v.1 = 1)
  | 2 => decide (v.1 = 2)
  | 3 => decide (v.1 = 0 ∧ 0 ≤ v.2 ∧ v.2 < 2)
  | _ => false
def ax_cat (vs : List ax_V) : Nat := (vs.map (fun v => if v.1 = 1 then 2 else 1)).sum
/-- a method's locals at its entry -/
def ax_ent : List ax_V → List ax_V
  | [] => []
  | v :: vs => if v.1 = 1 then v :: (3, 0) :: ax_ent vs else v :: ax_ent vs
def ax_loc (vs : List ax_V) (n : Nat) : List ax_V := ax_ent vs ++ List.replicate (n - (ax_ent vs).length) (3, 0)
