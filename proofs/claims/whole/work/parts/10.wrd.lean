/-! the words of the tables that links and methods stand on -/
/-- those of them that hold in every later state too -/
def ax_tb : List Cond := lw_tbl.filter goodWord
def ax_cn (o : Nat) : String := ax_nm.getD o ""
def ax_cl (c : Nat) : vw_C := vwCl.getD c ("", TX0, 0)
def ax_wd (o : Nat) (t : Nat × Nat × Nat × Int) : Cond :=
  match t.1 with
  | 0 => .constant (ax_cn o) t.2.1 (Int32.ofInt t.2.2.2)
  | 1 => .constantLong (ax_cn o) t.2.1 (Int64.ofInt t.2.2.2)
  | 2 => .stringRef (ax_cn o) t.2.1 (ax_tx.getD (ax_sx t.2.2.2) ("", [])).1
  | 3 => if t.2.2.2 = 1 then .fieldLink (ax_cn o) t.2.1 "java/lang/String" "COMPACT_STRINGS" "Z" else if t.2.2.2 = -3 then .fieldLink (ax_cn o) t.2.1 "FireDrill$HouseReader" "MOST_OF" "[I" else .fieldLink (ax_cn o) t.2.1 "jdk/internal/util/Preconditions" "SIOOBE_FORMATTER" "Ljava/util/function/BiFunction;"
  | 4 => .fieldLink (ax_cn o) t.2.1 ((ax_cl t.2.2.1).2.1 t.2.2.2.toNat).1 ((ax_cl t.2.2.1).2.1 t.2.2.2.toNat).2.1 ((ax_cl t.2.2.1).2.1 t.2.2.2.toNat).2.2.1
  | 5 => if t.2.2.2 = 0 then .fieldLink (ax_cn o) t.2.1 "java/lang/String" "value" "[B" else .fieldLink (ax_cn o) t.2.1 "java/lang/String" "coder" "B"
  | 6 => .classLink (ax_cn o) t.2.1 (ax_cl t.2.2.1).1
  | 7 => if t.2.2.1 = 0 then .classLink (ax_cn o) t.2.1 "[[I" else .classLink (ax_cn o) t.2.1 "[[J"
  | 8 => .methodLink (ax_cn o) t.2.1 (ax_inf t.2.2.1).2.1
  | 9 => .methodLinkNest (ax_cn o) t.2.1 (ax_inf t.2.2.1).2.1 "FireDrill"
  | 10 => .methodLink (ax_cn o) t.2.1 ⟨"java/lang/System", "arraycopy", "(Ljava/lang/Object;ILjava/lang/Object;II)V"⟩
  | _ => .methodLink (ax_cn o) t.2.1 objectInit
def ax_mw (j : Nat) : List Cond :=
  let y := (ax_inf j).2.1
  let w : List Cond := [.code y (ax_inf j).2.2.1 (ax_ml j) (ax_inf j).2.2.2.2.1, .initialized y.cls]
  match ax_kd j with
  | 0 => w ++ [.static y]
  | 1 => w ++ [.instanceMethod y, .selects y.cls y y]
  | _ => w ++ [.instanceMethod y]
/-- what is plain of a method's name -/
def ax_mp (j : Nat) : Bool :=
  let y := (ax_inf j).2.1
  plainFor y && decide (y.cls ≠ "java/lang/invoke/MethodHandle") && decide (y.cls ≠ "java/lang/invoke/VarHandle") && decide ((parseMethodDescriptor y.desc).map (fun d => d.parameters.length) = some (ax_inf j).2.2.2.2.2.1) && decide (y.cls = ax_cn (ax_own j)) && decide (ax_kd j = 2 → y.name = "<init>") && decide (ax_ml j ≤ 11) && decide (ax_kd j ≤ 2) && decide (ax_kd j = 1 → ax_own j < 13 ∨ ax_own j = 14) && decide (ax_kd j = 2 → (ax_inf j).2.2.2.2.1 = none) && (match (ax_inf j).2.2.2.2.2.2.2 with
    | 0 => decide ((ax_inf j).2.2.2.2.1 = some .int)
    | 1 => decide ((ax_inf j).2.2.2.2.1 = some .long)
    | 2 => decide ((ax_inf j).2.2.2.2.1 = none)
    | 3 => decide ((ax_inf j).2.2.2.2.1 = some .boolean)
    | 4 => decide ((ax_inf j).2.2.2.2.1 = some .char)
    | 5 => decide ((ax_inf j).2.2.2.2.1 = some .byte)
    | _ => false)
/-- the law's number among the methods -/
def ax_law : Nat := 315
/-- the kind of a field's type -/
def ax_tk (t : FieldType) : Nat := match t with
  | .int => 0
  | .long => 1
  | .boolean => 3
  | .object _ => 2
  | .array _ => 2
  | _ => 9
def ax_fT (c k : Nat) : FieldType := (parseFieldDescriptor ((ax_cl c).2.1 k).2.2.1).getD .int
/-- what was looked up of a class -/
def ax_cok (c : Nat) : Prop := (ax_cl c).2.2 = ax_fl c ∧ (ax_cl c).1 = ax_cn c ∧ (∀ w ∈ u_ws (ax_cl c).1 (ax_cl c).2.1 (ax_cl c).2.2, w ∈ ax_tb) ∧ Cond.instantiable (ax_cl c).1 (ax_cl c).2.2 ∈ ax_tb ∧ Cond.initialized (ax_cl c).1 ∈ ax_tb ∧ (∀ k, k < (ax_cl c).2.2 → parseFieldDescriptor ((ax_cl c).2.1 k).2.2.1 = some (ax_fT c k) ∧ ax_tk (ax_fT c k) = ax_fty c k ∧ ((ax_cl c).2.1 k).1 = ax_cn c) ∧ (∀ a, a < (ax_cl c).2.2 → ∀ b, b < (ax_cl c).2.2 → a ≠ b → ((ax_cl c).2.1 a).2.1 ≠ ((ax_cl c).2.1 b).2.1)
/-- words of arrays and of the JDK -/
def ax_jw : List Cond := [.arrayClass .int, .arrayClass .long, .arrayClass .char, .arrayClass .boolean, .native ⟨"java/lang/System", "arraycopy", "(Ljava/lang/Object;ILjava/lang/Object;II)V"⟩, .static ⟨"java/lang/System", "arraycopy", "(Ljava/lang/Object;ILjava/lang/Object;II)V"⟩, .initialized "java/lang/System", .instanceMethod objectInit, .code objectInit ⟨#[0xb1]⟩ 1 none]
/-- all that was looked up -/
def ax_OK : Prop := (∀ c : Nat, c < 13 → ax_cok c) ∧ (∀ w ∈ ax_jw, w ∈ ax_tb) ∧ (∀ j : Nat, j < 316 → ax_okM j = true) ∧ (∀ (o : Nat) (t : Nat × Nat × Nat × Int), t ∈ ax_lk.getD o [] → t.1 ≠ 9 → t.1 ≠ 2 → ax_wd o t ∈ ax_tb) ∧ (∀ j : Nat, j < 316 → j ≠ ax_law → ∀ w ∈ ax_mw j, w ∈ ax_tb) ∧ (∀ j : Nat, j < 316 → ax_mp j = true)
/-! numbers -/
theorem ax_n32 {x : Int} (h : ax_i x) : (Int32.ofInt x).toInt = x := Int32.toInt_ofInt_of_le (by have := h.1; omega) (by have := h.2; omega)
theorem ax_n64 {x : Int} (h : ax_l x) : (Int64.ofInt x).toInt = x := Int64.toInt_ofInt_of_le (by have := h.1; omega) (by have := h.2; omega)
theorem ax_eqI {x y : Int} (hx : ax_i x) (hy : ax_i y) : Int32.ofInt x = Int32.ofInt y ↔ x = y := by
  rw [← Int32.toInt_inj, ax_n32 hx, ax_n32 hy]
theorem ax_ltI {x y : Int} (hx : ax_i x) (hy : ax_i y) : Int32.ofInt x < Int32.ofInt y ↔ x < y := by
  rw [Int32.lt_iff_toInt_lt, ax_n32 hx, ax_n32 hy]
theorem ax_leI {x y : Int} (hx : ax_i x) (hy : ax_i y) : Int32.ofInt x ≤ Int32.ofInt y ↔ x ≤ y := by
  rw [Int32.le_iff_toInt_le, ax_n32 hx, ax_n32 hy]
theorem ax_i0 : ax_i 0 := by decide
theorem ax_z0 : (0 : Int32) = Int32.ofInt 0 := rfl
theorem ax_byte {x : Int} (h1 : -128 ≤ x) (h2 : x < 128) : (Int8.ofInt x).toInt32 = Int32.ofInt x := Int8.toInt32_ofInt (by show (-128 : Int) ≤ x; exact h1) (by show x ≤ (127 : Int); omega)
theorem ax_short {x : Int} (h1 : -32768 ≤ x) (h2 : x < 32768) : (Int16.ofInt x).toInt32 = Int32.ofInt x := Int16.toInt32_ofInt (by show (-32768 : Int) ≤ x; exact h1) (by show x ≤ (32767 : Int); omega)
theorem ax_wide {x : Int} (h : ax_i x) : (Int32.ofInt x).toInt64 = Int64.ofInt x := Int32.toInt64_ofInt (by show (-2147483648 : Int) ≤ x; exact h.1) (by show x ≤ (2147483647 : Int); have := h.2; omega)
theorem ax_divI {x y : Int} (hx : ax_i x) (hy : ax_i y) : Int32.ofInt x / Int32.ofInt y = Int32.ofInt (x.tdiv y) := (Int32.ofInt_tdiv (by show (-2147483648 : Int) ≤ x; exact hx.1) (by show x ≤ (2147483647 : Int); have := hx.2; omega) (by show (-2147483648 : Int) ≤ y; exact hy.1) (by show y ≤ (2147483647 : Int); have := hy.2; omega)).symm
theorem ax_divL {x y : Int} (hx : ax_l x) (hy : ax_l y) : Int64.ofInt x / Int64.ofInt y = Int64.ofInt (x.tdiv y) := (Int64.ofInt_tdiv (by show (-9223372036854775808 : Int) ≤ x; exact hx.1) (by show x ≤ (9223372036854775807 : Int); have := hx.2; omega) (by show (-9223372036854775808 : Int) ≤ y; exact hy.1) (by show y ≤ (9223372036854775807 : Int); have := hy.2; omega)).symm
theorem ax_remI {x y : Int} (hx : ax_i x) (hy : ax_i y) : Int32.ofInt x - Int32.ofInt x / Int32.ofInt y * Int32.ofInt y = Int32.ofInt (x.tmod y) := by
  rw [ax_divI hx hy, ← Int32.ofInt_mul, ← Int32.ofInt_sub]
  congr 1
  have := Int.mul_tdiv_add_tmod x y
  have h2 := Int.mul_comm y (x.tdiv y)
  omega
theorem ax_remL {x y : Int} (hx : ax_l x) (hy : ax_l y) : Int64.ofInt x - Int64.ofInt x / Int64.ofInt y * Int64.ofInt y = Int64.ofInt (x.tmod y) := by
  rw [ax_divL hx hy, ← Int64.ofInt_mul, ← Int64.ofInt_sub]
  congr 1
  have := Int.mul_tdiv_add_tmod x y
  have h2 := Int.mul_comm y (x.tdiv y)
  omega
theorem ax_cmpL {x y : Int} (hx : ax_l x) (hy : ax_l y) : lg_cmp (Int64.ofInt x) (Int64.ofInt y) = Int32.ofInt (ax_cmp x y) := by
  unfold lg_cmp ax_cmp
  simp only [gt_iff_lt, Int64.lt_iff_toInt_lt, ← Int64.toInt_inj, ax_n64 hx, ax_n64 hy]
  split
  · rfl
  · split
    · rfl
    · rfl
theorem ax_clamp {x : Int} (h : ax_i x) : (Int32.ofInt x).toNatClampNeg = x.toNat := Int32.toNatClampNeg_ofInt_of_le (by have := h.1; omega) (by have := h.2; omega)
theorem ax_in {x : Int} {n : Nat} (h : ax_i x) (h0 : 0 ≤ x) (hn : x < n) : vp_in (Int32.ofInt x) n := by
  rw [vp_in_iff, ax_n32 h]
  exact ⟨h0, hn⟩
