theorem n32 {x : Int} (h : ax_i x) : (Int32.ofInt x).toInt = x := Int32.toInt_ofInt_of_le (by have := h.1; omega) (by have := h.2; omega)
theorem bvN {a : Nat} : (Int32.ofInt (a : Int)).toBitVec = BitVec.ofNat 32 a := by
  rw [Int32.toBitVec_ofInt, BitVec.ofInt_natCast]
theorem bvI {c : Nat} (h : c < 2147483648) : (BitVec.ofNat 32 c).toInt = (c : Int) := by
  rw [BitVec.toInt_eq_toNat_of_lt (by rw [BitVec.toNat_ofNat]; omega), BitVec.toNat_ofNat]
  omega
theorem andN {a b : Nat} (h : a < 2147483648) : (Int32.ofInt (a : Int) &&& Int32.ofInt (b : Int)).toInt = ((a &&& b : Nat) : Int) := by
  show (Int32.ofInt (a : Int) &&& Int32.ofInt (b : Int)).toBitVec.toInt = _
  rw [Int32.toBitVec_and, bvN, bvN, ← BitVec.ofNat_and, bvI (Nat.lt_of_le_of_lt Nat.and_le_left h)]
theorem orN {a b : Nat} (h : a < 2147483648) (hb : b < 2147483648) : (Int32.ofInt (a : Int) ||| Int32.ofInt (b : Int)).toInt = ((a ||| b : Nat) : Int) := by
  show (Int32.ofInt (a : Int) ||| Int32.ofInt (b : Int)).toBitVec.toInt = _
  rw [Int32.toBitVec_or, bvN, bvN, ← BitVec.ofNat_or, bvI (Nat.or_lt_two_pow (n := 31) h hb)]
theorem xorN {a b : Nat} (h : a < 2147483648) (hb : b < 2147483648) : (Int32.ofInt (a : Int) ^^^ Int32.ofInt (b : Int)).toInt = ((a ^^^ b : Nat) : Int) := by
  show (Int32.ofInt (a : Int) ^^^ Int32.ofInt (b : Int)).toBitVec.toInt = _
  rw [Int32.toBitVec_xor, bvN, bvN, ← BitVec.ofNat_xor, bvI (Nat.xor_lt_two_pow (n := 31) h hb)]
theorem shv {k : Nat} (hk : k < 32) : (Int32.ofInt (k : Int) &&& 31) = Int32.ofInt (k : Int) := by
  apply Int32.toInt_inj.mp
  have e : (31 : Int32) = Int32.ofInt ((31 : Nat) : Int) := rfl
  rw [e, andN (by omega), n32 (by constructor <;> omega)]
  have : k &&& 31 = k := by
    have := Nat.and_two_pow_sub_one_eq_mod k 5
    simp only [Nat.reducePow, Nat.reduceSub] at this
    rw [this]; omega
  rw [this]
theorem shrN {a k : Nat} (h : a < 2147483648) (hk : k < 32) : (Int32.ofInt (a : Int) >>> (Int32.ofInt (k : Int) &&& 31)).toInt = ((a >>> k : Nat) : Int) := by
  rw [shv hk]
  show (Int32.ofInt (a : Int) >>> Int32.ofInt (k : Int)).toBitVec.toInt = _
  rw [Int32.toBitVec_shiftRight, bvN, bvN]
  have hm : (BitVec.ofNat 32 a).msb = false := by
    rw [BitVec.msb_eq_toInt, bvI h]
    exact decide_eq_false (by omega)
  have e : ((BitVec.ofNat 32 k).smod 32).toNat = k := by
    have hk' : k < 32 := hk
    have : ∀ k : Nat, k < 32 → ((BitVec.ofNat 32 k).smod 32).toNat = k := by decide +kernel
    exact this k hk
  show ((BitVec.ofNat 32 a).sshiftRight' ((BitVec.ofNat 32 k).smod 32)).toInt = _
  show ((BitVec.ofNat 32 a).sshiftRight ((BitVec.ofNat 32 k).smod 32).toNat).toInt = _
  rw [e, BitVec.sshiftRight_eq_of_msb_false hm]
  have e2 : BitVec.ofNat 32 a >>> k = BitVec.ofNat 32 (a >>> k) := by
    apply BitVec.eq_of_toNat_eq
    rw [BitVec.toNat_ushiftRight, BitVec.toNat_ofNat, BitVec.toNat_ofNat, Nat.mod_eq_of_lt (by omega), Nat.mod_eq_of_lt]
    rw [Nat.shiftRight_eq_div_pow]
    exact Nat.lt_of_le_of_lt (Nat.div_le_self _ _) (by omega)
  rw [e2, bvI]
  rw [Nat.shiftRight_eq_div_pow]
  exact Nat.lt_of_le_of_lt (Nat.div_le_self _ _) h
theorem shlN {a k : Nat} (h : a <<< k < 2147483648) (hk : k < 32) : (Int32.ofInt (a : Int) <<< (Int32.ofInt (k : Int) &&& 31)).toInt = ((a <<< k : Nat) : Int) := by
  rw [shv hk]
  show (Int32.ofInt (a : Int) <<< Int32.ofInt (k : Int)).toBitVec.toInt = _
  rw [Int32.toBitVec_shiftLeft, bvN, bvN]
  have e : ((BitVec.ofNat 32 k).smod 32).toNat = k := by
    have : ∀ k : Nat, k < 32 → ((BitVec.ofNat 32 k).smod 32).toNat = k := by decide +kernel
    exact this k hk
  show (BitVec.ofNat 32 a <<< ((BitVec.ofNat 32 k).smod 32)).toInt = _
  rw [BitVec.shiftLeft_eq', e]
  have e2 : BitVec.ofNat 32 a <<< k = BitVec.ofNat 32 (a <<< k) := by
    apply BitVec.eq_of_toNat_eq
    rw [BitVec.toNat_shiftLeft, BitVec.toNat_ofNat, BitVec.toNat_ofNat, Nat.shiftLeft_eq, Nat.shiftLeft_eq, Nat.mod_mul_mod]
  rw [e2, bvI h]
theorem xneg {x y : Int} (hx : ax_i x) (hy : ax_i y) : (Int32.ofInt x ^^^ Int32.ofInt y).toInt < 0 ↔ ¬ (x < 0 ↔ y < 0) := by
  show (Int32.ofInt x ^^^ Int32.ofInt y).toBitVec.toInt < 0 ↔ _
  have h := BitVec.msb_eq_toInt (x := (Int32.ofInt x ^^^ Int32.ofInt y).toBitVec)
  rw [Int32.toBitVec_xor, BitVec.msb_xor, BitVec.msb_eq_toInt, BitVec.msb_eq_toInt] at h
  rw [show (Int32.ofInt x).toBitVec.toInt = x from n32 hx, show (Int32.ofInt y).toBitVec.toInt = y from n32 hy] at h
  rw [Int32.toBitVec_xor]
  generalize ((Int32.ofInt x).toBitVec ^^^ (Int32.ofInt y).toBitVec).toInt = z at h ⊢
  by_cases h1 : x < 0 <;> by_cases h2 : y < 0 <;> by_cases h3 : z < 0 <;> simp [h1, h2, h3] at h ⊢
