theorem bv_nat {b : BitVec 32} (h : b.toNat < 2147483648) : b.toInt = (b.toNat : Int) := BitVec.toInt_eq_toNat_of_lt (by omega)
theorem ofI_nat {x : Nat} (h : x < 2147483648) : (Int32.ofInt (x : Int)).toBitVec.toNat = x := by
  have h0 : (Int32.ofInt (x : Int)).toInt = (x : Int) := tIr (by unfold r32; omega)
  have h3 : (Int32.ofInt (x : Int)).toInt = if 2 * (Int32.ofInt (x : Int)).toBitVec.toNat < 2 ^ 32 then ((Int32.ofInt (x : Int)).toBitVec.toNat : Int) else ((Int32.ofInt (x : Int)).toBitVec.toNat : Int) - ((2 ^ 32 : Nat) : Int) := BitVec.toInt_eq_toNat_cond _
  have h4 : (Int32.ofInt (x : Int)).toBitVec.toNat < 2 ^ 32 := BitVec.isLt _
  rw [h0] at h3
  generalize (Int32.ofInt (x : Int)).toBitVec.toNat = t at *
  split at h3 <;> omega
/-- a number shifted to the left, that stays a number -/
theorem shl_nat {x s : Nat} (hs : s < 32) (h : x * 2 ^ s < 2147483648) : shl32 (x : Int) (s : Int) = ((x * 2 ^ s : Nat) : Int) := by
  have hx : x < 2147483648 := Nat.lt_of_le_of_lt (Nat.le_mul_of_pos_right x (Nat.two_pow_pos s)) h
  unfold shl32
  have e : (Int32.ofInt (x : Int) <<< (Int32.ofInt (s : Int) &&& 31)).toBitVec.toNat = x * 2 ^ s := by
    have hs' : s = 0 ∨ s = 1 ∨ s = 2 ∨ s = 3 ∨ s = 4 ∨ s = 5 ∨ s = 6 ∨ s = 7 ∨ s = 8 ∨ s = 9 ∨ s = 10 ∨ s = 11 ∨ s = 12 ∨ s = 13 ∨ s = 14 ∨ s = 15 ∨ s = 16 ∨ s = 17 ∨ s = 18 ∨ s = 19 ∨ s = 20 ∨ s = 21 ∨ s = 22 ∨ s = 23 ∨ s = 24 ∨ s = 25 ∨ s = 26 ∨ s = 27 ∨ s = 28 ∨ s = 29 ∨ s = 30 ∨ s = 31 := by omega
    have e1 : ((Int32.ofInt (s : Int) &&& 31).toBitVec.smod 32).toNat = s := by
      rcases hs' with rfl | rfl | rfl | rfl | rfl | rfl | rfl | rfl | rfl | rfl | rfl | rfl | rfl | rfl | rfl | rfl | rfl | rfl | rfl | rfl | rfl | rfl | rfl | rfl | rfl | rfl | rfl | rfl | rfl | rfl | rfl | rfl <;> decide
    show ((Int32.ofInt (x : Int)).toBitVec <<< ((Int32.ofInt (s : Int) &&& 31).toBitVec.smod 32)).toNat = _
    rw [BitVec.shiftLeft_eq', BitVec.toNat_shiftLeft, e1, ofI_nat hx, Nat.shiftLeft_eq]
    exact Nat.mod_eq_of_lt (Nat.lt_trans h (by decide))
  show (Int32.ofInt (x : Int) <<< (Int32.ofInt (s : Int) &&& 31)).toBitVec.toInt = _
  rw [bv_nat (by rw [e]; exact h), e]
theorem or_nat {x d : Nat} (hd : d < 32) (h : x * 32 + d < 2147483648) : or32 ((x * 32 : Nat) : Int) (d : Int) = ((x * 32 + d : Nat) : Int) := by
  unfold or32
  have e : (Int32.ofInt ((x * 32 : Nat) : Int) ||| Int32.ofInt (d : Int)).toBitVec.toNat = x * 32 + d := by
    rw [Int32.toBitVec_or, BitVec.toNat_or, ofI_nat (by omega), ofI_nat (by omega)]
    have := Nat.two_pow_add_eq_or_of_lt (i := 5) (b := d) hd x
    have h2 : 2 ^ 5 * x = x * 32 := by rw [Nat.mul_comm]
    rw [h2] at this
    exact this.symm
  show (Int32.ofInt ((x * 32 : Nat) : Int) ||| Int32.ofInt (d : Int)).toBitVec.toInt = _
  rw [bv_nat (by rw [e]; exact h), e]
