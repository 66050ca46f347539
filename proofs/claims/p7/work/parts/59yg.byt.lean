/-! a byte, as both sides cut it out of a number -/
theorem byS (x : Int32) : vp_nar .byte x = x.toInt8.toInt32 := rfl
theorem byT (y : BitVec 8) : y.toInt = if 128 ≤ (y.toNat : Int) then (y.toNat : Int) - 256 else (y.toNat : Int) := by
  rw [BitVec.toInt_eq_toNat_cond]
  have := y.isLt
  split <;> split <;> omega
theorem byC (a : BitVec 32) : ((a &&& 255#32).toInt) = (((a.setWidth 8).toNat : Nat) : Int) := by
  have h1 : (a &&& 255#32).toNat = a.toNat % 256 := by
    rw [BitVec.toNat_and]
    exact Nat.and_two_pow_sub_one_eq_mod a.toNat 8
  have h2 : (a.setWidth 8).toNat = a.toNat % 256 := BitVec.toNat_setWidth 8 a
  rw [BitVec.toInt_eq_toNat_cond, h1, h2]
  have := Nat.mod_lt a.toNat (show 256 > 0 by omega)
  split <;> omega
theorem byR (x : Int32) : (vp_nar .byte x.toInt8.toInt32).toInt = (x.toBitVec.setWidth 8).toInt := by
  rw [byS, Int8.toInt8_toInt32, Int8.toInt_toInt32]
  show x.toInt8.toBitVec.toInt = _
  rw [Int32.toBitVec_toInt8, BitVec.signExtend_eq_setWidth_of_le _ (by omega)]
theorem byH (x : BitVec 32) (n : Nat) (h : n ≤ 24) : (x.sshiftRight n).setWidth 8 = (x >>> n).setWidth 8 := by
  apply BitVec.eq_of_getLsbD_eq
  intro i hi
  rw [BitVec.getLsbD_setWidth, BitVec.getLsbD_setWidth, BitVec.getLsbD_sshiftRight, BitVec.getLsbD_ushiftRight]
  rw [if_pos (by omega), decide_eq_false (show ¬ 32 ≤ i by omega)]
  simp
/-- the shifts that occur -/
noncomputable def byN (n : Nat) : Prop := n = 0 ∨ n = 8 ∨ n = 16 ∨ n = 24
theorem byc {n : Nat} (v : Int32) (h : byN n) : (((v.toUInt32 >>> ((Int32.ofNat n).toUInt32 &&& Int32.toUInt32 31)).toInt32) &&& Int32.ofInt 255).toInt = (((v.toBitVec >>> n).setWidth 8).toNat : Int) := by
  rw [← byC]
  rcases h with rfl | rfl | rfl | rfl <;> rfl
theorem byr {n : Nat} (v : Int32) (h : byN n) : (vp_nar .byte (v >>> (Int32.ofNat n &&& 31)).toInt8.toInt32).toInt = ((v.toBitVec >>> n).setWidth 8).toInt := by
  rw [byR, ← byH _ _ (by rcases h with rfl | rfl | rfl | rfl <;> omega)]
  rcases h with rfl | rfl | rfl | rfl <;> rfl
/-- the one is the other, signed -/
theorem byQ {n : Nat} (v : Int32) (h : byN n) : (vp_nar .byte (v >>> (Int32.ofNat n &&& 31)).toInt8.toInt32).toInt = if 128 ≤ (((v.toUInt32 >>> ((Int32.ofNat n).toUInt32 &&& Int32.toUInt32 31)).toInt32) &&& Int32.ofInt 255).toInt then (((v.toUInt32 >>> ((Int32.ofNat n).toUInt32 &&& Int32.toUInt32 31)).toInt32) &&& Int32.ofInt 255).toInt - 256 else (((v.toUInt32 >>> ((Int32.ofNat n).toUInt32 &&& Int32.toUInt32 31)).toInt32) &&& Int32.ofInt 255).toInt := by
  rw [byr v h, byc v h, byT]
theorem byB {n : Nat} (v : Int32) (h : byN n) : 0 ≤ (((v.toUInt32 >>> ((Int32.ofNat n).toUInt32 &&& Int32.toUInt32 31)).toInt32) &&& Int32.ofInt 255).toInt ∧ (((v.toUInt32 >>> ((Int32.ofNat n).toUInt32 &&& Int32.toUInt32 31)).toInt32) &&& Int32.ofInt 255).toInt ≤ 255 := by
  rw [byc v h]
  have := ((v.toBitVec >>> n).setWidth 8).isLt
  omega
