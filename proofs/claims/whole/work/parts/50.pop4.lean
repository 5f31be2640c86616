/-! Long.bitCount -/
section
variable {n d : Nat} {I : zi} {L : zl} {Q : zq}
def sh64 (x : Int64) (k : Int32) : Int64 := (x.toUInt64 >>> (k.toInt64.toUInt64 &&& Int64.toUInt64 63)).toInt64
def bcL (x : Int64) : Int32 :=
  let a := x - (sh64 x 1 &&& 6148914691236517205)
  let b := (a &&& 3689348814741910323) + (sh64 a 2 &&& 3689348814741910323)
  let c := (b + sh64 b 4) &&& 1085102592571150095
  let e := c + sh64 c 8
  let f := e + sh64 e 16
  let g := f + sh64 f 32
  g.toInt32 &&& 127
theorem s_JL_bitCount (x : Int64) : zV n d 66 0 [.long x, .null] [] I L Q ↔ Q (some (.int (bcL x))) I L := by
  simp only [e66_0, e66_1, e66_2, e66_3, e66_4, e66_7, e66_8, e66_9, e66_10, e66_11, e66_14, e66_15, e66_16, e66_17, e66_18, e66_21, e66_22, e66_23, e66_24, e66_25, e66_26, e66_27, e66_28, e66_29, e66_32, e66_33, e66_34, e66_35, e66_36, e66_38, e66_39, e66_40, e66_41, e66_42, e66_43, e66_45, e66_46, e66_47, e66_48, e66_49, e66_50, e66_52, e66_53, e66_54, e66_55, e66_56, e66_57, e66_59, e66_60, zpush_some, zpush_none, true_or, or_true, true_and, and_true, ↓reduceIte, zq_ite, zq_itel]
  exact Iff.rfl
theorem sh64_nat (x : Int64) (k : Nat) (hk : k < 64) : (sh64 x (nI k)).toBitVec.toNat = x.toBitVec.toNat / 2 ^ k := by
  unfold sh64
  rw [wb_cu k hk]
  show (x.toUInt64 >>> UInt64.ofNat k).toNat = _
  rw [UInt64.toNat_shiftRight, UInt64.toNat_ofNat', Nat.mod_eq_of_lt (show k < 2 ^ 64 by omega), Nat.mod_eq_of_lt hk, Nat.shiftRight_eq_div_pow]
  rfl
theorem and64 (x y : Int64) : (x &&& y).toBitVec.toNat = x.toBitVec.toNat &&& y.toBitVec.toNat := by rw [Int64.toBitVec_and, BitVec.toNat_and]
theorem add64 (x y : Int64) (h : x.toBitVec.toNat + y.toBitVec.toNat < 2 ^ 64) : (x + y).toBitVec.toNat = x.toBitVec.toNat + y.toBitVec.toNat := by rw [Int64.toBitVec_add, BitVec.toNat_add, Nat.mod_eq_of_lt h]
theorem sub64 (x y : Int64) (h : y.toBitVec.toNat ≤ x.toBitVec.toNat) : (x - y).toBitVec.toNat = x.toBitVec.toNat - y.toBitVec.toNat := by
  rw [Int64.toBitVec_sub, BitVec.toNat_sub_of_le (BitVec.le_def.mpr h)]
end
