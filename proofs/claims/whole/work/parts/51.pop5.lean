/-! Long.bitCount is the sum of the bits -/
theorem mk85 : (6148914691236517205 : Int64).toBitVec.toNat = mK 85 8 := by decide +kernel
theorem mk51 : (3689348814741910323 : Int64).toBitVec.toNat = mK 51 8 := by decide +kernel
theorem mk15 : (1085102592571150095 : Int64).toBitVec.toNat = mK 15 8 := by decide +kernel
theorem mk51v : mK 51 8 = 3689348814741910323 := by decide +kernel
theorem mk15v : mK 15 8 = 1085102592571150095 := by decide +kernel
theorem no_c {b : Nat} (h : b ≤ 7378697629483820646) : b + b / 16 < 2 ^ 64 := by omega
theorem no_e {c : Nat} (h : c ≤ 1085102592571150095) : c + c / 256 ≤ 2 * 1085102592571150095 := by omega
theorem no_f {c : Nat} (h : c ≤ 2 * 1085102592571150095) : c + c / 65536 ≤ 3 * 1085102592571150095 := by omega
theorem no_g {c : Nat} (h : c ≤ 3 * 1085102592571150095) : c + c / 4294967296 ≤ 4 * 1085102592571150095 := by omega
theorem le64 {c : Nat} (h : c ≤ 4 * 1085102592571150095) : c < 2 ^ 64 := Nat.lt_of_le_of_lt h (by decide)
theorem bcL_sum (x : Int64) : bcL x = nI (sumB (bl x) 64) := by
  obtain ⟨a, ha⟩ : ∃ a, a = x - (sh64 x 1 &&& 6148914691236517205) := ⟨_, rfl⟩
  obtain ⟨b, hb⟩ : ∃ b, b = (a &&& 3689348814741910323) + (sh64 a 2 &&& 3689348814741910323) := ⟨_, rfl⟩
  obtain ⟨c, hc⟩ : ∃ c, c = (b + sh64 b 4) &&& 1085102592571150095 := ⟨_, rfl⟩
  obtain ⟨e, he⟩ : ∃ e, e = c + sh64 c 8 := ⟨_, rfl⟩
  obtain ⟨f, hf⟩ : ∃ f, f = e + sh64 e 16 := ⟨_, rfl⟩
  obtain ⟨g, hg⟩ : ∃ g, g = f + sh64 f 32 := ⟨_, rfl⟩
  have hbc : bcL x = g.toInt32 &&& 127 := by rw [hg, hf, he, hc, hb, ha]; rfl
  have s_1 := sh64_nat x 1 (by decide)
  have s_2 := sh64_nat a 2 (by decide)
  have s_4 := sh64_nat b 4 (by decide)
  have s_8 := sh64_nat c 8 (by decide)
  have s_16 := sh64_nat e 16 (by decide)
  have s_32 := sh64_nat f 32 (by decide)
  have na : a.toBitVec.toNat = s1 (mK 85 8) x.toBitVec.toNat := by
    have l : (sh64 x 1 &&& 6148914691236517205).toBitVec.toNat = x.toBitVec.toNat / 2 &&& mK 85 8 := by rw [and64, mk85]; exact congrArg (· &&& mK 85 8) s_1
    rw [ha, sub64 _ _ (by rw [l]; exact Nat.le_trans Nat.and_le_left (Nat.div_le_self _ _)), l]
    rfl
  have nb : b.toBitVec.toNat = s2 (mK 51 8) a.toBitVec.toNat := by
    have l : (sh64 a 2 &&& 3689348814741910323).toBitVec.toNat = a.toBitVec.toNat / 4 &&& mK 51 8 := by rw [and64, mk51]; exact congrArg (· &&& mK 51 8) s_2
    have l2 : (a &&& 3689348814741910323).toBitVec.toNat = a.toBitVec.toNat &&& mK 51 8 := by rw [and64, mk51]
    rw [hb, add64 _ _ (by rw [l, l2]; exact Nat.lt_of_le_of_lt (Nat.add_le_add Nat.and_le_right Nat.and_le_right) (by decide +kernel)), l, l2]
    rfl
  have bb : b.toBitVec.toNat ≤ 7378697629483820646 := by
    rw [nb]
    exact Nat.le_trans (Nat.add_le_add Nat.and_le_right Nat.and_le_right) (by decide +kernel)
  have nc : c.toBitVec.toNat = s3 (mK 15 8) b.toBitVec.toNat := by
    have l : (sh64 b 4).toBitVec.toNat = b.toBitVec.toNat / 16 := s_4
    rw [hc, and64, mk15, add64 _ _ (by rw [l]; exact no_c bb), l]
    rfl
  have cc : c.toBitVec.toNat ≤ 1085102592571150095 := by
    rw [nc, ← mk15v]
    exact Nat.and_le_right
  have ne : e.toBitVec.toNat = c.toBitVec.toNat + c.toBitVec.toNat / 256 := by
    have l : (sh64 c 8).toBitVec.toNat = c.toBitVec.toNat / 256 := s_8
    rw [he, add64 _ _ (by rw [l]; exact le64 (Nat.le_trans (no_e cc) (by decide))), l]
  have ee := no_e cc
  rw [← ne] at ee
  have nf : f.toBitVec.toNat = e.toBitVec.toNat + e.toBitVec.toNat / 65536 := by
    have l : (sh64 e 16).toBitVec.toNat = e.toBitVec.toNat / 65536 := s_16
    rw [hf, add64 _ _ (by rw [l]; exact le64 (Nat.le_trans (no_f ee) (by decide))), l]
  have ff := no_f ee
  rw [← nf] at ff
  have ng : g.toBitVec.toNat = f.toBitVec.toNat + f.toBitVec.toNat / 4294967296 := by
    have l : (sh64 f 32).toBitVec.toNat = f.toBitVec.toNat / 4294967296 := s_32
    rw [hg, add64 _ _ (by rw [l]; exact le64 (no_g ff)), l]
  have hX : x.toBitVec.toNat < 256 ^ 8 := x.toBitVec.isLt
  have r := swar_all hX (V := c.toBitVec.toNat) (by rw [nc, nb, na]) ne nf ng
  rw [hbc, pk_and g.toInt32 (m := 127) 7 (by decide)]
  have q : g.toInt32.toBitVec.toNat % 2 ^ 7 = g.toBitVec.toNat % 128 := by
    show (g.toBitVec.signExtend 32).toNat % 2 ^ 7 = _
    rw [BitVec.signExtend_eq_setWidth_of_le _ (by decide), BitVec.toNat_setWidth]
    exact Nat.mod_mod_of_dvd _ (by decide)
  rw [q, r]
  rfl
