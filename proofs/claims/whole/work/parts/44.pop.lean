/-! COUNTING BITS -/
def mK (m : Nat) : Nat → Nat
  | 0 => 0
  | k + 1 => 256 * mK m k + m
theorem lane_and {y b M m : Nat} (hb : b < 256) (hm : m < 256) : (256 * y + b) &&& (256 * M + m) = 256 * (y &&& M) + (b &&& m) := by
  have e : (b &&& m) < 2 ^ 8 := Nat.lt_of_le_of_lt Nat.and_le_left hb
  refine Nat.eq_of_testBit_eq (fun j => ?_)
  rw [Nat.testBit_and, show 256 = 2 ^ 8 from rfl, Nat.testBit_two_pow_mul_add _ hb, Nat.testBit_two_pow_mul_add _ hm, Nat.testBit_two_pow_mul_add _ e]
  split
  · rw [Nat.testBit_and]
  · rw [Nat.testBit_and]
def s1 (M X : Nat) : Nat := X - ((X / 2) &&& M)
def s2 (M X : Nat) : Nat := (X &&& M) + ((X / 4) &&& M)
def s3 (M X : Nat) : Nat := (X + X / 16) &&& M
theorem h_s1 : ∀ r, r < 2 → ∀ b, b < 256 → (128 * r + b / 2) &&& 85 = (b / 2) &&& 85 := by decide +kernel
theorem h_s2 : ∀ r, r < 4 → ∀ b, b < 256 → (64 * r + b / 4) &&& 51 = (b / 4) &&& 51 := by decide +kernel
theorem h_s3 : ∀ r, r < 5 → ∀ b, b < 70 → (b + (16 * r + b / 16)) &&& 15 = (b + b / 16) &&& 15 := by decide +kernel
theorem h_b1 : ∀ b, b < 256 → s1 85 b < 256 ∧ s2 51 (s1 85 b) < 69 ∧ s2 51 (s1 85 b) % 16 < 5 := by decide +kernel
theorem s1_lane {y b M : Nat} (hb : b < 256) : s1 (256 * M + 85) (256 * y + b) = 256 * s1 M y + s1 85 b := by
  unfold s1
  have e : (256 * y + b) / 2 = 256 * (y / 2) + (128 * (y % 2) + b / 2) := by omega
  rw [e, lane_and (by omega) (by decide), h_s1 _ (Nat.mod_lt _ (by decide)) b hb]
  have g1 : (y / 2 &&& M) ≤ y / 2 := Nat.and_le_left
  have g2 : (b / 2 &&& 85) ≤ b / 2 := Nat.and_le_left
  omega
theorem s2_lane {y b M : Nat} (hb : b < 256) : s2 (256 * M + 51) (256 * y + b) = 256 * s2 M y + s2 51 b := by
  unfold s2
  have e : (256 * y + b) / 4 = 256 * (y / 4) + (64 * (y % 4) + b / 4) := by omega
  rw [e, lane_and hb (by decide), lane_and (by omega) (by decide), h_s2 _ (Nat.mod_lt _ (by decide)) b hb]
  omega
theorem s3_lane {y b M : Nat} (hb : b < 69) (hy : y % 16 < 5) : s3 (256 * M + 15) (256 * y + b) = 256 * s3 M y + s3 15 b := by
  unfold s3
  have e : 256 * y + b + (256 * y + b) / 16 = 256 * (y + y / 16) + (b + (16 * (y % 16) + b / 16)) := by omega
  rw [e, lane_and (by omega) (by decide), h_s3 _ hy b (by omega)]
def p8 (b : Nat) : Nat := s3 15 (s2 51 (s1 85 b))
def pK : Nat → Nat → Nat
  | 0, _ => 0
  | k + 1, X => 256 * pK k (X / 256) + p8 (X % 256)
theorem swar : ∀ k X, X < 256 ^ k → s3 (mK 15 k) (s2 (mK 51 k) (s1 (mK 85 k) X)) = pK k X ∧ s2 (mK 51 k) (s1 (mK 85 k) X) % 16 < 5
  | 0, X, h => by
    have e : X = 0 := by rw [Nat.pow_zero] at h; omega
    subst e
    exact ⟨rfl, by decide⟩
  | k + 1, X, h => by
    have hy : X / 256 < 256 ^ k := by
      rw [Nat.pow_succ] at h
      exact Nat.div_lt_of_lt_mul (by rw [Nat.mul_comm]; exact h)
    obtain ⟨i1, i2⟩ := swar k (X / 256) hy
    have hb : X % 256 < 256 := Nat.mod_lt _ (by decide)
    obtain ⟨b1, b2, b3⟩ := h_b1 _ hb
    have e : X = 256 * (X / 256) + X % 256 := (Nat.div_add_mod X 256).symm
    have l1 : s1 (mK 85 (k + 1)) X = 256 * s1 (mK 85 k) (X / 256) + s1 85 (X % 256) := by
      conv => lhs; rw [e]
      exact s1_lane hb
    have l2 : s2 (mK 51 (k + 1)) (s1 (mK 85 (k + 1)) X) = 256 * s2 (mK 51 k) (s1 (mK 85 k) (X / 256)) + s2 51 (s1 85 (X % 256)) := by
      rw [l1]; exact s2_lane b1
    refine ⟨?_, ?_⟩
    · rw [l2]
      show s3 (256 * mK 15 k + 15) _ = _
      rw [s3_lane b2 i2, i1]
      rfl
    · rw [l2]; omega
theorem p8_le : ∀ b, b < 256 → p8 b ≤ 8 := by decide +kernel
theorem dv1 {a R : Nat} (h : a < 256) : (a + 256 * R) / 256 = R := by omega
theorem dv2 {a b R : Nat} (h : a < 256) (h2 : b < 256) : (a + 256 * (b + 256 * R)) / 65536 = R := by
  rw [show 65536 = 256 * 256 from rfl, ← Nat.div_div_eq_div_mul, dv1 h, dv1 h2]
theorem dv4 {a b c e R : Nat} (h : a < 256) (h2 : b < 256) (h3 : c < 256) (h4 : e < 256) : (a + 256 * (b + 256 * (c + 256 * (e + 256 * R)))) / 4294967296 = R := by
  rw [show 4294967296 = 65536 * 65536 from rfl, ← Nat.div_div_eq_div_mul, dv2 h h2, dv2 h3 h4]
theorem md {a R : Nat} (h : a < 128) : (a + 256 * R) % 128 = a := by omega
theorem lin4 (a0 a1 a2 a3 a4 a5 a6 a7 : Nat) : (a0 + 256 * (a1 + 256 * (a2 + 256 * (a3 + 256 * (a4 + 256 * (a5 + 256 * (a6 + 256 * (a7)))))))) + (a1 + 256 * (a2 + 256 * (a3 + 256 * (a4 + 256 * (a5 + 256 * (a6 + 256 * (a7))))))) = (a0 + a1) + 256 * ((a1 + a2) + 256 * ((a2 + a3) + 256 * ((a3 + a4) + 256 * ((a4 + a5) + 256 * ((a5 + a6) + 256 * ((a6 + a7) + 256 * (a7))))))) := by omega
theorem lin5 (a0 a1 a2 a3 a4 a5 a6 a7 : Nat) : ((a0 + a1) + 256 * ((a1 + a2) + 256 * ((a2 + a3) + 256 * ((a3 + a4) + 256 * ((a4 + a5) + 256 * ((a5 + a6) + 256 * ((a6 + a7) + 256 * (a7)))))))) + ((a2 + a3) + 256 * ((a3 + a4) + 256 * ((a4 + a5) + 256 * ((a5 + a6) + 256 * ((a6 + a7) + 256 * (a7)))))) = (a0 + a1 + a2 + a3) + 256 * ((a1 + a2 + a3 + a4) + 256 * ((a2 + a3 + a4 + a5) + 256 * ((a3 + a4 + a5 + a6) + 256 * ((a4 + a5 + a6 + a7) + 256 * ((a5 + a6 + a7) + 256 * ((a6 + a7) + 256 * (a7))))))) := by omega
theorem lin6 (a0 a1 a2 a3 a4 a5 a6 a7 : Nat) : ((a0 + a1 + a2 + a3) + 256 * ((a1 + a2 + a3 + a4) + 256 * ((a2 + a3 + a4 + a5) + 256 * ((a3 + a4 + a5 + a6) + 256 * ((a4 + a5 + a6 + a7) + 256 * ((a5 + a6 + a7) + 256 * ((a6 + a7) + 256 * (a7)))))))) + ((a4 + a5 + a6 + a7) + 256 * ((a5 + a6 + a7) + 256 * ((a6 + a7) + 256 * (a7)))) = (a0 + a1 + a2 + a3 + a4 + a5 + a6 + a7) + 256 * ((a1 + a2 + a3 + a4 + a5 + a6 + a7) + 256 * ((a2 + a3 + a4 + a5 + a6 + a7) + 256 * ((a3 + a4 + a5 + a6 + a7) + 256 * ((a4 + a5 + a6 + a7) + 256 * ((a5 + a6 + a7) + 256 * ((a6 + a7) + 256 * (a7))))))) := by omega
theorem bd2 {a b : Nat} (h : a ≤ 8) (h2 : b ≤ 8) : a + b < 256 := by omega
theorem bd4 {a b c e : Nat} (h : a ≤ 8) (h2 : b ≤ 8) (h3 : c ≤ 8) (h4 : e ≤ 8) : a + b + c + e < 256 := by omega
theorem bd8 {a0 a1 a2 a3 a4 a5 a6 a7 : Nat} (h0 : a0 ≤ 8) (h1 : a1 ≤ 8) (h2 : a2 ≤ 8) (h3 : a3 ≤ 8) (h4 : a4 ≤ 8) (h5 : a5 ≤ 8) (h6 : a6 ≤ 8) (h7 : a7 ≤ 8) : a0 + a1 + a2 + a3 + a4 + a5 + a6 + a7 < 128 := by omega
/-- the last sums -/
theorem swar_sum {a0 a1 a2 a3 a4 a5 a6 a7 : Nat} (h0 : a0 ≤ 8) (h1 : a1 ≤ 8) (h2 : a2 ≤ 8) (h3 : a3 ≤ 8) (h4 : a4 ≤ 8) (h5 : a5 ≤ 8) (h6 : a6 ≤ 8) (h7 : a7 ≤ 8) {V v4 v5 v6 : Nat} (hV : V = a0 + 256 * (a1 + 256 * (a2 + 256 * (a3 + 256 * (a4 + 256 * (a5 + 256 * (a6 + 256 * (a7)))))))) (e4 : v4 = V + V / 256) (e5 : v5 = v4 + v4 / 65536) (e6 : v6 = v5 + v5 / 4294967296) : v6 % 128 = a0 + a1 + a2 + a3 + a4 + a5 + a6 + a7 := by
  have q1 : V / 256 = a1 + 256 * (a2 + 256 * (a3 + 256 * (a4 + 256 * (a5 + 256 * (a6 + 256 * (a7)))))) := by rw [hV]; exact dv1 (Nat.lt_of_le_of_lt h0 (by decide))
  have r4 : v4 = (a0 + a1) + 256 * ((a1 + a2) + 256 * ((a2 + a3) + 256 * ((a3 + a4) + 256 * ((a4 + a5) + 256 * ((a5 + a6) + 256 * ((a6 + a7) + 256 * (a7))))))) := by rw [e4, q1, hV]; exact lin4 a0 a1 a2 a3 a4 a5 a6 a7
  have q2 : v4 / 65536 = (a2 + a3) + 256 * ((a3 + a4) + 256 * ((a4 + a5) + 256 * ((a5 + a6) + 256 * ((a6 + a7) + 256 * (a7))))) := by rw [r4]; exact dv2 (bd2 h0 h1) (bd2 h1 h2)
  have r5 : v5 = (a0 + a1 + a2 + a3) + 256 * ((a1 + a2 + a3 + a4) + 256 * ((a2 + a3 + a4 + a5) + 256 * ((a3 + a4 + a5 + a6) + 256 * ((a4 + a5 + a6 + a7) + 256 * ((a5 + a6 + a7) + 256 * ((a6 + a7) + 256 * (a7))))))) := by rw [e5, q2, r4]; exact lin5 a0 a1 a2 a3 a4 a5 a6 a7
  have q3 : v5 / 4294967296 = (a4 + a5 + a6 + a7) + 256 * ((a5 + a6 + a7) + 256 * ((a6 + a7) + 256 * (a7))) := by rw [r5]; exact dv4 (bd4 h0 h1 h2 h3) (bd4 h1 h2 h3 h4) (bd4 h2 h3 h4 h5) (bd4 h3 h4 h5 h6)
  have r6 : v6 = (a0 + a1 + a2 + a3 + a4 + a5 + a6 + a7) + 256 * ((a1 + a2 + a3 + a4 + a5 + a6 + a7) + 256 * ((a2 + a3 + a4 + a5 + a6 + a7) + 256 * ((a3 + a4 + a5 + a6 + a7) + 256 * ((a4 + a5 + a6 + a7) + 256 * ((a5 + a6 + a7) + 256 * ((a6 + a7) + 256 * (a7))))))) := by rw [e6, q3, r5]; exact lin6 a0 a1 a2 a3 a4 a5 a6 a7
  rw [r6]
  exact md (bd8 h0 h1 h2 h3 h4 h5 h6 h7)
