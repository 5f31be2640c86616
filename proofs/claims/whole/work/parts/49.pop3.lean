/-! BYTES, SUMMED -/
theorem sumB_congr {f g : Nat → Bool} : ∀ {i : Nat}, (∀ j, j < i → f j = g j) → sumB f i = sumB g i
  | 0, _ => rfl
  | i + 1, h => by rw [sumB, sumB, sumB_congr (fun j hj => h j (by omega)), h i (by omega)]
theorem sumB_split (f : Nat → Bool) (a : Nat) : ∀ i, sumB f (a + i) = sumB f a + sumB (fun j => f (a + j)) i
  | 0 => rfl
  | i + 1 => by
    show sumB f (a + i) + (f (a + i)).toNat = sumB f a + (sumB (fun j => f (a + j)) i + (f (a + i)).toNat)
    rw [sumB_split f a i, Nat.add_assoc]
theorem p8_sum : ∀ b, b < 256 → p8 b = sumB (b.testBit) 8 := by decide +kernel
def pS : Nat → Nat → Nat
  | 0, _ => 0
  | k + 1, X => p8 (X % 256) + pS k (X / 256)
theorem pS_sum : ∀ k X, pS k X = sumB (X.testBit) (8 * k)
  | 0, _ => rfl
  | k + 1, X => by
    rw [pS, pS_sum k, p8_sum _ (Nat.mod_lt _ (by decide)), show 8 * (k + 1) = 8 + 8 * k by omega, sumB_split]
    congr 1
    · refine sumB_congr (fun j hj => ?_)
      rw [show 256 = 2 ^ 8 from rfl, Nat.testBit_mod_two_pow, decide_eq_true hj, Bool.true_and]
    · refine sumB_congr (fun j hj => ?_)
      rw [show 256 = 2 ^ 8 from rfl, Nat.testBit_div_two_pow, Nat.add_comm]
/-- Long.bitCount's last number is the sum of all bits -/
theorem swar_all {X V v4 v5 v6 : Nat} (hX : X < 256 ^ 8) (hV : V = s3 (mK 15 8) (s2 (mK 51 8) (s1 (mK 85 8) X))) (e4 : v4 = V + V / 256) (e5 : v5 = v4 + v4 / 65536) (e6 : v6 = v5 + v5 / 4294967296) : v6 % 128 = sumB (X.testBit) 64 := by
  have hb : ∀ Y, p8 (Y % 256) ≤ 8 := fun Y => p8_le _ (Nat.mod_lt _ (by decide))
  rw [(swar 8 X hX).1] at hV
  have hs := pS_sum 8 X
  simp only [pS] at hs
  rw [show 64 = 8 * 8 from rfl, ← hs]
  have := swar_sum (hb X) (hb (X / 256)) (hb (X / 256 / 256)) (hb (X / 256 / 256 / 256)) (hb (X / 256 / 256 / 256 / 256)) (hb (X / 256 / 256 / 256 / 256 / 256)) (hb (X / 256 / 256 / 256 / 256 / 256 / 256)) (hb (X / 256 / 256 / 256 / 256 / 256 / 256 / 256)) (V := V) (by
    rw [hV]
    simp only [pK]
    simp only [Nat.add_comm, Nat.mul_zero, Nat.add_zero, Nat.zero_add]) e4 e5 e6
  rw [this]
  simp only [Nat.add_assoc, Nat.add_zero]
