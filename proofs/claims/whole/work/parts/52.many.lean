/-! HOW MANY ARE BROKEN -/
section
variable {n d : Nat} {I : zi} {L : zl} {Q : zq} {k : Nat}
theorem sumB_le (f : Nat → Bool) : ∀ i, sumB f i ≤ i
  | 0 => Nat.le_refl 0
  | i + 1 => by
    have := sumB_le f i
    have : (f i).toNat ≤ 1 := Bool.toNat_le _
    rw [sumB]
    omega
theorem s_Q_howManyBroken (hz : Qz k) {x : Int32} (h : AB (L k 5) (bt x)) : zV n (d + 1) 65 0 [.ref k] [] I L Q ↔ Q (some (.int (bsI x 32))) I L := by
  have l := sumB_le (bt x) 32
  have e : bcL (L k 5) / 2 = bsI x 32 := by
    rw [bcL_sum, sumB_arcs h, bsI_sum x 32 (by omega)]
    have := pk_div (a := 2 * sumB (bt x) 32) (d := 2) (by omega) (by decide) (by decide)
    rw [Nat.mul_div_cancel_left _ (by decide)] at this
    exact this
  simp only [e65_0, e65_1, e65_4, e65_7, e65_8, e65_9, zpush_some, zpush_none, true_or, or_true, true_and, and_true, ↓reduceIte, zq_ite, zq_itel, hz.1, s_JL_bitCount, zz_2, not_false_eq_true, e]
end
