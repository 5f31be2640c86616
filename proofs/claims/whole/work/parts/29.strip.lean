/-! STRIPS -/
def Sz (k lim : Nat) : Prop := zobj k = 2 ∧ zref k 0 = k + 1 ∧ zint (k + 1) = true ∧ zwr (k + 1) = true ∧ zlen (k + 1) = lim
section
variable {n d : Nat} {I : zi} {L : zl} {Q : zq} {k lim : Nat}
theorem s_S_isMissing (hz : Sz k lim) : zV n d 10 0 [.ref k] [] I L Q ↔ Q (some (.int (if 0 ≤ I k 1 then 0 else 1))) I L := by
  simp only [e10_0, e10_1, e10_4, e10_7, e10_8, e10_11, e10_12, zpush_some, zpush_none, true_or, or_true, true_and, and_true, ↓reduceIte, zq_ite, zq_itel, hz.1]
theorem s_S_drop (hz : Sz k lim) : zV n d 17 0 [.ref k] [] I L Q ↔ Q none (zup I k 1 (-1)) L := by
  simp only [e17_0, e17_1, e17_2, e17_5, zpush_some, zpush_none, true_or, or_true, true_and, and_true, ↓reduceIte, zq_ite, zq_itel, hz.1]
theorem s_S_has (hz : Sz k lim) (i : Int32) : zV n d 11 0 [.ref k, .int i] [] I L Q ↔ Q (some (.int (if i < 0 then 0 else if I k 1 ≤ i then 0 else 1))) I L := by
  simp only [e11_0, e11_1, e11_4, e11_5, e11_6, e11_9, e11_12, e11_13, e11_16, e11_17, zpush_some, zpush_none, true_or, or_true, true_and, and_true, ↓reduceIte, zq_ite, zq_itel, hz.1]
theorem s_S_hasMany (hz : Sz k lim) (i j : Int32) : zV n d 19 0 [.ref k, .int i, .int j] [] I L Q ↔ Q (some (.int (if i < 0 then 0 else if j < 0 then 0 else if I k 1 - i < j then 0 else 1))) I L := by
  simp only [e19_0, e19_1, e19_4, e19_5, e19_8, e19_9, e19_10, e19_13, e19_14, e19_15, e19_18, e19_19, e19_22, e19_23, zpush_some, zpush_none, true_or, or_true, true_and, and_true, ↓reduceIte, zq_ite, zq_itel, hz.1]
end
