section
variable {n d : Nat} {I : zi} {L : zl} {Q : zq} {k lim q : Nat}
theorem rngd (i : Int32) {q : Nat} (hq : q < 2 ^ 31) : ((i < 0) = True) ∨ ((i < 0) = False ∧ (nI q ≤ i) = True) ∨ ∃ p, p < q ∧ i = nI p ∧ (nI p < 0) = False ∧ (nI q ≤ nI p) = False := by
  rcases pk_ix i hq with h | h | ⟨j, h1, h2⟩
  · exact Or.inl (eq_true h)
  · refine Or.inr (Or.inl ⟨eq_false ?_, eq_true h⟩)
    intro g
    have h1 := Int32.le_iff_toInt_le.mp h
    have h2 := Int32.lt_iff_toInt_lt.mp g
    rw [nI_toInt hq] at h1
    rw [Int32.toInt_zero] at h2
    omega
  · exact Or.inr (Or.inr ⟨j, h1, h2, eq_false (nI_pos (by omega)), eq_false (nI_ge h1 hq)⟩)
theorem sub1_lt {q : Nat} (hq : q < 2 ^ 30) (i : Int32) : (nI q - 1 < i) = (nI q ≤ i) := by
  have h : (nI q - 1).toInt = (q : Int) - 1 := pk_sub_toInt (b := 1) hq (by decide)
  rw [Int32.lt_iff_toInt_lt, Int32.le_iff_toInt_le, h, nI_toInt (by omega)]
  exact propext ⟨fun g => by omega, fun g => by omega⟩
theorem h0m : ((0 : Int32) ≤ -1) = False := eq_false (by decide)
theorem h0q {q : Nat} (hq : q < 2 ^ 31) : ((0 : Int32) ≤ nI q) = True := eq_true (nI_pos' hq)
theorem s_X_refuse_m (hz : Sz k lim) (hm : I k 1 = -1) (i : Int32) : zV n (d + 1) 9 0 [.ref 3, .ref k, .int i] [] I L Q ↔ Q (some (.int (-3))) (fX I 1) L := by
  simp only [e9_0, e9_1, e9_4, e9_7, e9_8, e9_9, e9_12, e9_13, e9_14, e9_15, e9_18, e9_21, e9_22, e9_25, e9_26, e9_27, e9_30, zpush_some, zpush_none, true_or, or_true, true_and, and_true, ↓reduceIte, zq_ite, zq_itel, s_S_isMissing hz, hz.1, hm, h0m, zz_1, zo_3, s_X_found1]
theorem s_X_refuse_o (hz : Sz k lim) (hm : I k 1 = nI q) (hq : q < 2 ^ 31) {i : Int32} (h : ((i < 0) = True) ∨ ((i < 0) = False ∧ (nI q ≤ i) = True)) : zV n (d + 1) 9 0 [.ref 3, .ref k, .int i] [] I L Q ↔ Q (some (.int (-3))) (fX I 2) L := by
  rcases h with h1 | ⟨h1, h2⟩
  · simp only [e9_0, e9_1, e9_4, e9_7, e9_8, e9_9, e9_12, e9_13, e9_14, e9_15, e9_18, e9_21, e9_22, e9_25, e9_26, e9_27, e9_30, zpush_some, zpush_none, true_or, or_true, true_and, and_true, ↓reduceIte, zq_ite, zq_itel, s_S_isMissing hz, s_S_has hz, hz.1, hm, h0q hq, h1, zo_3, s_X_found2]
  · simp only [e9_0, e9_1, e9_4, e9_7, e9_8, e9_9, e9_12, e9_13, e9_14, e9_15, e9_18, e9_21, e9_22, e9_25, e9_26, e9_27, e9_30, zpush_some, zpush_none, true_or, or_true, true_and, and_true, ↓reduceIte, zq_ite, zq_itel, s_S_isMissing hz, s_S_has hz, hz.1, hm, h0q hq, h1, h2, zo_3, s_X_found2]
theorem s_X_refuse_k (hz : Sz k lim) (hm : I k 1 = nI q) (hq : q < 2 ^ 31) {p : Nat} (h1 : (nI p < 0) = False) (h2 : (nI q ≤ nI p) = False) : zV n (d + 1) 9 0 [.ref 3, .ref k, .int (nI p)] [] I L Q ↔ Q (some (.int 0)) I L := by
  simp only [e9_0, e9_1, e9_4, e9_7, e9_8, e9_9, e9_12, e9_13, e9_14, e9_15, e9_18, e9_21, e9_22, e9_25, e9_26, e9_27, e9_30, zpush_some, zpush_none, true_or, or_true, true_and, and_true, ↓reduceIte, zq_ite, zq_itel, s_S_isMissing hz, s_S_has hz, hz.1, hm, h0q hq, h1, h2, zz_1, zo_3]
theorem s_S_get_k (hz : Sz k lim) (hm : I k 1 = nI q) {p : Nat} (hp : p < lim) (hlim : lim ≤ 60) (h1 : (nI p < 0) = False) (h2 : (nI q ≤ nI p) = False) : zV n (d + 1) 13 0 [.ref k, .int (nI p)] [] I L Q ↔ Q (some (.int (I (k + 1) p))) I L := by
  have z1 : zin (nI p) lim = true := zin_ok hp (by omega)
  have c1 : (nI p).toNatClampNeg = p := nI_clamp (by omega)
  simp only [e13_0, e13_1, e13_2, e13_5, e13_8, e13_9, e13_12, e13_13, e13_14, e13_17, e13_18, zpush_some, zpush_none, true_or, or_true, true_and, and_true, ↓reduceIte, zq_ite, zq_itel, s_S_has hz, hz.1, hz.2.1, hz.2.2.1, hz.2.2.2.2, hm, h1, h2, zz_1, z1, c1]
theorem s_S_set_k (hz : Sz k lim) (hm : I k 1 = nI q) {p : Nat} {v : Int32} (hp : p < lim) (hlim : lim ≤ 60) (h1 : (nI p < 0) = False) (h2 : (nI q ≤ nI p) = False) : zV n (d + 2) 12 0 [.ref k, .int (nI p), .int v, .null] [] I L Q ↔ Q (some (.int (I (k + 1) p))) (zup I (k + 1) p v) L := by
  have z1 : zin (nI p) lim = true := zin_ok hp (by omega)
  have c1 : (nI p).toNatClampNeg = p := nI_clamp (by omega)
  simp only [e12_0, e12_1, e12_2, e12_5, e12_6, e12_7, e12_8, e12_11, e12_14, e12_15, e12_18, e12_19, e12_20, e12_21, e12_22, zpush_some, zpush_none, true_or, or_true, true_and, and_true, ↓reduceIte, zq_ite, zq_itel, s_S_get_k hz hm hp hlim h1 h2, s_S_has hz, hz.1, hz.2.1, hz.2.2.2.1, hz.2.2.2.2, hm, h1, h2, zz_1, z1, c1]
/-- the check's wrongAt -/
theorem s_M_wrongAt_b (i r : Int32) (h : ((r < 0) = True) ∨ ((r < 0) = False ∧ ((5 : Int32) < r) = True)) : zV n (d + 1) 129 0 [.ref 62, .int r, .int i] [] I L Q ↔ Q (some (.int (-1))) I L := by
  rcases h with h1 | ⟨h1, h2⟩
  · simp only [e129_0, e129_1, e129_2, e129_3, e129_6, e129_9, e129_10, e129_11, e129_12, e129_15, e129_16, e129_17, e129_20, e129_21, e129_22, e129_25, e129_26, e129_27, e129_28, e129_29, e129_32, e129_33, e129_34, e129_35, e129_36, e129_39, e129_42, e129_43, e129_46, e129_47, e129_48, e129_51, zpush_some, zpush_none, true_or, or_true, true_and, and_true, ↓reduceIte, zq_ite, zq_itel, s_M_in, h1, not_true_eq_false]
  · simp only [e129_0, e129_1, e129_2, e129_3, e129_6, e129_9, e129_10, e129_11, e129_12, e129_15, e129_16, e129_17, e129_20, e129_21, e129_22, e129_25, e129_26, e129_27, e129_28, e129_29, e129_32, e129_33, e129_34, e129_35, e129_36, e129_39, e129_42, e129_43, e129_46, e129_47, e129_48, e129_51, zpush_some, zpush_none, true_or, or_true, true_and, and_true, ↓reduceIte, zq_ite, zq_itel, s_M_in, h1, h2, not_true_eq_false]
theorem s_M_wrongAt_m {j : Nat} (hj : j < 6) (h1 : (nI j < 0) = False) (h3 : ((5 : Int32) < nI j) = False) (hm : I 63 j = -1) (i : Int32) : zV n (d + 1) 129 0 [.ref 62, .int (nI j), .int i] [] I L Q ↔ Q (some (.int (-3))) (fM I 1) L := by
  have zj : zin (nI j) 6 = true := zin_ok hj (by decide)
  have cj : (nI j).toNatClampNeg = j := nI_clamp (by omega)
  simp only [e129_0, e129_1, e129_2, e129_3, e129_6, e129_9, e129_10, e129_11, e129_12, e129_15, e129_16, e129_17, e129_20, e129_21, e129_22, e129_25, e129_26, e129_27, e129_28, e129_29, e129_32, e129_33, e129_34, e129_35, e129_36, e129_39, e129_42, e129_43, e129_46, e129_47, e129_48, e129_51, zpush_some, zpush_none, true_or, or_true, true_and, and_true, ↓reduceIte, zq_ite, zq_itel, s_M_in, h1, h3, zz_1, not_false_eq_true, zo_62, zr_62_0, zn_63, zl_63, zj, cj, hm, h0m, s_M_finds1]
theorem s_M_wrongAt_o {j : Nat} (hj : j < 6) (h1 : (nI j < 0) = False) (h3 : ((5 : Int32) < nI j) = False) (hm : I 63 j = nI q) (hq : q ≤ 40) {i : Int32} (h : ((i < 0) = True) ∨ ((i < 0) = False ∧ (nI q ≤ i) = True)) : zV n (d + 1) 129 0 [.ref 62, .int (nI j), .int i] [] I L Q ↔ Q (some (.int (-3))) (fM I 2) L := by
  have zj : zin (nI j) 6 = true := zin_ok hj (by decide)
  have cj : (nI j).toNatClampNeg = j := nI_clamp (by omega)
  rcases h with g1 | ⟨g1, g2⟩
  · simp only [e129_0, e129_1, e129_2, e129_3, e129_6, e129_9, e129_10, e129_11, e129_12, e129_15, e129_16, e129_17, e129_20, e129_21, e129_22, e129_25, e129_26, e129_27, e129_28, e129_29, e129_32, e129_33, e129_34, e129_35, e129_36, e129_39, e129_42, e129_43, e129_46, e129_47, e129_48, e129_51, zpush_some, zpush_none, true_or, or_true, true_and, and_true, ↓reduceIte, zq_ite, zq_itel, s_M_in, h1, h3, zz_1, not_false_eq_true, zo_62, zr_62_0, zn_63, zl_63, zj, cj, hm, h0q (show q < 2 ^ 31 by omega), g1, s_M_finds2]
  · simp only [e129_0, e129_1, e129_2, e129_3, e129_6, e129_9, e129_10, e129_11, e129_12, e129_15, e129_16, e129_17, e129_20, e129_21, e129_22, e129_25, e129_26, e129_27, e129_28, e129_29, e129_32, e129_33, e129_34, e129_35, e129_36, e129_39, e129_42, e129_43, e129_46, e129_47, e129_48, e129_51, zpush_some, zpush_none, true_or, or_true, true_and, and_true, ↓reduceIte, zq_ite, zq_itel, s_M_in, h1, h3, zz_1, not_false_eq_true, zo_62, zr_62_0, zn_63, zl_63, zj, cj, hm, h0q (show q < 2 ^ 31 by omega), sub1_lt (show q < 2 ^ 30 by omega), g1, g2, s_M_finds2]
theorem s_M_wrongAt_k {j : Nat} (hj : j < 6) (h1 : (nI j < 0) = False) (h3 : ((5 : Int32) < nI j) = False) (hm : I 63 j = nI q) (hq : q ≤ 40) {p : Nat} (g1 : (nI p < 0) = False) (g2 : (nI q ≤ nI p) = False) : zV n (d + 1) 129 0 [.ref 62, .int (nI j), .int (nI p)] [] I L Q ↔ Q (some (.int 0)) I L := by
  have zj : zin (nI j) 6 = true := zin_ok hj (by decide)
  have cj : (nI j).toNatClampNeg = j := nI_clamp (by omega)
  simp only [e129_0, e129_1, e129_2, e129_3, e129_6, e129_9, e129_10, e129_11, e129_12, e129_15, e129_16, e129_17, e129_20, e129_21, e129_22, e129_25, e129_26, e129_27, e129_28, e129_29, e129_32, e129_33, e129_34, e129_35, e129_36, e129_39, e129_42, e129_43, e129_46, e129_47, e129_48, e129_51, zpush_some, zpush_none, true_or, or_true, true_and, and_true, ↓reduceIte, zq_ite, zq_itel, s_M_in, h1, h3, zz_1, not_false_eq_true, zo_62, zr_62_0, zn_63, zl_63, zj, cj, hm, h0q (show q < 2 ^ 31 by omega), sub1_lt (show q < 2 ^ 30 by omega), g1, g2]
theorem p_lay (h : Inv I L) (r i v : Int32) : zV n (d + 3) 8 0 [.ref 3, .int r, .int i, .int v, .null] [] I L (fun v1 I1 L1 => zV n (d + 3) 128 0 [.ref 62, .int r, .int i, .int v, .null, .null] [] I1 L1 (fun v2 I2 L2 => same v1 v2 ∧ Inv I2 L2)) := by
  rcases rng r 5 (by decide) (a := 6) (b := 5) rfl rfl with h1 | ⟨h1, h2, h3⟩ | ⟨j, hj, rfl, h1, h2, h3⟩
  · simp only [e8_0, e8_1, e8_4, e8_7, e8_8, e8_9, e8_10, e8_11, e8_14, e8_15, e8_16, e8_17, e8_20, e8_22, e8_24, e8_27, e8_29, e8_32, e8_33, e8_34, e8_35, e8_38, e8_39, e8_40, e8_41, e8_42, e8_45, e8_48, e128_0, e128_1, e128_2, e128_3, e128_6, e128_8, e128_10, e128_13, e128_15, e128_16, e128_17, e128_20, e128_22, e128_23, e128_24, e128_25, e128_26, e128_27, e128_27a, e128_29, e128_30, e128_33, e128_35, e128_36, e128_37, e128_38, e128_39, e128_40, e128_41, e128_42, e128_44, e128_47, zpush_some, zpush_none, true_or, or_true, true_and, and_true, ↓reduceIte, zq_ite, zq_itel, s_X_isRow, h1, not_true_eq_false, zo_62, s_M_wrongAt_b i r (Or.inl h1), show ((-1 : Int32) = 0) = False from eq_false (by decide)]
    exact ⟨same_i, h⟩
  · simp only [e8_0, e8_1, e8_4, e8_7, e8_8, e8_9, e8_10, e8_11, e8_14, e8_15, e8_16, e8_17, e8_20, e8_22, e8_24, e8_27, e8_29, e8_32, e8_33, e8_34, e8_35, e8_38, e8_39, e8_40, e8_41, e8_42, e8_45, e8_48, e128_0, e128_1, e128_2, e128_3, e128_6, e128_8, e128_10, e128_13, e128_15, e128_16, e128_17, e128_20, e128_22, e128_23, e128_24, e128_25, e128_26, e128_27, e128_27a, e128_29, e128_30, e128_33, e128_35, e128_36, e128_37, e128_38, e128_39, e128_40, e128_41, e128_42, e128_44, e128_47, zpush_some, zpush_none, true_or, or_true, true_and, and_true, ↓reduceIte, zq_ite, zq_itel, s_X_isRow, h1, h2, not_true_eq_false, zo_62, s_M_wrongAt_b i r (Or.inr ⟨h1, h3⟩), show ((-1 : Int32) = 0) = False from eq_false (by decide)]
    exact ⟨same_i, h⟩
  · obtain ⟨z0, hz⟩ := row_z j hj
    have zj : zin (nI j) 6 = true := zin_ok hj (by decide)
    have cj : (nI j).toNatClampNeg = j := nI_clamp (by omega)
    have m3 : ((-3 : Int32) = 0) = False := eq_false (by decide)
    obtain ⟨hA, hR, hT, hC⟩ := id h
    obtain ⟨e1, e2⟩ := hR j hj
    have o63 : ∀ f, fX I f 63 j = I 63 j := fun f => fX_o (by omega)
    by_cases hm : I 63 j = -1
    · simp only [e8_0, e8_1, e8_4, e8_7, e8_8, e8_9, e8_10, e8_11, e8_14, e8_15, e8_16, e8_17, e8_20, e8_22, e8_24, e8_27, e8_29, e8_32, e8_33, e8_34, e8_35, e8_38, e8_39, e8_40, e8_41, e8_42, e8_45, e8_48, e128_0, e128_1, e128_2, e128_3, e128_6, e128_8, e128_10, e128_13, e128_15, e128_16, e128_17, e128_20, e128_22, e128_23, e128_24, e128_25, e128_26, e128_27, e128_27a, e128_29, e128_30, e128_33, e128_35, e128_36, e128_37, e128_38, e128_39, e128_40, e128_41, e128_42, e128_44, e128_47, zpush_some, zpush_none, true_or, or_true, true_and, and_true, ↓reduceIte, zq_ite, zq_itel, s_X_isRow, h1, h2, zz_1, not_false_eq_true, zo_3, zr_3_0, zn_4, zl_4, zj, cj, z0, s_X_refuse_m hz (e1.trans hm), m3, zo_62, s_M_wrongAt_m hj h1 h3 ((o63 1).trans hm)]
      exact ⟨same_i, inv_find (by decide) (by decide) h⟩
    · obtain ⟨q, q1, q2, q3⟩ := e2.resolve_left hm
      rcases rngd i (show q < 2 ^ 31 by omega) with g1 | ⟨g1, g2⟩ | ⟨p, hp, rfl, g1, g2⟩
      · simp only [e8_0, e8_1, e8_4, e8_7, e8_8, e8_9, e8_10, e8_11, e8_14, e8_15, e8_16, e8_17, e8_20, e8_22, e8_24, e8_27, e8_29, e8_32, e8_33, e8_34, e8_35, e8_38, e8_39, e8_40, e8_41, e8_42, e8_45, e8_48, e128_0, e128_1, e128_2, e128_3, e128_6, e128_8, e128_10, e128_13, e128_15, e128_16, e128_17, e128_20, e128_22, e128_23, e128_24, e128_25, e128_26, e128_27, e128_27a, e128_29, e128_30, e128_33, e128_35, e128_36, e128_37, e128_38, e128_39, e128_40, e128_41, e128_42, e128_44, e128_47, zpush_some, zpush_none, true_or, or_true, true_and, and_true, ↓reduceIte, zq_ite, zq_itel, s_X_isRow, h1, h2, zz_1, not_false_eq_true, zo_3, zr_3_0, zn_4, zl_4, zj, cj, z0, s_X_refuse_o hz (e1.trans q2) (show q < 2 ^ 31 by omega) (Or.inl g1), m3, zo_62, s_M_wrongAt_o hj h1 h3 ((o63 2).trans q2) q1 (Or.inl g1)]
        exact ⟨same_i, inv_find (by decide) (by decide) h⟩
      · simp only [e8_0, e8_1, e8_4, e8_7, e8_8, e8_9, e8_10, e8_11, e8_14, e8_15, e8_16, e8_17, e8_20, e8_22, e8_24, e8_27, e8_29, e8_32, e8_33, e8_34, e8_35, e8_38, e8_39, e8_40, e8_41, e8_42, e8_45, e8_48, e128_0, e128_1, e128_2, e128_3, e128_6, e128_8, e128_10, e128_13, e128_15, e128_16, e128_17, e128_20, e128_22, e128_23, e128_24, e128_25, e128_26, e128_27, e128_27a, e128_29, e128_30, e128_33, e128_35, e128_36, e128_37, e128_38, e128_39, e128_40, e128_41, e128_42, e128_44, e128_47, zpush_some, zpush_none, true_or, or_true, true_and, and_true, ↓reduceIte, zq_ite, zq_itel, s_X_isRow, h1, h2, zz_1, not_false_eq_true, zo_3, zr_3_0, zn_4, zl_4, zj, cj, z0, s_X_refuse_o hz (e1.trans q2) (show q < 2 ^ 31 by omega) (Or.inr ⟨g1, g2⟩), m3, zo_62, s_M_wrongAt_o hj h1 h3 ((o63 2).trans q2) q1 (Or.inr ⟨g1, g2⟩)]
        exact ⟨same_i, inv_find (by decide) (by decide) h⟩
      · have zp : zin (nI (40 * j + p)) 240 = true := zin_ok (by omega) (by decide)
        have cp : (nI (40 * j + p)).toNatClampNeg = 40 * j + p := nI_clamp (by omega)
        have o2 : zup (zup I (36 + 2 * j + 1) p v) 3 12 (I (36 + 2 * j + 1) p) 63 j = nI q := by
          rw [zup_ne (by decide), zup_ne (by omega)]; exact q2
        have o3 : zup (zup I (36 + 2 * j + 1) p v) 3 12 (I (36 + 2 * j + 1) p) 64 (40 * j + p) = I (36 + 2 * j + 1) p := by
          rw [zup_ne (by decide), zup_ne (by omega), show 36 + 2 * j + 1 = 36 + 1 + 2 * j by omega]; exact (q3 p hp).symm
        simp only [e8_0, e8_1, e8_4, e8_7, e8_8, e8_9, e8_10, e8_11, e8_14, e8_15, e8_16, e8_17, e8_20, e8_22, e8_24, e8_27, e8_29, e8_32, e8_33, e8_34, e8_35, e8_38, e8_39, e8_40, e8_41, e8_42, e8_45, e8_48, e128_0, e128_1, e128_2, e128_3, e128_6, e128_8, e128_10, e128_13, e128_15, e128_16, e128_17, e128_20, e128_22, e128_23, e128_24, e128_25, e128_26, e128_27, e128_27a, e128_29, e128_30, e128_33, e128_35, e128_36, e128_37, e128_38, e128_39, e128_40, e128_41, e128_42, e128_44, e128_47, zpush_some, zpush_none, true_or, or_true, true_and, and_true, ↓reduceIte, zq_ite, zq_itel, s_X_isRow, h1, h2, zz_1, not_false_eq_true, zo_3, zr_3_0, zn_4, zl_4, zj, cj, z0, hz.1, s_X_refuse_k hz (e1.trans q2) (show q < 2 ^ 31 by omega) g1 g2, s_S_set_k hz (e1.trans q2) (show p < 40 by omega) (by decide) g1 g2, s_X_tell, zo_62, s_M_wrongAt_k hj h1 h3 o2 q1 g1 g2, zr_62_1, zn_64, zw_64, zl_64, m40, zp, cp, o3, s_M_tells]
        refine ⟨same_i, inv_row h (fun r hr => ?_) ?_ (fun k i b1 b2 b3 b4 b5 => ?_)⟩
        · have ho : ∀ k i, (k ≠ 36 + 2 * j + 1 ∨ i ≠ p) → k ≠ 3 → (k ≠ 64 ∨ i ≠ 40 * j + p) → k ≠ 62 → zup (zup (zup (zup I (36 + 2 * j + 1) p v) 3 12 (I (36 + 2 * j + 1) p)) 64 (40 * j + p) v) 62 6 (I (36 + 2 * j + 1) p) k i = I k i := fun k i c1 c2 c3 c4 => by
            rw [zup_ne c4]
            have e3 : zup (zup (zup I (36 + 2 * j + 1) p v) 3 12 (I (36 + 2 * j + 1) p)) 64 (40 * j + p) v k i = zup (zup I (36 + 2 * j + 1) p v) 3 12 (I (36 + 2 * j + 1) p) k i := by
              rcases c3 with g | g
              · exact zup_ne g
              · exact zup_nj g
            rw [e3, zup_ne c2]
            rcases c1 with g | g
            · exact zup_ne g
            · exact zup_nj g
          obtain ⟨b1, b2⟩ := hR r hr
          rw [ho _ 1 (by omega) (by omega) (by omega) (by omega), ho 63 _ (by omega) (by omega) (by omega) (by omega)]
          refine ⟨b1, ?_⟩
          rcases b2 with b2 | ⟨q', c1, c2, c3⟩
          · exact Or.inl b2
          · refine Or.inr ⟨q', c1, c2, fun i hi => ?_⟩
            by_cases e : r = j ∧ i = p
            · obtain ⟨rfl, rfl⟩ := e
              rw [zup_ne (by omega), zup_ne (by omega), zup_ne (by omega), show 36 + 1 + 2 * r = 36 + 2 * r + 1 by omega, zup_eq, zup_ne (by omega), zup_eq]
            · rw [ho _ _ (by omega) (by omega) (by omega) (by omega), ho 64 _ (by omega) (by omega) (by omega) (by omega)]
              exact c3 i hi
        · rw [zup_eq, zup_ne (by omega), zup_ne (by omega), zup_eq]
        · by_cases c1 : k = 62
          · subst c1
            rw [zup_nj (by omega), zup_ne (by omega), zup_ne (by omega), zup_ne (by omega)]
          · by_cases c2 : k = 3
            · subst c2
              rw [zup_ne (by omega), zup_ne (by omega), zup_nj (by omega), zup_ne (by omega)]
            · rw [zup_ne c1, zup_ne b3, zup_ne c2, zup_ne (by omega)]
end
