section
variable {n d : Nat} {I : zi} {L : zl} {Q : zq} {k lim q : Nat}
theorem p_put (h : Inv I L) (r i v : Int32) : zV n (d + 3) 24 0 [.ref 3, .int r, .int i, .int v, .null] [] I L (fun v1 I1 L1 => zV n (d + 3) 137 0 [.ref 62, .int r, .int i, .int v, .null] [] I1 L1 (fun v2 I2 L2 => same v1 v2 ∧ Inv I2 L2)) := by
  rcases rng r 3 (by decide) (a := 4) (b := 3) rfl rfl with h1 | ⟨h1, h2, h3⟩ | ⟨j, hj, rfl, h1, h2, h3⟩
  · simp only [e24_0, e24_1, e24_4, e24_7, e24_8, e24_9, e24_10, e24_11, e24_14, e24_15, e24_16, e24_17, e24_20, e24_22, e24_24, e24_27, e24_29, e24_32, e24_33, e24_36, e24_37, e24_38, e24_39, e24_40, e24_41, e24_44, e24_47, e24_48, e137_0, e137_1, e137_2, e137_3, e137_6, e137_9, e137_10, e137_11, e137_12, e137_15, e137_16, e137_17, e137_20, e137_21, e137_22, e137_25, e137_26, e137_27, e137_28, e137_29, e137_32, e137_33, e137_34, e137_35, e137_36, e137_39, e137_42, e137_43, e137_44, e137_47, e137_48, e137_49, e137_52, e137_54, e137_55, e137_56, e137_57, e137_58, e137_59, e137_61, e137_62, e137_65, e137_67, e137_68, e137_69, e137_70, e137_71, e137_72, e137_73, e137_74, e137_76, e137_79, e137_80, zpush_some, zpush_none, true_or, or_true, true_and, and_true, ↓reduceIte, zq_ite, zq_itel, s_X_isText, s_M_in, h1, not_true_eq_false]
    exact ⟨same_i, h⟩
  · simp only [e24_0, e24_1, e24_4, e24_7, e24_8, e24_9, e24_10, e24_11, e24_14, e24_15, e24_16, e24_17, e24_20, e24_22, e24_24, e24_27, e24_29, e24_32, e24_33, e24_36, e24_37, e24_38, e24_39, e24_40, e24_41, e24_44, e24_47, e24_48, e137_0, e137_1, e137_2, e137_3, e137_6, e137_9, e137_10, e137_11, e137_12, e137_15, e137_16, e137_17, e137_20, e137_21, e137_22, e137_25, e137_26, e137_27, e137_28, e137_29, e137_32, e137_33, e137_34, e137_35, e137_36, e137_39, e137_42, e137_43, e137_44, e137_47, e137_48, e137_49, e137_52, e137_54, e137_55, e137_56, e137_57, e137_58, e137_59, e137_61, e137_62, e137_65, e137_67, e137_68, e137_69, e137_70, e137_71, e137_72, e137_73, e137_74, e137_76, e137_79, e137_80, zpush_some, zpush_none, true_or, or_true, true_and, and_true, ↓reduceIte, zq_ite, zq_itel, s_X_isText, s_M_in, h1, h2, h3, not_true_eq_false]
    exact ⟨same_i, h⟩
  · obtain ⟨z0, hz⟩ := text_z j hj
    have zj : zin (nI j) 4 = true := zin_ok hj (by decide)
    have cj : (nI j).toNatClampNeg = j := nI_clamp (by omega)
    have m3 : ((-3 : Int32) = 0) = False := eq_false (by decide)
    obtain ⟨hA, hR, hT, hC⟩ := id h
    obtain ⟨e1, e2⟩ := hT j hj
    have o65 : ∀ f, fX I f 65 j = I 65 j := fun f => fX_o (by omega)
    by_cases hm : I 65 j = -1
    · simp only [e24_0, e24_1, e24_4, e24_7, e24_8, e24_9, e24_10, e24_11, e24_14, e24_15, e24_16, e24_17, e24_20, e24_22, e24_24, e24_27, e24_29, e24_32, e24_33, e24_36, e24_37, e24_38, e24_39, e24_40, e24_41, e24_44, e24_47, e24_48, e137_0, e137_1, e137_2, e137_3, e137_6, e137_9, e137_10, e137_11, e137_12, e137_15, e137_16, e137_17, e137_20, e137_21, e137_22, e137_25, e137_26, e137_27, e137_28, e137_29, e137_32, e137_33, e137_34, e137_35, e137_36, e137_39, e137_42, e137_43, e137_44, e137_47, e137_48, e137_49, e137_52, e137_54, e137_55, e137_56, e137_57, e137_58, e137_59, e137_61, e137_62, e137_65, e137_67, e137_68, e137_69, e137_70, e137_71, e137_72, e137_73, e137_74, e137_76, e137_79, e137_80, zpush_some, zpush_none, true_or, or_true, true_and, and_true, ↓reduceIte, zq_ite, zq_itel, s_X_isText, s_M_in, h1, h2, h3, zz_1, not_false_eq_true, zo_3, zr_3_1, zn_5, zl_5, zj, cj, z0, s_X_refuse_m hz (e1.trans hm), m3, zo_62, zr_62_2, zn_65, zl_65, o65, hm, h0m, s_M_finds1]
      exact ⟨same_i, inv_find (by decide) (by decide) h⟩
    · obtain ⟨q, q1, q2, q3⟩ := e2.resolve_left hm
      have hq0 := h0q (show q < 2 ^ 31 by omega)
      rcases rngd i (show q < 2 ^ 31 by omega) with g1 | ⟨g1, g2⟩ | ⟨p, hp, rfl, g1, g2⟩
      · simp only [e24_0, e24_1, e24_4, e24_7, e24_8, e24_9, e24_10, e24_11, e24_14, e24_15, e24_16, e24_17, e24_20, e24_22, e24_24, e24_27, e24_29, e24_32, e24_33, e24_36, e24_37, e24_38, e24_39, e24_40, e24_41, e24_44, e24_47, e24_48, e137_0, e137_1, e137_2, e137_3, e137_6, e137_9, e137_10, e137_11, e137_12, e137_15, e137_16, e137_17, e137_20, e137_21, e137_22, e137_25, e137_26, e137_27, e137_28, e137_29, e137_32, e137_33, e137_34, e137_35, e137_36, e137_39, e137_42, e137_43, e137_44, e137_47, e137_48, e137_49, e137_52, e137_54, e137_55, e137_56, e137_57, e137_58, e137_59, e137_61, e137_62, e137_65, e137_67, e137_68, e137_69, e137_70, e137_71, e137_72, e137_73, e137_74, e137_76, e137_79, e137_80, zpush_some, zpush_none, true_or, or_true, true_and, and_true, ↓reduceIte, zq_ite, zq_itel, s_X_isText, s_M_in, h1, h2, h3, zz_1, not_false_eq_true, not_true_eq_false, zo_3, zr_3_1, zn_5, zl_5, zj, cj, z0, s_X_refuse_o hz (e1.trans q2) (show q < 2 ^ 31 by omega) (Or.inl g1), m3, zo_62, zr_62_2, zn_65, zl_65, o65, q2, hq0, g1, s_M_finds2]
        exact ⟨same_i, inv_find (by decide) (by decide) h⟩
      · simp only [e24_0, e24_1, e24_4, e24_7, e24_8, e24_9, e24_10, e24_11, e24_14, e24_15, e24_16, e24_17, e24_20, e24_22, e24_24, e24_27, e24_29, e24_32, e24_33, e24_36, e24_37, e24_38, e24_39, e24_40, e24_41, e24_44, e24_47, e24_48, e137_0, e137_1, e137_2, e137_3, e137_6, e137_9, e137_10, e137_11, e137_12, e137_15, e137_16, e137_17, e137_20, e137_21, e137_22, e137_25, e137_26, e137_27, e137_28, e137_29, e137_32, e137_33, e137_34, e137_35, e137_36, e137_39, e137_42, e137_43, e137_44, e137_47, e137_48, e137_49, e137_52, e137_54, e137_55, e137_56, e137_57, e137_58, e137_59, e137_61, e137_62, e137_65, e137_67, e137_68, e137_69, e137_70, e137_71, e137_72, e137_73, e137_74, e137_76, e137_79, e137_80, zpush_some, zpush_none, true_or, or_true, true_and, and_true, ↓reduceIte, zq_ite, zq_itel, s_X_isText, s_M_in, h1, h2, h3, zz_1, not_false_eq_true, not_true_eq_false, zo_3, zr_3_1, zn_5, zl_5, zj, cj, z0, s_X_refuse_o hz (e1.trans q2) (show q < 2 ^ 31 by omega) (Or.inr ⟨g1, g2⟩), m3, zo_62, zr_62_2, zn_65, zl_65, o65, q2, hq0, sub1_lt (show q < 2 ^ 30 by omega), g1, g2, s_M_finds2]
        exact ⟨same_i, inv_find (by decide) (by decide) h⟩
      · have zp : zin (nI (60 * j + p)) 240 = true := zin_ok (by omega) (by decide)
        have cp : (nI (60 * j + p)).toNatClampNeg = 60 * j + p := nI_clamp (by omega)
        have o2 : zup I (48 + 2 * j + 1) p v.toInt8.toInt32 65 j = nI q := by
          rw [zup_ne (by omega)]; exact q2
        have o3 : zup I (48 + 2 * j + 1) p v.toInt8.toInt32 66 (60 * j + p) = I (48 + 2 * j + 1) p := by
          rw [zup_ne (by omega), show 48 + 2 * j + 1 = 48 + 1 + 2 * j by omega]; exact (q3 p hp).symm
        simp only [e24_0, e24_1, e24_4, e24_7, e24_8, e24_9, e24_10, e24_11, e24_14, e24_15, e24_16, e24_17, e24_20, e24_22, e24_24, e24_27, e24_29, e24_32, e24_33, e24_36, e24_37, e24_38, e24_39, e24_40, e24_41, e24_44, e24_47, e24_48, e137_0, e137_1, e137_2, e137_3, e137_6, e137_9, e137_10, e137_11, e137_12, e137_15, e137_16, e137_17, e137_20, e137_21, e137_22, e137_25, e137_26, e137_27, e137_28, e137_29, e137_32, e137_33, e137_34, e137_35, e137_36, e137_39, e137_42, e137_43, e137_44, e137_47, e137_48, e137_49, e137_52, e137_54, e137_55, e137_56, e137_57, e137_58, e137_59, e137_61, e137_62, e137_65, e137_67, e137_68, e137_69, e137_70, e137_71, e137_72, e137_73, e137_74, e137_76, e137_79, e137_80, zpush_some, zpush_none, true_or, or_true, true_and, and_true, ↓reduceIte, zq_ite, zq_itel, s_X_isText, s_M_in, h1, h2, h3, zz_1, not_false_eq_true, not_true_eq_false, zo_3, zr_3_1, zn_5, zl_5, zj, cj, z0, hz.1, s_X_refuse_k hz (e1.trans q2) (show q < 2 ^ 31 by omega) g1 g2, s_S_set_k hz (e1.trans q2) (show p < 60 by omega) (by decide) g1 g2, zo_62, zr_62_2, zn_65, zl_65, o2, hq0, sub1_lt (show q < 2 ^ 30 by omega), g1, g2, zr_62_3, zn_66, zw_66, zl_66, m60, zp, cp, o3]
        refine ⟨same_i, inv_text h (fun r hr => ?_) (fun k i b1 b2 b3 => ?_)⟩
        · have ho : ∀ k i, (k ≠ 48 + 2 * j + 1 ∨ i ≠ p) → (k ≠ 66 ∨ i ≠ 60 * j + p) → zup (zup I (48 + 2 * j + 1) p v.toInt8.toInt32) 66 (60 * j + p) v.toInt8.toInt32 k i = I k i := fun k i c1 c3 => by
            have e3 : zup (zup I (48 + 2 * j + 1) p v.toInt8.toInt32) 66 (60 * j + p) v.toInt8.toInt32 k i = zup I (48 + 2 * j + 1) p v.toInt8.toInt32 k i := by
              rcases c3 with g | g
              · exact zup_ne g
              · exact zup_nj g
            rw [e3]
            rcases c1 with g | g
            · exact zup_ne g
            · exact zup_nj g
          obtain ⟨b1, b2⟩ := hT r hr
          rw [ho _ 1 (by omega) (by omega), ho 65 _ (by omega) (by omega)]
          refine ⟨b1, ?_⟩
          rcases b2 with b2 | ⟨q', c1, c2, c3⟩
          · exact Or.inl b2
          · refine Or.inr ⟨q', c1, c2, fun i hi => ?_⟩
            by_cases e : r = j ∧ i = p
            · obtain ⟨rfl, rfl⟩ := e
              rw [zup_ne (by omega), show 48 + 1 + 2 * r = 48 + 2 * r + 1 by omega, zup_eq, zup_eq]
            · rw [ho _ _ (by omega) (by omega), ho 66 _ (by omega) (by omega)]
              exact c3 i hi
        · rw [zup_ne b3, zup_ne (by omega)]
/-- sums over a row -/
def sumL (f : Nat → Int32) : Nat → Int64
  | 0 => 0
  | i + 1 => sumL f i + (f i).toInt64
theorem sumL_congr {f g : Nat → Int32} : ∀ {i : Nat}, (∀ j, j < i → f j = g j) → sumL f i = sumL g i
  | 0, _ => rfl
  | i + 1, h => by rw [sumL, sumL, sumL_congr (fun j hj => h j (by omega)), h i (by omega)]
theorem l_X_mean {a1 : Value} (hz : Sz k 40) (hm : I k 1 = nI q) (hq : q ≤ 40) (hQ : zV n (d + 2) 21 72 [.ref 3, a1, .ref k, .long (sumL (I (k + 1)) q), .null, .int (nI q)] [] I L Q) :
    ∀ r i, i + r = q → zV n (d + 2) 21 47 [.ref 3, a1, .ref k, .long (sumL (I (k + 1)) i), .null, .int (nI i)] [] I L Q := by
  intro r
  induction r with
  | zero =>
    intro i hi
    have e : i = q := by omega
    subst e
    simp only [e21_47, e21_49, e21_50, e21_53, zpush_some, zpush_none, true_or, or_true, true_and, and_true, ↓reduceIte, zq_ite, zq_itel, hz.1, hm, Int32.le_refl]
    exact hQ
  | succ r ih =>
    intro i hi
    have hlt : (nI q ≤ nI i) = False := eq_false (nI_ge (by omega) (by omega))
    simp only [e21_47, e21_49, e21_50, e21_53, e21_56, e21_57, e21_58, e21_60, e21_63, e21_64, e21_65, e21_65a, zpush_some, zpush_none, true_or, or_true, true_and, and_true, ↓reduceIte, zq_ite, zq_itel, hz.1, hm, hlt, s_S_get_k hz hm (show i < 40 by omega) (by decide) (eq_false (nI_pos (show i < 2 ^ 31 by omega))) hlt]
    simp only [e21_66, e21_69, nI_1]
    exact ih (i + 1) (by omega)
theorem l_M_mean {j : Nat} (hj : j < 6) (hm : I 63 j = nI q) (hq : q ≤ 40) (hQ : zV n (d + 2) 135 79 [.ref 62, .int (nI j), .long (sumL (fun i => I 64 (40 * j + i)) q), .null, .int (nI q)] [] I L Q) :
    ∀ r i, i + r = q → zV n (d + 2) 135 46 [.ref 62, .int (nI j), .long (sumL (fun i => I 64 (40 * j + i)) i), .null, .int (nI i)] [] I L Q := by
  have zj : zin (nI j) 6 = true := zin_ok hj (by decide)
  have cj : (nI j).toNatClampNeg = j := nI_clamp (by omega)
  intro r
  induction r with
  | zero =>
    intro i hi
    have e : i = q := by omega
    subst e
    simp only [e135_46, e135_48, e135_49, e135_52, e135_53, e135_54, zpush_some, zpush_none, true_or, or_true, true_and, and_true, ↓reduceIte, zq_ite, zq_itel, zo_62, zr_62_0, zn_63, zl_63, zj, cj, hm, Int32.le_refl]
    exact hQ
  | succ r ih =>
    intro i hi
    have hlt : (nI q ≤ nI i) = False := eq_false (nI_ge (by omega) (by omega))
    have zp : zin (nI (40 * j + i)) 240 = true := zin_ok (by omega) (by decide)
    have cp : (nI (40 * j + i)).toNatClampNeg = 40 * j + i := nI_clamp (by omega)
    simp only [e135_46, e135_48, e135_49, e135_52, e135_53, e135_54, e135_57, e135_58, e135_59, e135_62, e135_64, e135_65, e135_66, e135_68, e135_69, e135_70, e135_71, e135_72, zpush_some, zpush_none, true_or, or_true, true_and, and_true, ↓reduceIte, zq_ite, zq_itel, zo_62, zr_62_0, zn_63, zl_63, zj, cj, hm, hlt, zr_62_1, zn_64, zl_64, m40, zp, cp]
    simp only [e135_73, e135_76, nI_1]
    exact ih (i + 1) (by omega)
theorem p_mean (h : Inv I L) (r : Int32) : zV n (d + 2) 21 0 [.ref 3, .int r, .null, .null, .null, .null] [] I L (fun v1 I1 L1 => zV n (d + 2) 135 0 [.ref 62, .int r, .null, .null, .null] [] I1 L1 (fun v2 I2 L2 => same v1 v2 ∧ Inv I2 L2)) := by
  rcases rng r 5 (by decide) (a := 6) (b := 5) rfl rfl with h1 | ⟨h1, h2, h3⟩ | ⟨j, hj, rfl, h1, h2, h3⟩
  · simp only [e21_0, e21_1, e21_4, e21_7, e21_8, e21_9, e21_10, e21_13, e21_14, e21_15, e21_16, e21_17, e21_20, e21_23, e21_24, e21_25, e21_28, e21_29, e21_30, e21_33, e21_36, e21_37, e21_38, e21_41, e21_42, e21_43, e21_43a, e21_44, e21_45, e135_0, e135_1, e135_2, e135_3, e135_6, e135_9, e135_10, e135_11, e135_12, e135_15, e135_16, e135_17, e135_20, e135_21, e135_22, e135_25, e135_26, e135_27, e135_30, e135_31, e135_32, e135_35, e135_36, e135_37, e135_40, e135_41, e135_42, e135_43, e135_44, zpush_some, zpush_none, true_or, or_true, true_and, and_true, ↓reduceIte, zq_ite, zq_itel, s_X_isRow, s_M_in, h1, not_true_eq_false]
    exact ⟨same_i, h⟩
  · simp only [e21_0, e21_1, e21_4, e21_7, e21_8, e21_9, e21_10, e21_13, e21_14, e21_15, e21_16, e21_17, e21_20, e21_23, e21_24, e21_25, e21_28, e21_29, e21_30, e21_33, e21_36, e21_37, e21_38, e21_41, e21_42, e21_43, e21_43a, e21_44, e21_45, e135_0, e135_1, e135_2, e135_3, e135_6, e135_9, e135_10, e135_11, e135_12, e135_15, e135_16, e135_17, e135_20, e135_21, e135_22, e135_25, e135_26, e135_27, e135_30, e135_31, e135_32, e135_35, e135_36, e135_37, e135_40, e135_41, e135_42, e135_43, e135_44, zpush_some, zpush_none, true_or, or_true, true_and, and_true, ↓reduceIte, zq_ite, zq_itel, s_X_isRow, s_M_in, h1, h2, h3, not_true_eq_false]
    exact ⟨same_i, h⟩
  · obtain ⟨z0, hz⟩ := row_z j hj
    have zj : zin (nI j) 6 = true := zin_ok hj (by decide)
    have cj : (nI j).toNatClampNeg = j := nI_clamp (by omega)
    obtain ⟨hA, hR, hT, hC⟩ := id h
    obtain ⟨e1, e2⟩ := hR j hj
    have o63 : ∀ f, fX I f 63 j = I 63 j := fun f => fX_o (by omega)
    by_cases hm : I 63 j = -1
    · simp only [e21_0, e21_1, e21_4, e21_7, e21_8, e21_9, e21_10, e21_13, e21_14, e21_15, e21_16, e21_17, e21_20, e21_23, e21_24, e21_25, e21_28, e21_29, e21_30, e21_33, e21_36, e21_37, e21_38, e21_41, e21_42, e21_43, e21_43a, e21_44, e21_45, e135_0, e135_1, e135_2, e135_3, e135_6, e135_9, e135_10, e135_11, e135_12, e135_15, e135_16, e135_17, e135_20, e135_21, e135_22, e135_25, e135_26, e135_27, e135_30, e135_31, e135_32, e135_35, e135_36, e135_37, e135_40, e135_41, e135_42, e135_43, e135_44, zpush_some, zpush_none, true_or, or_true, true_and, and_true, ↓reduceIte, zq_ite, zq_itel, s_X_isRow, s_M_in, h1, h2, h3, zz_1, not_false_eq_true, zo_3, zr_3_0, zn_4, zl_4, zj, cj, z0, hz.1, s_S_isMissing hz, e1.trans hm, h0m, s_X_found1, zo_62, zr_62_0, zn_63, zl_63, o63, hm, s_M_finds1]
      exact ⟨same_i, inv_find (by decide) (by decide) h⟩
    · obtain ⟨q, q1, q2, q3⟩ := e2.resolve_left hm
      have hq0 := h0q (show q < 2 ^ 31 by omega)
      by_cases hq : q = 0
      · subst hq
        have n0 : (nI 0 = 0) = True := eq_true rfl
        simp only [e21_0, e21_1, e21_4, e21_7, e21_8, e21_9, e21_10, e21_13, e21_14, e21_15, e21_16, e21_17, e21_20, e21_23, e21_24, e21_25, e21_28, e21_29, e21_30, e21_33, e21_36, e21_37, e21_38, e21_41, e21_42, e21_43, e21_43a, e21_44, e21_45, e135_0, e135_1, e135_2, e135_3, e135_6, e135_9, e135_10, e135_11, e135_12, e135_15, e135_16, e135_17, e135_20, e135_21, e135_22, e135_25, e135_26, e135_27, e135_30, e135_31, e135_32, e135_35, e135_36, e135_37, e135_40, e135_41, e135_42, e135_43, e135_44, zpush_some, zpush_none, true_or, or_true, true_and, and_true, ↓reduceIte, zq_ite, zq_itel, s_X_isRow, s_M_in, h1, h2, h3, zz_1, not_false_eq_true, not_true_eq_false, zo_3, zr_3_0, zn_4, zl_4, zj, cj, z0, hz.1, s_S_isMissing hz, e1.trans q2, hq0, n0, s_X_found4, zo_62, zr_62_0, zn_63, zl_63, o63, q2, s_M_finds4]
        exact ⟨same_i, inv_find (by decide) (by decide) h⟩
      · have n0 : (nI q = 0) = False := eq_false (nI_ne0 (by omega) (by omega))
        have nl : ((nI q).toInt64 = 0) = False := eq_false (fun g => by
          rw [nI_l (by omega)] at g
          exact hq ((lN_eq (by omega) (by decide : 0 < 2 ^ 31)).mp g))
        simp only [e21_0, e21_1, e21_4, e21_7, e21_8, e21_9, e21_10, e21_13, e21_14, e21_15, e21_16, e21_17, e21_20, e21_23, e21_24, e21_25, e21_28, e21_29, e21_30, e21_33, e21_36, e21_37, e21_38, e21_41, e21_42, e21_43, e21_43a, e21_44, e21_45, zpush_some, zpush_none, true_or, or_true, true_and, and_true, ↓reduceIte, zq_ite, zq_itel, s_X_isRow, h1, h2, zz_1, not_false_eq_true, not_true_eq_false, zo_3, zr_3_0, zn_4, zl_4, zj, cj, z0, hz.1, s_S_isMissing hz, e1.trans q2, hq0, n0]
        refine l_X_mean hz (e1.trans q2) q1 ?_ q 0 (by omega)
        simp only [e21_72, e21_73, e21_74, e21_75, e21_76, e21_79, e21_80, e21_81, e21_82, e21_85, e135_0, e135_1, e135_2, e135_3, e135_6, e135_9, e135_10, e135_11, e135_12, e135_15, e135_16, e135_17, e135_20, e135_21, e135_22, e135_25, e135_26, e135_27, e135_30, e135_31, e135_32, e135_35, e135_36, e135_37, e135_40, e135_41, e135_42, e135_43, e135_44, zpush_some, zpush_none, true_or, or_true, true_and, and_true, ↓reduceIte, zq_ite, zq_itel, zo_3, hz.1, e1.trans q2, nl, not_false_eq_true, s_X_tell, s_M_in, h1, h3, zz_1, zo_62, zr_62_0, zn_63, zl_63, zj, cj, zup_ne (show (63 : Nat) ≠ 3 by decide), q2, hq0, n0]
        have e3 : sumL (fun i => zup I 3 12 (sumL (I (36 + 2 * j + 1)) q / (nI q).toInt64).toInt32 64 (40 * j + i)) q = sumL (I (36 + 2 * j + 1)) q := sumL_congr (fun i hi => by
          rw [zup_ne (by decide), show 36 + 2 * j + 1 = 36 + 1 + 2 * j by omega]; exact (q3 i hi).symm)
        refine l_M_mean hj (by rw [zup_ne (by decide)]; exact q2) q1 ?_ q 0 (by omega)
        simp only [e135_79, e135_80, e135_81, e135_82, e135_85, e135_86, e135_87, e135_88, e135_89, e135_90, e135_93, zpush_some, zpush_none, true_or, or_true, true_and, and_true, ↓reduceIte, zq_ite, zq_itel, e3, zo_62, zr_62_0, zn_63, zl_63, zj, cj, zup_ne (show (63 : Nat) ≠ 3 by decide), q2, nl, not_false_eq_true, s_M_tells]
        exact ⟨same_i, inv_tell h⟩
end
