section
variable {n d : Nat} {I : zi} {L : zl} {Q : zq} {k lim q : Nat}
theorem inv_tell (h : Inv I L) {x : Int32} : Inv (zup (zup I 3 12 x) 62 6 x) L := by
  have ho : ∀ k i, (k ≠ 3 ∨ i ≠ 12) → (k ≠ 62 ∨ i ≠ 6) → zup (zup I 3 12 x) 62 6 x k i = I k i := fun k i c1 c2 => by
    have e : zup (zup I 3 12 x) 62 6 x k i = zup I 3 12 x k i := by
      rcases c2 with g | g
      · exact zup_ne g
      · exact zup_nj g
    rw [e]
    rcases c1 with g | g
    · exact zup_ne g
    · exact zup_nj g
  refine inv_row h (IRt_eq h.2.1 (fun k j b1 b2 => ho k j (by omega) (by omega)) (fun j => ho _ j (by omega) (by omega)) (fun j => ho _ j (by omega) (by omega))) ?_ (fun k i b1 b2 b3 b4 b5 => ho k i (by omega) (by omega))
  rw [zup_eq, zup_ne (by omega), zup_eq]
theorem l_M_text {r0 : Nat} (hr : r0 < 4) {v : Int32} (hQ : ∀ I', (∀ k j, (k ≠ 66 ∨ j < 60 * r0 ∨ 60 * r0 + 60 ≤ j) → I' k j = I k j) → (∀ j, j < 60 → I' 66 (60 * r0 + j) = 32) → Q (some (.int v)) I' L) :
    ∀ r i I', i + r = 60 → (∀ k j, (k ≠ 66 ∨ j < 60 * r0 ∨ 60 * r0 + i ≤ j) → I' k j = I k j) → (∀ j, j < i → I' 66 (60 * r0 + j) = 32) → zV n d 136 36 [.ref 62, .int (nI r0), .int v, .int (nI i)] [] I' L Q := by
  intro r
  induction r with
  | zero =>
    intro i I' hi ho hv
    have e : i = 60 := by omega
    subst e
    simp only [e136_36, e136_37, e136_39, e136_61, e136_62, zpush_some, zpush_none, true_or, or_true, true_and, and_true, ↓reduceIte, zq_ite, zq_itel, show nI 60 = (60 : Int32) from rfl, Int32.le_refl]
    exact hQ I' ho hv
  | succ r ih =>
    intro i I' hi ho hv
    have hlt : ((60 : Int32) ≤ nI i) = False := eq_false (nI_ge (b := 60) (by omega) (by omega))
    have z1 : zin (nI (60 * r0 + i)) 240 = true := zin_ok (by omega) (by omega)
    have c1 : (nI (60 * r0 + i)).toNatClampNeg = 60 * r0 + i := nI_clamp (by omega)
    simp only [e136_36, e136_37, e136_39, e136_42, e136_43, e136_46, e136_48, e136_49, e136_50, e136_51, e136_52, e136_54, zpush_some, zpush_none, true_or, or_true, true_and, and_true, ↓reduceIte, zq_ite, zq_itel, zo_62, zr_62_3, zw_66, zl_66, hlt, m60, z1, c1]
    simp only [e136_55, e136_58, nI_1]
    refine ih (i + 1) _ (by omega) (fun k' j g => ?_) (fun j hj => ?_)
    · have : zup I' 66 (60 * r0 + i) 32 k' j = I' k' j := by
        rcases g with g | g
        · exact zup_ne g
        · exact zup_nj (by omega)
      rw [this]
      exact ho k' j (by omega)
    · by_cases e : j = i
      · subst e; exact zup_eq
      · rw [zup_nj (by omega)]; exact hv j (by omega)
theorem p_text (h : Inv I L) (r v : Int32) : zV n (d + 2) 22 0 [.ref 3, .int r, .int v] [] I L (fun v1 I1 L1 => zV n (d + 2) 136 0 [.ref 62, .int r, .int v, .null] [] I1 L1 (fun v2 I2 L2 => same v1 v2 ∧ Inv I2 L2)) := by
  rcases rng r 3 (by decide) (a := 4) (b := 3) rfl rfl with h1 | ⟨h1, h2, h3⟩ | ⟨j, hj, rfl, h1, h2, h3⟩
  · simp only [e22_0, e22_1, e22_4, e22_7, e22_8, e22_10, e22_13, e22_14, e22_15, e22_16, e22_19, e22_20, e22_21, e22_24, e22_25, e22_26, e22_29, e22_30, e22_31, e22_32, e22_34, e22_37, e22_38, e136_0, e136_1, e136_2, e136_3, e136_6, e136_9, e136_10, e136_12, e136_15, e136_16, e136_17, e136_18, e136_21, e136_22, e136_23, e136_26, e136_27, e136_28, e136_31, e136_32, e136_33, e136_34, e136_35, zpush_some, zpush_none, true_or, or_true, true_and, and_true, ↓reduceIte, zq_ite, zq_itel, s_X_isText, s_M_in, h1]
    exact ⟨same_i, h⟩
  · simp only [e22_0, e22_1, e22_4, e22_7, e22_8, e22_10, e22_13, e22_14, e22_15, e22_16, e22_19, e22_20, e22_21, e22_24, e22_25, e22_26, e22_29, e22_30, e22_31, e22_32, e22_34, e22_37, e22_38, e136_0, e136_1, e136_2, e136_3, e136_6, e136_9, e136_10, e136_12, e136_15, e136_16, e136_17, e136_18, e136_21, e136_22, e136_23, e136_26, e136_27, e136_28, e136_31, e136_32, e136_33, e136_34, e136_35, zpush_some, zpush_none, true_or, or_true, true_and, and_true, ↓reduceIte, zq_ite, zq_itel, s_X_isText, s_M_in, h1, h2, h3]
    exact ⟨same_i, h⟩
  · by_cases hv : v ≤ 60
    · by_cases hv0 : 0 ≤ v
      · obtain ⟨q, hq, rfl⟩ := nI_of2 (M := 60) (n := 60) (by decide) (Int32.not_lt.mpr hv0) hv
        obtain ⟨z0, hz⟩ := text_z j hj
        have zj : zin (nI j) 4 = true := zin_ok hj (by decide)
        have cj : (nI j).toNatClampNeg = j := nI_clamp (by omega)
        simp only [e22_0, e22_1, e22_4, e22_7, e22_8, e22_10, e22_13, e22_14, e22_15, e22_16, e22_19, e22_20, e22_21, e22_24, e22_25, e22_26, e22_29, e22_30, e22_31, e22_32, e22_34, e22_37, e22_38, zpush_some, zpush_none, true_or, or_true, true_and, and_true, ↓reduceIte, zq_ite, zq_itel, s_X_isText, h1, h2, zz_1, hv, hv0, zo_3, zr_3_1, zn_5, zl_5, zj, cj, z0, hz.1]
        refine s_S_renew hz (by decide) hq (fun I1 o1 s1 f1 => ?_)
        simp only [e22_0, e22_1, e22_4, e22_7, e22_8, e22_10, e22_13, e22_14, e22_15, e22_16, e22_19, e22_20, e22_21, e22_24, e22_25, e22_26, e22_29, e22_30, e22_31, e22_32, e22_34, e22_37, e22_38, e136_0, e136_1, e136_2, e136_3, e136_6, e136_9, e136_10, e136_12, e136_15, e136_16, e136_17, e136_18, e136_21, e136_22, e136_23, e136_26, e136_27, e136_28, e136_31, e136_32, e136_33, e136_34, e136_35, zpush_some, zpush_none, true_or, or_true, true_and, and_true, ↓reduceIte, zq_ite, zq_itel, s_M_in, h1, h3, zz_1, hv, hv0, zo_62, zr_62_2, zw_65, zl_65, zj, cj]
        refine l_M_text hj (fun I2 o2 f2 => ⟨same_i, inv_text h (fun r hr => ?_) (fun k i b1 b2 b3 => ?_)⟩) 60 0 _ (by omega) (fun _ _ _ => rfl) (fun j hj => absurd hj (Nat.not_lt_zero j))
        · obtain ⟨-, -, hR, -⟩ := h
          by_cases e : r = j
          · subst e
            rw [o2 _ 1 (by omega), zup_ne (by omega), s1, o2 65 _ (by omega), zup_eq]
            refine ⟨rfl, Or.inr ⟨q, hq, rfl, fun i hi => ?_⟩⟩
            rw [f2 i (by omega), o2 _ i (by omega), zup_ne (by omega), show 48 + 1 + 2 * r = 48 + 2 * r + 1 by omega, f1 i hi]
          · obtain ⟨b1, b2⟩ := hR r hr
            have ho : ∀ k i, k ≠ 48 + 2 * j → k ≠ 48 + 2 * j + 1 → (k ≠ 65 ∨ i ≠ j) → (k ≠ 66 ∨ i < 60 * j ∨ 60 * j + 60 ≤ i) → I2 k i = I k i := fun k i c1 c2 c3 c4 => by
              rw [o2 k i c4]
              have : zup I1 65 j (nI q) k i = I1 k i := by
                rcases c3 with g | g
                · exact zup_ne g
                · exact zup_nj g
              rw [this]
              exact o1 k i (Or.inl c2) (Or.inl c1)
            rw [ho _ _ (by omega) (by omega) (by omega) (by omega), ho 65 _ (by omega) (by omega) (by omega) (by omega)]
            refine ⟨b1, ?_⟩
            rcases b2 with b2 | ⟨q', c1, c2, c3⟩
            · exact Or.inl b2
            · exact Or.inr ⟨q', c1, c2, fun i hi => by rw [ho _ _ (by omega) (by omega) (by omega) (by omega), ho 66 _ (by omega) (by omega) (by omega) (by omega)]; exact c3 i hi⟩
        · rw [o2 _ _ (by omega), zup_ne (by omega), o1 _ _ (by omega) (by omega)]
      · simp only [e22_0, e22_1, e22_4, e22_7, e22_8, e22_10, e22_13, e22_14, e22_15, e22_16, e22_19, e22_20, e22_21, e22_24, e22_25, e22_26, e22_29, e22_30, e22_31, e22_32, e22_34, e22_37, e22_38, e136_0, e136_1, e136_2, e136_3, e136_6, e136_9, e136_10, e136_12, e136_15, e136_16, e136_17, e136_18, e136_21, e136_22, e136_23, e136_26, e136_27, e136_28, e136_31, e136_32, e136_33, e136_34, e136_35, zpush_some, zpush_none, true_or, or_true, true_and, and_true, ↓reduceIte, zq_ite, zq_itel, s_X_isText, s_M_in, h1, h2, h3, zz_1, hv, hv0, s_X_found5, s_M_finds5, zo_3, zo_62]
        exact ⟨same_i, inv_find (by decide) (by decide) h⟩
    · simp only [e22_0, e22_1, e22_4, e22_7, e22_8, e22_10, e22_13, e22_14, e22_15, e22_16, e22_19, e22_20, e22_21, e22_24, e22_25, e22_26, e22_29, e22_30, e22_31, e22_32, e22_34, e22_37, e22_38, e136_0, e136_1, e136_2, e136_3, e136_6, e136_9, e136_10, e136_12, e136_15, e136_16, e136_17, e136_18, e136_21, e136_22, e136_23, e136_26, e136_27, e136_28, e136_31, e136_32, e136_33, e136_34, e136_35, zpush_some, zpush_none, true_or, or_true, true_and, and_true, ↓reduceIte, zq_ite, zq_itel, s_X_isText, s_M_in, h1, h2, h3, zz_1, hv]
      exact ⟨same_i, h⟩
theorem p_at (h : Inv I L) (r i : Int32) : zV n (d + 3) 15 0 [.ref 3, .int r, .int i, .null] [] I L (fun v1 I1 L1 => zV n (d + 3) 131 0 [.ref 62, .int r, .int i, .null] [] I1 L1 (fun v2 I2 L2 => same v1 v2 ∧ Inv I2 L2)) := by
  rcases rng r 5 (by decide) (a := 6) (b := 5) rfl rfl with h1 | ⟨h1, h2, h3⟩ | ⟨j, hj, rfl, h1, h2, h3⟩
  · simp only [e15_0, e15_1, e15_4, e15_7, e15_8, e15_9, e15_10, e15_11, e15_14, e15_15, e15_16, e15_17, e15_20, e15_21, e15_22, e15_25, e15_26, e15_29, e15_30, e15_31, e15_32, e15_35, e15_36, e15_37, e15_38, e15_41, e15_44, e131_0, e131_1, e131_2, e131_3, e131_6, e131_7, e131_8, e131_11, e131_12, e131_15, e131_16, e131_17, e131_20, e131_22, e131_23, e131_24, e131_25, e131_26, e131_27, e131_30, zpush_some, zpush_none, true_or, or_true, true_and, and_true, ↓reduceIte, zq_ite, zq_itel, s_X_isRow, h1, not_true_eq_false, zo_62, s_M_wrongAt_b i r (Or.inl h1), show ((-1 : Int32) = 0) = False from eq_false (by decide)]
    exact ⟨same_i, h⟩
  · simp only [e15_0, e15_1, e15_4, e15_7, e15_8, e15_9, e15_10, e15_11, e15_14, e15_15, e15_16, e15_17, e15_20, e15_21, e15_22, e15_25, e15_26, e15_29, e15_30, e15_31, e15_32, e15_35, e15_36, e15_37, e15_38, e15_41, e15_44, e131_0, e131_1, e131_2, e131_3, e131_6, e131_7, e131_8, e131_11, e131_12, e131_15, e131_16, e131_17, e131_20, e131_22, e131_23, e131_24, e131_25, e131_26, e131_27, e131_30, zpush_some, zpush_none, true_or, or_true, true_and, and_true, ↓reduceIte, zq_ite, zq_itel, s_X_isRow, h1, h2, not_true_eq_false, zo_62, s_M_wrongAt_b i r (Or.inr ⟨h1, h3⟩), show ((-1 : Int32) = 0) = False from eq_false (by decide)]
    exact ⟨same_i, h⟩
  · obtain ⟨z0, hz⟩ := row_z j hj
    have zj : zin (nI j) 6 = true := zin_ok hj (by decide)
    have cj : (nI j).toNatClampNeg = j := nI_clamp (by omega)
    have m3 : ((-3 : Int32) = 0) = False := eq_false (by decide)
    obtain ⟨hA, hR, hT, hC⟩ := id h
    obtain ⟨e1, e2⟩ := hR j hj
    have o63 : ∀ f, fX I f 63 j = I 63 j := fun f => fX_o (by omega)
    by_cases hm : I 63 j = -1
    · simp only [e15_0, e15_1, e15_4, e15_7, e15_8, e15_9, e15_10, e15_11, e15_14, e15_15, e15_16, e15_17, e15_20, e15_21, e15_22, e15_25, e15_26, e15_29, e15_30, e15_31, e15_32, e15_35, e15_36, e15_37, e15_38, e15_41, e15_44, e131_0, e131_1, e131_2, e131_3, e131_6, e131_7, e131_8, e131_11, e131_12, e131_15, e131_16, e131_17, e131_20, e131_22, e131_23, e131_24, e131_25, e131_26, e131_27, e131_30, zpush_some, zpush_none, true_or, or_true, true_and, and_true, ↓reduceIte, zq_ite, zq_itel, s_X_isRow, h1, h2, zz_1, not_false_eq_true, zo_3, zr_3_0, zn_4, zl_4, zj, cj, z0, s_X_refuse_m hz (e1.trans hm), m3, zo_62, s_M_wrongAt_m hj h1 h3 ((o63 1).trans hm)]
      exact ⟨same_i, inv_find (by decide) (by decide) h⟩
    · obtain ⟨q, q1, q2, q3⟩ := e2.resolve_left hm
      rcases rngd i (show q < 2 ^ 31 by omega) with g1 | ⟨g1, g2⟩ | ⟨p, hp, rfl, g1, g2⟩
      · simp only [e15_0, e15_1, e15_4, e15_7, e15_8, e15_9, e15_10, e15_11, e15_14, e15_15, e15_16, e15_17, e15_20, e15_21, e15_22, e15_25, e15_26, e15_29, e15_30, e15_31, e15_32, e15_35, e15_36, e15_37, e15_38, e15_41, e15_44, e131_0, e131_1, e131_2, e131_3, e131_6, e131_7, e131_8, e131_11, e131_12, e131_15, e131_16, e131_17, e131_20, e131_22, e131_23, e131_24, e131_25, e131_26, e131_27, e131_30, zpush_some, zpush_none, true_or, or_true, true_and, and_true, ↓reduceIte, zq_ite, zq_itel, s_X_isRow, h1, h2, zz_1, not_false_eq_true, zo_3, zr_3_0, zn_4, zl_4, zj, cj, z0, s_X_refuse_o hz (e1.trans q2) (show q < 2 ^ 31 by omega) (Or.inl g1), m3, zo_62, s_M_wrongAt_o hj h1 h3 ((o63 2).trans q2) q1 (Or.inl g1)]
        exact ⟨same_i, inv_find (by decide) (by decide) h⟩
      · simp only [e15_0, e15_1, e15_4, e15_7, e15_8, e15_9, e15_10, e15_11, e15_14, e15_15, e15_16, e15_17, e15_20, e15_21, e15_22, e15_25, e15_26, e15_29, e15_30, e15_31, e15_32, e15_35, e15_36, e15_37, e15_38, e15_41, e15_44, e131_0, e131_1, e131_2, e131_3, e131_6, e131_7, e131_8, e131_11, e131_12, e131_15, e131_16, e131_17, e131_20, e131_22, e131_23, e131_24, e131_25, e131_26, e131_27, e131_30, zpush_some, zpush_none, true_or, or_true, true_and, and_true, ↓reduceIte, zq_ite, zq_itel, s_X_isRow, h1, h2, zz_1, not_false_eq_true, zo_3, zr_3_0, zn_4, zl_4, zj, cj, z0, s_X_refuse_o hz (e1.trans q2) (show q < 2 ^ 31 by omega) (Or.inr ⟨g1, g2⟩), m3, zo_62, s_M_wrongAt_o hj h1 h3 ((o63 2).trans q2) q1 (Or.inr ⟨g1, g2⟩)]
        exact ⟨same_i, inv_find (by decide) (by decide) h⟩
      · have zp : zin (nI (40 * j + p)) 240 = true := zin_ok (by omega) (by decide)
        have cp : (nI (40 * j + p)).toNatClampNeg = 40 * j + p := nI_clamp (by omega)
        have o2 : zup I 3 12 (I (36 + 2 * j + 1) p) 63 j = nI q := by
          rw [zup_ne (by decide)]; exact q2
        have o3 : zup I 3 12 (I (36 + 2 * j + 1) p) 64 (40 * j + p) = I (36 + 2 * j + 1) p := by
          rw [zup_ne (by decide), show 36 + 2 * j + 1 = 36 + 1 + 2 * j by omega]; exact (q3 p hp).symm
        simp only [e15_0, e15_1, e15_4, e15_7, e15_8, e15_9, e15_10, e15_11, e15_14, e15_15, e15_16, e15_17, e15_20, e15_21, e15_22, e15_25, e15_26, e15_29, e15_30, e15_31, e15_32, e15_35, e15_36, e15_37, e15_38, e15_41, e15_44, e131_0, e131_1, e131_2, e131_3, e131_6, e131_7, e131_8, e131_11, e131_12, e131_15, e131_16, e131_17, e131_20, e131_22, e131_23, e131_24, e131_25, e131_26, e131_27, e131_30, zpush_some, zpush_none, true_or, or_true, true_and, and_true, ↓reduceIte, zq_ite, zq_itel, s_X_isRow, h1, h2, zz_1, not_false_eq_true, zo_3, zr_3_0, zn_4, zl_4, zj, cj, z0, hz.1, s_X_refuse_k hz (e1.trans q2) (show q < 2 ^ 31 by omega) g1 g2, s_S_get_k hz (e1.trans q2) (show p < 40 by omega) (by decide) g1 g2, s_X_tell, zo_62, s_M_wrongAt_k hj h1 h3 o2 q1 g1 g2, zr_62_1, zn_64, zl_64, m40, zp, cp, o3, s_M_tells]
        exact ⟨same_i, inv_tell h⟩
end
