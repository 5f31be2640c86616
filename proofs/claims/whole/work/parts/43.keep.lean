/-! KEEP, ON -/
section
variable {n d : Nat} {I I' : zi} {L L' : zl} {Q : zq} {K K' : Nat → Nat} {s s' s0 : Cs} {k m q i a b l f : Nat} {D D' : List Nat} {c : Nat} {kp kp' : Nat → Option (List Nat)}
theorem kept_z : ∀ j, j < 3 → zref 8 j = 56 + 2 * j ∧ Sz (56 + 2 * j) 40 := by
  intro j hj
  rcases (show j = 0 ∨ j = 1 ∨ j = 2 by omega) with rfl | rfl | rfl <;> exact ⟨by decide +kernel, by decide +kernel, by decide +kernel, by decide +kernel, by decide +kernel, by decide +kernel⟩
theorem p_keep (h : Inv I L) (w : Int32) : zV n (d + 3) 72 0 [.ref 3, .int w] [] I L (fun v1 I1 L1 => zV n (d + 3) 170 0 [.ref 62, .int w] [] I1 L1 (fun v2 I2 L2 => same v1 v2 ∧ Inv I2 L2)) := by
  obtain ⟨m, K, s0, D, kp, hcs⟩ := h.apart
  obtain ⟨hX, hM, hK, ht, hds, hn, hm, hok⟩ := hcs.now
  have hD := hds.1
  rcases rng w 2 (by omega) (a := 3) (b := 2) rfl rfl with h1 | ⟨h1, h2, h3⟩ | ⟨q, hq, rfl, h1, h2, h3⟩
  · simp only [e72_0, e72_1, e72_4, e72_5, e72_6, e72_9, e72_10, e72_11, e72_12, e72_15, e72_18, e72_21, e72_23, e72_24, e72_25, e72_28, e72_29, e72_30, e72_31, e72_34, e72_37, e72_38, e72_41, e72_44, e170_0, e170_1, e170_2, e170_3, e170_6, e170_9, e170_10, e170_11, e170_12, e170_15, e170_18, e170_20, e170_21, e170_22, e170_25, e170_26, e170_27, e170_30, e170_32, e170_33, e170_34, e170_36, e170_39, e170_40, e170_43, e170_44, e170_45, e170_48, e170_51, e170_52, e170_53, e170_56, e170_59, e170_60, e170_63, e170_64, e170_65, e170_68, e170_69, e170_70, e170_73, zpush_some, zpush_none, true_or, or_true, true_and, and_true, ↓reduceIte, zq_ite, zq_itel, s_M_in, h1, not_true_eq_false]
    exact ⟨same_i, h⟩
  · have h4 : (w < 3) = False := eq_false (by rw [Int32.not_lt]; exact of_eq_true h2)
    simp only [e72_0, e72_1, e72_4, e72_5, e72_6, e72_9, e72_10, e72_11, e72_12, e72_15, e72_18, e72_21, e72_23, e72_24, e72_25, e72_28, e72_29, e72_30, e72_31, e72_34, e72_37, e72_38, e72_41, e72_44, e170_0, e170_1, e170_2, e170_3, e170_6, e170_9, e170_10, e170_11, e170_12, e170_15, e170_18, e170_20, e170_21, e170_22, e170_25, e170_26, e170_27, e170_30, e170_32, e170_33, e170_34, e170_36, e170_39, e170_40, e170_43, e170_44, e170_45, e170_48, e170_51, e170_52, e170_53, e170_56, e170_59, e170_60, e170_63, e170_64, e170_65, e170_68, e170_69, e170_70, e170_73, zpush_some, zpush_none, true_or, or_true, true_and, and_true, ↓reduceIte, zq_ite, zq_itel, s_M_in, h1, h2, h3, h4, not_true_eq_false]
    exact ⟨same_i, h⟩
  · have h4 : (nI q < 3) = True := eq_true (by rw [← Int32.not_le]; exact of_eq_false h2)
    by_cases hm0 : m = 0
    · have e0 : (nI m = 0) = True := by rw [nI_z (by omega)]; exact eq_true hm0
      simp only [e72_0, e72_1, e72_4, e72_5, e72_6, e72_9, e72_10, e72_11, e72_12, e72_15, e72_18, e72_21, e72_23, e72_24, e72_25, e72_28, e72_29, e72_30, e72_31, e72_34, e72_37, e72_38, e72_41, e72_44, e170_0, e170_1, e170_2, e170_3, e170_6, e170_9, e170_10, e170_11, e170_12, e170_15, e170_18, e170_20, e170_21, e170_22, e170_25, e170_26, e170_27, e170_30, e170_32, e170_33, e170_34, e170_36, e170_39, e170_40, e170_43, e170_44, e170_45, e170_48, e170_51, e170_52, e170_53, e170_56, e170_59, e170_60, e170_63, e170_64, e170_65, e170_68, e170_69, e170_70, e170_73, zpush_some, zpush_none, true_or, or_true, true_and, and_true, ↓reduceIte, zq_ite, zq_itel, s_M_in, h1, h3, h4, zz_1, not_false_eq_true, zo_3, zr_3_5, zo_14, zo_62, XC_m hX, MK_m hK, e0, not_true_eq_false]
      exact ⟨same_i, h⟩
    · have e0 : (nI m = 0) = False := by rw [nI_z (by omega)]; exact eq_false hm0
      obtain ⟨z0, hz⟩ := kept_z q hq
      have zj : zin (nI q) 3 = true := zin_ok hq (by decide)
      have cj : (nI q).toNatClampNeg = q := nI_clamp (by omega)
      simp only [e72_0, e72_1, e72_4, e72_5, e72_6, e72_9, e72_10, e72_11, e72_12, e72_15, e72_18, e72_21, e72_23, e72_24, e72_25, e72_28, e72_29, e72_30, e72_31, e72_34, e72_37, e72_38, e72_41, e72_44, zpush_some, zpush_none, true_or, or_true, true_and, and_true, ↓reduceIte, zq_ite, zq_itel, h1, h4, not_false_eq_true, zo_3, zr_3_5, zo_14, XC_m hX, e0, zr_3_3, zn_8, zl_8, zj, cj, z0, zr_3_2, hz.1]
      refine s_S_take hz Sz_6 (by omega) hD hds.2.1 (fun I1 x1 x2 x3 => ?_)
      have hlen1 : I1 6 1 = nI D.length := by rw [x1 6 1 (by omega) (by omega)]; exact hds.2.1
      have hm1 : I1 62 14 = nI m := by rw [x1 62 14 (by omega) (by omega)]; exact MK_m hK
      have e3 : (24 : Int32) * nI q = nI (24 * q) := pk_mul 24 q
      have e4 : (960 : Int32) * nI q = nI (960 * q) := pk_mul 960 q
      simp only [e72_0, e72_1, e72_4, e72_5, e72_6, e72_9, e72_10, e72_11, e72_12, e72_15, e72_18, e72_21, e72_23, e72_24, e72_25, e72_28, e72_29, e72_30, e72_31, e72_34, e72_37, e72_38, e72_41, e72_44, e170_0, e170_1, e170_2, e170_3, e170_6, e170_9, e170_10, e170_11, e170_12, e170_15, e170_18, e170_20, e170_21, e170_22, e170_25, e170_26, e170_27, e170_30, e170_32, e170_33, e170_34, e170_36, e170_39, e170_40, e170_43, e170_44, e170_45, e170_48, e170_51, e170_52, e170_53, e170_56, e170_59, e170_60, e170_63, e170_64, e170_65, e170_68, e170_69, e170_70, e170_73, zpush_some, zpush_none, true_or, or_true, true_and, and_true, ↓reduceIte, zq_ite, zq_itel, zo_3, zr_3_2, Sz_6.1, hlen1, s_M_in, h1, h3, zz_1, not_false_eq_true, zo_62, hm1, e0, zr_62_16, zr_62_19, zn_70, zn_72, e3]
      refine s_M_bring (o := 0) (p := 24 * q) (N := 24) ⟨zn_70, zn_72, zw_72⟩ (by decide) (by rw [zl_70]; decide) (by rw [zl_72]; omega) (by rw [zl_70]; decide) (by rw [zl_72]; decide) (fun I2 y1 y2 => ?_)
      simp only [e170_0, e170_1, e170_2, e170_3, e170_6, e170_9, e170_10, e170_11, e170_12, e170_15, e170_18, e170_20, e170_21, e170_22, e170_25, e170_26, e170_27, e170_30, e170_32, e170_33, e170_34, e170_36, e170_39, e170_40, e170_43, e170_44, e170_45, e170_48, e170_51, e170_52, e170_53, e170_56, e170_59, e170_60, e170_63, e170_64, e170_65, e170_68, e170_69, e170_70, e170_73, zpush_some, zpush_none, true_or, or_true, true_and, and_true, ↓reduceIte, zq_ite, zq_itel, zo_62, zr_62_17, zr_62_20, zn_71, zn_73, e4]
      refine s_M_bring (o := 0) (p := 960 * q) (N := 960) ⟨zn_71, zn_73, zw_73⟩ (by decide) (by rw [zl_71]; decide) (by rw [zl_73]; omega) (by rw [zl_71]; decide) (by rw [zl_73]; decide) (fun I3 w1 w2 => ?_)
      have hn3 : I3 62 18 = nI D.length := by rw [w1 62 18 (Or.inl (by decide)), y1 62 18 (Or.inl (by decide)), x1 62 18 (by omega) (by omega)]; exact hn
      simp only [e170_0, e170_1, e170_2, e170_3, e170_6, e170_9, e170_10, e170_11, e170_12, e170_15, e170_18, e170_20, e170_21, e170_22, e170_25, e170_26, e170_27, e170_30, e170_32, e170_33, e170_34, e170_36, e170_39, e170_40, e170_43, e170_44, e170_45, e170_48, e170_51, e170_52, e170_53, e170_56, e170_59, e170_60, e170_63, e170_64, e170_65, e170_68, e170_69, e170_70, e170_73, zpush_some, zpush_none, true_or, or_true, true_and, and_true, ↓reduceIte, zq_ite, zq_itel, zo_62, zr_62_21, zn_74, zw_74, zl_74, zj, cj, hn3, zup_ne (show (62 : Nat) ≠ 74 by decide)]
      have hI : ∀ k j, (k < 56 ∨ 61 < k) → k ≠ 72 → k ≠ 73 → k ≠ 74 → zup I3 74 q (nI D.length) k j = I k j := fun k j a1 a2 a3 a4 => by
        rw [zup_ne a4, w1 k j (Or.inl a3), y1 k j (Or.inl a2), x1 k j (by omega) (by omega)]
      refine ⟨same_i, inv_cube h ⟨m, K, s0, D, fun q' => if q' = q then some D else kp q', ICs_set hcs hcs.deed.1 (DS_eq hds (hI _ _ (by decide) (by decide) (by decide) (by decide)) (fun j => hI _ _ (by decide) (by decide) (by decide) (by decide))) (XC_eq hX (fun k' j a b _ => hI _ _ (by omega) (by omega) (by omega) (by omega)) rfl) (MC_eq hM (fun j => hI _ _ (by decide) (by decide) (by decide) (by decide))) (by rw [hI _ _ (by decide) (by decide) (by decide) (by decide)]; exact hn) (fun j hj => MCo_eq (hcs.deed.2 j hj) (fun j => hI _ _ (by decide) (by decide) (by decide) (by decide))) (fun q' hq' => ?_) (fun k j hk => hI k j (by omega) (by omega) (by omega) (by omega)) rfl⟩ (fun k j hk => hI k j (by omega) (by omega) (by omega) (by omega)) (fun k j hk => rfl)⟩
      by_cases e : q' = q
      · subst e
        rw [if_pos rfl]
        refine ⟨⟨hD, ?_, fun j hj => ?_⟩, hcs.deed.1, zup_eq, MCo_cpy (MCo_0.mpr hM) (fun j hj => ?_), fun j hj => MCo_cpy (hcs.deed.2 j hj) (fun i hi => ?_)⟩
        · rw [zup_ne (by omega), w1 _ _ (Or.inl (by omega)), y1 _ _ (Or.inl (by omega)), x2]
        · rw [zup_ne (by omega), w1 _ _ (Or.inl (by omega)), y1 _ _ (Or.inl (by omega)), x3 j hj]
          exact hds.2.2 j hj
        · rw [zup_ne (by decide), w1 _ _ (Or.inl (by decide)), y2 j hj, x1 _ _ (by omega) (by omega)]
        · rw [zup_ne (by decide), Nat.add_assoc, w2 (24 * j + i) (by omega), y1 _ _ (Or.inl (by decide)), x1 _ _ (by omega) (by omega), Nat.zero_add]
      · rw [if_neg e]
        have hk := hcs.kept hq'
        have g1 : ∀ j, zup I3 74 q (nI D.length) (56 + 2 * q') j = I (56 + 2 * q') j := fun j => by rw [zup_ne (by omega), w1 _ _ (Or.inl (by omega)), y1 _ _ (Or.inl (by omega)), x1 _ _ (by omega) (by omega)]
        have g2 : ∀ j, zup I3 74 q (nI D.length) (56 + 2 * q' + 1) j = I (56 + 2 * q' + 1) j := fun j => by rw [zup_ne (by omega), w1 _ _ (Or.inl (by omega)), y1 _ _ (Or.inl (by omega)), x1 _ _ (by omega) (by omega)]
        have g3 : zup I3 74 q (nI D.length) 74 q' = I 74 q' := by rw [zup_nj e, w1 _ _ (Or.inl (by decide)), y1 _ _ (Or.inl (by decide)), x1 _ _ (by omega) (by omega)]
        cases hkp : kp q' with
        | none =>
          rw [hkp] at hk
          exact ⟨by rw [g1]; exact hk.1, by rw [g3]; exact hk.2⟩
        | some D' =>
          rw [hkp] at hk
          obtain ⟨f1, f2, f3, f4, f5⟩ := hk
          have hl := f1.1
          exact ⟨DS_eq f1 (g1 1) g2, f2, by rw [g3]; exact f3, MCo_rng f4 (fun j a b => by rw [zup_ne (by decide), w1 _ _ (Or.inl (by decide)), y1 _ _ (Or.inr (by omega)), x1 _ _ (by omega) (by omega)]), fun j hj => MCo_rng (f5 j hj) (fun i a b => by rw [zup_ne (by decide), w1 _ _ (Or.inr (by omega)), y1 _ _ (Or.inl (by decide)), x1 _ _ (by omega) (by omega)])⟩
theorem p_on (h : Inv I L) (w : Int32) : zV n (d + 6) 74 0 [.ref 3, .int w] [] I L (fun v1 I1 L1 => zV n (d + 6) 171 0 [.ref 62, .int w] [] I1 L1 (fun v2 I2 L2 => same v1 v2 ∧ Inv I2 L2)) := by
  obtain ⟨m, K, s0, D, kp, hcs⟩ := h.apart
  obtain ⟨hX, hM, hK, ht, hds, hn, hm, hok⟩ := hcs.now
  rcases rng w 2 (by omega) (a := 3) (b := 2) rfl rfl with h1 | ⟨h1, h2, h3⟩ | ⟨q, hq, rfl, h1, h2, h3⟩
  · simp only [e74_0, e74_1, e74_4, e74_5, e74_6, e74_9, e74_10, e74_11, e74_12, e74_15, e74_16, e74_17, e74_20, e74_23, e74_24, e74_25, e74_28, e74_29, e74_30, e74_33, e74_34, e74_37, e74_38, e74_39, e74_42, e74_43, e74_46, e74_47, e74_50, e74_53, e171_0, e171_1, e171_2, e171_3, e171_6, e171_9, e171_10, e171_11, e171_12, e171_15, e171_16, e171_17, e171_20, e171_21, e171_22, e171_25, e171_26, e171_27, e171_30, e171_32, e171_33, e171_34, e171_35, e171_38, e171_39, e171_41, e171_44, e171_45, e171_48, e171_51, e171_52, e171_53, e171_54, e171_57, e171_58, e171_61, e171_64, e171_65, e171_66, e171_69, e171_70, e171_71, e171_74, e171_75, e171_78, zpush_some, zpush_none, true_or, or_true, true_and, and_true, ↓reduceIte, zq_ite, zq_itel, s_M_in, h1, not_true_eq_false]
    exact ⟨same_i, h⟩
  · have h4 : (w < 3) = False := eq_false (by rw [Int32.not_lt]; exact of_eq_true h2)
    simp only [e74_0, e74_1, e74_4, e74_5, e74_6, e74_9, e74_10, e74_11, e74_12, e74_15, e74_16, e74_17, e74_20, e74_23, e74_24, e74_25, e74_28, e74_29, e74_30, e74_33, e74_34, e74_37, e74_38, e74_39, e74_42, e74_43, e74_46, e74_47, e74_50, e74_53, e171_0, e171_1, e171_2, e171_3, e171_6, e171_9, e171_10, e171_11, e171_12, e171_15, e171_16, e171_17, e171_20, e171_21, e171_22, e171_25, e171_26, e171_27, e171_30, e171_32, e171_33, e171_34, e171_35, e171_38, e171_39, e171_41, e171_44, e171_45, e171_48, e171_51, e171_52, e171_53, e171_54, e171_57, e171_58, e171_61, e171_64, e171_65, e171_66, e171_69, e171_70, e171_71, e171_74, e171_75, e171_78, zpush_some, zpush_none, true_or, or_true, true_and, and_true, ↓reduceIte, zq_ite, zq_itel, s_M_in, h1, h2, h3, h4, not_true_eq_false]
    exact ⟨same_i, h⟩
  · have h4 : (nI q < 3) = True := eq_true (by rw [← Int32.not_le]; exact of_eq_false h2)
    obtain ⟨z0, hz⟩ := kept_z q hq
    have zj : zin (nI q) 3 = true := zin_ok hq (by decide)
    have cj : (nI q).toNatClampNeg = q := nI_clamp (by omega)
    have hk := hcs.kept hq
    cases hkp : kp q with
    | none =>
      rw [hkp] at hk
      obtain ⟨k1, k2⟩ := hk
      simp only [e74_0, e74_1, e74_4, e74_5, e74_6, e74_9, e74_10, e74_11, e74_12, e74_15, e74_16, e74_17, e74_20, e74_23, e74_24, e74_25, e74_28, e74_29, e74_30, e74_33, e74_34, e74_37, e74_38, e74_39, e74_42, e74_43, e74_46, e74_47, e74_50, e74_53, e171_0, e171_1, e171_2, e171_3, e171_6, e171_9, e171_10, e171_11, e171_12, e171_15, e171_16, e171_17, e171_20, e171_21, e171_22, e171_25, e171_26, e171_27, e171_30, e171_32, e171_33, e171_34, e171_35, e171_38, e171_39, e171_41, e171_44, e171_45, e171_48, e171_51, e171_52, e171_53, e171_54, e171_57, e171_58, e171_61, e171_64, e171_65, e171_66, e171_69, e171_70, e171_71, e171_74, e171_75, e171_78, zpush_some, zpush_none, true_or, or_true, true_and, and_true, ↓reduceIte, zq_ite, zq_itel, s_M_in, h1, h3, h4, zz_1, not_false_eq_true, zo_3, zr_3_3, zn_8, zl_8, zj, cj, z0, hz.1, s_S_isMissing hz, k1, h0m, s_X_found1, zo_62, zr_62_21, zn_74, zl_74, fX_o (show ((74 : Nat) ≠ 3 ∨ q ≠ 11) ∧ (74 : Nat) ≠ 35 by omega), k2, s_M_finds1]
      exact ⟨same_i, inv_find (by decide) (by decide) h⟩
    | some D' =>
      rw [hkp] at hk
      obtain ⟨f1, f2, f3, f4, f5⟩ := hk
      have hl := f1.1
      have g0 := h0q (show D'.length < 2 ^ 31 by omega)
      have e3 : (24 : Int32) * nI q = nI (24 * q) := pk_mul 24 q
      have e4 : (960 : Int32) * nI q = nI (960 * q) := pk_mul 960 q
      simp only [e74_0, e74_1, e74_4, e74_5, e74_6, e74_9, e74_10, e74_11, e74_12, e74_15, e74_16, e74_17, e74_20, e74_23, e74_24, e74_25, e74_28, e74_29, e74_30, e74_33, e74_34, e74_37, e74_38, e74_39, zpush_some, zpush_none, true_or, or_true, true_and, and_true, ↓reduceIte, zq_ite, zq_itel, h1, h4, not_false_eq_true, zo_3, zr_3_3, zn_8, zl_8, zj, cj, z0, hz.1, s_S_isMissing hz, f1.2.1, g0, zr_3_2, Sz_6.1]
      refine s_S_take Sz_6 hz (by omega) hl f1.2.1 (fun I1 x1 x2 x3 => ?_)
      simp only [e74_42, e74_43, zpush_some, zpush_none, true_or, or_true, true_and, and_true, ↓reduceIte, zq_ite, zq_itel, zo_3]
      have hds1 : DS I1 6 D' := ⟨hl, x2, fun j hj => by rw [x3 j hj]; exact f1.2.2 j hj⟩
      refine t_X_replay (XC_eq hcs.start.1 (fun k' j a b _ => x1 _ _ (by omega) (by omega)) rfl) f2 hcs.start.2 hds1 (fun I2 L2 y1 y2 y3 => ?_)
      have e5 : I2 6 1 = nI D'.length := by rw [y2 6 1 (by decide)]; exact x2
      have hI2 : ∀ k j, k ≠ 6 → k ≠ 7 → (k < 14 ∨ 18 < k) → I2 k j = I k j := fun k j a1 a2 a3 => by rw [y2 k j a3, x1 k j a2 (Or.inl a1)]
      have e6 : I2 74 q = nI D'.length := by rw [hI2 74 q (by decide) (by decide) (by decide)]; exact f3
      simp only [e74_0, e74_1, e74_4, e74_5, e74_6, e74_9, e74_10, e74_11, e74_12, e74_15, e74_16, e74_17, e74_20, e74_23, e74_24, e74_25, e74_28, e74_29, e74_30, e74_33, e74_34, e74_37, e74_38, e74_39, e74_42, e74_43, e74_46, e74_47, e74_50, e74_53, e171_0, e171_1, e171_2, e171_3, e171_6, e171_9, e171_10, e171_11, e171_12, e171_15, e171_16, e171_17, e171_20, e171_21, e171_22, e171_25, e171_26, e171_27, e171_30, e171_32, e171_33, e171_34, e171_35, e171_38, e171_39, e171_41, e171_44, e171_45, e171_48, e171_51, e171_52, e171_53, e171_54, e171_57, e171_58, e171_61, e171_64, e171_65, e171_66, e171_69, e171_70, e171_71, e171_74, e171_75, e171_78, zpush_some, zpush_none, true_or, or_true, true_and, and_true, ↓reduceIte, zq_ite, zq_itel, zo_3, zr_3_2, Sz_6.1, e5, s_M_in, h1, h3, zz_1, not_false_eq_true, zo_62, zr_62_21, zn_74, zl_74, zj, cj, e6, g0, zr_62_19, zr_62_16, zn_70, zn_72, e3]
      refine s_M_bring (o := 24 * q) (p := 0) (N := 24) ⟨zn_72, zn_70, zw_70⟩ (by decide) (by rw [zl_72]; omega) (by rw [zl_70]; decide) (by rw [zl_72]; decide) (by rw [zl_70]; decide) (fun I3 w1 w2 => ?_)
      simp only [e171_0, e171_1, e171_2, e171_3, e171_6, e171_9, e171_10, e171_11, e171_12, e171_15, e171_16, e171_17, e171_20, e171_21, e171_22, e171_25, e171_26, e171_27, e171_30, e171_32, e171_33, e171_34, e171_35, e171_38, e171_39, e171_41, e171_44, e171_45, e171_48, e171_51, e171_52, e171_53, e171_54, e171_57, e171_58, e171_61, e171_64, e171_65, e171_66, e171_69, e171_70, e171_71, e171_74, e171_75, e171_78, zpush_some, zpush_none, true_or, or_true, true_and, and_true, ↓reduceIte, zq_ite, zq_itel, zo_62, zr_62_17, zr_62_20, zn_71, zn_73, e4]
      refine s_M_bring (o := 960 * q) (p := 0) (N := 960) ⟨zn_73, zn_71, zw_71⟩ (by decide) (by rw [zl_73]; omega) (by rw [zl_71]; decide) (by rw [zl_73]; decide) (by rw [zl_71]; decide) (fun I4 v1 v2 => ?_)
      have e7 : I4 74 q = nI D'.length := by rw [v1 74 q (Or.inl (by decide)), w1 74 q (Or.inl (by decide))]; exact e6
      simp only [e171_0, e171_1, e171_2, e171_3, e171_6, e171_9, e171_10, e171_11, e171_12, e171_15, e171_16, e171_17, e171_20, e171_21, e171_22, e171_25, e171_26, e171_27, e171_30, e171_32, e171_33, e171_34, e171_35, e171_38, e171_39, e171_41, e171_44, e171_45, e171_48, e171_51, e171_52, e171_53, e171_54, e171_57, e171_58, e171_61, e171_64, e171_65, e171_66, e171_69, e171_70, e171_71, e171_74, e171_75, e171_78, zpush_some, zpush_none, true_or, or_true, true_and, and_true, ↓reduceIte, zq_ite, zq_itel, zo_62, zr_62_21, zn_74, zl_74, zj, cj, e7, zup_eq]
      have hI : ∀ k j, k ≠ 6 → k ≠ 7 → (k < 14 ∨ 18 < k) → (k ≠ 62 ∨ j ≠ 18) → k ≠ 70 → k ≠ 71 → zup I4 62 18 (nI D'.length) k j = I k j := fun k j a1 a2 a3 a4 a5 a6 => by
        have : zup I4 62 18 (nI D'.length) k j = I4 k j := by
          rcases a4 with g | g
          · exact zup_ne g
          · exact zup_nj g
        rw [this, v1 k j (Or.inl a6), w1 k j (Or.inl a5), hI2 k j a1 a2 a3]
      have hI3 : ∀ k j, k ≠ 62 → k ≠ 70 → k ≠ 71 → zup I4 62 18 (nI D'.length) k j = I2 k j := fun k j a1 a2 a3 => by
        rw [zup_ne a1, v1 k j (Or.inl a3), w1 k j (Or.inl a2)]
      refine ⟨same_i, inv_cube h ⟨m, K, s0, D', kp, ICs_set hcs f2 (DS_eq hds1 ?_ (fun j => ?_)) (XC_eq y1 (fun k' j a b _ => hI3 _ _ (by omega) (by omega) (by omega)) rfl) (MCo_0.mp (MCo_cpy f4 (fun j hj => ?_))) zup_eq (fun j hj => MCo_cpy (f5 j hj) (fun i hi => ?_)) (fun q' hq' => KP_fr hq' (hcs.kept hq') (fun k j cc => hI k j (by omega) (by omega) (by omega) (by omega) (by omega) (by omega))) (fun k j hk => hI k j (by omega) (by omega) (by omega) (by omega) (by omega) (by omega)) (y3 9 5 (by decide))⟩ (fun k j hk => hI k j (by omega) (by omega) (by omega) (by omega) (by omega) (by omega)) (fun k j hk => y3 k j (by omega))⟩
      · rw [hI3 6 1 (by decide) (by decide) (by decide), y2 6 1 (by decide)]
      · rw [hI3 7 j (by decide) (by decide) (by decide), y2 7 j (by decide)]
      · rw [zup_ne (by decide), v1 _ _ (Or.inl (by decide)), w2 j hj, hI2 _ _ (by decide) (by decide) (by decide)]
      · rw [zup_ne (by decide), show 24 * j + i = 0 + (24 * j + i) by omega, v2 (24 * j + i) (by omega), w1 _ _ (Or.inl (by decide)), hI2 _ _ (by decide) (by decide) (by decide), Nat.add_assoc]
end
