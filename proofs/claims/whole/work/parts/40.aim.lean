/-! AIM -/
section
variable {n d : Nat} {I I' : zi} {L L' : zl} {Q : zq} {K K' : Nat → Nat} {s s' s0 : Cs} {k m q i a b l : Nat} {D : List Nat} {c : Nat} {kp : Nat → Option (List Nat)}
theorem MC_goal (hx : MC I a m s) (hm : m ≤ 7) (hi : i < m) (hc : c < 16) : MC (zup I a (10 + i) (nI c)) a m (s.1, fun q => if q = i then c else s.2.1 q, s.2.2) := by
  obtain ⟨s', ⟨e2, e3, e4, e5⟩, h0, h1, h2, hcs⟩ := hx
  refine ⟨(s'.1, fun q => if q = i then c else s'.2.1 q, s'.2.2), ⟨e2, fun q hq => ?_, e4, e5⟩, by rw [zup_nj (by omega)]; exact h0, by rw [zup_nj (by omega)]; exact h1, by rw [zup_nj (by omega)]; exact h2, fun q hq => ?_⟩
  · show (if q = i then c else s'.2.1 q) = (if q = i then c else s.2.1 q)
    rw [e3 q hq]
  · obtain ⟨a1, a2, a3⟩ := hcs q hq
    rw [zup_nj (show 3 + q ≠ 10 + i by omega), zup_nj (show 17 + q ≠ 10 + i by omega)]
    refine ⟨a1, ?_, a3⟩
    show _ = nI (if q = i then c else s'.2.1 q) ∧ (if q = i then c else s'.2.1 q) < 16
    by_cases e : q = i
    · subst e; rw [zup_eq, if_pos rfl]; exact ⟨rfl, hc⟩
    · rw [zup_nj (by omega), if_neg e]; exact a2
theorem s_X_aimDeed {i c : Nat} : zV n d 69 0 [.int (nI i), .int (nI c)] [] I L Q ↔ Q (some (.int (nI (2 + 4 * (16 * i + c))))) I L := by
  have e1 : (16 : Int32) * nI i = nI (16 * i) := pk_mul 16 i
  have e2 : ∀ x, (4 : Int32) * nI x = nI (4 * x) := pk_mul 4
  have e3 : ∀ x, (2 : Int32) + nI x = nI (2 + x) := i_tk 2
  simp only [e69_0, e69_1, e69_2, e69_4, e69_5, e69_6, e69_7, e69_8, e69_9, e69_10, zpush_some, zpush_none, true_or, or_true, true_and, and_true, ↓reduceIte, zq_ite, zq_itel, e1, i_tk, e2, e3]
theorem p_aim (h : Inv I L) (i w : Int32) : zV n (d + 6) 68 0 [.ref 3, .int i, .int w, .null] [] I L (fun v1 I1 L1 => zV n (d + 6) 168 0 [.ref 62, .int i, .int w, .null] [] I1 L1 (fun v2 I2 L2 => same v1 v2 ∧ Inv I2 L2)) := by
  obtain ⟨m, K, s0, D, kp, hcs⟩ := h.apart
  obtain ⟨hX, hM, hK, ht, hds, hn, hm, hok⟩ := hcs.now
  have hz := Qa_z (k := 14) (Or.inr (Or.inl rfl))
  rcases rngd i (show m < 2 ^ 31 by omega) with g1 | ⟨g1, g2⟩ | ⟨p, hp, rfl, g1, g2⟩
  · simp only [e68_0, e68_1, e68_4, e68_5, e68_8, e68_11, e68_12, e68_15, e68_18, e68_19, e68_20, e68_21, e68_24, e68_27, e68_28, e68_29, e68_30, e68_31, e68_32, e68_35, e68_37, e68_38, e68_39, e68_42, e68_45, e68_47, e68_50, e68_52, e68_53, e68_54, e68_55, e68_56, e68_59, e68_62, e68_63, e168_0, e168_1, e168_2, e168_5, e168_8, e168_9, e168_10, e168_12, e168_15, e168_18, e168_19, e168_20, e168_21, e168_24, e168_26, e168_27, e168_28, e168_29, e168_30, e168_31, e168_32, e168_35, e168_37, e168_38, e168_39, e168_42, e168_44, e168_47, e168_49, e168_50, e168_51, e168_54, e168_55, e168_58, e168_60, e168_61, e168_62, e168_63, e168_64, e168_65, zpush_some, zpush_none, true_or, or_true, true_and, and_true, ↓reduceIte, zq_ite, zq_itel, zo_3, zr_3_5, zo_62, zo_14, s_Q_hasMessage hz, XC_m hX, s_M_isOne hK, g1]
    exact ⟨same_i, h⟩
  · simp only [e68_0, e68_1, e68_4, e68_5, e68_8, e68_11, e68_12, e68_15, e68_18, e68_19, e68_20, e68_21, e68_24, e68_27, e68_28, e68_29, e68_30, e68_31, e68_32, e68_35, e68_37, e68_38, e68_39, e68_42, e68_45, e68_47, e68_50, e68_52, e68_53, e68_54, e68_55, e68_56, e68_59, e68_62, e68_63, e168_0, e168_1, e168_2, e168_5, e168_8, e168_9, e168_10, e168_12, e168_15, e168_18, e168_19, e168_20, e168_21, e168_24, e168_26, e168_27, e168_28, e168_29, e168_30, e168_31, e168_32, e168_35, e168_37, e168_38, e168_39, e168_42, e168_44, e168_47, e168_49, e168_50, e168_51, e168_54, e168_55, e168_58, e168_60, e168_61, e168_62, e168_63, e168_64, e168_65, zpush_some, zpush_none, true_or, or_true, true_and, and_true, ↓reduceIte, zq_ite, zq_itel, zo_3, zr_3_5, zo_62, zo_14, s_Q_hasMessage hz, XC_m hX, s_M_isOne hK, g1, g2]
    exact ⟨same_i, h⟩
  · rcases rng w 15 (by decide) (a := 16) (b := 15) rfl rfl with h1 | ⟨h1, h2, h3⟩ | ⟨c, hc, rfl, h1, h2, h3⟩
    · simp only [e68_0, e68_1, e68_4, e68_5, e68_8, e68_11, e68_12, e68_15, e68_18, e68_19, e68_20, e68_21, e68_24, e68_27, e68_28, e68_29, e68_30, e68_31, e68_32, e68_35, e68_37, e68_38, e68_39, e68_42, e68_45, e68_47, e68_50, e68_52, e68_53, e68_54, e68_55, e68_56, e68_59, e68_62, e68_63, e168_0, e168_1, e168_2, e168_5, e168_8, e168_9, e168_10, e168_12, e168_15, e168_18, e168_19, e168_20, e168_21, e168_24, e168_26, e168_27, e168_28, e168_29, e168_30, e168_31, e168_32, e168_35, e168_37, e168_38, e168_39, e168_42, e168_44, e168_47, e168_49, e168_50, e168_51, e168_54, e168_55, e168_58, e168_60, e168_61, e168_62, e168_63, e168_64, e168_65, zpush_some, zpush_none, true_or, or_true, true_and, and_true, ↓reduceIte, zq_ite, zq_itel, zo_3, zr_3_5, zo_62, zo_14, s_Q_hasMessage hz, XC_m hX, s_M_isOne hK, s_M_in, s_X_isCorner, g1, g2, h1, zz_1, not_true_eq_false]
      exact ⟨same_i, h⟩
    · simp only [e68_0, e68_1, e68_4, e68_5, e68_8, e68_11, e68_12, e68_15, e68_18, e68_19, e68_20, e68_21, e68_24, e68_27, e68_28, e68_29, e68_30, e68_31, e68_32, e68_35, e68_37, e68_38, e68_39, e68_42, e68_45, e68_47, e68_50, e68_52, e68_53, e68_54, e68_55, e68_56, e68_59, e68_62, e68_63, e168_0, e168_1, e168_2, e168_5, e168_8, e168_9, e168_10, e168_12, e168_15, e168_18, e168_19, e168_20, e168_21, e168_24, e168_26, e168_27, e168_28, e168_29, e168_30, e168_31, e168_32, e168_35, e168_37, e168_38, e168_39, e168_42, e168_44, e168_47, e168_49, e168_50, e168_51, e168_54, e168_55, e168_58, e168_60, e168_61, e168_62, e168_63, e168_64, e168_65, zpush_some, zpush_none, true_or, or_true, true_and, and_true, ↓reduceIte, zq_ite, zq_itel, zo_3, zr_3_5, zo_62, zo_14, s_Q_hasMessage hz, XC_m hX, s_M_isOne hK, s_M_in, s_X_isCorner, g1, g2, h1, h2, h3, zz_1, not_true_eq_false]
      exact ⟨same_i, h⟩
    · obtain ⟨-, -, ⟨e1, e2⟩, -⟩ := XC_get hX hp
      obtain ⟨-, ⟨e3, -⟩, -⟩ := MC_get hM hm hp
      have zp : zin (nI p) 7 = true := zin_ok (by omega) (by decide)
      have cp : (nI p).toNatClampNeg = p := nI_clamp (by omega)
      have z10 : zin (nI (10 + p)) 24 = true := zin_ok (by omega) (by decide)
      have y10 : (nI (10 + p)).toNatClampNeg = 10 + p := nI_clamp (by omega)
      by_cases hg : (rep K m s0 D).2.1 p = c
      · rw [hg] at e1 e3
        simp only [e68_0, e68_1, e68_4, e68_5, e68_8, e68_11, e68_12, e68_15, e68_18, e68_19, e68_20, e68_21, e68_24, e68_27, e68_28, e68_29, e68_30, e68_31, e68_32, e68_35, e68_37, e68_38, e68_39, e68_42, e68_45, e68_47, e68_50, e68_52, e68_53, e68_54, e68_55, e68_56, e68_59, e68_62, e68_63, e168_0, e168_1, e168_2, e168_5, e168_8, e168_9, e168_10, e168_12, e168_15, e168_18, e168_19, e168_20, e168_21, e168_24, e168_26, e168_27, e168_28, e168_29, e168_30, e168_31, e168_32, e168_35, e168_37, e168_38, e168_39, e168_42, e168_44, e168_47, e168_49, e168_50, e168_51, e168_54, e168_55, e168_58, e168_60, e168_61, e168_62, e168_63, e168_64, e168_65, zpush_some, zpush_none, true_or, or_true, true_and, and_true, ↓reduceIte, zq_ite, zq_itel, zo_3, zr_3_5, zo_62, zo_14, s_Q_hasMessage hz, XC_m hX, s_M_isOne hK, s_M_in, s_X_isCorner, g1, g2, h1, h2, h3, zz_1, not_true_eq_false, not_false_eq_true, zr_14_2, zn_17, zl_17, zp, cp, e1, zr_62_16, zn_70, zl_70, i_10, z10, y10, e3]
        exact ⟨same_i, h⟩
      · have eg : (nI ((rep K m s0 D).2.1 p) = nI c) = False := (nI_eqN (by omega) (by omega)).trans (eq_false hg)
        have hD := hds.1
        by_cases hD4 : D.length = 40
        · have f3 : ((40 : Int32) < 40) = False := eq_false (by decide)
          have f4 : nI D.length = 40 := by rw [hD4]; rfl
          simp only [e68_0, e68_1, e68_4, e68_5, e68_8, e68_11, e68_12, e68_15, e68_18, e68_19, e68_20, e68_21, e68_24, e68_27, e68_28, e68_29, e68_30, e68_31, e68_32, e68_35, e68_37, e68_38, e68_39, e68_42, e68_45, e68_47, e68_50, e68_52, e68_53, e68_54, e68_55, e68_56, e68_59, e68_62, e68_63, e168_0, e168_1, e168_2, e168_5, e168_8, e168_9, e168_10, e168_12, e168_15, e168_18, e168_19, e168_20, e168_21, e168_24, e168_26, e168_27, e168_28, e168_29, e168_30, e168_31, e168_32, e168_35, e168_37, e168_38, e168_39, e168_42, e168_44, e168_47, e168_49, e168_50, e168_51, e168_54, e168_55, e168_58, e168_60, e168_61, e168_62, e168_63, e168_64, e168_65, zpush_some, zpush_none, true_or, or_true, true_and, and_true, ↓reduceIte, zq_ite, zq_itel, zo_3, zr_3_5, zo_62, zo_14, s_Q_hasMessage hz, XC_m hX, s_M_isOne hK, s_M_in, s_X_isCorner, g1, g2, h1, h2, h3, zz_1, not_true_eq_false, not_false_eq_true, zr_14_2, zn_17, zl_17, zp, cp, e1, eg, zr_3_2, Sz_6.1, hds.2.1, f3, f4, hn, zr_62_16, zn_70, zl_70, i_10, z10, y10, e3]
          exact ⟨same_i, h⟩
        · have f3 : (nI D.length < 40) = True := (nI_ltN (b := 40) (by omega) (by decide)).trans (eq_true (by omega))
          have f4 : (nI D.length = 40) = False := (nI_eqN (b := 40) (by omega) (by decide)).trans (eq_false hD4)
          simp only [e68_0, e68_1, e68_4, e68_5, e68_8, e68_11, e68_12, e68_15, e68_18, e68_19, e68_20, e68_21, e68_24, e68_27, e68_28, e68_29, e68_30, e68_31, e68_32, e68_35, e68_37, e68_38, e68_39, e68_42, e68_45, e68_47, e68_50, e68_52, e68_53, e68_54, e68_55, e68_56, e68_59, e68_62, e68_63, zpush_some, zpush_none, true_or, or_true, true_and, and_true, ↓reduceIte, zq_ite, zq_itel, zo_3, zr_3_5, zo_14, s_Q_hasMessage hz, XC_m hX, s_X_isCorner, g1, g2, h1, h2, zz_1, not_true_eq_false, not_false_eq_true, zr_14_2, zn_17, zl_17, zp, cp, e1, eg, zr_3_2, Sz_6.1, hds.2.1, f3, s_X_aimDeed]
          have hok2 : okd m (2 + 4 * (16 * p + c)) := Or.inr (Or.inr ⟨by omega, by omega⟩)
          refine t_X_perform hX (by omega) hds (by omega) hok2 (fun I1 L1 x1 x2 x3 x4 => ?_)
          have r : do1 K m (rep K m s0 D) (2 + 4 * (16 * p + c)) = ((rep K m s0 D).1, fun q => if q = p then c else (rep K m s0 D).2.1 q, (rep K m s0 D).2.2) := by
            unfold do1
            rw [if_neg (by omega), if_pos (by omega), show (2 + 4 * (16 * p + c)) / 4 / 16 = p by omega, show (2 + 4 * (16 * p + c)) / 4 % 16 = c by omega]
          have hn1 : I1 62 18 = nI D.length := by rw [x3 62 18 (by decide) (by decide) (by decide)]; exact hn
          have hK1 : MK I1 m K := by
            obtain ⟨K', e, k1, k2, k3⟩ := hK
            exact ⟨K', e, by rw [x3 62 14 (by decide) (by decide) (by decide)]; exact k1, k2, fun i hi => by rw [x3 69 i (by decide) (by decide) (by decide)]; exact k3 i hi⟩
          have hg1 : I1 70 (10 + p) = nI ((rep K m s0 D).2.1 p) := by rw [x3 70 _ (by decide) (by decide) (by decide)]; exact e3
          simp only [e68_0, e68_1, e68_4, e68_5, e68_8, e68_11, e68_12, e68_15, e68_18, e68_19, e68_20, e68_21, e68_24, e68_27, e68_28, e68_29, e68_30, e68_31, e68_32, e68_35, e68_37, e68_38, e68_39, e68_42, e68_45, e68_47, e68_50, e68_52, e68_53, e68_54, e68_55, e68_56, e68_59, e68_62, e68_63, e168_0, e168_1, e168_2, e168_5, e168_8, e168_9, e168_10, e168_12, e168_15, e168_18, e168_19, e168_20, e168_21, e168_24, e168_26, e168_27, e168_28, e168_29, e168_30, e168_31, e168_32, e168_35, e168_37, e168_38, e168_39, e168_42, e168_44, e168_47, e168_49, e168_50, e168_51, e168_54, e168_55, e168_58, e168_60, e168_61, e168_62, e168_63, e168_64, e168_65, zpush_some, zpush_none, true_or, or_true, true_and, and_true, ↓reduceIte, zq_ite, zq_itel, zo_62, s_M_isOne hK1, s_M_in, g1, g2, h1, h3, zz_1, not_true_eq_false, not_false_eq_true, zr_62_16, zn_70, zl_70, i_10, z10, y10, hg1, eg, hn1, f4]
          refine s_M_note hn1 (by omega) (fun I2 y1 y2 y3 y4 => ?_)
          simp only [e168_0, e168_1, e168_2, e168_5, e168_8, e168_9, e168_10, e168_12, e168_15, e168_18, e168_19, e168_20, e168_21, e168_24, e168_26, e168_27, e168_28, e168_29, e168_30, e168_31, e168_32, e168_35, e168_37, e168_38, e168_39, e168_42, e168_44, e168_47, e168_49, e168_50, e168_51, e168_54, e168_55, e168_58, e168_60, e168_61, e168_62, e168_63, e168_64, e168_65, zpush_some, zpush_none, true_or, or_true, true_and, and_true, ↓reduceIte, zq_ite, zq_itel, zo_62, zr_62_16, zn_70, zw_70, zl_70, i_10, z10, y10]
          have hM2 : MC I2 70 m (rep K m s0 D) := MC_eq hM (fun j => by rw [y1 70 j (by decide) (by omega), x3 70 j (by decide) (by decide) (by decide)])
          have hI : ∀ k j, k ≠ 6 → k ≠ 7 → (k < 14 ∨ 18 < k) → (k ≠ 62 ∨ j ≠ 18) → k ≠ 70 → k ≠ 71 → zup I2 70 (10 + p) (nI c) k j = I k j := fun k j a1 a2 a3 a4 a5 a6 => by
            rw [zup_ne a5, y1 k j a6 a4, x3 k j a1 a2 a3]
          refine ⟨same_i, inv_cube h ⟨m, K, s0, D ++ [2 + 4 * (16 * p + c)], kp, ICs_do hcs hok2 (DS_eq x2 ?_ (fun j => ?_)) (XC_eq x1 (fun k' j a b _ => ?_) rfl) (by rw [r]; exact MC_goal hM2 hm hp hc) ?_ ?_ (fun j hj => ?_) (fun k j cc a1 a2 a3 a4 a5 a6 => hI k j a1 a2 a3 a4 a5 a6) (x4 9 5 (by decide))⟩ (fun k j hk => hI k j (by omega) (by omega) (by omega) (by omega) (by omega) (by omega)) (fun k j hk => x4 k j (by omega))⟩
          · rw [zup_ne (by decide), y1 6 1 (by decide) (by decide)]
          · rw [zup_ne (by decide), y1 7 j (by decide) (by omega)]
          · rw [zup_ne (by omega), y1 k' j (by omega) (by omega)]
          · rw [zup_ne (by decide), y4]
          · refine MCo_cpy (MCo_0.mpr hM) (fun j hj => ?_)
            rw [zup_ne (by decide), y3 j hj, x3 70 _ (by decide) (by decide) (by decide)]
          · rw [zup_ne (by decide), y2 j hj, x3 71 j (by decide) (by decide) (by decide)]
end
