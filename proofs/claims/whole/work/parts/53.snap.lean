/-! SNAP, MEND -/
theorem tog_or {x : Int32} {l : Nat} (hl : l < 32) (h : bt x l = false) : x ||| (1 : Int32) <<< (nI l &&& 31) = tog x l := by
  refine bt_ext fun i hi => ?_
  rw [bt_or, bt_shl hl hi, bt_tog x hl hi]
  by_cases e : i = l
  · subst e; rw [h]; simp
  · simp [e]
theorem tog_and {x : Int32} {l : Nat} (hl : l < 32) (h : bt x l = true) : x &&& ((1 : Int32) <<< (nI l &&& 31) ^^^ (-1)) = tog x l := by
  refine bt_ext fun i hi => ?_
  rw [bt_and, bt_xor, bt_shl hl hi, b_m1 i hi, bt_tog x hl hi]
  by_cases e : i = l
  · subst e; rw [h]; simp
  · simp [e]
section
variable {n d : Nat} {I I' : zi} {L L' : zl} {Q : zq} {K K' : Nat → Nat} {s s' s0 : Cs} {k m q i a b l : Nat} {D : List Nat} {c : Nat} {kp : Nat → Option (List Nat)}
theorem MC_brk (hx : MC I a m s) (x : Int32) : MC (zup I a 2 x) a m (s.1, s.2.1, s.2.2.1, x, s.2.2.2.2) := by
  obtain ⟨s', ⟨e2, e3, e4, e5⟩, h0, h1, h2, hcs⟩ := hx
  refine ⟨(s'.1, s'.2.1, s'.2.2.1, x, s'.2.2.2.2), ⟨e2, e3, e4, ?_⟩, by rw [zup_nj (by decide)]; exact h0, by rw [zup_nj (by decide)]; exact h1, zup_eq, fun q hq => ?_⟩
  · show (x, s'.2.2.2.2) = (x, s.2.2.2.2)
    rw [e5]
  · rw [zup_nj (by omega), zup_nj (by omega), zup_nj (by omega)]
    exact hcs q hq
/-- behind a deed of both -/
theorem deed_inv (h : Inv I L) (hcs : ICs I L m K s0 D kp) {I1 I2 I3 : zi} {L1 : zl} (hokd : okd m c) (x1 : XC I1 L1 14 m K (do1 K m (rep K m s0 D) c)) (x2 : DS I1 6 (D ++ [c])) (x3 : ∀ k j, k ≠ 6 → k ≠ 7 → (k < 14 ∨ 18 < k) → I1 k j = I k j) (x4 : ∀ k j, k ≠ 14 → L1 k j = L k j) (y1 : ∀ k j, k ≠ 71 → (k ≠ 62 ∨ j ≠ 18) → I2 k j = I1 k j) (y2 : ∀ j, j < 24 * D.length → I2 71 j = I1 71 j) (y3 : ∀ j, j < 24 → I2 71 (24 * D.length + j) = I1 70 (0 + j)) (y4 : I2 62 18 = nI (D.length + 1)) (w1 : MC I3 70 m (do1 K m (rep K m s0 D) c)) (w2 : ∀ k j, k ≠ 70 → k ≠ 76 → k ≠ 77 → I3 k j = I2 k j) : Inv I3 L1 := by
  obtain ⟨hX, hM, hK, ht, hds, hn, hm, hok⟩ := hcs.now
  have hI : ∀ k j, k ≠ 6 → k ≠ 7 → (k < 14 ∨ 18 < k) → (k ≠ 62 ∨ j ≠ 18) → k ≠ 70 → k ≠ 71 → k ≠ 76 → k ≠ 77 → I3 k j = I k j := fun k j a1 a2 a3 a4 a5 a6 a7 a8 => by
    rw [w2 k j a5 a7 a8, y1 k j a6 a4, x3 k j a1 a2 a3]
  refine inv_cube h ⟨m, K, s0, D ++ [c], kp, ICs_do hcs hokd (DS_eq x2 ?_ (fun j => ?_)) (XC_eq x1 (fun k' j a b _ => ?_) rfl) w1 ?_ ?_ (fun j hj => ?_) (fun k j cc a1 a2 a3 a4 a5 a6 => hI k j a1 a2 a3 a4 a5 a6 (by unfold cubeCell at cc; omega) (by unfold cubeCell at cc; omega)) (x4 9 5 (by decide))⟩ (fun k j hk => hI k j (by omega) (by omega) (by omega) (by omega) (by omega) (by omega) (by omega) (by omega)) (fun k j hk => x4 k j (by omega))
  · rw [w2 6 1 (by decide) (by decide) (by decide), y1 6 1 (by decide) (by decide)]
  · rw [w2 7 j (by decide) (by decide) (by decide), y1 7 j (by decide) (by omega)]
  · rw [w2 k' j (by omega) (by omega) (by omega), y1 k' j (by omega) (by omega)]
  · rw [w2 62 18 (by decide) (by decide) (by decide), y4]
  · refine MCo_cpy (MCo_0.mpr hM) (fun j hj => ?_)
    rw [w2 71 _ (by decide) (by decide) (by decide), y3 j hj, x3 70 _ (by decide) (by decide) (by decide)]
  · rw [w2 71 j (by decide) (by decide) (by decide), y2 j hj, x3 71 j (by decide) (by decide) (by decide)]
theorem s_X_linkDeed : zV n d 64 0 [.int (nI l)] [] I L Q ↔ Q (some (.int (nI (1 + 4 * l)))) I L := by
  have e2 : (4 : Int32) * nI l = nI (4 * l) := pk_mul 4 l
  have e3 : ∀ x, (1 : Int32) + nI x = nI (1 + x) := i_tk 1
  simp only [e64_0, e64_1, e64_2, e64_3, e64_4, e64_5, zpush_some, zpush_none, true_or, or_true, true_and, and_true, ↓reduceIte, zq_ite, zq_itel, e2, e3]
theorem do1_tog (hl : l < 32) : do1 K m s (1 + 4 * l) = (s.1, s.2.1, s.2.2.1, tog s.2.2.2.1 l, s.2.2.2.2) := by
  unfold do1
  rw [if_pos (by omega), show (1 + 4 * l) / 4 = l by omega]
theorem p_snap (h : Inv I L) (l : Int32) : zV n (d + 7) 62 0 [.ref 3, .int l] [] I L (fun v1 I1 L1 => zV n (d + 7) 166 0 [.ref 62, .int l] [] I1 L1 (fun v2 I2 L2 => same v1 v2 ∧ Inv I2 L2)) := by
  obtain ⟨m, K, s0, D, kp, hcs⟩ := h.apart
  obtain ⟨hX, hM, hK, ht, hds, hn, hm, hok⟩ := hcs.now
  have hz := Qa_z (k := 14) (Or.inr (Or.inl rfl))
  rcases rng l 31 (by decide) (a := 32) (b := 31) rfl rfl with h1 | ⟨h1, h2, h3⟩ | ⟨j, hj, rfl, h1, h2, h3⟩
  · simp only [e62_0, e62_1, e62_4, e62_7, e62_8, e62_9, e62_10, e62_13, e62_16, e62_19, e62_20, e62_23, e62_24, e62_27, e62_30, e62_32, e62_33, e62_34, e62_35, e62_38, e166_0, e166_1, e166_2, e166_4, e166_7, e166_10, e166_11, e166_12, e166_13, e166_16, e166_19, e166_20, e166_23, e166_24, e166_25, e166_26, e166_29, e166_32, e166_34, e166_35, e166_36, e166_39, e166_41, e166_44, e166_46, e166_47, e166_48, e166_51, e166_52, e166_55, e166_56, e166_57, e166_60, e166_61, e166_62, e166_63, e166_64, e166_65, e166_66, e166_67, e166_68, e166_71, e166_72, e166_73, e166_76, zpush_some, zpush_none, true_or, or_true, true_and, and_true, ↓reduceIte, zq_ite, zq_itel, s_X_isLink, s_M_in, h1, not_true_eq_false]
    exact ⟨same_i, h⟩
  · simp only [e62_0, e62_1, e62_4, e62_7, e62_8, e62_9, e62_10, e62_13, e62_16, e62_19, e62_20, e62_23, e62_24, e62_27, e62_30, e62_32, e62_33, e62_34, e62_35, e62_38, e166_0, e166_1, e166_2, e166_4, e166_7, e166_10, e166_11, e166_12, e166_13, e166_16, e166_19, e166_20, e166_23, e166_24, e166_25, e166_26, e166_29, e166_32, e166_34, e166_35, e166_36, e166_39, e166_41, e166_44, e166_46, e166_47, e166_48, e166_51, e166_52, e166_55, e166_56, e166_57, e166_60, e166_61, e166_62, e166_63, e166_64, e166_65, e166_66, e166_67, e166_68, e166_71, e166_72, e166_73, e166_76, zpush_some, zpush_none, true_or, or_true, true_and, and_true, ↓reduceIte, zq_ite, zq_itel, s_X_isLink, s_M_in, h1, h2, h3, not_true_eq_false]
    exact ⟨same_i, h⟩
  · by_cases hm0 : m = 0
    · have e0 : (nI m = 0) = True := by rw [nI_z (by omega)]; exact eq_true hm0
      simp only [e62_0, e62_1, e62_4, e62_7, e62_8, e62_9, e62_10, e62_13, e62_16, e62_19, e62_20, e62_23, e62_24, e62_27, e62_30, e62_32, e62_33, e62_34, e62_35, e62_38, e166_0, e166_1, e166_2, e166_4, e166_7, e166_10, e166_11, e166_12, e166_13, e166_16, e166_19, e166_20, e166_23, e166_24, e166_25, e166_26, e166_29, e166_32, e166_34, e166_35, e166_36, e166_39, e166_41, e166_44, e166_46, e166_47, e166_48, e166_51, e166_52, e166_55, e166_56, e166_57, e166_60, e166_61, e166_62, e166_63, e166_64, e166_65, e166_66, e166_67, e166_68, e166_71, e166_72, e166_73, e166_76, zpush_some, zpush_none, true_or, or_true, true_and, and_true, ↓reduceIte, zq_ite, zq_itel, s_X_isLink, s_M_in, h1, h2, h3, zz_1, not_false_eq_true, zo_3, zr_3_5, zo_14, zo_62, XC_m hX, MK_m hK, e0]
      exact ⟨same_i, h⟩
    · have e0 : (nI m = 0) = False := by rw [nI_z (by omega)]; exact eq_false hm0
      cases hb : bt (rep K m s0 D).2.2.2.1 j
      · have hD := hds.1
        by_cases hD4 : D.length = 40
        · have f3 : ((40 : Int32) < 40) = False := eq_false (by decide)
          have f4 : nI D.length = 40 := by rw [hD4]; rfl
          simp only [e62_0, e62_1, e62_4, e62_7, e62_8, e62_9, e62_10, e62_13, e62_16, e62_19, e62_20, e62_23, e62_24, e62_27, e62_30, e62_32, e62_33, e62_34, e62_35, e62_38, e63_0, e63_1, e63_4, e63_7, e63_9, e63_12, e63_14, e63_15, e63_16, e63_17, e63_20, e63_23, e63_24, e63_27, e63_30, e166_0, e166_1, e166_2, e166_4, e166_7, e166_10, e166_11, e166_12, e166_13, e166_16, e166_19, e166_20, e166_23, e166_24, e166_25, e166_26, e166_29, e166_32, e166_34, e166_35, e166_36, e166_39, e166_41, e166_44, e166_46, e166_47, e166_48, e166_51, e166_52, e166_55, e166_56, e166_57, e166_60, e166_61, e166_62, e166_63, e166_64, e166_65, e166_66, e166_67, e166_68, e166_71, e166_72, e166_73, e166_76, zpush_some, zpush_none, true_or, or_true, true_and, and_true, ↓reduceIte, zq_ite, zq_itel, s_X_isLink, s_M_in, h1, h2, h3, zz_1, not_false_eq_true, not_true_eq_false, zo_3, zr_3_5, zo_14, zo_62, XC_m hX, MK_m hK, e0, s_Q_isBroken hz (XC_B hX) hj, hb, zb_f, zr_62_16, zn_70, zl_70, zi_2, zt_2, Nat.reduceLT, decide_true, MC_x hM, s_M_hasN _ hj, zr_3_2, Sz_6.1, hds.2.1, f3, f4, hn]
          exact ⟨same_i, h⟩
        · have f3 : (nI D.length < 40) = True := (nI_ltN (b := 40) (by omega) (by decide)).trans (eq_true (by omega))
          have f4 : (nI D.length = 40) = False := (nI_eqN (b := 40) (by omega) (by decide)).trans (eq_false hD4)
          simp only [e62_0, e62_1, e62_4, e62_7, e62_8, e62_9, e62_10, e62_13, e62_16, e62_19, e62_20, e62_23, e62_24, e62_27, e62_30, e62_32, e62_33, e62_34, e62_35, e62_38, e63_0, e63_1, e63_4, e63_7, e63_9, e63_12, e63_14, e63_15, e63_16, e63_17, e63_20, e63_23, e63_24, e63_27, e63_30, zpush_some, zpush_none, true_or, or_true, true_and, and_true, ↓reduceIte, zq_ite, zq_itel, s_X_isLink, h1, h2, zz_1, not_false_eq_true, zo_3, zr_3_5, zo_14, XC_m hX, e0, s_Q_isBroken hz (XC_B hX) hj, hb, zb_f, zr_3_2, Sz_6.1, hds.2.1, f3, s_X_linkDeed]
          have hok2 : okd m (1 + 4 * j) := Or.inr (Or.inl ⟨by omega, by omega⟩)
          refine t_X_perform hX (by omega) hds (by omega) hok2 (fun I1 L1 x1 x2 x3 x4 => ?_)
          have r := do1_tog (K := K) (m := m) (s := rep K m s0 D) hj
          have hB1 : AB (L1 14 5) (bt (tog (rep K m s0 D).2.2.2.1 j)) := by have := XC_B x1; rw [r] at this; exact this
          have hn1 : I1 62 18 = nI D.length := by rw [x3 62 18 (by decide) (by decide) (by decide)]; exact hn
          have hm1 : I1 62 14 = nI m := by rw [x3 62 14 (by decide) (by decide) (by decide)]; exact MK_m hK
          have hM1 : MC I1 70 m (rep K m s0 D) := MC_eq hM (fun j => x3 70 j (by decide) (by decide) (by decide))
          simp only [e62_0, e62_1, e62_4, e62_7, e62_8, e62_9, e62_10, e62_13, e62_16, e62_19, e62_20, e62_23, e62_24, e62_27, e62_30, e62_32, e62_33, e62_34, e62_35, e62_38, e63_0, e63_1, e63_4, e63_7, e63_9, e63_12, e63_14, e63_15, e63_16, e63_17, e63_20, e63_23, e63_24, e63_27, e63_30, e166_0, e166_1, e166_2, e166_4, e166_7, e166_10, e166_11, e166_12, e166_13, e166_16, e166_19, e166_20, e166_23, e166_24, e166_25, e166_26, e166_29, e166_32, e166_34, e166_35, e166_36, e166_39, e166_41, e166_44, e166_46, e166_47, e166_48, e166_51, e166_52, e166_55, e166_56, e166_57, e166_60, e166_61, e166_62, e166_63, e166_64, e166_65, e166_66, e166_67, e166_68, e166_71, e166_72, e166_73, e166_76, zpush_some, zpush_none, true_or, or_true, true_and, and_true, ↓reduceIte, zq_ite, zq_itel, s_M_in, h1, h3, zz_1, not_false_eq_true, zo_3, zr_3_5, zo_14, zo_62, s_Q_howManyBroken hz hB1, hm1, e0, zr_62_16, zn_70, zl_70, zi_2, zt_2, Nat.reduceLT, decide_true, MC_x hM1, s_M_hasN _ hj, hb, zb_f, hn1, f4]
          refine s_M_note hn1 (by omega) (fun I2 y1 y2 y3 y4 => ?_)
          have hM2 : MC I2 70 m (rep K m s0 D) := MC_eq hM1 (fun j => y1 70 j (by decide) (by omega))
          simp only [e166_0, e166_1, e166_2, e166_4, e166_7, e166_10, e166_11, e166_12, e166_13, e166_16, e166_19, e166_20, e166_23, e166_24, e166_25, e166_26, e166_29, e166_32, e166_34, e166_35, e166_36, e166_39, e166_41, e166_44, e166_46, e166_47, e166_48, e166_51, e166_52, e166_55, e166_56, e166_57, e166_60, e166_61, e166_62, e166_63, e166_64, e166_65, e166_66, e166_67, e166_68, e166_71, e166_72, e166_73, e166_76, zpush_some, zpush_none, true_or, or_true, true_and, and_true, ↓reduceIte, zq_ite, zq_itel, zo_62, zr_62_16, zn_70, zw_70, zl_70, zi_2, zt_2, Nat.reduceLT, decide_true, MC_x hM2, tog_or hj hb, zup_eq, s_M_bits]
          refine ⟨same_i, deed_inv h hcs hok2 x1 x2 x3 x4 y1 y2 y3 y4 ?_ (fun k j a _ _ => zup_ne a)⟩
          rw [r]
          exact MC_brk hM2 _
      · simp only [e62_0, e62_1, e62_4, e62_7, e62_8, e62_9, e62_10, e62_13, e62_16, e62_19, e62_20, e62_23, e62_24, e62_27, e62_30, e62_32, e62_33, e62_34, e62_35, e62_38, e166_0, e166_1, e166_2, e166_4, e166_7, e166_10, e166_11, e166_12, e166_13, e166_16, e166_19, e166_20, e166_23, e166_24, e166_25, e166_26, e166_29, e166_32, e166_34, e166_35, e166_36, e166_39, e166_41, e166_44, e166_46, e166_47, e166_48, e166_51, e166_52, e166_55, e166_56, e166_57, e166_60, e166_61, e166_62, e166_63, e166_64, e166_65, e166_66, e166_67, e166_68, e166_71, e166_72, e166_73, e166_76, zpush_some, zpush_none, true_or, or_true, true_and, and_true, ↓reduceIte, zq_ite, zq_itel, s_X_isLink, s_M_in, h1, h2, h3, zz_1, not_false_eq_true, zo_3, zr_3_5, zo_14, zo_62, XC_m hX, MK_m hK, e0, s_Q_isBroken hz (XC_B hX) hj, hb, zb_t, zr_62_16, zn_70, zl_70, zi_2, zt_2, Nat.reduceLT, decide_true, MC_x hM, s_M_hasN _ hj]
        exact ⟨same_i, h⟩
theorem p_mend (h : Inv I L) (l : Int32) : zV n (d + 7) 67 0 [.ref 3, .int l] [] I L (fun v1 I1 L1 => zV n (d + 7) 167 0 [.ref 62, .int l] [] I1 L1 (fun v2 I2 L2 => same v1 v2 ∧ Inv I2 L2)) := by
  obtain ⟨m, K, s0, D, kp, hcs⟩ := h.apart
  obtain ⟨hX, hM, hK, ht, hds, hn, hm, hok⟩ := hcs.now
  have hz := Qa_z (k := 14) (Or.inr (Or.inl rfl))
  rcases rng l 31 (by decide) (a := 32) (b := 31) rfl rfl with h1 | ⟨h1, h2, h3⟩ | ⟨j, hj, rfl, h1, h2, h3⟩
  · simp only [e67_0, e67_1, e67_4, e67_7, e67_8, e67_9, e67_10, e67_13, e67_14, e67_17, e67_20, e67_22, e67_23, e67_24, e67_25, e67_28, e167_0, e167_1, e167_2, e167_4, e167_7, e167_10, e167_11, e167_12, e167_13, e167_16, e167_17, e167_18, e167_19, e167_22, e167_25, e167_27, e167_28, e167_29, e167_32, e167_34, e167_37, e167_39, e167_40, e167_41, e167_44, e167_45, e167_48, e167_49, e167_50, e167_53, e167_54, e167_55, e167_56, e167_57, e167_58, e167_59, e167_60, e167_61, e167_62, e167_63, e167_66, e167_67, e167_68, e167_71, zpush_some, zpush_none, true_or, or_true, true_and, and_true, ↓reduceIte, zq_ite, zq_itel, s_X_isLink, s_M_in, h1, not_true_eq_false]
    exact ⟨same_i, h⟩
  · simp only [e67_0, e67_1, e67_4, e67_7, e67_8, e67_9, e67_10, e67_13, e67_14, e67_17, e67_20, e67_22, e67_23, e67_24, e67_25, e67_28, e167_0, e167_1, e167_2, e167_4, e167_7, e167_10, e167_11, e167_12, e167_13, e167_16, e167_17, e167_18, e167_19, e167_22, e167_25, e167_27, e167_28, e167_29, e167_32, e167_34, e167_37, e167_39, e167_40, e167_41, e167_44, e167_45, e167_48, e167_49, e167_50, e167_53, e167_54, e167_55, e167_56, e167_57, e167_58, e167_59, e167_60, e167_61, e167_62, e167_63, e167_66, e167_67, e167_68, e167_71, zpush_some, zpush_none, true_or, or_true, true_and, and_true, ↓reduceIte, zq_ite, zq_itel, s_X_isLink, s_M_in, h1, h2, h3, not_true_eq_false]
    exact ⟨same_i, h⟩
  · cases hb : bt (rep K m s0 D).2.2.2.1 j
    · simp only [e67_0, e67_1, e67_4, e67_7, e67_8, e67_9, e67_10, e67_13, e67_14, e67_17, e67_20, e67_22, e67_23, e67_24, e67_25, e67_28, e167_0, e167_1, e167_2, e167_4, e167_7, e167_10, e167_11, e167_12, e167_13, e167_16, e167_17, e167_18, e167_19, e167_22, e167_25, e167_27, e167_28, e167_29, e167_32, e167_34, e167_37, e167_39, e167_40, e167_41, e167_44, e167_45, e167_48, e167_49, e167_50, e167_53, e167_54, e167_55, e167_56, e167_57, e167_58, e167_59, e167_60, e167_61, e167_62, e167_63, e167_66, e167_67, e167_68, e167_71, zpush_some, zpush_none, true_or, or_true, true_and, and_true, ↓reduceIte, zq_ite, zq_itel, s_X_isLink, s_M_in, h1, h2, h3, zz_1, not_false_eq_true, not_true_eq_false, zo_3, zr_3_5, zo_14, zo_62, s_Q_isBroken hz (XC_B hX) hj, hb, zb_f, zr_62_16, zn_70, zl_70, zi_2, zt_2, Nat.reduceLT, decide_true, MC_x hM, s_M_hasN _ hj]
      exact ⟨same_i, h⟩
    · have hD := hds.1
      by_cases hD4 : D.length = 40
      · have f3 : ((40 : Int32) < 40) = False := eq_false (by decide)
        have f4 : nI D.length = 40 := by rw [hD4]; rfl
        simp only [e67_0, e67_1, e67_4, e67_7, e67_8, e67_9, e67_10, e67_13, e67_14, e67_17, e67_20, e67_22, e67_23, e67_24, e67_25, e67_28, e63_0, e63_1, e63_4, e63_7, e63_9, e63_12, e63_14, e63_15, e63_16, e63_17, e63_20, e63_23, e63_24, e63_27, e63_30, e167_0, e167_1, e167_2, e167_4, e167_7, e167_10, e167_11, e167_12, e167_13, e167_16, e167_17, e167_18, e167_19, e167_22, e167_25, e167_27, e167_28, e167_29, e167_32, e167_34, e167_37, e167_39, e167_40, e167_41, e167_44, e167_45, e167_48, e167_49, e167_50, e167_53, e167_54, e167_55, e167_56, e167_57, e167_58, e167_59, e167_60, e167_61, e167_62, e167_63, e167_66, e167_67, e167_68, e167_71, zpush_some, zpush_none, true_or, or_true, true_and, and_true, ↓reduceIte, zq_ite, zq_itel, s_X_isLink, s_M_in, h1, h2, h3, zz_1, not_false_eq_true, not_true_eq_false, zo_3, zr_3_5, zo_14, zo_62, s_Q_isBroken hz (XC_B hX) hj, hb, zb_t, zr_62_16, zn_70, zl_70, zi_2, zt_2, Nat.reduceLT, decide_true, MC_x hM, s_M_hasN _ hj, zr_3_2, Sz_6.1, hds.2.1, f3, f4, hn]
        exact ⟨same_i, h⟩
      · have f3 : (nI D.length < 40) = True := (nI_ltN (b := 40) (by omega) (by decide)).trans (eq_true (by omega))
        have f4 : (nI D.length = 40) = False := (nI_eqN (b := 40) (by omega) (by decide)).trans (eq_false hD4)
        simp only [e67_0, e67_1, e67_4, e67_7, e67_8, e67_9, e67_10, e67_13, e67_14, e67_17, e67_20, e67_22, e67_23, e67_24, e67_25, e67_28, e63_0, e63_1, e63_4, e63_7, e63_9, e63_12, e63_14, e63_15, e63_16, e63_17, e63_20, e63_23, e63_24, e63_27, e63_30, zpush_some, zpush_none, true_or, or_true, true_and, and_true, ↓reduceIte, zq_ite, zq_itel, s_X_isLink, h1, h2, zz_1, not_false_eq_true, zo_3, zr_3_5, zo_14, s_Q_isBroken hz (XC_B hX) hj, hb, zb_t, zr_3_2, Sz_6.1, hds.2.1, f3, s_X_linkDeed]
        have hok2 : okd m (1 + 4 * j) := Or.inr (Or.inl ⟨by omega, by omega⟩)
        refine t_X_perform hX (by omega) hds (by omega) hok2 (fun I1 L1 x1 x2 x3 x4 => ?_)
        have r := do1_tog (K := K) (m := m) (s := rep K m s0 D) hj
        have hB1 : AB (L1 14 5) (bt (tog (rep K m s0 D).2.2.2.1 j)) := by have := XC_B x1; rw [r] at this; exact this
        have hn1 : I1 62 18 = nI D.length := by rw [x3 62 18 (by decide) (by decide) (by decide)]; exact hn
        have hM1 : MC I1 70 m (rep K m s0 D) := MC_eq hM (fun j => x3 70 j (by decide) (by decide) (by decide))
        simp only [e67_0, e67_1, e67_4, e67_7, e67_8, e67_9, e67_10, e67_13, e67_14, e67_17, e67_20, e67_22, e67_23, e67_24, e67_25, e67_28, e63_0, e63_1, e63_4, e63_7, e63_9, e63_12, e63_14, e63_15, e63_16, e63_17, e63_20, e63_23, e63_24, e63_27, e63_30, e167_0, e167_1, e167_2, e167_4, e167_7, e167_10, e167_11, e167_12, e167_13, e167_16, e167_17, e167_18, e167_19, e167_22, e167_25, e167_27, e167_28, e167_29, e167_32, e167_34, e167_37, e167_39, e167_40, e167_41, e167_44, e167_45, e167_48, e167_49, e167_50, e167_53, e167_54, e167_55, e167_56, e167_57, e167_58, e167_59, e167_60, e167_61, e167_62, e167_63, e167_66, e167_67, e167_68, e167_71, zpush_some, zpush_none, true_or, or_true, true_and, and_true, ↓reduceIte, zq_ite, zq_itel, s_M_in, h1, h3, zz_1, not_false_eq_true, zo_3, zr_3_5, zo_14, zo_62, s_Q_howManyBroken hz hB1, zr_62_16, zn_70, zl_70, zi_2, zt_2, Nat.reduceLT, decide_true, MC_x hM1, s_M_hasN _ hj, hb, zb_t, hn1, f4]
        refine s_M_note hn1 (by omega) (fun I2 y1 y2 y3 y4 => ?_)
        have hM2 : MC I2 70 m (rep K m s0 D) := MC_eq hM1 (fun j => y1 70 j (by decide) (by omega))
        simp only [e167_0, e167_1, e167_2, e167_4, e167_7, e167_10, e167_11, e167_12, e167_13, e167_16, e167_17, e167_18, e167_19, e167_22, e167_25, e167_27, e167_28, e167_29, e167_32, e167_34, e167_37, e167_39, e167_40, e167_41, e167_44, e167_45, e167_48, e167_49, e167_50, e167_53, e167_54, e167_55, e167_56, e167_57, e167_58, e167_59, e167_60, e167_61, e167_62, e167_63, e167_66, e167_67, e167_68, e167_71, zpush_some, zpush_none, true_or, or_true, true_and, and_true, ↓reduceIte, zq_ite, zq_itel, zo_62, zr_62_16, zn_70, zw_70, zl_70, zi_2, zt_2, Nat.reduceLT, decide_true, MC_x hM2, tog_and hj hb, zup_eq, s_M_bits]
        refine ⟨same_i, deed_inv h hcs hok2 x1 x2 x3 x4 y1 y2 y3 y4 ?_ (fun k j a _ _ => zup_ne a)⟩
        rw [r]
        exact MC_brk hM2 _
end
