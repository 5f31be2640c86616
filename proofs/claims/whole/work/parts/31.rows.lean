/-! ROWS -/
theorem rng (r : Int32) (N : Nat) (hN : N + 1 < 2 ^ 31) {a b : Int32} (ha : a = nI (N + 1)) (hb : b = nI N) : ((r < 0) = True) ∨ ((r < 0) = False ∧ (a ≤ r) = True ∧ (b < r) = True) ∨ ∃ j, j < N + 1 ∧ r = nI j ∧ (nI j < 0) = False ∧ (a ≤ nI j) = False ∧ (b < nI j) = False := by
  subst ha hb
  rcases pk_ix r hN with h | h | ⟨j, h1, h2⟩
  · exact Or.inl (eq_true h)
  · refine Or.inr (Or.inl ⟨eq_false ?_, eq_true h, eq_true ?_⟩)
    · intro g
      have h1 := Int32.le_iff_toInt_le.mp h
      have h2 := Int32.lt_iff_toInt_lt.mp g
      rw [nI_toInt hN] at h1
      rw [Int32.toInt_zero] at h2
      omega
    · have h1 := Int32.le_iff_toInt_le.mp h
      rw [nI_toInt hN] at h1
      rw [Int32.lt_iff_toInt_lt, nI_toInt (by omega)]
      omega
  · exact Or.inr (Or.inr ⟨j, h1, h2, eq_false (nI_pos (by omega)), eq_false (nI_ge h1 hN), eq_false (nI_nlt (by omega) (by omega))⟩)
def fX (I : zi) (f : Nat) : zi := zup (zup I 3 11 (nI f)) 35 f (I 35 f + 1)
def fM (I : zi) (f : Nat) : zi := zup (zup I 62 4 (nI f)) 67 f (I 67 f + 1)
theorem fX_o {I : zi} {f k j : Nat} (h : (k ≠ 3 ∨ j ≠ 11) ∧ k ≠ 35) : fX I f k j = I k j := by
  unfold fX
  rw [zup_ne h.2]
  rcases h.1 with g | g
  · exact zup_ne g
  · exact zup_nj g
theorem fM_o {I : zi} {f k j : Nat} (h : (k ≠ 62 ∨ j ≠ 4) ∧ k ≠ 67) : fM I f k j = I k j := by
  unfold fM
  rw [zup_ne h.2]
  rcases h.1 with g | g
  · exact zup_ne g
  · exact zup_nj g
theorem fX_35 {I : zi} {f g : Nat} : fX I f 35 g = if g = f then I 35 f + 1 else I 35 g := by
  unfold fX
  by_cases e : g = f
  · subst e; rw [zup_eq, if_pos rfl]
  · rw [zup_nj e, zup_ne (by decide), if_neg e]
theorem fM_67 {I : zi} {f g : Nat} : fM I f 67 g = if g = f then I 67 f + 1 else I 67 g := by
  unfold fM
  by_cases e : g = f
  · subst e; rw [zup_eq, if_pos rfl]
  · rw [zup_nj e, zup_ne (by decide), if_neg e]
section
variable {n d : Nat} {I : zi} {L : zl} {Q : zq}
theorem inv_find {f : Nat} (hf : 1 ≤ f) (hf5 : f ≤ 5) (h : Inv I L) : Inv (fM (fX I f) f) L := by
  obtain ⟨⟨a1, a2, a3, a4, a5⟩, h2, h3, h4⟩ := h
  have ho : ∀ k j, (k ≠ 3 ∨ j ≠ 11) → k ≠ 35 → (k ≠ 62 ∨ j ≠ 4) → k ≠ 67 → fM (fX I f) f k j = I k j := fun k j b1 b2 b3 b4 => by rw [fM_o ⟨b3, b4⟩, fX_o ⟨b1, b2⟩]
  refine ⟨⟨?_, fun g g1 g2 => ?_, ?_, a4, a5⟩, IRt_eq h2 (fun k j b1 b2 => ho k j (by omega) (by omega) (by omega) (by omega)) (fun j => ho _ j (by omega) (by omega) (by omega) (by omega)) (fun j => ho _ j (by omega) (by omega) (by omega) (by omega)), IRt_eq h3 (fun k j b1 b2 => ho k j (by omega) (by omega) (by omega) (by omega)) (fun j => ho _ j (by omega) (by omega) (by omega) (by omega)) (fun j => ho _ j (by omega) (by omega) (by omega) (by omega)), IC_eq h4 (fun k j hc => ?_) (fun _ _ => rfl)⟩
  · rw [fM_o (by omega)]
    unfold fM fX
    rw [zup_ne (by decide), zup_eq, zup_ne (by decide), zup_eq]
  · rw [fM_o (by omega), fX_35, fM_67, fX_o (by omega), fX_o (by omega), a2 g g1 g2, a2 f hf hf5]
  · rw [ho _ _ (by omega) (by omega) (by omega) (by omega), ho _ _ (by omega) (by omega) (by omega) (by omega)]
    exact a3
  · unfold cubeCell at hc
    exact ho k j (by omega) (by omega) (by omega) (by omega)
theorem s_X_found1 : zV n d 7 0 [.ref 3, .int 1] [] I L Q ↔ Q (some (.int (-3))) (fX I 1) L := by
  simp only [e7_0, e7_1, e7_2, e7_5, e7_6, e7_7, e7_10, e7_11, e7_12, e7_15, e7_16, e7_19, e7_20, e7_21, e7_22, e7_23, e7_24, e7_25, e7_27, zpush_some, zpush_none, true_or, or_true, true_and, and_true, ↓reduceIte, zq_ite, zq_itel, zo_3, zr_3_10, zn_35, zw_35, zl_35, zi_1, zt_1, Int32.reduceLT, Nat.reduceLT, decide_true, zup_ne (show (35 : Nat) ≠ 3 by decide)]
  rfl
theorem s_X_found2 : zV n d 7 0 [.ref 3, .int 2] [] I L Q ↔ Q (some (.int (-3))) (fX I 2) L := by
  simp only [e7_0, e7_1, e7_2, e7_5, e7_6, e7_7, e7_10, e7_11, e7_12, e7_15, e7_16, e7_19, e7_20, e7_21, e7_22, e7_23, e7_24, e7_25, e7_27, zpush_some, zpush_none, true_or, or_true, true_and, and_true, ↓reduceIte, zq_ite, zq_itel, zo_3, zr_3_10, zn_35, zw_35, zl_35, zi_2, zt_2, Int32.reduceLT, Nat.reduceLT, decide_true, zup_ne (show (35 : Nat) ≠ 3 by decide)]
  rfl
theorem s_X_found3 : zV n d 7 0 [.ref 3, .int 3] [] I L Q ↔ Q (some (.int (-3))) (fX I 3) L := by
  simp only [e7_0, e7_1, e7_2, e7_5, e7_6, e7_7, e7_10, e7_11, e7_12, e7_15, e7_16, e7_19, e7_20, e7_21, e7_22, e7_23, e7_24, e7_25, e7_27, zpush_some, zpush_none, true_or, or_true, true_and, and_true, ↓reduceIte, zq_ite, zq_itel, zo_3, zr_3_10, zn_35, zw_35, zl_35, zi_3, zt_3, Int32.reduceLT, Nat.reduceLT, decide_true, zup_ne (show (35 : Nat) ≠ 3 by decide)]
  rfl
theorem s_X_found4 : zV n d 7 0 [.ref 3, .int 4] [] I L Q ↔ Q (some (.int (-3))) (fX I 4) L := by
  simp only [e7_0, e7_1, e7_2, e7_5, e7_6, e7_7, e7_10, e7_11, e7_12, e7_15, e7_16, e7_19, e7_20, e7_21, e7_22, e7_23, e7_24, e7_25, e7_27, zpush_some, zpush_none, true_or, or_true, true_and, and_true, ↓reduceIte, zq_ite, zq_itel, zo_3, zr_3_10, zn_35, zw_35, zl_35, zi_4, zt_4, Int32.reduceLT, Nat.reduceLT, decide_true, zup_ne (show (35 : Nat) ≠ 3 by decide)]
  rfl
theorem s_X_found5 : zV n d 7 0 [.ref 3, .int 5] [] I L Q ↔ Q (some (.int (-3))) (fX I 5) L := by
  simp only [e7_0, e7_1, e7_2, e7_5, e7_6, e7_7, e7_10, e7_11, e7_12, e7_15, e7_16, e7_19, e7_20, e7_21, e7_22, e7_23, e7_24, e7_25, e7_27, zpush_some, zpush_none, true_or, or_true, true_and, and_true, ↓reduceIte, zq_ite, zq_itel, zo_3, zr_3_10, zn_35, zw_35, zl_35, zi_5, zt_5, Int32.reduceLT, Nat.reduceLT, decide_true, zup_ne (show (35 : Nat) ≠ 3 by decide)]
  rfl
theorem s_M_finds1 : zV n d 127 0 [.ref 62, .int 1] [] I L Q ↔ Q (some (.int (-3))) (fM I 1) L := by
  simp only [e127_0, e127_1, e127_2, e127_5, e127_6, e127_9, e127_10, e127_11, e127_12, e127_13, e127_14, e127_15, e127_17, zpush_some, zpush_none, true_or, or_true, true_and, and_true, ↓reduceIte, zq_ite, zq_itel, zo_62, zr_62_5, zn_67, zw_67, zl_67, zi_1, zt_1, Nat.reduceLT, decide_true, zup_ne (show (67 : Nat) ≠ 62 by decide)]
  rfl
theorem s_M_finds2 : zV n d 127 0 [.ref 62, .int 2] [] I L Q ↔ Q (some (.int (-3))) (fM I 2) L := by
  simp only [e127_0, e127_1, e127_2, e127_5, e127_6, e127_9, e127_10, e127_11, e127_12, e127_13, e127_14, e127_15, e127_17, zpush_some, zpush_none, true_or, or_true, true_and, and_true, ↓reduceIte, zq_ite, zq_itel, zo_62, zr_62_5, zn_67, zw_67, zl_67, zi_2, zt_2, Nat.reduceLT, decide_true, zup_ne (show (67 : Nat) ≠ 62 by decide)]
  rfl
theorem s_M_finds3 : zV n d 127 0 [.ref 62, .int 3] [] I L Q ↔ Q (some (.int (-3))) (fM I 3) L := by
  simp only [e127_0, e127_1, e127_2, e127_5, e127_6, e127_9, e127_10, e127_11, e127_12, e127_13, e127_14, e127_15, e127_17, zpush_some, zpush_none, true_or, or_true, true_and, and_true, ↓reduceIte, zq_ite, zq_itel, zo_62, zr_62_5, zn_67, zw_67, zl_67, zi_3, zt_3, Nat.reduceLT, decide_true, zup_ne (show (67 : Nat) ≠ 62 by decide)]
  rfl
theorem s_M_finds4 : zV n d 127 0 [.ref 62, .int 4] [] I L Q ↔ Q (some (.int (-3))) (fM I 4) L := by
  simp only [e127_0, e127_1, e127_2, e127_5, e127_6, e127_9, e127_10, e127_11, e127_12, e127_13, e127_14, e127_15, e127_17, zpush_some, zpush_none, true_or, or_true, true_and, and_true, ↓reduceIte, zq_ite, zq_itel, zo_62, zr_62_5, zn_67, zw_67, zl_67, zi_4, zt_4, Nat.reduceLT, decide_true, zup_ne (show (67 : Nat) ≠ 62 by decide)]
  rfl
theorem s_M_finds5 : zV n d 127 0 [.ref 62, .int 5] [] I L Q ↔ Q (some (.int (-3))) (fM I 5) L := by
  simp only [e127_0, e127_1, e127_2, e127_5, e127_6, e127_9, e127_10, e127_11, e127_12, e127_13, e127_14, e127_15, e127_17, zpush_some, zpush_none, true_or, or_true, true_and, and_true, ↓reduceIte, zq_ite, zq_itel, zo_62, zr_62_5, zn_67, zw_67, zl_67, zi_5, zt_5, Nat.reduceLT, decide_true, zup_ne (show (67 : Nat) ≠ 62 by decide)]
  rfl
theorem s_M_tells (x : Int32) : zV n d 130 0 [.ref 62, .int x] [] I L Q ↔ Q (some (.int 1)) (zup I 62 6 x) L := by
  simp only [e130_0, e130_1, e130_2, e130_5, e130_6, zpush_some, zpush_none, true_or, or_true, true_and, and_true, ↓reduceIte, zq_ite, zq_itel, zo_62]
theorem s_X_tell (x y : Int32) : zV n d 14 0 [.ref 3, .int x, .int y] [] I L Q ↔ Q (some (.int x)) (zup I 3 12 y) L := by
  simp only [e14_0, e14_1, e14_2, e14_5, e14_6, zpush_some, zpush_none, true_or, or_true, true_and, and_true, ↓reduceIte, zq_ite, zq_itel, zo_3]
theorem s_X_isRow (x : Int32) : zV n d 6 0 [.int x] [] I L Q ↔ Q (some (.int (if x < 0 then 0 else if 6 ≤ x then 0 else 1))) I L := by
  simp only [e6_0, e6_1, e6_4, e6_5, e6_7, e6_10, e6_11, e6_14, e6_15, zpush_some, zpush_none, true_or, or_true, true_and, and_true, ↓reduceIte, zq_ite, zq_itel]
theorem s_X_isText (x : Int32) : zV n d 23 0 [.int x] [] I L Q ↔ Q (some (.int (if x < 0 then 0 else if 4 ≤ x then 0 else 1))) I L := by
  simp only [e23_0, e23_1, e23_4, e23_5, e23_6, e23_9, e23_10, e23_13, e23_14, zpush_some, zpush_none, true_or, or_true, true_and, and_true, ↓reduceIte, zq_ite, zq_itel]
theorem s_X_isCorner (x : Int32) : zV n d 29 0 [.int x] [] I L Q ↔ Q (some (.int (if x < 0 then 0 else if 16 ≤ x then 0 else 1))) I L := by
  simp only [e29_0, e29_1, e29_4, e29_5, e29_7, e29_10, e29_11, e29_14, e29_15, zpush_some, zpush_none, true_or, or_true, true_and, and_true, ↓reduceIte, zq_ite, zq_itel]
theorem s_X_isLink (x : Int32) : zV n d 57 0 [.int x] [] I L Q ↔ Q (some (.int (if x < 0 then 0 else if 32 ≤ x then 0 else 1))) I L := by
  simp only [e57_0, e57_1, e57_4, e57_5, e57_7, e57_10, e57_11, e57_14, e57_15, zpush_some, zpush_none, true_or, or_true, true_and, and_true, ↓reduceIte, zq_ite, zq_itel]
theorem row_z : ∀ j, j < 6 → zref 4 j = 36 + 2 * j ∧ zobj (36 + 2 * j) = 2 ∧ zref (36 + 2 * j) 0 = 36 + 2 * j + 1 ∧ zint (36 + 2 * j + 1) = true ∧ zwr (36 + 2 * j + 1) = true ∧ zlen (36 + 2 * j + 1) = 40 := by decide +kernel
theorem text_z : ∀ j, j < 4 → zref 5 j = 48 + 2 * j ∧ zobj (48 + 2 * j) = 2 ∧ zref (48 + 2 * j) 0 = 48 + 2 * j + 1 ∧ zint (48 + 2 * j + 1) = true ∧ zwr (48 + 2 * j + 1) = true ∧ zlen (48 + 2 * j + 1) = 60 := by decide +kernel
theorem same_i {x : Int32} : same (some (.int x)) (some (.int x)) := ⟨x, rfl, rfl⟩
theorem p_tear (h : Inv I L) (r : Int32) : zV n (d + 2) 16 0 [.ref 3, .int r] [] I L (fun v1 I1 L1 => zV n (d + 2) 132 0 [.ref 62, .int r] [] I1 L1 (fun v2 I2 L2 => same v1 v2 ∧ Inv I2 L2)) := by
  rcases rng r 5 (by decide) (a := 6) (b := 5) rfl rfl with h1 | ⟨h1, h2, h3⟩ | ⟨j, hj, rfl, h1, h2, h3⟩
  · simp only [e16_0, e16_1, e16_4, e16_7, e16_8, e16_9, e16_10, e16_13, e16_14, e16_15, e16_18, e16_21, e16_22, e16_23, e16_26, e16_27, e16_28, e16_31, e16_32, e16_33, e16_36, e16_37, e132_0, e132_1, e132_2, e132_3, e132_6, e132_9, e132_10, e132_11, e132_12, e132_15, e132_16, e132_17, e132_20, e132_21, e132_22, e132_25, e132_26, e132_27, e132_30, e132_31, e132_32, e132_33, e132_34, zpush_some, zpush_none, true_or, or_true, true_and, and_true, ↓reduceIte, zq_ite, zq_itel, s_X_isRow, s_M_in, h1, not_true_eq_false]
    exact ⟨same_i, h⟩
  · simp only [e16_0, e16_1, e16_4, e16_7, e16_8, e16_9, e16_10, e16_13, e16_14, e16_15, e16_18, e16_21, e16_22, e16_23, e16_26, e16_27, e16_28, e16_31, e16_32, e16_33, e16_36, e16_37, e132_0, e132_1, e132_2, e132_3, e132_6, e132_9, e132_10, e132_11, e132_12, e132_15, e132_16, e132_17, e132_20, e132_21, e132_22, e132_25, e132_26, e132_27, e132_30, e132_31, e132_32, e132_33, e132_34, zpush_some, zpush_none, true_or, or_true, true_and, and_true, ↓reduceIte, zq_ite, zq_itel, s_X_isRow, s_M_in, h1, h2, h3, not_true_eq_false]
    exact ⟨same_i, h⟩
  · obtain ⟨z0, hz⟩ := row_z j hj
    have zj : zin (nI j) 6 = true := zin_ok hj (by decide)
    have cj : (nI j).toNatClampNeg = j := nI_clamp (by omega)
    obtain ⟨hA, hR, hT, hC⟩ := id h
    obtain ⟨e1, e2⟩ := hR j hj
    by_cases hm : I 63 j = -1
    · have g1 : ((0 : Int32) ≤ -1) = False := eq_false (by decide)
      simp only [e16_0, e16_1, e16_4, e16_7, e16_8, e16_9, e16_10, e16_13, e16_14, e16_15, e16_18, e16_21, e16_22, e16_23, e16_26, e16_27, e16_28, e16_31, e16_32, e16_33, e16_36, e16_37, e132_0, e132_1, e132_2, e132_3, e132_6, e132_9, e132_10, e132_11, e132_12, e132_15, e132_16, e132_17, e132_20, e132_21, e132_22, e132_25, e132_26, e132_27, e132_30, e132_31, e132_32, e132_33, e132_34, zpush_some, zpush_none, true_or, or_true, true_and, and_true, ↓reduceIte, zq_ite, zq_itel, s_X_isRow, s_M_in, h1, h2, h3, zz_1, not_false_eq_true, zo_3, zr_3_0, zn_4, zl_4, zj, cj, z0, s_S_isMissing hz, hz.1, e1, hm, g1, s_X_found1, zo_62, zr_62_0, zn_63, zl_63, fX_o (show ((63 : Nat) ≠ 3 ∨ j ≠ 11) ∧ (63 : Nat) ≠ 35 by omega), s_M_finds1]
      exact ⟨same_i, inv_find (by decide) (by decide) h⟩
    · obtain ⟨q, q1, q2, q3⟩ := e2.resolve_left hm
      have g1 : ((0 : Int32) ≤ nI q) = True := eq_true (nI_pos' (by omega))
      simp only [e16_0, e16_1, e16_4, e16_7, e16_8, e16_9, e16_10, e16_13, e16_14, e16_15, e16_18, e16_21, e16_22, e16_23, e16_26, e16_27, e16_28, e16_31, e16_32, e16_33, e16_36, e16_37, e132_0, e132_1, e132_2, e132_3, e132_6, e132_9, e132_10, e132_11, e132_12, e132_15, e132_16, e132_17, e132_20, e132_21, e132_22, e132_25, e132_26, e132_27, e132_30, e132_31, e132_32, e132_33, e132_34, zpush_some, zpush_none, true_or, or_true, true_and, and_true, ↓reduceIte, zq_ite, zq_itel, s_X_isRow, s_M_in, h1, h2, h3, zz_1, not_false_eq_true, not_true_eq_false, zo_3, zr_3_0, zn_4, zl_4, zj, cj, z0, s_S_isMissing hz, s_S_drop hz, hz.1, e1, q2, g1, zo_62, zr_62_0, zn_63, zw_63, zl_63, zup_ne (show (63 : Nat) ≠ 36 + 2 * j by omega)]
      refine ⟨same_i, ?_⟩
      have ho : ∀ k i, (k ≠ 36 + 2 * j ∨ i ≠ 1) → (k ≠ 63 ∨ i ≠ j) → zup (zup I (36 + 2 * j) 1 (-1)) 63 j (-1) k i = I k i := fun k i b1 b2 => by
        have : zup (zup I (36 + 2 * j) 1 (-1)) 63 j (-1) k i = zup I (36 + 2 * j) 1 (-1) k i := by
          rcases b2 with g | g
          · exact zup_ne g
          · exact zup_nj g
        rw [this]
        rcases b1 with g | g
        · exact zup_ne g
        · exact zup_nj g
      obtain ⟨a1, a2, a3, a4, a5⟩ := hA
      refine ⟨⟨by rw [ho _ _ (by omega) (by omega), ho _ _ (by omega) (by omega)]; exact a1, fun f f1 f2 => by rw [ho _ _ (by omega) (by omega), ho _ _ (by omega) (by omega)]; exact a2 f f1 f2, by rw [ho _ _ (by omega) (by omega), ho _ _ (by omega) (by omega)]; exact a3, a4, a5⟩, fun r hr => ?_, IRt_eq hT (fun k j b1 b2 => ho k j (by omega) (by omega)) (fun i => ho _ i (by omega) (by omega)) (fun i => ho _ i (by omega) (by omega)), IC_eq hC (fun k j hc => by unfold cubeCell at hc; exact ho k j (by omega) (by omega)) (fun _ _ => rfl)⟩
      by_cases e : r = j
      · subst e
        rw [zup_ne (by omega), zup_eq, zup_eq]
        exact ⟨rfl, Or.inl rfl⟩
      · obtain ⟨b1, b2⟩ := hR r hr
        rw [ho _ _ (by omega) (by omega), ho _ _ (by omega) (by omega)]
        refine ⟨b1, ?_⟩
        rcases b2 with b2 | ⟨q', c1, c2, c3⟩
        · exact Or.inl b2
        · exact Or.inr ⟨q', c1, c2, fun i hi => by rw [ho _ _ (by omega) (by omega), ho _ _ (by omega) (by omega)]; exact c3 i hi⟩
end
