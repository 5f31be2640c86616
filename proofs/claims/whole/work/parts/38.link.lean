/-! LINKS -/
def le (l : Nat) : Nat := ((l % 8) >>> (l / 8)) <<< (l / 8 + 1) ||| ((l % 8) &&& (2 ^ (l / 8) - 1))
def arcsL (l : Nat) : Int64 := lN (2 ^ (16 * (l / 8) + le l)) ||| lN (2 ^ (16 * (l / 8) + (le l ||| 2 ^ (l / 8))))
theorem bt_xor (x y : Int32) (i : Nat) : bt (x ^^^ y) i = (bt x i ^^ bt y i) := by unfold bt; rw [Int32.toBitVec_xor, BitVec.getLsbD_xor]
theorem bt_or (x y : Int32) (i : Nat) : bt (x ||| y) i = (bt x i || bt y i) := by unfold bt; rw [Int32.toBitVec_or, BitVec.getLsbD_or]
theorem bt_and (x y : Int32) (i : Nat) : bt (x &&& y) i = (bt x i && bt y i) := by unfold bt; rw [Int32.toBitVec_and, BitVec.getLsbD_and]
theorem bt_ext {x y : Int32} (h : ∀ i, i < 32 → bt x i = bt y i) : x = y := Int32.toBitVec_inj.1 (BitVec.eq_of_getLsbD_eq h)
theorem bt_tog (x : Int32) {l i : Nat} (hl : l < 32) (hi : i < 32) : bt (tog x l) i = (bt x i ^^ decide (i = l)) := by
  unfold tog
  rw [bt_xor, bt_shl hl hi]
theorem h_way : ∀ l, l < 32 → nI l >>> ((3 : Int32) &&& 31) &&& 3 = nI (l / 8) := by decide +kernel
theorem h_r7 : ∀ l, l < 32 → nI l &&& 7 = nI (l % 8) := by decide +kernel
theorem h_le : ∀ l, l < 32 → nI (l % 8) >>> (nI (l / 8) &&& 31) <<< ((nI (l / 8) + 1) &&& 31) ||| nI (l % 8) &&& ((1 : Int32) <<< (nI (l / 8) &&& 31)) - 1 = nI (le l) := by decide +kernel
theorem h_le2 : ∀ l, l < 32 → nI (le l) ||| (1 : Int32) <<< (nI (l / 8) &&& 31) = nI (le l ||| 2 ^ (l / 8)) := by decide +kernel
theorem le_lt : ∀ l, l < 32 → le l < 16 ∧ (le l ||| 2 ^ (l / 8)) < 16 ∧ l / 8 < 4 := by decide +kernel
theorem lk_le : ∀ l, l < 32 → lk (le l) (l / 8) = l ∧ lk (le l ||| 2 ^ (l / 8)) (l / 8) = l := by decide +kernel
theorem lk_arc : ∀ l, l < 32 → ∀ c, c < 16 → ∀ w, w < 4 → (decide (16 * w + c = 16 * (l / 8) + le l) || decide (16 * w + c = 16 * (l / 8) + (le l ||| 2 ^ (l / 8)))) = decide (lk c w = l) := by decide +kernel
theorem bl_arcs {l c w : Nat} (hl : l < 32) (hc : c < 16) (hw : w < 4) : bl (arcsL l) (16 * w + c) = decide (lk c w = l) := by
  unfold arcsL
  rw [bl_or, bl_pow (by omega), bl_pow (by omega)]
  exact lk_arc l hl c hc w hw
theorem AB_tog {b : Int64} {x : Int32} {l : Nat} (hl : l < 32) (h : AB b (bt x)) : AB (b ^^^ arcsL l) (bt (tog x l)) := by
  intro c hc w hw
  rw [bl_xor, bl_arcs hl hc hw, bt_tog x hl (lk_lt c hc w hw), h c hc w hw]
section
variable {n d : Nat} {I : zi} {L : zl} {Q : zq} {K K' : Nat → Nat} {s s' : Cs} {k m q i a l : Nat}
theorem s_W_wayOf (hl : l < 32) : zV n d 37 0 [.int (nI l)] [] I L Q ↔ Q (some (.int (nI (l / 8)))) I L := by
  simp only [e37_0, e37_1, e37_2, e37_3, e37_4, e37_5, zpush_some, zpush_none, true_or, or_true, true_and, and_true, ↓reduceIte, zq_ite, zq_itel, h_way l hl]
theorem s_W_lowerEnd (hl : l < 32) : zV n (d + 1) 38 0 [.int (nI l), .null, .null] [] I L Q ↔ Q (some (.int (nI (le l)))) I L := by
  simp only [e38_0, e38_1, e38_4, e38_5, e38_6, e38_8, e38_9, e38_9a, e38_10, e38_11, e38_12, e38_13, e38_14, e38_15, e38_16, e38_17, e38_18, e38_19, e38_20, e38_21, e38_22, e38_23, e38_24, e38_25, zpush_some, zpush_none, true_or, or_true, true_and, and_true, ↓reduceIte, zq_ite, zq_itel, s_W_wayOf hl, h_r7 l hl, h_le l hl]
theorem s_M_lowerOf (hl : l < 32) : zV n d 161 0 [.int (nI l), .null, .null] [] I L Q ↔ Q (some (.int (nI (le l)))) I L := by
  have e1 : nI l / 8 = nI (l / 8) := pk_div (d := 8) (by omega) (by decide) (by decide)
  have e2 : nI l - nI (l / 8) * 8 = nI (l % 8) := by rw [← e1]; exact pk_rem (d := 8) (by omega) (by decide) (by decide)
  simp only [e161_0, e161_1, e161_3, e161_4, e161_5, e161_6, e161_8, e161_9, e161_9a, e161_10, e161_11, e161_12, e161_13, e161_14, e161_15, e161_16, e161_17, e161_18, e161_19, e161_20, e161_21, e161_22, e161_23, e161_24, e161_25, zpush_some, zpush_none, true_or, or_true, true_and, and_true, ↓reduceIte, zq_ite, zq_itel, zz_8, not_false_eq_true, e1, e2, h_le l hl]
theorem s_W_arcsOf (hl : l < 32) : zV n (d + 2) 36 0 [.int (nI l), .null, .null] [] I L Q ↔ Q (some (.long (arcsL l))) I L := by
  obtain ⟨b1, b2, b3⟩ := le_lt l hl
  simp only [e36_0, e36_1, e36_4, e36_5, e36_6, e36_9, e36_9a, e36_10, e36_11, e36_12, e36_15, e36_16, e36_17, e36_18, e36_19, e36_20, e36_21, e36_24, e36_25, zpush_some, zpush_none, true_or, or_true, true_and, and_true, ↓reduceIte, zq_ite, zq_itel, s_W_wayOf hl, s_W_lowerEnd hl, s_W_arc b1 b3, h_le2 l hl, s_W_arc b2 b3]
  exact Iff.rfl
theorem and_arcs {b : Int64} {B : Nat → Bool} (h : AB b B) (hl : l < 32) : (b &&& arcsL l = 0) = (B l = false) := by
  obtain ⟨b1, b2, b3⟩ := le_lt l hl
  obtain ⟨f1, f2⟩ := lk_le l hl
  have h1 := h _ b1 _ b3
  have h2 := h _ b2 _ b3
  rw [f1] at h1
  rw [f2] at h2
  refine propext ⟨fun g => ?_, fun g => bl_ext (fun i hi => ?_)⟩
  · have e : bl (b &&& arcsL l) (16 * (l / 8) + le l) = false := by rw [g]; exact bl_0 _
    rw [bl_and, bl_arcs hl b1 b3, f1, decide_eq_true (rfl : l = l), Bool.and_true, h1] at e
    exact e
  · rw [bl_0, bl_and]
    unfold arcsL
    rw [bl_or, bl_pow hi, bl_pow hi]
    by_cases e1 : i = 16 * (l / 8) + le l
    · rw [e1, h1, g]; rfl
    · by_cases e2 : i = 16 * (l / 8) + (le l ||| 2 ^ (l / 8))
      · rw [e2, h2, g]; rfl
      · rw [decide_eq_false e1, decide_eq_false e2]; exact Bool.and_false _
theorem s_Q_isBroken (hz : Qz k) {B : Nat → Bool} (h : AB (L k 5) B) (hl : l < 32) : zV n (d + 3) 58 0 [.ref k, .int (nI l)] [] I L Q ↔ Q (some (.int (zb (B l)))) I L := by
  simp only [e58_0, e58_1, e58_4, e58_5, e58_8, e58_9, e58_10, e58_11, e58_14, e58_15, e58_18, e58_19, zpush_some, zpush_none, true_or, or_true, true_and, and_true, ↓reduceIte, zq_ite, zq_itel, hz.1, s_W_arcsOf hl, lg_0, and_arcs h hl]
  cases B l <;> simp [zb]
theorem p_link (h : Inv I L) (l : Int32) : zV n (d + 4) 56 0 [.ref 3, .int l, .null, .null] [] I L (fun v1 I1 L1 => zV n (d + 4) 160 0 [.ref 62, .int l, .null] [] I1 L1 (fun v2 I2 L2 => same v1 v2 ∧ Inv I2 L2)) := by
  obtain ⟨m, K, s, hm, hok, ht, hX, hM, hK⟩ := h.view
  have hz := Qa_z (k := 14) (Or.inr (Or.inl rfl))
  rcases rng l 31 (by decide) (a := 32) (b := 31) rfl rfl with h1 | ⟨h1, h2, h3⟩ | ⟨j, hj, rfl, h1, h2, h3⟩
  · simp only [e56_0, e56_1, e56_4, e56_7, e56_8, e56_9, e56_10, e56_13, e56_14, e56_15, e56_16, e56_17, e56_20, e56_21, e56_22, e56_22a, e56_23, e56_24, e56_25, e56_28, e56_29, e56_32, e56_35, e56_36, e56_39, e56_40, e56_41, e56_43, e56_44, e56_45, e56_46, e56_49, e160_0, e160_1, e160_2, e160_4, e160_7, e160_10, e160_11, e160_12, e160_13, e160_16, e160_17, e160_18, e160_19, e160_21, e160_22, e160_23, e160_24, e160_26, e160_27, e160_28, e160_29, e160_30, e160_31, e160_34, e160_35, e160_36, e160_39, e160_40, e160_41, e160_42, e160_45, e160_48, e160_49, e160_52, e160_53, zpush_some, zpush_none, true_or, or_true, true_and, and_true, ↓reduceIte, zq_ite, zq_itel, s_X_isLink, s_M_in, h1, not_true_eq_false]
    exact ⟨same_i, h⟩
  · simp only [e56_0, e56_1, e56_4, e56_7, e56_8, e56_9, e56_10, e56_13, e56_14, e56_15, e56_16, e56_17, e56_20, e56_21, e56_22, e56_22a, e56_23, e56_24, e56_25, e56_28, e56_29, e56_32, e56_35, e56_36, e56_39, e56_40, e56_41, e56_43, e56_44, e56_45, e56_46, e56_49, e160_0, e160_1, e160_2, e160_4, e160_7, e160_10, e160_11, e160_12, e160_13, e160_16, e160_17, e160_18, e160_19, e160_21, e160_22, e160_23, e160_24, e160_26, e160_27, e160_28, e160_29, e160_30, e160_31, e160_34, e160_35, e160_36, e160_39, e160_40, e160_41, e160_42, e160_45, e160_48, e160_49, e160_52, e160_53, zpush_some, zpush_none, true_or, or_true, true_and, and_true, ↓reduceIte, zq_ite, zq_itel, s_X_isLink, s_M_in, h1, h2, h3, not_true_eq_false]
    exact ⟨same_i, h⟩
  · have e1 : nI j / 8 = nI (j / 8) := pk_div (d := 8) (by omega) (by decide) (by decide)
    have x2 : ∀ {v w : Int32}, zup (zup I 3 12 v) 62 6 w 70 2 = s.2.2.2.1 := fun {v w} => by rw [zup_ne (by decide), zup_ne (by decide)]; exact MC_x hM
    cases hb : bt s.2.2.2.1 j
    · simp only [e56_0, e56_1, e56_4, e56_7, e56_8, e56_9, e56_10, e56_13, e56_14, e56_15, e56_16, e56_17, e56_20, e56_21, e56_22, e56_22a, e56_23, e56_24, e56_25, e56_28, e56_29, e56_32, e56_35, e56_36, e56_39, e56_40, e56_41, e56_43, e56_44, e56_45, e56_46, e56_49, e160_0, e160_1, e160_2, e160_4, e160_7, e160_10, e160_11, e160_12, e160_13, e160_16, e160_17, e160_18, e160_19, e160_21, e160_22, e160_23, e160_24, e160_26, e160_27, e160_28, e160_29, e160_30, e160_31, e160_34, e160_35, e160_36, e160_39, e160_40, e160_41, e160_42, e160_45, e160_48, e160_49, e160_52, e160_53, zpush_some, zpush_none, true_or, or_true, true_and, and_true, ↓reduceIte, zq_ite, zq_itel, s_X_isLink, s_M_in, h1, h2, h3, zz_1, not_false_eq_true, s_W_lowerEnd hj, s_W_wayOf hj, h_le2 j hj, zo_3, zr_3_5, zo_14, s_Q_isBroken hz (XC_B hX) hj, hb, zb_f, s_X_tell, s_M_lowerOf hj, zz_8, e1, zo_62, s_M_tells, zr_62_16, zn_70, zl_70, zi_2, zt_2, Nat.reduceLT, decide_true, x2, s_M_hasN _ hj]
      exact ⟨same_i, inv_tell h⟩
    · simp only [e56_0, e56_1, e56_4, e56_7, e56_8, e56_9, e56_10, e56_13, e56_14, e56_15, e56_16, e56_17, e56_20, e56_21, e56_22, e56_22a, e56_23, e56_24, e56_25, e56_28, e56_29, e56_32, e56_35, e56_36, e56_39, e56_40, e56_41, e56_43, e56_44, e56_45, e56_46, e56_49, e160_0, e160_1, e160_2, e160_4, e160_7, e160_10, e160_11, e160_12, e160_13, e160_16, e160_17, e160_18, e160_19, e160_21, e160_22, e160_23, e160_24, e160_26, e160_27, e160_28, e160_29, e160_30, e160_31, e160_34, e160_35, e160_36, e160_39, e160_40, e160_41, e160_42, e160_45, e160_48, e160_49, e160_52, e160_53, zpush_some, zpush_none, true_or, or_true, true_and, and_true, ↓reduceIte, zq_ite, zq_itel, s_X_isLink, s_M_in, h1, h2, h3, zz_1, not_false_eq_true, s_W_lowerEnd hj, s_W_wayOf hj, h_le2 j hj, zo_3, zr_3_5, zo_14, s_Q_isBroken hz (XC_B hX) hj, hb, zb_t, s_X_tell, s_M_lowerOf hj, zz_8, e1, zo_62, s_M_tells, zr_62_16, zn_70, zl_70, zi_2, zt_2, Nat.reduceLT, decide_true, x2, s_M_hasN _ hj]
      exact ⟨same_i, inv_tell h⟩
theorem XC_tog (hx : XC I L k m K s) (hl : l < 32) : XC I (zup L k 5 (L k 5 ^^^ arcsL l)) k m K (s.1, s.2.1, s.2.2.1, tog s.2.2.2.1 l, s.2.2.2.2) := by
  obtain ⟨K', s', e1, ⟨e2, e3, e4, e5⟩, m1, hB, h6, h7, hc⟩ := hx
  refine ⟨K', (s'.1, s'.2.1, s'.2.2.1, tog s'.2.2.2.1 l, s'.2.2.2.2), e1, ⟨e2, e3, e4, by rw [e5]⟩, m1, ?_, h6, h7, hc⟩
  rw [zup_eq]
  exact AB_tog hl hB
theorem XC_goal (hx : XC I L k m K s) (hi : i < m) {c : Nat} (hc : c < 16) : XC (zup I (k + 3) i (nI c)) L k m K (s.1, fun q => if q = i then c else s.2.1 q, s.2.2) := by
  obtain ⟨K', s', e1, ⟨e2, e3, e4, e5⟩, m1, hB, h6, h7, hcs⟩ := hx
  refine ⟨K', (s'.1, fun q => if q = i then c else s'.2.1 q, s'.2.2), e1, ⟨e2, fun q hq => ?_, e4, e5⟩, ⟨by rw [zup_ne (by omega)]; exact m1.1, m1.2⟩, hB, by rw [zup_ne (by omega)]; exact h6, by rw [zup_ne (by omega)]; exact h7, fun q hq => ?_⟩
  · show (if q = i then c else s'.2.1 q) = (if q = i then c else s.2.1 q)
    rw [e3 q hq]
  · obtain ⟨a1, a2, a3, a4⟩ := hcs q hq
    rw [zup_ne (show k + 1 ≠ k + 3 by omega), zup_ne (show k + 2 ≠ k + 3 by omega), zup_ne (show k + 4 ≠ k + 3 by omega)]
    refine ⟨a1, a2, ?_, a4⟩
    show _ = nI (if q = i then c else s'.2.1 q) ∧ (if q = i then c else s'.2.1 q) < 16
    by_cases e : q = i
    · subst e; rw [zup_eq, if_pos rfl]; exact ⟨rfl, hc⟩
    · rw [zup_nj e, if_neg e]; exact a3
theorem s_Q_turnOverLink (hz : Qz k) (hl : l < 32) : zV n (d + 3) 35 0 [.ref k, .int (nI l)] [] I L Q ↔ Q none I (zup L k 5 (L k 5 ^^^ arcsL l)) := by
  simp only [e35_0, e35_1, e35_2, e35_5, e35_6, e35_9, e35_10, e35_13, zpush_some, zpush_none, true_or, or_true, true_and, and_true, ↓reduceIte, zq_ite, zq_itel, hz.1, s_W_arcsOf hl]
theorem s_Q_setGoal (hz : Qz k) (hx : XC I L k m K s) (hi : i < m) (c : Int32) : zV n (d + 1) 40 0 [.ref k, .int (nI i), .int c] [] I L Q ↔ Q none (zup I (k + 3) i c) L := by
  have m2 := XC_m7 hx
  obtain ⟨o1, o2⟩ := has_ok hi m2
  obtain ⟨z1, z2, z3, z4, z5, ⟨n1, n2, n3, n4⟩, ⟨w1, w2, w3, w4⟩, l1, l2, l3, l4⟩ := id hz
  have zi7 : zin (nI i) 7 = true := zin_ok (by omega) (by decide)
  have ci : (nI i).toNatClampNeg = i := nI_clamp (by omega)
  simp only [e40_0, e40_1, e40_2, e40_5, e40_8, e40_9, e40_12, e40_13, e40_14, e40_15, zpush_some, zpush_none, true_or, or_true, true_and, and_true, ↓reduceIte, zq_ite, zq_itel, s_Q_hasMessage hz, XC_m hx, o1, o2, zz_1, z1, z4, w3, l3, zi7, ci]
theorem h_c2 : ∀ c, c < 448 → nI c >>> ((2 : Int32) &&& 31) = nI (c / 4) := by decide +kernel
theorem h_c3 : ∀ c, c < 448 → nI c &&& 3 = nI (c % 4) := by decide +kernel
theorem okd_lt {c : Nat} (h : okd m c) (hm : m ≤ 7) : c < 448 := by
  unfold okd at h
  omega
theorem t_Q_obey (hz : Qz k) (hx : XC I L k m K s) (ht : s.2.2.2.2.1 < 2 ^ 31) {c : Nat} (hc : okd m c) (hQ : ∀ I' L', XC I' L' k m K (do1 K m s c) → (∀ k' j, (k' < k ∨ k + 4 < k') → I' k' j = I k' j) → (∀ k' j, k' ≠ k → L' k' j = L k' j) → Q none I' L') : zV n (d + 4) 34 0 [.ref k, .int (nI c), .null] [] I L Q := by
  have m2 := XC_m7 hx
  have hlt := okd_lt hc m2
  have e2 := h_c2 c hlt
  have e3 := h_c3 c hlt
  rcases hc with rfl | ⟨c1, c2⟩ | ⟨c1, c2⟩
  · have d0 : (0 : Int32) >>> ((2 : Int32) &&& 31) = 0 := by decide
    have d00 : (0 : Int32) &&& 3 = 0 := by decide
    by_cases hs : s.2.2.2.2.1 < 99
    · have g : ((99 : Int32) ≤ nI s.2.2.2.2.1) = False := eq_false (nI_ge (b := 99) hs (by omega))
      have r : do1 K m s 0 = stp K m s := by unfold do1; rw [if_neg (by omega), if_neg (by omega), if_pos hs]
      rw [r] at hQ
      simp only [e34_0, e34_1, e34_2, e34_3, e34_4, e34_5, e34_6, e34_7_0, e34_7_1, e34_7_2, e34_7_3, e34_32, e34_33, e34_34, e34_37, e34_40, e34_41, e34_42, e34_44, e34_45, e34_46, e34_48, e34_49, e34_52, e34_55, e34_56, e34_59, e34_61, e34_64, e34_65, e34_68, zpush_some, zpush_none, true_or, or_true, true_and, and_true, ↓reduceIte, zq_ite, zq_itel, show nI 0 = (0 : Int32) from rfl, d0, d00, hz.1, XC_t hx, g]
      refine t_Q_advance hz hx ht (fun I' h1 h2 h3 => ?_)
      simp only [e34_0, e34_1, e34_2, e34_3, e34_4, e34_5, e34_6, e34_7_0, e34_7_1, e34_7_2, e34_7_3, e34_32, e34_33, e34_34, e34_37, e34_40, e34_41, e34_42, e34_44, e34_45, e34_46, e34_48, e34_49, e34_52, e34_55, e34_56, e34_59, e34_61, e34_64, e34_65, e34_68, zpush_some, zpush_none, true_or, or_true, true_and, and_true, ↓reduceIte, zq_ite, zq_itel]
      exact hQ I' L h1 (fun k' j hk => h2 k' j (by omega) (by omega) (Or.inl (by omega))) (fun _ _ _ => rfl)
    · have g : ((99 : Int32) ≤ nI s.2.2.2.2.1) = True := eq_true (by rw [Int32.le_iff_toInt_le, nI_toInt ht]; show (99 : Int) ≤ _; omega)
      have r : do1 K m s 0 = s := by unfold do1; rw [if_neg (by omega), if_neg (by omega), if_neg hs]
      rw [r] at hQ
      simp only [e34_0, e34_1, e34_2, e34_3, e34_4, e34_5, e34_6, e34_7_0, e34_7_1, e34_7_2, e34_7_3, e34_32, e34_33, e34_34, e34_37, e34_40, e34_41, e34_42, e34_44, e34_45, e34_46, e34_48, e34_49, e34_52, e34_55, e34_56, e34_59, e34_61, e34_64, e34_65, e34_68, zpush_some, zpush_none, true_or, or_true, true_and, and_true, ↓reduceIte, zq_ite, zq_itel, show nI 0 = (0 : Int32) from rfl, d0, d00, hz.1, XC_t hx, g]
      exact hQ I L hx (fun _ _ _ => rfl) (fun _ _ _ => rfl)
  · have d1 : (nI (c % 4)) = (1 : Int32) := by rw [c1]; rfl
    have r : do1 K m s c = (s.1, s.2.1, s.2.2.1, tog s.2.2.2.1 (c / 4), s.2.2.2.2) := by unfold do1; rw [if_pos c1]
    rw [r] at hQ
    simp only [e34_0, e34_1, e34_2, e34_3, e34_4, e34_5, e34_6, e34_7_0, e34_7_1, e34_7_2, e34_7_3, e34_32, e34_33, e34_34, e34_37, e34_40, e34_41, e34_42, e34_44, e34_45, e34_46, e34_48, e34_49, e34_52, e34_55, e34_56, e34_59, e34_61, e34_64, e34_65, e34_68, zpush_some, zpush_none, true_or, or_true, true_and, and_true, ↓reduceIte, zq_ite, zq_itel, e2, e3, d1, hz.1, s_Q_turnOverLink hz c2]
    exact hQ _ _ (XC_tog hx c2) (fun _ _ _ => rfl) (fun k' j hk => zup_ne hk)
  · have d1 : (nI (c % 4)) = (2 : Int32) := by rw [c1]; rfl
    have r : do1 K m s c = (s.1, fun i => if i = c / 4 / 16 then c / 4 % 16 else s.2.1 i, s.2.2) := by unfold do1; rw [if_neg (by omega), if_pos c1]
    rw [r] at hQ
    have f1 : nI (c / 4) / 16 = nI (c / 4 / 16) := pk_div (d := 16) (by omega) (by decide) (by decide)
    have f2 : nI (c / 4) - nI (c / 4 / 16) * 16 = nI (c / 4 % 16) := by rw [← f1]; exact pk_rem (d := 16) (by omega) (by decide) (by decide)
    simp only [e34_0, e34_1, e34_2, e34_3, e34_4, e34_5, e34_6, e34_7_0, e34_7_1, e34_7_2, e34_7_3, e34_32, e34_33, e34_34, e34_37, e34_40, e34_41, e34_42, e34_44, e34_45, e34_46, e34_48, e34_49, e34_52, e34_55, e34_56, e34_59, e34_61, e34_64, e34_65, e34_68, zpush_some, zpush_none, true_or, or_true, true_and, and_true, ↓reduceIte, zq_ite, zq_itel, e2, e3, d1, hz.1, zz_16, not_false_eq_true, f1, f2, s_Q_setGoal hz hx c2]
    exact hQ _ _ (XC_goal hx c2 (Nat.mod_lt _ (by decide))) (fun k' j hk => zup_ne (by omega)) (fun _ _ _ => rfl)
end
