/-! WHAT IS TOLD; FACTS OF MESSAGES -/
section
variable {n d : Nat} {I : zi} {L : zl} {Q : zq} {K K' : Nat → Nat} {s s' : Cs} {k m q i : Nat}
theorem same_l {x : Int64} : sameL (some (.long x)) (some (.long x)) := ⟨x, rfl, rfl⟩
theorem p_asked (h : Inv I L) : zV n d 113 0 [.ref 3] [] I L (fun v1 I1 L1 => zV n d 202 0 [.ref 62] [] I1 L1 (fun v2 I2 L2 => same v1 v2 ∧ Inv I2 L2)) := by
  simp only [e113_0, e113_1, e113_4, e202_0, e202_1, e202_4, zpush_some, zpush_none, true_or, or_true, true_and, and_true, ↓reduceIte, zq_ite, zq_itel, zo_3, zo_62, h.1.2.2.1]
  exact ⟨same_i, h⟩
theorem p_upper (h : Inv I L) : zV n d 114 0 [.ref 3] [] I L (fun v1 I1 L1 => zV n d 203 0 [.ref 62] [] I1 L1 (fun v2 I2 L2 => sameL v1 v2 ∧ Inv I2 L2)) := by
  simp only [e114_0, e114_1, e114_4, e203_0, e203_1, e203_4, zpush_some, zpush_none, true_or, or_true, true_and, and_true, ↓reduceIte, zq_ite, zq_itel, zo_3, zo_62, h.1.2.2.2.1]
  exact ⟨same_l, h⟩
theorem p_lower (h : Inv I L) : zV n d 115 0 [.ref 3] [] I L (fun v1 I1 L1 => zV n d 204 0 [.ref 62] [] I1 L1 (fun v2 I2 L2 => sameL v1 v2 ∧ Inv I2 L2)) := by
  simp only [e115_0, e115_1, e115_4, e204_0, e204_1, e204_4, zpush_some, zpush_none, true_or, or_true, true_and, and_true, ↓reduceIte, zq_ite, zq_itel, zo_3, zo_62, h.1.2.2.2.2]
  exact ⟨same_l, h⟩
theorem p_finding (h : Inv I L) : zV n d 120 0 [.ref 3] [] I L (fun v1 I1 L1 => zV n d 209 0 [.ref 62] [] I1 L1 (fun v2 I2 L2 => same v1 v2 ∧ Inv I2 L2)) := by
  simp only [e120_0, e120_1, e120_4, e209_0, e209_1, e209_4, zpush_some, zpush_none, true_or, or_true, true_and, and_true, ↓reduceIte, zq_ite, zq_itel, zo_3, zo_62, h.1.1]
  exact ⟨same_i, h⟩
/-- from one to N -/
theorem rng1 (r : Int32) (N : Nat) (hN : N + 1 < 2 ^ 31) {b : Int32} (hb : b = nI N) : ((r < 1) = True) ∨ ((r < 1) = False ∧ (b < r) = True ∧ (r ≤ b) = False) ∨ ∃ j, 1 ≤ j ∧ j < N + 1 ∧ r = nI j ∧ (nI j < 1) = False ∧ (b < nI j) = False ∧ (nI j ≤ b) = True := by
  subst hb
  have e1 : (1 : Int32).toInt = 1 := rfl
  by_cases h1 : r < 1
  · exact Or.inl (eq_true h1)
  · have g1 : ¬ r.toInt < 1 := fun g => h1 (by rw [Int32.lt_iff_toInt_lt, e1]; exact g)
    rcases pk_ix r hN with h | h | ⟨j, h2, rfl⟩
    · have h2 := Int32.lt_iff_toInt_lt.mp h
      rw [Int32.toInt_zero] at h2
      omega
    · have h2 := Int32.le_iff_toInt_le.mp h
      rw [nI_toInt hN] at h2
      refine Or.inr (Or.inl ⟨eq_false h1, eq_true ?_, eq_false ?_⟩)
      · rw [Int32.lt_iff_toInt_lt, nI_toInt (by omega)]; omega
      · rw [Int32.le_iff_toInt_le, nI_toInt (by omega)]; omega
    · rw [nI_toInt (by omega)] at g1
      refine Or.inr (Or.inr ⟨j, by omega, h2, rfl, eq_false h1, eq_false (nI_nlt (by omega) (by omega)), eq_true ?_⟩)
      rw [Int32.le_iff_toInt_le, nI_toInt (by omega), nI_toInt (by omega)]; omega
theorem p_findings (h : Inv I L) (f : Int32) : zV n (d + 1) 121 0 [.ref 3, .int f] [] I L (fun v1 I1 L1 => zV n (d + 1) 210 0 [.ref 62, .int f] [] I1 L1 (fun v2 I2 L2 => same v1 v2 ∧ Inv I2 L2)) := by
  rcases rng1 f 5 (by decide) (b := 5) rfl with h1 | ⟨h1, h2, h3⟩ | ⟨j, j1, j2, rfl, h1, h2, h3⟩
  · simp only [e121_0, e121_1, e121_2, e121_5, e121_6, e121_7, e121_10, e121_11, e121_14, e121_15, e121_18, e121_19, e121_20, e210_0, e210_1, e210_2, e210_3, e210_6, e210_9, e210_10, e210_13, e210_14, e210_15, e210_18, e210_19, zpush_some, zpush_none, true_or, or_true, true_and, and_true, ↓reduceIte, zq_ite, zq_itel, s_M_in, h1]
    exact ⟨same_i, h⟩
  · simp only [e121_0, e121_1, e121_2, e121_5, e121_6, e121_7, e121_10, e121_11, e121_14, e121_15, e121_18, e121_19, e121_20, e210_0, e210_1, e210_2, e210_3, e210_6, e210_9, e210_10, e210_13, e210_14, e210_15, e210_18, e210_19, zpush_some, zpush_none, true_or, or_true, true_and, and_true, ↓reduceIte, zq_ite, zq_itel, s_M_in, h1, h2, h3]
    exact ⟨same_i, h⟩
  · have zj : zin (nI j) 6 = true := zin_ok (by omega) (by decide)
    have cj : (nI j).toNatClampNeg = j := nI_clamp (by omega)
    simp only [e121_0, e121_1, e121_2, e121_5, e121_6, e121_7, e121_10, e121_11, e121_14, e121_15, e121_18, e121_19, e121_20, e210_0, e210_1, e210_2, e210_3, e210_6, e210_9, e210_10, e210_13, e210_14, e210_15, e210_18, e210_19, zpush_some, zpush_none, true_or, or_true, true_and, and_true, ↓reduceIte, zq_ite, zq_itel, s_M_in, h1, h2, h3, zz_1, zo_3, zr_3_10, zn_35, zl_35, zj, cj, zo_62, zr_62_5, zn_67, zl_67, h.1.2.1 j j1 (by omega)]
    exact ⟨same_i, h⟩
theorem do1_ok (h : okc m K s) {c : Nat} : okc m K (do1 K m s c) := by
  unfold do1
  split
  · exact h
  · split
    · intro i hi
      obtain ⟨h1, h2, h3, h4⟩ := h i hi
      refine ⟨h1, h2, ?_, h4⟩
      show (if i = c / 4 / 16 then c / 4 % 16 else s.2.1 i) < 16
      split
      · omega
      · exact h3
    · split
      · exact stp_ok h
      · exact h
theorem do1_t (h : s.2.2.2.2.1 ≤ 99) {c : Nat} : (do1 K m s c).2.2.2.2.1 ≤ 99 := by
  unfold do1
  split
  · exact h
  · split
    · exact h
    · split
      · show s.2.2.2.2.1 + 1 ≤ 99
        omega
      · exact h
theorem rep_ok : ∀ {D : List Nat} {s : Cs}, okc m K s → okc m K (rep K m s D)
  | [], _, h => h
  | c :: D, _, h => rep_ok (D := D) (do1_ok h)
theorem rep_t : ∀ {D : List Nat} {s : Cs}, s.2.2.2.2.1 ≤ 99 → (rep K m s D).2.2.2.2.1 ≤ 99
  | [], _, h => h
  | c :: D, _, h => rep_t (D := D) (do1_t h)
/-- the cube as it is now -/
theorem Inv.view (h : Inv I L) : ∃ m K s, m ≤ 7 ∧ okc m K s ∧ s.2.2.2.2.1 ≤ 99 ∧ XC I L 14 m K s ∧ MC I 70 m s ∧ MK I m K := by
  obtain ⟨-, -, -, m, K, s0, D, kp, h1, h2, h3, h4, h5, h6, h7, h8, h9, h10, h11⟩ := h
  refine ⟨m, K, rep K m s0 D, h1, rep_ok h2, rep_t ?_, h7, h10, h9⟩
  rw [h3]; exact Nat.zero_le _
/-- what message tells -/
def fct (K : Nat → Nat) (s : Cs) (i : Nat) : Nat → Int32
  | 0 => nI (K i)
  | 1 => nI (s.1 i)
  | 2 => nI (s.2.1 i)
  | 3 => wy (wvs K s i)
  | 4 => nI (pop7 (s.1 i ^^^ s.2.1 i))
  | _ => wy (s.2.2.1 i)
theorem fct_congr (hK : eqm m K' K) (h : eqs m s' s) (hi : i < m) (w : Nat) : fct K' s' i w = fct K s i w := by
  have e := wvs_congr hK h i hi
  unfold fct
  rw [e, hK i hi, h.1 i hi, h.2.1 i hi, h.2.2.1 i hi]
theorem h_told : ∀ w, w ≤ 4 → (if wx w = -1 then (-9 : Int32) else wx w) = wy w := by decide +kernel
theorem s_Q_toldWay {w : Nat} (hw : w ≤ 4) : zV n d 52 0 [.int (wx w)] [] I L Q ↔ Q (some (.int (wy w))) I L := by
  by_cases g : wx w = -1
  · simp only [e52_0, e52_1, e52_2, e52_5, e52_7, e52_10, e52_11, zpush_some, zpush_none, true_or, or_true, true_and, and_true, ↓reduceIte, zq_ite, zq_itel, g, not_true_eq_false]
    rw [← h_told w hw, if_pos g]
  · simp only [e52_0, e52_1, e52_2, e52_5, e52_7, e52_10, e52_11, zpush_some, zpush_none, true_or, or_true, true_and, and_true, ↓reduceIte, zq_ite, zq_itel, g, not_false_eq_true]
    rw [← h_told w hw, if_neg g]
theorem s_Q_wish (hz : Qz k) (hx : XC I L k m K s) (hi : i < m) (ht : s.2.2.2.2.1 < 2 ^ 31) : zV n (d + 3) 51 0 [.ref k, .int (nI i)] [] I L Q ↔ Q (some (.int (wx (wvs K s i)))) I L := by
  obtain ⟨K', s', e1, e2, hq⟩ := hx
  rw [← wvs_congr e1 e2 i hi]
  rw [← e2.2.2.2] at ht
  obtain ⟨⟨m1, m2⟩, hB, h6, h7, hc⟩ := id hq
  obtain ⟨⟨k1, k2⟩, -⟩ := hc i (by omega)
  obtain ⟨o1, o2⟩ := has_ok hi m2
  have zi7 : zin (nI i) 7 = true := zin_ok (by omega) (by decide)
  have ci : (nI i).toNatClampNeg = i := nI_clamp (by omega)
  simp only [e51_0, e51_1, e51_2, e51_5, e51_8, e51_9, e51_10, e51_13, e51_14, e51_15, e51_16, e51_17, e51_20, e51_23, e51_26, e51_27, zpush_some, zpush_none, true_or, or_true, true_and, and_true, ↓reduceIte, zq_ite, zq_itel, s_Q_hasMessage hz, m1, o1, o2, zz_1, hz.1, hz.2.1, hz.2.2.2.2.2.1.1, hz.2.2.2.2.2.2.2.1, zi7, ci, k1, h6, s_Q_wishAs hz hq hi k2 ht]
  exact Iff.rfl
theorem s_Q_fact (hz : Qz k) (hx : XC I L k m K s) (hi : i < m) (ht : s.2.2.2.2.1 < 2 ^ 31) {w : Nat} (hw : w < 6) : zV n (d + 4) 50 0 [.ref k, .int (nI i), .int (nI w)] [] I L Q ↔ Q (some (.int (fct K s i w))) I L := by
  obtain ⟨K', s', e1, e2, hq⟩ := id hx
  rw [← fct_congr e1 e2 hi]
  obtain ⟨⟨m1, m2⟩, hB, h6, h7, hc⟩ := id hq
  obtain ⟨⟨k1, k2⟩, ⟨c1, c2⟩, ⟨g1, g2⟩, w1, w2⟩ := hc i (by omega)
  obtain ⟨o1, o2⟩ := has_ok hi m2
  obtain ⟨z1, z2, z3, z4, z5, ⟨n1, n2, n3, n4⟩, -, l1, l2, l3, l4⟩ := id hz
  have zi7 : zin (nI i) 7 = true := zin_ok (by omega) (by decide)
  have ci : (nI i).toNatClampNeg = i := nI_clamp (by omega)
  have hx16 := xor_lt16 c2 g2
  have hwl : wvs K s i ≤ 4 := wish_le _ _ _ _ _ _
  have d5 : (5 : Int32).toInt < 0 ∨ 4 < (5 : Int32).toInt := by decide
  rcases (show w = 0 ∨ w = 1 ∨ w = 2 ∨ w = 3 ∨ w = 4 ∨ w = 5 by omega) with rfl | rfl | rfl | rfl | rfl | rfl
  all_goals simp only [show nI 0 = 0 from rfl, show nI 1 = 1 from rfl, show nI 2 = 2 from rfl, show nI 3 = 3 from rfl, show nI 4 = 4 from rfl, show nI 5 = 5 from rfl]
  · simp only [e50_0, e50_1, e50_2, e50_5, e50_8, e50_10, e50_11, e50_12_0, e50_12_1, e50_12_2, e50_12_3, e50_12_4, e50_12_d, e50_48, e50_49, e50_52, e50_53, e50_54, e50_55, e50_56, e50_59, e50_60, e50_61, e50_62, e50_63, e50_66, e50_67, e50_68, e50_69, e50_70, e50_71, e50_74, e50_77, e50_78, e50_79, e50_82, e50_83, e50_84, e50_85, e50_88, e50_89, e50_90, e50_91, e50_94, e50_95, e50_96, e50_99, e50_100, e50_101, e50_104, zpush_some, zpush_none, true_or, or_true, true_and, and_true, ↓reduceIte, zq_ite, zq_itel, s_Q_hasMessage hz, m1, o1, o2, zz_1, not_false_eq_true, z1, z2, n1, l1, zi7, ci, k1, fct]
  · simp only [e50_0, e50_1, e50_2, e50_5, e50_8, e50_10, e50_11, e50_12_0, e50_12_1, e50_12_2, e50_12_3, e50_12_4, e50_12_d, e50_48, e50_49, e50_52, e50_53, e50_54, e50_55, e50_56, e50_59, e50_60, e50_61, e50_62, e50_63, e50_66, e50_67, e50_68, e50_69, e50_70, e50_71, e50_74, e50_77, e50_78, e50_79, e50_82, e50_83, e50_84, e50_85, e50_88, e50_89, e50_90, e50_91, e50_94, e50_95, e50_96, e50_99, e50_100, e50_101, e50_104, zpush_some, zpush_none, true_or, or_true, true_and, and_true, ↓reduceIte, zq_ite, zq_itel, s_Q_hasMessage hz, m1, o1, o2, zz_1, not_false_eq_true, z1, z3, n2, l2, zi7, ci, c1, fct]
  · simp only [e50_0, e50_1, e50_2, e50_5, e50_8, e50_10, e50_11, e50_12_0, e50_12_1, e50_12_2, e50_12_3, e50_12_4, e50_12_d, e50_48, e50_49, e50_52, e50_53, e50_54, e50_55, e50_56, e50_59, e50_60, e50_61, e50_62, e50_63, e50_66, e50_67, e50_68, e50_69, e50_70, e50_71, e50_74, e50_77, e50_78, e50_79, e50_82, e50_83, e50_84, e50_85, e50_88, e50_89, e50_90, e50_91, e50_94, e50_95, e50_96, e50_99, e50_100, e50_101, e50_104, zpush_some, zpush_none, true_or, or_true, true_and, and_true, ↓reduceIte, zq_ite, zq_itel, s_Q_hasMessage hz, m1, o1, o2, zz_1, not_false_eq_true, z1, z4, n3, l3, zi7, ci, g1, fct]
  · simp only [e50_0, e50_1, e50_2, e50_5, e50_8, e50_10, e50_11, e50_12_0, e50_12_1, e50_12_2, e50_12_3, e50_12_4, e50_12_d, e50_48, e50_49, e50_52, e50_53, e50_54, e50_55, e50_56, e50_59, e50_60, e50_61, e50_62, e50_63, e50_66, e50_67, e50_68, e50_69, e50_70, e50_71, e50_74, e50_77, e50_78, e50_79, e50_82, e50_83, e50_84, e50_85, e50_88, e50_89, e50_90, e50_91, e50_94, e50_95, e50_96, e50_99, e50_100, e50_101, e50_104, zpush_some, zpush_none, true_or, or_true, true_and, and_true, ↓reduceIte, zq_ite, zq_itel, s_Q_hasMessage hz, m1, o1, o2, zz_1, not_false_eq_true, z1, s_Q_wish hz hx hi ht, s_Q_toldWay hwl, fct, wvs_congr e1 e2 i hi]
  · simp only [e50_0, e50_1, e50_2, e50_5, e50_8, e50_10, e50_11, e50_12_0, e50_12_1, e50_12_2, e50_12_3, e50_12_4, e50_12_d, e50_48, e50_49, e50_52, e50_53, e50_54, e50_55, e50_56, e50_59, e50_60, e50_61, e50_62, e50_63, e50_66, e50_67, e50_68, e50_69, e50_70, e50_71, e50_74, e50_77, e50_78, e50_79, e50_82, e50_83, e50_84, e50_85, e50_88, e50_89, e50_90, e50_91, e50_94, e50_95, e50_96, e50_99, e50_100, e50_101, e50_104, zpush_some, zpush_none, true_or, or_true, true_and, and_true, ↓reduceIte, zq_ite, zq_itel, s_Q_hasMessage hz, m1, o1, o2, zz_1, not_false_eq_true, z1, z3, z4, n2, n3, l2, l3, zi7, ci, c1, g1, nx_xor, s_JI_bitCount (show s'.1 i ^^^ s'.2.1 i < 128 by omega), fct]
  · simp only [e50_0, e50_1, e50_2, e50_5, e50_8, e50_10, e50_11, e50_12_0, e50_12_1, e50_12_2, e50_12_3, e50_12_4, e50_12_d, e50_48, e50_49, e50_52, e50_53, e50_54, e50_55, e50_56, e50_59, e50_60, e50_61, e50_62, e50_63, e50_66, e50_67, e50_68, e50_69, e50_70, e50_71, e50_74, e50_77, e50_78, e50_79, e50_82, e50_83, e50_84, e50_85, e50_88, e50_89, e50_90, e50_91, e50_94, e50_95, e50_96, e50_99, e50_100, e50_101, e50_104, zpush_some, zpush_none, true_or, or_true, true_and, and_true, ↓reduceIte, zq_ite, zq_itel, s_Q_hasMessage hz, m1, o1, o2, zz_1, not_false_eq_true, z1, z5, n4, l4, zi7, ci, w1, s_Q_toldWay w2, d5, fct]
/-- the check's count of bits -/
def bsI (x : Int32) : Nat → Int32
  | 0 => 0
  | i + 1 => bsI x i + (x >>> (nI i &&& 31) &&& 1)
theorem l_M_bits {x : Int32} : ∀ r i, i + r = 32 → (zV n d 156 4 [.int x, .int (bsI x i), .int (nI i)] [] I L Q ↔ Q (some (.int (bsI x 32))) I L) := by
  intro r
  induction r with
  | zero =>
    intro i hi
    have e : i = 32 := by omega
    subst e
    simp only [e156_4, e156_5, e156_7, e156_24, e156_25, zpush_some, zpush_none, true_or, or_true, true_and, and_true, ↓reduceIte, zq_ite, zq_itel, show nI 32 = (32 : Int32) from rfl, Int32.le_refl]
  | succ r ih =>
    intro i hi
    have hlt : ((32 : Int32) ≤ nI i) = False := eq_false (nI_ge (b := 32) (by omega) (by omega))
    simp only [e156_4, e156_5, e156_7, e156_10, e156_11, e156_12, e156_13, e156_14, e156_15, e156_16, e156_17, zpush_some, zpush_none, true_or, or_true, true_and, and_true, ↓reduceIte, zq_ite, zq_itel, hlt]
    simp only [e156_18, e156_18a, e156_21, nI_1]
    exact ih (i + 1) (by omega)
theorem s_M_bits (x : Int32) : zV n d 156 0 [.int x, .null, .null] [] I L Q ↔ Q (some (.int (bsI x 32))) I L := by
  simp only [e156_0, e156_1, e156_2, e156_3, e156_3a, zpush_some, zpush_none, true_or, or_true, true_and, and_true, ↓reduceIte, zq_ite, zq_itel]
  exact l_M_bits 32 0 rfl
theorem h_bs16 : ∀ x, x < 16 → bsI (nI x) 32 = nI (pop7 x) := by decide +kernel
theorem s_M_messageTells (hx : MC I 70 m s) (hK : MK I m K) (hi : i < m) (ht : s.2.2.2.2.1 < 2 ^ 31) {w : Nat} (hw : w < 6) : zV n (d + 4) 148 0 [.ref 62, .int (nI i), .int (nI w)] [] I L Q ↔ Q (some (.int (fct K s i w))) I L := by
  obtain ⟨s', e2, hM⟩ := hx
  obtain ⟨K', e1, hK1, hK2, hK3⟩ := hK
  rw [← fct_congr e1 e2 hi]
  rw [← e2.2.2.2] at ht
  obtain ⟨k1, k2⟩ := hK3 i (by omega)
  obtain ⟨h0, h1, h2, hc⟩ := id hM
  obtain ⟨⟨c1, c2⟩, ⟨g1, g2⟩, w1, w2⟩ := hc i (by omega)
  have hx16 := xor_lt16 c2 g2
  have zi7 : zin (nI i) 7 = true := zin_ok (by omega) (by decide)
  have ci : (nI i).toNatClampNeg = i := nI_clamp (by omega)
  have z3 : zin (nI (3 + i)) 24 = true := zin_ok (by omega) (by decide)
  have y3 : (nI (3 + i)).toNatClampNeg = 3 + i := nI_clamp (by omega)
  have z10 : zin (nI (10 + i)) 24 = true := zin_ok (by omega) (by decide)
  have y10 : (nI (10 + i)).toNatClampNeg = 10 + i := nI_clamp (by omega)
  have z17 : zin (nI (17 + i)) 24 = true := zin_ok (by omega) (by decide)
  have y17 : (nI (17 + i)).toNatClampNeg = 17 + i := nI_clamp (by omega)
  have d5 : (5 : Int32).toInt < 0 ∨ 4 < (5 : Int32).toInt := by decide
  rcases (show w = 0 ∨ w = 1 ∨ w = 2 ∨ w = 3 ∨ w = 4 ∨ w = 5 by omega) with rfl | rfl | rfl | rfl | rfl | rfl
  all_goals simp only [show nI 0 = 0 from rfl, show nI 1 = 1 from rfl, show nI 2 = 2 from rfl, show nI 3 = 3 from rfl, show nI 4 = 4 from rfl, show nI 5 = 5 from rfl]
  · simp only [e148_0, e148_1_0, e148_1_1, e148_1_2, e148_1_3, e148_1_4, e148_1_d, e148_36, e148_37, e148_40, e148_41, e148_42, e148_43, e148_44, e148_47, e148_48, e148_49, e148_50, e148_51, e148_52, e148_53, e148_56, e148_58, e148_59, e148_60, e148_61, e148_62, e148_63, e148_66, e148_67, e148_68, e148_71, e148_72, e148_73, e148_76, e148_77, e148_78, e148_81, e148_82, e148_83, e148_84, e148_85, e148_86, e148_89, e148_91, e148_92, e148_93, e148_94, e148_95, e148_98, e148_99, e148_100, e148_103, e148_105, e148_106, e148_107, e148_108, zpush_some, zpush_none, true_or, or_true, true_and, and_true, ↓reduceIte, zq_ite, zq_itel, zo_62, zr_62_15, zn_69, zl_69, zi7, ci, k1, fct]
  · simp only [e148_0, e148_1_0, e148_1_1, e148_1_2, e148_1_3, e148_1_4, e148_1_d, e148_36, e148_37, e148_40, e148_41, e148_42, e148_43, e148_44, e148_47, e148_48, e148_49, e148_50, e148_51, e148_52, e148_53, e148_56, e148_58, e148_59, e148_60, e148_61, e148_62, e148_63, e148_66, e148_67, e148_68, e148_71, e148_72, e148_73, e148_76, e148_77, e148_78, e148_81, e148_82, e148_83, e148_84, e148_85, e148_86, e148_89, e148_91, e148_92, e148_93, e148_94, e148_95, e148_98, e148_99, e148_100, e148_103, e148_105, e148_106, e148_107, e148_108, zpush_some, zpush_none, true_or, or_true, true_and, and_true, ↓reduceIte, zq_ite, zq_itel, zo_62, zr_62_16, zn_70, zl_70, i_3, z3, y3, c1, fct]
  · simp only [e148_0, e148_1_0, e148_1_1, e148_1_2, e148_1_3, e148_1_4, e148_1_d, e148_36, e148_37, e148_40, e148_41, e148_42, e148_43, e148_44, e148_47, e148_48, e148_49, e148_50, e148_51, e148_52, e148_53, e148_56, e148_58, e148_59, e148_60, e148_61, e148_62, e148_63, e148_66, e148_67, e148_68, e148_71, e148_72, e148_73, e148_76, e148_77, e148_78, e148_81, e148_82, e148_83, e148_84, e148_85, e148_86, e148_89, e148_91, e148_92, e148_93, e148_94, e148_95, e148_98, e148_99, e148_100, e148_103, e148_105, e148_106, e148_107, e148_108, zpush_some, zpush_none, true_or, or_true, true_and, and_true, ↓reduceIte, zq_ite, zq_itel, zo_62, zr_62_16, zn_70, zl_70, i_10, z10, y10, g1, fct]
  · simp only [e148_0, e148_1_0, e148_1_1, e148_1_2, e148_1_3, e148_1_4, e148_1_d, e148_36, e148_37, e148_40, e148_41, e148_42, e148_43, e148_44, e148_47, e148_48, e148_49, e148_50, e148_51, e148_52, e148_53, e148_56, e148_58, e148_59, e148_60, e148_61, e148_62, e148_63, e148_66, e148_67, e148_68, e148_71, e148_72, e148_73, e148_76, e148_77, e148_78, e148_81, e148_82, e148_83, e148_84, e148_85, e148_86, e148_89, e148_91, e148_92, e148_93, e148_94, e148_95, e148_98, e148_99, e148_100, e148_103, e148_105, e148_106, e148_107, e148_108, zpush_some, zpush_none, true_or, or_true, true_and, and_true, ↓reduceIte, zq_ite, zq_itel, zo_62, zr_62_15, zr_62_16, zn_69, zl_69, zn_70, zl_70, zi7, ci, k1, s_M_wishOf hM Ma_70 ht (show i < 7 by omega) k2, fct]
    exact Iff.rfl
  · simp only [e148_0, e148_1_0, e148_1_1, e148_1_2, e148_1_3, e148_1_4, e148_1_d, e148_36, e148_37, e148_40, e148_41, e148_42, e148_43, e148_44, e148_47, e148_48, e148_49, e148_50, e148_51, e148_52, e148_53, e148_56, e148_58, e148_59, e148_60, e148_61, e148_62, e148_63, e148_66, e148_67, e148_68, e148_71, e148_72, e148_73, e148_76, e148_77, e148_78, e148_81, e148_82, e148_83, e148_84, e148_85, e148_86, e148_89, e148_91, e148_92, e148_93, e148_94, e148_95, e148_98, e148_99, e148_100, e148_103, e148_105, e148_106, e148_107, e148_108, zpush_some, zpush_none, true_or, or_true, true_and, and_true, ↓reduceIte, zq_ite, zq_itel, zo_62, zr_62_16, zn_70, zl_70, i_3, z3, y3, i_10, z10, y10, c1, g1, nx_xor, s_M_bits, h_bs16 _ hx16, fct]
  · simp only [e148_0, e148_1_0, e148_1_1, e148_1_2, e148_1_3, e148_1_4, e148_1_d, e148_36, e148_37, e148_40, e148_41, e148_42, e148_43, e148_44, e148_47, e148_48, e148_49, e148_50, e148_51, e148_52, e148_53, e148_56, e148_58, e148_59, e148_60, e148_61, e148_62, e148_63, e148_66, e148_67, e148_68, e148_71, e148_72, e148_73, e148_76, e148_77, e148_78, e148_81, e148_82, e148_83, e148_84, e148_85, e148_86, e148_89, e148_91, e148_92, e148_93, e148_94, e148_95, e148_98, e148_99, e148_100, e148_103, e148_105, e148_106, e148_107, e148_108, zpush_some, zpush_none, true_or, or_true, true_and, and_true, ↓reduceIte, zq_ite, zq_itel, zo_62, zr_62_16, zn_70, zl_70, i_17, z17, y17, w1, d5, fct]
theorem s_M_isOne (hK : MK I m K) (i : Int32) : zV n (d + 1) 147 0 [.ref 62, .int i] [] I L Q ↔ Q (some (.int (if i < 0 then 0 else if nI m ≤ i then 0 else 1))) I L := by
  obtain ⟨K', e1, hK1, hK2, hK3⟩ := hK
  simp only [e147_0, e147_1, e147_2, e147_3, e147_6, e147_7, e147_8, e147_11, zpush_some, zpush_none, true_or, or_true, true_and, and_true, ↓reduceIte, zq_ite, zq_itel, zo_62, hK1, s_M_in, sub1_lt (show m < 2 ^ 30 by omega)]
  exact and_iff_right (by split; exact Or.inl rfl; split; exact Or.inl rfl; exact Or.inr rfl)
theorem XC_m (hx : XC I L k m K s) : I k 4 = nI m := by
  obtain ⟨K', s', e1, e2, hq⟩ := hx
  exact hq.1.1
theorem MK_up (hK : MK I m K) {k j : Nat} {v : Int32} (h : (k ≠ 62 ∨ j ≠ 14) ∧ k ≠ 69) : MK (zup I k j v) m K := by
  obtain ⟨K', e1, h1, h2, h3⟩ := hK
  refine ⟨K', e1, ?_, h2, fun i hi => by rw [zup_ne (Ne.symm h.2)]; exact h3 i hi⟩
  rcases h.1 with g | g
  · rw [zup_ne (Ne.symm g)]; exact h1
  · rw [zup_nj (Ne.symm g)]; exact h1
theorem p_message (h : Inv I L) (i w : Int32) : zV n (d + 5) 49 0 [.ref 3, .int i, .int w] [] I L (fun v1 I1 L1 => zV n (d + 5) 146 0 [.ref 62, .int i, .int w] [] I1 L1 (fun v2 I2 L2 => same v1 v2 ∧ Inv I2 L2)) := by
  obtain ⟨m, K, s, hm, hok, ht, hX, hM, hK⟩ := h.view
  have hz := Qa_z (k := 14) (Or.inr (Or.inl rfl))
  rcases rngd i (show m < 2 ^ 31 by omega) with g1 | ⟨g1, g2⟩ | ⟨p, hp, rfl, g1, g2⟩
  · simp only [e49_0, e49_1, e49_4, e49_5, e49_8, e49_11, e49_12, e49_15, e49_16, e49_18, e49_21, e49_22, e49_23, e49_24, e49_25, e49_26, e49_29, e49_30, e49_31, e49_34, e49_37, e146_0, e146_1, e146_2, e146_5, e146_8, e146_9, e146_10, e146_11, e146_14, e146_17, e146_18, e146_19, e146_20, e146_21, e146_24, e146_27, e146_30, e146_31, zpush_some, zpush_none, true_or, or_true, true_and, and_true, ↓reduceIte, zq_ite, zq_itel, zo_3, zr_3_5, zo_62, zo_14, s_Q_hasMessage hz, XC_m hX, s_M_isOne hK, g1]
    exact ⟨same_i, h⟩
  · simp only [e49_0, e49_1, e49_4, e49_5, e49_8, e49_11, e49_12, e49_15, e49_16, e49_18, e49_21, e49_22, e49_23, e49_24, e49_25, e49_26, e49_29, e49_30, e49_31, e49_34, e49_37, e146_0, e146_1, e146_2, e146_5, e146_8, e146_9, e146_10, e146_11, e146_14, e146_17, e146_18, e146_19, e146_20, e146_21, e146_24, e146_27, e146_30, e146_31, zpush_some, zpush_none, true_or, or_true, true_and, and_true, ↓reduceIte, zq_ite, zq_itel, zo_3, zr_3_5, zo_62, zo_14, s_Q_hasMessage hz, XC_m hX, s_M_isOne hK, g1, g2]
    exact ⟨same_i, h⟩
  · rcases rng w 5 (by decide) (a := 6) (b := 5) rfl rfl with h1 | ⟨h1, h2, h3⟩ | ⟨j, hj, rfl, h1, h2, h3⟩
    · simp only [e49_0, e49_1, e49_4, e49_5, e49_8, e49_11, e49_12, e49_15, e49_16, e49_18, e49_21, e49_22, e49_23, e49_24, e49_25, e49_26, e49_29, e49_30, e49_31, e49_34, e49_37, e146_0, e146_1, e146_2, e146_5, e146_8, e146_9, e146_10, e146_11, e146_14, e146_17, e146_18, e146_19, e146_20, e146_21, e146_24, e146_27, e146_30, e146_31, zpush_some, zpush_none, true_or, or_true, true_and, and_true, ↓reduceIte, zq_ite, zq_itel, zo_3, zr_3_5, zo_62, zo_14, s_Q_hasMessage hz, XC_m hX, s_M_isOne hK, s_M_in, g1, g2, h1, zz_1]
      exact ⟨same_i, h⟩
    · have h4 : (w < 6) = False := eq_false (by rw [Int32.not_lt]; exact of_eq_true h2)
      simp only [e49_0, e49_1, e49_4, e49_5, e49_8, e49_11, e49_12, e49_15, e49_16, e49_18, e49_21, e49_22, e49_23, e49_24, e49_25, e49_26, e49_29, e49_30, e49_31, e49_34, e49_37, e146_0, e146_1, e146_2, e146_5, e146_8, e146_9, e146_10, e146_11, e146_14, e146_17, e146_18, e146_19, e146_20, e146_21, e146_24, e146_27, e146_30, e146_31, zpush_some, zpush_none, true_or, or_true, true_and, and_true, ↓reduceIte, zq_ite, zq_itel, zo_3, zr_3_5, zo_62, zo_14, s_Q_hasMessage hz, XC_m hX, s_M_isOne hK, s_M_in, g1, g2, h1, h2, h3, h4, zz_1]
      exact ⟨same_i, h⟩
    · have h4 : (nI j < 6) = True := eq_true (by rw [← Int32.not_le]; exact of_eq_false h2)
      have ht' : s.2.2.2.2.1 < 2 ^ 31 := by omega
      simp only [e49_0, e49_1, e49_4, e49_5, e49_8, e49_11, e49_12, e49_15, e49_16, e49_18, e49_21, e49_22, e49_23, e49_24, e49_25, e49_26, e49_29, e49_30, e49_31, e49_34, e49_37, e146_0, e146_1, e146_2, e146_5, e146_8, e146_9, e146_10, e146_11, e146_14, e146_17, e146_18, e146_19, e146_20, e146_21, e146_24, e146_27, e146_30, e146_31, zpush_some, zpush_none, true_or, or_true, true_and, and_true, ↓reduceIte, zq_ite, zq_itel, zo_3, zr_3_5, zo_62, zo_14, s_Q_hasMessage hz, XC_m hX, s_M_isOne hK, s_M_in, g1, g2, h1, h2, h3, h4, zz_1, s_Q_fact hz hX hp ht' hj, s_X_tell, s_M_isOne (MK_up hK (k := 3) (j := 12) (by omega)), s_M_messageTells (MC_eq hM (fun j => zup_ne (by decide))) (MK_up hK (k := 3) (j := 12) (by omega)) hp ht' hj, s_M_tells]
      exact ⟨same_i, inv_tell h⟩
end
