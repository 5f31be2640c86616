/-! THE CLASS'S CUBE -/
def bl (x : Int64) (i : Nat) : Bool := x.toBitVec.getLsbD i
def Qa (k : Nat) : Prop := k = 9 ∨ k = 14 ∨ k = 19
/-- what is known of a cube's cells -/
def Qz (k : Nat) : Prop := zobj k = 0 ∧ zref k 0 = k + 1 ∧ zref k 1 = k + 2 ∧ zref k 2 = k + 3 ∧ zref k 3 = k + 4 ∧ (zint (k + 1) = true ∧ zint (k + 2) = true ∧ zint (k + 3) = true ∧ zint (k + 4) = true) ∧ (zwr (k + 1) = true ∧ zwr (k + 2) = true ∧ zwr (k + 3) = true ∧ zwr (k + 4) = true) ∧ zlen (k + 1) = 7 ∧ zlen (k + 2) = 7 ∧ zlen (k + 3) = 7 ∧ zlen (k + 4) = 7
theorem Qa_z {k : Nat} (h : Qa k) : Qz k := by
  rcases h with rfl | rfl | rfl <;> exact ⟨by decide +kernel, by decide +kernel, by decide +kernel, by decide +kernel, by decide +kernel, by decide +kernel, by decide +kernel, by decide +kernel, by decide +kernel, by decide +kernel, by decide +kernel⟩
/-- arcs of broken links -/
def AB (x : Int64) (B : Nat → Bool) : Prop := ∀ c, c < 16 → ∀ w, w < 4 → bl x (16 * w + c) = B (lk c w)
def Qc (I : zi) (L : zl) (k m : Nat) (K C G W : Nat → Nat) (B : Nat → Bool) (t h : Nat) : Prop := (I k 4 = nI m ∧ m ≤ 7) ∧ AB (L k 5) B ∧ I k 6 = nI t ∧ I k 7 = nI h ∧ ∀ i, i < m → (I (k + 1) i = nI (K i) ∧ K i < 6) ∧ (I (k + 2) i = nI (C i) ∧ C i < 16) ∧ (I (k + 3) i = nI (G i) ∧ G i < 16) ∧ (I (k + 4) i = wx (W i) ∧ W i ≤ 4)
theorem lg_0 (u v : Int64) : (lg_cmp u v = 0) = (u = v) := by
  unfold lg_cmp
  by_cases h : u > v
  · rw [if_pos h]
    have : ¬ u = v := fun e => by rw [e] at h; exact absurd h (Int64.lt_irrefl)
    simp [this]
  · rw [if_neg h]
    by_cases e : u = v <;> simp [e]
theorem bl_sh {x : Int64} {j : Nat} (hj : j < 64) : ((x.toUInt64 >>> ((nI j).toInt64.toUInt64 &&& Int64.toUInt64 63)).toInt64 &&& 1 = 0) = (bl x j = false) := by
  rw [wb_cu j hj]
  exact propext (ts_bit hj (by show j % 2 ^ 64 = j; omega))
theorem i_0 (i : Nat) : (0 : Int32) + nI i = nI (0 + i) := nI_add 0 i
theorem i_16 (i : Nat) : (16 : Int32) + nI i = nI (16 + i) := nI_add 16 i
theorem i_32 (i : Nat) : (32 : Int32) + nI i = nI (32 + i) := nI_add 32 i
theorem i_48 (i : Nat) : (48 : Int32) + nI i = nI (48 + i) := nI_add 48 i
/-- the lowest bit of seven -/
def low7 (s : Nat) : Nat := if s.testBit 0 then 0 else if s.testBit 1 then 1 else if s.testBit 2 then 2 else if s.testBit 3 then 3 else if s.testBit 4 then 4 else if s.testBit 5 then 5 else if s.testBit 6 then 6 else 7
def wx7 (w : Nat) : Int32 := if w < 7 then nI w else -1
section
variable {n d : Nat} {I : zi} {L : zl} {Q : zq} {K C G W : Nat → Nat} {B : Nat → Bool} {k m t h : Nat}
theorem h_low7 : ∀ s, s < 128 → (if nI s >>> ((0 : Int32) &&& 31) &&& 1 = 0 then (if nI s >>> ((1 : Int32) &&& 31) &&& 1 = 0 then (if nI s >>> ((2 : Int32) &&& 31) &&& 1 = 0 then (if nI s >>> ((3 : Int32) &&& 31) &&& 1 = 0 then (if nI s >>> ((4 : Int32) &&& 31) &&& 1 = 0 then (if nI s >>> ((5 : Int32) &&& 31) &&& 1 = 0 then (if nI s >>> ((6 : Int32) &&& 31) &&& 1 = 0 then (-1 : Int32) else 6) else 5) else 4) else 3) else 2) else 1) else 0) = wx7 (low7 s) := by decide +kernel
theorem s_Q_lowestBit7 {s : Nat} (hs : s < 128) : zV n d 45 0 [.int (nI s), .null] [] I L Q ↔ Q (some (.int (wx7 (low7 s)))) I L := by
  simp only [e45_0, e45_1, e45_2, e45_3, e45_5, e45_8, e45_9, e45_10, e45_11, e45_12, e45_13, e45_16, e45_17, e45_18, e45_21, e45_24, e45_25, zpush_some, zpush_none, true_or, or_true, true_and, and_true, ↓reduceIte, zq_ite, zq_itel, Int32.reduceAdd, Int32.reduceLE]
  rw [← h_low7 s hs]
theorem low7_low : ∀ s, s < 16 → wx7 (low7 s) = wx (low s) := by decide +kernel
theorem s_Q_lowestBit {s : Nat} (hs : s < 16) : zV n d 45 0 [.int (nI s), .null] [] I L Q ↔ Q (some (.int (wx (low s)))) I L := by
  rw [s_Q_lowestBit7 (by omega), low7_low s hs]
theorem h_highx : ∀ s, s < 16 → (if nI s >>> ((3 : Int32) &&& 31) &&& 1 = 0 then (if nI s >>> ((2 : Int32) &&& 31) &&& 1 = 0 then (if nI s >>> ((1 : Int32) &&& 31) &&& 1 = 0 then (if nI s >>> ((0 : Int32) &&& 31) &&& 1 = 0 then (-1 : Int32) else 0) else 1) else 2) else 3) = wx (high s) := by decide +kernel
theorem s_Q_highestWay {s : Nat} (hs : s < 16) : zV n d 44 0 [.int (nI s), .null] [] I L Q ↔ Q (some (.int (wx (high s)))) I L := by
  simp only [e44_0, e44_1, e44_2, e44_3, e44_6, e44_7, e44_8, e44_9, e44_10, e44_11, e44_14, e44_15, e44_16, e44_19, e44_22, e44_23, zpush_some, zpush_none, true_or, or_true, true_and, and_true, ↓reduceIte, zq_ite, zq_itel, zm_3, zm_2, zm_1, zm_0, zm_n, Int32.reduceLT]
  rw [← h_highx s hs]
theorem s_Q_hasMessage (hz : Qz k) (i : Int32) : zV n d 41 0 [.ref k, .int i] [] I L Q ↔ Q (some (.int (if i < 0 then 0 else if I k 4 ≤ i then 0 else 1))) I L := by
  simp only [e41_0, e41_1, e41_4, e41_5, e41_6, e41_9, e41_12, e41_13, e41_16, e41_17, zpush_some, zpush_none, true_or, or_true, true_and, and_true, ↓reduceIte, zq_ite, zq_itel, hz.1]
theorem s_Q_wholeWays (hz : Qz k) (hB : AB (L k 5) B) {c : Nat} (hc : c < 16) : zV n d 47 0 [.ref k, .int (nI c), .null, .null] [] I L Q ↔ Q (some (.int (nI (whN B c)))) I L := by
  have b0 := hB c hc 0 (by decide)
  have b1 := hB c hc 1 (by decide)
  have b2 := hB c hc 2 (by decide)
  have b3 := hB c hc 3 (by decide)
  simp only [Nat.reduceMul] at b0 b1 b2 b3
  simp only [e47_0, e47_1, e47_2, e47_3, e47_3a, e47_4, e47_5, e47_6, e47_9, e47_10, e47_11, e47_14, e47_16, e47_17, e47_18, e47_19, e47_20, e47_21, e47_22, e47_23, e47_24, e47_25, e47_28, e47_29, e47_30, e47_31, e47_34, e47_35, e47_36, e47_37, e47_37a, e47_40, e47_43, e47_44, zpush_some, zpush_none, true_or, or_true, true_and, and_true, ↓reduceIte, zq_ite, zq_itel, hz.1, Int32.reduceMul, Int32.reduceAdd, Int32.reduceLE, i_0, i_16, i_32, i_48, lg_0, bl_sh (show 0 + c < 64 by omega), bl_sh (show 16 + c < 64 by omega), bl_sh (show 32 + c < 64 by omega), bl_sh (show 48 + c < 64 by omega), b0, b1, b2, b3]
  unfold whN
  rw [← h_whole]
  generalize B (lk c 0) = b0
  generalize B (lk c 1) = b1
  generalize B (lk c 2) = b2
  generalize B (lk c 3) = b3
  cases b0 <;> cases b1 <;> cases b2 <;> cases b3 <;> simp
theorem h_dodx : ∀ off, off < 16 → ∀ wh, wh < 16 → ¬ nI off = 0 → wx (low (if nI off &&& nI wh = 0 then wh else off &&& wh)) = wx (dod off wh) := by decide +kernel
theorem h_off0 : ∀ off, off < 16 → (nI off = 0) = (off = 0) := fun off h => propext ((by decide +kernel : ∀ off, off < 16 → (nI off = 0 ↔ off = 0)) off h)
theorem dod_0 (wh : Nat) : dod 0 wh = 4 := rfl
theorem s_Q_dodgingWay (hz : Qz k) (hq : Qc I L k m K C G W B t h) {i : Nat} (hi : i < m) : zV n (d + 1) 46 0 [.ref k, .int (nI i), .null, .null] [] I L Q ↔ Q (some (.int (wx (dod (C i ^^^ G i) (whN B (C i)))))) I L := by
  obtain ⟨⟨-, hm7⟩, hB, -, -, hq⟩ := hq
  obtain ⟨-, ⟨hc1, hc2⟩, ⟨hg1, hg2⟩, -⟩ := hq i hi
  have hx := xor_lt16 hc2 hg2
  have hw := whN_lt B (C i)
  obtain ⟨z1, z2, z3, z4, z5, ⟨n1, n2, n3, n4⟩, -, l1, l2, l3, l4⟩ := id hz
  have zi7 : zin (nI i) 7 = true := zin_ok (by omega) (by decide)
  have ci : (nI i).toNatClampNeg = i := nI_clamp (by omega)
  by_cases h0 : C i ^^^ G i = 0
  · simp only [e46_0, e46_1, e46_4, e46_5, e46_6, e46_7, e46_10, e46_11, e46_12, e46_13, e46_14, e46_15, e46_18, e46_19, e46_20, e46_21, e46_22, e46_25, e46_26, e46_27, e46_30, e46_30a, e46_31, e46_32, e46_33, e46_34, e46_37, e46_38, e46_39, e46_40, e46_43, e46_44, e46_47, zpush_some, zpush_none, true_or, or_true, true_and, and_true, ↓reduceIte, zq_ite, zq_itel, z1, z3, z4, n2, n3, l2, l3, zi7, ci, hc1, hg1, nx_xor, h0, show (nI 0 = 0) = True from eq_true rfl, not_true_eq_false, dod_0]
    rfl
  · have h1 : ¬ nI (C i ^^^ G i) = 0 := by rw [h_off0 _ hx]; exact h0
    have h2 := h_dodx _ hx _ hw h1
    by_cases h3 : nI (C i ^^^ G i) &&& nI (whN B (C i)) = 0
    · rw [if_pos h3] at h2
      rw [nx_and] at h3
      simp only [e46_0, e46_1, e46_4, e46_5, e46_6, e46_7, e46_10, e46_11, e46_12, e46_13, e46_14, e46_15, e46_18, e46_19, e46_20, e46_21, e46_22, e46_25, e46_26, e46_27, e46_30, e46_30a, e46_31, e46_32, e46_33, e46_34, e46_37, e46_38, e46_39, e46_40, e46_43, e46_44, e46_47, zpush_some, zpush_none, true_or, or_true, true_and, and_true, ↓reduceIte, zq_ite, zq_itel, z1, z3, z4, n2, n3, l2, l3, zi7, ci, hc1, hg1, nx_xor, nx_and, h1, not_false_eq_true, s_Q_wholeWays hz hB hc2, h3, s_Q_lowestBit hw, h2]
    · rw [if_neg h3] at h2
      rw [nx_and] at h3
      simp only [e46_0, e46_1, e46_4, e46_5, e46_6, e46_7, e46_10, e46_11, e46_12, e46_13, e46_14, e46_15, e46_18, e46_19, e46_20, e46_21, e46_22, e46_25, e46_26, e46_27, e46_30, e46_30a, e46_31, e46_32, e46_33, e46_34, e46_37, e46_38, e46_39, e46_40, e46_43, e46_44, e46_47, zpush_some, zpush_none, true_or, or_true, true_and, and_true, ↓reduceIte, zq_ite, zq_itel, z1, z3, z4, n2, n3, l2, l3, zi7, ci, hc1, hg1, nx_xor, nx_and, h1, not_false_eq_true, s_Q_wholeWays hz hB hc2, h3, s_Q_lowestBit (and_lt16 (whN B (C i)) hx), h2]
theorem has_ok {i m : Nat} (him : i < m) (hm : m ≤ 7) : (nI i < 0) = False ∧ (nI m ≤ nI i) = False := ⟨eq_false (nI_pos (by omega)), eq_false (nI_ge him (by omega))⟩
theorem h_r2x (t : Nat) : (nI (t % 2) = 0) = (t % 2 = 0) := by
  have : t % 2 = 0 ∨ t % 2 = 1 := by omega
  rcases this with h | h <;> rw [h] <;> decide
theorem s_Q_wishAs (hz : Qz k) (hq : Qc I L k m K C G W B t h) {i kd u : Nat} (hi : i < m) (hk : kd < 6) (hu : u < 2 ^ 31) : zV n (d + 2) 43 0 [.ref k, .int (nI kd), .int (nI i), .int (nI u), .null, .null] [] I L Q ↔ Q (some (.int (wx (wish kd (C i) (G i) (W i) u B)))) I L := by
  obtain ⟨⟨hm1, hm2⟩, hB, -, -, hq1⟩ := id hq
  obtain ⟨-, ⟨hc1, hc2⟩, ⟨hg1, hg2⟩, hw1, hw2⟩ := hq1 i (by omega)
  obtain ⟨ho1, ho2⟩ := has_ok hi hm2
  have hi7 : i < 7 := by omega
  have hx := xor_lt16 hc2 hg2
  obtain ⟨z1, z2, z3, z4, z5, ⟨n1, n2, n3, n4⟩, -, l1, l2, l3, l4⟩ := id hz
  have zi7 : zin (nI i) 7 = true := zin_ok (by omega) (by decide)
  have ci : (nI i).toNatClampNeg = i := nI_clamp (by omega)
  have hd1 := dod_le (C i ^^^ G i) (whN B (C i))
  have hwx : (¬ wx (dod (C i ^^^ G i) (whN B (C i))) = wx (W i)) = (¬ dod (C i ^^^ G i) (whN B (C i)) = W i) := propext (not_congr (wx_inj _ hd1 _ hw2))
  rcases (show kd = 0 ∨ kd = 1 ∨ kd = 2 ∨ kd = 3 ∨ kd = 4 ∨ kd = 5 by omega) with rfl | rfl | rfl | rfl | rfl | rfl
  all_goals simp only [show nI 0 = 0 from rfl, show nI 1 = 1 from rfl, show nI 2 = 2 from rfl, show nI 3 = 3 from rfl, show nI 4 = 4 from rfl, show nI 5 = 5 from rfl]
  · have hd0 : (0 : Int32).toInt < 1 ∨ 5 < (0 : Int32).toInt := by decide
    simp only [e43_0, e43_1, e43_2, e43_5, e43_8, e43_9, e43_10, e43_11, e43_14, e43_15, e43_16, e43_17, e43_20, e43_21, e43_22, e43_23, e43_25, e43_26_1, e43_26_2, e43_26_3, e43_26_4, e43_26_5, e43_26_d, e43_60, e43_62, e43_65, e43_66, e43_67, e43_68, e43_69, e43_72, e43_73, e43_76, e43_78, e43_81, e43_82, e43_83, e43_84, e43_87, e43_88, e43_89, e43_90, e43_91, e43_94, e43_96, e43_99, e43_102, e43_104, e43_107, e43_108, e43_109, e43_110, e43_113, e43_113a, e43_115, e43_117, e43_118, e43_121, e43_122, e43_123, e43_126, e43_127, e43_130, e43_132, e43_133, e43_135, e43_138, zpush_some, zpush_none, true_or, or_true, true_and, and_true, ↓reduceIte, zq_ite, zq_itel, s_Q_hasMessage hz, hm1, ho1, ho2, zz_1, not_false_eq_true, z1, z3, z4, n2, n3, l2, l3, zi7, ci, hc1, hg1, nx_xor, hd0, s_Q_lowestBit hx, wish]
  · simp only [e43_0, e43_1, e43_2, e43_5, e43_8, e43_9, e43_10, e43_11, e43_14, e43_15, e43_16, e43_17, e43_20, e43_21, e43_22, e43_23, e43_25, e43_26_1, e43_26_2, e43_26_3, e43_26_4, e43_26_5, e43_26_d, e43_60, e43_62, e43_65, e43_66, e43_67, e43_68, e43_69, e43_72, e43_73, e43_76, e43_78, e43_81, e43_82, e43_83, e43_84, e43_87, e43_88, e43_89, e43_90, e43_91, e43_94, e43_96, e43_99, e43_102, e43_104, e43_107, e43_108, e43_109, e43_110, e43_113, e43_113a, e43_115, e43_117, e43_118, e43_121, e43_122, e43_123, e43_126, e43_127, e43_130, e43_132, e43_133, e43_135, e43_138, zpush_some, zpush_none, true_or, or_true, true_and, and_true, ↓reduceIte, zq_ite, zq_itel, s_Q_hasMessage hz, hm1, ho1, ho2, zz_1, not_false_eq_true, z1, z3, z4, n2, n3, l2, l3, zi7, ci, hc1, hg1, nx_xor, s_Q_highestWay hx, wish]
  · simp only [e43_0, e43_1, e43_2, e43_5, e43_8, e43_9, e43_10, e43_11, e43_14, e43_15, e43_16, e43_17, e43_20, e43_21, e43_22, e43_23, e43_25, e43_26_1, e43_26_2, e43_26_3, e43_26_4, e43_26_5, e43_26_d, e43_60, e43_62, e43_65, e43_66, e43_67, e43_68, e43_69, e43_72, e43_73, e43_76, e43_78, e43_81, e43_82, e43_83, e43_84, e43_87, e43_88, e43_89, e43_90, e43_91, e43_94, e43_96, e43_99, e43_102, e43_104, e43_107, e43_108, e43_109, e43_110, e43_113, e43_113a, e43_115, e43_117, e43_118, e43_121, e43_122, e43_123, e43_126, e43_127, e43_130, e43_132, e43_133, e43_135, e43_138, zpush_some, zpush_none, true_or, or_true, true_and, and_true, ↓reduceIte, zq_ite, zq_itel, s_Q_hasMessage hz, hm1, ho1, ho2, zz_1, not_false_eq_true, z1, z3, z4, n2, n3, l2, l3, zi7, ci, hc1, hg1, nx_xor, s_Q_lowestBit hx, wish, h_rem2 hu, h_r2x, zz_2]
    have : u % 2 = 0 ∨ u % 2 = 1 := by omega
    rcases this with g | g <;> simp [g, wx]
  · simp only [e43_0, e43_1, e43_2, e43_5, e43_8, e43_9, e43_10, e43_11, e43_14, e43_15, e43_16, e43_17, e43_20, e43_21, e43_22, e43_23, e43_25, e43_26_1, e43_26_2, e43_26_3, e43_26_4, e43_26_5, e43_26_d, e43_60, e43_62, e43_65, e43_66, e43_67, e43_68, e43_69, e43_72, e43_73, e43_76, e43_78, e43_81, e43_82, e43_83, e43_84, e43_87, e43_88, e43_89, e43_90, e43_91, e43_94, e43_96, e43_99, e43_102, e43_104, e43_107, e43_108, e43_109, e43_110, e43_113, e43_113a, e43_115, e43_117, e43_118, e43_121, e43_122, e43_123, e43_126, e43_127, e43_130, e43_132, e43_133, e43_135, e43_138, zpush_some, zpush_none, true_or, or_true, true_and, and_true, ↓reduceIte, zq_ite, zq_itel, s_Q_hasMessage hz, hm1, ho1, ho2, zz_1, not_false_eq_true, z1, z3, z4, n2, n3, l2, l3, zi7, ci, hc1, hg1, nx_xor, s_Q_dodgingWay hz hq hi, wish]
  · simp only [e43_0, e43_1, e43_2, e43_5, e43_8, e43_9, e43_10, e43_11, e43_14, e43_15, e43_16, e43_17, e43_20, e43_21, e43_22, e43_23, e43_25, e43_26_1, e43_26_2, e43_26_3, e43_26_4, e43_26_5, e43_26_d, e43_60, e43_62, e43_65, e43_66, e43_67, e43_68, e43_69, e43_72, e43_73, e43_76, e43_78, e43_81, e43_82, e43_83, e43_84, e43_87, e43_88, e43_89, e43_90, e43_91, e43_94, e43_96, e43_99, e43_102, e43_104, e43_107, e43_108, e43_109, e43_110, e43_113, e43_113a, e43_115, e43_117, e43_118, e43_121, e43_122, e43_123, e43_126, e43_127, e43_130, e43_132, e43_133, e43_135, e43_138, zpush_some, zpush_none, true_or, or_true, true_and, and_true, ↓reduceIte, zq_ite, zq_itel, s_Q_hasMessage hz, hm1, ho1, ho2, zz_1, not_false_eq_true, z1, z3, z4, n2, n3, l2, l3, zi7, ci, hc1, hg1, nx_xor, s_Q_lowestBit hx, s_Q_highestWay hx, wish, h_rem3 hu, h_r3, zz_3]
    by_cases g : u % 3 = 0 <;> simp [g]
  · simp only [e43_0, e43_1, e43_2, e43_5, e43_8, e43_9, e43_10, e43_11, e43_14, e43_15, e43_16, e43_17, e43_20, e43_21, e43_22, e43_23, e43_25, e43_26_1, e43_26_2, e43_26_3, e43_26_4, e43_26_5, e43_26_d, e43_60, e43_62, e43_65, e43_66, e43_67, e43_68, e43_69, e43_72, e43_73, e43_76, e43_78, e43_81, e43_82, e43_83, e43_84, e43_87, e43_88, e43_89, e43_90, e43_91, e43_94, e43_96, e43_99, e43_102, e43_104, e43_107, e43_108, e43_109, e43_110, e43_113, e43_113a, e43_115, e43_117, e43_118, e43_121, e43_122, e43_123, e43_126, e43_127, e43_130, e43_132, e43_133, e43_135, e43_138, zpush_some, zpush_none, true_or, or_true, true_and, and_true, ↓reduceIte, zq_ite, zq_itel, s_Q_hasMessage hz, hm1, ho1, ho2, zz_1, not_false_eq_true, z1, z3, z4, z5, n2, n3, n4, l2, l3, l4, zi7, ci, hc1, hg1, hw1, nx_xor, s_Q_dodgingWay hz hq hi, wish, hwx]
    by_cases g : dod (C i ^^^ G i) (whN B (C i)) = W i <;> simp [g, wx]
end
