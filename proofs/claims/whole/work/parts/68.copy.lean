/-! COPY -/
theorem subI {q t : Nat} (hq : q < 2 ^ 31) (ht : t < 2 ^ 31) : (nI q - nI t).toInt = (q : Int) - t := by
  rw [Int32.toInt_sub, nI_toInt hq, nI_toInt ht]
  exact Int.bmod_eq_of_le (by omega) (by omega)
section
variable {n d : Nat} {I I' : zi} {L L' : zl} {Q : zq} {k lim q t c a b : Nat}
theorem s_S_many (hz : Sz k lim) (hm : I k 1 = nI q) (hq : q < 2 ^ 31) (ht : t < 2 ^ 31) (hc : c < 2 ^ 31) : zV n d 19 0 [.ref k, .int (nI t), .int (nI c)] [] I L Q ↔ Q (some (.int (if t + c ≤ q then 1 else 0))) I L := by
  have h1 : (nI t < 0) = False := eq_false (nI_pos ht)
  have h2 : (nI c < 0) = False := eq_false (nI_pos hc)
  have h3 : (nI q - nI t < nI c) = (¬ t + c ≤ q) := propext (by rw [Int32.lt_iff_toInt_lt, subI hq ht, nI_toInt hc]; omega)
  rw [s_S_hasMany hz, hm]
  simp only [h1, h2, h3, if_false]
  by_cases g : t + c ≤ q
  · simp [g]
  · simp [g]
theorem s_M_part (hq : q < 2 ^ 31) (ht : t < 2 ^ 31) (hc : c < 2 ^ 31) : zV n d 134 0 [.int (nI t), .int (nI c), .int (nI q)] [] I L Q ↔ Q (some (.int (if t + c ≤ q then 1 else 0))) I L := by
  have h1 : (nI t < 0) = False := eq_false (nI_pos ht)
  have h2 : (nI q < nI c) = (q < c) := nI_ltN hq hc
  have h3 : (nI q - nI c < nI t) = (¬ t + c ≤ q) := propext (by rw [Int32.lt_iff_toInt_lt, subI hq hc, nI_toInt ht]; omega)
  by_cases g : t + c ≤ q
  · have h2 := h2.trans (eq_false (by omega))
    have h3 := h3.trans (eq_false (fun w => w g))
    simp only [e134_0, e134_1, e134_4, e134_5, e134_6, e134_9, e134_10, e134_11, e134_12, e134_13, e134_16, e134_17, e134_20, e134_21, zpush_some, zpush_none, true_or, or_true, true_and, and_true, ↓reduceIte, zq_ite, zq_itel, h1, h2, h3, if_pos g]
  · have h3 := h3.trans (eq_true g)
    by_cases g2 : q < c
    · have h2 := h2.trans (eq_true g2)
      simp only [e134_0, e134_1, e134_4, e134_5, e134_6, e134_9, e134_10, e134_11, e134_12, e134_13, e134_16, e134_17, e134_20, e134_21, zpush_some, zpush_none, true_or, or_true, true_and, and_true, ↓reduceIte, zq_ite, zq_itel, h1, h2, if_neg g]
    · have h2 := h2.trans (eq_false g2)
      simp only [e134_0, e134_1, e134_4, e134_5, e134_6, e134_9, e134_10, e134_11, e134_12, e134_13, e134_16, e134_17, e134_20, e134_21, zpush_some, zpush_none, true_or, or_true, true_and, and_true, ↓reduceIte, zq_ite, zq_itel, h1, h2, h3, if_neg g]
theorem s_S_many_n (hz : Sz k lim) {i j : Int32} (h : (i < 0) = True) : zV n d 19 0 [.ref k, .int i, .int j] [] I L Q ↔ Q (some (.int 0)) I L := by
  rw [s_S_hasMany hz]
  simp only [h, if_true]
theorem s_M_part_n {i j x : Int32} (h : (i < 0) = True) : zV n d 134 0 [.int i, .int j, .int x] [] I L Q ↔ Q (some (.int 0)) I L := by
  simp only [e134_0, e134_1, e134_4, e134_5, e134_6, e134_9, e134_10, e134_11, e134_12, e134_13, e134_16, e134_17, e134_20, e134_21, zpush_some, zpush_none, true_or, or_true, true_and, and_true, ↓reduceIte, zq_ite, zq_itel, h]
def cpd (I : zi) (s0 d0 lo hi : Nat) (I' : zi) : Prop := (∀ k j, k ≠ 64 → I' k j = I k j) ∧ ∀ x, I' 64 x = if lo ≤ x ∧ x < hi then I 64 (s0 + (x - d0)) else I 64 x
theorem m3 (a i t : Nat) : (40 : Int32) * nI a + nI i + nI t = nI (40 * a + i + t) := by rw [m40, nI_add]
theorem l_M_cpd {t1 t2 : Nat} (ha : a < 6) (hb : b < 6) (h1 : t1 + c ≤ 40) (h2 : t2 + c ≤ 40) (ho : a ≠ b ∨ t2 ≤ t1) (hQ : ∀ I' v8, cpd I (40 * a + t1) (40 * b + t2) (40 * b + t2) (40 * b + t2 + c) I' → zV n d 133 174 [.ref 62, .int (nI a), .int (nI t1), .int (nI b), .int (nI t2), .int (nI c), .int 0, .int (nI c), v8] [] I' L Q) :
    ∀ r k I' v8, k + r = c → cpd I (40 * a + t1) (40 * b + t2) (40 * b + t2) (40 * b + t2 + k) I' → zV n d 133 113 [.ref 62, .int (nI a), .int (nI t1), .int (nI b), .int (nI t2), .int (nI c), .int 0, .int (nI k), v8] [] I' L Q := by
  intro r
  induction r with
  | zero =>
    intro k I' v8 hk hI
    have e : k = c := by omega
    subst e
    simp only [e133_113, e133_115, e133_117, zpush_some, zpush_none, true_or, or_true, true_and, and_true, ↓reduceIte, zq_ite, zq_itel, Int32.le_refl]
    exact hQ I' _ hI
  | succ r ih =>
    intro k I' v8 hk hI
    have hlt : (nI c ≤ nI k) = False := eq_false (nI_ge (by omega) (by omega))
    have z1 : zin (nI (40 * a + t1 + k)) 240 = true := zin_ok (by omega) (by decide)
    have c1 : (nI (40 * a + t1 + k)).toNatClampNeg = 40 * a + t1 + k := nI_clamp (by omega)
    have z2 : zin (nI (40 * b + t2 + k)) 240 = true := zin_ok (by omega) (by decide)
    have c2 : (nI (40 * b + t2 + k)).toNatClampNeg = 40 * b + t2 + k := nI_clamp (by omega)
    simp only [e133_113, e133_115, e133_117, e133_120, e133_122, e133_125, e133_127, e133_128, e133_129, e133_131, e133_132, e133_135, e133_137, e133_137a, e133_139, e133_140, e133_143, e133_145, e133_146, e133_147, e133_149, e133_150, e133_152, e133_153, e133_154, e133_157, e133_159, e133_160, e133_161, e133_162, e133_163, e133_165, e133_166, e133_167, zpush_some, zpush_none, true_or, or_true, true_and, and_true, ↓reduceIte, zq_ite, zq_itel, hlt, zo_62, zr_62_1, zn_64, zw_64, zl_64, m3, z1, c1, z2, c2]
    simp only [e133_168, e133_168a, e133_171, nI_1]
    refine ih (k + 1) _ _ (by omega) ⟨fun k' j g => by rw [zup_ne g]; exact hI.1 k' j g, fun x => ?_⟩
    have er : I' 64 (40 * a + t1 + k) = I 64 (40 * a + t1 + k) := by
      rw [hI.2, if_neg (by omega)]
    by_cases e : x = 40 * b + t2 + k
    · subst e
      rw [zup_eq, er, if_pos (by omega), show 40 * a + t1 + (40 * b + t2 + k - (40 * b + t2)) = 40 * a + t1 + k by omega]
    · rw [zup_nj e, hI.2]
      by_cases g : 40 * b + t2 ≤ x ∧ x < 40 * b + t2 + k
      · rw [if_pos g, if_pos (by omega)]
      · rw [if_neg g, if_neg (by omega)]
theorem l_M_cpu {t1 t2 : Nat} (ha : a < 6) (h1 : t1 + c ≤ 40) (h2 : t2 + c ≤ 40) (ho : t1 < t2) (hQ : ∀ I' v8, cpd I (40 * a + t1) (40 * a + t2) (40 * a + t2) (40 * a + t2 + c) I' → zV n d 133 174 [.ref 62, .int (nI a), .int (nI t1), .int (nI a), .int (nI t2), .int (nI c), .int 1, .int (nI c), v8] [] I' L Q) :
    ∀ r k I' v8, k + r = c → cpd I (40 * a + t1) (40 * a + t2) (40 * a + t2 + r) (40 * a + t2 + c) I' → zV n d 133 113 [.ref 62, .int (nI a), .int (nI t1), .int (nI a), .int (nI t2), .int (nI c), .int 1, .int (nI k), v8] [] I' L Q := by
  intro r
  induction r with
  | zero =>
    intro k I' v8 hk hI
    have e : k = c := by omega
    subst e
    simp only [e133_113, e133_115, e133_117, zpush_some, zpush_none, true_or, or_true, true_and, and_true, ↓reduceIte, zq_ite, zq_itel, Int32.le_refl]
    exact hQ I' _ hI
  | succ r ih =>
    intro k I' v8 hk hI
    have hlt : (nI c ≤ nI k) = False := eq_false (nI_ge (by omega) (by omega))
    have es : nI c - 1 - nI k = nI r := by rw [show (1 : Int32) = nI 1 from rfl, pk_sub (by omega), pk_sub (by omega), show c - 1 - k = r by omega]
    have z1 : zin (nI (40 * a + t1 + r)) 240 = true := zin_ok (by omega) (by decide)
    have c1 : (nI (40 * a + t1 + r)).toNatClampNeg = 40 * a + t1 + r := nI_clamp (by omega)
    have z2 : zin (nI (40 * a + t2 + r)) 240 = true := zin_ok (by omega) (by decide)
    have c2 : (nI (40 * a + t2 + r)).toNatClampNeg = 40 * a + t2 + r := nI_clamp (by omega)
    simp only [e133_113, e133_115, e133_117, e133_120, e133_122, e133_125, e133_127, e133_128, e133_129, e133_131, e133_132, e133_135, e133_137, e133_137a, e133_139, e133_140, e133_143, e133_145, e133_146, e133_147, e133_149, e133_150, e133_152, e133_153, e133_154, e133_157, e133_159, e133_160, e133_161, e133_162, e133_163, e133_165, e133_166, e133_167, zpush_some, zpush_none, true_or, or_true, true_and, and_true, ↓reduceIte, zq_ite, zq_itel, hlt, zz_1, es, zo_62, zr_62_1, zn_64, zw_64, zl_64, m3, z1, c1, z2, c2]
    simp only [e133_168, e133_168a, e133_171, nI_1]
    refine ih (k + 1) _ _ (by omega) ⟨fun k' j g => by rw [zup_ne g]; exact hI.1 k' j g, fun x => ?_⟩
    have er : I' 64 (40 * a + t1 + r) = I 64 (40 * a + t1 + r) := by
      rw [hI.2, if_neg (by omega)]
    by_cases e : x = 40 * a + t2 + r
    · subst e
      rw [zup_eq, er, if_pos (by omega), show 40 * a + t1 + (40 * a + t2 + r - (40 * a + t2)) = 40 * a + t1 + r by omega]
    · rw [zup_nj e, hI.2]
      by_cases g : 40 * a + t2 + (r + 1) ≤ x ∧ x < 40 * a + t2 + c
      · rw [if_pos g, if_pos (by omega)]
      · rw [if_neg g, if_neg (by omega)]
theorem t_M_copy {t1 t2 qa qb : Nat} (ha : a < 6) (hb : b < 6) (ma : I 63 a = nI qa) (mb : I 63 b = nI qb) (ka : qa ≤ 40) (kb : qb ≤ 40) (h1 : t1 + c ≤ qa) (h2 : t2 + c ≤ qb) (hQ : ∀ I', cpd I (40 * a + t1) (40 * b + t2) (40 * b + t2) (40 * b + t2 + c) I' → Q (some (.int 1)) I' L) : zV n (d + 1) 133 0 [.ref 62, .int (nI a), .int (nI t1), .int (nI b), .int (nI t2), .int (nI c), .null, .null, .null] [] I L Q := by
  have a1 : (nI a < 0) = False := eq_false (nI_pos (by omega))
  have a2 : ((5 : Int32) < nI a) = False := (nI_ltN (a := 5) (by decide) (by omega)).trans (eq_false (by omega))
  have b1 : (nI b < 0) = False := eq_false (nI_pos (by omega))
  have b2 : ((5 : Int32) < nI b) = False := (nI_ltN (a := 5) (by decide) (by omega)).trans (eq_false (by omega))
  have za : zin (nI a) 6 = true := zin_ok ha (by decide)
  have ca : (nI a).toNatClampNeg = a := nI_clamp (by omega)
  have zb' : zin (nI b) 6 = true := zin_ok hb (by decide)
  have cb' : (nI b).toNatClampNeg = b := nI_clamp (by omega)
  have c0 := h0q (show c < 2 ^ 31 by omega)
  have qa0 : (nI qa < 0) = False := eq_false (nI_pos (by omega))
  have qb0 := h0q (show qb < 2 ^ 31 by omega)
  have P1 := fun n d Q => s_M_part (n := n) (d := d) (I := I) (L := L) (Q := Q) (q := qa) (t := t1) (c := c) (by omega) (by omega) (by omega)
  have P2 := fun n d Q => s_M_part (n := n) (d := d) (I := I) (L := L) (Q := Q) (q := qb) (t := t2) (c := c) (by omega) (by omega) (by omega)
  rw [if_pos h1] at P1
  rw [if_pos h2] at P2
  have eab : (nI a = nI b) = (a = b) := nI_eqN (by omega) (by omega)
  have et : (nI t2 ≤ nI t1) = (t2 ≤ t1) := nI_leN (by omega) (by omega)
  by_cases g : a = b
  · have eab := eab.trans (eq_true g)
    by_cases g2 : t2 ≤ t1
    · have et := et.trans (eq_true g2)
      simp only [e133_0, e133_1, e133_2, e133_3, e133_6, e133_9, e133_10, e133_11, e133_12, e133_15, e133_18, e133_19, e133_20, e133_22, e133_25, e133_26, e133_27, e133_30, e133_31, e133_32, e133_35, e133_36, e133_37, e133_40, e133_41, e133_44, e133_45, e133_46, e133_49, e133_50, e133_51, e133_54, e133_55, e133_56, e133_58, e133_59, e133_62, e133_63, e133_64, e133_67, e133_70, e133_72, e133_74, e133_75, e133_78, e133_79, e133_80, e133_83, e133_86, e133_87, e133_88, e133_91, e133_92, e133_93, e133_94, e133_97, e133_99, e133_100, e133_103, e133_104, e133_107, e133_108, e133_110, e133_111, e133_111a, zpush_some, zpush_none, true_or, or_true, true_and, and_true, ↓reduceIte, zq_ite, zq_itel, s_M_in, a1, a2, b1, b2, zz_1, not_false_eq_true, not_true_eq_false, c0, zo_62, zr_62_0, zn_63, zl_63, za, ca, zb', cb', ma, mb, qa0, qb0, P1, P2, eab, et]
      refine l_M_cpd (I := I) ha hb (by omega) (by omega) (Or.inr g2) (fun I' v8 hI => ?_) c 0 I _ (by omega) ⟨fun _ _ _ => rfl, fun x => by rw [if_neg (by omega)]⟩
      simp only [e133_174, e133_175, zpush_some, zpush_none, true_or, or_true, true_and, and_true, ↓reduceIte, zq_ite, zq_itel]
      exact hQ I' hI
    · have et := et.trans (eq_false g2)
      simp only [e133_0, e133_1, e133_2, e133_3, e133_6, e133_9, e133_10, e133_11, e133_12, e133_15, e133_18, e133_19, e133_20, e133_22, e133_25, e133_26, e133_27, e133_30, e133_31, e133_32, e133_35, e133_36, e133_37, e133_40, e133_41, e133_44, e133_45, e133_46, e133_49, e133_50, e133_51, e133_54, e133_55, e133_56, e133_58, e133_59, e133_62, e133_63, e133_64, e133_67, e133_70, e133_72, e133_74, e133_75, e133_78, e133_79, e133_80, e133_83, e133_86, e133_87, e133_88, e133_91, e133_92, e133_93, e133_94, e133_97, e133_99, e133_100, e133_103, e133_104, e133_107, e133_108, e133_110, e133_111, e133_111a, zpush_some, zpush_none, true_or, or_true, true_and, and_true, ↓reduceIte, zq_ite, zq_itel, s_M_in, a1, a2, b1, b2, zz_1, not_false_eq_true, not_true_eq_false, c0, zo_62, zr_62_0, zn_63, zl_63, za, ca, zb', cb', ma, mb, qa0, qb0, P1, P2, eab, et]
      subst g
      refine l_M_cpu (I := I) ha (by omega) (by omega) (by omega) (fun I' v8 hI => ?_) c 0 I _ (by omega) ⟨fun _ _ _ => rfl, fun x => by rw [if_neg (by omega)]⟩
      simp only [e133_174, e133_175, zpush_some, zpush_none, true_or, or_true, true_and, and_true, ↓reduceIte, zq_ite, zq_itel]
      exact hQ I' hI
  · have eab := eab.trans (eq_false g)
    simp only [e133_0, e133_1, e133_2, e133_3, e133_6, e133_9, e133_10, e133_11, e133_12, e133_15, e133_18, e133_19, e133_20, e133_22, e133_25, e133_26, e133_27, e133_30, e133_31, e133_32, e133_35, e133_36, e133_37, e133_40, e133_41, e133_44, e133_45, e133_46, e133_49, e133_50, e133_51, e133_54, e133_55, e133_56, e133_58, e133_59, e133_62, e133_63, e133_64, e133_67, e133_70, e133_72, e133_74, e133_75, e133_78, e133_79, e133_80, e133_83, e133_86, e133_87, e133_88, e133_91, e133_92, e133_93, e133_94, e133_97, e133_99, e133_100, e133_103, e133_104, e133_107, e133_108, e133_110, e133_111, e133_111a, zpush_some, zpush_none, true_or, or_true, true_and, and_true, ↓reduceIte, zq_ite, zq_itel, s_M_in, a1, a2, b1, b2, zz_1, not_false_eq_true, not_true_eq_false, c0, zo_62, zr_62_0, zn_63, zl_63, za, ca, zb', cb', ma, mb, qa0, qb0, P1, P2, eab]
    refine l_M_cpd (I := I) ha hb (by omega) (by omega) (Or.inl g) (fun I' v8 hI => ?_) c 0 I _ (by omega) ⟨fun _ _ _ => rfl, fun x => by rw [if_neg (by omega)]⟩
    simp only [e133_174, e133_175, zpush_some, zpush_none, true_or, or_true, true_and, and_true, ↓reduceIte, zq_ite, zq_itel]
    exact hQ I' hI
theorem zcpy_in {f : zi} {k sp q dp N j : Nat} (h : dp ≤ j ∧ j < dp + N) : zcpy f k sp q dp N q j = f k (sp + (j - dp)) := if_pos ⟨rfl, h⟩
theorem zcpy_ne {f : zi} {k sp q dp N a j : Nat} (h : a ≠ q) : zcpy f k sp q dp N a j = f a j := if_neg (fun g => h g.1)
theorem zcpy_out {f : zi} {k sp q dp N j : Nat} (h : ¬ (dp ≤ j ∧ j < dp + N)) : zcpy f k sp q dp N q j = f q j := if_neg (fun g => h g.2)
theorem p_copy (h : Inv I L) (r i to j v : Int32) : zV n (d + 3) 18 0 [.ref 3, .int r, .int i, .int to, .int j, .int v] [] I L (fun v1 I1 L1 => zV n (d + 3) 133 0 [.ref 62, .int r, .int i, .int to, .int j, .int v, .null, .null, .null] [] I1 L1 (fun v2 I2 L2 => same v1 v2 ∧ Inv I2 L2)) := by
  rcases rng r 5 (by decide) (a := 6) (b := 5) rfl rfl with g1 | ⟨g1, g2, g3⟩ | ⟨a, ha, rfl, g1, g2, g3⟩
  · simp only [e18_0, e18_1, e18_4, e18_7, e18_8, e18_11, e18_14, e18_15, e18_16, e18_18, e18_21, e18_22, e18_23, e18_26, e18_27, e18_28, e18_31, e18_32, e18_33, e18_36, e18_39, e18_40, e18_43, e18_44, e18_45, e18_48, e18_51, e18_52, e18_53, e18_56, e18_57, e18_58, e18_61, e18_62, e18_63, e18_64, e18_66, e18_69, e18_72, e18_73, e18_76, e18_77, e18_78, e18_80, e18_82, e18_85, e18_88, e18_89, e18_90, e18_93, e18_94, e18_95, e18_98, e18_99, e18_100, e18_101, e18_104, e18_105, e18_106, e18_107, e18_109, e18_111, e18_114, e18_115, e133_0, e133_1, e133_2, e133_3, e133_6, e133_9, e133_10, e133_11, e133_12, e133_15, e133_18, e133_19, e133_20, e133_22, e133_25, e133_26, e133_27, e133_30, e133_31, e133_32, e133_35, e133_36, e133_37, e133_40, e133_41, e133_44, e133_45, e133_46, e133_49, e133_50, e133_51, e133_54, e133_55, e133_56, e133_58, e133_59, e133_62, e133_63, e133_64, e133_67, e133_70, e133_72, e133_74, e133_75, e133_78, e133_79, e133_80, e133_83, e133_86, e133_87, e133_88, e133_91, e133_92, e133_93, e133_94, e133_97, e133_99, e133_100, e133_103, e133_104, e133_107, e133_108, e133_110, e133_111, e133_111a, zpush_some, zpush_none, true_or, or_true, true_and, and_true, ↓reduceIte, zq_ite, zq_itel, s_X_isRow, s_M_in, g1]
    exact ⟨same_i, h⟩
  · simp only [e18_0, e18_1, e18_4, e18_7, e18_8, e18_11, e18_14, e18_15, e18_16, e18_18, e18_21, e18_22, e18_23, e18_26, e18_27, e18_28, e18_31, e18_32, e18_33, e18_36, e18_39, e18_40, e18_43, e18_44, e18_45, e18_48, e18_51, e18_52, e18_53, e18_56, e18_57, e18_58, e18_61, e18_62, e18_63, e18_64, e18_66, e18_69, e18_72, e18_73, e18_76, e18_77, e18_78, e18_80, e18_82, e18_85, e18_88, e18_89, e18_90, e18_93, e18_94, e18_95, e18_98, e18_99, e18_100, e18_101, e18_104, e18_105, e18_106, e18_107, e18_109, e18_111, e18_114, e18_115, e133_0, e133_1, e133_2, e133_3, e133_6, e133_9, e133_10, e133_11, e133_12, e133_15, e133_18, e133_19, e133_20, e133_22, e133_25, e133_26, e133_27, e133_30, e133_31, e133_32, e133_35, e133_36, e133_37, e133_40, e133_41, e133_44, e133_45, e133_46, e133_49, e133_50, e133_51, e133_54, e133_55, e133_56, e133_58, e133_59, e133_62, e133_63, e133_64, e133_67, e133_70, e133_72, e133_74, e133_75, e133_78, e133_79, e133_80, e133_83, e133_86, e133_87, e133_88, e133_91, e133_92, e133_93, e133_94, e133_97, e133_99, e133_100, e133_103, e133_104, e133_107, e133_108, e133_110, e133_111, e133_111a, zpush_some, zpush_none, true_or, or_true, true_and, and_true, ↓reduceIte, zq_ite, zq_itel, s_X_isRow, s_M_in, g1, g2, g3]
    exact ⟨same_i, h⟩
  · rcases rng to 5 (by decide) (a := 6) (b := 5) rfl rfl with f1 | ⟨f1, f2, f3⟩ | ⟨b, hb, rfl, f1, f2, f3⟩
    · simp only [e18_0, e18_1, e18_4, e18_7, e18_8, e18_11, e18_14, e18_15, e18_16, e18_18, e18_21, e18_22, e18_23, e18_26, e18_27, e18_28, e18_31, e18_32, e18_33, e18_36, e18_39, e18_40, e18_43, e18_44, e18_45, e18_48, e18_51, e18_52, e18_53, e18_56, e18_57, e18_58, e18_61, e18_62, e18_63, e18_64, e18_66, e18_69, e18_72, e18_73, e18_76, e18_77, e18_78, e18_80, e18_82, e18_85, e18_88, e18_89, e18_90, e18_93, e18_94, e18_95, e18_98, e18_99, e18_100, e18_101, e18_104, e18_105, e18_106, e18_107, e18_109, e18_111, e18_114, e18_115, e133_0, e133_1, e133_2, e133_3, e133_6, e133_9, e133_10, e133_11, e133_12, e133_15, e133_18, e133_19, e133_20, e133_22, e133_25, e133_26, e133_27, e133_30, e133_31, e133_32, e133_35, e133_36, e133_37, e133_40, e133_41, e133_44, e133_45, e133_46, e133_49, e133_50, e133_51, e133_54, e133_55, e133_56, e133_58, e133_59, e133_62, e133_63, e133_64, e133_67, e133_70, e133_72, e133_74, e133_75, e133_78, e133_79, e133_80, e133_83, e133_86, e133_87, e133_88, e133_91, e133_92, e133_93, e133_94, e133_97, e133_99, e133_100, e133_103, e133_104, e133_107, e133_108, e133_110, e133_111, e133_111a, zpush_some, zpush_none, true_or, or_true, true_and, and_true, ↓reduceIte, zq_ite, zq_itel, s_X_isRow, s_M_in, g1, g2, g3, f1, zz_1, not_true_eq_false]
      exact ⟨same_i, h⟩
    · simp only [e18_0, e18_1, e18_4, e18_7, e18_8, e18_11, e18_14, e18_15, e18_16, e18_18, e18_21, e18_22, e18_23, e18_26, e18_27, e18_28, e18_31, e18_32, e18_33, e18_36, e18_39, e18_40, e18_43, e18_44, e18_45, e18_48, e18_51, e18_52, e18_53, e18_56, e18_57, e18_58, e18_61, e18_62, e18_63, e18_64, e18_66, e18_69, e18_72, e18_73, e18_76, e18_77, e18_78, e18_80, e18_82, e18_85, e18_88, e18_89, e18_90, e18_93, e18_94, e18_95, e18_98, e18_99, e18_100, e18_101, e18_104, e18_105, e18_106, e18_107, e18_109, e18_111, e18_114, e18_115, e133_0, e133_1, e133_2, e133_3, e133_6, e133_9, e133_10, e133_11, e133_12, e133_15, e133_18, e133_19, e133_20, e133_22, e133_25, e133_26, e133_27, e133_30, e133_31, e133_32, e133_35, e133_36, e133_37, e133_40, e133_41, e133_44, e133_45, e133_46, e133_49, e133_50, e133_51, e133_54, e133_55, e133_56, e133_58, e133_59, e133_62, e133_63, e133_64, e133_67, e133_70, e133_72, e133_74, e133_75, e133_78, e133_79, e133_80, e133_83, e133_86, e133_87, e133_88, e133_91, e133_92, e133_93, e133_94, e133_97, e133_99, e133_100, e133_103, e133_104, e133_107, e133_108, e133_110, e133_111, e133_111a, zpush_some, zpush_none, true_or, or_true, true_and, and_true, ↓reduceIte, zq_ite, zq_itel, s_X_isRow, s_M_in, g1, g2, g3, f1, f2, f3, zz_1, not_true_eq_false]
      exact ⟨same_i, h⟩
    · by_cases hv : 0 ≤ v
      · have hv' := eq_true hv
        obtain ⟨c, hc, rfl⟩ := nI_of (x := v) (Int32.not_lt.mpr hv)
        obtain ⟨z0, hz⟩ := row_z a ha
        obtain ⟨y0, hy⟩ := row_z b hb
        have za : zin (nI a) 6 = true := zin_ok ha (by decide)
        have ca : (nI a).toNatClampNeg = a := nI_clamp (by omega)
        have zb' : zin (nI b) 6 = true := zin_ok hb (by decide)
        have cb' : (nI b).toNatClampNeg = b := nI_clamp (by omega)
        obtain ⟨hA, hR, hT, hC⟩ := id h
        obtain ⟨e1, e2⟩ := hR a ha
        obtain ⟨d1, d2⟩ := hR b hb
        have o63 : ∀ f j, fX I f 63 j = I 63 j := fun f j => fX_o (by omega)
        by_cases hma : I 63 a = -1
        · have m1 : ((-1 : Int32) < 0) = True := eq_true (by decide)
          simp only [e18_0, e18_1, e18_4, e18_7, e18_8, e18_11, e18_14, e18_15, e18_16, e18_18, e18_21, e18_22, e18_23, e18_26, e18_27, e18_28, e18_31, e18_32, e18_33, e18_36, e18_39, e18_40, e18_43, e18_44, e18_45, e18_48, e18_51, e18_52, e18_53, e18_56, e18_57, e18_58, e18_61, e18_62, e18_63, e18_64, e18_66, e18_69, e18_72, e18_73, e18_76, e18_77, e18_78, e18_80, e18_82, e18_85, e18_88, e18_89, e18_90, e18_93, e18_94, e18_95, e18_98, e18_99, e18_100, e18_101, e18_104, e18_105, e18_106, e18_107, e18_109, e18_111, e18_114, e18_115, e133_0, e133_1, e133_2, e133_3, e133_6, e133_9, e133_10, e133_11, e133_12, e133_15, e133_18, e133_19, e133_20, e133_22, e133_25, e133_26, e133_27, e133_30, e133_31, e133_32, e133_35, e133_36, e133_37, e133_40, e133_41, e133_44, e133_45, e133_46, e133_49, e133_50, e133_51, e133_54, e133_55, e133_56, e133_58, e133_59, e133_62, e133_63, e133_64, e133_67, e133_70, e133_72, e133_74, e133_75, e133_78, e133_79, e133_80, e133_83, e133_86, e133_87, e133_88, e133_91, e133_92, e133_93, e133_94, e133_97, e133_99, e133_100, e133_103, e133_104, e133_107, e133_108, e133_110, e133_111, e133_111a, zpush_some, zpush_none, true_or, or_true, true_and, and_true, ↓reduceIte, zq_ite, zq_itel, s_X_isRow, s_M_in, g1, g2, g3, f1, f2, f3, zz_1, not_false_eq_true, hv', zo_3, zr_3_0, zn_4, zl_4, za, ca, z0, hz.1, s_S_isMissing hz, e1.trans hma, h0m, s_X_found1, zo_62, zr_62_0, zn_63, zl_63, o63, hma, m1, s_M_finds1]
          exact ⟨same_i, inv_find (by decide) (by decide) h⟩
        · obtain ⟨qa, qa1, qa2, qa3⟩ := e2.resolve_left hma
          have qa0 := h0q (show qa < 2 ^ 31 by omega)
          have qa0' : (nI qa < 0) = False := eq_false (nI_pos (by omega))
          by_cases hmb : I 63 b = -1
          · simp only [e18_0, e18_1, e18_4, e18_7, e18_8, e18_11, e18_14, e18_15, e18_16, e18_18, e18_21, e18_22, e18_23, e18_26, e18_27, e18_28, e18_31, e18_32, e18_33, e18_36, e18_39, e18_40, e18_43, e18_44, e18_45, e18_48, e18_51, e18_52, e18_53, e18_56, e18_57, e18_58, e18_61, e18_62, e18_63, e18_64, e18_66, e18_69, e18_72, e18_73, e18_76, e18_77, e18_78, e18_80, e18_82, e18_85, e18_88, e18_89, e18_90, e18_93, e18_94, e18_95, e18_98, e18_99, e18_100, e18_101, e18_104, e18_105, e18_106, e18_107, e18_109, e18_111, e18_114, e18_115, e133_0, e133_1, e133_2, e133_3, e133_6, e133_9, e133_10, e133_11, e133_12, e133_15, e133_18, e133_19, e133_20, e133_22, e133_25, e133_26, e133_27, e133_30, e133_31, e133_32, e133_35, e133_36, e133_37, e133_40, e133_41, e133_44, e133_45, e133_46, e133_49, e133_50, e133_51, e133_54, e133_55, e133_56, e133_58, e133_59, e133_62, e133_63, e133_64, e133_67, e133_70, e133_72, e133_74, e133_75, e133_78, e133_79, e133_80, e133_83, e133_86, e133_87, e133_88, e133_91, e133_92, e133_93, e133_94, e133_97, e133_99, e133_100, e133_103, e133_104, e133_107, e133_108, e133_110, e133_111, e133_111a, zpush_some, zpush_none, true_or, or_true, true_and, and_true, ↓reduceIte, zq_ite, zq_itel, s_X_isRow, s_M_in, g1, g2, g3, f1, f2, f3, zz_1, not_false_eq_true, not_true_eq_false, hv', zo_3, zr_3_0, zn_4, zl_4, za, ca, zb', cb', z0, y0, hz.1, hy.1, s_S_isMissing hz, s_S_isMissing hy, e1.trans qa2, d1.trans hmb, qa0, qa0', h0m, s_X_found1, zo_62, zr_62_0, zn_63, zl_63, o63, qa2, hmb, s_M_finds1]
            exact ⟨same_i, inv_find (by decide) (by decide) h⟩
          · obtain ⟨qb, qb1, qb2, qb3⟩ := d2.resolve_left hmb
            have qb0 := h0q (show qb < 2 ^ 31 by omega)
            by_cases k0 : i < 0
            · have k1 := eq_true k0
              simp only [e18_0, e18_1, e18_4, e18_7, e18_8, e18_11, e18_14, e18_15, e18_16, e18_18, e18_21, e18_22, e18_23, e18_26, e18_27, e18_28, e18_31, e18_32, e18_33, e18_36, e18_39, e18_40, e18_43, e18_44, e18_45, e18_48, e18_51, e18_52, e18_53, e18_56, e18_57, e18_58, e18_61, e18_62, e18_63, e18_64, e18_66, e18_69, e18_72, e18_73, e18_76, e18_77, e18_78, e18_80, e18_82, e18_85, e18_88, e18_89, e18_90, e18_93, e18_94, e18_95, e18_98, e18_99, e18_100, e18_101, e18_104, e18_105, e18_106, e18_107, e18_109, e18_111, e18_114, e18_115, e133_0, e133_1, e133_2, e133_3, e133_6, e133_9, e133_10, e133_11, e133_12, e133_15, e133_18, e133_19, e133_20, e133_22, e133_25, e133_26, e133_27, e133_30, e133_31, e133_32, e133_35, e133_36, e133_37, e133_40, e133_41, e133_44, e133_45, e133_46, e133_49, e133_50, e133_51, e133_54, e133_55, e133_56, e133_58, e133_59, e133_62, e133_63, e133_64, e133_67, e133_70, e133_72, e133_74, e133_75, e133_78, e133_79, e133_80, e133_83, e133_86, e133_87, e133_88, e133_91, e133_92, e133_93, e133_94, e133_97, e133_99, e133_100, e133_103, e133_104, e133_107, e133_108, e133_110, e133_111, e133_111a, zpush_some, zpush_none, true_or, or_true, true_and, and_true, ↓reduceIte, zq_ite, zq_itel, s_X_isRow, s_M_in, g1, g2, g3, f1, f2, f3, zz_1, not_false_eq_true, not_true_eq_false, hv', zo_3, zr_3_0, zn_4, zl_4, za, ca, zb', cb', z0, y0, hz.1, hy.1, s_S_isMissing hz, s_S_isMissing hy, e1.trans qa2, d1.trans qb2, qa0, qa0', qb0, s_S_many_n hz k1, s_M_part_n k1, s_X_found2, zo_62, zr_62_0, zn_63, zl_63, o63, qa2, qb2, s_M_finds2]
              exact ⟨same_i, inv_find (by decide) (by decide) h⟩
            · obtain ⟨t1, ht1, rfl⟩ := nI_of k0
              have X1 := fun n d Q => s_S_many (n := n) (d := d) (I := I) (L := L) (Q := Q) hz (e1.trans qa2) (show qa < 2 ^ 31 by omega) ht1 hc
              have P1 := fun n d I L Q => s_M_part (n := n) (d := d) (I := I) (L := L) (Q := Q) (show qa < 2 ^ 31 by omega) ht1 hc
              by_cases w1 : t1 + c ≤ qa
              · rw [if_pos w1] at X1 P1
                by_cases k2 : j < 0
                · have k3 := eq_true k2
                  simp only [e18_0, e18_1, e18_4, e18_7, e18_8, e18_11, e18_14, e18_15, e18_16, e18_18, e18_21, e18_22, e18_23, e18_26, e18_27, e18_28, e18_31, e18_32, e18_33, e18_36, e18_39, e18_40, e18_43, e18_44, e18_45, e18_48, e18_51, e18_52, e18_53, e18_56, e18_57, e18_58, e18_61, e18_62, e18_63, e18_64, e18_66, e18_69, e18_72, e18_73, e18_76, e18_77, e18_78, e18_80, e18_82, e18_85, e18_88, e18_89, e18_90, e18_93, e18_94, e18_95, e18_98, e18_99, e18_100, e18_101, e18_104, e18_105, e18_106, e18_107, e18_109, e18_111, e18_114, e18_115, e133_0, e133_1, e133_2, e133_3, e133_6, e133_9, e133_10, e133_11, e133_12, e133_15, e133_18, e133_19, e133_20, e133_22, e133_25, e133_26, e133_27, e133_30, e133_31, e133_32, e133_35, e133_36, e133_37, e133_40, e133_41, e133_44, e133_45, e133_46, e133_49, e133_50, e133_51, e133_54, e133_55, e133_56, e133_58, e133_59, e133_62, e133_63, e133_64, e133_67, e133_70, e133_72, e133_74, e133_75, e133_78, e133_79, e133_80, e133_83, e133_86, e133_87, e133_88, e133_91, e133_92, e133_93, e133_94, e133_97, e133_99, e133_100, e133_103, e133_104, e133_107, e133_108, e133_110, e133_111, e133_111a, zpush_some, zpush_none, true_or, or_true, true_and, and_true, ↓reduceIte, zq_ite, zq_itel, s_X_isRow, s_M_in, g1, g2, g3, f1, f2, f3, zz_1, not_false_eq_true, not_true_eq_false, hv', zo_3, zr_3_0, zn_4, zl_4, za, ca, zb', cb', z0, y0, hz.1, hy.1, s_S_isMissing hz, s_S_isMissing hy, e1.trans qa2, d1.trans qb2, qa0, qa0', qb0, X1, P1, s_S_many_n hy k3, s_M_part_n k3, s_X_found2, zo_62, zr_62_0, zn_63, zl_63, o63, qa2, qb2, s_M_finds2]
                  exact ⟨same_i, inv_find (by decide) (by decide) h⟩
                · obtain ⟨t2, ht2, rfl⟩ := nI_of k2
                  have X2 := fun n d Q => s_S_many (n := n) (d := d) (I := I) (L := L) (Q := Q) hy (d1.trans qb2) (show qb < 2 ^ 31 by omega) ht2 hc
                  have P2 := fun n d I L Q => s_M_part (n := n) (d := d) (I := I) (L := L) (Q := Q) (show qb < 2 ^ 31 by omega) ht2 hc
                  by_cases w2 : t2 + c ≤ qb
                  · rw [if_pos w2] at X2 P2
                    have n1 : (nI t1).toNatClampNeg = t1 := nI_clamp (by omega)
                    have n2 : (nI t2).toNatClampNeg = t2 := nI_clamp (by omega)
                    have n3 : (nI c).toNatClampNeg = c := nI_clamp (by omega)
                    have cnd : (¬ nI t1 < 0 ∧ ¬ nI t2 < 0 ∧ ¬ nI c < 0 ∧ t1 + c ≤ 40 ∧ t2 + c ≤ 40) = True := eq_true ⟨nI_pos (by omega), nI_pos (by omega), nI_pos (by omega), by omega, by omega⟩
                    simp only [e18_0, e18_1, e18_4, e18_7, e18_8, e18_11, e18_14, e18_15, e18_16, e18_18, e18_21, e18_22, e18_23, e18_26, e18_27, e18_28, e18_31, e18_32, e18_33, e18_36, e18_39, e18_40, e18_43, e18_44, e18_45, e18_48, e18_51, e18_52, e18_53, e18_56, e18_57, e18_58, e18_61, e18_62, e18_63, e18_64, e18_66, e18_69, e18_72, e18_73, e18_76, e18_77, e18_78, e18_80, e18_82, e18_85, e18_88, e18_89, e18_90, e18_93, e18_94, e18_95, e18_98, e18_99, e18_100, e18_101, e18_104, e18_105, e18_106, e18_107, e18_109, e18_111, e18_114, e18_115, e20_0, e20_1, e20_2, e20_4, e20_7, e20_10, e20_11, e20_12, e20_14, e20_17, e20_20, e20_21, e20_24, e20_25, e20_26, e20_29, e20_30, e20_32, e20_35, zpush_some, zpush_none, true_or, or_true, true_and, and_true, ↓reduceIte, zq_ite, zq_itel, s_X_isRow, s_M_in, g1, g2, g3, f1, f2, f3, zz_1, not_false_eq_true, not_true_eq_false, hv', zo_3, zr_3_0, zn_4, zl_4, za, ca, zb', cb', z0, y0, hz.1, hy.1, s_S_isMissing hz, s_S_isMissing hy, e1.trans qa2, d1.trans qb2, qa0, qa0', qb0, X1, X2, hz.2.1, hz.2.2.1, hz.2.2.2.1, hz.2.2.2.2, hy.2.1, hy.2.2.1, hy.2.2.2.1, hy.2.2.2.2, n1, n2, n3, cnd]
                    have k63 : ∀ x, zcpy I (36 + 2 * a + 1) t1 (36 + 2 * b + 1) t2 c 63 x = I 63 x := fun x => zcpy_ne (by omega)
                    refine t_M_copy (a := a) (b := b) (qa := qa) (qb := qb) ha hb ((k63 a).trans qa2) ((k63 b).trans qb2) qa1 qb1 w1 w2 (fun I2 hI2 => ⟨same_i, ?_⟩)
                    obtain ⟨y1, y2⟩ := hI2
                    have k64 : ∀ x, zcpy I (36 + 2 * a + 1) t1 (36 + 2 * b + 1) t2 c 64 x = I 64 x := fun x => zcpy_ne (by omega)
                    have hI : ∀ k x, k ≠ 64 → k ≠ 36 + 2 * b + 1 → I2 k x = I k x := fun k x q1 q2 => by rw [y1 k x q1, zcpy_ne q2]
                    refine inv_row h (fun r hr => ?_) ?_ (fun k x q1 q2 q3 q4 q5 => hI k x q3 (by omega))
                    · obtain ⟨b1, b2⟩ := hR r hr
                      rw [hI _ _ (by omega) (by omega), hI 63 _ (by decide) (by omega)]
                      refine ⟨b1, ?_⟩
                      rcases b2 with b2 | ⟨q', r1, r2, r3⟩
                      · exact Or.inl b2
                      · refine Or.inr ⟨q', r1, r2, fun x hx => ?_⟩
                        rw [y2, k64, k64]
                        by_cases er : r = b
                        · subst er
                          have eq : q' = qb := by rw [r2] at qb2; exact (nI_eq (by omega) (by omega)).mp qb2
                          rw [show 36 + 1 + 2 * r = 36 + 2 * r + 1 by omega, y1 _ _ (by omega)]
                          by_cases ex : t2 ≤ x ∧ x < t2 + c
                          · rw [zcpy_in ex, if_pos (by omega), show 36 + 2 * a + 1 = 36 + 1 + 2 * a by omega, qa3 _ (by omega), show 40 * a + t1 + (40 * r + x - (40 * r + t2)) = 40 * a + (t1 + (x - t2)) by omega]
                          · rw [zcpy_out ex, if_neg (by omega), show 36 + 2 * r + 1 = 36 + 1 + 2 * r by omega]
                            exact r3 x hx
                        · rw [hI _ _ (by omega) (by omega), if_neg (by omega)]
                          exact r3 x hx
                    · rw [hI _ _ (by decide) (by omega), hI _ _ (by decide) (by omega)]
                      exact hA.2.2.1
                  · rw [if_neg w2] at X2 P2
                    simp only [e18_0, e18_1, e18_4, e18_7, e18_8, e18_11, e18_14, e18_15, e18_16, e18_18, e18_21, e18_22, e18_23, e18_26, e18_27, e18_28, e18_31, e18_32, e18_33, e18_36, e18_39, e18_40, e18_43, e18_44, e18_45, e18_48, e18_51, e18_52, e18_53, e18_56, e18_57, e18_58, e18_61, e18_62, e18_63, e18_64, e18_66, e18_69, e18_72, e18_73, e18_76, e18_77, e18_78, e18_80, e18_82, e18_85, e18_88, e18_89, e18_90, e18_93, e18_94, e18_95, e18_98, e18_99, e18_100, e18_101, e18_104, e18_105, e18_106, e18_107, e18_109, e18_111, e18_114, e18_115, e133_0, e133_1, e133_2, e133_3, e133_6, e133_9, e133_10, e133_11, e133_12, e133_15, e133_18, e133_19, e133_20, e133_22, e133_25, e133_26, e133_27, e133_30, e133_31, e133_32, e133_35, e133_36, e133_37, e133_40, e133_41, e133_44, e133_45, e133_46, e133_49, e133_50, e133_51, e133_54, e133_55, e133_56, e133_58, e133_59, e133_62, e133_63, e133_64, e133_67, e133_70, e133_72, e133_74, e133_75, e133_78, e133_79, e133_80, e133_83, e133_86, e133_87, e133_88, e133_91, e133_92, e133_93, e133_94, e133_97, e133_99, e133_100, e133_103, e133_104, e133_107, e133_108, e133_110, e133_111, e133_111a, zpush_some, zpush_none, true_or, or_true, true_and, and_true, ↓reduceIte, zq_ite, zq_itel, s_X_isRow, s_M_in, g1, g2, g3, f1, f2, f3, zz_1, not_false_eq_true, not_true_eq_false, hv', zo_3, zr_3_0, zn_4, zl_4, za, ca, zb', cb', z0, y0, hz.1, hy.1, s_S_isMissing hz, s_S_isMissing hy, e1.trans qa2, d1.trans qb2, qa0, qa0', qb0, X1, P1, X2, P2, s_X_found2, zo_62, zr_62_0, zn_63, zl_63, o63, qa2, qb2, s_M_finds2]
                    exact ⟨same_i, inv_find (by decide) (by decide) h⟩
              · rw [if_neg w1] at X1 P1
                simp only [e18_0, e18_1, e18_4, e18_7, e18_8, e18_11, e18_14, e18_15, e18_16, e18_18, e18_21, e18_22, e18_23, e18_26, e18_27, e18_28, e18_31, e18_32, e18_33, e18_36, e18_39, e18_40, e18_43, e18_44, e18_45, e18_48, e18_51, e18_52, e18_53, e18_56, e18_57, e18_58, e18_61, e18_62, e18_63, e18_64, e18_66, e18_69, e18_72, e18_73, e18_76, e18_77, e18_78, e18_80, e18_82, e18_85, e18_88, e18_89, e18_90, e18_93, e18_94, e18_95, e18_98, e18_99, e18_100, e18_101, e18_104, e18_105, e18_106, e18_107, e18_109, e18_111, e18_114, e18_115, e133_0, e133_1, e133_2, e133_3, e133_6, e133_9, e133_10, e133_11, e133_12, e133_15, e133_18, e133_19, e133_20, e133_22, e133_25, e133_26, e133_27, e133_30, e133_31, e133_32, e133_35, e133_36, e133_37, e133_40, e133_41, e133_44, e133_45, e133_46, e133_49, e133_50, e133_51, e133_54, e133_55, e133_56, e133_58, e133_59, e133_62, e133_63, e133_64, e133_67, e133_70, e133_72, e133_74, e133_75, e133_78, e133_79, e133_80, e133_83, e133_86, e133_87, e133_88, e133_91, e133_92, e133_93, e133_94, e133_97, e133_99, e133_100, e133_103, e133_104, e133_107, e133_108, e133_110, e133_111, e133_111a, zpush_some, zpush_none, true_or, or_true, true_and, and_true, ↓reduceIte, zq_ite, zq_itel, s_X_isRow, s_M_in, g1, g2, g3, f1, f2, f3, zz_1, not_false_eq_true, not_true_eq_false, hv', zo_3, zr_3_0, zn_4, zl_4, za, ca, zb', cb', z0, y0, hz.1, hy.1, s_S_isMissing hz, s_S_isMissing hy, e1.trans qa2, d1.trans qb2, qa0, qa0', qb0, X1, P1, s_X_found2, zo_62, zr_62_0, zn_63, zl_63, o63, qa2, qb2, s_M_finds2]
                exact ⟨same_i, inv_find (by decide) (by decide) h⟩
      · have hv' := eq_false hv
        simp only [e18_0, e18_1, e18_4, e18_7, e18_8, e18_11, e18_14, e18_15, e18_16, e18_18, e18_21, e18_22, e18_23, e18_26, e18_27, e18_28, e18_31, e18_32, e18_33, e18_36, e18_39, e18_40, e18_43, e18_44, e18_45, e18_48, e18_51, e18_52, e18_53, e18_56, e18_57, e18_58, e18_61, e18_62, e18_63, e18_64, e18_66, e18_69, e18_72, e18_73, e18_76, e18_77, e18_78, e18_80, e18_82, e18_85, e18_88, e18_89, e18_90, e18_93, e18_94, e18_95, e18_98, e18_99, e18_100, e18_101, e18_104, e18_105, e18_106, e18_107, e18_109, e18_111, e18_114, e18_115, e133_0, e133_1, e133_2, e133_3, e133_6, e133_9, e133_10, e133_11, e133_12, e133_15, e133_18, e133_19, e133_20, e133_22, e133_25, e133_26, e133_27, e133_30, e133_31, e133_32, e133_35, e133_36, e133_37, e133_40, e133_41, e133_44, e133_45, e133_46, e133_49, e133_50, e133_51, e133_54, e133_55, e133_56, e133_58, e133_59, e133_62, e133_63, e133_64, e133_67, e133_70, e133_72, e133_74, e133_75, e133_78, e133_79, e133_80, e133_83, e133_86, e133_87, e133_88, e133_91, e133_92, e133_93, e133_94, e133_97, e133_99, e133_100, e133_103, e133_104, e133_107, e133_108, e133_110, e133_111, e133_111a, zpush_some, zpush_none, true_or, or_true, true_and, and_true, ↓reduceIte, zq_ite, zq_itel, s_X_isRow, s_M_in, g1, g2, g3, f1, f2, f3, zz_1, not_false_eq_true, hv', zo_3, zo_62, s_X_found5, s_M_finds5]
        exact ⟨same_i, inv_find (by decide) (by decide) h⟩
end
