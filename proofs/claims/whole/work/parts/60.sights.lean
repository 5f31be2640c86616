/-! SIGHTS -/
def acr (f : Nat → Int32) : Nat → Nat → Bool
  | 0, _ => true
  | r + 1, k => if f k < 0 then false else if 16 ≤ f k then false else acr f r (k + 1)
theorem acr_c {f : Nat → Int32} : ∀ {r k : Nat}, acr f r k = true → ∀ j, k ≤ j → j < k + r → ∃ c, c < 16 ∧ f j = nI c
  | 0, k, _, j, h1, h2 => absurd h2 (by omega)
  | r + 1, k, h, j, h1, h2 => by
    rw [acr] at h
    by_cases g1 : f k < 0
    · rw [if_pos g1] at h; cases h
    · rw [if_neg g1] at h
      by_cases g2 : 16 ≤ f k
      · rw [if_pos g2] at h; cases h
      · rw [if_neg g2] at h
        by_cases e : j = k
        · subst e
          rcases pk_ix (f j) (n := 16) (by decide) with q | q | ⟨c, q1, q2⟩
          · exact absurd q g1
          · exact absurd q g2
          · exact ⟨c, q1, q2⟩
        · exact acr_c h j (by omega) (by omega)
theorem acr_congr {f g : Nat → Int32} : ∀ {r k : Nat}, (∀ j, k ≤ j → j < k + r → f j = g j) → acr f r k = acr g r k
  | 0, _, _ => rfl
  | r + 1, k, h => by rw [acr, acr, h k (by omega) (by omega), acr_congr (fun j a b => h j (by omega) (by omega))]
section
variable {n d : Nat} {I I' : zi} {L L' : zl} {Q : zq} {K K' : Nat → Nat} {s s' s0 : Cs} {k m q i a b l N p j : Nat} {f : Nat → Int32}
theorem l_X_rs (hz : Sz k 40) (hm : I k 1 = nI q) (hq : q ≤ 40) {v1 v2 : Value} : ∀ r i, i + r = q → (zV n (d + 2) 96 65 [.ref 3, v1, v2, .ref k, .int (nI i)] [] I L Q ↔ Q (some (.int (if acr (I (k + 1)) r i then 0 else -3))) (if acr (I (k + 1)) r i then I else fX I 3) L) := by
  intro r
  induction r with
  | zero =>
    intro i hi
    have e : i = q := by omega
    subst e
    simp only [e96_65, e96_67, e96_68, e96_71, e96_98, e96_99, zpush_some, zpush_none, true_or, or_true, true_and, and_true, ↓reduceIte, zq_ite, zq_itel, hz.1, hm, Int32.le_refl, acr]
  | succ r ih =>
    intro i hi
    have hlt : (nI q ≤ nI i) = False := eq_false (nI_ge (by omega) (by omega))
    have g0 : (nI i < 0) = False := eq_false (nI_pos (by omega))
    by_cases g1 : I (k + 1) i < 0
    · have e : acr (I (k + 1)) (r + 1) i = false := by rw [acr, if_pos g1]
      have g1' := eq_true g1
      simp only [e96_65, e96_67, e96_68, e96_71, e96_74, e96_75, e96_77, e96_80, e96_83, e96_86, e96_87, e96_88, e96_91, zpush_some, zpush_none, true_or, or_true, true_and, and_true, ↓reduceIte, zq_ite, zq_itel, zo_3, hz.1, hm, hlt, s_S_get_k hz hm (show i < 40 by omega) (by decide) g0 hlt, s_X_isCorner, g1', not_true_eq_false, s_X_found3, e, Bool.false_eq_true]
    · have g1' := eq_false g1
      by_cases g2 : 16 ≤ I (k + 1) i
      · have e : acr (I (k + 1)) (r + 1) i = false := by rw [acr, if_neg g1, if_pos g2]
        have g2' := eq_true g2
        simp only [e96_65, e96_67, e96_68, e96_71, e96_74, e96_75, e96_77, e96_80, e96_83, e96_86, e96_87, e96_88, e96_91, zpush_some, zpush_none, true_or, or_true, true_and, and_true, ↓reduceIte, zq_ite, zq_itel, zo_3, hz.1, hm, hlt, s_S_get_k hz hm (show i < 40 by omega) (by decide) g0 hlt, s_X_isCorner, g1', g2', not_true_eq_false, s_X_found3, e, Bool.false_eq_true]
      · have e : acr (I (k + 1)) (r + 1) i = acr (I (k + 1)) r (i + 1) := by rw [acr, if_neg g1, if_neg g2]
        have g2' := eq_false g2
        rw [e]
        simp only [e96_65, e96_67, e96_68, e96_71, e96_74, e96_75, e96_77, e96_80, e96_83, e96_86, e96_87, e96_88, e96_91, zpush_some, zpush_none, true_or, or_true, true_and, and_true, ↓reduceIte, zq_ite, zq_itel, hz.1, hm, hlt, s_S_get_k hz hm (show i < 40 by omega) (by decide) g0 hlt, s_X_isCorner, g1', g2', zz_1, not_false_eq_true]
        simp only [e96_92, e96_92a, e96_95, nI_1]
        exact ih (i + 1) (by omega)
theorem lt15 (x : Int32) : (15 < x) = (16 ≤ x) := by
  refine propext ?_
  rw [Int32.lt_iff_toInt_lt, Int32.le_iff_toInt_le]
  have e1 : (15 : Int32).toInt = 15 := rfl
  have e2 : (16 : Int32).toInt = 16 := rfl
  omega
theorem l_M_rs (hj : j < 6) (hm : I 63 j = nI q) (hq : q ≤ 40) {v1 : Value} : ∀ r i, i + r = q → (zV n (d + 2) 187 57 [.ref 62, v1, .int (nI j), .int (nI i)] [] I L Q ↔ Q (some (.int (if acr (fun i => I 64 (40 * j + i)) r i then 0 else -3))) (if acr (fun i => I 64 (40 * j + i)) r i then I else fM I 3) L) := by
  have zj : zin (nI j) 6 = true := zin_ok hj (by decide)
  have cj : (nI j).toNatClampNeg = j := nI_clamp (by omega)
  intro r
  induction r with
  | zero =>
    intro i hi
    have e : i = q := by omega
    subst e
    simp only [e187_57, e187_58, e187_59, e187_62, e187_63, e187_64, e187_99, e187_100, zpush_some, zpush_none, true_or, or_true, true_and, and_true, ↓reduceIte, zq_ite, zq_itel, zo_62, zr_62_0, zn_63, zl_63, zj, cj, hm, Int32.le_refl, acr]
  | succ r ih =>
    intro i hi
    have hlt : (nI q ≤ nI i) = False := eq_false (nI_ge (by omega) (by omega))
    have z1 : zin (nI (40 * j + i)) 240 = true := zin_ok (by omega) (by omega)
    have c1 : (nI (40 * j + i)).toNatClampNeg = 40 * j + i := nI_clamp (by omega)
    by_cases g1 : I 64 (40 * j + i) < 0
    · have e : acr (fun i => I 64 (40 * j + i)) (r + 1) i = false := by rw [acr, if_pos g1]
      have g1' := eq_true g1
      simp only [e187_57, e187_58, e187_59, e187_62, e187_63, e187_64, e187_67, e187_68, e187_71, e187_73, e187_74, e187_75, e187_76, e187_77, e187_78, e187_79, e187_81, e187_84, e187_87, e187_88, e187_89, e187_92, zpush_some, zpush_none, true_or, or_true, true_and, and_true, ↓reduceIte, zq_ite, zq_itel, zo_62, zr_62_0, zr_62_1, zn_63, zl_63, zn_64, zl_64, zj, cj, hm, hlt, m40, z1, c1, s_M_in, g1', not_true_eq_false, s_M_finds3, e, Bool.false_eq_true]
    · have g1' := eq_false g1
      by_cases g2 : 16 ≤ I 64 (40 * j + i)
      · have e : acr (fun i => I 64 (40 * j + i)) (r + 1) i = false := by rw [acr, if_neg g1, if_pos g2]
        have g2' := eq_true g2
        simp only [e187_57, e187_58, e187_59, e187_62, e187_63, e187_64, e187_67, e187_68, e187_71, e187_73, e187_74, e187_75, e187_76, e187_77, e187_78, e187_79, e187_81, e187_84, e187_87, e187_88, e187_89, e187_92, zpush_some, zpush_none, true_or, or_true, true_and, and_true, ↓reduceIte, zq_ite, zq_itel, zo_62, zr_62_0, zr_62_1, zn_63, zl_63, zn_64, zl_64, zj, cj, hm, hlt, m40, z1, c1, s_M_in, lt15, g1', g2', not_true_eq_false, s_M_finds3, e, Bool.false_eq_true]
      · have e : acr (fun i => I 64 (40 * j + i)) (r + 1) i = acr (fun i => I 64 (40 * j + i)) r (i + 1) := by rw [acr, if_neg g1, if_neg g2]
        have g2' := eq_false g2
        rw [e]
        simp only [e187_57, e187_58, e187_59, e187_62, e187_63, e187_64, e187_67, e187_68, e187_71, e187_73, e187_74, e187_75, e187_76, e187_77, e187_78, e187_79, e187_81, e187_84, e187_87, e187_88, e187_89, e187_92, zpush_some, zpush_none, true_or, or_true, true_and, and_true, ↓reduceIte, zq_ite, zq_itel, zo_62, zr_62_0, zr_62_1, zn_63, zl_63, zn_64, zl_64, zj, cj, hm, hlt, m40, z1, c1, s_M_in, lt15, g1', g2', zz_1, not_false_eq_true]
        simp only [e187_93, e187_96, nI_1]
        exact ih (i + 1) (by omega)
/-- refused alike, or a row of corners -/
theorem sights (h : Inv I L) (hX : XC I L 14 m K s) (hK : MK I m K) (hm : m ≤ 7) (i r : Int32) : (∃ v I1 I2, ¬ v = 0 ∧ Inv I2 L ∧ (∀ n d Q, zV n (d + 2) 96 0 [.ref 3, .int i, .int r, .null, .null] [] I L Q ↔ Q (some (.int v)) I1 L) ∧ ∀ n d Q, zV n (d + 2) 187 0 [.ref 62, .int i, .int r, .null] [] I1 L Q ↔ Q (some (.int v)) I2 L) ∨ ∃ p j q, p < m ∧ i = nI p ∧ j < 6 ∧ r = nI j ∧ I 63 j = nI q ∧ 1 ≤ q ∧ q ≤ 20 ∧ I (36 + 2 * j) 1 = nI q ∧ (∀ k, k < q → I (36 + 2 * j + 1) k = I 64 (40 * j + k)) ∧ (∀ n d Q, zV n (d + 2) 96 0 [.ref 3, .int i, .int r, .null, .null] [] I L Q ↔ Q (some (.int 0)) I L) ∧ ∀ n d Q I' L', I' 62 14 = nI m → (∀ a, I' 63 a = I 63 a) → (∀ a, I' 64 a = I 64 a) → (zV n (d + 2) 187 0 [.ref 62, .int i, .int r, .null] [] I' L' Q ↔ Q (some (.int 0)) I' L') := by
  have hz := Qa_z (k := 14) (Or.inr (Or.inl rfl))
  have nm1 : ¬ (-1 : Int32) = 0 := by decide
  have nm3 : ¬ (-3 : Int32) = 0 := by decide
  have hin : ∀ I' L' n d (Q : zq) (i : Int32), I' 62 14 = nI m → (zV n (d + 1) 147 0 [.ref 62, .int i] [] I' L' Q ↔ Q (some (.int (if i < 0 then 0 else if nI m ≤ i then 0 else 1))) I' L') := fun I' L' n d Q i e => by
    simp only [e147_0, e147_1, e147_2, e147_3, e147_6, e147_7, e147_8, e147_11, zpush_some, zpush_none, true_or, or_true, true_and, and_true, ↓reduceIte, zq_ite, zq_itel, zo_62, e, s_M_in, sub1_lt (show m < 2 ^ 30 by omega)]
    exact and_iff_right (by split; exact Or.inl rfl; split; exact Or.inl rfl; exact Or.inr rfl)
  rcases rngd i (show m < 2 ^ 31 by omega) with g1 | ⟨g1, g2⟩ | ⟨p, hp, rfl, g1, g2⟩
  · refine Or.inl ⟨-1, I, I, nm1, h, fun n d Q => ?_, fun n d Q => ?_⟩
    · simp only [e96_0, e96_1, e96_4, e96_5, e96_8, e96_11, e96_12, e96_15, e96_18, e96_19, e96_20, e96_21, e96_24, e96_25, e96_26, e96_27, e96_28, e96_31, e96_34, e96_35, e96_36, e96_39, e96_40, e96_41, e96_44, e96_47, e96_48, e96_51, e96_53, e96_56, e96_57, e96_58, e96_61, e96_62, e96_63, e96_63a, zpush_some, zpush_none, true_or, or_true, true_and, and_true, ↓reduceIte, zq_ite, zq_itel, zo_3, zr_3_5, zo_14, s_Q_hasMessage hz, XC_m hX, g1]
    · simp only [e187_0, e187_1, e187_2, e187_5, e187_8, e187_9, e187_10, e187_11, e187_14, e187_17, e187_18, e187_19, e187_20, e187_23, e187_24, e187_25, e187_28, e187_29, e187_30, e187_33, e187_34, e187_35, e187_38, e187_39, e187_40, e187_41, e187_43, e187_46, e187_49, e187_50, e187_51, e187_54, e187_55, e187_56, zpush_some, zpush_none, true_or, or_true, true_and, and_true, ↓reduceIte, zq_ite, zq_itel, zo_62, hin _ _ _ _ _ _ (MK_m hK), g1]
  · refine Or.inl ⟨-1, I, I, nm1, h, fun n d Q => ?_, fun n d Q => ?_⟩
    · simp only [e96_0, e96_1, e96_4, e96_5, e96_8, e96_11, e96_12, e96_15, e96_18, e96_19, e96_20, e96_21, e96_24, e96_25, e96_26, e96_27, e96_28, e96_31, e96_34, e96_35, e96_36, e96_39, e96_40, e96_41, e96_44, e96_47, e96_48, e96_51, e96_53, e96_56, e96_57, e96_58, e96_61, e96_62, e96_63, e96_63a, zpush_some, zpush_none, true_or, or_true, true_and, and_true, ↓reduceIte, zq_ite, zq_itel, zo_3, zr_3_5, zo_14, s_Q_hasMessage hz, XC_m hX, g1, g2]
    · simp only [e187_0, e187_1, e187_2, e187_5, e187_8, e187_9, e187_10, e187_11, e187_14, e187_17, e187_18, e187_19, e187_20, e187_23, e187_24, e187_25, e187_28, e187_29, e187_30, e187_33, e187_34, e187_35, e187_38, e187_39, e187_40, e187_41, e187_43, e187_46, e187_49, e187_50, e187_51, e187_54, e187_55, e187_56, zpush_some, zpush_none, true_or, or_true, true_and, and_true, ↓reduceIte, zq_ite, zq_itel, zo_62, hin _ _ _ _ _ _ (MK_m hK), g1, g2]
  · rcases rng r 5 (by decide) (a := 6) (b := 5) rfl rfl with h1 | ⟨h1, h2, h3⟩ | ⟨j, hj, rfl, h1, h2, h3⟩
    · refine Or.inl ⟨-1, I, I, nm1, h, fun n d Q => ?_, fun n d Q => ?_⟩
      · simp only [e96_0, e96_1, e96_4, e96_5, e96_8, e96_11, e96_12, e96_15, e96_18, e96_19, e96_20, e96_21, e96_24, e96_25, e96_26, e96_27, e96_28, e96_31, e96_34, e96_35, e96_36, e96_39, e96_40, e96_41, e96_44, e96_47, e96_48, e96_51, e96_53, e96_56, e96_57, e96_58, e96_61, e96_62, e96_63, e96_63a, zpush_some, zpush_none, true_or, or_true, true_and, and_true, ↓reduceIte, zq_ite, zq_itel, zo_3, zr_3_5, zo_14, s_Q_hasMessage hz, XC_m hX, g1, g2, zz_1, s_X_isRow, h1, not_true_eq_false]
      · simp only [e187_0, e187_1, e187_2, e187_5, e187_8, e187_9, e187_10, e187_11, e187_14, e187_17, e187_18, e187_19, e187_20, e187_23, e187_24, e187_25, e187_28, e187_29, e187_30, e187_33, e187_34, e187_35, e187_38, e187_39, e187_40, e187_41, e187_43, e187_46, e187_49, e187_50, e187_51, e187_54, e187_55, e187_56, zpush_some, zpush_none, true_or, or_true, true_and, and_true, ↓reduceIte, zq_ite, zq_itel, zo_62, hin _ _ _ _ _ _ (MK_m hK), g1, g2, zz_1, s_M_in, h1, not_true_eq_false]
    · refine Or.inl ⟨-1, I, I, nm1, h, fun n d Q => ?_, fun n d Q => ?_⟩
      · simp only [e96_0, e96_1, e96_4, e96_5, e96_8, e96_11, e96_12, e96_15, e96_18, e96_19, e96_20, e96_21, e96_24, e96_25, e96_26, e96_27, e96_28, e96_31, e96_34, e96_35, e96_36, e96_39, e96_40, e96_41, e96_44, e96_47, e96_48, e96_51, e96_53, e96_56, e96_57, e96_58, e96_61, e96_62, e96_63, e96_63a, zpush_some, zpush_none, true_or, or_true, true_and, and_true, ↓reduceIte, zq_ite, zq_itel, zo_3, zr_3_5, zo_14, s_Q_hasMessage hz, XC_m hX, g1, g2, zz_1, s_X_isRow, h1, h2, not_true_eq_false]
      · simp only [e187_0, e187_1, e187_2, e187_5, e187_8, e187_9, e187_10, e187_11, e187_14, e187_17, e187_18, e187_19, e187_20, e187_23, e187_24, e187_25, e187_28, e187_29, e187_30, e187_33, e187_34, e187_35, e187_38, e187_39, e187_40, e187_41, e187_43, e187_46, e187_49, e187_50, e187_51, e187_54, e187_55, e187_56, zpush_some, zpush_none, true_or, or_true, true_and, and_true, ↓reduceIte, zq_ite, zq_itel, zo_62, hin _ _ _ _ _ _ (MK_m hK), g1, g2, zz_1, s_M_in, h1, h3, not_true_eq_false]
    · obtain ⟨z0, hs⟩ := row_z j hj
      have zj : zin (nI j) 6 = true := zin_ok hj (by decide)
      have cj : (nI j).toNatClampNeg = j := nI_clamp (by omega)
      obtain ⟨e1, e2⟩ := h.2.1 j hj
      have o62 : ∀ f, fX I f 62 14 = nI m := fun f => by rw [fX_o (by omega)]; exact MK_m hK
      have o63 : ∀ f, fX I f 63 j = I 63 j := fun f => fX_o (by omega)
      by_cases hm1 : I 63 j = -1
      · refine Or.inl ⟨-3, fX I 1, fM (fX I 1) 1, nm3, inv_find (by decide) (by decide) h, fun n d Q => ?_, fun n d Q => ?_⟩
        · simp only [e96_0, e96_1, e96_4, e96_5, e96_8, e96_11, e96_12, e96_15, e96_18, e96_19, e96_20, e96_21, e96_24, e96_25, e96_26, e96_27, e96_28, e96_31, e96_34, e96_35, e96_36, e96_39, e96_40, e96_41, e96_44, e96_47, e96_48, e96_51, e96_53, e96_56, e96_57, e96_58, e96_61, e96_62, e96_63, e96_63a, zpush_some, zpush_none, true_or, or_true, true_and, and_true, ↓reduceIte, zq_ite, zq_itel, zo_3, zr_3_5, zo_14, s_Q_hasMessage hz, XC_m hX, g1, g2, zz_1, s_X_isRow, h1, h2, not_false_eq_true, zr_3_0, zn_4, zl_4, zj, cj, z0, hs.1, s_S_isMissing hs, e1.trans hm1, h0m, s_X_found1]
        · simp only [e187_0, e187_1, e187_2, e187_5, e187_8, e187_9, e187_10, e187_11, e187_14, e187_17, e187_18, e187_19, e187_20, e187_23, e187_24, e187_25, e187_28, e187_29, e187_30, e187_33, e187_34, e187_35, e187_38, e187_39, e187_40, e187_41, e187_43, e187_46, e187_49, e187_50, e187_51, e187_54, e187_55, e187_56, zpush_some, zpush_none, true_or, or_true, true_and, and_true, ↓reduceIte, zq_ite, zq_itel, zo_62, hin _ _ _ _ _ _ (o62 1), g1, g2, zz_1, s_M_in, h1, h3, not_false_eq_true, zr_62_0, zn_63, zl_63, zj, cj, o63, hm1, h0m, s_M_finds1]
      · obtain ⟨q, q1, q2, q3⟩ := e2.resolve_left hm1
        have hq0 := h0q (show q < 2 ^ 31 by omega)
        have z0' : (nI q = 0) = (q = 0) := nI_z (by omega)
        have q20 : (nI q ≤ 20) = (q ≤ 20) := nI_leN (b := 20) (by omega) (by decide)
        have q20' : ((20 : Int32) < nI q) = (20 < q) := nI_ltN (a := 20) (by decide) (by omega)
        have q11 : (nI q < 1) = (q < 1) := nI_ltN (b := 1) (by omega) (by decide)
        by_cases hq : q = 0
        · have z0' := z0'.trans (eq_true hq)
          have q11 := q11.trans (eq_true (show q < 1 by omega))
          refine Or.inl ⟨-3, fX I 5, fM (fX I 5) 5, nm3, inv_find (by decide) (by decide) h, fun n d Q => ?_, fun n d Q => ?_⟩
          · simp only [e96_0, e96_1, e96_4, e96_5, e96_8, e96_11, e96_12, e96_15, e96_18, e96_19, e96_20, e96_21, e96_24, e96_25, e96_26, e96_27, e96_28, e96_31, e96_34, e96_35, e96_36, e96_39, e96_40, e96_41, e96_44, e96_47, e96_48, e96_51, e96_53, e96_56, e96_57, e96_58, e96_61, e96_62, e96_63, e96_63a, zpush_some, zpush_none, true_or, or_true, true_and, and_true, ↓reduceIte, zq_ite, zq_itel, zo_3, zr_3_5, zo_14, s_Q_hasMessage hz, XC_m hX, g1, g2, zz_1, s_X_isRow, h1, h2, not_false_eq_true, zr_3_0, zn_4, zl_4, zj, cj, z0, hs.1, s_S_isMissing hs, e1.trans q2, hq0, z0', s_X_found5]
          · simp only [e187_0, e187_1, e187_2, e187_5, e187_8, e187_9, e187_10, e187_11, e187_14, e187_17, e187_18, e187_19, e187_20, e187_23, e187_24, e187_25, e187_28, e187_29, e187_30, e187_33, e187_34, e187_35, e187_38, e187_39, e187_40, e187_41, e187_43, e187_46, e187_49, e187_50, e187_51, e187_54, e187_55, e187_56, zpush_some, zpush_none, true_or, or_true, true_and, and_true, ↓reduceIte, zq_ite, zq_itel, zo_62, hin _ _ _ _ _ _ (o62 5), g1, g2, zz_1, s_M_in, h1, h3, not_false_eq_true, zr_62_0, zn_63, zl_63, zj, cj, o63, q2, hq0, q11, not_true_eq_false, s_M_finds5]
        · have z0' := z0'.trans (eq_false hq)
          have q11 := q11.trans (eq_false (show ¬ q < 1 by omega))
          by_cases hq2 : q ≤ 20
          · have q20 := q20.trans (eq_true hq2)
            have q20' := q20'.trans (eq_false (show ¬ 20 < q by omega))
            have q3' : ∀ k, k < q → I (36 + 2 * j + 1) k = I 64 (40 * j + k) := fun k hk => by rw [show 36 + 2 * j + 1 = 36 + 1 + 2 * j by omega]; exact q3 k hk
            have ea : acr (I (36 + 2 * j + 1)) q 0 = acr (fun i => I 64 (40 * j + i)) q 0 := acr_congr (fun k _ hk => q3' k (by omega))
            cases hac : acr (fun i => I 64 (40 * j + i)) q 0
            · refine Or.inl ⟨-3, fX I 3, fM (fX I 3) 3, nm3, inv_find (by decide) (by decide) h, fun n d Q => ?_, fun n d Q => ?_⟩
              · have R := l_X_rs (n := n) (d := d) (L := L) (Q := Q) (v1 := .int (nI p)) (v2 := .int (nI j)) hs (e1.trans q2) q1 q 0 (by omega)
                rw [ea, hac] at R
                simp only [e96_0, e96_1, e96_4, e96_5, e96_8, e96_11, e96_12, e96_15, e96_18, e96_19, e96_20, e96_21, e96_24, e96_25, e96_26, e96_27, e96_28, e96_31, e96_34, e96_35, e96_36, e96_39, e96_40, e96_41, e96_44, e96_47, e96_48, e96_51, e96_53, e96_56, e96_57, e96_58, e96_61, e96_62, e96_63, e96_63a, zpush_some, zpush_none, true_or, or_true, true_and, and_true, ↓reduceIte, zq_ite, zq_itel, zo_3, zr_3_5, zo_14, s_Q_hasMessage hz, XC_m hX, g1, g2, zz_1, s_X_isRow, h1, h2, not_false_eq_true, zr_3_0, zn_4, zl_4, zj, cj, z0, hs.1, s_S_isMissing hs, e1.trans q2, hq0, z0', q20]
                exact R
              · have e64 : acr (fun i => fX I 3 64 (40 * j + i)) q 0 = false := by
                  rw [← hac]; exact acr_congr (fun k _ _ => fX_o (by omega))
                have R := l_M_rs (n := n) (d := d) (L := L) (Q := Q) (I := fX I 3) (v1 := .int (nI p)) hj ((o63 3).trans q2) q1 q 0 (by omega)
                rw [e64] at R
                simp only [e187_0, e187_1, e187_2, e187_5, e187_8, e187_9, e187_10, e187_11, e187_14, e187_17, e187_18, e187_19, e187_20, e187_23, e187_24, e187_25, e187_28, e187_29, e187_30, e187_33, e187_34, e187_35, e187_38, e187_39, e187_40, e187_41, e187_43, e187_46, e187_49, e187_50, e187_51, e187_54, e187_55, e187_56, zpush_some, zpush_none, true_or, or_true, true_and, and_true, ↓reduceIte, zq_ite, zq_itel, zo_62, hin _ _ _ _ _ _ (o62 3), g1, g2, zz_1, s_M_in, h1, h3, not_false_eq_true, zr_62_0, zn_63, zl_63, zj, cj, o63, q2, hq0, q11, q20']
                exact R
            · refine Or.inr ⟨p, j, q, hp, rfl, hj, rfl, q2, by omega, hq2, e1.trans q2, q3', fun n d Q => ?_, fun n d Q I' L' f1 f2 f3 => ?_⟩
              · have R := l_X_rs (n := n) (d := d) (L := L) (Q := Q) (v1 := .int (nI p)) (v2 := .int (nI j)) hs (e1.trans q2) q1 q 0 (by omega)
                rw [ea, hac] at R
                simp only [e96_0, e96_1, e96_4, e96_5, e96_8, e96_11, e96_12, e96_15, e96_18, e96_19, e96_20, e96_21, e96_24, e96_25, e96_26, e96_27, e96_28, e96_31, e96_34, e96_35, e96_36, e96_39, e96_40, e96_41, e96_44, e96_47, e96_48, e96_51, e96_53, e96_56, e96_57, e96_58, e96_61, e96_62, e96_63, e96_63a, zpush_some, zpush_none, true_or, or_true, true_and, and_true, ↓reduceIte, zq_ite, zq_itel, zo_3, zr_3_5, zo_14, s_Q_hasMessage hz, XC_m hX, g1, g2, zz_1, s_X_isRow, h1, h2, not_false_eq_true, zr_3_0, zn_4, zl_4, zj, cj, z0, hs.1, s_S_isMissing hs, e1.trans q2, hq0, z0', q20]
                exact R
              · have e64 : acr (fun i => I' 64 (40 * j + i)) q 0 = true := by
                  rw [← hac]; exact acr_congr (fun k _ _ => f3 _)
                have R := l_M_rs (n := n) (d := d) (L := L') (Q := Q) (I := I') (v1 := .int (nI p)) hj ((f2 j).trans q2) q1 q 0 (by omega)
                rw [e64] at R
                simp only [e187_0, e187_1, e187_2, e187_5, e187_8, e187_9, e187_10, e187_11, e187_14, e187_17, e187_18, e187_19, e187_20, e187_23, e187_24, e187_25, e187_28, e187_29, e187_30, e187_33, e187_34, e187_35, e187_38, e187_39, e187_40, e187_41, e187_43, e187_46, e187_49, e187_50, e187_51, e187_54, e187_55, e187_56, zpush_some, zpush_none, true_or, or_true, true_and, and_true, ↓reduceIte, zq_ite, zq_itel, zo_62, hin _ _ _ _ _ _ f1, g1, g2, zz_1, s_M_in, h1, h3, not_false_eq_true, zr_62_0, zn_63, zl_63, zj, cj, f2, q2, hq0, q11, q20']
                exact R
          · have q20 := q20.trans (eq_false hq2)
            have q20' := q20'.trans (eq_true (show 20 < q by omega))
            refine Or.inl ⟨-3, fX I 5, fM (fX I 5) 5, nm3, inv_find (by decide) (by decide) h, fun n d Q => ?_, fun n d Q => ?_⟩
            · simp only [e96_0, e96_1, e96_4, e96_5, e96_8, e96_11, e96_12, e96_15, e96_18, e96_19, e96_20, e96_21, e96_24, e96_25, e96_26, e96_27, e96_28, e96_31, e96_34, e96_35, e96_36, e96_39, e96_40, e96_41, e96_44, e96_47, e96_48, e96_51, e96_53, e96_56, e96_57, e96_58, e96_61, e96_62, e96_63, e96_63a, zpush_some, zpush_none, true_or, or_true, true_and, and_true, ↓reduceIte, zq_ite, zq_itel, zo_3, zr_3_5, zo_14, s_Q_hasMessage hz, XC_m hX, g1, g2, zz_1, s_X_isRow, h1, h2, not_false_eq_true, zr_3_0, zn_4, zl_4, zj, cj, z0, hs.1, s_S_isMissing hs, e1.trans q2, hq0, z0', q20, s_X_found5]
            · simp only [e187_0, e187_1, e187_2, e187_5, e187_8, e187_9, e187_10, e187_11, e187_14, e187_17, e187_18, e187_19, e187_20, e187_23, e187_24, e187_25, e187_28, e187_29, e187_30, e187_33, e187_34, e187_35, e187_38, e187_39, e187_40, e187_41, e187_43, e187_46, e187_49, e187_50, e187_51, e187_54, e187_55, e187_56, zpush_some, zpush_none, true_or, or_true, true_and, and_true, ↓reduceIte, zq_ite, zq_itel, zo_62, hin _ _ _ _ _ _ (o62 5), g1, g2, zz_1, s_M_in, h1, h3, not_false_eq_true, zr_62_0, zn_63, zl_63, zj, cj, o63, q2, hq0, q11, q20', not_true_eq_false, s_M_finds5]
/-- whether one is seen so -/
def fit (K : Nat → Nat) (m p : Nat) (f : Nat → Int32) : Nat → Cs → Nat → Bool
  | 0, _, _ => true
  | r + 1, s, k => if nI ((stp K m s).1 p) = f k then fit K m p f r (stp K m s) (k + 1) else false
theorem l_X_fits (hp : p < m) (hz : Sz k 40) (hk : k < 14 ∨ 23 < k) (hk2 : k + 1 < 14 ∨ 23 < k + 1) (hm1 : I k 1 = nI q) (hq : q ≤ 20) {b : Bool} (hf : ∀ j, j < q → I (k + 1) j = f j) (hQ : ∀ I', (∀ k j, (k < 19 ∨ 23 < k) → I' k j = I k j) → Q (some (.int (zb b))) I' L) :
    ∀ r i (s : Cs) I', i + r = q → s.2.2.2.2.1 ≤ 99 + i → fit K m p f r s i = b → XC I' L 19 m K s → (∀ k j, (k < 19 ∨ 23 < k) → I' k j = I k j) → zV n (d + 4) 97 2 [.ref 3, .int (nI p), .ref k, .int (nI i)] [] I' L Q := by
  have hz2 := Qa_z (k := 19) (Or.inr (Or.inr rfl))
  intro r
  induction r with
  | zero =>
    intro i s I' hi hs hb hx h1
    have e : i = q := by omega
    subst e
    have e1 : I' k 1 = nI i := by rw [h1 k 1 (by omega)]; exact hm1
    simp only [e97_2, e97_3, e97_4, e97_7, e97_42, e97_43, zpush_some, zpush_none, true_or, or_true, true_and, and_true, ↓reduceIte, zq_ite, zq_itel, hz.1, e1, Int32.le_refl]
    have := hQ I' h1
    rw [← hb] at this
    exact this
  | succ r ih =>
    intro i s I' hi hs hb hx h1
    have hlt : (nI q ≤ nI i) = False := eq_false (nI_ge (by omega) (by omega))
    have g0 : (nI i < 0) = False := eq_false (nI_pos (by omega))
    have e1 : I' k 1 = nI q := by rw [h1 k 1 (by omega)]; exact hm1
    have m7 := XC_m7 hx
    simp only [e97_2, e97_3, e97_4, e97_7, e97_10, e97_11, e97_14, zpush_some, zpush_none, true_or, or_true, true_and, and_true, ↓reduceIte, zq_ite, zq_itel, zo_3, zr_3_6, zo_19, hz.1, e1, hlt]
    refine t_Q_advance hz2 hx (by omega) (fun I2 x1 x2 x3 => ?_)
    have hI2 : ∀ k j, (k < 19 ∨ 23 < k) → I2 k j = I k j := fun k j hk => by
      rw [x2 k j (by omega) (by omega) (Or.inl (by omega))]; exact h1 k j hk
    have e2 : I2 k 1 = nI q := by rw [hI2 k 1 (by omega)]; exact hm1
    have e3 : I2 (k + 1) i = f i := by rw [hI2 (k + 1) i (by omega)]; exact hf i (by omega)
    have zp : zin (nI p) 7 = true := zin_ok (by omega) (by decide)
    have cp : (nI p).toNatClampNeg = p := nI_clamp (by omega)
    have c1 : I2 21 p = nI ((stp K m s).1 p) := (XC_get x1 hp).2.1.1
    rw [fit] at hb
    by_cases g : nI ((stp K m s).1 p) = f i
    · rw [if_pos g] at hb
      simp only [e97_14, e97_17, e97_18, e97_21, e97_24, e97_25, e97_26, e97_27, e97_28, e97_31, e97_34, e97_35, zpush_some, zpush_none, true_or, or_true, true_and, and_true, ↓reduceIte, zq_ite, zq_itel, zo_3, zr_3_6, zo_19, zr_19_1, zn_21, zl_21, zp, cp, c1, hz.1, s_S_get_k hz e2 (show i < 40 by omega) (by decide) g0 hlt, e3, g]
      simp only [e97_36, e97_39, nI_1]
      exact ih (i + 1) _ I2 (by omega) (by show s.2.2.2.2.1 + 1 ≤ _; omega) hb x1 hI2
    · rw [if_neg g] at hb
      have g' := eq_false g
      simp only [e97_14, e97_17, e97_18, e97_21, e97_24, e97_25, e97_26, e97_27, e97_28, e97_31, e97_34, e97_35, zpush_some, zpush_none, true_or, or_true, true_and, and_true, ↓reduceIte, zq_ite, zq_itel, zo_3, zr_3_6, zo_19, zr_19_1, zn_21, zl_21, zp, cp, c1, hz.1, s_S_get_k hz e2 (show i < 40 by omega) (by decide) g0 hlt, e3, g']
      have := hQ I2 hI2
      rw [← hb] at this
      exact this
theorem t_X_fits (hx : XC I L 19 m K s) (hs : s.2.2.2.2.1 ≤ 99) (hp : p < m) (hz : Sz k 40) (hk : k < 14 ∨ 23 < k) (hk2 : k + 1 < 14 ∨ 23 < k + 1) (hm1 : I k 1 = nI q) (hq : q ≤ 20) (hf : ∀ j, j < q → I (k + 1) j = f j) (hQ : ∀ I', (∀ k j, (k < 19 ∨ 23 < k) → I' k j = I k j) → Q (some (.int (zb (fit K m p f q s 0)))) I' L) : zV n (d + 4) 97 0 [.ref 3, .int (nI p), .ref k, .null] [] I L Q := by
  simp only [e97_0, e97_1, zpush_some, zpush_none, true_or, or_true, true_and, and_true, ↓reduceIte, zq_ite, zq_itel]
  exact l_X_fits (I := I) hp hz hk hk2 hm1 hq hf hQ q 0 s I (by omega) hs rfl hx (fun _ _ _ => rfl)
theorem l_M_seen (hp : p < m) (hm : m ≤ 7) (hj : j < 6) (hm1 : I 63 j = nI q) (hq : q ≤ 20) {b : Bool} (hf : ∀ i, i < q → I 64 (40 * j + i) = f i) (hK : MK I m K) (hQ : ∀ I', (∀ k j, k ≠ 75 → k ≠ 76 → k ≠ 77 → I' k j = I k j) → Q (some (.int (zb b))) I' L) :
    ∀ r i (s : Cs) I', i + r = q → s.2.2.2.2.1 ≤ 99 + i → fit K m p f r s i = b → MC I' 75 m s → (∀ k j, k ≠ 75 → k ≠ 76 → k ≠ 77 → I' k j = I k j) → zV n (d + 5) 188 5 [.ref 62, .int (nI p), .int (nI j), .int 1, .int (nI i)] [] I' L Q := by
  have zj : zin (nI j) 6 = true := zin_ok hj (by decide)
  have cj : (nI j).toNatClampNeg = j := nI_clamp (by omega)
  have z3 : zin (nI (3 + p)) 24 = true := zin_ok (by omega) (by decide)
  have y3 : (nI (3 + p)).toNatClampNeg = 3 + p := nI_clamp (by omega)
  intro r
  induction r with
  | zero =>
    intro i s I' hi hs hb hx h1
    have e : i = q := by omega
    subst e
    have e1 : I' 63 j = nI i := by rw [h1 63 j (by decide) (by decide) (by decide)]; exact hm1
    simp only [e188_5, e188_7, e188_8, e188_11, e188_12, e188_13, e188_64, e188_65, zpush_some, zpush_none, true_or, or_true, true_and, and_true, ↓reduceIte, zq_ite, zq_itel, zo_62, zr_62_0, zn_63, zl_63, zj, cj, e1, Int32.le_refl]
    have := hQ I' h1
    rw [← hb] at this
    exact this
  | succ r ih =>
    intro i s I' hi hs hb hx h1
    have hlt : (nI q ≤ nI i) = False := eq_false (nI_ge (by omega) (by omega))
    have e1 : I' 63 j = nI q := by rw [h1 63 j (by decide) (by decide) (by decide)]; exact hm1
    have z1 : zin (nI (40 * j + i)) 240 = true := zin_ok (by omega) (by omega)
    have c1 : (nI (40 * j + i)).toNatClampNeg = 40 * j + i := nI_clamp (by omega)
    simp only [e188_5, e188_7, e188_8, e188_11, e188_12, e188_13, e188_16, e188_17, e188_20, e188_21, e188_22, e188_25, zpush_some, zpush_none, true_or, or_true, true_and, and_true, ↓reduceIte, zq_ite, zq_itel, zo_62, zr_62_0, zr_62_22, zn_63, zl_63, zn_75, zj, cj, e1, hlt, zz_1]
    refine t_M_steps hx (MK_eq hK (fun j => h1 _ _ (by decide) (by decide) (by decide)) (fun j => h1 _ _ (by decide) (by decide) (by decide))) Ma_75 (by decide) (by omega) (fun I2 x1 x2 x3 => ?_)
    have hI2 : ∀ k j, k ≠ 75 → k ≠ 76 → k ≠ 77 → I2 k j = I k j := fun k j a b c => by rw [x2 k j a b c]; exact h1 k j a b c
    have e2 : I2 63 j = nI q := by rw [hI2 63 j (by decide) (by decide) (by decide)]; exact hm1
    have e3 : I2 64 (40 * j + i) = f i := by rw [hI2 64 _ (by decide) (by decide) (by decide)]; exact hf i (by omega)
    have c2 : I2 75 (3 + p) = nI ((stp K m s).1 p) := (MC_get x1 hm hp).1.1
    rw [fit] at hb
    by_cases g : nI ((stp K m s).1 p) = f i
    · rw [if_pos g] at hb
      simp only [e188_25, e188_28, e188_29, e188_30, e188_33, e188_34, e188_35, e188_36, e188_37, e188_38, e188_41, e188_43, e188_44, e188_45, e188_47, e188_48, e188_49, e188_52, e188_53, e188_56, e188_57, zpush_some, zpush_none, true_or, or_true, true_and, and_true, ↓reduceIte, zq_ite, zq_itel, zo_62, zr_62_1, zr_62_22, zn_75, zl_75, i_3, z3, y3, c2, zn_64, zl_64, m40, z1, c1, e3, g, not_true_eq_false]
      simp only [e188_58, e188_58a, e188_61, nI_1]
      exact ih (i + 1) _ I2 (by omega) (by show s.2.2.2.2.1 + 1 ≤ _; omega) hb x1 hI2
    · rw [if_neg g] at hb
      have g' := eq_false g
      simp only [e188_25, e188_28, e188_29, e188_30, e188_33, e188_34, e188_35, e188_36, e188_37, e188_38, e188_41, e188_43, e188_44, e188_45, e188_47, e188_48, e188_49, e188_52, e188_53, e188_56, e188_57, zpush_some, zpush_none, true_or, or_true, true_and, and_true, ↓reduceIte, zq_ite, zq_itel, zo_62, zr_62_1, zr_62_22, zn_75, zl_75, i_3, z3, y3, c2, zn_64, zl_64, m40, z1, c1, e3, g', not_false_eq_true]
      simp only [e188_58, e188_58a, e188_61, nI_1]
      have nx := hQ I2 hI2
      rw [← hb] at nx
      by_cases g2 : i + 1 = q
      · have hl2 : (nI q ≤ nI (i + 1)) = True := by rw [g2]; exact eq_true (Int32.le_refl _)
        simp only [e188_5, e188_7, e188_8, e188_11, e188_12, e188_13, e188_16, e188_17, e188_64, e188_65, zpush_some, zpush_none, true_or, or_true, true_and, and_true, ↓reduceIte, zq_ite, zq_itel, zo_62, zr_62_0, zn_63, zl_63, zj, cj, e2, hl2]
        exact nx
      · have hl2 : (nI q ≤ nI (i + 1)) = False := eq_false (nI_ge (by omega) (by omega))
        simp only [e188_5, e188_7, e188_8, e188_11, e188_12, e188_13, e188_16, e188_17, e188_64, e188_65, zpush_some, zpush_none, true_or, or_true, true_and, and_true, ↓reduceIte, zq_ite, zq_itel, zo_62, zr_62_0, zn_63, zl_63, zj, cj, e2, hl2]
        exact nx
theorem t_M_seen (hx : MC I 75 m s) (hs : s.2.2.2.2.1 ≤ 99) (hp : p < m) (hm : m ≤ 7) (hj : j < 6) (hm1 : I 63 j = nI q) (hq : q ≤ 20) (hf : ∀ i, i < q → I 64 (40 * j + i) = f i) (hK : MK I m K) (hQ : ∀ I', (∀ k j, k ≠ 75 → k ≠ 76 → k ≠ 77 → I' k j = I k j) → Q (some (.int (zb (fit K m p f q s 0)))) I' L) : zV n (d + 5) 188 0 [.ref 62, .int (nI p), .int (nI j), .null, .null] [] I L Q := by
  simp only [e188_0, e188_1, e188_2, e188_3, e188_3a, zpush_some, zpush_none, true_or, or_true, true_and, and_true, ↓reduceIte, zq_ite, zq_itel]
  exact l_M_seen (I := I) hp hm hj hm1 hq hf hK hQ q 0 s I (by omega) hs rfl hx (fun _ _ _ _ _ => rfl)
end
