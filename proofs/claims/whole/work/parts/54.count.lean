/-! COUNT -/
def thb (s : Cs) : Nat → Int32
  | 0 => 0
  | i + 1 => thb s i ||| (if thr s i then (1 : Int32) <<< (nI i &&& 31) else 0)
def prs (f : Nat → Int32) : Nat → Int32
  | 0 => 0
  | i + 1 => prs f i + (if 0 ≤ f i then 1 else 0)
theorem prs_congr {f g : Nat → Int32} : ∀ {i : Nat}, (∀ j, j < i → f j = g j) → prs f i = prs g i
  | 0, _ => rfl
  | i + 1, h => by rw [prs, prs, prs_congr (fun j hj => h j (by omega)), h i (Nat.lt_succ_self i)]
def hma (K : Nat → Nat) (w : Int32) : Nat → Int32
  | 0 => 0
  | i + 1 => hma K w i + (if nI (K i) = w ∨ (nI (K i) = 4 ∧ w = 1) ∨ (nI (K i) = 5 ∧ w = 3) then 1 else 0)
section
variable {n d : Nat} {I I' : zi} {L L' : zl} {Q : zq} {K K' : Nat → Nat} {s s' s0 : Cs} {k m q i a b l f N lim : Nat} {D : List Nat} {c : Nat} {kp : Nat → Option (List Nat)}
theorem l_Q_thereBits (hz : Qz k) (hx : XC I L k m K s) : ∀ r i, i + r = m → (zV n (d + 2) 81 4 [.ref k, .int (thb s i), .int (nI i)] [] I L Q ↔ Q (some (.int (thb s m))) I L) := by
  have hm := XC_m7 hx
  intro r
  induction r with
  | zero =>
    intro i hi
    have e : i = m := by omega
    subst e
    simp only [e81_4, e81_5, e81_6, e81_9, e81_36, e81_37, zpush_some, zpush_none, true_or, or_true, true_and, and_true, ↓reduceIte, zq_ite, zq_itel, hz.1, XC_m hx, Int32.le_refl]
  | succ r ih =>
    intro i hi
    have hlt : (nI m ≤ nI i) = False := eq_false (nI_ge (by omega) (by omega))
    have e := ih (i + 1) (by omega)
    rw [thb] at e
    cases ht : thr s i
    · rw [ht] at e
      simp only [e81_4, e81_5, e81_6, e81_9, e81_12, e81_13, e81_14, e81_15, e81_18, e81_21, e81_22, e81_23, e81_24, e81_27, e81_28, e81_29, zpush_some, zpush_none, true_or, or_true, true_and, and_true, ↓reduceIte, zq_ite, zq_itel, hz.1, XC_m hx, hlt, s_Q_isThere hz hx (show i < m by omega), ht, zb_f]
      simp only [e81_30, e81_30a, e81_33, nI_1]
      exact e
    · rw [ht] at e
      simp only [e81_4, e81_5, e81_6, e81_9, e81_12, e81_13, e81_14, e81_15, e81_18, e81_21, e81_22, e81_23, e81_24, e81_27, e81_28, e81_29, zpush_some, zpush_none, true_or, or_true, true_and, and_true, ↓reduceIte, zq_ite, zq_itel, hz.1, XC_m hx, hlt, s_Q_isThere hz hx (show i < m by omega), ht, zb_t, zz_1]
      simp only [e81_30, e81_30a, e81_33, nI_1]
      exact e
theorem s_Q_thereBits (hz : Qz k) (hx : XC I L k m K s) : zV n (d + 2) 81 0 [.ref k, .null, .null] [] I L Q ↔ Q (some (.int (thb s m))) I L := by
  simp only [e81_0, e81_1, e81_2, e81_3, e81_3a, zpush_some, zpush_none, true_or, or_true, true_and, and_true, ↓reduceIte, zq_ite, zq_itel]
  exact l_Q_thereBits hz hx m 0 (by omega)
theorem l_M_thereOnes (hx : MC I 70 m s) (hK : MK I m K) (hm : m ≤ 7) : ∀ r i, i + r = m → (zV n (d + 2) 206 4 [.ref 62, .int (thb s i), .int (nI i)] [] I L Q ↔ Q (some (.int (thb s m))) I L) := by
  intro r
  induction r with
  | zero =>
    intro i hi
    have e : i = m := by omega
    subst e
    simp only [e206_4, e206_5, e206_6, e206_9, e206_39, e206_40, zpush_some, zpush_none, true_or, or_true, true_and, and_true, ↓reduceIte, zq_ite, zq_itel, zo_62, MK_m hK, Int32.le_refl]
  | succ r ih =>
    intro i hi
    have hlt : (nI m ≤ nI i) = False := eq_false (nI_ge (by omega) (by omega))
    have e := ih (i + 1) (by omega)
    rw [thb] at e
    cases ht : thr s i
    · rw [ht] at e
      simp only [e206_4, e206_5, e206_6, e206_9, e206_12, e206_13, e206_14, e206_17, e206_18, e206_21, e206_24, e206_25, e206_26, e206_27, e206_30, e206_31, e206_32, zpush_some, zpush_none, true_or, or_true, true_and, and_true, ↓reduceIte, zq_ite, zq_itel, zo_62, MK_m hK, hlt, zr_62_16, zn_70, s_M_isThere hx Ma_70 hm (show i < m by omega), ht, zb_f]
      simp only [e206_33, e206_33a, e206_36, nI_1]
      exact e
    · rw [ht] at e
      simp only [e206_4, e206_5, e206_6, e206_9, e206_12, e206_13, e206_14, e206_17, e206_18, e206_21, e206_24, e206_25, e206_26, e206_27, e206_30, e206_31, e206_32, zpush_some, zpush_none, true_or, or_true, true_and, and_true, ↓reduceIte, zq_ite, zq_itel, zo_62, MK_m hK, hlt, zr_62_16, zn_70, s_M_isThere hx Ma_70 hm (show i < m by omega), ht, zb_t, zz_1]
      simp only [e206_33, e206_33a, e206_36, nI_1]
      exact e
theorem s_M_thereOnes (hx : MC I 70 m s) (hK : MK I m K) (hm : m ≤ 7) : zV n (d + 2) 206 0 [.ref 62, .null, .null] [] I L Q ↔ Q (some (.int (thb s m))) I L := by
  simp only [e206_0, e206_1, e206_2, e206_3, e206_3a, zpush_some, zpush_none, true_or, or_true, true_and, and_true, ↓reduceIte, zq_ite, zq_itel]
  exact l_M_thereOnes hx hK hm m 0 (by omega)
theorem l_X_present (ha : zra a = true) (hl : zlen a = N) (hN : N < 2 ^ 30) (hz : ∀ j, j < N → zref a j = b + 2 * j ∧ Sz (b + 2 * j) lim) : ∀ r i, i + r = N → (zV n (d + 1) 118 4 [.ref a, .int (prs (fun j => I (b + 2 * j) 1) i), .int (nI i)] [] I L Q ↔ Q (some (.int (prs (fun j => I (b + 2 * j) 1) N))) I L) := by
  intro r
  induction r with
  | zero =>
    intro i hi
    have e : i = N := by omega
    subst e
    simp only [e118_4, e118_5, e118_6, e118_6q, e118_7, e118_33, e118_34, zpush_some, zpush_none, true_or, or_true, true_and, and_true, ↓reduceIte, zq_ite, zq_itel, ha, hl, Int32.le_refl]
  | succ r ih =>
    intro i hi
    have hlt : (nI N ≤ nI i) = False := eq_false (nI_ge (by omega) (by omega))
    have zi7 : zin (nI i) N = true := zin_ok (by omega) (by omega)
    have ci : (nI i).toNatClampNeg = i := nI_clamp (by omega)
    obtain ⟨z0, hs⟩ := hz i (by omega)
    have e := ih (i + 1) (by omega)
    rw [prs] at e
    by_cases g : 0 ≤ I (b + 2 * i) 1
    · have g' : (0 ≤ I (b + 2 * i) 1) = True := eq_true g
      rw [if_pos g] at e
      simp only [e118_4, e118_5, e118_6, e118_6q, e118_7, e118_10, e118_11, e118_12, e118_13, e118_14, e118_17, e118_20, e118_21, e118_24, e118_25, e118_26, zpush_some, zpush_none, true_or, or_true, true_and, and_true, ↓reduceIte, zq_ite, zq_itel, ha, hl, hlt, zi7, ci, z0, hs.1, s_S_isMissing hs, g', zz_1]
      simp only [e118_27, e118_27a, e118_30, nI_1]
      exact e
    · have g' : (0 ≤ I (b + 2 * i) 1) = False := eq_false g
      rw [if_neg g] at e
      simp only [e118_4, e118_5, e118_6, e118_6q, e118_7, e118_10, e118_11, e118_12, e118_13, e118_14, e118_17, e118_20, e118_21, e118_24, e118_25, e118_26, zpush_some, zpush_none, true_or, or_true, true_and, and_true, ↓reduceIte, zq_ite, zq_itel, ha, hl, hlt, zi7, ci, z0, hs.1, s_S_isMissing hs, g', zz_1]
      simp only [e118_27, e118_27a, e118_30, nI_1]
      exact e
theorem s_X_present (ha : zra a = true) (hl : zlen a = N) (hN : N < 2 ^ 30) (hz : ∀ j, j < N → zref a j = b + 2 * j ∧ Sz (b + 2 * j) lim) : zV n (d + 1) 118 0 [.ref a, .null, .null] [] I L Q ↔ Q (some (.int (prs (fun j => I (b + 2 * j) 1) N))) I L := by
  simp only [e118_0, e118_1, e118_2, e118_3, e118_3a, zpush_some, zpush_none, true_or, or_true, true_and, and_true, ↓reduceIte, zq_ite, zq_itel]
  exact l_X_present ha hl hN hz N 0 (by omega)
theorem l_M_thereOf (ha : zint a = true) (hl : zlen a = N) (hN : N < 2 ^ 30) : ∀ r i v5, i + r = N → (zV n d 207 10 [.ref a, .int (prs (I a) i), .ref a, .int (nI N), .int (nI i), v5] [] I L Q ↔ Q (some (.int (prs (I a) N))) I L) := by
  intro r
  induction r with
  | zero =>
    intro i v5 hi
    have e : i = N := by omega
    subst e
    simp only [e207_10, e207_12, e207_13, e207_41, e207_42, zpush_some, zpush_none, true_or, or_true, true_and, and_true, ↓reduceIte, zq_ite, zq_itel, Int32.le_refl]
  | succ r ih =>
    intro i v5 hi
    have hlt : (nI N ≤ nI i) = False := eq_false (nI_ge (by omega) (by omega))
    have zi7 : zin (nI i) N = true := zin_ok (by omega) (by omega)
    have ci : (nI i).toNatClampNeg = i := nI_clamp (by omega)
    have e := ih (i + 1) (.int (I a i)) (by omega)
    rw [prs] at e
    by_cases g : 0 ≤ I a i
    · have g' : (0 ≤ I a i) = True := eq_true g
      rw [if_pos g] at e
      simp only [e207_10, e207_12, e207_13, e207_16, e207_17, e207_19, e207_20, e207_20a, e207_22, e207_23, e207_25, e207_28, e207_29, e207_32, e207_33, e207_34, zpush_some, zpush_none, true_or, or_true, true_and, and_true, ↓reduceIte, zq_ite, zq_itel, ha, hl, hlt, zi7, ci, g']
      simp only [e207_35, e207_35a, e207_38, nI_1]
      exact e
    · have g' : (0 ≤ I a i) = False := eq_false g
      rw [if_neg g] at e
      simp only [e207_10, e207_12, e207_13, e207_16, e207_17, e207_19, e207_20, e207_20a, e207_22, e207_23, e207_25, e207_28, e207_29, e207_32, e207_33, e207_34, zpush_some, zpush_none, true_or, or_true, true_and, and_true, ↓reduceIte, zq_ite, zq_itel, ha, hl, hlt, zi7, ci, g']
      simp only [e207_35, e207_35a, e207_38, nI_1]
      exact e
theorem s_M_thereOf (ha : zint a = true) (hl : zlen a = N) (hN : N < 2 ^ 30) : zV n d 207 0 [.ref a, .null, .null, .null, .null, .null] [] I L Q ↔ Q (some (.int (prs (I a) N))) I L := by
  simp only [e207_0, e207_1, e207_2, e207_3, e207_3a, e207_4, e207_5, e207_5q, e207_6, e207_6a, e207_7, e207_8, e207_8a, zpush_some, zpush_none, true_or, or_true, true_and, and_true, ↓reduceIte, zq_ite, zq_itel, ha, hl]
  exact l_M_thereOf ha hl hN N 0 _ (by omega)
theorem l_X_howManyAre (hx : XC I L 14 m K s) (w : Int32) : ∀ r i, i + r = m → (zV n (d + 1) 119 4 [.ref 3, .int w, .int (hma K w i), .int (nI i)] [] I L Q ↔ Q (some (.int (hma K w m))) I L) := by
  have hm := XC_m7 hx
  intro r
  induction r with
  | zero =>
    intro i hi
    have e : i = m := by omega
    subst e
    simp only [e119_4, e119_5, e119_6, e119_9, e119_12, e119_45, e119_46, zpush_some, zpush_none, true_or, or_true, true_and, and_true, ↓reduceIte, zq_ite, zq_itel, zo_3, zr_3_5, zo_14, XC_m hx, Int32.le_refl]
  | succ r ih =>
    intro i hi
    have hlt : (nI m ≤ nI i) = False := eq_false (nI_ge (by omega) (by omega))
    have zi7 : zin (nI i) 7 = true := zin_ok (by omega) (by omega)
    have ci : (nI i).toNatClampNeg = i := nI_clamp (by omega)
    have e := ih (i + 1) (by omega)
    have k1 := (XC_get hx (show i < m by omega)).1.1
    rw [hma] at e
    by_cases g : nI (K i) = w ∨ (nI (K i) = 4 ∧ w = 1) ∨ (nI (K i) = 5 ∧ w = 3)
    · rw [if_pos g] at e
      have g' := eq_true g
      simp only [e119_4, e119_5, e119_6, e119_9, e119_12, e119_15, e119_16, e119_17, e119_20, e119_23, e119_24, e119_25, e119_26, e119_29, e119_32, e119_33, e119_36, e119_37, e119_38, zpush_some, zpush_none, true_or, or_true, true_and, and_true, ↓reduceIte, zq_ite, zq_itel, zo_3, zr_3_5, zo_14, zr_14_0, zn_15, zl_15, XC_m hx, hlt, zi7, ci, k1, s_X_isOf, g', zz_1]
      simp only [e119_39, e119_39a, e119_42, nI_1]
      exact e
    · rw [if_neg g] at e
      have g' := eq_false g
      simp only [e119_4, e119_5, e119_6, e119_9, e119_12, e119_15, e119_16, e119_17, e119_20, e119_23, e119_24, e119_25, e119_26, e119_29, e119_32, e119_33, e119_36, e119_37, e119_38, zpush_some, zpush_none, true_or, or_true, true_and, and_true, ↓reduceIte, zq_ite, zq_itel, zo_3, zr_3_5, zo_14, zr_14_0, zn_15, zl_15, XC_m hx, hlt, zi7, ci, k1, s_X_isOf, g', zz_1]
      simp only [e119_39, e119_39a, e119_42, nI_1]
      exact e
theorem s_X_howManyAre (hx : XC I L 14 m K s) (w : Int32) : zV n (d + 1) 119 0 [.ref 3, .int w, .null, .null] [] I L Q ↔ Q (some (.int (hma K w m))) I L := by
  simp only [e119_0, e119_1, e119_2, e119_3, e119_3a, zpush_some, zpush_none, true_or, or_true, true_and, and_true, ↓reduceIte, zq_ite, zq_itel]
  exact l_X_howManyAre hx w m 0 (by omega)
theorem l_M_kindMany (hK : MK I m K) (hm : m ≤ 7) (w : Int32) (hw : ¬ w = 0) : ∀ r i, i + r = m → (zV n (d + 1) 208 4 [.ref 62, .int w, .int (hma K w i), .int (nI i)] [] I L Q ↔ Q (some (.int (hma K w m))) I L) := by
  intro r
  induction r with
  | zero =>
    intro i hi
    have e : i = m := by omega
    subst e
    simp only [e208_4, e208_5, e208_6, e208_9, e208_39, e208_40, zpush_some, zpush_none, true_or, or_true, true_and, and_true, ↓reduceIte, zq_ite, zq_itel, zo_62, MK_m hK, Int32.le_refl]
  | succ r ih =>
    intro i hi
    have hlt : (nI m ≤ nI i) = False := eq_false (nI_ge (by omega) (by omega))
    have zi7 : zin (nI i) 7 = true := zin_ok (by omega) (by omega)
    have ci : (nI i).toNatClampNeg = i := nI_clamp (by omega)
    have e := ih (i + 1) (by omega)
    have k1 := (MK_get hK (show i < m by omega)).1
    rw [hma] at e
    by_cases g : nI (K i) = w ∨ (nI (K i) = 4 ∧ w = 1) ∨ (nI (K i) = 5 ∧ w = 3)
    · rw [if_pos g] at e
      have g' := eq_true g
      simp only [e208_4, e208_5, e208_6, e208_9, e208_12, e208_13, e208_14, e208_17, e208_18, e208_19, e208_20, e208_23, e208_26, e208_27, e208_30, e208_31, e208_32, zpush_some, zpush_none, true_or, or_true, true_and, and_true, ↓reduceIte, zq_ite, zq_itel, zo_62, zr_62_15, zn_69, zl_69, MK_m hK, hlt, zi7, ci, k1, s_M_is _ _ hw, g', zz_1]
      simp only [e208_33, e208_33a, e208_36, nI_1]
      exact e
    · rw [if_neg g] at e
      have g' := eq_false g
      simp only [e208_4, e208_5, e208_6, e208_9, e208_12, e208_13, e208_14, e208_17, e208_18, e208_19, e208_20, e208_23, e208_26, e208_27, e208_30, e208_31, e208_32, zpush_some, zpush_none, true_or, or_true, true_and, and_true, ↓reduceIte, zq_ite, zq_itel, zo_62, zr_62_15, zn_69, zl_69, MK_m hK, hlt, zi7, ci, k1, s_M_is _ _ hw, g', zz_1]
      simp only [e208_33, e208_33a, e208_36, nI_1]
      exact e
theorem s_M_kindMany (hK : MK I m K) (hm : m ≤ 7) (w : Int32) (hw : ¬ w = 0) : zV n (d + 1) 208 0 [.ref 62, .int w, .null, .null] [] I L Q ↔ Q (some (.int (hma K w m))) I L := by
  simp only [e208_0, e208_1, e208_2, e208_3, e208_3a, zpush_some, zpush_none, true_or, or_true, true_and, and_true, ↓reduceIte, zq_ite, zq_itel]
  exact l_M_kindMany hK hm w hw m 0 (by omega)
/-- what count answers, by the check's cells -/
def tal (I : zi) (m : Nat) (K : Nat → Nat) (s : Cs) (dl : Nat) : Nat → Int32
  | 0 => nI m
  | 1 => nI s.2.2.2.2.1
  | 2 => nI dl
  | 3 => nI s.2.2.2.2.2
  | 4 => bsI s.2.2.2.1 32
  | 5 => thb s m
  | 6 => prs (I 63) 6
  | 7 => prs (I 65) 4
  | 8 => prs (I 74) 3
  | 9 => hma K 1 m
  | _ => hma K 3 m
theorem KP_sz {D : Option (List Nat)} (h : KP I m K s0 q D) : I (56 + 2 * q) 1 = I 74 q := by
  cases D with
  | none => exact h.1.trans h.2.symm
  | some D => exact h.1.2.1.trans h.2.2.1.symm
theorem s_X_tally (h : Inv I L) (hcs : ICs I L m K s0 D kp) {w : Nat} (hw : w < 11) : zV n (d + 3) 117 0 [.ref 3, .int (nI w)] [] I L Q ↔ Q (some (.int (tal I m K (rep K m s0 D) D.length w))) I L := by
  obtain ⟨hX, hM, hK, ht, hds, hn, hm, hok⟩ := hcs.now
  have hz := Qa_z (k := 14) (Or.inr (Or.inl rfl))
  have p1 : prs (fun j => I (36 + 2 * j) 1) 6 = prs (I 63) 6 := prs_congr (fun j hj => (h.2.1 j hj).1)
  have p2 : prs (fun j => I (48 + 2 * j) 1) 4 = prs (I 65) 4 := prs_congr (fun j hj => (h.2.2.1 j hj).1)
  have p3 : prs (fun j => I (56 + 2 * j) 1) 3 = prs (I 74) 3 := prs_congr (fun j hj => KP_sz (hcs.kept hj))
  have z4 : zra 4 = true ∧ zlen 4 = 6 ∧ zra 5 = true ∧ zlen 5 = 4 ∧ zra 8 = true ∧ zlen 8 = 3 := by decide +kernel
  obtain ⟨z41, z42, z51, z52, z81, z82⟩ := z4
  have d10 : (10 : Int32).toInt < 0 ∨ 9 < (10 : Int32).toInt := by decide
  rcases (show w = 0 ∨ w = 1 ∨ w = 2 ∨ w = 3 ∨ w = 4 ∨ w = 5 ∨ w = 6 ∨ w = 7 ∨ w = 8 ∨ w = 9 ∨ w = 10 by omega) with rfl | rfl | rfl | rfl | rfl | rfl | rfl | rfl | rfl | rfl | rfl
  all_goals simp only [show nI 0 = 0 from rfl, show nI 1 = 1 from rfl, show nI 2 = 2 from rfl, show nI 3 = 3 from rfl, show nI 4 = 4 from rfl, show nI 5 = 5 from rfl, show nI 6 = 6 from rfl, show nI 7 = 7 from rfl, show nI 8 = 8 from rfl, show nI 9 = 9 from rfl, show nI 10 = 10 from rfl]
  · simp only [e117_0, e117_1_0, e117_1_1, e117_1_2, e117_1_3, e117_1_4, e117_1_5, e117_1_6, e117_1_7, e117_1_8, e117_1_9, e117_1_d, e117_56, e117_57, e117_60, e117_63, e117_64, e117_65, e117_68, e117_71, e117_72, e117_73, e117_76, e117_79, e117_80, e117_81, e117_84, e117_87, e117_88, e117_89, e117_92, e117_95, e117_96, e117_97, e117_100, e117_103, e117_104, e117_105, e117_108, e117_111, e117_112, e117_113, e117_116, e117_119, e117_120, e117_121, e117_124, e117_127, e117_128, e117_129, e117_130, e117_133, e117_134, e117_135, e117_136, e117_139, zpush_some, zpush_none, true_or, or_true, true_and, and_true, ↓reduceIte, zq_ite, zq_itel, zo_3, zr_3_5, zo_14, XC_m hX, tal]
  · simp only [e117_0, e117_1_0, e117_1_1, e117_1_2, e117_1_3, e117_1_4, e117_1_5, e117_1_6, e117_1_7, e117_1_8, e117_1_9, e117_1_d, e117_56, e117_57, e117_60, e117_63, e117_64, e117_65, e117_68, e117_71, e117_72, e117_73, e117_76, e117_79, e117_80, e117_81, e117_84, e117_87, e117_88, e117_89, e117_92, e117_95, e117_96, e117_97, e117_100, e117_103, e117_104, e117_105, e117_108, e117_111, e117_112, e117_113, e117_116, e117_119, e117_120, e117_121, e117_124, e117_127, e117_128, e117_129, e117_130, e117_133, e117_134, e117_135, e117_136, e117_139, zpush_some, zpush_none, true_or, or_true, true_and, and_true, ↓reduceIte, zq_ite, zq_itel, zo_3, zr_3_5, zo_14, XC_t hX, tal]
  · simp only [e117_0, e117_1_0, e117_1_1, e117_1_2, e117_1_3, e117_1_4, e117_1_5, e117_1_6, e117_1_7, e117_1_8, e117_1_9, e117_1_d, e117_56, e117_57, e117_60, e117_63, e117_64, e117_65, e117_68, e117_71, e117_72, e117_73, e117_76, e117_79, e117_80, e117_81, e117_84, e117_87, e117_88, e117_89, e117_92, e117_95, e117_96, e117_97, e117_100, e117_103, e117_104, e117_105, e117_108, e117_111, e117_112, e117_113, e117_116, e117_119, e117_120, e117_121, e117_124, e117_127, e117_128, e117_129, e117_130, e117_133, e117_134, e117_135, e117_136, e117_139, zpush_some, zpush_none, true_or, or_true, true_and, and_true, ↓reduceIte, zq_ite, zq_itel, zo_3, zr_3_2, Sz_6.1, hds.2.1, tal]
  · simp only [e117_0, e117_1_0, e117_1_1, e117_1_2, e117_1_3, e117_1_4, e117_1_5, e117_1_6, e117_1_7, e117_1_8, e117_1_9, e117_1_d, e117_56, e117_57, e117_60, e117_63, e117_64, e117_65, e117_68, e117_71, e117_72, e117_73, e117_76, e117_79, e117_80, e117_81, e117_84, e117_87, e117_88, e117_89, e117_92, e117_95, e117_96, e117_97, e117_100, e117_103, e117_104, e117_105, e117_108, e117_111, e117_112, e117_113, e117_116, e117_119, e117_120, e117_121, e117_124, e117_127, e117_128, e117_129, e117_130, e117_133, e117_134, e117_135, e117_136, e117_139, zpush_some, zpush_none, true_or, or_true, true_and, and_true, ↓reduceIte, zq_ite, zq_itel, zo_3, zr_3_5, zo_14, XC_h hX, tal]
  · simp only [e117_0, e117_1_0, e117_1_1, e117_1_2, e117_1_3, e117_1_4, e117_1_5, e117_1_6, e117_1_7, e117_1_8, e117_1_9, e117_1_d, e117_56, e117_57, e117_60, e117_63, e117_64, e117_65, e117_68, e117_71, e117_72, e117_73, e117_76, e117_79, e117_80, e117_81, e117_84, e117_87, e117_88, e117_89, e117_92, e117_95, e117_96, e117_97, e117_100, e117_103, e117_104, e117_105, e117_108, e117_111, e117_112, e117_113, e117_116, e117_119, e117_120, e117_121, e117_124, e117_127, e117_128, e117_129, e117_130, e117_133, e117_134, e117_135, e117_136, e117_139, zpush_some, zpush_none, true_or, or_true, true_and, and_true, ↓reduceIte, zq_ite, zq_itel, zo_3, zr_3_5, zo_14, s_Q_howManyBroken hz (XC_B hX), tal]
  · simp only [e117_0, e117_1_0, e117_1_1, e117_1_2, e117_1_3, e117_1_4, e117_1_5, e117_1_6, e117_1_7, e117_1_8, e117_1_9, e117_1_d, e117_56, e117_57, e117_60, e117_63, e117_64, e117_65, e117_68, e117_71, e117_72, e117_73, e117_76, e117_79, e117_80, e117_81, e117_84, e117_87, e117_88, e117_89, e117_92, e117_95, e117_96, e117_97, e117_100, e117_103, e117_104, e117_105, e117_108, e117_111, e117_112, e117_113, e117_116, e117_119, e117_120, e117_121, e117_124, e117_127, e117_128, e117_129, e117_130, e117_133, e117_134, e117_135, e117_136, e117_139, zpush_some, zpush_none, true_or, or_true, true_and, and_true, ↓reduceIte, zq_ite, zq_itel, zo_3, zr_3_5, zo_14, s_Q_thereBits hz hX, tal]
  · simp only [e117_0, e117_1_0, e117_1_1, e117_1_2, e117_1_3, e117_1_4, e117_1_5, e117_1_6, e117_1_7, e117_1_8, e117_1_9, e117_1_d, e117_56, e117_57, e117_60, e117_63, e117_64, e117_65, e117_68, e117_71, e117_72, e117_73, e117_76, e117_79, e117_80, e117_81, e117_84, e117_87, e117_88, e117_89, e117_92, e117_95, e117_96, e117_97, e117_100, e117_103, e117_104, e117_105, e117_108, e117_111, e117_112, e117_113, e117_116, e117_119, e117_120, e117_121, e117_124, e117_127, e117_128, e117_129, e117_130, e117_133, e117_134, e117_135, e117_136, e117_139, zpush_some, zpush_none, true_or, or_true, true_and, and_true, ↓reduceIte, zq_ite, zq_itel, zo_3, zr_3_0, z41, s_X_present z41 z42 (by decide) (fun j hj => row_z j hj), p1, tal]
  · simp only [e117_0, e117_1_0, e117_1_1, e117_1_2, e117_1_3, e117_1_4, e117_1_5, e117_1_6, e117_1_7, e117_1_8, e117_1_9, e117_1_d, e117_56, e117_57, e117_60, e117_63, e117_64, e117_65, e117_68, e117_71, e117_72, e117_73, e117_76, e117_79, e117_80, e117_81, e117_84, e117_87, e117_88, e117_89, e117_92, e117_95, e117_96, e117_97, e117_100, e117_103, e117_104, e117_105, e117_108, e117_111, e117_112, e117_113, e117_116, e117_119, e117_120, e117_121, e117_124, e117_127, e117_128, e117_129, e117_130, e117_133, e117_134, e117_135, e117_136, e117_139, zpush_some, zpush_none, true_or, or_true, true_and, and_true, ↓reduceIte, zq_ite, zq_itel, zo_3, zr_3_1, z51, s_X_present z51 z52 (by decide) (fun j hj => text_z j hj), p2, tal]
  · simp only [e117_0, e117_1_0, e117_1_1, e117_1_2, e117_1_3, e117_1_4, e117_1_5, e117_1_6, e117_1_7, e117_1_8, e117_1_9, e117_1_d, e117_56, e117_57, e117_60, e117_63, e117_64, e117_65, e117_68, e117_71, e117_72, e117_73, e117_76, e117_79, e117_80, e117_81, e117_84, e117_87, e117_88, e117_89, e117_92, e117_95, e117_96, e117_97, e117_100, e117_103, e117_104, e117_105, e117_108, e117_111, e117_112, e117_113, e117_116, e117_119, e117_120, e117_121, e117_124, e117_127, e117_128, e117_129, e117_130, e117_133, e117_134, e117_135, e117_136, e117_139, zpush_some, zpush_none, true_or, or_true, true_and, and_true, ↓reduceIte, zq_ite, zq_itel, zo_3, zr_3_3, z81, s_X_present z81 z82 (by decide) (fun j hj => kept_z j hj), p3, tal]
  · simp only [e117_0, e117_1_0, e117_1_1, e117_1_2, e117_1_3, e117_1_4, e117_1_5, e117_1_6, e117_1_7, e117_1_8, e117_1_9, e117_1_d, e117_56, e117_57, e117_60, e117_63, e117_64, e117_65, e117_68, e117_71, e117_72, e117_73, e117_76, e117_79, e117_80, e117_81, e117_84, e117_87, e117_88, e117_89, e117_92, e117_95, e117_96, e117_97, e117_100, e117_103, e117_104, e117_105, e117_108, e117_111, e117_112, e117_113, e117_116, e117_119, e117_120, e117_121, e117_124, e117_127, e117_128, e117_129, e117_130, e117_133, e117_134, e117_135, e117_136, e117_139, zpush_some, zpush_none, true_or, or_true, true_and, and_true, ↓reduceIte, zq_ite, zq_itel, zo_3, s_X_howManyAre hX, tal]
  · simp only [e117_0, e117_1_0, e117_1_1, e117_1_2, e117_1_3, e117_1_4, e117_1_5, e117_1_6, e117_1_7, e117_1_8, e117_1_9, e117_1_d, e117_56, e117_57, e117_60, e117_63, e117_64, e117_65, e117_68, e117_71, e117_72, e117_73, e117_76, e117_79, e117_80, e117_81, e117_84, e117_87, e117_88, e117_89, e117_92, e117_95, e117_96, e117_97, e117_100, e117_103, e117_104, e117_105, e117_108, e117_111, e117_112, e117_113, e117_116, e117_119, e117_120, e117_121, e117_124, e117_127, e117_128, e117_129, e117_130, e117_133, e117_134, e117_135, e117_136, e117_139, zpush_some, zpush_none, true_or, or_true, true_and, and_true, ↓reduceIte, zq_ite, zq_itel, zo_3, d10, s_X_howManyAre hX, tal]
theorem s_M_count (hcs : ICs I L m K s0 D kp) {w : Nat} (hw : w < 11) : zV n (d + 3) 205 0 [.ref 62, .int (nI w)] [] I L Q ↔ Q (some (.int (tal I m K (rep K m s0 D) D.length w))) I L := by
  obtain ⟨hX, hM, hK, ht, hds, hn, hm, hok⟩ := hcs.now
  rcases (show w = 0 ∨ w = 1 ∨ w = 2 ∨ w = 3 ∨ w = 4 ∨ w = 5 ∨ w = 6 ∨ w = 7 ∨ w = 8 ∨ w = 9 ∨ w = 10 by omega) with rfl | rfl | rfl | rfl | rfl | rfl | rfl | rfl | rfl | rfl | rfl
  all_goals simp only [show nI 0 = 0 from rfl, show nI 1 = 1 from rfl, show nI 2 = 2 from rfl, show nI 3 = 3 from rfl, show nI 4 = 4 from rfl, show nI 5 = 5 from rfl, show nI 6 = 6 from rfl, show nI 7 = 7 from rfl, show nI 8 = 8 from rfl, show nI 9 = 9 from rfl, show nI 10 = 10 from rfl]
  · simp only [e205_0, e205_1_0, e205_1_1, e205_1_2, e205_1_3, e205_1_4, e205_1_5, e205_1_6, e205_1_7, e205_1_8, e205_1_9, e205_1_10, e205_1_d, e205_60, e205_61, e205_64, e205_65, e205_66, e205_69, e205_70, e205_71, e205_72, e205_73, e205_76, e205_77, e205_78, e205_81, e205_82, e205_83, e205_84, e205_85, e205_88, e205_89, e205_90, e205_93, e205_94, e205_95, e205_98, e205_99, e205_100, e205_103, e205_106, e205_107, e205_108, e205_111, e205_114, e205_115, e205_116, e205_119, e205_122, e205_123, e205_124, e205_125, e205_128, e205_129, e205_130, e205_131, e205_134, e205_135, e205_136, zpush_some, zpush_none, true_or, or_true, true_and, and_true, ↓reduceIte, zq_ite, zq_itel, zo_62, MK_m hK, tal]
  · simp only [e205_0, e205_1_0, e205_1_1, e205_1_2, e205_1_3, e205_1_4, e205_1_5, e205_1_6, e205_1_7, e205_1_8, e205_1_9, e205_1_10, e205_1_d, e205_60, e205_61, e205_64, e205_65, e205_66, e205_69, e205_70, e205_71, e205_72, e205_73, e205_76, e205_77, e205_78, e205_81, e205_82, e205_83, e205_84, e205_85, e205_88, e205_89, e205_90, e205_93, e205_94, e205_95, e205_98, e205_99, e205_100, e205_103, e205_106, e205_107, e205_108, e205_111, e205_114, e205_115, e205_116, e205_119, e205_122, e205_123, e205_124, e205_125, e205_128, e205_129, e205_130, e205_131, e205_134, e205_135, e205_136, zpush_some, zpush_none, true_or, or_true, true_and, and_true, ↓reduceIte, zq_ite, zq_itel, zo_62, zr_62_16, zn_70, zl_70, zi_0, zt_0, Nat.reduceLT, decide_true, MC_t hM, tal]
  · simp only [e205_0, e205_1_0, e205_1_1, e205_1_2, e205_1_3, e205_1_4, e205_1_5, e205_1_6, e205_1_7, e205_1_8, e205_1_9, e205_1_10, e205_1_d, e205_60, e205_61, e205_64, e205_65, e205_66, e205_69, e205_70, e205_71, e205_72, e205_73, e205_76, e205_77, e205_78, e205_81, e205_82, e205_83, e205_84, e205_85, e205_88, e205_89, e205_90, e205_93, e205_94, e205_95, e205_98, e205_99, e205_100, e205_103, e205_106, e205_107, e205_108, e205_111, e205_114, e205_115, e205_116, e205_119, e205_122, e205_123, e205_124, e205_125, e205_128, e205_129, e205_130, e205_131, e205_134, e205_135, e205_136, zpush_some, zpush_none, true_or, or_true, true_and, and_true, ↓reduceIte, zq_ite, zq_itel, zo_62, hn, tal]
  · simp only [e205_0, e205_1_0, e205_1_1, e205_1_2, e205_1_3, e205_1_4, e205_1_5, e205_1_6, e205_1_7, e205_1_8, e205_1_9, e205_1_10, e205_1_d, e205_60, e205_61, e205_64, e205_65, e205_66, e205_69, e205_70, e205_71, e205_72, e205_73, e205_76, e205_77, e205_78, e205_81, e205_82, e205_83, e205_84, e205_85, e205_88, e205_89, e205_90, e205_93, e205_94, e205_95, e205_98, e205_99, e205_100, e205_103, e205_106, e205_107, e205_108, e205_111, e205_114, e205_115, e205_116, e205_119, e205_122, e205_123, e205_124, e205_125, e205_128, e205_129, e205_130, e205_131, e205_134, e205_135, e205_136, zpush_some, zpush_none, true_or, or_true, true_and, and_true, ↓reduceIte, zq_ite, zq_itel, zo_62, zr_62_16, zn_70, zl_70, zi_1, zt_1, Nat.reduceLT, decide_true, MC_h hM, tal]
  · simp only [e205_0, e205_1_0, e205_1_1, e205_1_2, e205_1_3, e205_1_4, e205_1_5, e205_1_6, e205_1_7, e205_1_8, e205_1_9, e205_1_10, e205_1_d, e205_60, e205_61, e205_64, e205_65, e205_66, e205_69, e205_70, e205_71, e205_72, e205_73, e205_76, e205_77, e205_78, e205_81, e205_82, e205_83, e205_84, e205_85, e205_88, e205_89, e205_90, e205_93, e205_94, e205_95, e205_98, e205_99, e205_100, e205_103, e205_106, e205_107, e205_108, e205_111, e205_114, e205_115, e205_116, e205_119, e205_122, e205_123, e205_124, e205_125, e205_128, e205_129, e205_130, e205_131, e205_134, e205_135, e205_136, zpush_some, zpush_none, true_or, or_true, true_and, and_true, ↓reduceIte, zq_ite, zq_itel, zo_62, zr_62_16, zn_70, zl_70, zi_2, zt_2, Nat.reduceLT, decide_true, MC_x hM, s_M_bits, tal]
  · simp only [e205_0, e205_1_0, e205_1_1, e205_1_2, e205_1_3, e205_1_4, e205_1_5, e205_1_6, e205_1_7, e205_1_8, e205_1_9, e205_1_10, e205_1_d, e205_60, e205_61, e205_64, e205_65, e205_66, e205_69, e205_70, e205_71, e205_72, e205_73, e205_76, e205_77, e205_78, e205_81, e205_82, e205_83, e205_84, e205_85, e205_88, e205_89, e205_90, e205_93, e205_94, e205_95, e205_98, e205_99, e205_100, e205_103, e205_106, e205_107, e205_108, e205_111, e205_114, e205_115, e205_116, e205_119, e205_122, e205_123, e205_124, e205_125, e205_128, e205_129, e205_130, e205_131, e205_134, e205_135, e205_136, zpush_some, zpush_none, true_or, or_true, true_and, and_true, ↓reduceIte, zq_ite, zq_itel, zo_62, s_M_thereOnes hM hK hm, tal]
  · simp only [e205_0, e205_1_0, e205_1_1, e205_1_2, e205_1_3, e205_1_4, e205_1_5, e205_1_6, e205_1_7, e205_1_8, e205_1_9, e205_1_10, e205_1_d, e205_60, e205_61, e205_64, e205_65, e205_66, e205_69, e205_70, e205_71, e205_72, e205_73, e205_76, e205_77, e205_78, e205_81, e205_82, e205_83, e205_84, e205_85, e205_88, e205_89, e205_90, e205_93, e205_94, e205_95, e205_98, e205_99, e205_100, e205_103, e205_106, e205_107, e205_108, e205_111, e205_114, e205_115, e205_116, e205_119, e205_122, e205_123, e205_124, e205_125, e205_128, e205_129, e205_130, e205_131, e205_134, e205_135, e205_136, zpush_some, zpush_none, true_or, or_true, true_and, and_true, ↓reduceIte, zq_ite, zq_itel, zo_62, zr_62_0, zn_63, s_M_thereOf zn_63 zl_63 (by decide), tal]
  · simp only [e205_0, e205_1_0, e205_1_1, e205_1_2, e205_1_3, e205_1_4, e205_1_5, e205_1_6, e205_1_7, e205_1_8, e205_1_9, e205_1_10, e205_1_d, e205_60, e205_61, e205_64, e205_65, e205_66, e205_69, e205_70, e205_71, e205_72, e205_73, e205_76, e205_77, e205_78, e205_81, e205_82, e205_83, e205_84, e205_85, e205_88, e205_89, e205_90, e205_93, e205_94, e205_95, e205_98, e205_99, e205_100, e205_103, e205_106, e205_107, e205_108, e205_111, e205_114, e205_115, e205_116, e205_119, e205_122, e205_123, e205_124, e205_125, e205_128, e205_129, e205_130, e205_131, e205_134, e205_135, e205_136, zpush_some, zpush_none, true_or, or_true, true_and, and_true, ↓reduceIte, zq_ite, zq_itel, zo_62, zr_62_2, zn_65, s_M_thereOf zn_65 zl_65 (by decide), tal]
  · simp only [e205_0, e205_1_0, e205_1_1, e205_1_2, e205_1_3, e205_1_4, e205_1_5, e205_1_6, e205_1_7, e205_1_8, e205_1_9, e205_1_10, e205_1_d, e205_60, e205_61, e205_64, e205_65, e205_66, e205_69, e205_70, e205_71, e205_72, e205_73, e205_76, e205_77, e205_78, e205_81, e205_82, e205_83, e205_84, e205_85, e205_88, e205_89, e205_90, e205_93, e205_94, e205_95, e205_98, e205_99, e205_100, e205_103, e205_106, e205_107, e205_108, e205_111, e205_114, e205_115, e205_116, e205_119, e205_122, e205_123, e205_124, e205_125, e205_128, e205_129, e205_130, e205_131, e205_134, e205_135, e205_136, zpush_some, zpush_none, true_or, or_true, true_and, and_true, ↓reduceIte, zq_ite, zq_itel, zo_62, zr_62_21, zn_74, s_M_thereOf zn_74 zl_74 (by decide), tal]
  · simp only [e205_0, e205_1_0, e205_1_1, e205_1_2, e205_1_3, e205_1_4, e205_1_5, e205_1_6, e205_1_7, e205_1_8, e205_1_9, e205_1_10, e205_1_d, e205_60, e205_61, e205_64, e205_65, e205_66, e205_69, e205_70, e205_71, e205_72, e205_73, e205_76, e205_77, e205_78, e205_81, e205_82, e205_83, e205_84, e205_85, e205_88, e205_89, e205_90, e205_93, e205_94, e205_95, e205_98, e205_99, e205_100, e205_103, e205_106, e205_107, e205_108, e205_111, e205_114, e205_115, e205_116, e205_119, e205_122, e205_123, e205_124, e205_125, e205_128, e205_129, e205_130, e205_131, e205_134, e205_135, e205_136, zpush_some, zpush_none, true_or, or_true, true_and, and_true, ↓reduceIte, zq_ite, zq_itel, zo_62, s_M_kindMany hK hm 1 (by decide), tal]
  · simp only [e205_0, e205_1_0, e205_1_1, e205_1_2, e205_1_3, e205_1_4, e205_1_5, e205_1_6, e205_1_7, e205_1_8, e205_1_9, e205_1_10, e205_1_d, e205_60, e205_61, e205_64, e205_65, e205_66, e205_69, e205_70, e205_71, e205_72, e205_73, e205_76, e205_77, e205_78, e205_81, e205_82, e205_83, e205_84, e205_85, e205_88, e205_89, e205_90, e205_93, e205_94, e205_95, e205_98, e205_99, e205_100, e205_103, e205_106, e205_107, e205_108, e205_111, e205_114, e205_115, e205_116, e205_119, e205_122, e205_123, e205_124, e205_125, e205_128, e205_129, e205_130, e205_131, e205_134, e205_135, e205_136, zpush_some, zpush_none, true_or, or_true, true_and, and_true, ↓reduceIte, zq_ite, zq_itel, zo_62, s_M_kindMany hK hm 3 (by decide), tal]
theorem p_count (h : Inv I L) (w : Int32) : zV n (d + 4) 116 0 [.ref 3, .int w] [] I L (fun v1 I1 L1 => zV n (d + 4) 205 0 [.ref 62, .int w] [] I1 L1 (fun v2 I2 L2 => same v1 v2 ∧ Inv I2 L2)) := by
  obtain ⟨m, K, s0, D, kp, hcs⟩ := h.apart
  rcases rng w 10 (by decide) (a := 11) (b := 10) rfl rfl with h1 | ⟨h1, h2, h3⟩ | ⟨j, hj, rfl, h1, h2, h3⟩
  · have g : w.toInt < 0 ∨ 10 < w.toInt := Or.inl (by have := Int32.lt_iff_toInt_lt.mp (of_eq_true h1); rwa [Int32.toInt_zero] at this)
    simp only [e116_0, e116_1, e116_4, e116_5, e116_7, e116_10, e116_11, e116_14, e116_15, e116_16, e116_19, e205_0, e205_1_0, e205_1_1, e205_1_2, e205_1_3, e205_1_4, e205_1_5, e205_1_6, e205_1_7, e205_1_8, e205_1_9, e205_1_10, e205_1_d, e205_60, e205_61, e205_64, e205_65, e205_66, e205_69, e205_70, e205_71, e205_72, e205_73, e205_76, e205_77, e205_78, e205_81, e205_82, e205_83, e205_84, e205_85, e205_88, e205_89, e205_90, e205_93, e205_94, e205_95, e205_98, e205_99, e205_100, e205_103, e205_106, e205_107, e205_108, e205_111, e205_114, e205_115, e205_116, e205_119, e205_122, e205_123, e205_124, e205_125, e205_128, e205_129, e205_130, e205_131, e205_134, e205_135, e205_136, zpush_some, zpush_none, true_or, or_true, true_and, and_true, ↓reduceIte, zq_ite, zq_itel, h1, g]
    exact ⟨same_i, h⟩
  · have g : w.toInt < 0 ∨ 10 < w.toInt := Or.inr (Int32.lt_iff_toInt_lt.mp (of_eq_true h3))
    have h4 : (w < 11) = False := eq_false (by rw [Int32.not_lt]; exact of_eq_true h2)
    simp only [e116_0, e116_1, e116_4, e116_5, e116_7, e116_10, e116_11, e116_14, e116_15, e116_16, e116_19, e205_0, e205_1_0, e205_1_1, e205_1_2, e205_1_3, e205_1_4, e205_1_5, e205_1_6, e205_1_7, e205_1_8, e205_1_9, e205_1_10, e205_1_d, e205_60, e205_61, e205_64, e205_65, e205_66, e205_69, e205_70, e205_71, e205_72, e205_73, e205_76, e205_77, e205_78, e205_81, e205_82, e205_83, e205_84, e205_85, e205_88, e205_89, e205_90, e205_93, e205_94, e205_95, e205_98, e205_99, e205_100, e205_103, e205_106, e205_107, e205_108, e205_111, e205_114, e205_115, e205_116, e205_119, e205_122, e205_123, e205_124, e205_125, e205_128, e205_129, e205_130, e205_131, e205_134, e205_135, e205_136, zpush_some, zpush_none, true_or, or_true, true_and, and_true, ↓reduceIte, zq_ite, zq_itel, h1, h2, h4, g]
    exact ⟨same_i, h⟩
  · have h4 : (nI j < 11) = True := eq_true (by rw [← Int32.not_le]; exact of_eq_false h2)
    simp only [e116_0, e116_1, e116_4, e116_5, e116_7, e116_10, e116_11, e116_14, e116_15, e116_16, e116_19, zpush_some, zpush_none, true_or, or_true, true_and, and_true, ↓reduceIte, zq_ite, zq_itel, h1, h4, zo_3, s_X_tally h hcs hj, s_M_count hcs hj]
    exact ⟨same_i, h⟩
end
