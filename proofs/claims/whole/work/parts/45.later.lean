/-! WHAT COMES -/
section
variable {n d : Nat} {I I' : zi} {L L' : zl} {Q : zq} {K K' : Nat → Nat} {s s' s0 : Cs} {k m q i a b l f : Nat} {D D' : List Nat} {c : Nat} {kp kp' : Nat → Option (List Nat)}
theorem l_M_begin (hQ : ∀ I', (∀ k j, k ≠ 77 → I' k j = I k j) → (∀ l, l < 32 → I' 77 l = 0) → Q none I' L) :
    ∀ r i I', i + r = 32 → (∀ k j, k ≠ 77 → I' k j = I k j) → (∀ l, l < i → I' 77 l = 0) → zV n d 173 17 [.ref 62, .int (nI i)] [] I' L Q := by
  intro r
  induction r with
  | zero =>
    intro i I' hi h1 h2
    have e : i = 32 := by omega
    subst e
    simp only [e173_17, e173_18, e173_20, e173_36, zpush_some, zpush_none, true_or, or_true, true_and, and_true, ↓reduceIte, zq_ite, zq_itel, show nI 32 = (32 : Int32) from rfl, Int32.le_refl]
    exact hQ I' h1 h2
  | succ r ih =>
    intro i I' hi h1 h2
    have hlt : ((32 : Int32) ≤ nI i) = False := eq_false (nI_ge (b := 32) (by omega) (by omega))
    have z1 : zin (nI i) 32 = true := zin_ok (by omega) (by decide)
    have c1 : (nI i).toNatClampNeg = i := nI_clamp (by omega)
    simp only [e173_17, e173_18, e173_20, e173_23, e173_24, e173_27, e173_28, e173_29, zpush_some, zpush_none, true_or, or_true, true_and, and_true, ↓reduceIte, zq_ite, zq_itel, hlt, zo_62, zr_62_24, zn_77, zw_77, zl_77, z1, c1]
    simp only [e173_30, e173_33, nI_1]
    refine ih (i + 1) _ (by omega) (fun k j g => by rw [zup_ne g]; exact h1 k j g) (fun l hl => ?_)
    by_cases e : l = i
    · subst e; exact zup_eq
    · rw [zup_nj e]; exact h2 l (by omega)
/-- the check's cube to try -/
theorem s_M_begin (hM : MC I 70 m s) (hQ : ∀ I', MC I' 75 m s → (∀ k j, k ≠ 75 → k ≠ 77 → I' k j = I k j) → (∀ l, l < 32 → I' 77 l = 0) → Q none I' L) : zV n (d + 1) 173 0 [.ref 62, .null] [] I L Q := by
  simp only [e173_0, e173_1, e173_4, e173_5, e173_6, e173_9, e173_10, e173_12, zpush_some, zpush_none, true_or, or_true, true_and, and_true, ↓reduceIte, zq_ite, zq_itel, zo_62, zr_62_16, zr_62_22, zn_70, zn_75]
  refine s_M_bring (o := 0) (p := 0) (N := 24) ⟨zn_70, zn_75, zw_75⟩ (by decide) (by rw [zl_70]; decide) (by rw [zl_75]; decide) (by rw [zl_70]; decide) (by rw [zl_75]; decide) (fun I1 h1 h2 => ?_)
  simp only [e173_12, e173_15, e173_16, zpush_some, zpush_none, true_or, or_true, true_and, and_true, ↓reduceIte, zq_ite, zq_itel]
  refine l_M_begin (I := I1) (fun I2 x1 x2 => ?_) 32 0 I1 rfl (fun _ _ _ => rfl) (fun l hl => absurd hl (by omega))
  refine hQ I2 (MCo_0.mp (MCo_cpy (MCo_0.mpr hM) (fun j hj => ?_))) (fun k j a b => ?_) x2
  · rw [x1 75 _ (by decide), h2 j hj]
  · rw [x1 k j b, h1 k j (Or.inl a)]
/-- many steps -/
def stps (K : Nat → Nat) (m : Nat) (s : Cs) : Nat → Cs
  | 0 => s
  | i + 1 => stp K m (stps K m s i)
theorem stps_t (i : Nat) : (stps K m s i).2.2.2.2.1 = s.2.2.2.2.1 + i := by
  induction i with
  | zero => rfl
  | succ i ih => show (stps K m s i).2.2.2.2.1 + 1 = _; rw [ih]; omega
theorem l_X_later {w : Nat} (hw : w ≤ 60) (hs : s.2.2.2.2.1 ≤ 99) {i1 : Value} (hQ : ∀ I', XC I' L 19 m K (stps K m s w) → (∀ k j, (k < 19 ∨ 23 < k) → I' k j = I k j) → zV n (d + 4) 75 54 [.ref 3, i1, .int (nI w), .int (nI w)] [] I' L Q) :
    ∀ r i I', i + r = w → XC I' L 19 m K (stps K m s i) → (∀ k j, (k < 19 ∨ 23 < k) → I' k j = I k j) → zV n (d + 4) 75 36 [.ref 3, i1, .int (nI w), .int (nI i)] [] I' L Q := by
  have hz := Qa_z (k := 19) (Or.inr (Or.inr rfl))
  intro r
  induction r with
  | zero =>
    intro i I' hi h1 h2
    have e : i = w := by omega
    subst e
    simp only [e75_36, e75_37, e75_38, zpush_some, zpush_none, true_or, or_true, true_and, and_true, ↓reduceIte, zq_ite, zq_itel, Int32.le_refl]
    exact hQ I' h1 h2
  | succ r ih =>
    intro i I' hi h1 h2
    have hlt : (nI w ≤ nI i) = False := eq_false (nI_ge (by omega) (by omega))
    simp only [e75_36, e75_37, e75_38, e75_41, e75_42, e75_45, zpush_some, zpush_none, true_or, or_true, true_and, and_true, ↓reduceIte, zq_ite, zq_itel, hlt, zo_3, zr_3_6, zo_19]
    refine t_Q_advance hz h1 (by rw [stps_t]; omega) (fun I2 x1 x2 x3 => ?_)
    simp only [e75_45, e75_48, e75_51, zpush_some, zpush_none, true_or, or_true, true_and, and_true, ↓reduceIte, zq_ite, zq_itel, nI_1]
    exact ih (i + 1) I2 (by omega) x1 (fun k j hk => by rw [x2 k j (by omega) (by omega) (Or.inl (by omega))]; exact h2 k j hk)
theorem inv_told (h : Inv I L) (he : I' 3 12 = I' 62 6) (hI : ∀ k j, ((k = 3 ∧ j = 11) ∨ k = 35 ∨ k = 67 ∨ (36 ≤ k ∧ k < 56) ∨ (63 ≤ k ∧ k ≤ 66) ∨ (k = 62 ∧ j = 4) ∨ cubeCell k j) → I' k j = I k j) (hL : ∀ k j, (k = 3 ∨ k = 62 ∨ k = 9 ∨ k = 14) → L' k j = L k j) : Inv I' L' := by
  obtain ⟨⟨a1, a2, a3, a4, a5⟩, h2, h3, h4⟩ := h
  refine ⟨⟨by rw [hI _ _ (by omega), hI _ _ (by omega)]; exact a1, fun f f1 f2 => by rw [hI _ _ (by omega), hI _ _ (by omega)]; exact a2 f f1 f2, he, by rw [hL _ _ (by omega), hL _ _ (by omega)]; exact a4, by rw [hL _ _ (by omega), hL _ _ (by omega)]; exact a5⟩, IRt_eq h2 (fun k j b1 b2 => hI k j (by omega)) (fun j => hI _ j (by omega)) (fun j => hI _ j (by omega)), IRt_eq h3 (fun k j b1 b2 => hI k j (by omega)) (fun j => hI _ j (by omega)) (fun j => hI _ j (by omega)), IC_eq h4 (fun k j hc => hI k j (Or.inr (Or.inr (Or.inr (Or.inr (Or.inr (Or.inr hc))))))) (fun k hk => hL k 5 (by omega))⟩
theorem sub_add' (a b c : Int32) : a - b + c = a + c - b := by
  rw [Int32.sub_eq_add_neg, Int32.sub_eq_add_neg, Int32.add_assoc, Int32.add_assoc, Int32.add_comm (-b) c]
theorem l_M_later {w : Nat} (hw : w ≤ 60) (hs : s.2.2.2.2.1 ≤ 99) (hK : MK I m K) {i1 : Value} (hQ : ∀ I', MC I' 75 m (stps K m s w) → (∀ k j, k ≠ 75 → k ≠ 76 → k ≠ 77 → I' k j = I k j) → zV n (d + 5) 172 52 [.ref 62, i1, .int (nI w), .int (nI (stps K m s w).2.2.2.2.2 - nI s.2.2.2.2.2), .int (nI w)] [] I' L Q) :
    ∀ r i I', i + r = w → MC I' 75 m (stps K m s i) → (∀ k j, k ≠ 75 → k ≠ 76 → k ≠ 77 → I' k j = I k j) → zV n (d + 5) 172 29 [.ref 62, i1, .int (nI w), .int (nI (stps K m s i).2.2.2.2.2 - nI s.2.2.2.2.2), .int (nI i)] [] I' L Q := by
  intro r
  induction r with
  | zero =>
    intro i I' hi h1 h2
    have e : i = w := by omega
    subst e
    simp only [e172_29, e172_31, e172_32, zpush_some, zpush_none, true_or, or_true, true_and, and_true, ↓reduceIte, zq_ite, zq_itel, Int32.le_refl]
    exact hQ I' h1 h2
  | succ r ih =>
    intro i I' hi h1 h2
    have hlt : (nI w ≤ nI i) = False := eq_false (nI_ge (by omega) (by omega))
    simp only [e172_29, e172_31, e172_32, e172_35, e172_36, e172_37, e172_38, e172_41, zpush_some, zpush_none, true_or, or_true, true_and, and_true, ↓reduceIte, zq_ite, zq_itel, hlt, zo_62, zr_62_22, zn_75]
    refine t_M_steps h1 (MK_eq hK (fun j => h2 _ _ (by decide) (by decide) (by decide)) (fun j => h2 _ _ (by decide) (by decide) (by decide))) Ma_75 (by decide) (by rw [stps_t]; omega) (fun I2 x1 x2 x3 => ?_)
    have e : (nI (stps K m s i).2.2.2.2.2 - nI s.2.2.2.2.2 + nI (cnt (stps K m s i).1 (wvs K (stps K m s i)) (bt (stps K m s i).2.2.2.1) m)) = nI (stps K m s (i + 1)).2.2.2.2.2 - nI s.2.2.2.2.2 := by
      rw [sub_add', i_tk]; rfl
    simp only [e172_41, e172_44, e172_45, e172_46, e172_46a, e172_49, zpush_some, zpush_none, true_or, or_true, true_and, and_true, ↓reduceIte, zq_ite, zq_itel, e, nI_1]
    exact ih (i + 1) I2 (by omega) x1 (fun k j a b c => by rw [x2 k j a b c]; exact h2 k j a b c)
theorem p_later (h : Inv I L) (i w : Int32) : zV n (d + 5) 75 0 [.ref 3, .int i, .int w, .null] [] I L (fun v1 I1 L1 => zV n (d + 5) 172 0 [.ref 62, .int i, .int w, .null, .null] [] I1 L1 (fun v2 I2 L2 => same v1 v2 ∧ Inv I2 L2)) := by
  obtain ⟨m, K, s, hm, hok, ht, hX, hM, hK⟩ := h.view
  have hz := Qa_z (k := 14) (Or.inr (Or.inl rfl))
  have hz2 := Qa_z (k := 19) (Or.inr (Or.inr rfl))
  rcases rngd i (show m < 2 ^ 31 by omega) with g1 | ⟨g1, g2⟩ | ⟨p, hp, rfl, g1, g2⟩
  · simp only [e75_0, e75_1, e75_4, e75_5, e75_8, e75_11, e75_12, e75_15, e75_16, e75_18, e75_21, e75_22, e75_23, e75_24, e75_27, e75_28, e75_31, e75_34, e75_35, e75_36, e75_37, e75_38, e75_41, e75_42, e75_45, e75_48, e75_51, e75_54, e75_55, e75_56, e75_59, e75_62, e75_63, e75_64, e75_65, e75_68, e75_71, e75_72, e75_75, e75_78, e75_79, e75_82, e172_0, e172_1, e172_2, e172_5, e172_8, e172_9, e172_10, e172_12, e172_15, e172_18, e172_19, e172_20, e172_21, e172_24, e172_25, e172_26, e172_27, e172_27a, e172_29, e172_31, e172_32, e172_35, e172_36, e172_37, e172_38, e172_41, e172_44, e172_45, e172_46, e172_46a, e172_49, e172_52, e172_53, e172_54, e172_57, e172_58, e172_59, e172_62, e172_63, e172_64, e172_65, e172_66, zpush_some, zpush_none, true_or, or_true, true_and, and_true, ↓reduceIte, zq_ite, zq_itel, zo_3, zr_3_5, zo_62, zo_14, s_Q_hasMessage hz, XC_m hX, s_M_isOne hK, g1]
    exact ⟨same_i, h⟩
  · simp only [e75_0, e75_1, e75_4, e75_5, e75_8, e75_11, e75_12, e75_15, e75_16, e75_18, e75_21, e75_22, e75_23, e75_24, e75_27, e75_28, e75_31, e75_34, e75_35, e75_36, e75_37, e75_38, e75_41, e75_42, e75_45, e75_48, e75_51, e75_54, e75_55, e75_56, e75_59, e75_62, e75_63, e75_64, e75_65, e75_68, e75_71, e75_72, e75_75, e75_78, e75_79, e75_82, e172_0, e172_1, e172_2, e172_5, e172_8, e172_9, e172_10, e172_12, e172_15, e172_18, e172_19, e172_20, e172_21, e172_24, e172_25, e172_26, e172_27, e172_27a, e172_29, e172_31, e172_32, e172_35, e172_36, e172_37, e172_38, e172_41, e172_44, e172_45, e172_46, e172_46a, e172_49, e172_52, e172_53, e172_54, e172_57, e172_58, e172_59, e172_62, e172_63, e172_64, e172_65, e172_66, zpush_some, zpush_none, true_or, or_true, true_and, and_true, ↓reduceIte, zq_ite, zq_itel, zo_3, zr_3_5, zo_62, zo_14, s_Q_hasMessage hz, XC_m hX, s_M_isOne hK, g1, g2]
    exact ⟨same_i, h⟩
  · rcases rng w 60 (by decide) (a := 61) (b := 60) rfl rfl with h1 | ⟨h1, h2, h3⟩ | ⟨j, hj, rfl, h1, h2, h3⟩
    · simp only [e75_0, e75_1, e75_4, e75_5, e75_8, e75_11, e75_12, e75_15, e75_16, e75_18, e75_21, e75_22, e75_23, e75_24, e75_27, e75_28, e75_31, e75_34, e75_35, e75_36, e75_37, e75_38, e75_41, e75_42, e75_45, e75_48, e75_51, e75_54, e75_55, e75_56, e75_59, e75_62, e75_63, e75_64, e75_65, e75_68, e75_71, e75_72, e75_75, e75_78, e75_79, e75_82, e172_0, e172_1, e172_2, e172_5, e172_8, e172_9, e172_10, e172_12, e172_15, e172_18, e172_19, e172_20, e172_21, e172_24, e172_25, e172_26, e172_27, e172_27a, e172_29, e172_31, e172_32, e172_35, e172_36, e172_37, e172_38, e172_41, e172_44, e172_45, e172_46, e172_46a, e172_49, e172_52, e172_53, e172_54, e172_57, e172_58, e172_59, e172_62, e172_63, e172_64, e172_65, e172_66, zpush_some, zpush_none, true_or, or_true, true_and, and_true, ↓reduceIte, zq_ite, zq_itel, zo_3, zr_3_5, zo_62, zo_14, s_Q_hasMessage hz, XC_m hX, s_M_isOne hK, s_M_in, g1, g2, h1, zz_1, not_true_eq_false]
      exact ⟨same_i, h⟩
    · have h4 : (w ≤ 60) = False := eq_false (by rw [Int32.not_le]; exact of_eq_true h3)
      simp only [e75_0, e75_1, e75_4, e75_5, e75_8, e75_11, e75_12, e75_15, e75_16, e75_18, e75_21, e75_22, e75_23, e75_24, e75_27, e75_28, e75_31, e75_34, e75_35, e75_36, e75_37, e75_38, e75_41, e75_42, e75_45, e75_48, e75_51, e75_54, e75_55, e75_56, e75_59, e75_62, e75_63, e75_64, e75_65, e75_68, e75_71, e75_72, e75_75, e75_78, e75_79, e75_82, e172_0, e172_1, e172_2, e172_5, e172_8, e172_9, e172_10, e172_12, e172_15, e172_18, e172_19, e172_20, e172_21, e172_24, e172_25, e172_26, e172_27, e172_27a, e172_29, e172_31, e172_32, e172_35, e172_36, e172_37, e172_38, e172_41, e172_44, e172_45, e172_46, e172_46a, e172_49, e172_52, e172_53, e172_54, e172_57, e172_58, e172_59, e172_62, e172_63, e172_64, e172_65, e172_66, zpush_some, zpush_none, true_or, or_true, true_and, and_true, ↓reduceIte, zq_ite, zq_itel, zo_3, zr_3_5, zo_62, zo_14, s_Q_hasMessage hz, XC_m hX, s_M_isOne hK, s_M_in, g1, g2, h1, h3, h4, zz_1, not_true_eq_false]
      exact ⟨same_i, h⟩
    · have h4 : (nI j ≤ 60) = True := eq_true (by rw [← Int32.not_lt]; exact of_eq_false h3)
      have zp : zin (nI p) 7 = true := zin_ok (by omega) (by decide)
      have cp : (nI p).toNatClampNeg = p := nI_clamp (by omega)
      have z3 : zin (nI (3 + p)) 24 = true := zin_ok (by omega) (by decide)
      have y3 : (nI (3 + p)).toNatClampNeg = 3 + p := nI_clamp (by omega)
      simp only [e75_0, e75_1, e75_4, e75_5, e75_8, e75_11, e75_12, e75_15, e75_16, e75_18, e75_21, e75_22, e75_23, e75_24, e75_27, e75_28, e75_31, zpush_some, zpush_none, true_or, or_true, true_and, and_true, ↓reduceIte, zq_ite, zq_itel, zo_3, zr_3_5, zr_3_6, zo_14, zo_19, s_Q_hasMessage hz, XC_m hX, g1, g2, h1, h4]
      refine t_Q_take hz2 hz (by decide) hX (fun I1 L1 x1 x2 x3 => ?_)
      simp only [e75_31, e75_34, e75_35, zpush_some, zpush_none, true_or, or_true, true_and, and_true, ↓reduceIte, zq_ite, zq_itel]
      refine l_X_later (I := I1) (L := L1) (show j ≤ 60 by omega) ht (fun I2 y1 y2 => ?_) j 0 I1 (by omega) x1 (fun _ _ _ => rfl)
      have e1 := (XC_get y1 hp).2.1.1
      have e2 : I2 14 7 = nI s.2.2.2.2.2 := by rw [y2 14 7 (by decide), x2 14 7 (by decide)]; exact XC_h hX
      simp only [e75_54, e75_55, e75_56, e75_59, e75_62, e75_63, e75_64, e75_65, e75_68, e75_71, e75_72, e75_75, e75_78, e75_79, e75_82, zpush_some, zpush_none, true_or, or_true, true_and, and_true, ↓reduceIte, zq_ite, zq_itel, zo_3, zr_3_5, zr_3_6, zo_14, zo_19, zr_19_1, zn_21, zl_21, zp, cp, e1, XC_h y1, e2, s_X_tell]
      have hI : ∀ {v : Int32} k j, (k < 19 ∨ 23 < k) → k ≠ 3 → zup I2 3 12 v k j = I k j := fun {v} k j a b => by rw [zup_ne b, y2 k j a, x2 k j (by omega)]
      have hK2 : ∀ {v : Int32}, MK (zup I2 3 12 v) m K := fun {v} => MK_eq hK (fun j => hI _ _ (by decide) (by decide)) (fun j => hI _ _ (by decide) (by decide))
      simp only [e172_0, e172_1, e172_2, e172_5, e172_8, e172_9, e172_10, e172_12, e172_15, e172_18, e172_19, e172_20, e172_21, zpush_some, zpush_none, true_or, or_true, true_and, and_true, ↓reduceIte, zq_ite, zq_itel, zo_62, s_M_isOne hK2, s_M_in, g1, g2, h1, h3, zz_1, not_false_eq_true]
      refine s_M_begin (MC_eq hM (fun j => hI _ _ (by decide) (by decide))) (fun I3 w1 w2 w3 => ?_)
      simp only [e172_21, e172_24, e172_25, e172_26, e172_27, e172_27a, zpush_some, zpush_none, true_or, or_true, true_and, and_true, ↓reduceIte, zq_ite, zq_itel]
      have hK3 : MK I3 m K := MK_eq hK2 (fun j => w2 _ _ (by decide) (by decide)) (fun j => w2 _ _ (by decide) (by decide))
      have L0 := l_M_later (n := n) (d := d) (L := L1) (Q := fun v2 I2 L2 => same (some (.int (nI ((stps K m s j).1 p)))) v2 ∧ Inv I2 L2) (show j ≤ 60 by omega) ht hK3 (i1 := .int (nI p)) (fun I4 v1 v2 => by
        have e5 := (MC_get v1 hm hp).1.1
        simp only [e172_52, e172_53, e172_54, e172_57, e172_58, e172_59, e172_62, e172_63, e172_64, e172_65, e172_66, zpush_some, zpush_none, true_or, or_true, true_and, and_true, ↓reduceIte, zq_ite, zq_itel, zo_62, s_M_tells, zr_62_22, zn_75, zl_75, i_3, z3, y3, zup_ne (show (75 : Nat) ≠ 62 by decide), e5]
        refine ⟨same_i, inv_told h ?_ (fun k j hk => ?_) (fun k j hk => x3 k j (by omega))⟩
        · rw [zup_ne (by decide), zup_eq, v2 _ _ (by decide) (by decide) (by decide), w2 _ _ (by decide) (by decide), zup_eq]
        · unfold cubeCell at hk
          have e6 : ∀ {v : Int32}, zup I4 62 6 v k j = I4 k j := fun {v} => by
            by_cases g : k = 62
            · exact zup_nj (by omega)
            · exact zup_ne g
          rw [e6, v2 k j (by omega) (by omega) (by omega), w2 k j (by omega) (by omega)]
          by_cases g : k = 3
          · subst g
            rw [zup_nj (by omega), y2 3 j (by decide), x2 3 j (by decide)]
          · exact hI k j (by omega) g) j 0 I3 (by omega) w1 (fun _ _ _ _ _ => rfl)
      have e0 : nI (stps K m s 0).2.2.2.2.2 - nI s.2.2.2.2.2 = 0 := Int32.sub_self _
      rw [e0] at L0
      exact L0
end
