/-! ARRIVES -/
section
variable {n d : Nat} {I I' : zi} {L L' : zl} {Q : zq} {K K' : Nat → Nat} {m p : Nat}
/-- whether one goes in a step -/
def gos (K : Nat → Nat) (s : Cs) (p : Nat) : Bool := goes s.1 (wvs K s) (bt s.2.2.2.1) p
def arr (K : Nat → Nat) (m p : Nat) : Nat → Cs → Nat → Nat → Option (Nat × Nat)
  | 0, _, _, _ => none
  | r + 1, s, t, h => if thr s p then some (t, h) else arr K m p r (stp K m s) (t + 1) (h + if gos K s p then 1 else 0)
def arvV : Option (Nat × Nat) → Int32
  | none => -9
  | some (t, _) => nI t
def arvI (k j : Nat) : Option (Nat × Nat) → zi → zi
  | none, I => I
  | some (_, h), I => zup I k j (nI h)
theorem xor_ne : ∀ c, c < 16 → ∀ w, w < 4 → ¬ c = c ^^^ 2 ^ w := by decide +kernel
theorem gos_c {s : Cs} (hp : p < m) (hc : s.1 p < 16) : (s.1 p = (stp K m s).1 p) = (gos K s p = false) := by
  show (s.1 p = if p < m then C1 s.1 (wvs K s) (bt s.2.2.2.1) p else s.1 p) = (goes s.1 (wvs K s) (bt s.2.2.2.1) p = false)
  rw [if_pos hp]
  unfold C1
  cases hg : goes s.1 (wvs K s) (bt s.2.2.2.1) p
  · simp
  · have hw : wvs K s p < 4 := by
      unfold goes goes1 at hg
      simp at hg
      exact hg.1
    have := xor_ne _ hc _ hw
    simp [this]
theorem r_X_arrives (hp : p < m) {o : Option (Nat × Nat)} (hQ : ∀ I', (∀ k j, (k < 19 ∨ 23 < k) → I' k j = I k j) → Q (some (.int (arvV o))) (arvI 3 12 o I') L) :
    ∀ r t h (s : Cs) I', t + r = 61 → arr K m p r s t h = o → s.2.2.2.2.1 ≤ 99 + t → XC I' L 19 m K s → (∀ k j, (k < 19 ∨ 23 < k) → I' k j = I k j) → zV n (d + 4) 76 28 [.ref 3, .int (nI p), .int (nI h), .int (nI t)] [] I' L Q := by
  have hz := Qa_z (k := 19) (Or.inr (Or.inr rfl))
  intro r
  induction r with
  | zero =>
    intro t h s I' ht ho hs hx h2
    have e : t = 61 := by omega
    subst e
    subst ho
    have g : ((60 : Int32) < nI 61) = True := eq_true (by decide)
    simp only [e76_28, e76_29, e76_31, e76_84, e76_86, zpush_some, zpush_none, true_or, or_true, true_and, and_true, ↓reduceIte, zq_ite, zq_itel, g]
    exact hQ I' h2
  | succ r ih =>
    intro t h s I' ht ho hs hx h2
    have hlt : ((60 : Int32) < nI t) = False := (nI_ltN (a := 60) (by decide) (by omega)).trans (eq_false (by omega))
    have m7 := XC_m7 hx
    cases hth : thr s p
    · rw [arr, hth] at ho
      simp only [e76_28, e76_29, e76_31, e76_34, e76_35, e76_38, e76_39, e76_42, e76_45, e76_46, e76_47, e76_48, e76_51, e76_52, e76_53, e76_56, zpush_some, zpush_none, true_or, or_true, true_and, and_true, ↓reduceIte, zq_ite, zq_itel, hlt, zo_3, zr_3_6, zo_19, s_Q_isThere hz hx hp, hth, zb_f]
      refine t_Q_advance hz hx (by omega) (fun I2 x1 x2 x3 => ?_)
      have gl : gm s.1 (wvs K s) (bt s.2.2.2.1) m < 128 := Nat.lt_of_lt_of_le (gm_lt _ _ _ m) (Nat.pow_le_pow_right (by decide) m7)
      have gb : (gm s.1 (wvs K s) (bt s.2.2.2.1) m).testBit p = gos K s p := by rw [gm_bit, decide_eq_true hp]; rfl
      have nx := ih (t + 1) (h + if gos K s p then 1 else 0) (stp K m s) I2 (by omega) ho (by show s.2.2.2.2.1 + 1 ≤ _; omega) x1 (fun k j hk => by rw [x2 k j (by omega) (by omega) (Or.inl (by omega))]; exact h2 k j hk)
      cases hg : gos K s p
      · rw [hg] at nx
        simp only [e76_56, e76_59, e76_60, e76_61, e76_64, e76_65, e76_68, e76_71, e76_72, e76_75, e76_76, e76_77, e76_78, e76_78a, e76_81, zpush_some, zpush_none, true_or, or_true, true_and, and_true, ↓reduceIte, zq_ite, zq_itel, zo_3, zr_3_6, zo_19, s_Q_wentJustNow hz x3 gl (show p < 7 by omega), gb, hg, zb_f, nI_1, Int32.add_zero]
        exact nx
      · rw [hg] at nx
        simp only [e76_56, e76_59, e76_60, e76_61, e76_64, e76_65, e76_68, e76_71, e76_72, e76_75, e76_76, e76_77, e76_78, e76_78a, e76_81, zpush_some, zpush_none, true_or, or_true, true_and, and_true, ↓reduceIte, zq_ite, zq_itel, zo_3, zr_3_6, zo_19, s_Q_wentJustNow hz x3 gl (show p < 7 by omega), gb, hg, zb_t, zz_1, nI_1]
        exact nx
    · rw [arr, hth] at ho
      have ho : o = some (t, h) := ho.symm
      subst ho
      simp only [e76_28, e76_29, e76_31, e76_34, e76_35, e76_38, e76_39, e76_42, e76_45, e76_46, e76_47, e76_48, e76_51, zpush_some, zpush_none, true_or, or_true, true_and, and_true, ↓reduceIte, zq_ite, zq_itel, hlt, zo_3, zr_3_6, zo_19, s_Q_isThere hz hx hp, hth, zb_t, zz_1, s_X_tell]
      exact hQ I' h2
theorem r_M_arrives (hp : p < m) (hm : m ≤ 7) (hok0 : True) {o : Option (Nat × Nat)} (hK : MK I m K) (hQ : ∀ I', (∀ k j, k ≠ 75 → k ≠ 76 → k ≠ 77 → I' k j = I k j) → Q (some (.int (arvV o))) (arvI 62 6 o I') L) :
    ∀ r t h (s : Cs) I' (v4 : Value), t + r = 61 → arr K m p r s t h = o → s.2.2.2.2.1 ≤ 99 + t → MC I' 75 m s → (∀ k j, k ≠ 75 → k ≠ 76 → k ≠ 77 → I' k j = I k j) → zV n (d + 5) 174 18 [.ref 62, .int (nI p), .int (nI h), .int (nI t), v4] [] I' L Q := by
  have z3 : zin (nI (3 + p)) 24 = true := zin_ok (by omega) (by decide)
  have y3 : (nI (3 + p)).toNatClampNeg = 3 + p := nI_clamp (by omega)
  intro r
  induction r with
  | zero =>
    intro t h s I' v4 ht ho hs hx h2
    have e : t = 61 := by omega
    subst e
    subst ho
    have g : ((60 : Int32) < nI 61) = True := eq_true (by decide)
    simp only [e174_18, e174_19, e174_21, e174_89, e174_91, zpush_some, zpush_none, true_or, or_true, true_and, and_true, ↓reduceIte, zq_ite, zq_itel, g]
    exact hQ I' h2
  | succ r ih =>
    intro t h s I' v4 ht ho hs hx h2
    have hlt : ((60 : Int32) < nI t) = False := (nI_ltN (a := 60) (by decide) (by omega)).trans (eq_false (by omega))
    cases hth : thr s p
    · rw [arr, hth] at ho
      obtain ⟨c1, c2⟩ := (MC_get hx hm hp).1
      simp only [e174_18, e174_19, e174_21, e174_24, e174_25, e174_28, e174_29, e174_32, e174_35, e174_36, e174_37, e174_40, e174_41, e174_42, e174_43, e174_44, e174_47, e174_48, e174_49, e174_50, e174_51, e174_51a, e174_53, e174_54, e174_55, e174_58, zpush_some, zpush_none, true_or, or_true, true_and, and_true, ↓reduceIte, zq_ite, zq_itel, hlt, zo_62, zr_62_22, zn_75, zl_75, s_M_isThere hx Ma_75 hm hp, hth, zb_f, i_3, z3, y3, c1]
      refine t_M_steps hx (MK_eq hK (fun j => h2 _ _ (by decide) (by decide) (by decide)) (fun j => h2 _ _ (by decide) (by decide) (by decide))) Ma_75 (by decide) (by omega) (fun I2 x1 x2 x3 => ?_)
      obtain ⟨c3, c4⟩ := (MC_get x1 hm hp).1
      have nx := ih (t + 1) (h + if gos K s p then 1 else 0) (stp K m s) I2 (.int (nI (s.1 p))) (by omega) ho (by show s.2.2.2.2.1 + 1 ≤ _; omega) x1 (fun k j a b c => by rw [x2 k j a b c]; exact h2 k j a b c)
      have gc := (nI_inj16 c2 c4).trans (gos_c (K := K) hp c2)
      cases hg : gos K s p
      · rw [hg] at nx
        have gc : (nI (s.1 p) = nI ((stp K m s).1 p)) = True := gc.trans (eq_true hg)
        simp only [e174_58, e174_61, e174_62, e174_63, e174_65, e174_66, e174_69, e174_70, e174_71, e174_72, e174_73, e174_76, e174_77, e174_80, e174_81, e174_82, e174_83, e174_83a, e174_86, zpush_some, zpush_none, true_or, or_true, true_and, and_true, ↓reduceIte, zq_ite, zq_itel, zo_62, zr_62_22, zn_75, zl_75, i_3, z3, y3, c3, gc, not_true_eq_false, nI_1, Int32.add_zero]
        exact nx
      · rw [hg] at nx
        have gc : (nI (s.1 p) = nI ((stp K m s).1 p)) = False := gc.trans (eq_false (by rw [hg]; decide))
        simp only [e174_58, e174_61, e174_62, e174_63, e174_65, e174_66, e174_69, e174_70, e174_71, e174_72, e174_73, e174_76, e174_77, e174_80, e174_81, e174_82, e174_83, e174_83a, e174_86, zpush_some, zpush_none, true_or, or_true, true_and, and_true, ↓reduceIte, zq_ite, zq_itel, zo_62, zr_62_22, zn_75, zl_75, i_3, z3, y3, c3, gc, not_false_eq_true, nI_1]
        exact nx
    · rw [arr, hth] at ho
      have ho : o = some (t, h) := ho.symm
      subst ho
      simp only [e174_18, e174_19, e174_21, e174_24, e174_25, e174_28, e174_29, e174_32, e174_35, e174_36, e174_37, e174_40, e174_41, e174_42, zpush_some, zpush_none, true_or, or_true, true_and, and_true, ↓reduceIte, zq_ite, zq_itel, hlt, zo_62, zr_62_22, zn_75, s_M_isThere hx Ma_75 hm hp, hth, zb_t, zz_1, s_M_tells]
      exact hQ I' h2
theorem p_arrives (h : Inv I L) (i : Int32) : zV n (d + 5) 76 0 [.ref 3, .int i, .null, .null] [] I L (fun v1 I1 L1 => zV n (d + 5) 174 0 [.ref 62, .int i, .null, .null, .null] [] I1 L1 (fun v2 I2 L2 => same v1 v2 ∧ Inv I2 L2)) := by
  obtain ⟨m, K, s, hm, hok, ht, hX, hM, hK⟩ := h.view
  have hz := Qa_z (k := 14) (Or.inr (Or.inl rfl))
  have hz2 := Qa_z (k := 19) (Or.inr (Or.inr rfl))
  rcases rngd i (show m < 2 ^ 31 by omega) with g1 | ⟨g1, g2⟩ | ⟨p, hp, rfl, g1, g2⟩
  · simp only [e76_0, e76_1, e76_4, e76_5, e76_8, e76_11, e76_12, e76_13, e76_14, e76_17, e76_18, e76_21, e76_24, e76_25, e76_26, e76_27, e76_27a, e76_28, e76_29, e76_31, e76_34, e76_35, e76_38, e76_39, e76_42, e76_45, e76_46, e76_47, e76_48, e76_51, e76_52, e76_53, e76_56, e76_59, e76_60, e76_61, e76_64, e76_65, e76_68, e76_71, e76_72, e76_75, e76_76, e76_77, e76_78, e76_78a, e76_81, e76_84, e76_86, e174_0, e174_1, e174_2, e174_5, e174_8, e174_9, e174_10, e174_11, e174_14, e174_15, e174_16, e174_17, e174_17a, e174_18, e174_19, e174_21, e174_24, e174_25, e174_28, e174_29, e174_32, e174_35, e174_36, e174_37, e174_40, e174_41, e174_42, e174_43, e174_44, e174_47, e174_48, e174_49, e174_50, e174_51, e174_51a, e174_53, e174_54, e174_55, e174_58, e174_61, e174_62, e174_63, e174_65, e174_66, e174_69, e174_70, e174_71, e174_72, e174_73, e174_76, e174_77, e174_80, e174_81, e174_82, e174_83, e174_83a, e174_86, e174_89, e174_91, zpush_some, zpush_none, true_or, or_true, true_and, and_true, ↓reduceIte, zq_ite, zq_itel, zo_3, zr_3_5, zo_62, zo_14, s_Q_hasMessage hz, XC_m hX, s_M_isOne hK, g1, not_true_eq_false]
    exact ⟨same_i, h⟩
  · simp only [e76_0, e76_1, e76_4, e76_5, e76_8, e76_11, e76_12, e76_13, e76_14, e76_17, e76_18, e76_21, e76_24, e76_25, e76_26, e76_27, e76_27a, e76_28, e76_29, e76_31, e76_34, e76_35, e76_38, e76_39, e76_42, e76_45, e76_46, e76_47, e76_48, e76_51, e76_52, e76_53, e76_56, e76_59, e76_60, e76_61, e76_64, e76_65, e76_68, e76_71, e76_72, e76_75, e76_76, e76_77, e76_78, e76_78a, e76_81, e76_84, e76_86, e174_0, e174_1, e174_2, e174_5, e174_8, e174_9, e174_10, e174_11, e174_14, e174_15, e174_16, e174_17, e174_17a, e174_18, e174_19, e174_21, e174_24, e174_25, e174_28, e174_29, e174_32, e174_35, e174_36, e174_37, e174_40, e174_41, e174_42, e174_43, e174_44, e174_47, e174_48, e174_49, e174_50, e174_51, e174_51a, e174_53, e174_54, e174_55, e174_58, e174_61, e174_62, e174_63, e174_65, e174_66, e174_69, e174_70, e174_71, e174_72, e174_73, e174_76, e174_77, e174_80, e174_81, e174_82, e174_83, e174_83a, e174_86, e174_89, e174_91, zpush_some, zpush_none, true_or, or_true, true_and, and_true, ↓reduceIte, zq_ite, zq_itel, zo_3, zr_3_5, zo_62, zo_14, s_Q_hasMessage hz, XC_m hX, s_M_isOne hK, g1, g2, not_true_eq_false]
    exact ⟨same_i, h⟩
  · simp only [e76_0, e76_1, e76_4, e76_5, e76_8, e76_11, e76_12, e76_13, e76_14, e76_17, e76_18, e76_21, zpush_some, zpush_none, true_or, or_true, true_and, and_true, ↓reduceIte, zq_ite, zq_itel, zo_3, zr_3_5, zr_3_6, zo_14, zo_19, s_Q_hasMessage hz, XC_m hX, g1, g2, zz_1, not_false_eq_true]
    refine t_Q_take hz2 hz (by decide) hX (fun I1 L1 x1 x2 x3 => ?_)
    simp only [e76_21, e76_24, e76_25, e76_26, e76_27, e76_27a, zpush_some, zpush_none, true_or, or_true, true_and, and_true, ↓reduceIte, zq_ite, zq_itel]
    refine r_X_arrives (I := I1) (L := L1) (o := arr K m p 61 s 0 0) hp (fun I2 y2 => ?_) 61 0 0 s I1 rfl rfl (by omega) x1 (fun _ _ _ => rfl)
    generalize ho : arr K m p 61 s 0 0 = o
    have hI : ∀ k j, (k < 19 ∨ 23 < k) → k ≠ 3 → arvI 3 12 o I2 k j = I k j := fun k j a b => by
      have e : arvI 3 12 o I2 k j = I2 k j := by
        cases o with
        | none => rfl
        | some o => exact zup_ne b
      rw [e, y2 k j a, x2 k j (by omega)]
    have hK2 : MK (arvI 3 12 o I2) m K := MK_eq hK (fun j => hI _ _ (by decide) (by decide)) (fun j => hI _ _ (by decide) (by decide))
    simp only [e174_0, e174_1, e174_2, e174_5, e174_8, e174_9, e174_10, e174_11, zpush_some, zpush_none, true_or, or_true, true_and, and_true, ↓reduceIte, zq_ite, zq_itel, zo_62, s_M_isOne hK2, g1, g2, zz_1, not_false_eq_true]
    refine s_M_begin (MC_eq hM (fun j => hI _ _ (by decide) (by decide))) (fun I3 w1 w2 w3 => ?_)
    simp only [e174_11, e174_14, e174_15, e174_16, e174_17, e174_17a, zpush_some, zpush_none, true_or, or_true, true_and, and_true, ↓reduceIte, zq_ite, zq_itel]
    refine r_M_arrives hp hm trivial (MK_eq hK2 (fun j => w2 _ _ (by decide) (by decide)) (fun j => w2 _ _ (by decide) (by decide))) (fun I4 v2 => ?_) 61 0 0 s I3 _ rfl ho (by omega) w1 (fun _ _ _ _ _ => rfl)
    refine ⟨same_i, inv_told h ?_ (fun k j hk => ?_) (fun k j hk => x3 k j (by omega))⟩
    · cases o with
      | none =>
        show I4 3 12 = I4 62 6
        rw [v2 _ _ (by decide) (by decide) (by decide), v2 _ _ (by decide) (by decide) (by decide), w2 _ _ (by decide) (by decide), w2 _ _ (by decide) (by decide)]
        show I2 3 12 = I2 62 6
        rw [y2 _ _ (by decide), y2 _ _ (by decide), x2 _ _ (by decide), x2 _ _ (by decide)]
        exact h.1.2.2.1
      | some o =>
        show zup I4 62 6 (nI o.2) 3 12 = zup I4 62 6 (nI o.2) 62 6
        rw [zup_ne (by decide), zup_eq, v2 _ _ (by decide) (by decide) (by decide), w2 _ _ (by decide) (by decide)]
        exact zup_eq
    · unfold cubeCell at hk
      have e6 : arvI 62 6 o I4 k j = I4 k j := by
        cases o with
        | none => rfl
        | some o =>
          show zup I4 62 6 (nI o.2) k j = I4 k j
          by_cases g : k = 62
          · exact zup_nj (by omega)
          · exact zup_ne g
      rw [e6, v2 k j (by omega) (by omega) (by omega), w2 k j (by omega) (by omega)]
      by_cases g : k = 3
      · subst g
        have e7 : arvI 3 12 o I2 3 j = I2 3 j := by
          cases o with
          | none => rfl
          | some o => exact zup_nj (by omega)
        rw [e7, y2 3 j (by decide), x2 3 j (by decide)]
      · exact hI k j (by omega) g
end
