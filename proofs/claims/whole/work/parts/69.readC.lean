section
variable {n d : Nat} {I I' : zi} {L L' : zl} {Q : zq} {K K' : Nat → Nat} {s s' s0 : Cs} {k q i a b l N p j c t u : Nat} {x : Int32} {f : Nat → Int32} {m : Mq}
theorem r_X_read (hz : Sz k 60) (hk : 48 ≤ k ∧ k < 56) (hm : I k 1 = nI N) (hN : N ≤ 60) (hf : ∀ j, j < N → I (k + 1) j = f j) (h1 : ∀ j, j < 6 → I 1 j = zKL6 j) {o : Option Nat × Mq} (hQ : ∀ I', (∀ k j, (k < 19 ∨ 23 < k) → I' k j = I k j) → QM I' L o.2 → okM o.2 → Q (some (.int (rv o.1))) I' L) :
    ∀ u p m I' v3 v4, N < p + u → p ≤ N → rd f N u p m = o → okM m → QM I' L m → (∀ k j, (k < 19 ∨ 23 < k) → I' k j = I k j) → zV n (d + 3) 26 6 [.ref k, .ref 19, .int (nI p), v3, v4] [] I' L Q := by
  intro u
  induction u with
  | zero =>
    intro p m I' v3 v4 h2 h3
    omega
  | succ u ih =>
    intro p m I' v3 v4 h2 h3 ho hok hM hI
    have e1 : I' k 1 = nI N := by rw [hI k 1 (by omega)]; exact hm
    have ef : ∀ j, j < N → I' (k + 1) j = f j := fun j hj => by rw [hI (k + 1) j (by omega)]; exact hf j hj
    have ek : ∀ j, j < 6 → I' 1 j = zKL6 j := fun j hj => by rw [hI 1 j (by omega)]; exact h1 j hj
    obtain ⟨q1, q2, q3, q4, q5⟩ := id hM
    rw [rd] at ho
    by_cases g0 : N ≤ p
    · have eN : p = N := by omega
      subst eN
      rw [if_pos g0] at ho
      by_cases gm : m.1 = 0
      · rw [if_pos gm] at ho
        have z0 : (nI m.1 = 0) = True := by rw [gm]; exact eq_true rfl
        simp only [e26_6, e26_7, e26_8, e26_11, e26_140, e26_141, e26_144, e26_147, e26_148, e26_151, e26_154, e26_156, zpush_some, zpush_none, true_or, or_true, true_and, and_true, ↓reduceIte, zq_ite, zq_itel, hz.1, e1, Int32.le_refl, zo_19, q1, z0, not_true_eq_false]
        subst ho
        exact hQ I' hI hM hok
      · rw [if_neg gm] at ho
        have z0 : (nI m.1 = 0) = False := by rw [nI_z (by have := hok.1; omega)]; exact eq_false gm
        simp only [e26_6, e26_7, e26_8, e26_11, e26_140, e26_141, e26_144, e26_147, e26_148, e26_151, e26_154, e26_156, zpush_some, zpush_none, true_or, or_true, true_and, and_true, ↓reduceIte, zq_ite, zq_itel, hz.1, e1, Int32.le_refl, zo_19, q1, z0, not_false_eq_true]
        subst ho
        exact hQ I' hI hM hok
    · rw [if_neg g0] at ho
      have hlt : (nI N ≤ nI p) = False := eq_false (nI_ge (by omega) (by omega))
      have p0 : (nI p < 0) = False := eq_false (nI_pos (by omega))
      have G0 := fun n d Q => s_S_get_k (n := n) (d := d) (I := I') (L := L) (Q := Q) hz e1 (show p < 60 by omega) (by decide) p0 hlt
      rw [ef p (by omega)] at G0
      by_cases g1 : f p = 32
      · rw [if_pos g1] at ho
        simp only [e26_6, e26_7, e26_8, e26_11, e26_14, e26_15, e26_16, e26_19, e26_21, zpush_some, zpush_none, true_or, or_true, true_and, and_true, ↓reduceIte, zq_ite, zq_itel, hz.1, e1, hlt, G0, g1, not_true_eq_false]
        simp only [e26_24, e26_27, nI_1]
        exact ih (p + 1) m I' _ _ (by omega) (by omega) ho hok hM hI
      · rw [if_neg g1] at ho
        have g1' := eq_false g1
        have hkl := kl_le (f p)
        by_cases g2 : kl (f p) = 6
        · rw [if_pos (Or.inl g2)] at ho
          have e9 : klX (kl (f p)) = -9 := by rw [g2]; rfl
          simp only [e26_6, e26_7, e26_8, e26_11, e26_14, e26_15, e26_16, e26_19, e26_21, e26_30, e26_31, e26_32, e26_35, e26_38, e26_38a, e26_39, e26_40, e26_42, e26_45, e26_46, e26_49, e26_51, e26_54, e26_55, zpush_some, zpush_none, true_or, or_true, true_and, and_true, ↓reduceIte, zq_ite, zq_itel, hz.1, e1, hlt, G0, g1', not_false_eq_true, s_X_kind ek, e9]
          subst ho
          exact hQ I' hI hM hok
        · have e9 : klX (kl (f p)) = nI (kl (f p)) := if_pos (by omega)
          have n9 : (nI (kl (f p)) = -9) = False := eq_false ((by decide +kernel : ∀ w, w < 6 → ¬ nI w = -9) _ (by omega))
          by_cases g3 : m.1 = 7
          · rw [if_pos (Or.inr g3)] at ho
            have z7 : (nI m.1 = 7) = True := by rw [g3]; exact eq_true rfl
            simp only [e26_6, e26_7, e26_8, e26_11, e26_14, e26_15, e26_16, e26_19, e26_21, e26_30, e26_31, e26_32, e26_35, e26_38, e26_38a, e26_39, e26_40, e26_42, e26_45, e26_46, e26_49, e26_51, e26_54, e26_55, zpush_some, zpush_none, true_or, or_true, true_and, and_true, ↓reduceIte, zq_ite, zq_itel, hz.1, e1, hlt, G0, g1', not_false_eq_true, s_X_kind ek, e9, n9, zo_19, q1, z7, not_true_eq_false]
            subst ho
            exact hQ I' hI hM hok
          · rw [if_neg (fun w => by rcases w with w | w; exact g2 w; exact g3 w)] at ho
            have hm7 := hok.1
            have z7 : (nI m.1 = 7) = False := (nI_eqN (b := 7) (by omega) (by decide)).trans (eq_false g3)
            have p1 : (nI (p + 1) < 0) = False := eq_false (nI_pos (by omega))
            by_cases g4 : N ≤ p + 1
            · rw [if_pos g4] at ho
              have l1 : (nI N ≤ nI (p + 1)) = True := (nI_leN (by omega) (by omega)).trans (eq_true g4)
              simp only [e26_6, e26_7, e26_8, e26_11, e26_14, e26_15, e26_16, e26_19, e26_21, e26_30, e26_31, e26_32, e26_35, e26_38, e26_38a, e26_39, e26_40, e26_42, e26_45, e26_46, e26_49, e26_51, e26_54, e26_55, e26_56, e26_57, e26_57a, e26_59, e26_61, e26_62, e26_65, e26_66, e26_67, e26_69, e26_70, e26_73, e26_76, e26_77, e26_80, zpush_some, zpush_none, true_or, or_true, true_and, and_true, ↓reduceIte, zq_ite, zq_itel, hz.1, e1, hlt, G0, g1', not_false_eq_true, s_X_kind ek, e9, n9, zo_19, q1, z7, Int32.reduceLT, nI_1, s_S_has hz, p1, l1, not_true_eq_false]
              subst ho
              exact hQ I' hI hM hok
            · rw [if_neg g4] at ho
              have l1 : (nI N ≤ nI (p + 1)) = False := (nI_leN (by omega) (by omega)).trans (eq_false g4)
              have G1 := fun n d Q => s_S_get_k (n := n) (d := d) (I := I') (L := L) (Q := Q) hz e1 (show p + 1 < 60 by omega) (by decide) p1 l1
              rw [ef (p + 1) (by omega)] at G1
              rcases co_c (f (p + 1)) with ⟨c1, c2⟩ | ⟨c1, c2, c3, c4⟩
              · rw [if_pos c1] at ho
                subst ho
                rcases c2 with c2 | ⟨c2, c3⟩
                · simp only [e26_6, e26_7, e26_8, e26_11, e26_14, e26_15, e26_16, e26_19, e26_21, e26_30, e26_31, e26_32, e26_35, e26_38, e26_38a, e26_39, e26_40, e26_42, e26_45, e26_46, e26_49, e26_51, e26_54, e26_55, e26_56, e26_57, e26_57a, e26_59, e26_61, e26_62, e26_65, e26_66, e26_67, e26_69, e26_70, e26_73, e26_76, e26_77, e26_80, e26_81, e26_82, e26_83, e26_85, e26_86, e26_89, e26_91, e26_92, e26_95, e26_98, e26_99, e26_101, e26_102, zpush_some, zpush_none, true_or, or_true, true_and, and_true, ↓reduceIte, zq_ite, zq_itel, hz.1, e1, hlt, G0, G1, g1', not_false_eq_true, s_X_kind ek, e9, n9, zo_19, q1, z7, Int32.reduceLT, nI_1, s_S_has hz, p1, l1, zz_1, s_X_isCorner, c2, not_true_eq_false]
                  exact hQ I' hI hM hok
                · simp only [e26_6, e26_7, e26_8, e26_11, e26_14, e26_15, e26_16, e26_19, e26_21, e26_30, e26_31, e26_32, e26_35, e26_38, e26_38a, e26_39, e26_40, e26_42, e26_45, e26_46, e26_49, e26_51, e26_54, e26_55, e26_56, e26_57, e26_57a, e26_59, e26_61, e26_62, e26_65, e26_66, e26_67, e26_69, e26_70, e26_73, e26_76, e26_77, e26_80, e26_81, e26_82, e26_83, e26_85, e26_86, e26_89, e26_91, e26_92, e26_95, e26_98, e26_99, e26_101, e26_102, zpush_some, zpush_none, true_or, or_true, true_and, and_true, ↓reduceIte, zq_ite, zq_itel, hz.1, e1, hlt, G0, G1, g1', not_false_eq_true, s_X_kind ek, e9, n9, zo_19, q1, z7, Int32.reduceLT, nI_1, s_S_has hz, p1, l1, zz_1, s_X_isCorner, c2, c3, not_true_eq_false]
                  exact hQ I' hI hM hok
              · rw [if_neg (by omega)] at ho
                rw [c2] at c3 c4
                have p2 : (nI (p + 2) < 0) = False := eq_false (nI_pos (by omega))
                by_cases g5 : N ≤ p + 2
                · rw [if_pos g5] at ho
                  subst ho
                  have l2 : (nI N ≤ nI (p + 2)) = True := (nI_leN (by omega) (by omega)).trans (eq_true g5)
                  simp only [e26_6, e26_7, e26_8, e26_11, e26_14, e26_15, e26_16, e26_19, e26_21, e26_30, e26_31, e26_32, e26_35, e26_38, e26_38a, e26_39, e26_40, e26_42, e26_45, e26_46, e26_49, e26_51, e26_54, e26_55, e26_56, e26_57, e26_57a, e26_59, e26_61, e26_62, e26_65, e26_66, e26_67, e26_69, e26_70, e26_73, e26_76, e26_77, e26_80, e26_81, e26_82, e26_83, e26_85, e26_86, e26_89, e26_91, e26_92, e26_95, e26_98, e26_99, e26_101, e26_102, e26_103, e26_103a, e26_106, zpush_some, zpush_none, true_or, or_true, true_and, and_true, ↓reduceIte, zq_ite, zq_itel, hz.1, e1, hlt, G0, G1, g1', not_false_eq_true, s_X_kind ek, e9, n9, zo_19, q1, z7, Int32.reduceLT, Int32.reduceAdd, nI_1, nI_2, s_S_has hz, p1, l1, p2, l2, zz_1, s_X_isCorner, c2, c3, c4, not_true_eq_false]
                  exact hQ I' hI hM hok
                · rw [if_neg g5] at ho
                  have l2 : (nI N ≤ nI (p + 2)) = False := (nI_leN (by omega) (by omega)).trans (eq_false g5)
                  have G2 := fun n d Q => s_S_get_k (n := n) (d := d) (I := I') (L := L) (Q := Q) hz e1 (show p + 2 < 60 by omega) (by decide) p2 l2
                  rw [ef (p + 2) (by omega)] at G2
                  rcases co_c (f (p + 2)) with ⟨b1, b2⟩ | ⟨b1, b2, b3, b4⟩
                  · rw [if_pos b1] at ho
                    subst ho
                    rcases b2 with b2 | ⟨b2, b3⟩
                    · simp only [e26_6, e26_7, e26_8, e26_11, e26_14, e26_15, e26_16, e26_19, e26_21, e26_30, e26_31, e26_32, e26_35, e26_38, e26_38a, e26_39, e26_40, e26_42, e26_45, e26_46, e26_49, e26_51, e26_54, e26_55, e26_56, e26_57, e26_57a, e26_59, e26_61, e26_62, e26_65, e26_66, e26_67, e26_69, e26_70, e26_73, e26_76, e26_77, e26_80, e26_81, e26_82, e26_83, e26_85, e26_86, e26_89, e26_91, e26_92, e26_95, e26_98, e26_99, e26_101, e26_102, e26_103, e26_103a, e26_106, zpush_some, zpush_none, true_or, or_true, true_and, and_true, ↓reduceIte, zq_ite, zq_itel, hz.1, e1, hlt, G0, G1, G2, g1', not_false_eq_true, s_X_kind ek, e9, n9, zo_19, q1, z7, Int32.reduceLT, Int32.reduceAdd, nI_1, nI_2, s_S_has hz, p1, l1, p2, l2, zz_1, s_X_isCorner, c2, c3, c4, b2, not_true_eq_false]
                      exact hQ I' hI hM hok
                    · simp only [e26_6, e26_7, e26_8, e26_11, e26_14, e26_15, e26_16, e26_19, e26_21, e26_30, e26_31, e26_32, e26_35, e26_38, e26_38a, e26_39, e26_40, e26_42, e26_45, e26_46, e26_49, e26_51, e26_54, e26_55, e26_56, e26_57, e26_57a, e26_59, e26_61, e26_62, e26_65, e26_66, e26_67, e26_69, e26_70, e26_73, e26_76, e26_77, e26_80, e26_81, e26_82, e26_83, e26_85, e26_86, e26_89, e26_91, e26_92, e26_95, e26_98, e26_99, e26_101, e26_102, e26_103, e26_103a, e26_106, zpush_some, zpush_none, true_or, or_true, true_and, and_true, ↓reduceIte, zq_ite, zq_itel, hz.1, e1, hlt, G0, G1, G2, g1', not_false_eq_true, s_X_kind ek, e9, n9, zo_19, q1, z7, Int32.reduceLT, Int32.reduceAdd, nI_1, nI_2, s_S_has hz, p1, l1, p2, l2, zz_1, s_X_isCorner, c2, c3, c4, b2, b3, not_true_eq_false]
                      exact hQ I' hI hM hok
                  · rw [if_neg (by omega)] at ho
                    rw [b2] at b3 b4
                    simp only [e26_6, e26_7, e26_8, e26_11, e26_14, e26_15, e26_16, e26_19, e26_21, e26_30, e26_31, e26_32, e26_35, e26_38, e26_38a, e26_39, e26_40, e26_42, e26_45, e26_46, e26_49, e26_51, e26_54, e26_55, e26_56, e26_57, e26_57a, e26_59, e26_61, e26_62, e26_65, e26_66, e26_67, e26_69, e26_70, e26_73, e26_76, e26_77, e26_80, e26_81, e26_82, e26_83, e26_85, e26_86, e26_89, e26_91, e26_92, e26_95, e26_98, e26_99, e26_101, e26_102, e26_103, e26_103a, e26_106, e26_109, e26_110, e26_111, e26_112, e26_113, e26_114, e26_115, e26_118, e26_120, e26_121, e26_122, e26_123, e26_124, e26_125, e26_128, e26_130, e26_131, zpush_some, zpush_none, true_or, or_true, true_and, and_true, ↓reduceIte, zq_ite, zq_itel, hz.1, e1, hlt, G0, G1, G2, g1', not_false_eq_true, s_X_kind ek, e9, n9, zo_19, q1, z7, Int32.reduceLT, Int32.reduceAdd, nI_1, nI_2, s_S_has hz, p1, l1, p2, l2, zz_1, s_X_isCorner, c2, c3, c4, b2, b3, b4, not_true_eq_false, s_Q_add q1 (show m.1 < 7 by omega)]
                    simp only [e26_134, e26_137, nI_3]
                    refine ih (p + 3) _ _ _ _ (by omega) (by omega) ho (okM_psh hok g3 (by omega) c1 b1) (QM_psh hM hok _ _ _) (fun k j hk => ?_)
                    rw [zup_ne (by omega), zup_ne (by omega), zup_ne (by omega), zup_ne (by omega), zup_ne (by omega)]
                    exact hI k j hk
def M0 : Mq := (0, fun _ => 0, fun _ => 0, fun _ => 0)
theorem t_X_read (hz : Sz k 60) (hk : 48 ≤ k ∧ k < 56) (hm : I k 1 = nI N) (hN : N ≤ 60) (hf : ∀ j, j < N → I (k + 1) j = f j) (h1 : ∀ j, j < 6 → I 1 j = zKL6 j) (hQ : ∀ I' L', (∀ k j, (k < 19 ∨ 23 < k) → I' k j = I k j) → (∀ k j, k ≠ 19 → L' k j = L k j) → QM I' L' (rd f N 61 0 M0).2 → okM (rd f N 61 0 M0).2 → Q (some (.int (rv (rd f N 61 0 M0).1))) I' L') : zV n (d + 3) 26 0 [.ref k, .ref 19, .null, .null, .null] [] I L Q := by
  simp only [e26_0, e26_1, e26_4, e26_5, e27_0, e27_1, e27_2, e27_5, e27_6, e27_7, e27_10, e27_11, e27_12, e27_15, e27_16, e27_17, e27_20, e27_21, e27_22, e27_25, e27_26, e27_27, e27_30, zpush_some, zpush_none, true_or, or_true, true_and, and_true, ↓reduceIte, zq_ite, zq_itel, zo_19]
  refine r_X_read (I := zup (zup (zup (zup (zup I 19 4 0) 19 6 0) 19 7 0) 19 8 0) 19 9 0) (L := zup L 19 5 0) (f := f) hz hk ?_ hN (fun j hj => ?_) (fun j hj => ?_) (fun I' x1 x2 x3 => hQ I' _ (fun k j hk => ?_) (fun k j hk => zup_ne hk) x2 x3) 61 0 M0 _ _ _ (by omega) (by omega) rfl ⟨Nat.zero_le _, fun i hi => absurd hi (Nat.not_lt_zero i)⟩ ⟨?_, zup_eq, ?_, ?_, fun i hi => absurd hi (Nat.not_lt_zero i)⟩ (fun _ _ _ => rfl)
  · rw [zup_ne (by omega), zup_ne (by omega), zup_ne (by omega), zup_ne (by omega), zup_ne (by omega)]; exact hm
  · rw [zup_ne (by omega), zup_ne (by omega), zup_ne (by omega), zup_ne (by omega), zup_ne (by omega)]; exact hf j hj
  · rw [zup_ne (by omega), zup_ne (by omega), zup_ne (by omega), zup_ne (by omega), zup_ne (by omega)]; exact h1 j hj
  · rw [x1 k j hk, zup_ne (by omega), zup_ne (by omega), zup_ne (by omega), zup_ne (by omega), zup_ne (by omega)]
  · rw [zup_nj (by decide), zup_nj (by decide), zup_nj (by decide), zup_nj (by decide), zup_eq]; rfl
  · rw [zup_nj (by decide), zup_nj (by decide), zup_nj (by decide), zup_eq]
  · rw [zup_nj (by decide), zup_nj (by decide), zup_eq]
end
