section
variable {n d : Nat} {I I' : zi} {L L' : zl} {Q : zq} {K K' : Nat → Nat} {s s' s0 : Cs} {k q i a b l N p j c t u : Nat} {x : Int32} {f : Nat → Int32} {m : Mq}
theorem s_M_sortBy (x : Int32) : zV n d 143 0 [.int x] [] I L Q ↔ Q (some (.int (klM (kl x)))) I L := by
  unfold kl
  by_cases g0 : x = 108
  · simp only [e143_0, e143_1, e143_3, e143_6, e143_7, e143_10, e143_11, e143_13, e143_16, e143_17, e143_20, e143_21, e143_23, e143_26, e143_27, e143_30, e143_31, e143_33, e143_36, e143_37, e143_40, e143_41, e143_43, e143_46, e143_47, e143_50, e143_51, e143_53, e143_56, e143_57, e143_60, e143_61, zpush_some, zpush_none, true_or, or_true, true_and, and_true, ↓reduceIte, zq_ite, zq_itel, g0, not_true_eq_false]; exact Iff.rfl
  · have g0' := eq_false g0
    by_cases g1 : x = 104
    · simp only [e143_0, e143_1, e143_3, e143_6, e143_7, e143_10, e143_11, e143_13, e143_16, e143_17, e143_20, e143_21, e143_23, e143_26, e143_27, e143_30, e143_31, e143_33, e143_36, e143_37, e143_40, e143_41, e143_43, e143_46, e143_47, e143_50, e143_51, e143_53, e143_56, e143_57, e143_60, e143_61, zpush_some, zpush_none, true_or, or_true, true_and, and_true, ↓reduceIte, zq_ite, zq_itel, g0', g1, not_true_eq_false, not_false_eq_true]; exact Iff.rfl
    · have g1' := eq_false g1
      by_cases g2 : x = 122
      · simp only [e143_0, e143_1, e143_3, e143_6, e143_7, e143_10, e143_11, e143_13, e143_16, e143_17, e143_20, e143_21, e143_23, e143_26, e143_27, e143_30, e143_31, e143_33, e143_36, e143_37, e143_40, e143_41, e143_43, e143_46, e143_47, e143_50, e143_51, e143_53, e143_56, e143_57, e143_60, e143_61, zpush_some, zpush_none, true_or, or_true, true_and, and_true, ↓reduceIte, zq_ite, zq_itel, g0', g1', g2, not_true_eq_false, not_false_eq_true]; exact Iff.rfl
      · have g2' := eq_false g2
        by_cases g3 : x = 100
        · simp only [e143_0, e143_1, e143_3, e143_6, e143_7, e143_10, e143_11, e143_13, e143_16, e143_17, e143_20, e143_21, e143_23, e143_26, e143_27, e143_30, e143_31, e143_33, e143_36, e143_37, e143_40, e143_41, e143_43, e143_46, e143_47, e143_50, e143_51, e143_53, e143_56, e143_57, e143_60, e143_61, zpush_some, zpush_none, true_or, or_true, true_and, and_true, ↓reduceIte, zq_ite, zq_itel, g0', g1', g2', g3, not_true_eq_false, not_false_eq_true]; exact Iff.rfl
        · have g3' := eq_false g3
          by_cases g4 : x = 112
          · simp only [e143_0, e143_1, e143_3, e143_6, e143_7, e143_10, e143_11, e143_13, e143_16, e143_17, e143_20, e143_21, e143_23, e143_26, e143_27, e143_30, e143_31, e143_33, e143_36, e143_37, e143_40, e143_41, e143_43, e143_46, e143_47, e143_50, e143_51, e143_53, e143_56, e143_57, e143_60, e143_61, zpush_some, zpush_none, true_or, or_true, true_and, and_true, ↓reduceIte, zq_ite, zq_itel, g0', g1', g2', g3', g4, not_true_eq_false, not_false_eq_true]; exact Iff.rfl
          · have g4' := eq_false g4
            by_cases g5 : x = 115
            · simp only [e143_0, e143_1, e143_3, e143_6, e143_7, e143_10, e143_11, e143_13, e143_16, e143_17, e143_20, e143_21, e143_23, e143_26, e143_27, e143_30, e143_31, e143_33, e143_36, e143_37, e143_40, e143_41, e143_43, e143_46, e143_47, e143_50, e143_51, e143_53, e143_56, e143_57, e143_60, e143_61, zpush_some, zpush_none, true_or, or_true, true_and, and_true, ↓reduceIte, zq_ite, zq_itel, g0', g1', g2', g3', g4', g5, not_true_eq_false, not_false_eq_true]; exact Iff.rfl
            · have g5' := eq_false g5
              simp only [e143_0, e143_1, e143_3, e143_6, e143_7, e143_10, e143_11, e143_13, e143_16, e143_17, e143_20, e143_21, e143_23, e143_26, e143_27, e143_30, e143_31, e143_33, e143_36, e143_37, e143_40, e143_41, e143_43, e143_46, e143_47, e143_50, e143_51, e143_53, e143_56, e143_57, e143_60, e143_61, zpush_some, zpush_none, true_or, or_true, true_and, and_true, ↓reduceIte, zq_ite, zq_itel, g0', g1', g2', g3', g4', g5', not_false_eq_true]; exact Iff.rfl
/-- messages read so far, the class's -/
def QM (I : zi) (L : zl) (m : Mq) : Prop := I 19 4 = nI m.1 ∧ L 19 5 = 0 ∧ I 19 6 = 0 ∧ I 19 7 = 0 ∧ ∀ i, i < m.1 → I 20 i = nI (m.2.1 i) ∧ I 21 i = nI (m.2.2.1 i) ∧ I 22 i = nI (m.2.2.2 i) ∧ I 23 i = -1
theorem s_Q_add (hq : I 19 4 = nI c) (hc : c < 7) {x y z : Int32} : zV n d 30 0 [.ref 19, .int x, .int y, .int z] [] I L Q ↔ Q none (zup (zup (zup (zup (zup I 20 c x) 21 c y) 22 c z) 23 c (-1)) 19 4 (nI (c + 1))) L := by
  have zc : zin (nI c) 7 = true := zin_ok hc (by decide)
  have cc : (nI c).toNatClampNeg = c := nI_clamp (by omega)
  have hlt : ((7 : Int32) ≤ nI c) = False := eq_false (nI_ge (b := 7) hc (by decide))
  simp only [e30_0, e30_1, e30_4, e30_6, e30_9, e30_10, e30_13, e30_14, e30_17, e30_18, e30_19, e30_20, e30_23, e30_24, e30_27, e30_28, e30_29, e30_30, e30_33, e30_34, e30_37, e30_38, e30_39, e30_40, e30_43, e30_44, e30_47, e30_48, e30_49, e30_50, e30_51, e30_54, e30_55, e30_56, e30_59, zpush_some, zpush_none, true_or, or_true, true_and, and_true, ↓reduceIte, zq_ite, zq_itel, zo_19, hq, hlt, zr_19_0, zr_19_1, zr_19_2, zr_19_3, zn_20, zw_20, zl_20, zn_21, zw_21, zl_21, zn_22, zw_22, zl_22, zn_23, zw_23, zl_23, zc, cc, zup_ne (show (19 : Nat) ≠ 20 by decide), zup_ne (show (19 : Nat) ≠ 21 by decide), zup_ne (show (19 : Nat) ≠ 22 by decide), zup_ne (show (19 : Nat) ≠ 23 by decide), nI_1]
theorem nI_2 (p : Nat) : nI p + 2 = nI (p + 2) := nI_add p 2
theorem nI_3 (p : Nat) : nI p + 3 = nI (p + 3) := nI_add p 3
theorem QM_psh (hM : QM I L m) (hok : okM m) (k c g : Nat) : QM (zup (zup (zup (zup (zup I 20 m.1 (nI k)) 21 m.1 (nI c)) 22 m.1 (nI g)) 23 m.1 (-1)) 19 4 (nI (m.1 + 1))) L (psh m k c g) := by
  obtain ⟨h1, h2, h3, h4, h5⟩ := hM
  refine ⟨zup_eq, h2, ?_, ?_, fun i hi => ?_⟩
  · rw [zup_nj (by decide), zup_ne (by decide), zup_ne (by decide), zup_ne (by decide), zup_ne (by decide)]; exact h3
  · rw [zup_nj (by decide), zup_ne (by decide), zup_ne (by decide), zup_ne (by decide), zup_ne (by decide)]; exact h4
  · have hi : i < m.1 + 1 := hi
    show _ = nI (upN m.2.1 m.1 k i) ∧ _ = nI (upN m.2.2.1 m.1 c i) ∧ _ = nI (upN m.2.2.2 m.1 g i) ∧ _
    rw [zup_ne (show (20 : Nat) ≠ 19 by decide), zup_ne (show (20 : Nat) ≠ 23 by decide), zup_ne (show (20 : Nat) ≠ 22 by decide), zup_ne (show (20 : Nat) ≠ 21 by decide), zup_ne (show (21 : Nat) ≠ 19 by decide), zup_ne (show (21 : Nat) ≠ 23 by decide), zup_ne (show (21 : Nat) ≠ 22 by decide), zup_ne (show (22 : Nat) ≠ 19 by decide), zup_ne (show (22 : Nat) ≠ 23 by decide), zup_ne (show (23 : Nat) ≠ 19 by decide)]
    by_cases e : i = m.1
    · subst e; rw [zup_eq, zup_eq, zup_eq, zup_eq, upN_eq, upN_eq, upN_eq]; exact ⟨rfl, rfl, rfl, rfl⟩
    · simp only [zup_nj e, upN_ne e]
      exact h5 i (by omega)
end
