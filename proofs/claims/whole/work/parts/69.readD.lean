/-! THE LANGUAGE OF CUBES, the check's -/
section
variable {n d : Nat} {I I' : zi} {L L' : zl} {Q : zq} {K K' : Nat → Nat} {s s' s0 : Cs} {k q i a b l N p j c t u : Nat} {x : Int32} {f : Nat → Int32} {m : Mq}
def TX (I : zi) (t N : Nat) (f : Nat → Int32) : Prop := I 62 10 = nI (60 * t) ∧ I 62 11 = nI N ∧ ∀ j, j < N → I 66 (60 * t + j) = f j
def MM (I : zi) (m : Mq) : Prop := I 62 12 = nI m.1 ∧ ∀ i, i < m.1 → I 68 (3 * i) = nI (m.2.1 i) ∧ I 68 (3 * i + 1) = nI (m.2.2.1 i) ∧ I 68 (3 * i + 2) = nI (m.2.2.2 i)
def ltt (f : Nat → Int32) (N k : Nat) : Int32 := if k < N then f k else -1000
theorem TX_eq (h : TX I t N f) (hI : ∀ k j, k ≠ 68 → (k ≠ 62 ∨ (j ≠ 9 ∧ j ≠ 12)) → I' k j = I k j) : TX I' t N f := ⟨by rw [hI 62 10 (by decide) (by decide)]; exact h.1, by rw [hI 62 11 (by decide) (by decide)]; exact h.2.1, fun j hj => by rw [hI 66 _ (by decide) (Or.inl (by decide))]; exact h.2.2 j hj⟩
theorem MM_eq (h : MM I m) (hI : ∀ k j, (k ≠ 62 ∨ j ≠ 9) → I' k j = I k j) : MM I' m := ⟨by rw [hI 62 12 (by decide)]; exact h.1, fun i hi => by rw [hI 68 _ (Or.inl (by decide)), hI 68 _ (Or.inl (by decide)), hI 68 _ (Or.inl (by decide))]; exact h.2 i hi⟩
theorem s_M_letterAt (hT : TX I t N f) (ht : t < 4) (hN : N ≤ 60) (hk : k < 100) : zV n d 141 0 [.ref 62, .int (nI k)] [] I L Q ↔ Q (some (.int (ltt f N k))) I L := by
  obtain ⟨h1, h2, h3⟩ := hT
  unfold ltt
  by_cases g : k < N
  · have hlt : (nI N ≤ nI k) = False := eq_false (nI_ge g (by omega))
    have z1 : zin (nI (60 * t + k)) 240 = true := zin_ok (by omega) (by decide)
    have c1 : (nI (60 * t + k)).toNatClampNeg = 60 * t + k := nI_clamp (by omega)
    simp only [e141_0, e141_1, e141_2, e141_5, e141_8, e141_9, e141_12, e141_13, e141_16, e141_17, e141_18, e141_19, e141_22, e141_25, zpush_some, zpush_none, true_or, or_true, true_and, and_true, ↓reduceIte, zq_ite, zq_itel, zo_62, h2, hlt, zr_62_3, zn_66, zl_66, h1, i_tk, z1, c1, h3 k g, if_pos g]
  · have hlt : (nI N ≤ nI k) = True := (nI_leN (by omega) (by omega)).trans (eq_true (by omega))
    simp only [e141_0, e141_1, e141_2, e141_5, e141_8, e141_9, e141_12, e141_13, e141_16, e141_17, e141_18, e141_19, e141_22, e141_25, zpush_some, zpush_none, true_or, or_true, true_and, and_true, ↓reduceIte, zq_ite, zq_itel, zo_62, h2, hlt, if_neg g]
theorem r_M_skip (ht : t < 4) (hN : N ≤ 60) : ∀ u p I', N < p + u → p ≤ N → TX I' t N f → I' 62 9 = nI p → (∀ I2 p' u', (∀ k j, (k ≠ 62 ∨ j ≠ 9) → I2 k j = I' k j) → I2 62 9 = nI p' → N < p' + u' → p' ≤ N → u' ≤ u → (∀ m, rd f N u p m = rd f N u' p' m) → (p' = N ∨ ¬ f p' = 32) → Q none I2 L) → zV n (d + 1) 140 0 [.ref 62] [] I' L Q := by
  intro u
  induction u with
  | zero => intro p I' h1 h2; omega
  | succ u ih =>
    intro p I' h1 h2 hT hp hQ
    by_cases g : p = N
    · have e : ltt f N p = -1000 := if_neg (by omega)
      have n32 : ((-1000 : Int32) = 32) = False := eq_false (by decide)
      simp only [e140_0, e140_1, e140_2, e140_5, e140_8, e140_10, e140_13, e140_14, e140_15, e140_18, e140_19, e140_20, e140_23, e140_26, zpush_some, zpush_none, true_or, or_true, true_and, and_true, ↓reduceIte, zq_ite, zq_itel, zo_62, hp, s_M_letterAt hT ht hN (show p < 100 by omega), e, n32, not_false_eq_true]
      exact hQ I' p (u + 1) (fun _ _ _ => rfl) hp h1 h2 (Nat.le_refl _) (fun _ => rfl) (Or.inl g)
    · have e : ltt f N p = f p := if_pos (by omega)
      by_cases g2 : f p = 32
      · simp only [e140_0, e140_1, e140_2, e140_5, e140_8, e140_10, e140_13, e140_14, e140_15, e140_18, e140_19, e140_20, zpush_some, zpush_none, true_or, or_true, true_and, and_true, ↓reduceIte, zq_ite, zq_itel, zo_62, hp, s_M_letterAt hT ht hN (show p < 100 by omega), e, g2, not_true_eq_false, nI_1]
        simp only [e140_23, zpush_some, zpush_none, true_or, or_true, true_and, and_true, ↓reduceIte, zq_ite, zq_itel]
        refine ih (p + 1) _ (by omega) (by omega) (TX_eq hT (fun k j a b => ?_)) zup_eq (fun I2 p' u' x1 x2 x3 x4 x5 x6 x7 => ?_)
        · rcases b with b | b
          · exact zup_ne b
          · exact zup_nj b.1
        · refine hQ I2 p' u' (fun k j hk => ?_) x2 x3 x4 (by omega) (fun m => ?_) x7
          · rw [x1 k j hk]
            rcases hk with hk | hk
            · exact zup_ne hk
            · exact zup_nj hk
          · rw [rd, if_neg (by omega), if_pos g2]
            exact x6 m
      · have g2' := eq_false g2
        simp only [e140_0, e140_1, e140_2, e140_5, e140_8, e140_10, e140_13, e140_14, e140_15, e140_18, e140_19, e140_20, e140_23, e140_26, zpush_some, zpush_none, true_or, or_true, true_and, and_true, ↓reduceIte, zq_ite, zq_itel, zo_62, hp, s_M_letterAt hT ht hN (show p < 100 by omega), e, g2', not_false_eq_true]
        exact hQ I' p (u + 1) (fun _ _ _ => rfl) hp h1 h2 (Nat.le_refl _) (fun _ => rfl) (Or.inr g2)
/-- a corner's letter there, or none -/
theorem s_M_corner (hT : TX I t N f) (ht : t < 4) (hN : N ≤ 60) (hk : k < 100) (hp : I 62 9 = nI k) : zV n (d + 1) 144 0 [.ref 62, .null] [] I L Q ↔ Q (some (.int (if co (ltt f N k) = 16 then -1 else nI (co (ltt f N k))))) (if co (ltt f N k) = 16 then I else zup I 62 9 (nI (k + 1))) L := by
  rcases co_c (ltt f N k) with ⟨c1, c2⟩ | ⟨c1, c2, c3, c4⟩
  · rw [if_pos c1, if_pos c1]
    rcases c2 with c2 | ⟨c2, c3⟩
    · simp only [e144_0, e144_1, e144_2, e144_5, e144_8, e144_10, e144_11, e144_12, e144_13, e144_14, e144_16, e144_19, e144_22, e144_23, e144_24, e144_25, e144_26, e144_29, e144_30, e144_31, e144_34, e144_35, zpush_some, zpush_none, true_or, or_true, true_and, and_true, ↓reduceIte, zq_ite, zq_itel, zo_62, hp, s_M_letterAt hT ht hN hk, s_M_in, c2, not_true_eq_false]
    · simp only [e144_0, e144_1, e144_2, e144_5, e144_8, e144_10, e144_11, e144_12, e144_13, e144_14, e144_16, e144_19, e144_22, e144_23, e144_24, e144_25, e144_26, e144_29, e144_30, e144_31, e144_34, e144_35, zpush_some, zpush_none, true_or, or_true, true_and, and_true, ↓reduceIte, zq_ite, zq_itel, zo_62, hp, s_M_letterAt hT ht hN hk, s_M_in, lt15, c2, c3, not_true_eq_false]
  · rw [if_neg (by omega), if_neg (by omega)]
    rw [c2] at c3 c4
    simp only [e144_0, e144_1, e144_2, e144_5, e144_8, e144_10, e144_11, e144_12, e144_13, e144_14, e144_16, e144_19, e144_22, e144_23, e144_24, e144_25, e144_26, e144_29, e144_30, e144_31, e144_34, e144_35, zpush_some, zpush_none, true_or, or_true, true_and, and_true, ↓reduceIte, zq_ite, zq_itel, zo_62, hp, s_M_letterAt hT ht hN hk, s_M_in, lt15, c2, c3, c4, zz_1, not_false_eq_true, nI_1]
theorem co_out : co (-1000) = 16 := by decide
def flt (f : Nat → Int32) (N p : Nat) (m : Mq) : Option Nat := if kl (f p) = 6 ∨ m.1 = 7 then some p else if N ≤ p + 1 then some N else if co (f (p + 1)) = 16 then some (p + 1) else if N ≤ p + 2 then some N else if co (f (p + 2)) = 16 then some (p + 2) else none
theorem rd_flt (hp : ¬ N ≤ p) (h32 : ¬ f p = 32) : rd f N (u + 1) p m = match flt f N p m with
    | some x => (some x, m)
    | none => rd f N u (p + 3) (psh m (kl (f p)) (co (f (p + 1))) (co (f (p + 2)))) := by
  rw [rd, if_neg hp, if_neg h32]
  unfold flt
  by_cases g1 : kl (f p) = 6 ∨ m.1 = 7
  · rw [if_pos g1, if_pos g1]
  · rw [if_neg g1, if_neg g1]
    by_cases g2 : N ≤ p + 1
    · rw [if_pos g2, if_pos g2]
    · rw [if_neg g2, if_neg g2]
      by_cases g3 : co (f (p + 1)) = 16
      · rw [if_pos g3, if_pos g3]
      · rw [if_neg g3, if_neg g3]
        by_cases g4 : N ≤ p + 2
        · rw [if_pos g4, if_pos g4]
        · rw [if_neg g4, if_neg g4]
          by_cases g5 : co (f (p + 2)) = 16
          · rw [if_pos g5, if_pos g5]
          · rw [if_neg g5, if_neg g5]
theorem t_M_item (hT : TX I t N f) (ht : t < 4) (hN : N ≤ 60) (hp : I 62 9 = nI p) (hpN : p < N) (hok : okM m) (hM : MM I m) (hQ0 : ∀ I2 y, flt f N p m = some y → (∀ k j, (k ≠ 62 ∨ j ≠ 9) → I2 k j = I k j) → I2 62 9 = nI y → Q (some (.int 0)) I2 L) (hQ1 : ∀ I2, flt f N p m = none → (∀ k j, k ≠ 68 → (k ≠ 62 ∨ (j ≠ 9 ∧ j ≠ 12)) → I2 k j = I k j) → I2 62 9 = nI (p + 3) → MM I2 (psh m (kl (f p)) (co (f (p + 1))) (co (f (p + 2)))) → okM (psh m (kl (f p)) (co (f (p + 1))) (co (f (p + 2)))) → p + 3 ≤ N → Q (some (.int 1)) I2 L) : zV n (d + 2) 142 0 [.ref 62, .null, .null, .null] [] I L Q := by
  have e0 : ltt f N p = f p := if_pos hpN
  have hkl := kl_le (f p)
  have hm7 := hok.1
  by_cases g1 : kl (f p) = 6
  · have em : klM (kl (f p)) = -1 := by rw [g1]; rfl
    have n1 : ((-1 : Int32) < 0) = True := eq_true (by decide)
    simp only [e142_0, e142_1, e142_2, e142_5, e142_8, e142_11, e142_12, e142_13, e142_16, e142_17, e142_20, e142_22, e142_25, e142_26, e142_27, e142_28, e142_29, e142_32, e142_33, e142_34, e142_37, e142_38, e142_41, e142_41a, e142_42, e142_43, e142_46, e142_47, e142_48, e142_49, e142_52, e142_52a, e142_53, e142_54, e142_57, e142_58, e142_59, e142_60, e142_63, e142_64, e142_65, e142_68, e142_69, e142_70, e142_71, e142_72, e142_75, e142_76, e142_77, e142_80, e142_81, e142_82, e142_83, e142_84, e142_85, e142_86, e142_89, e142_90, e142_91, e142_94, e142_95, e142_96, e142_97, e142_98, e142_99, e142_100, e142_101, e142_104, e142_105, e142_106, e142_109, e142_110, zpush_some, zpush_none, true_or, or_true, true_and, and_true, ↓reduceIte, zq_ite, zq_itel, zo_62, hp, s_M_letterAt hT ht hN (show p < 100 by omega), e0, s_M_sortBy, em, n1]
    exact hQ0 I p (by unfold flt; rw [if_pos (Or.inl g1)]) (fun _ _ _ => rfl) hp
  · have em : klM (kl (f p)) = nI (kl (f p)) := if_pos (by omega)
    have n1 : (nI (kl (f p)) < 0) = False := eq_false (nI_pos (by omega))
    by_cases g2 : m.1 = 7
    · have z7 : (nI m.1 = 7) = True := by rw [g2]; exact eq_true rfl
      simp only [e142_0, e142_1, e142_2, e142_5, e142_8, e142_11, e142_12, e142_13, e142_16, e142_17, e142_20, e142_22, e142_25, e142_26, e142_27, e142_28, e142_29, e142_32, e142_33, e142_34, e142_37, e142_38, e142_41, e142_41a, e142_42, e142_43, e142_46, e142_47, e142_48, e142_49, e142_52, e142_52a, e142_53, e142_54, e142_57, e142_58, e142_59, e142_60, e142_63, e142_64, e142_65, e142_68, e142_69, e142_70, e142_71, e142_72, e142_75, e142_76, e142_77, e142_80, e142_81, e142_82, e142_83, e142_84, e142_85, e142_86, e142_89, e142_90, e142_91, e142_94, e142_95, e142_96, e142_97, e142_98, e142_99, e142_100, e142_101, e142_104, e142_105, e142_106, e142_109, e142_110, zpush_some, zpush_none, true_or, or_true, true_and, and_true, ↓reduceIte, zq_ite, zq_itel, zo_62, hp, s_M_letterAt hT ht hN (show p < 100 by omega), e0, s_M_sortBy, em, n1, hM.1, z7, not_true_eq_false]
      exact hQ0 I p (by unfold flt; rw [if_pos (Or.inr g2)]) (fun _ _ _ => rfl) hp
    · have z7 : (nI m.1 = 7) = False := (nI_eqN (b := 7) (by omega) (by decide)).trans (eq_false g2)
      have gn : ¬ (kl (f p) = 6 ∨ m.1 = 7) := fun w => by
        rcases w with w | w
        · exact g1 w
        · exact g2 w
      have T1 : TX (zup I 62 9 (nI (p + 1))) t N f := TX_eq hT (fun k j a b => by
        rcases b with b | b
        · exact zup_ne b
        · exact zup_nj b.1)
      have C1 := fun n d Q => s_M_corner (n := n) (d := d) (L := L) (Q := Q) T1 ht hN (show p + 1 < 100 by omega) zup_eq
      by_cases g3 : co (ltt f N (p + 1)) = 16
      · rw [if_pos g3, if_pos g3] at C1
        have n9 : ((0 : Int32) ≤ -1) = False := h0m
        simp only [e142_0, e142_1, e142_2, e142_5, e142_8, e142_11, e142_12, e142_13, e142_16, e142_17, e142_20, e142_22, e142_25, e142_26, e142_27, e142_28, e142_29, e142_32, e142_33, e142_34, e142_37, e142_38, e142_41, e142_41a, e142_42, e142_43, e142_46, e142_47, e142_48, e142_49, e142_52, e142_52a, e142_53, e142_54, e142_57, e142_58, e142_59, e142_60, e142_63, e142_64, e142_65, e142_68, e142_69, e142_70, e142_71, e142_72, e142_75, e142_76, e142_77, e142_80, e142_81, e142_82, e142_83, e142_84, e142_85, e142_86, e142_89, e142_90, e142_91, e142_94, e142_95, e142_96, e142_97, e142_98, e142_99, e142_100, e142_101, e142_104, e142_105, e142_106, e142_109, e142_110, zpush_some, zpush_none, true_or, or_true, true_and, and_true, ↓reduceIte, zq_ite, zq_itel, zo_62, hp, s_M_letterAt hT ht hN (show p < 100 by omega), e0, s_M_sortBy, em, n1, hM.1, z7, not_false_eq_true, nI_1, C1, n9]
        refine hQ0 _ (p + 1) ?_ (fun k j hk => ?_) zup_eq
        · unfold flt
          rw [if_neg gn]
          by_cases g4 : N ≤ p + 1
          · rw [if_pos g4, show N = p + 1 by omega]
          · rw [if_neg g4, if_pos (by rw [← g3, ltt, if_pos (by omega)])]
        · rcases hk with hk | hk
          · exact zup_ne hk
          · exact zup_nj hk
      · have g4 : ¬ N ≤ p + 1 := fun w => g3 (by rw [ltt, if_neg (by omega)]; exact co_out)
        have e1 : ltt f N (p + 1) = f (p + 1) := if_pos (by omega)
        rw [if_neg g3, if_neg g3, e1] at C1
        rw [e1] at g3
        have c1l : co (f (p + 1)) < 16 := by
          rcases co_c (f (p + 1)) with ⟨w, _⟩ | ⟨w, _⟩
          · exact absurd w g3
          · exact w
        have n9 := h0q (show co (f (p + 1)) < 2 ^ 31 by omega)
        have T2 : TX (zup (zup I 62 9 (nI (p + 1))) 62 9 (nI (p + 2))) t N f := TX_eq T1 (fun k j a b => by
          rcases b with b | b
          · exact zup_ne b
          · exact zup_nj b.1)
        have C2 := fun n d Q => s_M_corner (n := n) (d := d) (L := L) (Q := Q) T2 ht hN (show p + 2 < 100 by omega) zup_eq
        by_cases g5 : co (ltt f N (p + 2)) = 16
        · rw [if_pos g5, if_pos g5] at C2
          simp only [e142_0, e142_1, e142_2, e142_5, e142_8, e142_11, e142_12, e142_13, e142_16, e142_17, e142_20, e142_22, e142_25, e142_26, e142_27, e142_28, e142_29, e142_32, e142_33, e142_34, e142_37, e142_38, e142_41, e142_41a, e142_42, e142_43, e142_46, e142_47, e142_48, e142_49, e142_52, e142_52a, e142_53, e142_54, e142_57, e142_58, e142_59, e142_60, e142_63, e142_64, e142_65, e142_68, e142_69, e142_70, e142_71, e142_72, e142_75, e142_76, e142_77, e142_80, e142_81, e142_82, e142_83, e142_84, e142_85, e142_86, e142_89, e142_90, e142_91, e142_94, e142_95, e142_96, e142_97, e142_98, e142_99, e142_100, e142_101, e142_104, e142_105, e142_106, e142_109, e142_110, zpush_some, zpush_none, true_or, or_true, true_and, and_true, ↓reduceIte, zq_ite, zq_itel, zo_62, hp, s_M_letterAt hT ht hN (show p < 100 by omega), e0, s_M_sortBy, em, n1, hM.1, z7, not_false_eq_true, nI_1, C1, n9, C2, h0m]
          refine hQ0 _ (p + 2) ?_ (fun k j hk => ?_) zup_eq
          · unfold flt
            rw [if_neg gn, if_neg g4, if_neg g3]
            by_cases g6 : N ≤ p + 2
            · rw [if_pos g6, show N = p + 2 by omega]
            · rw [if_neg g6, if_pos (by rw [← g5, ltt, if_pos (by omega)])]
          · rcases hk with hk | hk
            · rw [zup_ne hk, zup_ne hk]
            · rw [zup_nj hk, zup_nj hk]
        · have g6 : ¬ N ≤ p + 2 := fun w => g5 (by rw [ltt, if_neg (by omega)]; exact co_out)
          have e2 : ltt f N (p + 2) = f (p + 2) := if_pos (by omega)
          rw [if_neg g5, if_neg g5, e2] at C2
          rw [e2] at g5
          have c2l : co (f (p + 2)) < 16 := by
            rcases co_c (f (p + 2)) with ⟨w, _⟩ | ⟨w, _⟩
            · exact absurd w g5
            · exact w
          have n92 := h0q (show co (f (p + 2)) < 2 ^ 31 by omega)
          have r12 : ∀ {v1 v2 v3 : Int32}, zup (zup (zup I 62 9 v1) 62 9 v2) 62 9 v3 62 12 = nI m.1 := fun {v1 v2 v3} => by rw [zup_nj (by decide), zup_nj (by decide), zup_nj (by decide)]; exact hM.1
          have e3 : (3 : Int32) * nI m.1 = nI (3 * m.1) := pk_mul 3 m.1
          have za : zin (nI (3 * m.1)) 21 = true := zin_ok (by omega) (by decide)
          have ca : (nI (3 * m.1)).toNatClampNeg = 3 * m.1 := nI_clamp (by omega)
          have zb1 : zin (nI (3 * m.1 + 1)) 21 = true := zin_ok (by omega) (by decide)
          have cb1 : (nI (3 * m.1 + 1)).toNatClampNeg = 3 * m.1 + 1 := nI_clamp (by omega)
          have zc1 : zin (nI (3 * m.1 + 2)) 21 = true := zin_ok (by omega) (by decide)
          have cc1 : (nI (3 * m.1 + 2)).toNatClampNeg = 3 * m.1 + 2 := nI_clamp (by omega)
          simp only [e142_0, e142_1, e142_2, e142_5, e142_8, e142_11, e142_12, e142_13, e142_16, e142_17, e142_20, e142_22, e142_25, e142_26, e142_27, e142_28, e142_29, e142_32, e142_33, e142_34, e142_37, e142_38, e142_41, e142_41a, e142_42, e142_43, e142_46, e142_47, e142_48, e142_49, e142_52, e142_52a, e142_53, e142_54, e142_57, e142_58, e142_59, e142_60, e142_63, e142_64, e142_65, e142_68, e142_69, e142_70, e142_71, e142_72, e142_75, e142_76, e142_77, e142_80, e142_81, e142_82, e142_83, e142_84, e142_85, e142_86, e142_89, e142_90, e142_91, e142_94, e142_95, e142_96, e142_97, e142_98, e142_99, e142_100, e142_101, e142_104, e142_105, e142_106, e142_109, e142_110, zpush_some, zpush_none, true_or, or_true, true_and, and_true, ↓reduceIte, zq_ite, zq_itel, zo_62, hp, s_M_letterAt hT ht hN (show p < 100 by omega), e0, s_M_sortBy, em, n1, hM.1, z7, not_false_eq_true, nI_1, C1, n9, C2, n92, zr_62_13, zn_68, zw_68, zl_68, r12, zup_ne (show (62 : Nat) ≠ 68 by decide), e3, za, ca, zb1, cb1, nI_2, zc1, cc1]
          refine hQ1 _ ?_ (fun k j a b => ?_) ?_ ⟨zup_eq, fun i hi => ?_⟩ (okM_psh hok g2 (by omega) c1l c2l) (by omega)
          · unfold flt
            rw [if_neg gn, if_neg g4, if_neg g3, if_neg g6, if_neg g5]
          · rcases b with b | b
            · rw [zup_ne b, zup_ne a, zup_ne a, zup_ne a, zup_ne b, zup_ne b, zup_ne b]
            · rw [zup_nj b.2, zup_ne a, zup_ne a, zup_ne a, zup_nj b.1, zup_nj b.1, zup_nj b.1]
          · rw [zup_nj (by decide), zup_ne (by decide), zup_ne (by decide), zup_ne (by decide), zup_eq]
          · have hi : i < m.1 + 1 := hi
            show _ = nI (upN m.2.1 m.1 _ i) ∧ _ = nI (upN m.2.2.1 m.1 _ i) ∧ _ = nI (upN m.2.2.2 m.1 _ i)
            rw [zup_ne (show (68 : Nat) ≠ 62 by decide), zup_ne (show (68 : Nat) ≠ 62 by decide), zup_ne (show (68 : Nat) ≠ 62 by decide)]
            by_cases e : i = m.1
            · subst e
              rw [upN_eq, upN_eq, upN_eq, zup_nj (by omega), zup_nj (by omega), zup_eq, zup_nj (by omega), zup_eq, zup_eq]
              exact ⟨rfl, rfl, rfl⟩
            · have nn : ∀ x y, x < 3 → y < 3 → 3 * i + x ≠ 3 * m.1 + y := fun x y hx hy => by omega
              have a0 : 3 * i ≠ 3 * m.1 := nn 0 0 (by decide) (by decide)
              have a1 : 3 * i ≠ 3 * m.1 + 1 := nn 0 1 (by decide) (by decide)
              have a2 : 3 * i ≠ 3 * m.1 + 2 := nn 0 2 (by decide) (by decide)
              have b0 : 3 * i + 1 ≠ 3 * m.1 := nn 1 0 (by decide) (by decide)
              have b1 : 3 * i + 1 ≠ 3 * m.1 + 1 := nn 1 1 (by decide) (by decide)
              have b2 : 3 * i + 1 ≠ 3 * m.1 + 2 := nn 1 2 (by decide) (by decide)
              have d0 : 3 * i + 2 ≠ 3 * m.1 := nn 2 0 (by decide) (by decide)
              have d1 : 3 * i + 2 ≠ 3 * m.1 + 1 := nn 2 1 (by decide) (by decide)
              have d2 : 3 * i + 2 ≠ 3 * m.1 + 2 := nn 2 2 (by decide) (by decide)
              simp only [upN_ne e, zup_nj a0, zup_nj a1, zup_nj a2, zup_nj b0, zup_nj b1, zup_nj b2, zup_nj d0, zup_nj d1, zup_nj d2, zup_ne (show (68 : Nat) ≠ 62 by decide)]
              exact hM.2 i (by omega)
theorem r_M_read (ht : t < 4) (hN : N ≤ 60) {o : Option Nat × Mq} {v1 : Value} (hQ : ∀ I', (∀ k j, k ≠ 68 → (k ≠ 62 ∨ (j ≠ 9 ∧ j ≠ 12)) → I' k j = I k j) → MM I' o.2 → Q (some (.int (rv o.1))) I' L) :
    ∀ U u p m I', u ≤ U → N < p + u → p ≤ N → (p = N ∨ ¬ f p = 32) → rd f N u p m = o → okM m → TX I' t N f → I' 62 9 = nI p → MM I' m → (∀ k j, k ≠ 68 → (k ≠ 62 ∨ (j ≠ 9 ∧ j ≠ 12)) → I' k j = I k j) → zV n (d + 3) 139 32 [.ref 62, v1] [] I' L Q := by
  intro U
  induction U with
  | zero => intro u p m I' h0 h1 h2; omega
  | succ U ih =>
    intro u p m I' h0 h1 h2 h3 ho hok hT hp hM hI
    obtain ⟨w, rfl⟩ : ∃ w, u = w + 1 := ⟨u - 1, by omega⟩
    by_cases g : p = N
    · have hm7 := hok.1
      rw [rd, if_pos (by omega)] at ho
      have e11 : I' 62 11 = nI p := by rw [hT.2.1, g]
      by_cases gm : m.1 = 0
      · rw [if_pos gm] at ho
        have z0 : (nI m.1 = 0) = True := by rw [gm]; exact eq_true rfl
        simp only [e139_32, e139_33, e139_36, e139_37, e139_40, e139_62, e139_63, e139_66, e139_69, e139_70, e139_73, e139_76, e139_78, zpush_some, zpush_none, true_or, or_true, true_and, and_true, ↓reduceIte, zq_ite, zq_itel, zo_62, hp, e11, Int32.le_refl, hM.1, z0, not_true_eq_false]
        have := hQ I'
        rw [← ho] at this
        rw [g]
        exact this hI hM
      · rw [if_neg gm] at ho
        have z0 : (nI m.1 = 0) = False := by rw [nI_z (by omega)]; exact eq_false gm
        simp only [e139_32, e139_33, e139_36, e139_37, e139_40, e139_62, e139_63, e139_66, e139_69, e139_70, e139_73, e139_76, e139_78, zpush_some, zpush_none, true_or, or_true, true_and, and_true, ↓reduceIte, zq_ite, zq_itel, zo_62, hp, e11, Int32.le_refl, hM.1, z0, not_false_eq_true]
        have := hQ I'
        rw [← ho] at this
        exact this hI hM
    · have hlt : (nI N ≤ nI p) = False := eq_false (nI_ge (by omega) (by omega))
      have h32 : ¬ f p = 32 := h3.resolve_left g
      rw [rd_flt (by omega) h32] at ho
      simp only [e139_32, e139_33, e139_36, e139_37, e139_40, e139_43, e139_44, zpush_some, zpush_none, true_or, or_true, true_and, and_true, ↓reduceIte, zq_ite, zq_itel, zo_62, hp, hT.2.1, hlt]
      refine t_M_item hT ht hN hp (by omega) hok hM (fun I2 y x1 x2 x3 => ?_) (fun I2 x1 x2 x3 x4 x5 x6 => ?_)
      · simp only [e139_44, e139_47, e139_50, e139_51, e139_54, zpush_some, zpush_none, true_or, or_true, true_and, and_true, ↓reduceIte, zq_ite, zq_itel, zo_62, x3, not_true_eq_false]
        rw [x1] at ho
        have := hQ I2
        rw [← ho] at this
        exact this (fun k j a b => by rw [x2 k j (by omega), hI k j a b]) (MM_eq hM x2)
      · simp only [e139_44, e139_47, e139_50, e139_51, e139_54, e139_55, e139_56, zpush_some, zpush_none, true_or, or_true, true_and, and_true, ↓reduceIte, zq_ite, zq_itel, zo_62, zz_1, not_false_eq_true]
        rw [x1] at ho
        refine r_M_skip ht hN w (p + 3) I2 (by omega) x6 (TX_eq hT x2) x3 (fun I3 p' u' y1 y2 y3 y4 y5 y6 y7 => ?_)
        simp only [e139_56, e139_59, zpush_some, zpush_none, true_or, or_true, true_and, and_true, ↓reduceIte, zq_ite, zq_itel]
        refine ih u' p' _ I3 (by omega) y3 y4 y7 (by rw [← y6]; exact ho) x5 (TX_eq (TX_eq hT x2) (fun k j a b => y1 k j (by omega))) y2 (MM_eq x4 y1) (fun k j a b => ?_)
        rw [y1 k j (by omega), x2 k j a b, hI k j a b]
theorem t_M_read (ht : t < 4) (hN : N ≤ 60) (hs : I 65 t = nI N) (hf : ∀ j, j < N → I 66 (60 * t + j) = f j) (hQ : ∀ I', (∀ k j, k ≠ 68 → (k ≠ 62 ∨ (j ≠ 9 ∧ j ≠ 10 ∧ j ≠ 11 ∧ j ≠ 12)) → I' k j = I k j) → MM I' (rd f N 61 0 M0).2 → Q (some (.int (rv (rd f N 61 0 M0).1))) I' L) : zV n (d + 3) 139 0 [.ref 62, .int (nI t)] [] I L Q := by
  have e60 : (60 : Int32) * nI t = nI (60 * t) := pk_mul 60 t
  have zt4 : zin (nI t) 4 = true := zin_ok ht (by decide)
  have ct : (nI t).toNatClampNeg = t := nI_clamp (by omega)
  have hs' : ∀ {v : Int32}, zup I 62 10 v 65 t = nI N := fun {v} => by rw [zup_ne (by decide)]; exact hs
  simp only [e139_0, e139_1, e139_3, e139_4, e139_5, e139_8, e139_9, e139_10, e139_13, e139_14, e139_15, e139_18, e139_19, e139_20, e139_23, e139_24, e139_25, e139_28, e139_29, zpush_some, zpush_none, true_or, or_true, true_and, and_true, ↓reduceIte, zq_ite, zq_itel, zo_62, e60, zr_62_2, zn_65, zl_65, zt4, ct, hs']
  have T0 : TX (zup (zup (zup (zup I 62 10 (nI (60 * t))) 62 11 (nI N)) 62 9 0) 62 12 0) t N f := ⟨by rw [zup_nj (by decide), zup_nj (by decide), zup_nj (by decide), zup_eq], by rw [zup_nj (by decide), zup_nj (by decide), zup_eq], fun j hj => by rw [zup_ne (by decide), zup_ne (by decide), zup_ne (by decide), zup_ne (by decide)]; exact hf j hj⟩
  refine r_M_skip (f := f) ht hN 61 0 _ (by omega) (by omega) T0 (by rw [zup_nj (by decide), zup_eq]; rfl) (fun I3 p' u' y1 y2 y3 y4 y5 y6 y7 => ?_)
  simp only [e139_29, zpush_some, zpush_none, true_or, or_true, true_and, and_true, ↓reduceIte, zq_ite, zq_itel]
  refine r_M_read (I := zup (zup (zup (zup I 62 10 (nI (60 * t))) 62 11 (nI N)) 62 9 0) 62 12 0) (f := f) (o := rd f N 61 0 M0) ht hN (fun I' x1 x2 => hQ I' (fun k j a b => ?_) x2) 61 u' p' M0 I3 y5 y3 y4 y7 (by rw [← y6]) ⟨Nat.zero_le _, fun i hi => absurd hi (Nat.not_lt_zero i)⟩ (TX_eq T0 (fun k j a b => y1 k j (by omega))) y2 ⟨by rw [y1 62 12 (by decide), zup_eq]; rfl, fun i hi => absurd hi (Nat.not_lt_zero i)⟩ (fun k j a b => y1 k j (by omega))
  rw [x1 k j a (by omega)]
  rcases b with b | ⟨b1, b2, b3, b4⟩
  · rw [zup_ne b, zup_ne b, zup_ne b, zup_ne b]
  · rw [zup_nj b4, zup_nj b1, zup_nj b3, zup_nj b2]
theorem p_fault (h : Inv I L) (h1 : ∀ j, j < 6 → I 1 j = zKL6 j) (r : Int32) : zV n (d + 4) 25 0 [.ref 3, .int r] [] I L (fun v1 I1 L1 => zV n (d + 4) 138 0 [.ref 62, .int r] [] I1 L1 (fun v2 I2 L2 => same v1 v2 ∧ Inv I2 L2)) := by
  rcases rng r 3 (by decide) (a := 4) (b := 3) rfl rfl with g1 | ⟨g1, g2, g3⟩ | ⟨t, ht, rfl, g1, g2, g3⟩
  · simp only [e25_0, e25_1, e25_4, e25_7, e25_8, e25_9, e25_10, e25_13, e25_14, e25_15, e25_18, e25_21, e25_22, e25_23, e25_26, e25_27, e25_28, e25_31, e25_32, e25_33, e25_34, e25_37, e25_40, e138_0, e138_1, e138_2, e138_3, e138_6, e138_9, e138_10, e138_11, e138_12, e138_15, e138_16, e138_17, e138_20, e138_21, e138_22, e138_25, e138_28, e138_29, e138_30, e138_33, zpush_some, zpush_none, true_or, or_true, true_and, and_true, ↓reduceIte, zq_ite, zq_itel, s_X_isText, s_M_in, g1, not_true_eq_false]
    exact ⟨same_i, h⟩
  · simp only [e25_0, e25_1, e25_4, e25_7, e25_8, e25_9, e25_10, e25_13, e25_14, e25_15, e25_18, e25_21, e25_22, e25_23, e25_26, e25_27, e25_28, e25_31, e25_32, e25_33, e25_34, e25_37, e25_40, e138_0, e138_1, e138_2, e138_3, e138_6, e138_9, e138_10, e138_11, e138_12, e138_15, e138_16, e138_17, e138_20, e138_21, e138_22, e138_25, e138_28, e138_29, e138_30, e138_33, zpush_some, zpush_none, true_or, or_true, true_and, and_true, ↓reduceIte, zq_ite, zq_itel, s_X_isText, s_M_in, g1, g2, g3, not_true_eq_false]
    exact ⟨same_i, h⟩
  · obtain ⟨z0, hz⟩ := text_z t ht
    have zt4 : zin (nI t) 4 = true := zin_ok ht (by decide)
    have ct : (nI t).toNatClampNeg = t := nI_clamp (by omega)
    obtain ⟨e1, e2⟩ := h.2.2.1 t ht
    have o65 : ∀ f, fX I f 65 t = I 65 t := fun f => fX_o (by omega)
    by_cases hm : I 65 t = -1
    · simp only [e25_0, e25_1, e25_4, e25_7, e25_8, e25_9, e25_10, e25_13, e25_14, e25_15, e25_18, e25_21, e25_22, e25_23, e25_26, e25_27, e25_28, e25_31, e25_32, e25_33, e25_34, e25_37, e25_40, e138_0, e138_1, e138_2, e138_3, e138_6, e138_9, e138_10, e138_11, e138_12, e138_15, e138_16, e138_17, e138_20, e138_21, e138_22, e138_25, e138_28, e138_29, e138_30, e138_33, zpush_some, zpush_none, true_or, or_true, true_and, and_true, ↓reduceIte, zq_ite, zq_itel, s_X_isText, s_M_in, g1, g2, g3, zz_1, not_false_eq_true, zo_3, zr_3_1, zn_5, zl_5, zt4, ct, z0, hz.1, s_S_isMissing hz, e1.trans hm, h0m, s_X_found1, zo_62, zr_62_2, zn_65, zl_65, o65, hm, s_M_finds1]
      exact ⟨same_i, inv_find (by decide) (by decide) h⟩
    · obtain ⟨N, q1, q2, q3⟩ := e2.resolve_left hm
      have hq0 := h0q (show N < 2 ^ 31 by omega)
      simp only [e25_0, e25_1, e25_4, e25_7, e25_8, e25_9, e25_10, e25_13, e25_14, e25_15, e25_18, e25_21, e25_22, e25_23, e25_26, e25_27, e25_28, e25_31, e25_32, e25_33, e25_34, e25_37, zpush_some, zpush_none, true_or, or_true, true_and, and_true, ↓reduceIte, zq_ite, zq_itel, s_X_isText, g1, g2, zz_1, not_false_eq_true, zo_3, zr_3_1, zr_3_6, zn_5, zl_5, zt4, ct, z0, hz.1, zo_19, s_S_isMissing hz, e1.trans q2, hq0]
      refine t_X_read (f := fun j => I 66 (60 * t + j)) hz (by omega) (e1.trans q2) q1 (fun j hj => by rw [show 48 + 2 * t + 1 = 48 + 1 + 2 * t by omega]; exact q3 j hj) h1 (fun I1 L1 x1 x2 x3 x4 => ?_)
      have y65 : I1 65 t = nI N := by rw [x1 65 t (by decide)]; exact q2
      simp only [e25_37, e25_40, e138_0, e138_1, e138_2, e138_3, e138_6, e138_9, e138_10, e138_11, e138_12, e138_15, e138_16, e138_17, e138_20, e138_21, e138_22, e138_25, e138_28, e138_29, e138_30, zpush_some, zpush_none, true_or, or_true, true_and, and_true, ↓reduceIte, zq_ite, zq_itel, s_M_in, g1, g3, zz_1, not_false_eq_true, zo_62, zr_62_2, zn_65, zl_65, zt4, ct, y65, hq0]
      refine t_M_read (f := fun j => I 66 (60 * t + j)) ht q1 y65 (fun j hj => x1 66 _ (by decide)) (fun I2 w1 w2 => ?_)
      simp only [e138_30, e138_33, zpush_some, zpush_none, true_or, or_true, true_and, and_true, ↓reduceIte, zq_ite, zq_itel]
      refine ⟨same_i, inv_other h (fun k j hk => ?_) (fun k j hk => x2 k j (by omega))⟩
      unfold cubeCell at hk
      rw [w1 k j (by omega) (by omega), x1 k j (by omega)]
end
