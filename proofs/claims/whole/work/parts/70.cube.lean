/-! CUBE -/
theorem rd_le {f : Nat → Int32} {N : Nat} : ∀ {u p : Nat} {m : Mq} {y : Nat}, p ≤ N → (rd f N u p m).1 = some y → y ≤ N
  | 0, p, m, y, _, h => by cases h
  | u + 1, p, m, y, hp, h => by
    rw [rd] at h
    split at h
    · split at h
      · cases h; exact Nat.le_refl _
      · cases h
    · split at h
      · exact rd_le (by omega) h
      · split at h
        · cases h; exact hp
        · split at h
          · cases h; exact Nat.le_refl _
          · split at h
            · cases h; omega
            · split at h
              · cases h; exact Nat.le_refl _
              · split at h
                · cases h; omega
                · exact rd_le (by omega) h
section
variable {n d : Nat} {I I' : zi} {L L' : zl} {Q : zq} {K K' : Nat → Nat} {s s' s0 : Cs} {k q i a b l N p j c t u : Nat} {x : Int32} {f : Nat → Int32} {m : Mq}
def s0M (m : Mq) : Cs := (m.2.2.1, m.2.2.2, fun _ => 4, 0, 0, 0)
theorem QM_XC (h : QM I L m) (hok : okM m) : XC I L 19 m.1 m.2.1 (s0M m) := by
  obtain ⟨h1, h2, h3, h4, h5⟩ := h
  refine ⟨m.2.1, s0M m, eqm.rf, eqs.rf, ⟨h1, hok.1⟩, fun c hc w hw => ?_, h3, h4, fun i hi => ?_⟩
  · rw [h2, bl_0]
    exact (b_0 _).symm
  · obtain ⟨a1, a2, a3⟩ := hok.2 i hi
    obtain ⟨b1, b2, b3, b4⟩ := h5 i hi
    exact ⟨⟨b1, a1⟩, ⟨b2, a2⟩, ⟨b3, a3⟩, b4, Nat.le_refl _⟩
theorem l_X_drop {v1 : Int32} (hQ : ∀ I', (∀ k j, (k ≠ 56 ∧ k ≠ 58 ∧ k ≠ 60) → I' k j = I k j) → (∀ q, q < 3 → I' (56 + 2 * q) 1 = -1) → zV n (d + 1) 31 90 [.ref 3, .int v1, .int 3] [] I' L Q) :
    ∀ r i I', i + r = 3 → (∀ k j, (k ≠ 56 ∧ k ≠ 58 ∧ k ≠ 60) → I' k j = I k j) → (∀ q, q < i → I' (56 + 2 * q) 1 = -1) → zV n (d + 1) 31 70 [.ref 3, .int v1, .int (nI i)] [] I' L Q := by
  intro r
  induction r with
  | zero =>
    intro i I' hi h1 h2
    have e : i = 3 := by omega
    subst e
    simp only [e31_70, e31_71, e31_72, zpush_some, zpush_none, true_or, or_true, true_and, and_true, ↓reduceIte, zq_ite, zq_itel, show nI 3 = (3 : Int32) from rfl, Int32.le_refl]
    exact hQ I' h1 h2
  | succ r ih =>
    intro i I' hi h1 h2
    have hlt : ((3 : Int32) ≤ nI i) = False := eq_false (nI_ge (b := 3) (by omega) (by omega))
    have zi7 : zin (nI i) 3 = true := zin_ok (by omega) (by omega)
    have ci : (nI i).toNatClampNeg = i := nI_clamp (by omega)
    obtain ⟨z0, hs⟩ := kept_z i (by omega)
    simp only [e31_70, e31_71, e31_72, e31_75, e31_76, e31_79, e31_80, e31_81, zpush_some, zpush_none, true_or, or_true, true_and, and_true, ↓reduceIte, zq_ite, zq_itel, hlt, zo_3, zr_3_3, zn_8, zl_8, zi7, ci, z0, hs.1, s_S_drop hs]
    simp only [e31_84, e31_87, nI_1]
    refine ih (i + 1) _ (by omega) (fun k j g => by rw [zup_ne (by omega)]; exact h1 k j g) (fun q hq => ?_)
    by_cases e : q = i
    · subst e; exact zup_eq
    · rw [zup_ne (by omega)]; exact h2 q (by omega)
theorem l_M_c1 {v1 : Int32} (hQ : ∀ I', (∀ k j, k ≠ 70 → I' k j = I k j) → (∀ j, j < 24 → I' 70 j = if j < 17 then 0 else -9) → zV n (d + 1) 145 79 [.ref 62, .int v1, .int 24] [] I' L Q) :
    ∀ r i I', i + r = 24 → (∀ k j, k ≠ 70 → I' k j = I k j) → (∀ j, j < i → I' 70 j = if j < 17 then 0 else -9) → zV n (d + 1) 145 49 [.ref 62, .int v1, .int (nI i)] [] I' L Q := by
  intro r
  induction r with
  | zero =>
    intro i I' hi h1 h2
    have e : i = 24 := by omega
    subst e
    simp only [e145_49, e145_50, e145_52, zpush_some, zpush_none, true_or, or_true, true_and, and_true, ↓reduceIte, zq_ite, zq_itel, show nI 24 = (24 : Int32) from rfl, Int32.le_refl]
    exact hQ I' h1 h2
  | succ r ih =>
    intro i I' hi h1 h2
    have hlt : ((24 : Int32) ≤ nI i) = False := eq_false (nI_ge (b := 24) (by omega) (by omega))
    have zi7 : zin (nI i) 24 = true := zin_ok (by omega) (by omega)
    have ci : (nI i).toNatClampNeg = i := nI_clamp (by omega)
    have h17 : ((17 : Int32) ≤ nI i) = (17 ≤ i) := nI_leN (a := 17) (by decide) (by omega)
    by_cases g : i < 17
    · have h17 := h17.trans (eq_false (by omega))
      simp only [e145_49, e145_50, e145_52, e145_55, e145_56, e145_59, e145_60, e145_61, e145_63, e145_66, e145_67, e145_70, e145_72, zpush_some, zpush_none, true_or, or_true, true_and, and_true, ↓reduceIte, zq_ite, zq_itel, hlt, h17, zo_62, zr_62_16, zn_70, zw_70, zl_70, zi7, ci]
      simp only [e145_73, e145_76, nI_1]
      refine ih (i + 1) _ (by omega) (fun k j w => by rw [zup_ne w]; exact h1 k j w) (fun j hj => ?_)
      by_cases e : j = i
      · subst e; rw [zup_eq, if_pos g]
      · rw [zup_nj e]; exact h2 j (by omega)
    · have h17 := h17.trans (eq_true (by omega))
      simp only [e145_49, e145_50, e145_52, e145_55, e145_56, e145_59, e145_60, e145_61, e145_63, e145_66, e145_67, e145_70, e145_72, zpush_some, zpush_none, true_or, or_true, true_and, and_true, ↓reduceIte, zq_ite, zq_itel, hlt, h17, zo_62, zr_62_16, zn_70, zw_70, zl_70, zi7, ci]
      simp only [e145_73, e145_76, nI_1]
      refine ih (i + 1) _ (by omega) (fun k j w => by rw [zup_ne w]; exact h1 k j w) (fun j hj => ?_)
      by_cases e : j = i
      · subst e; rw [zup_eq, if_neg g]
      · rw [zup_nj e]; exact h2 j (by omega)
theorem l_M_c2 {v1 : Int32} (hok : okM m) (hm : I 62 14 = nI m.1) (hr : ∀ i, i < m.1 → I 68 (3 * i) = nI (m.2.1 i) ∧ I 68 (3 * i + 1) = nI (m.2.2.1 i) ∧ I 68 (3 * i + 2) = nI (m.2.2.2 i)) (hQ : ∀ I', (∀ k j, (k ≠ 69 ∨ m.1 ≤ j) → (k ≠ 70 ∨ j < 3 ∨ (3 + m.1 ≤ j ∧ j < 10) ∨ 10 + m.1 ≤ j) → I' k j = I k j) → (∀ j, j < m.1 → I' 69 j = nI (m.2.1 j) ∧ I' 70 (3 + j) = nI (m.2.2.1 j) ∧ I' 70 (10 + j) = nI (m.2.2.2 j)) → zV n (d + 1) 145 146 [.ref 62, .int v1, .int (nI m.1)] [] I' L Q) :
    ∀ r i I', i + r = m.1 → (∀ k j, (k ≠ 69 ∨ i ≤ j) → (k ≠ 70 ∨ j < 3 ∨ (3 + i ≤ j ∧ j < 10) ∨ 10 + i ≤ j) → I' k j = I k j) → (∀ j, j < i → I' 69 j = nI (m.2.1 j) ∧ I' 70 (3 + j) = nI (m.2.2.1 j) ∧ I' 70 (10 + j) = nI (m.2.2.2 j)) → zV n (d + 1) 145 81 [.ref 62, .int v1, .int (nI i)] [] I' L Q := by
  have hm7 := hok.1
  intro r
  induction r with
  | zero =>
    intro i I' hi h1 h2
    have e : i = m.1 := by omega
    subst e
    have e1 : I' 62 14 = nI m.1 := by rw [h1 62 14 (Or.inl (by decide)) (Or.inl (by decide))]; exact hm
    simp only [e145_81, e145_82, e145_83, e145_86, zpush_some, zpush_none, true_or, or_true, true_and, and_true, ↓reduceIte, zq_ite, zq_itel, zo_62, e1, Int32.le_refl]
    exact hQ I' h1 h2
  | succ r ih =>
    intro i I' hi h1 h2
    have hlt : (nI m.1 ≤ nI i) = False := eq_false (nI_ge (by omega) (by omega))
    have e1 : I' 62 14 = nI m.1 := by rw [h1 62 14 (Or.inl (by decide)) (Or.inl (by decide))]; exact hm
    have zi7 : zin (nI i) 7 = true := zin_ok (by omega) (by omega)
    have ci : (nI i).toNatClampNeg = i := nI_clamp (by omega)
    have e3 : (3 : Int32) * nI i = nI (3 * i) := pk_mul 3 i
    have za : zin (nI (3 * i)) 21 = true := zin_ok (by omega) (by decide)
    have ca : (nI (3 * i)).toNatClampNeg = 3 * i := nI_clamp (by omega)
    have zb1 : zin (nI (3 * i + 1)) 21 = true := zin_ok (by omega) (by decide)
    have cb1 : (nI (3 * i + 1)).toNatClampNeg = 3 * i + 1 := nI_clamp (by omega)
    have zc1 : zin (nI (3 * i + 2)) 21 = true := zin_ok (by omega) (by decide)
    have cc1 : (nI (3 * i + 2)).toNatClampNeg = 3 * i + 2 := nI_clamp (by omega)
    have z3 : zin (nI (3 + i)) 24 = true := zin_ok (by omega) (by decide)
    have c3 : (nI (3 + i)).toNatClampNeg = 3 + i := nI_clamp (by omega)
    have z10 : zin (nI (10 + i)) 24 = true := zin_ok (by omega) (by decide)
    have c10 : (nI (10 + i)).toNatClampNeg = 10 + i := nI_clamp (by omega)
    obtain ⟨r1, r2, r3⟩ := hr i (by omega)
    have s1 : I' 68 (3 * i) = nI (m.2.1 i) := by rw [h1 68 _ (Or.inl (by decide)) (Or.inl (by decide))]; exact r1
    have s2 : I' 68 (3 * i + 1) = nI (m.2.2.1 i) := by rw [h1 68 _ (Or.inl (by decide)) (Or.inl (by decide))]; exact r2
    have s3 : I' 68 (3 * i + 2) = nI (m.2.2.2 i) := by rw [h1 68 _ (Or.inl (by decide)) (Or.inl (by decide))]; exact r3
    simp only [e145_81, e145_82, e145_83, e145_86, e145_89, e145_90, e145_93, e145_94, e145_95, e145_98, e145_99, e145_100, e145_101, e145_102, e145_103, e145_104, e145_107, e145_108, e145_109, e145_110, e145_111, e145_114, e145_115, e145_116, e145_117, e145_118, e145_119, e145_120, e145_121, e145_122, e145_125, e145_127, e145_128, e145_129, e145_130, e145_133, e145_134, e145_135, e145_136, e145_137, e145_138, e145_139, zpush_some, zpush_none, true_or, or_true, true_and, and_true, ↓reduceIte, zq_ite, zq_itel, zo_62, e1, hlt, zr_62_13, zr_62_15, zr_62_16, zn_68, zl_68, zn_69, zw_69, zl_69, zn_70, zw_70, zl_70, zi7, ci, e3, za, ca, nI_1, zb1, cb1, nI_2, zc1, cc1, i_3, z3, c3, i_10, z10, c10, zup_ne (show (68 : Nat) ≠ 69 by decide), zup_ne (show (68 : Nat) ≠ 70 by decide), s1, s2, s3]
    simp only [e145_140, e145_143, nI_1]
    refine ih (i + 1) _ (by omega) (fun k j a b => ?_) (fun j hj => ?_)
    · have q1 : zup (zup (zup I' 69 i (nI (m.2.1 i))) 70 (3 + i) (nI (m.2.2.1 i))) 70 (10 + i) (nI (m.2.2.2 i)) k j = I' k j := by
        have a1 : ∀ {g : zi} {v : Int32}, zup g 70 (10 + i) v k j = g k j := fun {g v} => by
          by_cases e : k = 70
          · exact zup_nj (by omega)
          · exact zup_ne e
        have a2 : ∀ {g : zi} {v : Int32}, zup g 70 (3 + i) v k j = g k j := fun {g v} => by
          by_cases e : k = 70
          · exact zup_nj (by omega)
          · exact zup_ne e
        have a3 : ∀ {g : zi} {v : Int32}, zup g 69 i v k j = g k j := fun {g v} => by
          by_cases e : k = 69
          · exact zup_nj (by omega)
          · exact zup_ne e
        rw [a1, a2, a3]
      rw [q1]
      exact h1 k j (by omega) (by omega)
    · rw [zup_ne (show (69 : Nat) ≠ 70 by decide), zup_ne (show (69 : Nat) ≠ 70 by decide)]
      by_cases e : j = i
      · subst e
        rw [zup_eq, zup_nj (by omega), zup_eq, zup_eq]
        exact ⟨rfl, rfl, rfl⟩
      · have f1 : 3 + j ≠ 10 + i := by omega
        have f2 : 3 + j ≠ 3 + i := by omega
        have f3 : 10 + j ≠ 10 + i := by omega
        have f4 : 10 + j ≠ 3 + i := by omega
        simp only [zup_nj e, zup_nj f1, zup_nj f2, zup_nj f3, zup_nj f4, zup_ne (show (70 : Nat) ≠ 69 by decide)]
        exact h2 j (by omega)
theorem l_M_c3 {v1 : Int32} (hQ : ∀ I', (∀ k j, k ≠ 74 → I' k j = I k j) → (∀ j, j < 3 → I' 74 j = -1) → zV n (d + 1) 145 171 [.ref 62, .int v1, .int 3] [] I' L Q) :
    ∀ r i I', i + r = 3 → (∀ k j, k ≠ 74 → I' k j = I k j) → (∀ j, j < i → I' 74 j = -1) → zV n (d + 1) 145 153 [.ref 62, .int v1, .int (nI i)] [] I' L Q := by
  intro r
  induction r with
  | zero =>
    intro i I' hi h1 h2
    have e : i = 3 := by omega
    subst e
    simp only [e145_153, e145_154, e145_155, zpush_some, zpush_none, true_or, or_true, true_and, and_true, ↓reduceIte, zq_ite, zq_itel, show nI 3 = (3 : Int32) from rfl, Int32.le_refl]
    exact hQ I' h1 h2
  | succ r ih =>
    intro i I' hi h1 h2
    have hlt : ((3 : Int32) ≤ nI i) = False := eq_false (nI_ge (b := 3) (by omega) (by omega))
    have zi7 : zin (nI i) 3 = true := zin_ok (by omega) (by omega)
    have ci : (nI i).toNatClampNeg = i := nI_clamp (by omega)
    simp only [e145_153, e145_154, e145_155, e145_158, e145_159, e145_162, e145_163, e145_164, zpush_some, zpush_none, true_or, or_true, true_and, and_true, ↓reduceIte, zq_ite, zq_itel, hlt, zo_62, zr_62_21, zn_74, zw_74, zl_74, zi7, ci]
    simp only [e145_165, e145_168, nI_1]
    refine ih (i + 1) _ (by omega) (fun k j w => by rw [zup_ne w]; exact h1 k j w) (fun j hj => ?_)
    by_cases e : j = i
    · subst e; exact zup_eq
    · rw [zup_nj e]; exact h2 j (by omega)
theorem p_cube (h : Inv I L) (h1 : ∀ j, j < 6 → I 1 j = zKL6 j) (r : Int32) : zV n (d + 6) 31 0 [.ref 3, .int r, .null] [] I L (fun v1 I1 L1 => zV n (d + 6) 145 0 [.ref 62, .int r, .null] [] I1 L1 (fun v2 I2 L2 => same v1 v2 ∧ Inv I2 L2)) := by
  rcases rng r 3 (by decide) (a := 4) (b := 3) rfl rfl with g1 | ⟨g1, g2, g3⟩ | ⟨t, ht, rfl, g1, g2, g3⟩
  · simp only [e31_0, e31_1, e31_4, e31_7, e31_8, e31_9, e31_10, e31_13, e31_14, e31_15, e31_18, e31_21, e31_22, e31_23, e31_26, e31_27, e31_28, e31_31, e31_32, e31_33, e31_34, e31_37, e31_40, e31_42, e31_45, e31_47, e145_0, e145_1, e145_2, e145_3, e145_6, e145_9, e145_10, e145_11, e145_12, e145_15, e145_16, e145_17, e145_20, e145_21, e145_22, e145_25, e145_26, e145_27, e145_28, e145_31, e145_33, e145_36, e145_38, zpush_some, zpush_none, true_or, or_true, true_and, and_true, ↓reduceIte, zq_ite, zq_itel, s_X_isText, s_M_in, g1, not_true_eq_false]
    exact ⟨same_i, h⟩
  · simp only [e31_0, e31_1, e31_4, e31_7, e31_8, e31_9, e31_10, e31_13, e31_14, e31_15, e31_18, e31_21, e31_22, e31_23, e31_26, e31_27, e31_28, e31_31, e31_32, e31_33, e31_34, e31_37, e31_40, e31_42, e31_45, e31_47, e145_0, e145_1, e145_2, e145_3, e145_6, e145_9, e145_10, e145_11, e145_12, e145_15, e145_16, e145_17, e145_20, e145_21, e145_22, e145_25, e145_26, e145_27, e145_28, e145_31, e145_33, e145_36, e145_38, zpush_some, zpush_none, true_or, or_true, true_and, and_true, ↓reduceIte, zq_ite, zq_itel, s_X_isText, s_M_in, g1, g2, g3, not_true_eq_false]
    exact ⟨same_i, h⟩
  · obtain ⟨z0, hz⟩ := text_z t ht
    have zt4 : zin (nI t) 4 = true := zin_ok ht (by decide)
    have ct : (nI t).toNatClampNeg = t := nI_clamp (by omega)
    obtain ⟨e1, e2⟩ := h.2.2.1 t ht
    have o65 : ∀ f, fX I f 65 t = I 65 t := fun f => fX_o (by omega)
    by_cases hm : I 65 t = -1
    · simp only [e31_0, e31_1, e31_4, e31_7, e31_8, e31_9, e31_10, e31_13, e31_14, e31_15, e31_18, e31_21, e31_22, e31_23, e31_26, e31_27, e31_28, e31_31, e31_32, e31_33, e31_34, e31_37, e31_40, e31_42, e31_45, e31_47, e145_0, e145_1, e145_2, e145_3, e145_6, e145_9, e145_10, e145_11, e145_12, e145_15, e145_16, e145_17, e145_20, e145_21, e145_22, e145_25, e145_26, e145_27, e145_28, e145_31, e145_33, e145_36, e145_38, zpush_some, zpush_none, true_or, or_true, true_and, and_true, ↓reduceIte, zq_ite, zq_itel, s_X_isText, s_M_in, g1, g2, g3, zz_1, not_false_eq_true, zo_3, zr_3_1, zn_5, zl_5, zt4, ct, z0, hz.1, s_S_isMissing hz, e1.trans hm, h0m, s_X_found1, zo_62, zr_62_2, zn_65, zl_65, o65, hm, s_M_finds1]
      exact ⟨same_i, inv_find (by decide) (by decide) h⟩
    · obtain ⟨N, q1, q2, q3⟩ := e2.resolve_left hm
      have hq0 := h0q (show N < 2 ^ 31 by omega)
      simp only [e31_0, e31_1, e31_4, e31_7, e31_8, e31_9, e31_10, e31_13, e31_14, e31_15, e31_18, e31_21, e31_22, e31_23, e31_26, e31_27, e31_28, e31_31, e31_32, e31_33, e31_34, e31_37, zpush_some, zpush_none, true_or, or_true, true_and, and_true, ↓reduceIte, zq_ite, zq_itel, s_X_isText, g1, g2, zz_1, not_false_eq_true, zo_3, zr_3_1, zr_3_6, zn_5, zl_5, zt4, ct, z0, hz.1, zo_19, s_S_isMissing hz, e1.trans q2, hq0]
      refine t_X_read (f := fun j => I 66 (60 * t + j)) hz (by omega) (e1.trans q2) q1 (fun j hj => by rw [show 48 + 2 * t + 1 = 48 + 1 + 2 * t by omega]; exact q3 j hj) h1 (fun I1 L1 x1 x2 x3 x4 => ?_)
      have hle := fun y => rd_le (f := fun j => I 66 (60 * t + j)) (N := N) (u := 61) (p := 0) (m := M0) (y := y) (Nat.zero_le _)
      have y65 : ∀ {J : zi}, (∀ k j, (k < 19 ∨ 23 < k) → J k j = I k j) → J 65 t = nI N := fun {J} w => by rw [w 65 t (by decide)]; exact q2
      generalize hO : rd (fun j => I 66 (60 * t + j)) N 61 0 M0 = o at x3 x4 hle
      cases ho : o.1 with
      | some y =>
        have hy := hle y ho
        have n9 : (nI y = -9) = False := eq_false ((by decide +kernel : ∀ w, w < 61 → ¬ nI w = -9) y (by omega))
        simp only [e31_37, e31_40, e31_42, e31_45, e31_47, e145_0, e145_1, e145_2, e145_3, e145_6, e145_9, e145_10, e145_11, e145_12, e145_15, e145_16, e145_17, e145_20, e145_21, e145_22, e145_25, e145_26, e145_27, e145_28, zpush_some, zpush_none, true_or, or_true, true_and, and_true, ↓reduceIte, zq_ite, zq_itel, rv, n9, s_M_in, g1, g3, zz_1, not_false_eq_true, zo_62, zr_62_2, zn_65, zl_65, zt4, ct, y65 x1, hq0]
        refine t_M_read (f := fun j => I 66 (60 * t + j)) ht q1 (y65 x1) (fun j hj => x1 66 _ (by decide)) (fun I2 w1 w2 => ?_)
        rw [hO, ho]
        simp only [e145_28, e145_31, e145_33, e145_36, e145_38, zpush_some, zpush_none, true_or, or_true, true_and, and_true, ↓reduceIte, zq_ite, zq_itel, rv, n9]
        refine ⟨same_i, inv_other h (fun k j hk => ?_) (fun k j hk => x2 k j (by omega))⟩
        unfold cubeCell at hk
        rw [w1 k j (by omega) (by omega), x1 k j (by omega)]
      | none =>
        have hm7 := x4.1
        simp only [e31_37, e31_40, e31_42, e31_45, e31_47, e31_48, e31_49, e31_52, e31_53, e31_56, zpush_some, zpush_none, true_or, or_true, true_and, and_true, ↓reduceIte, zq_ite, zq_itel, rv, zo_3, zr_3_4, zr_3_6, zo_9, zo_19]
        refine t_Q_take (Qa_z (Or.inl rfl)) (Qa_z (Or.inr (Or.inr rfl))) (by decide) (QM_XC x3 x4) (fun I2 L2 y1 y2 y3 => ?_)
        simp only [e31_56, e31_59, e31_60, e31_63, e31_64, e31_65, zpush_some, zpush_none, true_or, or_true, true_and, and_true, ↓reduceIte, zq_ite, zq_itel, zo_3, zr_3_2, Sz_6.1]
        refine s_S_renew (q := 0) Sz_6 (by decide) (Nat.zero_le _) (fun I3 u1 u2 u3 => ?_)
        simp only [e31_65, e31_68, e31_69, zpush_some, zpush_none, true_or, or_true, true_and, and_true, ↓reduceIte, zq_ite, zq_itel]
        refine l_X_drop (I := I3) (fun I4 w1 w2 => ?_) 3 0 I3 rfl (fun _ _ _ => rfl) (fun q hq => absurd hq (Nat.not_lt_zero q))
        simp only [e31_90, e31_91, zpush_some, zpush_none, true_or, or_true, true_and, and_true, ↓reduceIte, zq_ite, zq_itel, zo_3]
        have hI4 : ∀ k j, (k ≠ 56 ∧ k ≠ 58 ∧ k ≠ 60) → (k < 9 ∨ 13 < k) → (k < 19 ∨ 23 < k) → (k ≠ 6 ∨ j ≠ 1) → I4 k j = I k j := fun k j a b c e => by
          rw [w1 k j a, u1 k j (Or.inr (Nat.zero_le _)) e, y2 k j b, x1 k j c]
        have hX9 : XC I4 L2 9 o.2.1 o.2.2.1 (s0M o.2) := XC_eq y1 (fun k' j a b _ => by rw [w1 k' j (by omega), u1 k' j (Or.inr (Nat.zero_le _)) (by omega)]) rfl
        have hds : DS I4 6 [] := ⟨Nat.zero_le _, by rw [w1 6 1 (by decide), u2]; rfl, fun j hj => absurd hj (Nat.not_lt_zero j)⟩
        refine t_X_replay (D := []) hX9 (fun c hc => absurd hc (by simp)) (Nat.zero_le _) hds (fun I5 L5 v1 v2 v3 => ?_)
        have hI5 : ∀ k j, (k ≠ 56 ∧ k ≠ 58 ∧ k ≠ 60) → (k < 9 ∨ 23 < k) → (k ≠ 6 ∨ j ≠ 1) → I5 k j = I k j := fun k j a b e => by
          rw [v2 k j (by omega), hI4 k j a (by omega) (by omega) e]
        have y655 : I5 65 t = nI N := by rw [hI5 65 t (by decide) (by decide) (by omega)]; exact q2
        simp only [e31_91, e31_94, e31_95, e31_98, e31_101, e145_0, e145_1, e145_2, e145_3, e145_6, e145_9, e145_10, e145_11, e145_12, e145_15, e145_16, e145_17, e145_20, e145_21, e145_22, e145_25, e145_26, e145_27, e145_28, zpush_some, zpush_none, true_or, or_true, true_and, and_true, ↓reduceIte, zq_ite, zq_itel, zo_3, zr_3_5, zo_14, XC_m v1, s_M_in, g1, g3, zz_1, not_false_eq_true, zo_62, zr_62_2, zn_65, zl_65, zt4, ct, y655, hq0]
        refine t_M_read (f := fun j => I 66 (60 * t + j)) ht q1 y655 (fun j hj => hI5 66 _ (by decide) (by decide) (by omega)) (fun I6 a1 a2 => ?_)
        rw [hO] at a2 ⊢
        rw [ho]
        simp only [e145_28, e145_31, e145_33, e145_36, e145_38, e145_39, e145_40, e145_41, e145_44, e145_47, e145_48, zpush_some, zpush_none, true_or, or_true, true_and, and_true, ↓reduceIte, zq_ite, zq_itel, rv, zo_62, a2.1]
        refine l_M_c1 (I := zup I6 62 14 (nI o.2.1)) (fun I7 b1 b2 => ?_) 24 0 _ rfl (fun _ _ _ => rfl) (fun j hj => absurd hj (Nat.not_lt_zero j))
        simp only [e145_79, e145_80, zpush_some, zpush_none, true_or, or_true, true_and, and_true, ↓reduceIte, zq_ite, zq_itel]
        refine l_M_c2 (I := I7) (m := o.2) x4 (by rw [b1 62 14 (by decide), zup_eq]) (fun i hi => by rw [b1 68 _ (by decide), b1 68 _ (by decide), b1 68 _ (by decide), zup_ne (by decide), zup_ne (by decide), zup_ne (by decide)]; exact a2.2 i hi) (fun I8 c1 c2 => ?_) o.2.1 0 I7 (by omega) (fun _ _ _ _ => rfl) (fun j hj => absurd hj (Nat.not_lt_zero j))
        simp only [e145_146, e145_147, e145_148, e145_151, e145_152, zpush_some, zpush_none, true_or, or_true, true_and, and_true, ↓reduceIte, zq_ite, zq_itel, zo_62]
        refine l_M_c3 (I := zup I8 62 18 0) (fun I9 d1 d2 => ?_) 3 0 _ rfl (fun _ _ _ => rfl) (fun j hj => absurd hj (Nat.not_lt_zero j))
        have m9 : I9 62 14 = nI o.2.1 := by rw [d1 62 14 (by decide), zup_nj (by decide), c1 62 14 (Or.inl (by decide)) (Or.inl (by decide)), b1 62 14 (by decide), zup_eq]
        simp only [e145_171, e145_172, e145_175, zpush_some, zpush_none, true_or, or_true, true_and, and_true, ↓reduceIte, zq_ite, zq_itel, zo_62, m9]
        have hI9 : ∀ k j, k ≠ 68 → (k ≠ 62 ∨ (j ≠ 9 ∧ j ≠ 10 ∧ j ≠ 11 ∧ j ≠ 12 ∧ j ≠ 14 ∧ j ≠ 18)) → k ≠ 69 → k ≠ 70 → k ≠ 74 → I9 k j = I5 k j := fun k j e1 e2 e3 e4 e5 => by
          rw [d1 k j e5]
          have q1 : zup I8 62 18 0 k j = I8 k j := by
            by_cases w : k = 62
            · exact zup_nj (by omega)
            · exact zup_ne w
          have q2 : zup I6 62 14 (nI o.2.1) k j = I6 k j := by
            by_cases w : k = 62
            · exact zup_nj (by omega)
            · exact zup_ne w
          rw [q1, c1 k j (Or.inl e3) (Or.inl e4), b1 k j e4, q2, a1 k j e1 (by omega)]
        have h70 : ∀ j, I9 70 j = I8 70 j := fun j => by rw [d1 70 j (by decide), zup_ne (by decide)]
        have h69 : ∀ j, I9 69 j = I8 69 j := fun j => by rw [d1 69 j (by decide), zup_ne (by decide)]
        refine ⟨same_i, inv_cube h ⟨o.2.1, o.2.2.1, s0M o.2, [], fun _ => none, hm7, fun i hi => ⟨(x4.2 i hi).1, (x4.2 i hi).2.1, (x4.2 i hi).2.2, Nat.le_refl _⟩, rfl, trivial, fun c hc => absurd hc (by simp), ?_, ?_, ?_, ?_, ?_, ?_, fun j hj => absurd hj (Nat.not_lt_zero j), fun q hq => ?_⟩ (fun k j hk => ?_) (fun k j hk => ?_)⟩
        · refine XC_eq hX9 (fun k' j a b _ => ?_) (v3 9 5 (by decide))
          rw [hI9 k' j (by omega) (by omega) (by omega) (by omega) (by omega), v2 k' j (by omega)]
        · exact XC_eq v1 (fun k' j a b _ => hI9 k' j (by omega) (by omega) (by omega) (by omega) (by omega)) rfl
        · refine DS_eq hds ?_ (fun j => ?_)
          · rw [hI9 6 1 (by decide) (by decide) (by decide) (by decide) (by decide), v2 6 1 (by decide)]
          · rw [hI9 7 j (by decide) (by omega) (by decide) (by decide) (by decide), v2 7 j (by decide)]
        · obtain ⟨m', K1, s1, hm1, hok1, ht1, hX1, hM1, K2, ke, k1, k2, k3⟩ := h.view
          refine ⟨fun i => if i < o.2.1 then o.2.2.1 i else K2 i, fun i hi => if_pos hi, m9, hm7, fun i hi => ?_⟩
          show I9 69 i = nI (if i < o.2.1 then o.2.2.1 i else K2 i) ∧ (if i < o.2.1 then o.2.2.1 i else K2 i) < 6
          rw [h69]
          by_cases g : i < o.2.1
          · rw [if_pos g]; exact ⟨(c2 i g).1, (x4.2 i g).1⟩
          · rw [if_neg g, c1 69 i (Or.inr (by omega)) (Or.inl (by decide)), b1 69 i (by decide), zup_ne (by decide), a1 69 i (by decide) (by omega), hI5 69 i (by decide) (by decide) (by omega)]
            exact k3 i hi
        · have n70 : ∀ j, j < 24 → (j < 3 ∨ (3 + o.2.1 ≤ j ∧ j < 10) ∨ 10 + o.2.1 ≤ j) → I9 70 j = if j < 17 then 0 else -9 := fun j hj hw => by
            rw [h70, c1 70 j (Or.inl (by decide)) (Or.inr hw)]
            exact b2 j hj
          refine ⟨(fun i => if i < o.2.1 then o.2.2.2.1 i else 0, fun i => if i < o.2.1 then o.2.2.2.2 i else 0, fun _ => 4, 0, 0, 0), ⟨fun i hi => if_pos hi, fun i hi => if_pos hi, eqm.rf, rfl⟩, n70 0 (by decide) (by omega), n70 1 (by decide) (by omega), n70 2 (by decide) (by omega), fun i hi => ?_⟩
          show (I9 70 (3 + i) = nI (if i < o.2.1 then o.2.2.2.1 i else 0) ∧ (if i < o.2.1 then o.2.2.2.1 i else 0) < 16) ∧ (I9 70 (10 + i) = nI (if i < o.2.1 then o.2.2.2.2 i else 0) ∧ (if i < o.2.1 then o.2.2.2.2 i else 0) < 16) ∧ (I9 70 (17 + i) = wy 4 ∧ 4 ≤ 4)
          have h17 : I9 70 (17 + i) = wy 4 := by rw [n70 (17 + i) (by omega) (by omega), if_neg (by omega)]; rfl
          by_cases g : i < o.2.1
          · rw [if_pos g, if_pos g, h70 (3 + i), h70 (10 + i)]
            exact ⟨⟨(c2 i g).2.1, (x4.2 i g).2.1⟩, ⟨(c2 i g).2.2, (x4.2 i g).2.2⟩, h17, Nat.le_refl _⟩
          · rw [if_neg g, if_neg g, n70 (3 + i) (by omega) (by omega), n70 (10 + i) (by omega) (by omega), if_pos (by omega), if_pos (by omega)]
            exact ⟨⟨rfl, by decide⟩, ⟨rfl, by decide⟩, h17, Nat.le_refl _⟩
        · rw [d1 62 18 (by decide), zup_eq]; rfl
        · refine ⟨?_, d2 q hq⟩
          rw [hI9 _ 1 (by omega) (by omega) (by omega) (by omega) (by omega), v2 _ 1 (by omega)]
          exact w2 q hq
        · rw [hI9 k j (by omega) (by omega) (by omega) (by omega) (by omega)]
          exact hI5 k j (by omega) (by omega) (by omega)
        · rw [v3 k j (by omega), y3 k j (by omega), x2 k j (by omega)]
end
