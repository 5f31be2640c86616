section
variable {n d : Nat} {I : zi} {L : zl} {Q : zq} {k lim : Nat}
theorem inv_row {I' : zi} (h : Inv I L) (hR : IR I') (ha : I' 3 12 = I' 62 6) (ho : ∀ k j, ¬ (36 ≤ k ∧ k ≤ 47) → k ≠ 63 → k ≠ 64 → ¬ (k = 3 ∧ j = 12) → ¬ (k = 62 ∧ j = 6) → I' k j = I k j) : Inv I' L := by
  obtain ⟨⟨a1, a2, a3, a4, a5⟩, h2, h3, h4⟩ := h
  refine ⟨⟨by rw [ho 3 11 (by omega) (by omega) (by omega) (by omega) (by omega), ho 62 4 (by omega) (by omega) (by omega) (by omega) (by omega)]; exact a1, fun f f1 f2 => by rw [ho 35 f (by omega) (by omega) (by omega) (by omega) (by omega), ho 67 f (by omega) (by omega) (by omega) (by omega) (by omega)]; exact a2 f f1 f2, ha, a4, a5⟩, hR, IRt_eq h3 (fun k j b1 b2 => ho k j (by omega) (by omega) (by omega) (by omega) (by omega)) (fun j => ho _ j (by omega) (by omega) (by omega) (by omega) (by omega)) (fun j => ho _ j (by omega) (by omega) (by omega) (by omega) (by omega)), IC_eq h4 (fun k j hc => ?_) (fun _ _ => rfl)⟩
  unfold cubeCell at hc
  exact ho k j (by omega) (by omega) (by omega) (by omega) (by omega)
theorem inv_text {I' : zi} (h : Inv I L) (hT : IT I') (ho : ∀ k j, ¬ (48 ≤ k ∧ k ≤ 55) → k ≠ 65 → k ≠ 66 → I' k j = I k j) : Inv I' L := by
  obtain ⟨⟨a1, a2, a3, a4, a5⟩, h2, h3, h4⟩ := h
  refine ⟨⟨by rw [ho 3 11 (by omega) (by omega) (by omega), ho 62 4 (by omega) (by omega) (by omega)]; exact a1, fun f f1 f2 => by rw [ho 35 f (by omega) (by omega) (by omega), ho 67 f (by omega) (by omega) (by omega)]; exact a2 f f1 f2, by rw [ho 3 12 (by omega) (by omega) (by omega), ho 62 6 (by omega) (by omega) (by omega)]; exact a3, a4, a5⟩, IRt_eq h2 (fun k j b1 b2 => ho k j (by omega) (by omega) (by omega)) (fun j => ho _ j (by omega) (by omega) (by omega)) (fun j => ho _ j (by omega) (by omega) (by omega)), hT, IC_eq h4 (fun k j hc => ?_) (fun _ _ => rfl)⟩
  unfold cubeCell at hc
  exact ho k j (by omega) (by omega) (by omega)
theorem l_S_renew (hz : Sz k lim) (hlim : lim ≤ 60) {q : Nat} {v : Int32} (hq : q ≤ lim) (hQ : ∀ I', (∀ k' j, (k' ≠ k + 1 ∨ q ≤ j) → I' k' j = I k' j) → (∀ j, j < q → I' (k + 1) j = v) → Q none I' L) (h1 : I k 1 = nI q) :
    ∀ r i I', i + r = q → (∀ k' j, (k' ≠ k + 1 ∨ i ≤ j) → I' k' j = I k' j) → (∀ j, j < i → I' (k + 1) j = v) → ∀ a1, zV n d 4 19 [.ref k, a1, .int v, .int (nI i)] [] I' L Q := by
  intro r
  induction r with
  | zero =>
    intro i I' hi ho hv a1
    have e : i = q := by omega
    subst e
    have e1 : I' k 1 = nI i := by rw [ho k 1 (Or.inl (by omega))]; exact h1
    simp only [e4_19, e4_20, e4_21, e4_24, e4_40, zpush_some, zpush_none, true_or, or_true, true_and, and_true, ↓reduceIte, zq_ite, zq_itel, hz.1, e1, Int32.le_refl]
    exact hQ I' ho hv
  | succ r ih =>
    intro i I' hi ho hv a1
    have e1 : I' k 1 = nI q := by rw [ho k 1 (Or.inl (by omega))]; exact h1
    have hlt : (nI q ≤ nI i) = False := eq_false (nI_ge (by omega) (by omega))
    have zi7 : zin (nI i) lim = true := zin_ok (by omega) (by omega)
    have ci : (nI i).toNatClampNeg = i := nI_clamp (by omega)
    simp only [e4_19, e4_20, e4_21, e4_24, e4_27, e4_28, e4_31, e4_32, e4_33, zpush_some, zpush_none, true_or, or_true, true_and, and_true, ↓reduceIte, zq_ite, zq_itel, hz.1, hz.2.1, hz.2.2.1, hz.2.2.2.1, hz.2.2.2.2, e1, hlt, zi7, ci]
    simp only [e4_34, e4_37, nI_1]
    refine ih (i + 1) _ (by omega) (fun k' j g => ?_) (fun j hj => ?_) a1
    · have : zup I' (k + 1) i v k' j = I' k' j := by
        rcases g with g | g
        · exact zup_ne g
        · exact zup_nj (by omega)
      rw [this]
      exact ho k' j (by omega)
    · by_cases e : j = i
      · subst e; exact zup_eq
      · rw [zup_nj e]; exact hv j (by omega)
theorem s_S_renew (hz : Sz k lim) (hlim : lim ≤ 60) {q : Nat} {v : Int32} (hq : q ≤ lim) (hQ : ∀ I', (∀ k' j, (k' ≠ k + 1 ∨ q ≤ j) → (k' ≠ k ∨ j ≠ 1) → I' k' j = I k' j) → I' k 1 = nI q → (∀ j, j < q → I' (k + 1) j = v) → Q none I' L) : zV n d 4 0 [.ref k, .int (nI q), .int v, .null] [] I L Q := by
  have e1 : (if nI lim < nI q then nI lim else nI q) = nI q := if_neg (nI_nlt hq (by omega))
  have e2 : (if (0 : Int32) < nI q then nI q else 0) = nI q := by
    by_cases g : q = 0
    · subst g; rfl
    · exact if_pos (nI_lt (a := 0) (by omega) (by omega))
  simp only [e4_0, e4_1, e4_2, e4_3, e4_4, e4_7, e4_7q, e4_8, e4_11, e4_14, e4_17, e4_18, zpush_some, zpush_none, true_or, or_true, true_and, and_true, ↓reduceIte, zq_ite, zq_itel, hz.1, hz.2.1, hz.2.2.1, hz.2.2.2.2, e1, e2]
  refine l_S_renew (I := zup I k 1 (nI q)) hz hlim hq (fun I' h1 h2 => ?_) zup_eq q 0 _ (by omega) (fun _ _ _ => rfl) (fun j hj => absurd hj (Nat.not_lt_zero j)) _
  refine hQ I' (fun k' j g1 g2 => ?_) (by rw [h1 k 1 (Or.inl (by omega)), zup_eq]) h2
  rw [h1 k' j g1]
  rcases g2 with g | g
  · exact zup_ne g
  · exact zup_nj g
theorem m40 (j i : Nat) : (40 : Int32) * nI j + nI i = nI (40 * j + i) := by
  rw [show (40 : Int32) = nI 40 from rfl, pk_mul, nI_add]
theorem m60 (j i : Nat) : (60 : Int32) * nI j + nI i = nI (60 * j + i) := by
  rw [show (60 : Int32) = nI 60 from rfl, pk_mul, nI_add]
theorem l_M_row {r0 : Nat} (hr : r0 < 6) {v : Int32} (hQ : ∀ I', (∀ k j, (k ≠ 64 ∨ j < 40 * r0 ∨ 40 * r0 + 40 ≤ j) → I' k j = I k j) → (∀ j, j < 40 → I' 64 (40 * r0 + j) = 0) → Q (some (.int v)) I' L) :
    ∀ r i I', i + r = 40 → (∀ k j, (k ≠ 64 ∨ j < 40 * r0 ∨ 40 * r0 + i ≤ j) → I' k j = I k j) → (∀ j, j < i → I' 64 (40 * r0 + j) = 0) → zV n d 125 36 [.ref 62, .int (nI r0), .int v, .int (nI i)] [] I' L Q := by
  intro r
  induction r with
  | zero =>
    intro i I' hi ho hv
    have e : i = 40 := by omega
    subst e
    simp only [e125_36, e125_37, e125_39, e125_60, e125_61, zpush_some, zpush_none, true_or, or_true, true_and, and_true, ↓reduceIte, zq_ite, zq_itel, show nI 40 = (40 : Int32) from rfl, Int32.le_refl]
    exact hQ I' ho hv
  | succ r ih =>
    intro i I' hi ho hv
    have hlt : ((40 : Int32) ≤ nI i) = False := eq_false (nI_ge (b := 40) (by omega) (by omega))
    have z1 : zin (nI (40 * r0 + i)) 240 = true := zin_ok (by omega) (by omega)
    have c1 : (nI (40 * r0 + i)).toNatClampNeg = 40 * r0 + i := nI_clamp (by omega)
    simp only [e125_36, e125_37, e125_39, e125_42, e125_43, e125_46, e125_48, e125_49, e125_50, e125_51, e125_52, e125_53, zpush_some, zpush_none, true_or, or_true, true_and, and_true, ↓reduceIte, zq_ite, zq_itel, zo_62, zr_62_1, zw_64, zl_64, hlt, m40, z1, c1]
    simp only [e125_54, e125_57, nI_1]
    refine ih (i + 1) _ (by omega) (fun k' j g => ?_) (fun j hj => ?_)
    · have : zup I' 64 (40 * r0 + i) 0 k' j = I' k' j := by
        rcases g with g | g
        · exact zup_ne g
        · exact zup_nj (by omega)
      rw [this]
      exact ho k' j (by omega)
    · by_cases e : j = i
      · subst e; exact zup_eq
      · rw [zup_nj (by omega)]; exact hv j (by omega)
theorem p_row (h : Inv I L) (r v : Int32) : zV n (d + 2) 5 0 [.ref 3, .int r, .int v] [] I L (fun v1 I1 L1 => zV n (d + 2) 125 0 [.ref 62, .int r, .int v, .null] [] I1 L1 (fun v2 I2 L2 => same v1 v2 ∧ Inv I2 L2)) := by
  rcases rng r 5 (by decide) (a := 6) (b := 5) rfl rfl with h1 | ⟨h1, h2, h3⟩ | ⟨j, hj, rfl, h1, h2, h3⟩
  · simp only [e5_0, e5_1, e5_4, e5_7, e5_8, e5_10, e5_13, e5_14, e5_15, e5_16, e5_19, e5_20, e5_21, e5_24, e5_25, e5_26, e5_29, e5_30, e5_31, e5_32, e5_33, e5_36, e5_37, e125_0, e125_1, e125_2, e125_3, e125_6, e125_9, e125_10, e125_12, e125_15, e125_16, e125_17, e125_18, e125_21, e125_22, e125_23, e125_26, e125_27, e125_28, e125_31, e125_32, e125_33, e125_34, e125_35, zpush_some, zpush_none, true_or, or_true, true_and, and_true, ↓reduceIte, zq_ite, zq_itel, s_X_isRow, s_M_in, h1]
    exact ⟨same_i, h⟩
  · simp only [e5_0, e5_1, e5_4, e5_7, e5_8, e5_10, e5_13, e5_14, e5_15, e5_16, e5_19, e5_20, e5_21, e5_24, e5_25, e5_26, e5_29, e5_30, e5_31, e5_32, e5_33, e5_36, e5_37, e125_0, e125_1, e125_2, e125_3, e125_6, e125_9, e125_10, e125_12, e125_15, e125_16, e125_17, e125_18, e125_21, e125_22, e125_23, e125_26, e125_27, e125_28, e125_31, e125_32, e125_33, e125_34, e125_35, zpush_some, zpush_none, true_or, or_true, true_and, and_true, ↓reduceIte, zq_ite, zq_itel, s_X_isRow, s_M_in, h1, h2, h3]
    exact ⟨same_i, h⟩
  · by_cases hv : v ≤ 40
    · by_cases hv0 : 0 ≤ v
      · obtain ⟨q, hq, rfl⟩ := nI_of2 (M := 40) (n := 40) (by decide) (Int32.not_lt.mpr hv0) hv
        obtain ⟨z0, hz⟩ := row_z j hj
        have zj : zin (nI j) 6 = true := zin_ok hj (by decide)
        have cj : (nI j).toNatClampNeg = j := nI_clamp (by omega)
        simp only [e5_0, e5_1, e5_4, e5_7, e5_8, e5_10, e5_13, e5_14, e5_15, e5_16, e5_19, e5_20, e5_21, e5_24, e5_25, e5_26, e5_29, e5_30, e5_31, e5_32, e5_33, e5_36, e5_37, zpush_some, zpush_none, true_or, or_true, true_and, and_true, ↓reduceIte, zq_ite, zq_itel, s_X_isRow, h1, h2, zz_1, hv, hv0, zo_3, zr_3_0, zn_4, zl_4, zj, cj, z0, hz.1]
        refine s_S_renew hz (by decide) hq (fun I1 o1 s1 f1 => ?_)
        simp only [e5_0, e5_1, e5_4, e5_7, e5_8, e5_10, e5_13, e5_14, e5_15, e5_16, e5_19, e5_20, e5_21, e5_24, e5_25, e5_26, e5_29, e5_30, e5_31, e5_32, e5_33, e5_36, e5_37, e125_0, e125_1, e125_2, e125_3, e125_6, e125_9, e125_10, e125_12, e125_15, e125_16, e125_17, e125_18, e125_21, e125_22, e125_23, e125_26, e125_27, e125_28, e125_31, e125_32, e125_33, e125_34, e125_35, zpush_some, zpush_none, true_or, or_true, true_and, and_true, ↓reduceIte, zq_ite, zq_itel, s_M_in, h1, h3, zz_1, hv, hv0, zo_62, zr_62_0, zw_63, zl_63, zj, cj]
        refine l_M_row hj (fun I2 o2 f2 => ⟨same_i, inv_row h (fun r hr => ?_) ?_ (fun k i b1 b2 b3 b4 b5 => ?_)⟩) 40 0 _ (by omega) (fun _ _ _ => rfl) (fun j hj => absurd hj (Nat.not_lt_zero j))
        · obtain ⟨-, hR, -, -⟩ := h
          by_cases e : r = j
          · subst e
            rw [o2 _ 1 (by omega), zup_ne (by omega), s1, o2 63 _ (by omega), zup_eq]
            refine ⟨rfl, Or.inr ⟨q, hq, rfl, fun i hi => ?_⟩⟩
            rw [f2 i (by omega), o2 _ i (by omega), zup_ne (by omega), show 36 + 1 + 2 * r = 36 + 2 * r + 1 by omega, f1 i hi]
          · obtain ⟨b1, b2⟩ := hR r hr
            have ho : ∀ k i, k ≠ 36 + 2 * j → k ≠ 36 + 2 * j + 1 → (k ≠ 63 ∨ i ≠ j) → (k ≠ 64 ∨ i < 40 * j ∨ 40 * j + 40 ≤ i) → I2 k i = I k i := fun k i c1 c2 c3 c4 => by
              rw [o2 k i c4]
              have : zup I1 63 j (nI q) k i = I1 k i := by
                rcases c3 with g | g
                · exact zup_ne g
                · exact zup_nj g
              rw [this]
              exact o1 k i (Or.inl c2) (Or.inl c1)
            rw [ho _ _ (by omega) (by omega) (by omega) (by omega), ho 63 _ (by omega) (by omega) (by omega) (by omega)]
            refine ⟨b1, ?_⟩
            rcases b2 with b2 | ⟨q', c1, c2, c3⟩
            · exact Or.inl b2
            · exact Or.inr ⟨q', c1, c2, fun i hi => by rw [ho _ _ (by omega) (by omega) (by omega) (by omega), ho 64 _ (by omega) (by omega) (by omega) (by omega)]; exact c3 i hi⟩
        · rw [o2 _ _ (by omega), o2 _ _ (by omega), zup_ne (by omega), zup_ne (by omega), o1 _ _ (by omega) (by omega), o1 _ _ (by omega) (by omega)]
          exact h.1.2.2.1
        · rw [o2 _ _ (by omega), zup_ne (by omega), o1 _ _ (by omega) (by omega)]
      · simp only [e5_0, e5_1, e5_4, e5_7, e5_8, e5_10, e5_13, e5_14, e5_15, e5_16, e5_19, e5_20, e5_21, e5_24, e5_25, e5_26, e5_29, e5_30, e5_31, e5_32, e5_33, e5_36, e5_37, e125_0, e125_1, e125_2, e125_3, e125_6, e125_9, e125_10, e125_12, e125_15, e125_16, e125_17, e125_18, e125_21, e125_22, e125_23, e125_26, e125_27, e125_28, e125_31, e125_32, e125_33, e125_34, e125_35, zpush_some, zpush_none, true_or, or_true, true_and, and_true, ↓reduceIte, zq_ite, zq_itel, s_X_isRow, s_M_in, h1, h2, h3, zz_1, hv, hv0, s_X_found5, s_M_finds5, zo_3, zo_62]
        exact ⟨same_i, inv_find (by decide) (by decide) h⟩
    · simp only [e5_0, e5_1, e5_4, e5_7, e5_8, e5_10, e5_13, e5_14, e5_15, e5_16, e5_19, e5_20, e5_21, e5_24, e5_25, e5_26, e5_29, e5_30, e5_31, e5_32, e5_33, e5_36, e5_37, e125_0, e125_1, e125_2, e125_3, e125_6, e125_9, e125_10, e125_12, e125_15, e125_16, e125_17, e125_18, e125_21, e125_22, e125_23, e125_26, e125_27, e125_28, e125_31, e125_32, e125_33, e125_34, e125_35, zpush_some, zpush_none, true_or, or_true, true_and, and_true, ↓reduceIte, zq_ite, zq_itel, s_X_isRow, s_M_in, h1, h2, h3, zz_1, hv]
      exact ⟨same_i, h⟩
end
