/-! DIGEST -/
def dg (h : Int64) (f : Nat → Int32) : Nat → Int64
  | 0 => h
  | i + 1 => 31 * dg h f i + (f i).toInt64
theorem dg_congr {h : Int64} {f g : Nat → Int32} : ∀ {i : Nat}, (∀ j, j < i → f j = g j) → dg h f i = dg h g i
  | 0, _ => rfl
  | i + 1, e => by rw [dg, dg, dg_congr (fun j hj => e j (by omega)), e i (Nat.lt_succ_self i)]
/-- messages, then rows -/
def dgm (h : Int64) (K : Nat → Nat) (s : Cs) : Nat → Int64
  | 0 => h
  | i + 1 => dg (dgm h K s i) (fct K s i) 6
def dgr (h : Int64) (I : zi) (sz it lim : Nat) : Nat → Int64
  | 0 => h
  | i + 1 => dg (31 * dgr h I sz it lim i + (I sz i).toInt64) (fun j => I it (lim * i + j)) (I sz i).toNatClampNeg
section
variable {n d : Nat} {I I' : zi} {L L' : zl} {Q : zq} {K K' : Nat → Nat} {s s' s0 : Cs} {k m q i a b l f N lim : Nat} {D : List Nat} {c : Nat} {kp : Nat → Option (List Nat)} {h0 : Int64}
theorem l_X_dg1 (h : Inv I L) (hcs : ICs I L m K s0 D kp) (hQ : zV n (d + 4) 122 31 [.ref 3, .long (dg h0 (tal I m K (rep K m s0 D) D.length) 11), .null, .int 11, .null] [] I L Q) : ∀ r i, i + r = 11 → zV n (d + 4) 122 6 [.ref 3, .long (dg h0 (tal I m K (rep K m s0 D) D.length) i), .null, .int (nI i), .null] [] I L Q := by
  intro r
  induction r with
  | zero =>
    intro i hi
    have e : i = 11 := by omega
    subst e
    simp only [e122_6, e122_7, e122_9, zpush_some, zpush_none, true_or, or_true, true_and, and_true, ↓reduceIte, zq_ite, zq_itel, show nI 11 = (11 : Int32) from rfl, Int32.le_refl]
    exact hQ
  | succ r ih =>
    intro i hi
    have hlt : ((11 : Int32) ≤ nI i) = False := eq_false (nI_ge (b := 11) (by omega) (by omega))
    simp only [e122_6, e122_7, e122_9, e122_12, e122_15, e122_16, e122_17, e122_18, e122_19, e122_22, e122_23, e122_24, zpush_some, zpush_none, true_or, or_true, true_and, and_true, ↓reduceIte, zq_ite, zq_itel, hlt, zo_3, s_X_tally h hcs (show i < 11 by omega)]
    simp only [e122_25, e122_28, nI_1]
    exact ih (i + 1) (by omega)
theorem l_X_dg2a (hX : XC I L 14 m K s) (ht : s.2.2.2.2.1 ≤ 99) (hi : i < m) (hQ : zV n (d + 5) 122 78 [.ref 3, .long (dg h0 (fct K s i) 6), .null, .int (nI i), .int 6] [] I L Q) : ∀ r j, j + r = 6 → zV n (d + 5) 122 47 [.ref 3, .long (dg h0 (fct K s i) j), .null, .int (nI i), .int (nI j)] [] I L Q := by
  have hz := Qa_z (k := 14) (Or.inr (Or.inl rfl))
  intro r
  induction r with
  | zero =>
    intro j hj
    have e : j = 6 := by omega
    subst e
    simp only [e122_47, e122_49, e122_51, zpush_some, zpush_none, true_or, or_true, true_and, and_true, ↓reduceIte, zq_ite, zq_itel, show nI 6 = (6 : Int32) from rfl, Int32.le_refl]
    exact hQ
  | succ r ih =>
    intro j hj
    have hlt : ((6 : Int32) ≤ nI j) = False := eq_false (nI_ge (b := 6) (by omega) (by omega))
    simp only [e122_47, e122_49, e122_51, e122_54, e122_57, e122_58, e122_59, e122_60, e122_63, e122_64, e122_66, e122_69, e122_70, e122_71, zpush_some, zpush_none, true_or, or_true, true_and, and_true, ↓reduceIte, zq_ite, zq_itel, hlt, zo_3, zr_3_5, zo_14, s_Q_fact hz hX hi (show s.2.2.2.2.1 < 2 ^ 31 by omega) (show j < 6 by omega)]
    simp only [e122_72, e122_72a, e122_75, nI_1]
    exact ih (j + 1) (by omega)
theorem l_X_dg2 (hX : XC I L 14 m K s) (ht : s.2.2.2.2.1 ≤ 99) (hQ : ∀ v4, zV n (d + 5) 122 84 [.ref 3, .long (dgm h0 K s m), .null, .int (nI m), v4] [] I L Q) : ∀ r i v4, i + r = m → zV n (d + 5) 122 33 [.ref 3, .long (dgm h0 K s i), .null, .int (nI i), v4] [] I L Q := by
  have hm := XC_m7 hX
  intro r
  induction r with
  | zero =>
    intro i v4 hi
    have e : i = m := by omega
    subst e
    simp only [e122_33, e122_34, e122_35, e122_38, e122_41, zpush_some, zpush_none, true_or, or_true, true_and, and_true, ↓reduceIte, zq_ite, zq_itel, zo_3, zr_3_5, zo_14, XC_m hX, Int32.le_refl]
    exact hQ _
  | succ r ih =>
    intro i v4 hi
    have hlt : (nI m ≤ nI i) = False := eq_false (nI_ge (by omega) (by omega))
    simp only [e122_33, e122_34, e122_35, e122_38, e122_41, e122_44, e122_45, e122_45a, zpush_some, zpush_none, true_or, or_true, true_and, and_true, ↓reduceIte, zq_ite, zq_itel, hlt, zo_3, zr_3_5, zo_14, XC_m hX]
    refine l_X_dg2a hX ht (show i < m by omega) ?_ 6 0 (by omega)
    simp only [e122_78, e122_81, nI_1]
    exact ih (i + 1) _ (by omega)
theorem l_X_dg3 (hX : XC I L 14 m K s) {v4 : Value} (hQ : zV n (d + 5) 122 122 [.ref 3, .long (dg h0 (fun l => zb (bt s.2.2.2.1 l)) 32), .null, .int 32, v4] [] I L Q) : ∀ r i, i + r = 32 → zV n (d + 5) 122 86 [.ref 3, .long (dg h0 (fun l => zb (bt s.2.2.2.1 l)) i), .null, .int (nI i), v4] [] I L Q := by
  have hz := Qa_z (k := 14) (Or.inr (Or.inl rfl))
  intro r
  induction r with
  | zero =>
    intro i hi
    have e : i = 32 := by omega
    subst e
    simp only [e122_86, e122_87, e122_89, zpush_some, zpush_none, true_or, or_true, true_and, and_true, ↓reduceIte, zq_ite, zq_itel, show nI 32 = (32 : Int32) from rfl, Int32.le_refl]
    exact hQ
  | succ r ih =>
    intro i hi
    have hlt : ((32 : Int32) ≤ nI i) = False := eq_false (nI_ge (b := 32) (by omega) (by omega))
    have e := ih (i + 1) (by omega)
    rw [dg] at e
    cases hb : bt s.2.2.2.1 i
    · simp only [hb, zb_f] at e
      simp only [e122_86, e122_87, e122_89, e122_92, e122_95, e122_96, e122_97, e122_98, e122_101, e122_102, e122_105, e122_108, e122_109, e122_112, e122_113, e122_114, e122_115, zpush_some, zpush_none, true_or, or_true, true_and, and_true, ↓reduceIte, zq_ite, zq_itel, hlt, zo_3, zr_3_5, zo_14, s_Q_isBroken hz (XC_B hX) (show i < 32 by omega), hb, zb_f]
      simp only [e122_116, e122_119, nI_1]
      exact e
    · simp only [hb, zb_t] at e
      simp only [e122_86, e122_87, e122_89, e122_92, e122_95, e122_96, e122_97, e122_98, e122_101, e122_102, e122_105, e122_108, e122_109, e122_112, e122_113, e122_114, e122_115, zpush_some, zpush_none, true_or, or_true, true_and, and_true, ↓reduceIte, zq_ite, zq_itel, hlt, zo_3, zr_3_5, zo_14, s_Q_isBroken hz (XC_B hX) (show i < 32 by omega), hb, zb_t, zz_1]
      simp only [e122_116, e122_119, nI_1]
      exact e
theorem l_X_dg4 (hk : ∀ q, q < 3 → I (56 + 2 * q) 1 = I 74 q) {v4 : Value} (hQ : zV n (d + 5) 122 152 [.ref 3, .long (dg h0 (I 74) 3), .null, .int 3, v4] [] I L Q) : ∀ r i, i + r = 3 → zV n (d + 5) 122 124 [.ref 3, .long (dg h0 (I 74) i), .null, .int (nI i), v4] [] I L Q := by
  intro r
  induction r with
  | zero =>
    intro i hi
    have e : i = 3 := by omega
    subst e
    simp only [e122_124, e122_125, e122_126, zpush_some, zpush_none, true_or, or_true, true_and, and_true, ↓reduceIte, zq_ite, zq_itel, show nI 3 = (3 : Int32) from rfl, Int32.le_refl]
    exact hQ
  | succ r ih =>
    intro i hi
    have hlt : ((3 : Int32) ≤ nI i) = False := eq_false (nI_ge (b := 3) (by omega) (by omega))
    have zi7 : zin (nI i) 3 = true := zin_ok (by omega) (by omega)
    have ci : (nI i).toNatClampNeg = i := nI_clamp (by omega)
    obtain ⟨z0, hs⟩ := kept_z i (by omega)
    simp only [e122_124, e122_125, e122_126, e122_129, e122_132, e122_133, e122_134, e122_135, e122_138, e122_139, e122_140, e122_143, e122_144, e122_145, zpush_some, zpush_none, true_or, or_true, true_and, and_true, ↓reduceIte, zq_ite, zq_itel, hlt, zo_3, zr_3_3, zn_8, zl_8, zi7, ci, z0, hs.1, hk i (by omega)]
    simp only [e122_146, e122_149, nI_1]
    exact ih (i + 1) (by omega)
theorem l_S_digested (hz : Sz k lim) (hlim : lim ≤ 60) (hm : I k 1 = nI q) (hq : q ≤ lim) {u v w : Value} {h1 : Int64} : ∀ r i, i + r = q → (zV n d 123 15 [.ref k, .long h0, .null, .long (dg h1 (I (k + 1)) i), .null, .int (nI i)] [] I L Q ↔ Q (some (.long (dg h1 (I (k + 1)) q))) I L) := by
  intro r
  induction r with
  | zero =>
    intro i hi
    have e : i = q := by omega
    subst e
    simp only [e123_15, e123_17, e123_18, e123_21, e123_45, e123_46, zpush_some, zpush_none, true_or, or_true, true_and, and_true, ↓reduceIte, zq_ite, zq_itel, hz.1, hm, Int32.le_refl]
  | succ r ih =>
    intro i hi
    have hlt : (nI q ≤ nI i) = False := eq_false (nI_ge (by omega) (by omega))
    have zi7 : zin (nI i) lim = true := zin_ok (by omega) (by omega)
    have ci : (nI i).toNatClampNeg = i := nI_clamp (by omega)
    simp only [e123_15, e123_17, e123_18, e123_21, e123_24, e123_27, e123_28, e123_29, e123_30, e123_33, e123_35, e123_36, e123_37, e123_38, zpush_some, zpush_none, true_or, or_true, true_and, and_true, ↓reduceIte, zq_ite, zq_itel, hz.1, hz.2.1, hz.2.2.1, hz.2.2.2.2, hm, hlt, zi7, ci]
    simp only [e123_39, e123_42, nI_1]
    exact ih (i + 1) (by omega)
theorem s_S_digested (hz : Sz k lim) (hlim : lim ≤ 60) (hm : I k 1 = -1 ∨ ∃ q, q ≤ lim ∧ I k 1 = nI q) : zV n d 123 0 [.ref k, .long h0, .null, .null, .null, .null] [] I L Q ↔ Q (some (.long (dg (31 * h0 + (I k 1).toInt64) (I (k + 1)) (I k 1).toNatClampNeg))) I L := by
  rcases hm with hm | ⟨q, hq, hm⟩
  · have e0 : ((-1 : Int32) ≤ 0) = True := eq_true (by decide)
    have e1 : (-1 : Int32).toNatClampNeg = 0 := by decide
    simp only [e123_0, e123_3, e123_4, e123_5, e123_6, e123_9, e123_10, e123_11, e123_12, e123_13, e123_15, e123_17, e123_18, e123_21, e123_24, e123_27, e123_28, e123_29, e123_30, e123_33, e123_35, e123_36, e123_37, e123_38, e123_39, e123_42, e123_45, e123_46, zpush_some, zpush_none, true_or, or_true, true_and, and_true, ↓reduceIte, zq_ite, zq_itel, hz.1, hm, e0, e1, dg]
  · simp only [e123_0, e123_3, e123_4, e123_5, e123_6, e123_9, e123_10, e123_11, e123_12, e123_13, zpush_some, zpush_none, true_or, or_true, true_and, and_true, ↓reduceIte, zq_ite, zq_itel, hz.1, hm, nI_clamp (show q < 2 ^ 31 by omega)]
    exact l_S_digested (u := .null) (v := .null) (w := .null) hz hlim hm hq q 0 (by omega)
theorem l_X_dg5 (hR : IR I) {v4 : Value} (hQ : zV n (d + 5) 122 177 [.ref 3, .long (dgr h0 I 63 64 40 6), .null, .int 6, v4] [] I L Q) : ∀ r i, i + r = 6 → zV n (d + 5) 122 154 [.ref 3, .long (dgr h0 I 63 64 40 i), .null, .int (nI i), v4] [] I L Q := by
  intro r
  induction r with
  | zero =>
    intro i hi
    have e : i = 6 := by omega
    subst e
    simp only [e122_154, e122_155, e122_157, zpush_some, zpush_none, true_or, or_true, true_and, and_true, ↓reduceIte, zq_ite, zq_itel, show nI 6 = (6 : Int32) from rfl, Int32.le_refl]
    exact hQ
  | succ r ih =>
    intro i hi
    have hlt : ((6 : Int32) ≤ nI i) = False := eq_false (nI_ge (b := 6) (by omega) (by omega))
    have zi7 : zin (nI i) 6 = true := zin_ok (by omega) (by omega)
    have ci : (nI i).toNatClampNeg = i := nI_clamp (by omega)
    obtain ⟨z0, hs⟩ := row_z i (by omega)
    obtain ⟨b1, b2⟩ := hR i (by omega)
    have b3 : I (36 + 2 * i) 1 = -1 ∨ ∃ q, q ≤ 40 ∧ I (36 + 2 * i) 1 = nI q := by
      rw [b1]; rcases b2 with b2 | ⟨q, q1, q2, q3⟩
      · exact Or.inl b2
      · exact Or.inr ⟨q, q1, q2⟩
    have e : dg (31 * dgr h0 I 63 64 40 i + (I (36 + 2 * i) 1).toInt64) (I (36 + 2 * i + 1)) (I (36 + 2 * i) 1).toNatClampNeg = dgr h0 I 63 64 40 (i + 1) := by
      rw [dgr, b1]
      refine dg_congr (fun j hj => ?_)
      rcases b2 with b2 | ⟨q, q1, q2, q3⟩
      · rw [b2, show (-1 : Int32).toNatClampNeg = 0 by decide] at hj; exact absurd hj (Nat.not_lt_zero j)
      · rw [q2, nI_clamp (by omega)] at hj
        rw [show 36 + 2 * i + 1 = 36 + 1 + 2 * i by omega]; exact q3 j hj
    simp only [e122_154, e122_155, e122_157, e122_160, e122_161, e122_164, e122_165, e122_166, e122_167, e122_170, zpush_some, zpush_none, true_or, or_true, true_and, and_true, ↓reduceIte, zq_ite, zq_itel, hlt, zo_3, zr_3_0, zn_4, zl_4, zi7, ci, z0, hs.1, s_S_digested hs (by decide) b3, e]
    simp only [e122_171, e122_174, nI_1]
    exact ih (i + 1) (by omega)
theorem l_X_dg6 (hR : IT I) {v4 : Value} (hQ : zV n (d + 5) 122 201 [.ref 3, .long (dgr h0 I 65 66 60 4), .null, .int 4, v4] [] I L Q) : ∀ r i, i + r = 4 → zV n (d + 5) 122 179 [.ref 3, .long (dgr h0 I 65 66 60 i), .null, .int (nI i), v4] [] I L Q := by
  intro r
  induction r with
  | zero =>
    intro i hi
    have e : i = 4 := by omega
    subst e
    simp only [e122_179, e122_180, e122_181, zpush_some, zpush_none, true_or, or_true, true_and, and_true, ↓reduceIte, zq_ite, zq_itel, show nI 4 = (4 : Int32) from rfl, Int32.le_refl]
    exact hQ
  | succ r ih =>
    intro i hi
    have hlt : ((4 : Int32) ≤ nI i) = False := eq_false (nI_ge (b := 4) (by omega) (by omega))
    have zi7 : zin (nI i) 4 = true := zin_ok (by omega) (by omega)
    have ci : (nI i).toNatClampNeg = i := nI_clamp (by omega)
    obtain ⟨z0, hs⟩ := text_z i (by omega)
    obtain ⟨b1, b2⟩ := hR i (by omega)
    have b3 : I (48 + 2 * i) 1 = -1 ∨ ∃ q, q ≤ 60 ∧ I (48 + 2 * i) 1 = nI q := by
      rw [b1]; rcases b2 with b2 | ⟨q, q1, q2, q3⟩
      · exact Or.inl b2
      · exact Or.inr ⟨q, q1, q2⟩
    have e : dg (31 * dgr h0 I 65 66 60 i + (I (48 + 2 * i) 1).toInt64) (I (48 + 2 * i + 1)) (I (48 + 2 * i) 1).toNatClampNeg = dgr h0 I 65 66 60 (i + 1) := by
      rw [dgr, b1]
      refine dg_congr (fun j hj => ?_)
      rcases b2 with b2 | ⟨q, q1, q2, q3⟩
      · rw [b2, show (-1 : Int32).toNatClampNeg = 0 by decide] at hj; exact absurd hj (Nat.not_lt_zero j)
      · rw [q2, nI_clamp (by omega)] at hj
        rw [show 48 + 2 * i + 1 = 48 + 1 + 2 * i by omega]; exact q3 j hj
    simp only [e122_179, e122_180, e122_181, e122_184, e122_185, e122_188, e122_189, e122_190, e122_191, e122_194, zpush_some, zpush_none, true_or, or_true, true_and, and_true, ↓reduceIte, zq_ite, zq_itel, hlt, zo_3, zr_3_1, zn_5, zl_5, zi7, ci, z0, hs.1, s_S_digested hs (by decide) b3, e]
    simp only [e122_195, e122_198, nI_1]
    exact ih (i + 1) (by omega)
theorem l_M_dg1 (hcs : ICs I L m K s0 D kp) (hQ : zV n (d + 4) 211 31 [.ref 62, .long (dg h0 (tal I m K (rep K m s0 D) D.length) 11), .null, .int 11, .null] [] I L Q) : ∀ r i, i + r = 11 → zV n (d + 4) 211 6 [.ref 62, .long (dg h0 (tal I m K (rep K m s0 D) D.length) i), .null, .int (nI i), .null] [] I L Q := by
  intro r
  induction r with
  | zero =>
    intro i hi
    have e : i = 11 := by omega
    subst e
    simp only [e211_6, e211_7, e211_9, zpush_some, zpush_none, true_or, or_true, true_and, and_true, ↓reduceIte, zq_ite, zq_itel, show nI 11 = (11 : Int32) from rfl, Int32.le_refl]
    exact hQ
  | succ r ih =>
    intro i hi
    have hlt : ((11 : Int32) ≤ nI i) = False := eq_false (nI_ge (b := 11) (by omega) (by omega))
    simp only [e211_6, e211_7, e211_9, e211_12, e211_15, e211_16, e211_17, e211_18, e211_19, e211_22, e211_23, e211_24, zpush_some, zpush_none, true_or, or_true, true_and, and_true, ↓reduceIte, zq_ite, zq_itel, hlt, zo_62, s_M_count hcs (show i < 11 by omega)]
    simp only [e211_25, e211_28, nI_1]
    exact ih (i + 1) (by omega)
theorem l_M_dg2a (hM : MC I 70 m s) (hK : MK I m K) (ht : s.2.2.2.2.1 ≤ 99) (hi : i < m) (hQ : zV n (d + 5) 211 72 [.ref 62, .long (dg h0 (fct K s i) 6), .null, .int (nI i), .int 6] [] I L Q) : ∀ r j, j + r = 6 → zV n (d + 5) 211 44 [.ref 62, .long (dg h0 (fct K s i) j), .null, .int (nI i), .int (nI j)] [] I L Q := by
  intro r
  induction r with
  | zero =>
    intro j hj
    have e : j = 6 := by omega
    subst e
    simp only [e211_44, e211_46, e211_48, zpush_some, zpush_none, true_or, or_true, true_and, and_true, ↓reduceIte, zq_ite, zq_itel, show nI 6 = (6 : Int32) from rfl, Int32.le_refl]
    exact hQ
  | succ r ih =>
    intro j hj
    have hlt : ((6 : Int32) ≤ nI j) = False := eq_false (nI_ge (b := 6) (by omega) (by omega))
    simp only [e211_44, e211_46, e211_48, e211_51, e211_54, e211_55, e211_56, e211_57, e211_58, e211_60, e211_63, e211_64, e211_65, zpush_some, zpush_none, true_or, or_true, true_and, and_true, ↓reduceIte, zq_ite, zq_itel, hlt, zo_62, s_M_messageTells hM hK hi (show s.2.2.2.2.1 < 2 ^ 31 by omega) (show j < 6 by omega)]
    simp only [e211_66, e211_66a, e211_69, nI_1]
    exact ih (j + 1) (by omega)
theorem l_M_dg2 (hM : MC I 70 m s) (hK : MK I m K) (hm : m ≤ 7) (ht : s.2.2.2.2.1 ≤ 99) (hQ : ∀ v4, zV n (d + 5) 211 78 [.ref 62, .long (dgm h0 K s m), .null, .int (nI m), v4] [] I L Q) : ∀ r i v4, i + r = m → zV n (d + 5) 211 33 [.ref 62, .long (dgm h0 K s i), .null, .int (nI i), v4] [] I L Q := by
  intro r
  induction r with
  | zero =>
    intro i v4 hi
    have e : i = m := by omega
    subst e
    simp only [e211_33, e211_34, e211_35, e211_38, zpush_some, zpush_none, true_or, or_true, true_and, and_true, ↓reduceIte, zq_ite, zq_itel, zo_62, MK_m hK, Int32.le_refl]
    exact hQ _
  | succ r ih =>
    intro i v4 hi
    have hlt : (nI m ≤ nI i) = False := eq_false (nI_ge (by omega) (by omega))
    simp only [e211_33, e211_34, e211_35, e211_38, e211_41, e211_42, e211_42a, zpush_some, zpush_none, true_or, or_true, true_and, and_true, ↓reduceIte, zq_ite, zq_itel, hlt, zo_62, MK_m hK]
    refine l_M_dg2a hM hK ht (show i < m by omega) ?_ 6 0 (by omega)
    simp only [e211_72, e211_75, nI_1]
    exact ih (i + 1) _ (by omega)
theorem l_M_dg3 (hM : MC I 70 m s) {v4 : Value} (hQ : zV n (d + 5) 211 118 [.ref 62, .long (dg h0 (fun l => zb (bt s.2.2.2.1 l)) 32), .null, .int 32, v4] [] I L Q) : ∀ r i, i + r = 32 → zV n (d + 5) 211 80 [.ref 62, .long (dg h0 (fun l => zb (bt s.2.2.2.1 l)) i), .null, .int (nI i), v4] [] I L Q := by
  intro r
  induction r with
  | zero =>
    intro i hi
    have e : i = 32 := by omega
    subst e
    simp only [e211_80, e211_81, e211_83, zpush_some, zpush_none, true_or, or_true, true_and, and_true, ↓reduceIte, zq_ite, zq_itel, show nI 32 = (32 : Int32) from rfl, Int32.le_refl]
    exact hQ
  | succ r ih =>
    intro i hi
    have hlt : ((32 : Int32) ≤ nI i) = False := eq_false (nI_ge (b := 32) (by omega) (by omega))
    have e := ih (i + 1) (by omega)
    rw [dg] at e
    cases hb : bt s.2.2.2.1 i
    · simp only [hb, zb_f] at e
      simp only [e211_80, e211_81, e211_83, e211_86, e211_89, e211_90, e211_91, e211_92, e211_95, e211_96, e211_97, e211_98, e211_101, e211_104, e211_105, e211_108, e211_109, e211_110, e211_111, zpush_some, zpush_none, true_or, or_true, true_and, and_true, ↓reduceIte, zq_ite, zq_itel, hlt, zo_62, zr_62_16, zn_70, zl_70, zi_2, zt_2, Nat.reduceLT, decide_true, MC_x hM, s_M_hasN _ (show i < 32 by omega), hb, zb_f]
      simp only [e211_112, e211_115, nI_1]
      exact e
    · simp only [hb, zb_t] at e
      simp only [e211_80, e211_81, e211_83, e211_86, e211_89, e211_90, e211_91, e211_92, e211_95, e211_96, e211_97, e211_98, e211_101, e211_104, e211_105, e211_108, e211_109, e211_110, e211_111, zpush_some, zpush_none, true_or, or_true, true_and, and_true, ↓reduceIte, zq_ite, zq_itel, hlt, zo_62, zr_62_16, zn_70, zl_70, zi_2, zt_2, Nat.reduceLT, decide_true, MC_x hM, s_M_hasN _ (show i < 32 by omega), hb, zb_t, zz_1]
      simp only [e211_112, e211_115, nI_1]
      exact e
theorem l_M_dg4 {v4 : Value} (hQ : zV n (d + 5) 211 145 [.ref 62, .long (dg h0 (I 74) 3), .null, .int 3, v4] [] I L Q) : ∀ r i, i + r = 3 → zV n (d + 5) 211 120 [.ref 62, .long (dg h0 (I 74) i), .null, .int (nI i), v4] [] I L Q := by
  intro r
  induction r with
  | zero =>
    intro i hi
    have e : i = 3 := by omega
    subst e
    simp only [e211_120, e211_121, e211_122, zpush_some, zpush_none, true_or, or_true, true_and, and_true, ↓reduceIte, zq_ite, zq_itel, show nI 3 = (3 : Int32) from rfl, Int32.le_refl]
    exact hQ
  | succ r ih =>
    intro i hi
    have hlt : ((3 : Int32) ≤ nI i) = False := eq_false (nI_ge (b := 3) (by omega) (by omega))
    have zi7 : zin (nI i) 3 = true := zin_ok (by omega) (by omega)
    have ci : (nI i).toNatClampNeg = i := nI_clamp (by omega)
    simp only [e211_120, e211_121, e211_122, e211_125, e211_128, e211_129, e211_130, e211_131, e211_134, e211_135, e211_136, e211_137, e211_138, zpush_some, zpush_none, true_or, or_true, true_and, and_true, ↓reduceIte, zq_ite, zq_itel, hlt, zo_62, zr_62_21, zn_74, zl_74, zi7, ci]
    simp only [e211_139, e211_142, nI_1]
    exact ih (i + 1) (by omega)
theorem l_M_dg5a (hi : i < 6) (hm : I 63 i = nI q) (hq : q ≤ 40) {h1 : Int64} (hQ : zV n (d + 5) 211 207 [.ref 62, .long (dg h1 (fun j => I 64 (40 * i + j)) q), .null, .int (nI i), .int (nI q)] [] I L Q) : ∀ r j, j + r = q → zV n (d + 5) 211 170 [.ref 62, .long (dg h1 (fun j => I 64 (40 * i + j)) j), .null, .int (nI i), .int (nI j)] [] I L Q := by
  have zi7 : zin (nI i) 6 = true := zin_ok (by omega) (by omega)
  have ci : (nI i).toNatClampNeg = i := nI_clamp (by omega)
  intro r
  induction r with
  | zero =>
    intro j hj
    have e : j = q := by omega
    subst e
    simp only [e211_170, e211_172, e211_173, e211_176, e211_177, e211_178, zpush_some, zpush_none, true_or, or_true, true_and, and_true, ↓reduceIte, zq_ite, zq_itel, zo_62, zr_62_0, zn_63, zl_63, zi7, ci, hm, Int32.le_refl]
    exact hQ
  | succ r ih =>
    intro j hj
    have hlt : (nI q ≤ nI j) = False := eq_false (nI_ge (by omega) (by omega))
    have z1 : zin (nI (40 * i + j)) 240 = true := zin_ok (by omega) (by omega)
    have c1 : (nI (40 * i + j)).toNatClampNeg = 40 * i + j := nI_clamp (by omega)
    simp only [e211_170, e211_172, e211_173, e211_176, e211_177, e211_178, e211_181, e211_184, e211_185, e211_186, e211_187, e211_190, e211_192, e211_193, e211_194, e211_196, e211_197, e211_198, e211_199, e211_200, zpush_some, zpush_none, true_or, or_true, true_and, and_true, ↓reduceIte, zq_ite, zq_itel, zo_62, zr_62_0, zr_62_1, zn_63, zl_63, zn_64, zl_64, zi7, ci, hm, hlt, m40, z1, c1]
    simp only [e211_201, e211_201a, e211_204, nI_1]
    exact ih (j + 1) (by omega)
theorem l_M_dg5 (hR : IR I) (hQ : ∀ v4, zV n (d + 5) 211 213 [.ref 62, .long (dgr h0 I 63 64 40 6), .null, .int 6, v4] [] I L Q) : ∀ r i v4, i + r = 6 → zV n (d + 5) 211 147 [.ref 62, .long (dgr h0 I 63 64 40 i), .null, .int (nI i), v4] [] I L Q := by
  intro r
  induction r with
  | zero =>
    intro i v4 hi
    have e : i = 6 := by omega
    subst e
    simp only [e211_147, e211_148, e211_150, zpush_some, zpush_none, true_or, or_true, true_and, and_true, ↓reduceIte, zq_ite, zq_itel, show nI 6 = (6 : Int32) from rfl, Int32.le_refl]
    exact hQ _
  | succ r ih =>
    intro i v4 hi
    have hlt : ((6 : Int32) ≤ nI i) = False := eq_false (nI_ge (b := 6) (by omega) (by omega))
    have zi7 : zin (nI i) 6 = true := zin_ok (by omega) (by omega)
    have ci : (nI i).toNatClampNeg = i := nI_clamp (by omega)
    obtain ⟨b1, b2⟩ := hR i (by omega)
    have e := ih (i + 1)
    rw [dgr] at e
    rcases b2 with b2 | ⟨q, q1, q2, q3⟩
    · have e0 : ((-1 : Int32) ≤ 0) = True := eq_true (by decide)
      have e1 : (-1 : Int32).toNatClampNeg = 0 := by decide
      rw [b2, e1, dg] at e
      simp only [e211_147, e211_148, e211_150, e211_153, e211_156, e211_157, e211_158, e211_159, e211_162, e211_163, e211_164, e211_165, e211_166, e211_167, e211_168, e211_168a, e211_170, e211_172, e211_173, e211_176, e211_177, e211_178, e211_181, e211_184, e211_185, e211_186, e211_187, e211_190, e211_192, e211_193, e211_194, e211_196, e211_197, e211_198, e211_199, e211_200, e211_201, e211_201a, e211_204, zpush_some, zpush_none, true_or, or_true, true_and, and_true, ↓reduceIte, zq_ite, zq_itel, hlt, zo_62, zr_62_0, zn_63, zl_63, zi7, ci, b2, e0]
      simp only [e211_207, e211_210, nI_1]
      exact e _ (by omega)
    · rw [q2, nI_clamp (by omega)] at e
      simp only [e211_147, e211_148, e211_150, e211_153, e211_156, e211_157, e211_158, e211_159, e211_162, e211_163, e211_164, e211_165, e211_166, e211_167, e211_168, e211_168a, zpush_some, zpush_none, true_or, or_true, true_and, and_true, ↓reduceIte, zq_ite, zq_itel, hlt, zo_62, zr_62_0, zn_63, zl_63, zi7, ci, q2]
      refine l_M_dg5a (show i < 6 by omega) q2 q1 ?_ q 0 (by omega)
      simp only [e211_207, e211_210, nI_1]
      exact e _ (by omega)
theorem l_M_dg6a (hi : i < 4) (hm : I 65 i = nI q) (hq : q ≤ 60) {h1 : Int64} (hQ : zV n (d + 5) 211 274 [.ref 62, .long (dg h1 (fun j => I 66 (60 * i + j)) q), .null, .int (nI i), .int (nI q)] [] I L Q) : ∀ r j, j + r = q → zV n (d + 5) 211 237 [.ref 62, .long (dg h1 (fun j => I 66 (60 * i + j)) j), .null, .int (nI i), .int (nI j)] [] I L Q := by
  have zi7 : zin (nI i) 4 = true := zin_ok (by omega) (by omega)
  have ci : (nI i).toNatClampNeg = i := nI_clamp (by omega)
  intro r
  induction r with
  | zero =>
    intro j hj
    have e : j = q := by omega
    subst e
    simp only [e211_237, e211_239, e211_240, e211_243, e211_244, e211_245, zpush_some, zpush_none, true_or, or_true, true_and, and_true, ↓reduceIte, zq_ite, zq_itel, zo_62, zr_62_2, zn_65, zl_65, zi7, ci, hm, Int32.le_refl]
    exact hQ
  | succ r ih =>
    intro j hj
    have hlt : (nI q ≤ nI j) = False := eq_false (nI_ge (by omega) (by omega))
    have z1 : zin (nI (60 * i + j)) 240 = true := zin_ok (by omega) (by omega)
    have c1 : (nI (60 * i + j)).toNatClampNeg = 60 * i + j := nI_clamp (by omega)
    simp only [e211_237, e211_239, e211_240, e211_243, e211_244, e211_245, e211_248, e211_251, e211_252, e211_253, e211_254, e211_257, e211_259, e211_260, e211_261, e211_263, e211_264, e211_265, e211_266, e211_267, zpush_some, zpush_none, true_or, or_true, true_and, and_true, ↓reduceIte, zq_ite, zq_itel, zo_62, zr_62_2, zr_62_3, zn_65, zl_65, zn_66, zl_66, zi7, ci, hm, hlt, m60, z1, c1]
    simp only [e211_268, e211_268a, e211_271, nI_1]
    exact ih (j + 1) (by omega)
theorem l_M_dg6 (hR : IT I) (hQ : ∀ v4, zV n (d + 5) 211 280 [.ref 62, .long (dgr h0 I 65 66 60 4), .null, .int 4, v4] [] I L Q) : ∀ r i v4, i + r = 4 → zV n (d + 5) 211 215 [.ref 62, .long (dgr h0 I 65 66 60 i), .null, .int (nI i), v4] [] I L Q := by
  intro r
  induction r with
  | zero =>
    intro i v4 hi
    have e : i = 4 := by omega
    subst e
    simp only [e211_215, e211_216, e211_217, zpush_some, zpush_none, true_or, or_true, true_and, and_true, ↓reduceIte, zq_ite, zq_itel, show nI 4 = (4 : Int32) from rfl, Int32.le_refl]
    exact hQ _
  | succ r ih =>
    intro i v4 hi
    have hlt : ((4 : Int32) ≤ nI i) = False := eq_false (nI_ge (b := 4) (by omega) (by omega))
    have zi7 : zin (nI i) 4 = true := zin_ok (by omega) (by omega)
    have ci : (nI i).toNatClampNeg = i := nI_clamp (by omega)
    obtain ⟨b1, b2⟩ := hR i (by omega)
    have e := ih (i + 1)
    rw [dgr] at e
    rcases b2 with b2 | ⟨q, q1, q2, q3⟩
    · have e0 : ((-1 : Int32) ≤ 0) = True := eq_true (by decide)
      have e1 : (-1 : Int32).toNatClampNeg = 0 := by decide
      rw [b2, e1, dg] at e
      simp only [e211_215, e211_216, e211_217, e211_220, e211_223, e211_224, e211_225, e211_226, e211_229, e211_230, e211_231, e211_232, e211_233, e211_234, e211_235, e211_235a, e211_237, e211_239, e211_240, e211_243, e211_244, e211_245, e211_248, e211_251, e211_252, e211_253, e211_254, e211_257, e211_259, e211_260, e211_261, e211_263, e211_264, e211_265, e211_266, e211_267, e211_268, e211_268a, e211_271, zpush_some, zpush_none, true_or, or_true, true_and, and_true, ↓reduceIte, zq_ite, zq_itel, hlt, zo_62, zr_62_2, zn_65, zl_65, zi7, ci, b2, e0]
      simp only [e211_274, e211_277, nI_1]
      exact e _ (by omega)
    · rw [q2, nI_clamp (by omega)] at e
      simp only [e211_215, e211_216, e211_217, e211_220, e211_223, e211_224, e211_225, e211_226, e211_229, e211_230, e211_231, e211_232, e211_233, e211_234, e211_235, e211_235a, zpush_some, zpush_none, true_or, or_true, true_and, and_true, ↓reduceIte, zq_ite, zq_itel, hlt, zo_62, zr_62_2, zn_65, zl_65, zi7, ci, q2]
      refine l_M_dg6a (show i < 4 by omega) q2 q1 ?_ q 0 (by omega)
      simp only [e211_274, e211_277, nI_1]
      exact e _ (by omega)
theorem p_digest (h : Inv I L) : zV n (d + 5) 122 0 [.ref 3, .null, .null, .null, .null] [] I L (fun v1 I1 L1 => zV n (d + 5) 211 0 [.ref 62, .null, .null, .null, .null] [] I1 L1 (fun v2 I2 L2 => sameL v1 v2 ∧ Inv I2 L2)) := by
  obtain ⟨m, K, s0, D, kp, hcs⟩ := h.apart
  obtain ⟨hX, hM, hK, ht, hds, hn, hm, hok⟩ := hcs.now
  simp only [e122_0, e122_3, e122_4, e122_5, zpush_some, zpush_none, true_or, or_true, true_and, and_true, ↓reduceIte, zq_ite, zq_itel]
  refine l_X_dg1 h hcs ?_ 11 0 (by omega)
  simp only [e122_31, e122_32, zpush_some, zpush_none, true_or, or_true, true_and, and_true, ↓reduceIte, zq_ite, zq_itel]
  refine l_X_dg2 hX ht (fun v4 => ?_) m 0 _ (by omega)
  simp only [e122_84, e122_85, zpush_some, zpush_none, true_or, or_true, true_and, and_true, ↓reduceIte, zq_ite, zq_itel]
  refine l_X_dg3 hX ?_ 32 0 (by omega)
  simp only [e122_122, e122_123, zpush_some, zpush_none, true_or, or_true, true_and, and_true, ↓reduceIte, zq_ite, zq_itel]
  refine l_X_dg4 (fun q hq => KP_sz (hcs.kept hq)) ?_ 3 0 (by omega)
  simp only [e122_152, e122_153, zpush_some, zpush_none, true_or, or_true, true_and, and_true, ↓reduceIte, zq_ite, zq_itel]
  refine l_X_dg5 h.2.1 ?_ 6 0 (by omega)
  simp only [e122_177, e122_178, zpush_some, zpush_none, true_or, or_true, true_and, and_true, ↓reduceIte, zq_ite, zq_itel]
  refine l_X_dg6 h.2.2.1 ?_ 4 0 (by omega)
  simp only [e122_201, e122_202, e211_0, e211_3, e211_4, e211_5, zpush_some, zpush_none, true_or, or_true, true_and, and_true, ↓reduceIte, zq_ite, zq_itel]
  refine l_M_dg1 hcs ?_ 11 0 (by omega)
  simp only [e211_31, e211_32, zpush_some, zpush_none, true_or, or_true, true_and, and_true, ↓reduceIte, zq_ite, zq_itel]
  refine l_M_dg2 hM hK hm ht (fun v4 => ?_) m 0 _ (by omega)
  simp only [e211_78, e211_79, zpush_some, zpush_none, true_or, or_true, true_and, and_true, ↓reduceIte, zq_ite, zq_itel]
  refine l_M_dg3 hM ?_ 32 0 (by omega)
  simp only [e211_118, e211_119, zpush_some, zpush_none, true_or, or_true, true_and, and_true, ↓reduceIte, zq_ite, zq_itel]
  refine l_M_dg4 ?_ 3 0 (by omega)
  simp only [e211_145, e211_146, zpush_some, zpush_none, true_or, or_true, true_and, and_true, ↓reduceIte, zq_ite, zq_itel]
  refine l_M_dg5 h.2.1 (fun v4 => ?_) 6 0 _ (by omega)
  simp only [e211_213, e211_214, zpush_some, zpush_none, true_or, or_true, true_and, and_true, ↓reduceIte, zq_ite, zq_itel]
  refine l_M_dg6 h.2.2.1 (fun v4 => ?_) 4 0 _ (by omega)
  simp only [e211_280, e211_281, zpush_some, zpush_none, true_or, or_true, true_and, and_true, ↓reduceIte, zq_ite, zq_itel]
  exact ⟨same_l, h⟩
end
