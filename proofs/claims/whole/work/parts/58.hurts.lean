/-! WHICH HURTS -/
def tl (K : Nat → Nat) (m : Nat) (s : Cs) : Nat := match alr K m 61 s 0 0 with
  | none => 61
  | some (t, _) => t
def tgs (s : Cs) (l : Nat) : Cs := (s.1, s.2.1, s.2.2.1, tog s.2.2.2.1 l, s.2.2.2.2)
def hrt (K : Nat → Nat) (m : Nat) (s : Cs) : Nat → Nat × Nat
  | 0 => (32, tl K m s)
  | l + 1 => if bt s.2.2.2.1 l then hrt K m s l else if (hrt K m s l).2 < tl K m (tgs s l) then (l, tl K m (tgs s l)) else hrt K m s l
def hv (w : Nat) : Int32 := if w < 32 then nI w else -9
section
variable {n d : Nat} {I I' : zi} {L L' : zl} {Q : zq} {K K' : Nat → Nat} {s s' s0 : Cs} {k m q i a b l : Nat}
theorem tl_le : tl K m s ≤ 61 := by
  unfold tl
  cases ho : alr K m 61 s 0 0 with
  | none => exact Nat.le_refl _
  | some o =>
    have := alr_t (t' := o.1) (o' := o.2) ho
    show o.1 ≤ 61
    omega
theorem alV_x : alV 61 (alr K m 61 s 0 0) = nI (tl K m s) := by
  unfold tl
  cases ho : alr K m 61 s 0 0 <;> rfl
theorem alV_m : (if alV (-9) (alr K m 61 s 0 0) = -9 then 61 else alV (-9) (alr K m 61 s 0 0)) = nI (tl K m s) := by
  unfold tl
  cases ho : alr K m 61 s 0 0 with
  | none => rfl
  | some o =>
    have := alr_t (t' := o.1) (o' := o.2) ho
    exact if_neg ((by decide +kernel : ∀ w, w < 61 → ¬ nI w = -9) o.1 (by omega))
theorem hrt_le : ∀ l, (hrt K m s l).2 ≤ 61
  | 0 => tl_le
  | l + 1 => by
    rw [hrt]
    split
    · exact hrt_le l
    · split
      · exact tl_le
      · exact hrt_le l
theorem hrt_w : ∀ l, l ≤ 32 → (hrt K m s l).1 ≤ 32
  | 0, _ => Nat.le_refl _
  | l + 1, h => by
    rw [hrt]
    split
    · exact hrt_w l (by omega)
    · split
      · show l ≤ 32
        omega
      · exact hrt_w l (by omega)
theorem hrt_stop (h : (hrt K m s l).2 = 61) : ∀ r, hrt K m s (l + r) = hrt K m s l
  | 0 => rfl
  | r + 1 => by
    show hrt K m s (l + r + 1) = _
    rw [hrt, hrt_stop h r, h]
    split
    · rfl
    · rw [if_neg (by have := tl_le (K := K) (m := m) (s := tgs s (l + r)); omega)]
theorem h_max {a b : Nat} (ha : a ≤ 61) (hb : b ≤ 61) : (if nI a < nI b then nI b else nI a) = nI (if a < b then b else a) := by
  rw [ite_congr (nI_ltN (by omega) (by omega)) (fun _ => rfl) (fun _ => rfl)]
  split <;> rfl
theorem l_X_hurts (hX : XC I L 14 m K s) (hs : s.2.2.2.2.1 ≤ 99) (hQ : ∀ I' L' v3 v4, (∀ k j, (k < 19 ∨ 23 < k) → I' k j = I k j) → (∀ k j, k ≠ 19 → L' k j = L k j) → zV n (d + 5) 94 113 [.ref 3, .int (nI (hrt K m s 32).2), .int (hv (hrt K m s 32).1), v3, v4] [] I' L' Q) :
    ∀ r l I' L' v4, l + r = 32 → (∀ k j, (k < 19 ∨ 23 < k) → I' k j = I k j) → (∀ k j, k ≠ 19 → L' k j = L k j) → zV n (d + 5) 94 37 [.ref 3, .int (nI (hrt K m s l).2), .int (hv (hrt K m s l).1), .int (nI l), v4] [] I' L' Q := by
  have hz := Qa_z (k := 14) (Or.inr (Or.inl rfl))
  have hz2 := Qa_z (k := 19) (Or.inr (Or.inr rfl))
  intro r
  induction r with
  | zero =>
    intro l I' L' v4 hl h1 h2
    have e : l = 32 := by omega
    subst e
    simp only [e94_37, e94_38, e94_40, zpush_some, zpush_none, true_or, or_true, true_and, and_true, ↓reduceIte, zq_ite, zq_itel, show nI 32 = (32 : Int32) from rfl, Int32.le_refl]
    exact hQ I' L' _ _ h1 h2
  | succ r ih =>
    intro l I' L' v4 hl h1 h2
    have hlt : ((32 : Int32) ≤ nI l) = False := eq_false (nI_ge (b := 32) (by omega) (by omega))
    have hle := hrt_le (K := K) (m := m) (s := s) l
    by_cases h61 : (hrt K m s l).2 = 61
    · have g : ((61 : Int32) ≤ nI (hrt K m s l).2) = True := (nI_leN (a := 61) (by decide) (by omega)).trans (eq_true (by omega))
      have e := hrt_stop h61 (r + 1)
      rw [hl] at e
      simp only [e94_37, e94_38, e94_40, e94_43, e94_44, e94_46, zpush_some, zpush_none, true_or, or_true, true_and, and_true, ↓reduceIte, zq_ite, zq_itel, hlt, g]
      rw [← e]
      exact hQ I' L' _ _ h1 h2
    · have g : ((61 : Int32) ≤ nI (hrt K m s l).2) = False := (nI_leN (a := 61) (by decide) (by omega)).trans (eq_false (by omega))
      have hX' : XC I' L' 14 m K s := XC_eq hX (fun k' j a b _ => h1 k' j (by omega)) (h2 14 5 (by decide))
      have hl32 : l < 32 := by omega
      have ih' := ih (l + 1)
      rw [hrt] at ih'
      cases hb : bt s.2.2.2.1 l
      · rw [hb] at ih'
        simp only [e94_37, e94_38, e94_40, e94_43, e94_44, e94_46, e94_49, e94_50, e94_53, e94_54, e94_57, e94_60, e94_61, e94_64, e94_65, e94_68, zpush_some, zpush_none, true_or, or_true, true_and, and_true, ↓reduceIte, zq_ite, zq_itel, hlt, g, zo_3, zr_3_5, zr_3_6, zo_14, zo_19, s_Q_isBroken hz (XC_B hX') hl32, hb, zb_f, not_true_eq_false]
        refine t_Q_take hz2 hz (by decide) hX' (fun I1 L1 x1 x2 x3 => ?_)
        simp only [e94_68, e94_71, e94_72, e94_75, e94_76, e94_79, e94_80, e94_83, zpush_some, zpush_none, true_or, or_true, true_and, and_true, ↓reduceIte, zq_ite, zq_itel, zo_3, zr_3_6, zo_19, s_Q_turnOverLink hz2 hl32]
        refine t_Q_till (s := tgs s l) (XC_tog x1 hl32) hs (fun I2 y1 y2 => ?_)
        have tle := tl_le (K := K) (m := m) (s := tgs s l)
        have hI2 : ∀ k j, (k < 19 ∨ 23 < k) → I2 k j = I k j := fun k j hk => by rw [y1 k j hk, x2 k j (by omega), h1 k j hk]
        have hL2 : ∀ {v : Int64} k j, k ≠ 19 → zup L1 19 5 v k j = L k j := fun {v} k j hk => by rw [zup_ne hk, x3 k j hk, h2 k j hk]
        by_cases hc : (hrt K m s l).2 < tl K m (tgs s l)
        · have g1 : (nI (tl K m (tgs s l)) ≤ nI (hrt K m s l).2) = False := (nI_leN (by omega) (by omega)).trans (eq_false (by omega))
          have g2 : (nI (hrt K m s l).2 < nI (tl K m (tgs s l))) = True := (nI_ltN (by omega) (by omega)).trans (eq_true hc)
          rw [if_neg Bool.false_ne_true, if_pos hc] at ih'
          simp only [e94_83, e94_86, e94_86a, e94_88, e94_90, e94_91, e94_94, e94_95, e94_98, e94_99, e94_99a, e94_100, e94_101, e94_103, e94_106, zpush_some, zpush_none, true_or, or_true, true_and, and_true, ↓reduceIte, zq_ite, zq_itel, alV_x, g1, g2]
          simp only [e94_107, e94_107a, e94_110, nI_1]
          have hvl : hv l = nI l := if_pos hl32
          have := ih' I2 (zup L1 19 5 (L1 19 5 ^^^ arcsL l)) (.int (nI (tl K m (tgs s l)))) (by omega) hI2 (fun k j hk => hL2 k j hk)
          rw [hvl] at this
          exact this
        · have g1 : (nI (tl K m (tgs s l)) ≤ nI (hrt K m s l).2) = True := (nI_leN (by omega) (by omega)).trans (eq_true (by omega))
          have g2 : (nI (hrt K m s l).2 < nI (tl K m (tgs s l))) = False := (nI_ltN (by omega) (by omega)).trans (eq_false hc)
          rw [if_neg Bool.false_ne_true, if_neg hc] at ih'
          simp only [e94_83, e94_86, e94_86a, e94_88, e94_90, e94_91, e94_94, e94_95, e94_98, e94_99, e94_99a, e94_100, e94_101, e94_103, e94_106, zpush_some, zpush_none, true_or, or_true, true_and, and_true, ↓reduceIte, zq_ite, zq_itel, alV_x, g1, g2]
          simp only [e94_107, e94_107a, e94_110, nI_1]
          exact ih' I2 _ _ (by omega) hI2 (fun k j hk => hL2 k j hk)
      · rw [hb] at ih'
        simp only [e94_37, e94_38, e94_40, e94_43, e94_44, e94_46, e94_49, e94_50, e94_53, e94_54, e94_57, zpush_some, zpush_none, true_or, or_true, true_and, and_true, ↓reduceIte, zq_ite, zq_itel, hlt, g, zo_3, zr_3_5, zo_14, s_Q_isBroken hz (XC_B hX') hl32, hb, zb_t, zz_1, not_false_eq_true]
        simp only [e94_107, e94_107a, e94_110, nI_1]
        exact ih' I' L' v4 (by omega) h1 h2
theorem l_M_hurts (hM : MC I 70 m s) (hK : MK I m K) (hm : m ≤ 7) (hs : s.2.2.2.2.1 ≤ 99) {v1 : Int32} (hQ : ∀ I' v4 v5 v6, (∀ k j, k ≠ 75 → k ≠ 76 → k ≠ 77 → (k ≠ 62 ∨ j ≠ 30) → I' k j = I k j) → zV n (d + 6) 185 134 [.ref 62, .int v1, .int (nI (hrt K m s 32).2), .int (hv (hrt K m s 32).1), v4, v5, v6] [] I' L Q) :
    ∀ r l I' v5 v6, l + r = 32 → (∀ k j, k ≠ 75 → k ≠ 76 → k ≠ 77 → (k ≠ 62 ∨ j ≠ 30) → I' k j = I k j) → zV n (d + 6) 185 38 [.ref 62, .int v1, .int (nI (hrt K m s l).2), .int (hv (hrt K m s l).1), .int (nI l), v5, v6] [] I' L Q := by
  intro r
  induction r with
  | zero =>
    intro l I' v5 v6 hl h1
    have e : l = 32 := by omega
    subst e
    simp only [e185_38, e185_40, e185_42, zpush_some, zpush_none, true_or, or_true, true_and, and_true, ↓reduceIte, zq_ite, zq_itel, show nI 32 = (32 : Int32) from rfl, Int32.le_refl]
    exact hQ I' _ _ _ h1
  | succ r ih =>
    intro l I' v5 v6 hl h1
    have hlt : ((32 : Int32) ≤ nI l) = False := eq_false (nI_ge (b := 32) (by omega) (by omega))
    have hle := hrt_le (K := K) (m := m) (s := s) l
    have hM' : MC I' 70 m s := MC_eq hM (fun j => h1 70 j (by decide) (by decide) (by decide) (by omega))
    have hl32 : l < 32 := by omega
    have ih' := ih (l + 1)
    rw [hrt] at ih'
    simp only [e185_38, e185_40, e185_42, e185_45, e185_46, zpush_some, zpush_none, true_or, or_true, true_and, and_true, ↓reduceIte, zq_ite, zq_itel, hlt, zo_62]
    refine s_M_begin hM' (fun I1 w1 w2 w3 => ?_)
    have hM1 : MC I1 70 m s := MC_eq hM' (fun j => w2 70 j (by decide) (by decide))
    have hI1 : ∀ k j, k ≠ 75 → k ≠ 76 → k ≠ 77 → (k ≠ 62 ∨ j ≠ 30) → I1 k j = I k j := fun k j a b c e => by rw [w2 k j a c, h1 k j a b c e]
    cases hb : bt s.2.2.2.1 l
    · rw [hb] at ih'
      simp only [e185_46, e185_49, e185_50, e185_53, e185_54, e185_55, e185_57, e185_60, e185_63, e185_64, e185_67, e185_68, e185_69, e185_72, e185_73, e185_74, e185_75, e185_77, e185_78, e185_79, e185_80, e185_81, zpush_some, zpush_none, true_or, or_true, true_and, and_true, ↓reduceIte, zq_ite, zq_itel, zo_62, zr_62_16, zr_62_22, zn_70, zl_70, zn_75, zw_75, zl_75, zi_2, zt_2, Nat.reduceLT, decide_true, MC_x hM1, MC_x w1, s_M_hasN _ hl32, hb, zb_f, not_true_eq_false, tog_or hl32 hb]
      have hK1 : ∀ {v : Int32}, MK (zup I1 75 2 v) m K := fun {v} => by
        obtain ⟨K', e, k1, k2, k3⟩ := hK
        exact ⟨K', e, by rw [zup_ne (by decide), hI1 62 14 (by decide) (by decide) (by decide) (by decide)]; exact k1, k2, fun i hi => by rw [zup_ne (by decide), hI1 69 i (by decide) (by decide) (by decide) (by omega)]; exact k3 i hi⟩
      refine t_M_allOf (s := tgs s l) hm hK1 (MC_brk w1 _) hs (fun I2 y1 y2 => ?_)
      have hI2 : ∀ k j, k ≠ 75 → k ≠ 76 → k ≠ 77 → (k ≠ 62 ∨ j ≠ 30) → I2 k j = I k j := fun k j a b c e => by rw [y1 k j a b c e, zup_ne a, hI1 k j a b c e]
      have tle := tl_le (K := K) (m := m) (s := tgs s l)
      have em := alV_m (K := K) (m := m) (s := tgs s l)
      by_cases hc : (hrt K m s l).2 < tl K m (tgs s l)
      · have g1 : (nI (tl K m (tgs s l)) ≤ nI (hrt K m s l).2) = False := (nI_leN (by omega) (by omega)).trans (eq_false (by omega))
        rw [if_neg Bool.false_ne_true, if_pos hc] at ih'
        have hvl : hv l = nI l := if_pos hl32
        have nx := ih' I2 (.int (alV (-9) (alr K m 61 (tgs s l) 0 0))) (.int (nI (tl K m (tgs s l)))) (by omega) hI2
        rw [hvl] at nx
        by_cases h9 : alV (-9) (alr K m 61 (tgs s l) 0 0) = -9
        · rw [if_pos h9] at em
          rw [← em] at g1
          rw [← em, h9] at nx
          simp only [e185_81, e185_84, e185_84a, e185_86, e185_88, e185_90, e185_93, e185_95, e185_98, e185_100, e185_100a, e185_102, e185_104, e185_105, e185_108, e185_110, e185_113, e185_114, e185_114a, e185_115, e185_117, e185_118, e185_121, e185_123, e185_126, e185_127, e185_127a, zpush_some, zpush_none, true_or, or_true, true_and, and_true, ↓reduceIte, zq_ite, zq_itel, h9, not_true_eq_false, g1]
          simp only [e185_128, e185_128a, e185_131, nI_1]
          exact nx
        · rw [if_neg h9] at em
          have h9' := eq_false h9
          rw [← em] at g1
          rw [← em] at nx
          simp only [e185_81, e185_84, e185_84a, e185_86, e185_88, e185_90, e185_93, e185_95, e185_98, e185_100, e185_100a, e185_102, e185_104, e185_105, e185_108, e185_110, e185_113, e185_114, e185_114a, e185_115, e185_117, e185_118, e185_121, e185_123, e185_126, e185_127, e185_127a, zpush_some, zpush_none, true_or, or_true, true_and, and_true, ↓reduceIte, zq_ite, zq_itel, h9', not_false_eq_true, g1]
          simp only [e185_128, e185_128a, e185_131, nI_1]
          exact nx
      · have g1 : (nI (tl K m (tgs s l)) ≤ nI (hrt K m s l).2) = True := (nI_leN (by omega) (by omega)).trans (eq_true (by omega))
        rw [if_neg Bool.false_ne_true, if_neg hc] at ih'
        have nx := ih' I2 (.int (alV (-9) (alr K m 61 (tgs s l) 0 0))) (.int (nI (tl K m (tgs s l)))) (by omega) hI2
        by_cases h9 : alV (-9) (alr K m 61 (tgs s l) 0 0) = -9
        · rw [if_pos h9] at em
          rw [← em] at g1
          rw [← em, h9] at nx
          simp only [e185_81, e185_84, e185_84a, e185_86, e185_88, e185_90, e185_93, e185_95, e185_98, e185_100, e185_100a, e185_102, e185_104, e185_105, e185_108, e185_110, e185_113, e185_114, e185_114a, e185_115, e185_117, e185_118, e185_121, e185_123, e185_126, e185_127, e185_127a, zpush_some, zpush_none, true_or, or_true, true_and, and_true, ↓reduceIte, zq_ite, zq_itel, h9, not_true_eq_false, g1]
          simp only [e185_128, e185_128a, e185_131, nI_1]
          exact nx
        · rw [if_neg h9] at em
          have h9' := eq_false h9
          rw [← em] at g1
          rw [← em] at nx
          simp only [e185_81, e185_84, e185_84a, e185_86, e185_88, e185_90, e185_93, e185_95, e185_98, e185_100, e185_100a, e185_102, e185_104, e185_105, e185_108, e185_110, e185_113, e185_114, e185_114a, e185_115, e185_117, e185_118, e185_121, e185_123, e185_126, e185_127, e185_127a, zpush_some, zpush_none, true_or, or_true, true_and, and_true, ↓reduceIte, zq_ite, zq_itel, h9', not_false_eq_true, g1]
          simp only [e185_128, e185_128a, e185_131, nI_1]
          exact nx
    · rw [hb] at ih'
      simp only [e185_46, e185_49, e185_50, e185_53, e185_54, e185_55, e185_57, e185_60, zpush_some, zpush_none, true_or, or_true, true_and, and_true, ↓reduceIte, zq_ite, zq_itel, zo_62, zr_62_16, zn_70, zl_70, zi_2, zt_2, Nat.reduceLT, decide_true, MC_x hM1, s_M_hasN _ hl32, hb, zb_t, zz_1, not_false_eq_true]
      simp only [e185_128, e185_128a, e185_131, nI_1]
      exact ih' I1 v5 v6 (by omega) hI1
theorem p_hurts (h : Inv I L) : zV n (d + 6) 94 0 [.ref 3, .null, .null, .null, .null] [] I L (fun v1 I1 L1 => zV n (d + 6) 185 0 [.ref 62, .null, .null, .null, .null, .null, .null] [] I1 L1 (fun v2 I2 L2 => same v1 v2 ∧ Inv I2 L2)) := by
  obtain ⟨m, K, s, hm, hok, ht, hX, hM, hK⟩ := h.view
  have hz := Qa_z (k := 14) (Or.inr (Or.inl rfl))
  have hz2 := Qa_z (k := 19) (Or.inr (Or.inr rfl))
  by_cases hm0 : m = 0
  · have e0 : (nI m = 0) = True := by rw [nI_z (by omega)]; exact eq_true hm0
    simp only [e94_0, e94_1, e94_4, e94_7, e94_10, e94_12, e185_0, e185_1, e185_4, e185_7, e185_9, zpush_some, zpush_none, true_or, or_true, true_and, and_true, ↓reduceIte, zq_ite, zq_itel, zo_3, zr_3_5, zo_14, zo_62, XC_m hX, MK_m hK, e0, not_true_eq_false]
    exact ⟨same_i, h⟩
  · have e0 : (nI m = 0) = False := by rw [nI_z (by omega)]; exact eq_false hm0
    simp only [e94_0, e94_1, e94_4, e94_7, e94_10, e94_12, e94_13, e94_14, e94_17, e94_18, e94_21, zpush_some, zpush_none, true_or, or_true, true_and, and_true, ↓reduceIte, zq_ite, zq_itel, zo_3, zr_3_5, zr_3_6, zo_14, zo_19, XC_m hX, e0, not_false_eq_true]
    refine t_Q_take hz2 hz (by decide) hX (fun I1 L1 x1 x2 x3 => ?_)
    simp only [e94_21, e94_24, e94_25, e94_28, zpush_some, zpush_none, true_or, or_true, true_and, and_true, ↓reduceIte, zq_ite, zq_itel, zo_3, zr_3_6, zo_19]
    refine t_Q_till x1 ht (fun I2 y1 y2 => ?_)
    have hI2 : ∀ k j, (k < 19 ∨ 23 < k) → I2 k j = I k j := fun k j hk => by rw [y1 k j hk, x2 k j (by omega)]
    simp only [e94_28, e94_31, e94_32, e94_34, e94_34a, e94_35, e94_36, e94_36a, zpush_some, zpush_none, true_or, or_true, true_and, and_true, ↓reduceIte, zq_ite, zq_itel, alV_x]
    refine l_X_hurts (d := d + 1) (I := I) (L := L) (K := K) (m := m) (s := s) hX ht (fun I3 L3 v3 v4 f1 f2 => ?_) 32 0 I2 L1 _ rfl hI2 x3
    have hw := hrt_w (K := K) (m := m) (s := s) 32 (by decide)
    have em := alV_m (K := K) (m := m) (s := s)
    generalize hH : hrt K m s 32 = o at hw ⊢
    by_cases ho : o.1 = 32
    · have hv9 : hv o.1 = -9 := by rw [ho]; rfl
      have hm1 : I3 62 14 = nI m := by rw [f1 62 14 (by decide)]; exact MK_m hK
      have hK3 : MK I3 m K := MK_eq hK (fun j => f1 _ _ (by decide)) (fun j => f1 _ _ (by decide))
      simp only [e94_113, e94_114, e94_116, e94_119, e94_121, e94_124, e94_125, e94_126, e94_127, e94_130, e185_0, e185_1, e185_4, e185_7, e185_9, e185_10, e185_11, zpush_some, zpush_none, true_or, or_true, true_and, and_true, ↓reduceIte, zq_ite, zq_itel, hv9, not_true_eq_false, zo_62, hm1, e0, not_false_eq_true]
      refine s_M_begin (MC_eq hM (fun j => f1 _ _ (by decide))) (fun I4 w1 w2 w3 => ?_)
      simp only [e185_11, e185_14, e185_15, zpush_some, zpush_none, true_or, or_true, true_and, and_true, ↓reduceIte, zq_ite, zq_itel, zo_62]
      have hK4 : MK I4 m K := MK_eq hK3 (fun j => w2 _ _ (by decide) (by decide)) (fun j => w2 _ _ (by decide) (by decide))
      refine t_M_allOf hm hK4 w1 ht (fun I5 u1 u2 => ?_)
      have hI5 : ∀ k j, k ≠ 75 → k ≠ 76 → k ≠ 77 → (k ≠ 62 ∨ j ≠ 30) → I5 k j = I4 k j := u1
      have fin : ∀ w : Int32, zV n (d + 6) 185 38 [.ref 62, .int w, .int (nI (hrt K m s 0).2), .int (hv (hrt K m s 0).1), .int (nI 0), .null, .null] [] I5 L3 (fun v2 I2 L2 => same (some (.int (-9))) v2 ∧ Inv I2 L2) := fun w => by
        refine l_M_hurts (I := I4) (MC_eq hM (fun j => by rw [w2 70 j (by decide) (by decide), f1 70 j (by decide)])) hK4 hm ht (fun I6 q4 q5 q6 z1 => ?_) 32 0 I5 _ _ rfl hI5
        rw [hH]
        simp only [e185_134, e185_135, e185_137, e185_140, e185_141, e185_142, e185_145, e185_146, e185_147, zpush_some, zpush_none, true_or, or_true, true_and, and_true, ↓reduceIte, zq_ite, zq_itel, hv9]
        refine ⟨same_i, inv_told h ?_ (fun k j hk => ?_) (fun k j hk => f2 k j (by omega))⟩
        · rw [z1 3 12 (by decide) (by decide) (by decide) (by decide), z1 62 6 (by decide) (by decide) (by decide) (by decide), w2 _ _ (by decide) (by decide), w2 _ _ (by decide) (by decide), f1 _ _ (by decide), f1 _ _ (by decide)]
          exact h.1.2.2.1
        · unfold cubeCell at hk
          rw [z1 k j (by omega) (by omega) (by omega) (by omega), w2 k j (by omega) (by omega), f1 k j (by omega)]
      by_cases h9 : alV (-9) (alr K m 61 s 0 0) = -9
      · rw [if_pos h9] at em
        simp only [e185_15, e185_18, e185_19, e185_20, e185_22, e185_25, e185_27, e185_30, e185_31, e185_31a, e185_32, e185_34, e185_34a, e185_35, e185_36, e185_36a, zpush_some, zpush_none, true_or, or_true, true_and, and_true, ↓reduceIte, zq_ite, zq_itel, h9, not_true_eq_false]
        have := fin (-9)
        rw [show nI (hrt K m s 0).2 = 61 from em.symm] at this
        exact this
      · rw [if_neg h9] at em
        have h9' := eq_false h9
        simp only [e185_15, e185_18, e185_19, e185_20, e185_22, e185_25, e185_27, e185_30, e185_31, e185_31a, e185_32, e185_34, e185_34a, e185_35, e185_36, e185_36a, zpush_some, zpush_none, true_or, or_true, true_and, and_true, ↓reduceIte, zq_ite, zq_itel, h9', not_false_eq_true]
        have := fin (alV (-9) (alr K m 61 s 0 0))
        rw [show nI (hrt K m s 0).2 = alV (-9) (alr K m 61 s 0 0) from em.symm] at this
        exact this
    · have ho32 : o.1 < 32 := by omega
      have hvn : hv o.1 = nI o.1 := if_pos ho32
      have ne9 : (nI o.1 = -9) = False := eq_false ((by decide +kernel : ∀ w, w < 32 → ¬ nI w = -9) _ ho32)
      have g3 : ∀ {v : Int32} k j, (k < 19 ∨ 23 < k) → k ≠ 3 → zup I3 3 12 v k j = I k j := fun {v} k j a b => by rw [zup_ne b, f1 k j a]
      have hm1 : ∀ {v : Int32}, zup I3 3 12 v 62 14 = nI m := fun {v} => by rw [g3 62 14 (by decide) (by decide)]; exact MK_m hK
      have hK3 : ∀ {v : Int32}, MK (zup I3 3 12 v) m K := fun {v} => MK_eq hK (fun j => g3 _ _ (by decide) (by decide)) (fun j => g3 _ _ (by decide) (by decide))
      simp only [e94_113, e94_114, e94_116, e94_119, e94_121, e94_124, e94_125, e94_126, e94_127, e94_130, e185_0, e185_1, e185_4, e185_7, e185_9, e185_10, e185_11, zpush_some, zpush_none, true_or, or_true, true_and, and_true, ↓reduceIte, zq_ite, zq_itel, hvn, ne9, zo_3, s_X_tell, zo_62, hm1, e0, not_false_eq_true]
      refine s_M_begin (MC_eq hM (fun j => g3 _ _ (by decide) (by decide))) (fun I4 w1 w2 w3 => ?_)
      simp only [e185_11, e185_14, e185_15, zpush_some, zpush_none, true_or, or_true, true_and, and_true, ↓reduceIte, zq_ite, zq_itel, zo_62]
      have hK4 : MK I4 m K := MK_eq hK3 (fun j => w2 _ _ (by decide) (by decide)) (fun j => w2 _ _ (by decide) (by decide))
      refine t_M_allOf hm hK4 w1 ht (fun I5 u1 u2 => ?_)
      have hI5 : ∀ k j, k ≠ 75 → k ≠ 76 → k ≠ 77 → (k ≠ 62 ∨ j ≠ 30) → I5 k j = I4 k j := u1
      have fin : ∀ w : Int32, zV n (d + 6) 185 38 [.ref 62, .int w, .int (nI (hrt K m s 0).2), .int (hv (hrt K m s 0).1), .int (nI 0), .null, .null] [] I5 L3 (fun v2 I2 L2 => same (some (.int (nI o.1))) v2 ∧ Inv I2 L2) := fun w => by
        refine l_M_hurts (I := I4) (MC_eq hM (fun j => by rw [w2 70 j (by decide) (by decide), g3 70 j (by decide) (by decide)])) hK4 hm ht (fun I6 q4 q5 q6 z1 => ?_) 32 0 I5 _ _ rfl hI5
        rw [hH]
        simp only [e185_134, e185_135, e185_137, e185_140, e185_141, e185_142, e185_145, e185_146, e185_147, zpush_some, zpush_none, true_or, or_true, true_and, and_true, ↓reduceIte, zq_ite, zq_itel, hvn, ne9, zo_62, s_M_tells]
        refine ⟨same_i, inv_told h ?_ (fun k j hk => ?_) (fun k j hk => f2 k j (by omega))⟩
        · rw [zup_ne (by decide), zup_eq, z1 3 12 (by decide) (by decide) (by decide) (by decide), w2 _ _ (by decide) (by decide), zup_eq]
        · unfold cubeCell at hk
          have e6 : zup I6 62 6 (nI o.2) k j = I6 k j := by
            by_cases g : k = 62
            · exact zup_nj (by omega)
            · exact zup_ne g
          rw [e6, z1 k j (by omega) (by omega) (by omega) (by omega), w2 k j (by omega) (by omega)]
          by_cases g : k = 3
          · subst g
            rw [zup_nj (by omega), f1 3 j (by decide)]
          · exact g3 k j (by omega) g
      by_cases h9 : alV (-9) (alr K m 61 s 0 0) = -9
      · rw [if_pos h9] at em
        simp only [e185_15, e185_18, e185_19, e185_20, e185_22, e185_25, e185_27, e185_30, e185_31, e185_31a, e185_32, e185_34, e185_34a, e185_35, e185_36, e185_36a, zpush_some, zpush_none, true_or, or_true, true_and, and_true, ↓reduceIte, zq_ite, zq_itel, h9, not_true_eq_false]
        have := fin (-9)
        rw [show nI (hrt K m s 0).2 = 61 from em.symm] at this
        exact this
      · rw [if_neg h9] at em
        have h9' := eq_false h9
        simp only [e185_15, e185_18, e185_19, e185_20, e185_22, e185_25, e185_27, e185_30, e185_31, e185_31a, e185_32, e185_34, e185_34a, e185_35, e185_36, e185_36a, zpush_some, zpush_none, true_or, or_true, true_and, and_true, ↓reduceIte, zq_ite, zq_itel, h9', not_false_eq_true]
        have := fin (alV (-9) (alr K m 61 s 0 0))
        rw [show nI (hrt K m s 0).2 = alV (-9) (alr K m 61 s 0 0) from em.symm] at this
        exact this
end
