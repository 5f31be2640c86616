/-! GOALS, KINDS -/
def gset (b : Nat → Bool) : Nat → Int32
  | 0 => 0
  | c + 1 => gset b c ||| (if b c then (1 : Int32) <<< (nI c &&& 31) else 0)
def gls (s : Cs) (p c : Nat) : Cs := (s.1, fun q => if q = p then c else s.2.1 q, s.2.2)
def Kk (K : Nat → Nat) (p c : Nat) : Nat → Nat := fun q => if q = p then c else K q
section
variable {n d : Nat} {I I' : zi} {L L' : zl} {Q : zq} {K K' : Nat → Nat} {s s' s0 : Cs} {k m q i a b l N p j c : Nat} {f : Nat → Int32}
theorem XC_kind (hx : XC I L k m K s) (hp : p < m) (hc : c < 6) : XC (zup I (k + 1) p (nI c)) L k m (Kk K p c) s := by
  obtain ⟨K', s', e1, e2, ⟨m1, m2⟩, hB, h6, h7, hcs⟩ := hx
  refine ⟨Kk K' p c, s', fun q hq => ?_, e2, ⟨by rw [zup_ne (by omega)]; exact m1, m2⟩, hB, by rw [zup_ne (by omega)]; exact h6, by rw [zup_ne (by omega)]; exact h7, fun q hq => ?_⟩
  · unfold Kk
    rw [e1 q hq]
  · obtain ⟨a1, a2⟩ := hcs q hq
    rw [zup_ne (show k + 2 ≠ k + 1 by omega), zup_ne (show k + 3 ≠ k + 1 by omega), zup_ne (show k + 4 ≠ k + 1 by omega)]
    refine ⟨?_, a2⟩
    unfold Kk
    by_cases e : q = p
    · subst e; rw [zup_eq, if_pos rfl]; exact ⟨rfl, hc⟩
    · rw [zup_nj e, if_neg e]; exact a1
theorem MK_kind (hK : MK I m K) (hp : p < m) (hc : c < 6) : MK (zup I 69 p (nI c)) m (Kk K p c) := by
  obtain ⟨K', e1, k1, k2, k3⟩ := hK
  refine ⟨Kk K' p c, fun q hq => ?_, by rw [zup_ne (by decide)]; exact k1, k2, fun q hq => ?_⟩
  · unfold Kk
    rw [e1 q hq]
  · unfold Kk
    by_cases e : q = p
    · subst e; rw [zup_eq, if_pos rfl]; exact ⟨rfl, hc⟩
    · rw [zup_nj e, if_neg e]; exact k3 q hq
theorem l_X_goals (hX : XC I L 14 m K s) (hs : s.2.2.2.2.1 ≤ 99) (hp : p < m) (hj : j < 6) (hm1 : I (36 + 2 * j) 1 = nI q) (hq : q ≤ 20) (hf : ∀ i, i < q → I (36 + 2 * j + 1) i = f i) (hQ : ∀ I' L', (∀ k j, (k < 19 ∨ 23 < k) → I' k j = I k j) → (∀ k j, k ≠ 19 → L' k j = L k j) → Q (some (.int (gset (fun c => fit K m p f q (gls s p c) 0) 16))) I' L') :
    ∀ r c I' L', c + r = 16 → (∀ k j, (k < 19 ∨ 23 < k) → I' k j = I k j) → (∀ k j, k ≠ 19 → L' k j = L k j) → zV n (d + 5) 95 19 [.ref 3, .int (nI p), .int (nI j), .int 0, .int (gset (fun c => fit K m p f q (gls s p c) 0) c), .int (nI c)] [] I' L' Q := by
  have hz := Qa_z (k := 14) (Or.inr (Or.inl rfl))
  have hz2 := Qa_z (k := 19) (Or.inr (Or.inr rfl))
  obtain ⟨z0, hsz⟩ := row_z j hj
  have zj : zin (nI j) 6 = true := zin_ok hj (by decide)
  have cj : (nI j).toNatClampNeg = j := nI_clamp (by omega)
  intro r
  induction r with
  | zero =>
    intro c I' L' hc h1 h2
    have e : c = 16 := by omega
    subst e
    simp only [e95_19, e95_21, e95_23, e95_80, e95_82, zpush_some, zpush_none, true_or, or_true, true_and, and_true, ↓reduceIte, zq_ite, zq_itel, show nI 16 = (16 : Int32) from rfl, Int32.le_refl]
    exact hQ I' L' h1 h2
  | succ r ih =>
    intro c I' L' hc h1 h2
    have hlt : ((16 : Int32) ≤ nI c) = False := eq_false (nI_ge (b := 16) (by omega) (by omega))
    have hX' : XC I' L' 14 m K s := XC_eq hX (fun k' j a b _ => h1 k' j (by omega)) (h2 14 5 (by decide))
    have e := ih (c + 1)
    rw [gset] at e
    simp only [e95_19, e95_21, e95_23, e95_26, e95_27, e95_30, e95_31, e95_34, zpush_some, zpush_none, true_or, or_true, true_and, and_true, ↓reduceIte, zq_ite, zq_itel, hlt, zo_3, zr_3_5, zr_3_6, zo_14, zo_19]
    refine t_Q_take hz2 hz (by decide) hX' (fun I1 L1 x1 x2 x3 => ?_)
    simp only [e95_34, e95_37, e95_38, e95_41, e95_42, e95_44, e95_47, e95_49, e95_50, e95_51, e95_52, e95_55, e95_56, e95_57, zpush_some, zpush_none, true_or, or_true, true_and, and_true, ↓reduceIte, zq_ite, zq_itel, zo_3, zr_3_6, zr_3_0, zo_19, s_Q_setGoal hz2 x1 hp, zn_4, zl_4, zj, cj, z0, hsz.1]
    have hI1 : ∀ {v : Int32} k j, (k < 19 ∨ 23 < k) → zup I1 22 p v k j = I k j := fun {v} k j hk => by rw [zup_ne (by omega), x2 k j (by omega), h1 k j hk]
    refine t_X_fits (s := gls s p c) (f := f) (XC_goal x1 hp (show c < 16 by omega)) hs hp hsz (by omega) (by omega) (by rw [hI1 _ _ (by omega)]; exact hm1) hq (fun i hi => by rw [hI1 _ _ (by omega)]; exact hf i hi) (fun I2 y1 => ?_)
    have hI2 : ∀ k j, (k < 19 ∨ 23 < k) → I2 k j = I k j := fun k j hk => by rw [y1 k j hk, hI1 k j hk]
    have hL2 : ∀ k j, k ≠ 19 → L1 k j = L k j := fun k j hk => by rw [x3 k j hk, h2 k j hk]
    cases hb : fit K m p f q (gls s p c) 0
    · rw [hb] at e
      simp only [e95_57, e95_60, e95_63, e95_64, e95_66, e95_67, e95_70, e95_71, e95_72, e95_72a, zpush_some, zpush_none, true_or, or_true, true_and, and_true, ↓reduceIte, zq_ite, zq_itel, zb_f]
      simp only [e95_74, e95_74a, e95_77, nI_1]
      exact e I2 L1 (by omega) hI2 hL2
    · rw [hb] at e
      simp only [e95_57, e95_60, e95_63, e95_64, e95_66, e95_67, e95_70, e95_71, e95_72, e95_72a, zpush_some, zpush_none, true_or, or_true, true_and, and_true, ↓reduceIte, zq_ite, zq_itel, zb_t, zz_1]
      simp only [e95_74, e95_74a, e95_77, nI_1]
      exact e I2 L1 (by omega) hI2 hL2
theorem l_M_goals (hM : MC I 70 m s) (hK : MK I m K) (hm : m ≤ 7) (hs : s.2.2.2.2.1 ≤ 99) (hp : p < m) (hj : j < 6) (hm1 : I 63 j = nI q) (hq : q ≤ 20) (hf : ∀ i, i < q → I 64 (40 * j + i) = f i) (hQ : ∀ I', (∀ k j, k ≠ 75 → k ≠ 76 → k ≠ 77 → I' k j = I k j) → Q (some (.int (gset (fun c => fit K m p f q (gls s p c) 0) 16))) I' L) :
    ∀ r c I', c + r = 16 → (∀ k j, k ≠ 75 → k ≠ 76 → k ≠ 77 → I' k j = I k j) → zV n (d + 6) 186 19 [.ref 62, .int (nI p), .int (nI j), .int 0, .int (gset (fun c => fit K m p f q (gls s p c) 0) c), .int (nI c)] [] I' L Q := by
  have z10 : zin (nI (10 + p)) 24 = true := zin_ok (by omega) (by decide)
  have y10 : (nI (10 + p)).toNatClampNeg = 10 + p := nI_clamp (by omega)
  intro r
  induction r with
  | zero =>
    intro c I' hc h1
    have e : c = 16 := by omega
    subst e
    simp only [e186_19, e186_21, e186_23, e186_69, e186_71, zpush_some, zpush_none, true_or, or_true, true_and, and_true, ↓reduceIte, zq_ite, zq_itel, show nI 16 = (16 : Int32) from rfl, Int32.le_refl]
    exact hQ I' h1
  | succ r ih =>
    intro c I' hc h1
    have hlt : ((16 : Int32) ≤ nI c) = False := eq_false (nI_ge (b := 16) (by omega) (by omega))
    have e := ih (c + 1)
    rw [gset] at e
    simp only [e186_19, e186_21, e186_23, e186_26, e186_27, zpush_some, zpush_none, true_or, or_true, true_and, and_true, ↓reduceIte, zq_ite, zq_itel, hlt, zo_62]
    refine s_M_begin (MC_eq hM (fun j => h1 _ _ (by decide) (by decide) (by decide))) (fun I1 w1 w2 w3 => ?_)
    simp only [e186_27, e186_30, e186_31, e186_34, e186_36, e186_37, e186_38, e186_40, e186_41, e186_43, e186_44, e186_45, e186_46, zpush_some, zpush_none, true_or, or_true, true_and, and_true, ↓reduceIte, zq_ite, zq_itel, zo_62, zr_62_22, zn_75, zw_75, zl_75, i_10, z10, y10]
    have hI1 : ∀ {v : Int32} k j, k ≠ 75 → k ≠ 76 → k ≠ 77 → zup I1 75 (10 + p) v k j = I k j := fun {v} k j a b c => by rw [zup_ne a, w2 k j a c, h1 k j a b c]
    refine t_M_seen (s := gls s p c) (f := f) (MC_goal w1 hm hp (show c < 16 by omega)) hs hp hm hj (by rw [hI1 _ _ (by decide) (by decide) (by decide)]; exact hm1) hq (fun i hi => by rw [hI1 _ _ (by decide) (by decide) (by decide)]; exact hf i hi) (MK_eq hK (fun j => hI1 _ _ (by decide) (by decide) (by decide)) (fun j => hI1 _ _ (by decide) (by decide) (by decide))) (fun I2 y1 => ?_)
    have hI2 : ∀ k j, k ≠ 75 → k ≠ 76 → k ≠ 77 → I2 k j = I k j := fun k j a b c => by rw [y1 k j a b c, hI1 k j a b c]
    cases hb : fit K m p f q (gls s p c) 0
    · rw [hb] at e
      simp only [e186_46, e186_49, e186_52, e186_53, e186_55, e186_56, e186_59, e186_60, e186_61, e186_61a, zpush_some, zpush_none, true_or, or_true, true_and, and_true, ↓reduceIte, zq_ite, zq_itel, zb_f]
      simp only [e186_63, e186_63a, e186_66, nI_1]
      exact e I2 (by omega) hI2
    · rw [hb] at e
      simp only [e186_46, e186_49, e186_52, e186_53, e186_55, e186_56, e186_59, e186_60, e186_61, e186_61a, zpush_some, zpush_none, true_or, or_true, true_and, and_true, ↓reduceIte, zq_ite, zq_itel, zb_t, zz_1]
      simp only [e186_63, e186_63a, e186_66, nI_1]
      exact e I2 (by omega) hI2
theorem inv_other (h : Inv I L) (hI : ∀ k j, ((k = 3 ∧ (j = 11 ∨ j = 12)) ∨ k = 35 ∨ k = 67 ∨ (36 ≤ k ∧ k < 56) ∨ (63 ≤ k ∧ k ≤ 66) ∨ (k = 62 ∧ (j = 4 ∨ j = 6)) ∨ cubeCell k j) → I' k j = I k j) (hL : ∀ k j, (k = 3 ∨ k = 62 ∨ k = 9 ∨ k = 14) → L' k j = L k j) : Inv I' L' := by
  refine inv_told h ?_ (fun k j hk => hI k j ?_) hL
  · rw [hI 3 12 (Or.inl ⟨rfl, Or.inr rfl⟩), hI 62 6 (Or.inr (Or.inr (Or.inr (Or.inr (Or.inr (Or.inl ⟨rfl, Or.inr rfl⟩))))))]
    exact h.1.2.2.1
  · rcases hk with g | g | g | g | g | g | g
    · exact Or.inl ⟨g.1, Or.inl g.2⟩
    · exact Or.inr (Or.inl g)
    · exact Or.inr (Or.inr (Or.inl g))
    · exact Or.inr (Or.inr (Or.inr (Or.inl g)))
    · exact Or.inr (Or.inr (Or.inr (Or.inr (Or.inl g))))
    · exact Or.inr (Or.inr (Or.inr (Or.inr (Or.inr (Or.inl ⟨g.1, Or.inl g.2⟩)))))
    · exact Or.inr (Or.inr (Or.inr (Or.inr (Or.inr (Or.inr g)))))
theorem p_goals (h : Inv I L) (i r : Int32) : zV n (d + 6) 95 0 [.ref 3, .int i, .int r, .null, .null, .null] [] I L (fun v1 I1 L1 => zV n (d + 6) 186 0 [.ref 62, .int i, .int r, .null, .null, .null] [] I1 L1 (fun v2 I2 L2 => same v1 v2 ∧ Inv I2 L2)) := by
  obtain ⟨m, K, s, hm, hok, ht, hX, hM, hK⟩ := h.view
  rcases sights h hX hK hm i r with ⟨v, I1, I2, hv, hi2, e1, e2⟩ | ⟨p, j, q, hp, rfl, hj, rfl, q1, q2, q3, q4, q5, e1, e2⟩
  · have hv' := eq_false hv
    simp only [e95_0, e95_1, e95_2, e95_3, e95_6, e95_7, e95_8, e95_11, e95_12, e95_13, e95_14, e95_14a, e95_16, e95_17, e95_17a, e186_0, e186_1, e186_2, e186_3, e186_6, e186_7, e186_8, e186_11, e186_12, e186_13, e186_14, e186_14a, e186_16, e186_17, e186_17a, zpush_some, zpush_none, true_or, or_true, true_and, and_true, ↓reduceIte, zq_ite, zq_itel, zo_3, zo_62, e1, e2, hv']
    exact ⟨same_i, hi2⟩
  · simp only [e95_0, e95_1, e95_2, e95_3, e95_6, e95_7, e95_8, e95_11, e95_12, e95_13, e95_14, e95_14a, e95_16, e95_17, e95_17a, zpush_some, zpush_none, true_or, or_true, true_and, and_true, ↓reduceIte, zq_ite, zq_itel, zo_3, e1]
    refine l_X_goals (d := d + 1) (f := fun k => I 64 (40 * j + k)) (s := s) hX ht hp hj q4 q3 q5 (fun I3 L3 x1 x2 => ?_) 16 0 I L rfl (fun _ _ _ => rfl) (fun _ _ _ => rfl)
    have e3 := fun n d Q => e2 n d Q I3 L3 (by rw [x1 62 14 (by decide)]; exact MK_m hK) (fun a => x1 _ _ (by decide)) (fun a => x1 _ _ (by decide))
    simp only [e186_0, e186_1, e186_2, e186_3, e186_6, e186_7, e186_8, e186_11, e186_12, e186_13, e186_14, e186_14a, e186_16, e186_17, e186_17a, zpush_some, zpush_none, true_or, or_true, true_and, and_true, ↓reduceIte, zq_ite, zq_itel, zo_62, e3]
    refine l_M_goals (I := I3) (f := fun k => I 64 (40 * j + k)) (s := s) (MC_eq hM (fun j => x1 _ _ (by decide))) (MK_eq hK (fun j => x1 _ _ (by decide)) (fun j => x1 _ _ (by decide))) hm ht hp hj (by rw [x1 _ _ (by decide)]; exact q1) q3 (fun i hi => x1 _ _ (by decide)) (fun I4 y1 => ?_) 16 0 I3 rfl (fun _ _ _ _ _ => rfl)
    refine ⟨same_i, inv_other h (fun k j hk => ?_) (fun k j hk => x2 k j (by omega))⟩
    unfold cubeCell at hk
    rw [y1 k j (by omega) (by omega) (by omega), x1 k j (by omega)]
theorem l_X_kinds (hX : XC I L 14 m K s) (hs : s.2.2.2.2.1 ≤ 99) (hp : p < m) (hj : j < 6) (hm1 : I (36 + 2 * j) 1 = nI q) (hq : q ≤ 20) (hf : ∀ i, i < q → I (36 + 2 * j + 1) i = f i) (hQ : ∀ I' L', (∀ k j, (k < 19 ∨ 23 < k) → I' k j = I k j) → (∀ k j, k ≠ 19 → L' k j = L k j) → Q (some (.int (gset (fun c => fit (Kk K p c) m p f q s 0) 6))) I' L') :
    ∀ r c I' L', c + r = 6 → (∀ k j, (k < 19 ∨ 23 < k) → I' k j = I k j) → (∀ k j, k ≠ 19 → L' k j = L k j) → zV n (d + 5) 99 5 [.ref 3, .int (nI p), .ref (36 + 2 * j), .int (gset (fun c => fit (Kk K p c) m p f q s 0) c), .int (nI c)] [] I' L' Q := by
  have hz := Qa_z (k := 14) (Or.inr (Or.inl rfl))
  have hz2 := Qa_z (k := 19) (Or.inr (Or.inr rfl))
  have m7 := XC_m7 hX
  obtain ⟨z0, hsz⟩ := row_z j hj
  have zp : zin (nI p) 7 = true := zin_ok (by omega) (by decide)
  have cp : (nI p).toNatClampNeg = p := nI_clamp (by omega)
  intro r
  induction r with
  | zero =>
    intro c I' L' hc h1 h2
    have e : c = 6 := by omega
    subst e
    simp only [e99_5, e99_7, e99_9, e99_60, e99_61, zpush_some, zpush_none, true_or, or_true, true_and, and_true, ↓reduceIte, zq_ite, zq_itel, show nI 6 = (6 : Int32) from rfl, Int32.le_refl]
    exact hQ I' L' h1 h2
  | succ r ih =>
    intro c I' L' hc h1 h2
    have hlt : ((6 : Int32) ≤ nI c) = False := eq_false (nI_ge (b := 6) (by omega) (by omega))
    have hX' : XC I' L' 14 m K s := XC_eq hX (fun k' j a b _ => h1 k' j (by omega)) (h2 14 5 (by decide))
    have e := ih (c + 1)
    rw [gset] at e
    simp only [e99_5, e99_7, e99_9, e99_12, e99_13, e99_16, e99_17, e99_20, zpush_some, zpush_none, true_or, or_true, true_and, and_true, ↓reduceIte, zq_ite, zq_itel, hlt, zo_3, zr_3_5, zr_3_6, zo_14, zo_19]
    refine t_Q_take hz2 hz (by decide) hX' (fun I1 L1 x1 x2 x3 => ?_)
    simp only [e99_20, e99_23, e99_24, e99_27, e99_30, e99_31, e99_33, e99_34, e99_35, e99_36, e99_37, e99_38, zpush_some, zpush_none, true_or, or_true, true_and, and_true, ↓reduceIte, zq_ite, zq_itel, zo_3, zr_3_6, zo_19, zr_19_0, zn_20, zw_20, zl_20, zp, cp]
    have hI1 : ∀ {v : Int32} k j, (k < 19 ∨ 23 < k) → zup I1 20 p v k j = I k j := fun {v} k j hk => by rw [zup_ne (by omega), x2 k j (by omega), h1 k j hk]
    refine t_X_fits (s := s) (K := Kk K p c) (f := f) (XC_kind x1 hp (show c < 6 by omega)) hs hp hsz (by omega) (by omega) (by rw [hI1 _ _ (by omega)]; exact hm1) hq (fun i hi => by rw [hI1 _ _ (by omega)]; exact hf i hi) (fun I2 y1 => ?_)
    have hI2 : ∀ k j, (k < 19 ∨ 23 < k) → I2 k j = I k j := fun k j hk => by rw [y1 k j hk, hI1 k j hk]
    have hL2 : ∀ k j, k ≠ 19 → L1 k j = L k j := fun k j hk => by rw [x3 k j hk, h2 k j hk]
    cases hb : fit (Kk K p c) m p f q s 0
    · rw [hb] at e
      simp only [e99_38, e99_41, e99_44, e99_45, e99_47, e99_48, e99_51, e99_52, e99_53, zpush_some, zpush_none, true_or, or_true, true_and, and_true, ↓reduceIte, zq_ite, zq_itel, zb_f]
      simp only [e99_54, e99_54a, e99_57, nI_1]
      exact e I2 L1 (by omega) hI2 hL2
    · rw [hb] at e
      simp only [e99_38, e99_41, e99_44, e99_45, e99_47, e99_48, e99_51, e99_52, e99_53, zpush_some, zpush_none, true_or, or_true, true_and, and_true, ↓reduceIte, zq_ite, zq_itel, zb_t, zz_1]
      simp only [e99_54, e99_54a, e99_57, nI_1]
      exact e I2 L1 (by omega) hI2 hL2
theorem t_X_kinds (hX : XC I L 14 m K s) (hs : s.2.2.2.2.1 ≤ 99) (hp : p < m) (hj : j < 6) (hm1 : I (36 + 2 * j) 1 = nI q) (hq : q ≤ 20) (hf : ∀ i, i < q → I (36 + 2 * j + 1) i = f i) (hQ : ∀ I' L', (∀ k j, (k < 19 ∨ 23 < k) → I' k j = I k j) → (∀ k j, k ≠ 19 → L' k j = L k j) → Q (some (.int (gset (fun c => fit (Kk K p c) m p f q s 0) 6))) I' L') : zV n (d + 5) 99 0 [.ref 3, .int (nI p), .ref (36 + 2 * j), .null, .null] [] I L Q := by
  simp only [e99_0, e99_1, e99_2, e99_3, e99_3a, zpush_some, zpush_none, true_or, or_true, true_and, and_true, ↓reduceIte, zq_ite, zq_itel]
  exact l_X_kinds hX hs hp hj hm1 hq hf hQ 6 0 I L rfl (fun _ _ _ => rfl) (fun _ _ _ => rfl)
theorem l_M_kinds (hM : MC I 70 m s) (hK : MK I m K) (hm : m ≤ 7) (hs : s.2.2.2.2.1 ≤ 99) (hp : p < m) (hj : j < 6) (hm1 : I 63 j = nI q) (hq : q ≤ 20) (hf : ∀ i, i < q → I 64 (40 * j + i) = f i) (hQ : ∀ I', (∀ k j, k ≠ 75 → k ≠ 76 → k ≠ 77 → I' k j = I k j) → Q (some (.int (gset (fun c => fit (Kk K p c) m p f q s 0) 6))) I' L) :
    ∀ r c I', c + r = 6 → (∀ k i, k ≠ 75 → k ≠ 76 → k ≠ 77 → (k ≠ 69 ∨ i ≠ p) → I' k i = I k i) → zV n (d + 6) 190 13 [.ref 62, .int (nI p), .int (nI j), .int (I 69 p), .int (gset (fun c => fit (Kk K p c) m p f q s 0) c), .int (nI c)] [] I' L Q := by
  have zp : zin (nI p) 7 = true := zin_ok (by omega) (by decide)
  have cp : (nI p).toNatClampNeg = p := nI_clamp (by omega)
  intro r
  induction r with
  | zero =>
    intro c I' hc h1
    have e : c = 6 := by omega
    subst e
    have g : ((5 : Int32) < nI 6) = True := eq_true (by decide)
    simp only [e190_13, e190_15, e190_16, e190_59, e190_60, e190_63, e190_64, e190_65, e190_66, e190_68, zpush_some, zpush_none, true_or, or_true, true_and, and_true, ↓reduceIte, zq_ite, zq_itel, g, zo_62, zr_62_15, zn_69, zw_69, zl_69, zp, cp]
    refine hQ _ (fun k i a b c => ?_)
    by_cases e1 : k = 69 ∧ i = p
    · obtain ⟨rfl, rfl⟩ := e1
      exact zup_eq
    · have : zup I' 69 p (I 69 p) k i = I' k i := by
        by_cases e2 : k = 69
        · exact zup_nj (fun g => e1 ⟨e2, g⟩)
        · exact zup_ne e2
      rw [this]
      exact h1 k i a b c (by omega)
  | succ r ih =>
    intro c I' hc h1
    have hlt : ((5 : Int32) < nI c) = False := (nI_ltN (a := 5) (by decide) (by omega)).trans (eq_false (by omega))
    have e := ih (c + 1)
    rw [gset] at e
    simp only [e190_13, e190_15, e190_16, e190_19, e190_20, zpush_some, zpush_none, true_or, or_true, true_and, and_true, ↓reduceIte, zq_ite, zq_itel, hlt, zo_62]
    refine s_M_begin (MC_eq hM (fun j => h1 _ _ (by decide) (by decide) (by decide) (by omega))) (fun I1 w1 w2 w3 => ?_)
    simp only [e190_20, e190_23, e190_24, e190_27, e190_28, e190_30, e190_31, e190_33, e190_34, e190_35, e190_36, zpush_some, zpush_none, true_or, or_true, true_and, and_true, ↓reduceIte, zq_ite, zq_itel, zo_62, zr_62_15, zn_69, zw_69, zl_69, zp, cp]
    have hI1 : ∀ {v : Int32} k i, k ≠ 75 → k ≠ 76 → k ≠ 77 → (k ≠ 69 ∨ i ≠ p) → zup I1 69 p v k i = I k i := fun {v} k i a b c e => by
      have : zup I1 69 p v k i = I1 k i := by
        rcases e with e | e
        · exact zup_ne e
        · exact zup_nj e
      rw [this, w2 k i a c, h1 k i a b c e]
    have hK1 : MK (zup I1 69 p (nI c)) m (Kk K p c) := by
      obtain ⟨K', f1, k1, k2, k3⟩ := hK
      refine ⟨Kk K' p c, fun q hq => by unfold Kk; rw [f1 q hq], by rw [hI1 62 14 (by decide) (by decide) (by decide) (by omega)]; exact k1, k2, fun q hq => ?_⟩
      unfold Kk
      by_cases e : q = p
      · subst e; rw [zup_eq, if_pos rfl]; exact ⟨rfl, by omega⟩
      · rw [hI1 69 q (by decide) (by decide) (by decide) (by omega), if_neg e]; exact k3 q hq
    refine t_M_seen (s := s) (K := Kk K p c) (f := f) (MC_eq w1 (fun j => zup_ne (by decide))) hs hp hm hj (by rw [hI1 _ _ (by decide) (by decide) (by decide) (by omega)]; exact hm1) hq (fun i hi => by rw [hI1 _ _ (by decide) (by decide) (by decide) (by omega)]; exact hf i hi) hK1 (fun I2 y1 => ?_)
    have hI2 : ∀ k i, k ≠ 75 → k ≠ 76 → k ≠ 77 → (k ≠ 69 ∨ i ≠ p) → I2 k i = I k i := fun k i a b c e => by rw [y1 k i a b c, hI1 k i a b c e]
    cases hb : fit (Kk K p c) m p f q s 0
    · rw [hb] at e
      simp only [e190_36, e190_39, e190_42, e190_43, e190_45, e190_46, e190_49, e190_50, e190_51, e190_51a, zpush_some, zpush_none, true_or, or_true, true_and, and_true, ↓reduceIte, zq_ite, zq_itel, zb_f]
      simp only [e190_53, e190_53a, e190_56, nI_1]
      exact e I2 (by omega) hI2
    · rw [hb] at e
      simp only [e190_36, e190_39, e190_42, e190_43, e190_45, e190_46, e190_49, e190_50, e190_51, e190_51a, zpush_some, zpush_none, true_or, or_true, true_and, and_true, ↓reduceIte, zq_ite, zq_itel, zb_t, zz_1]
      simp only [e190_53, e190_53a, e190_56, nI_1]
      exact e I2 (by omega) hI2
theorem t_M_kinds (hM : MC I 70 m s) (hK : MK I m K) (hm : m ≤ 7) (hs : s.2.2.2.2.1 ≤ 99) (hp : p < m) (hj : j < 6) (hm1 : I 63 j = nI q) (hq : q ≤ 20) (hf : ∀ i, i < q → I 64 (40 * j + i) = f i) (hQ : ∀ I', (∀ k j, k ≠ 75 → k ≠ 76 → k ≠ 77 → I' k j = I k j) → Q (some (.int (gset (fun c => fit (Kk K p c) m p f q s 0) 6))) I' L) : zV n (d + 6) 190 0 [.ref 62, .int (nI p), .int (nI j), .null, .null, .null] [] I L Q := by
  have zp : zin (nI p) 7 = true := zin_ok (by omega) (by decide)
  have cp : (nI p).toNatClampNeg = p := nI_clamp (by omega)
  simp only [e190_0, e190_1, e190_4, e190_5, e190_6, e190_7, e190_8, e190_8a, e190_10, e190_11, e190_11a, zpush_some, zpush_none, true_or, or_true, true_and, and_true, ↓reduceIte, zq_ite, zq_itel, zo_62, zr_62_15, zn_69, zl_69, zp, cp]
  exact l_M_kinds hM hK hm hs hp hj hm1 hq hf hQ 6 0 I rfl (fun _ _ _ _ _ _ => rfl)
theorem p_kinds (h : Inv I L) (i r : Int32) : zV n (d + 7) 98 0 [.ref 3, .int i, .int r, .null] [] I L (fun v1 I1 L1 => zV n (d + 7) 189 0 [.ref 62, .int i, .int r, .null] [] I1 L1 (fun v2 I2 L2 => same v1 v2 ∧ Inv I2 L2)) := by
  obtain ⟨m, K, s, hm, hok, ht, hX, hM, hK⟩ := h.view
  rcases sights h hX hK hm i r with ⟨v, I1, I2, hv, hi2, e1, e2⟩ | ⟨p, j, q, hp, rfl, hj, rfl, q1, q2, q3, q4, q5, e1, e2⟩
  · have hv' := eq_false hv
    simp only [e98_0, e98_1, e98_2, e98_3, e98_6, e98_7, e98_8, e98_11, e98_12, e98_15, e98_16, e98_17, e98_18, e98_21, e98_22, e98_23, e98_26, e189_0, e189_1, e189_2, e189_3, e189_6, e189_7, e189_8, e189_11, e189_12, e189_15, e189_16, e189_17, e189_18, e189_21, zpush_some, zpush_none, true_or, or_true, true_and, and_true, ↓reduceIte, zq_ite, zq_itel, zo_3, zo_62, e1, e2, hv']
    exact ⟨same_i, hi2⟩
  · obtain ⟨z0, hsz⟩ := row_z j hj
    have zj : zin (nI j) 6 = true := zin_ok hj (by decide)
    have cj : (nI j).toNatClampNeg = j := nI_clamp (by omega)
    simp only [e98_0, e98_1, e98_2, e98_3, e98_6, e98_7, e98_8, e98_11, e98_12, e98_15, e98_16, e98_17, e98_18, e98_21, e98_22, e98_23, e98_26, zpush_some, zpush_none, true_or, or_true, true_and, and_true, ↓reduceIte, zq_ite, zq_itel, zo_3, e1, zr_3_0, zn_4, zl_4, zj, cj, z0, hsz.1]
    refine t_X_kinds (d := d + 1) (f := fun k => I 64 (40 * j + k)) (s := s) hX ht hp hj q4 q3 q5 (fun I3 L3 x1 x2 => ?_)
    have e3 := fun n d Q => e2 n d Q I3 L3 (by rw [x1 62 14 (by decide)]; exact MK_m hK) (fun a => x1 _ _ (by decide)) (fun a => x1 _ _ (by decide))
    simp only [e98_0, e98_1, e98_2, e98_3, e98_6, e98_7, e98_8, e98_11, e98_12, e98_15, e98_16, e98_17, e98_18, e98_21, e98_22, e98_23, e98_26, e189_0, e189_1, e189_2, e189_3, e189_6, e189_7, e189_8, e189_11, e189_12, e189_15, e189_16, e189_17, e189_18, e189_21, zpush_some, zpush_none, true_or, or_true, true_and, and_true, ↓reduceIte, zq_ite, zq_itel, zo_62, e3]
    refine t_M_kinds (I := I3) (f := fun k => I 64 (40 * j + k)) (s := s) (MC_eq hM (fun j => x1 _ _ (by decide))) (MK_eq hK (fun j => x1 _ _ (by decide)) (fun j => x1 _ _ (by decide))) hm ht hp hj (by rw [x1 _ _ (by decide)]; exact q1) q3 (fun i hi => x1 _ _ (by decide)) (fun I4 y1 => ?_)
    simp only [e189_0, e189_1, e189_2, e189_3, e189_6, e189_7, e189_8, e189_11, e189_12, e189_15, e189_16, e189_17, e189_18, e189_21, zpush_some, zpush_none, true_or, or_true, true_and, and_true, ↓reduceIte, zq_ite, zq_itel]
    refine ⟨same_i, inv_other h (fun k j hk => ?_) (fun k j hk => x2 k j (by omega))⟩
    unfold cubeCell at hk
    rw [y1 k j (by omega) (by omega) (by omega), x1 k j (by omega)]
end
