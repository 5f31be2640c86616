/-! WHICH IS USED MOST -/
def us (K : Nat → Nat) (m : Nat) (s : Cs) : Nat → Nat → Nat
  | 0, _ => 0
  | t + 1, l => us K m s t l + cntl (stps K m s t).1 (wvs K (stps K m s t)) (bt (stps K m s t).2.2.2.1) l m
def amx (f : Nat → Int32) : Nat → Nat
  | 0 => 0
  | l + 1 => if f (amx f l) < f l then l else amx f l
theorem amx_lt (f : Nat → Int32) : ∀ l, 0 < l → amx f l < l
  | 0, h => absurd h (by decide)
  | l + 1, _ => by
    rw [amx]
    split
    · exact Nat.lt_succ_self l
    · by_cases e : l = 0
      · subst e; exact Nat.zero_lt_one
      · have := amx_lt f l (by omega)
        omega
theorem amx_1 (f : Nat → Int32) : amx f 1 = 0 := by
  rw [amx]
  split <;> rfl
theorem h_lkx : ∀ c, c < 16 → ∀ w, w < 4 → ((8 : Int32) * nI w + (nI c >>> ((nI w + 1) &&& 31) <<< (nI w &&& 31) ||| nI c &&& ((1 : Int32) <<< (nI w &&& 31)) - 1)) &&& 31 = nI (lk c w) := by decide +kernel
theorem lk_flip : ∀ c, c < 16 → ∀ w, w < 4 → lk (c ^^^ 2 ^ w) w = lk c w ∧ c ^^^ 2 ^ w < 16 := by decide +kernel
section
variable {n d : Nat} {I I' : zi} {L L' : zl} {Q : zq} {K K' : Nat → Nat} {s s' s0 : Cs} {k m q i a b l N : Nat}
theorem s_W_linkAt {c w : Nat} (hc : c < 16) (hw : w < 4) : zV n d 84 0 [.int (nI c), .int (nI w), .null] [] I L Q ↔ Q (some (.int (nI (lk c w)))) I L := by
  simp only [e84_0, e84_1, e84_2, e84_3, e84_4, e84_5, e84_6, e84_7, e84_8, e84_10, e84_11, e84_12, e84_13, e84_14, e84_15, e84_16, e84_17, e84_18, e84_19, e84_20, e84_21, e84_22, e84_24, e84_25, zpush_some, zpush_none, true_or, or_true, true_and, and_true, ↓reduceIte, zq_ite, zq_itel, h_lkx c hc w hw]
theorem l_X_uses0 {v1 : Int32} {v3 : Value} (hQ : ∀ I', (∀ k j, k ≠ 27 → I' k j = I k j) → (∀ l, l < 32 → I' 27 l = 0) → zV n d 83 21 [.ref 3, .int v1, .int 32, v3] [] I' L Q) :
    ∀ r i I', i + r = 32 → (∀ k j, k ≠ 27 → I' k j = I k j) → (∀ l, l < i → I' 27 l = 0) → zV n d 83 2 [.ref 3, .int v1, .int (nI i), v3] [] I' L Q := by
  intro r
  induction r with
  | zero =>
    intro i I' hi h1 h2
    have e : i = 32 := by omega
    subst e
    simp only [e83_2, e83_3, e83_5, zpush_some, zpush_none, true_or, or_true, true_and, and_true, ↓reduceIte, zq_ite, zq_itel, show nI 32 = (32 : Int32) from rfl, Int32.le_refl]
    exact hQ I' h1 h2
  | succ r ih =>
    intro i I' hi h1 h2
    have hlt : ((32 : Int32) ≤ nI i) = False := eq_false (nI_ge (b := 32) (by omega) (by omega))
    have z1 : zin (nI i) 32 = true := zin_ok (by omega) (by decide)
    have c1 : (nI i).toNatClampNeg = i := nI_clamp (by omega)
    simp only [e83_2, e83_3, e83_5, e83_8, e83_9, e83_12, e83_13, e83_14, zpush_some, zpush_none, true_or, or_true, true_and, and_true, ↓reduceIte, zq_ite, zq_itel, hlt, zo_3, zr_3_8, zn_27, zw_27, zl_27, z1, c1]
    simp only [e83_15, e83_18, nI_1]
    refine ih (i + 1) _ (by omega) (fun k j g => by rw [zup_ne g]; exact h1 k j g) (fun l hl => ?_)
    by_cases e : l = i
    · subst e; exact zup_eq
    · rw [zup_nj e]; exact h2 l (by omega)
/-- behind a step: each that went counts its link -/
theorem l_X_uses1 (hm : m ≤ 7) (hok : okc m K s) (hx : XC I L 19 m K (stp K m s)) (h9 : I 19 9 = nI (gm s.1 (wvs K s) (bt s.2.2.2.1) m)) {u : Nat → Nat} {v1 v2 : Int32} (hQ : ∀ I', (∀ k j, k ≠ 27 → I' k j = I k j) → (∀ l, l < 32 → I' 27 l = nI (u l + cntl s.1 (wvs K s) (bt s.2.2.2.1) l m)) → zV n (d + 1) 83 106 [.ref 3, .int v1, .int v2, .int (nI m)] [] I' L Q) :
    ∀ r i I', i + r = m → (∀ k j, k ≠ 27 → I' k j = I k j) → (∀ l, l < 32 → I' 27 l = nI (u l + cntl s.1 (wvs K s) (bt s.2.2.2.1) l i)) → zV n (d + 1) 83 48 [.ref 3, .int v1, .int v2, .int (nI i)] [] I' L Q := by
  have hz := Qa_z (k := 19) (Or.inr (Or.inr rfl))
  have gl : gm s.1 (wvs K s) (bt s.2.2.2.1) m < 128 := Nat.lt_of_lt_of_le (gm_lt _ _ _ m) (Nat.pow_le_pow_right (by decide) hm)
  intro r
  induction r with
  | zero =>
    intro i I' hi h1 h2
    have e : i = m := by omega
    subst e
    have hm1 : I' 19 4 = nI i := by rw [h1 19 4 (by decide)]; exact XC_m hx
    simp only [e83_48, e83_49, e83_50, e83_53, e83_56, zpush_some, zpush_none, true_or, or_true, true_and, and_true, ↓reduceIte, zq_ite, zq_itel, zo_3, zr_3_6, zo_19, hm1, Int32.le_refl]
    exact hQ I' h1 h2
  | succ r ih =>
    intro i I' hi h1 h2
    have him : i < m := by omega
    have hlt : (nI m ≤ nI i) = False := eq_false (nI_ge (by omega) (by omega))
    have hm1 : I' 19 4 = nI m := by rw [h1 19 4 (by decide)]; exact XC_m hx
    have h91 : I' 19 9 = nI (gm s.1 (wvs K s) (bt s.2.2.2.1) m) := by rw [h1 19 9 (by decide)]; exact h9
    have gb : (gm s.1 (wvs K s) (bt s.2.2.2.1) m).testBit i = goes s.1 (wvs K s) (bt s.2.2.2.1) i := by rw [gm_bit, decide_eq_true him, Bool.true_and]
    cases hg : goes s.1 (wvs K s) (bt s.2.2.2.1) i
    · simp only [e83_48, e83_49, e83_50, e83_53, e83_56, e83_59, e83_60, e83_63, e83_64, e83_67, zpush_some, zpush_none, true_or, or_true, true_and, and_true, ↓reduceIte, zq_ite, zq_itel, zo_3, zr_3_6, zo_19, hm1, hlt, s_Q_wentJustNow hz h91 gl (show i < 7 by omega), gb, hg, zb_f]
      simp only [e83_100, e83_100a, e83_103, nI_1]
      refine ih (i + 1) I' (by omega) h1 (fun l hl => ?_)
      rw [h2 l hl, cntl, hg]
      simp
    · have hv : wvs K s i < 4 := by
        unfold goes goes1 at hg
        simp only [Bool.and_eq_true, decide_eq_true_eq] at hg
        exact hg.1
      have hc := (hok i him).2.1
      obtain ⟨f1, f2⟩ := lk_flip _ hc _ hv
      have hs1 : (stp K m s).1 i = s.1 i ^^^ 2 ^ wvs K s i := by
        show (if i < m then C1 s.1 (wvs K s) (bt s.2.2.2.1) i else s.1 i) = _
        rw [if_pos him]; unfold C1; rw [hg]; rfl
      have hs2 : (stp K m s).2.2.1 i = wvs K s i := by
        show (if i < m then W1 s.1 s.2.2.1 (wvs K s) (bt s.2.2.2.1) i else s.2.2.1 i) = _
        rw [if_pos him]; unfold W1; rw [hg]; rfl
      obtain ⟨-, ⟨b1, b2⟩, -, ⟨b3, b4⟩⟩ := XC_get hx him
      have c21 : I' 21 i = nI (s.1 i ^^^ 2 ^ wvs K s i) := by rw [h1 21 i (by decide), ← hs1]; exact b1
      have c23 : I' 23 i = nI (wvs K s i) := by
        rw [h1 23 i (by decide)]
        have := b3
        rw [hs2, wx_lt hv] at this
        exact this
      have zi7 : zin (nI i) 7 = true := zin_ok (by omega) (by decide)
      have ci : (nI i).toNatClampNeg = i := nI_clamp (by omega)
      have hll := lk_lt _ hc _ hv
      have zl7 : zin (nI (lk (s.1 i) (wvs K s i))) 32 = true := zin_ok hll (by decide)
      have cl : (nI (lk (s.1 i) (wvs K s i))).toNatClampNeg = lk (s.1 i) (wvs K s i) := nI_clamp (by omega)
      simp only [e83_48, e83_49, e83_50, e83_53, e83_56, e83_59, e83_60, e83_63, e83_64, e83_67, e83_70, e83_71, e83_74, e83_75, e83_78, e83_81, e83_82, e83_83, e83_84, e83_87, e83_90, e83_91, e83_92, e83_95, e83_96, e83_97, e83_98, e83_99, zpush_some, zpush_none, true_or, or_true, true_and, and_true, ↓reduceIte, zq_ite, zq_itel, zo_3, zr_3_6, zr_3_8, zo_19, hm1, hlt, s_Q_wentJustNow hz h91 gl (show i < 7 by omega), gb, hg, zb_t, zz_1, zr_19_1, zr_19_3, zn_21, zl_21, zn_23, zl_23, zi7, ci, c21, c23, s_W_linkAt f2 hv, f1, zn_27, zw_27, zl_27, zl7, cl]
      simp only [e83_100, e83_100a, e83_103, nI_1]
      refine ih (i + 1) _ (by omega) (fun k j a => by rw [zup_ne a]; exact h1 k j a) (fun l hl => ?_)
      rw [cntl, hg]
      by_cases e : lk (s.1 i) (wvs K s i) = l
      · subst e
        rw [zup_eq, h2 _ hl, nI_1]
        simp [Nat.add_assoc]
      · rw [zup_nj (fun g => e g.symm), h2 l hl]
        simp [e]
theorem stps_ok {K : Nat → Nat} {s : Cs} (h : okc m K s) : ∀ t, okc m K (stps K m s t)
  | 0 => h
  | t + 1 => stp_ok (stps_ok h t)
theorem l_X_uses2 (hm : m ≤ 7) (hok : okc m K s) (hs : s.2.2.2.2.1 ≤ 99) (hN : N ≤ 40) (hQ : ∀ I', (∀ k j, k ≠ 27 → (k < 19 ∨ 23 < k) → I' k j = I k j) → (∀ l, l < 32 → I' 27 l = nI (us K m s N l)) → Q none I' L) :
    ∀ r t I' v3, t + r = N → XC I' L 19 m K (stps K m s t) → (∀ k j, k ≠ 27 → (k < 19 ∨ 23 < k) → I' k j = I k j) → (∀ l, l < 32 → I' 27 l = nI (us K m s t l)) → zV n (d + 4) 83 34 [.ref 3, .int (nI N), .int (nI t), v3] [] I' L Q := by
  have hz := Qa_z (k := 19) (Or.inr (Or.inr rfl))
  intro r
  induction r with
  | zero =>
    intro t I' v3 ht hx h1 h2
    have e : t = N := by omega
    subst e
    simp only [e83_34, e83_35, e83_36, e83_112, zpush_some, zpush_none, true_or, or_true, true_and, and_true, ↓reduceIte, zq_ite, zq_itel, Int32.le_refl]
    exact hQ I' h1 h2
  | succ r ih =>
    intro t I' v3 ht hx h1 h2
    have hlt : (nI N ≤ nI t) = False := eq_false (nI_ge (by omega) (by omega))
    simp only [e83_34, e83_35, e83_36, e83_39, e83_40, e83_43, zpush_some, zpush_none, true_or, or_true, true_and, and_true, ↓reduceIte, zq_ite, zq_itel, hlt, zo_3, zr_3_6, zo_19]
    refine t_Q_advance hz hx (by rw [stps_t]; omega) (fun I2 x1 x2 x3 => ?_)
    simp only [e83_43, e83_46, e83_47, e83_47a, zpush_some, zpush_none, true_or, or_true, true_and, and_true, ↓reduceIte, zq_ite, zq_itel]
    refine l_X_uses1 (u := us K m s t) (I := I2) (L := L) (d := d + 3) hm (stps_ok hok t) x1 x3 (fun I3 y1 y2 => ?_) m 0 I2 (by omega) (fun _ _ _ => rfl) (fun l hl => ?_)
    · simp only [e83_106, e83_109, nI_1]
      refine ih (t + 1) I3 _ (by omega) (XC_eq x1 (fun k' j a b _ => y1 k' j (by omega)) rfl) (fun k j a b => ?_) y2
      rw [y1 k j a, x2 k j (by omega) (by omega) (Or.inl (by omega))]
      exact h1 k j a b
    · rw [x2 27 l (by decide) (by decide) (Or.inl (by decide)), h2 l hl]
      rfl
theorem t_X_countUses (hX : XC I L 14 m K s) (hok : okc m K s) (hs : s.2.2.2.2.1 ≤ 99) (hN : N ≤ 40) (hQ : ∀ I' L', (∀ k j, k ≠ 27 → (k < 19 ∨ 23 < k) → I' k j = I k j) → (∀ k j, k ≠ 19 → L' k j = L k j) → (∀ l, l < 32 → I' 27 l = nI (us K m s N l)) → Q none I' L') : zV n (d + 4) 83 0 [.ref 3, .int (nI N), .null, .null] [] I L Q := by
  have hz := Qa_z (k := 14) (Or.inr (Or.inl rfl))
  have hz2 := Qa_z (k := 19) (Or.inr (Or.inr rfl))
  simp only [e83_0, e83_1, zpush_some, zpush_none, true_or, or_true, true_and, and_true, ↓reduceIte, zq_ite, zq_itel]
  refine l_X_uses0 (I := I) (fun I1 h1 h2 => ?_) 32 0 I rfl (fun _ _ _ => rfl) (fun l hl => absurd hl (Nat.not_lt_zero l))
  simp only [e83_21, e83_22, e83_25, e83_26, e83_29, zpush_some, zpush_none, true_or, or_true, true_and, and_true, ↓reduceIte, zq_ite, zq_itel, zo_3, zr_3_5, zr_3_6, zo_14, zo_19]
  refine t_Q_take hz2 hz (by decide) (XC_eq hX (fun k' j a b _ => h1 k' j (by omega)) rfl) (fun I2 L2 x1 x2 x3 => ?_)
  simp only [e83_29, e83_32, e83_33, zpush_some, zpush_none, true_or, or_true, true_and, and_true, ↓reduceIte, zq_ite, zq_itel]
  refine l_X_uses2 (I := I) (L := L2) (XC_m7 hX) hok hs hN (fun I3 y1 y2 => hQ I3 L2 y1 x3 y2) N 0 I2 _ (by omega) x1 (fun k j a b => by rw [x2 k j (by omega), h1 k j a]) (fun l hl => by rw [x2 27 l (by decide), h2 l hl]; rfl)
theorem l_X_most {f : Nat → Int32} {v1 : Int32} (hf : ∀ l, l < 32 → I 27 l = f l) (hQ : zV n d 82 68 [.ref 3, .int v1, .int (nI (amx f 32)), .int 32] [] I L Q) :
    ∀ r i, 0 < i → i + r = 32 → zV n d 82 35 [.ref 3, .int v1, .int (nI (amx f i)), .int (nI i)] [] I L Q := by
  intro r
  induction r with
  | zero =>
    intro i h0 hi
    have e : i = 32 := by omega
    subst e
    simp only [e82_35, e82_36, e82_38, zpush_some, zpush_none, true_or, or_true, true_and, and_true, ↓reduceIte, zq_ite, zq_itel, show nI 32 = (32 : Int32) from rfl, Int32.le_refl]
    exact hQ
  | succ r ih =>
    intro i h0 hi
    have ha := amx_lt f i h0
    have hlt : ((32 : Int32) ≤ nI i) = False := eq_false (nI_ge (b := 32) (by omega) (by omega))
    have z1 : zin (nI i) 32 = true := zin_ok (by omega) (by decide)
    have c1 : (nI i).toNatClampNeg = i := nI_clamp (by omega)
    have z2 : zin (nI (amx f i)) 32 = true := zin_ok (by omega) (by decide)
    have c2 : (nI (amx f i)).toNatClampNeg = amx f i := nI_clamp (by omega)
    have e := ih (i + 1) (by omega) (by omega)
    rw [amx] at e
    by_cases g : f (amx f i) < f i
    · have g' : (f i ≤ f (amx f i)) = False := eq_false (by rw [Int32.not_le]; exact g)
      rw [if_pos g] at e
      simp only [e82_35, e82_36, e82_38, e82_41, e82_42, e82_45, e82_46, e82_47, e82_48, e82_51, e82_52, e82_53, e82_56, e82_57, e82_60, e82_61, zpush_some, zpush_none, true_or, or_true, true_and, and_true, ↓reduceIte, zq_ite, zq_itel, hlt, zo_3, zr_3_8, zn_27, zl_27, z1, c1, z2, c2, hf i (by omega), hf _ (show amx f i < 32 by omega), g']
      simp only [e82_62, e82_62a, e82_65, nI_1]
      exact e
    · have g' : (f i ≤ f (amx f i)) = True := eq_true (by rw [← Int32.not_lt]; exact g)
      rw [if_neg g] at e
      simp only [e82_35, e82_36, e82_38, e82_41, e82_42, e82_45, e82_46, e82_47, e82_48, e82_51, e82_52, e82_53, e82_56, e82_57, e82_60, e82_61, zpush_some, zpush_none, true_or, or_true, true_and, and_true, ↓reduceIte, zq_ite, zq_itel, hlt, zo_3, zr_3_8, zn_27, zl_27, z1, c1, z2, c2, hf i (by omega), hf _ (show amx f i < 32 by omega), g']
      simp only [e82_62, e82_62a, e82_65, nI_1]
      exact e
theorem l_M_most {f : Nat → Int32} {v1 : Int32} (hf : ∀ l, l < 32 → I 77 l = f l) (hQ : zV n d 179 85 [.ref 62, .int v1, .int (nI (amx f 32)), .int 32] [] I L Q) :
    ∀ r i, 0 < i → i + r = 32 → zV n d 179 52 [.ref 62, .int v1, .int (nI (amx f i)), .int (nI i)] [] I L Q := by
  intro r
  induction r with
  | zero =>
    intro i h0 hi
    have e : i = 32 := by omega
    subst e
    simp only [e179_52, e179_53, e179_55, zpush_some, zpush_none, true_or, or_true, true_and, and_true, ↓reduceIte, zq_ite, zq_itel, show nI 32 = (32 : Int32) from rfl, Int32.le_refl]
    exact hQ
  | succ r ih =>
    intro i h0 hi
    have ha := amx_lt f i h0
    have hlt : ((32 : Int32) ≤ nI i) = False := eq_false (nI_ge (b := 32) (by omega) (by omega))
    have z1 : zin (nI i) 32 = true := zin_ok (by omega) (by decide)
    have c1 : (nI i).toNatClampNeg = i := nI_clamp (by omega)
    have z2 : zin (nI (amx f i)) 32 = true := zin_ok (by omega) (by decide)
    have c2 : (nI (amx f i)).toNatClampNeg = amx f i := nI_clamp (by omega)
    have e := ih (i + 1) (by omega) (by omega)
    rw [amx] at e
    by_cases g : f (amx f i) < f i
    · have g' : (f i ≤ f (amx f i)) = False := eq_false (by rw [Int32.not_le]; exact g)
      rw [if_pos g] at e
      simp only [e179_52, e179_53, e179_55, e179_58, e179_59, e179_62, e179_63, e179_64, e179_65, e179_68, e179_69, e179_70, e179_73, e179_74, e179_77, e179_78, zpush_some, zpush_none, true_or, or_true, true_and, and_true, ↓reduceIte, zq_ite, zq_itel, hlt, zo_62, zr_62_24, zn_77, zl_77, z1, c1, z2, c2, hf i (by omega), hf _ (show amx f i < 32 by omega), g']
      simp only [e179_79, e179_79a, e179_82, nI_1]
      exact e
    · have g' : (f i ≤ f (amx f i)) = True := eq_true (by rw [← Int32.not_lt]; exact g)
      rw [if_neg g] at e
      simp only [e179_52, e179_53, e179_55, e179_58, e179_59, e179_62, e179_63, e179_64, e179_65, e179_68, e179_69, e179_70, e179_73, e179_74, e179_77, e179_78, zpush_some, zpush_none, true_or, or_true, true_and, and_true, ↓reduceIte, zq_ite, zq_itel, hlt, zo_62, zr_62_24, zn_77, zl_77, z1, c1, z2, c2, hf i (by omega), hf _ (show amx f i < 32 by omega), g']
      simp only [e179_79, e179_79a, e179_82, nI_1]
      exact e
theorem l_M_tight (hs : s.2.2.2.2.1 ≤ 99) (hN : N ≤ 40) (hK : MK I m K) {v3 : Value} (hQ : ∀ I', (∀ k j, k ≠ 75 → k ≠ 76 → k ≠ 77 → I' k j = I k j) → (∀ l, l < 32 → I' 77 l = nI (us K m s N l)) → zV n (d + 5) 179 48 [.ref 62, .int (nI N), .int (nI N), v3] [] I' L Q) :
    ∀ r t I', t + r = N → MC I' 75 m (stps K m s t) → (∀ k j, k ≠ 75 → k ≠ 76 → k ≠ 77 → I' k j = I k j) → (∀ l, l < 32 → I' 77 l = nI (us K m s t l)) → zV n (d + 5) 179 28 [.ref 62, .int (nI N), .int (nI t), v3] [] I' L Q := by
  intro r
  induction r with
  | zero =>
    intro t I' ht hx h1 h2
    have e : t = N := by omega
    subst e
    simp only [e179_28, e179_29, e179_30, zpush_some, zpush_none, true_or, or_true, true_and, and_true, ↓reduceIte, zq_ite, zq_itel, Int32.le_refl]
    exact hQ I' h1 h2
  | succ r ih =>
    intro t I' ht hx h1 h2
    have hlt : (nI N ≤ nI t) = False := eq_false (nI_ge (by omega) (by omega))
    simp only [e179_28, e179_29, e179_30, e179_33, e179_34, e179_35, e179_38, zpush_some, zpush_none, true_or, or_true, true_and, and_true, ↓reduceIte, zq_ite, zq_itel, hlt, zo_62, zr_62_22, zn_75]
    refine t_M_steps hx (MK_eq hK (fun j => h1 _ _ (by decide) (by decide) (by decide)) (fun j => h1 _ _ (by decide) (by decide) (by decide))) Ma_75 (by decide) (by rw [stps_t]; omega) (fun I2 x1 x2 x3 => ?_)
    simp only [e179_38, e179_41, e179_42, e179_45, zpush_some, zpush_none, true_or, or_true, true_and, and_true, ↓reduceIte, zq_ite, zq_itel, nI_1]
    refine ih (t + 1) I2 (by omega) x1 (fun k j a b c => by rw [x2 k j a b c]; exact h1 k j a b c) (fun l hl => ?_)
    rw [x3 l hl, h2 l hl, i_tk]
    rfl
theorem p_tight (h : Inv I L) (w : Int32) : zV n (d + 6) 82 0 [.ref 3, .int w, .null, .null] [] I L (fun v1 I1 L1 => zV n (d + 6) 179 0 [.ref 62, .int w, .null, .null] [] I1 L1 (fun v2 I2 L2 => same v1 v2 ∧ Inv I2 L2)) := by
  obtain ⟨m, K, s, hm, hok, ht, hX, hM, hK⟩ := h.view
  rcases rng1 w 40 (by decide) (b := 40) rfl with h1 | ⟨h1, h2, h3⟩ | ⟨N, j1, j2, rfl, h1, h2, h3⟩
  · simp only [e82_0, e82_1, e82_2, e82_5, e82_6, e82_8, e82_11, e82_12, e179_0, e179_1, e179_2, e179_4, e179_7, e179_10, e179_11, zpush_some, zpush_none, true_or, or_true, true_and, and_true, ↓reduceIte, zq_ite, zq_itel, s_M_in, h1, not_true_eq_false]
    exact ⟨same_i, h⟩
  · simp only [e82_0, e82_1, e82_2, e82_5, e82_6, e82_8, e82_11, e82_12, e179_0, e179_1, e179_2, e179_4, e179_7, e179_10, e179_11, zpush_some, zpush_none, true_or, or_true, true_and, and_true, ↓reduceIte, zq_ite, zq_itel, s_M_in, h1, h2, h3, not_true_eq_false]
    exact ⟨same_i, h⟩
  · by_cases hm0 : m = 0
    · have e0 : (nI m = 0) = True := by rw [nI_z (by omega)]; exact eq_true hm0
      simp only [e82_0, e82_1, e82_2, e82_5, e82_6, e82_8, e82_11, e82_12, e82_13, e82_14, e82_17, e82_20, e82_23, e82_25, e179_0, e179_1, e179_2, e179_4, e179_7, e179_10, e179_11, e179_12, e179_13, e179_16, e179_19, e179_21, zpush_some, zpush_none, true_or, or_true, true_and, and_true, ↓reduceIte, zq_ite, zq_itel, s_M_in, h1, h2, h3, zz_1, not_false_eq_true, zo_3, zr_3_5, zo_14, zo_62, XC_m hX, MK_m hK, e0, not_true_eq_false]
      exact ⟨same_i, h⟩
    · have e0 : (nI m = 0) = False := by rw [nI_z (by omega)]; exact eq_false hm0
      simp only [e82_0, e82_1, e82_2, e82_5, e82_6, e82_8, e82_11, e82_12, e82_13, e82_14, e82_17, e82_20, e82_23, e82_25, e82_26, e82_27, e82_28, zpush_some, zpush_none, true_or, or_true, true_and, and_true, ↓reduceIte, zq_ite, zq_itel, h1, h3, not_false_eq_true, zo_3, zr_3_5, zo_14, XC_m hX, e0]
      refine t_X_countUses hX hok ht (show N ≤ 40 by omega) (fun I1 L1 x1 x2 x3 => ?_)
      simp only [e82_28, e82_31, e82_32, e82_33, e82_34, e82_34a, zpush_some, zpush_none, true_or, or_true, true_and, and_true, ↓reduceIte, zq_ite, zq_itel]
      have e1 : Value.int 0 = Value.int (nI (amx (fun l => nI (us K m s N l)) 1)) := by rw [amx_1]; rfl
      rw [e1]
      refine l_X_most (f := fun l => nI (us K m s N l)) x3 ?_ 31 1 (by decide) rfl
      have ha := amx_lt (fun l => nI (us K m s N l)) 32 (by decide)
      generalize hp : amx (fun l => nI (us K m s N l)) 32 = p at ha
      have zp : zin (nI p) 32 = true := zin_ok (by omega) (by decide)
      have cp : (nI p).toNatClampNeg = p := nI_clamp (by omega)
      by_cases hz0 : nI (us K m s N p) = 0
      · simp only [e82_68, e82_69, e82_72, e82_73, e82_74, e82_77, e82_79, e82_82, e82_83, e82_84, e82_85, e82_88, e82_89, e82_90, e82_93, zpush_some, zpush_none, true_or, or_true, true_and, and_true, ↓reduceIte, zq_ite, zq_itel, zo_3, zr_3_8, zn_27, zl_27, zp, cp, x3 p ha, hz0, not_true_eq_false]
        have hm1 : I1 62 14 = nI m := by rw [x1 62 14 (by decide) (by decide)]; exact MK_m hK
        simp only [e179_0, e179_1, e179_2, e179_4, e179_7, e179_10, e179_11, e179_12, e179_13, e179_16, e179_19, e179_21, e179_22, e179_23, zpush_some, zpush_none, true_or, or_true, true_and, and_true, ↓reduceIte, zq_ite, zq_itel, s_M_in, h1, h2, zz_1, not_false_eq_true, zo_62, hm1, e0]
        refine s_M_begin (MC_eq hM (fun j => x1 _ _ (by decide) (by decide))) (fun I3 w1 w2 w3 => ?_)
        simp only [e179_23, e179_26, e179_27, zpush_some, zpush_none, true_or, or_true, true_and, and_true, ↓reduceIte, zq_ite, zq_itel]
        have hK3 : MK I3 m K := MK_eq hK (fun j => by rw [w2 _ _ (by decide) (by decide), x1 _ _ (by decide) (by decide)]) (fun j => by rw [w2 _ _ (by decide) (by decide), x1 _ _ (by decide) (by decide)])
        refine l_M_tight (I := I3) (K := K) (m := m) (s := s) ht (show N ≤ 40 by omega) hK3 (fun I4 v1 v2 => ?_) N 0 I3 (by omega) w1 (fun _ _ _ _ _ => rfl) (fun l hl => by rw [w3 l hl]; rfl)
        simp only [e179_48, e179_49, e179_50, e179_51, e179_51a, zpush_some, zpush_none, true_or, or_true, true_and, and_true, ↓reduceIte, zq_ite, zq_itel]
        rw [e1]
        refine l_M_most (f := fun l => nI (us K m s N l)) v2 ?_ 31 1 (by decide) rfl
        rw [hp]
        simp only [e179_85, e179_86, e179_89, e179_90, e179_91, e179_94, e179_96, e179_97, e179_98, e179_99, e179_102, e179_103, e179_104, e179_107, e179_108, e179_109, zpush_some, zpush_none, true_or, or_true, true_and, and_true, ↓reduceIte, zq_ite, zq_itel, zo_62, zr_62_24, zn_77, zl_77, zp, cp, v2 p ha, hz0, not_true_eq_false]
        refine ⟨same_i, inv_told h ?_ (fun k j hk => ?_) (fun k j hk => x2 k j (by omega))⟩
        · rw [v1 _ _ (by decide) (by decide) (by decide), v1 _ _ (by decide) (by decide) (by decide), w2 _ _ (by decide) (by decide), w2 _ _ (by decide) (by decide), x1 _ _ (by decide) (by decide), x1 _ _ (by decide) (by decide)]
          exact h.1.2.2.1
        · unfold cubeCell at hk
          rw [v1 k j (by omega) (by omega) (by omega), w2 k j (by omega) (by omega), x1 k j (by omega) (by omega)]
      · have hz0' := eq_false hz0
        simp only [e82_68, e82_69, e82_72, e82_73, e82_74, e82_77, e82_79, e82_82, e82_83, e82_84, e82_85, e82_88, e82_89, e82_90, e82_93, zpush_some, zpush_none, true_or, or_true, true_and, and_true, ↓reduceIte, zq_ite, zq_itel, zo_3, zr_3_8, zn_27, zl_27, zp, cp, x3 p ha, hz0', not_false_eq_true, s_X_tell]
        have g3 : ∀ {v : Int32} k j, k ≠ 27 → (k < 19 ∨ 23 < k) → k ≠ 3 → zup I1 3 12 v k j = I k j := fun {v} k j a b c => by rw [zup_ne c, x1 k j a b]
        have hm1 : ∀ {v : Int32}, zup I1 3 12 v 62 14 = nI m := fun {v} => by rw [g3 62 14 (by decide) (by decide) (by decide)]; exact MK_m hK
        simp only [e179_0, e179_1, e179_2, e179_4, e179_7, e179_10, e179_11, e179_12, e179_13, e179_16, e179_19, e179_21, e179_22, e179_23, zpush_some, zpush_none, true_or, or_true, true_and, and_true, ↓reduceIte, zq_ite, zq_itel, s_M_in, h1, h2, zz_1, not_false_eq_true, zo_62, hm1, e0]
        refine s_M_begin (MC_eq hM (fun j => g3 _ _ (by decide) (by decide) (by decide))) (fun I3 w1 w2 w3 => ?_)
        simp only [e179_23, e179_26, e179_27, zpush_some, zpush_none, true_or, or_true, true_and, and_true, ↓reduceIte, zq_ite, zq_itel]
        have hK3 : MK I3 m K := MK_eq hK (fun j => by rw [w2 _ _ (by decide) (by decide), g3 _ _ (by decide) (by decide) (by decide)]) (fun j => by rw [w2 _ _ (by decide) (by decide), g3 _ _ (by decide) (by decide) (by decide)])
        refine l_M_tight (I := I3) (K := K) (m := m) (s := s) ht (show N ≤ 40 by omega) hK3 (fun I4 v1 v2 => ?_) N 0 I3 (by omega) w1 (fun _ _ _ _ _ => rfl) (fun l hl => by rw [w3 l hl]; rfl)
        simp only [e179_48, e179_49, e179_50, e179_51, e179_51a, zpush_some, zpush_none, true_or, or_true, true_and, and_true, ↓reduceIte, zq_ite, zq_itel]
        rw [e1]
        refine l_M_most (f := fun l => nI (us K m s N l)) v2 ?_ 31 1 (by decide) rfl
        rw [hp]
        simp only [e179_85, e179_86, e179_89, e179_90, e179_91, e179_94, e179_96, e179_97, e179_98, e179_99, e179_102, e179_103, e179_104, e179_107, e179_108, e179_109, zpush_some, zpush_none, true_or, or_true, true_and, and_true, ↓reduceIte, zq_ite, zq_itel, zo_62, zr_62_24, zn_77, zl_77, zp, cp, v2 p ha, hz0', not_false_eq_true, s_M_tells]
        refine ⟨same_i, inv_told h ?_ (fun k j hk => ?_) (fun k j hk => x2 k j (by omega))⟩
        · rw [zup_ne (by decide), zup_eq, v1 _ _ (by decide) (by decide) (by decide), w2 _ _ (by decide) (by decide), zup_eq]
        · unfold cubeCell at hk
          have e6 : zup I4 62 6 (nI (us K m s N p)) k j = I4 k j := by
            by_cases g : k = 62
            · exact zup_nj (by omega)
            · exact zup_ne g
          rw [e6, v1 k j (by omega) (by omega) (by omega), w2 k j (by omega) (by omega)]
          by_cases g : k = 3
          · subst g
            rw [zup_nj (by omega), x1 3 j (by decide) (by decide)]
          · exact g3 k j (by omega) (by omega) g
end
