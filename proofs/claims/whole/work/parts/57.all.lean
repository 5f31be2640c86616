/-! WHEN ALL ARE THERE -/
/-- the lowest that is not there; seven: all are -/
def ofN (s : Cs) (m : Nat) : Nat := if decide (0 < m) && !thr s 0 then 0 else if decide (1 < m) && !thr s 1 then 1 else if decide (2 < m) && !thr s 2 then 2 else if decide (3 < m) && !thr s 3 then 3 else if decide (4 < m) && !thr s 4 then 4 else if decide (5 < m) && !thr s 5 then 5 else if decide (6 < m) && !thr s 6 then 6 else 7
theorem ofN_le (s : Cs) (m : Nat) : ofN s m ≤ 7 := by
  unfold ofN
  repeat' split
  all_goals decide
theorem ofN_eq {s : Cs} {m i : Nat} (hm : m ≤ 7) (hi : i < m) (h : ∀ j, j < i → thr s j = true) (hn : thr s i = false) : ofN s m = i := by
  unfold ofN
  rcases (show i = 0 ∨ i = 1 ∨ i = 2 ∨ i = 3 ∨ i = 4 ∨ i = 5 ∨ i = 6 by omega) with rfl | rfl | rfl | rfl | rfl | rfl | rfl
  · simp [hi, hn]
  · simp [hi, hn, h 0 (by omega)]
  · simp [hi, hn, h 0 (by omega), h 1 (by omega)]
  · simp [hi, hn, h 0 (by omega), h 1 (by omega), h 2 (by omega)]
  · simp [hi, hn, h 0 (by omega), h 1 (by omega), h 2 (by omega), h 3 (by omega)]
  · simp [hi, hn, h 0 (by omega), h 1 (by omega), h 2 (by omega), h 3 (by omega), h 4 (by omega)]
  · simp [hi, hn, h 0 (by omega), h 1 (by omega), h 2 (by omega), h 3 (by omega), h 4 (by omega), h 5 (by omega)]
theorem ofN_7 {s : Cs} {m : Nat} (h : ∀ j, j < m → thr s j = true) : ofN s m = 7 := by
  have g : ∀ j, (decide (j < m) && !thr s j) = false := fun j => by
    by_cases e : j < m
    · rw [h j e]; simp
    · simp [e]
  unfold ofN
  simp only [g, Bool.false_eq_true, if_false]
/-- who is there, as a number -/
def thN (s : Cs) : Nat → Nat
  | 0 => 0
  | i + 1 => thN s i ||| (if thr s i then 2 ^ i else 0)
theorem thN_lt (s : Cs) : ∀ i, thN s i < 2 ^ i
  | 0 => by show 0 < 1; decide
  | i + 1 => by
    rw [thN]
    have h := thN_lt s i
    refine Nat.or_lt_two_pow ?_ ?_
    · rw [Nat.pow_succ]; omega
    · split
      · rw [Nat.pow_succ]
        have := Nat.two_pow_pos i
        omega
      · exact Nat.two_pow_pos _
theorem thN_bit (s : Cs) (q : Nat) : ∀ i, (thN s i).testBit q = (decide (q < i) && thr s q)
  | 0 => by simp [thN]
  | i + 1 => by
    rw [thN, Nat.testBit_or, thN_bit s q i]
    by_cases hq : q = i
    · subst hq
      cases hg : thr s q <;> simp [Nat.testBit_two_pow]
    · have h1 : (if thr s i = true then 2 ^ i else 0).testBit q = false := by
        split
        · rw [Nat.testBit_two_pow]; simp [Ne.symm hq]
        · simp
      rw [h1, Bool.or_false]
      congr 1
      by_cases h2 : q < i
      · rw [decide_eq_true h2, decide_eq_true (by omega)]
      · rw [decide_eq_false h2, decide_eq_false (by omega)]
theorem thb_N (s : Cs) : ∀ i, i ≤ 31 → thb s i = nI (thN s i)
  | 0, _ => rfl
  | i + 1, h => by
    rw [thb, thN, thb_N s i (by omega)]
    cases thr s i
    · show nI (thN s i) ||| nI 0 = _
      rw [nx_or]; rfl
    · show nI (thN s i) ||| (1 : Int32) <<< (nI i &&& 31) = _
      rw [nI_shl i (by omega), nx_or]; rfl
theorem h_away : ∀ m, m ≤ 7 → ∀ t, t < 2 ^ m → ((1 : Int32) <<< (nI m &&& 31) - 1) &&& (nI t ^^^ (-1)) = nI (2 ^ m - (t + 1)) := by decide +kernel
theorem low7_7 : ∀ x, x < 128 → (low7 x = 7 ↔ x = 0) := by decide +kernel
theorem low7_of {s : Cs} {m : Nat} : low7 (2 ^ m - (thN s m + 1)) = ofN s m := by
  have g : ∀ i, (2 ^ m - (thN s m + 1)).testBit i = (decide (i < m) && !thr s i) := fun i => by
    rw [Nat.testBit_two_pow_sub_succ (thN_lt s m), thN_bit]
    by_cases e : i < m
    · simp [e]
    · simp [e]
  unfold low7 ofN
  simp only [g]
/-- so many steps later, nobody going -/
def tk (s : Cs) (j : Nat) : Cs := (s.1, s.2.1, s.2.2.1, s.2.2.2.1, s.2.2.2.2.1 + j, s.2.2.2.2.2)
def gms (K : Nat → Nat) (m : Nat) (s : Cs) : Nat := gm s.1 (wvs K s) (bt s.2.2.2.1) m
theorem tk_tk (s : Cs) (a b : Nat) : tk (tk s a) b = tk s (a + b) := by
  unfold tk
  simp only [Nat.add_assoc]
theorem gms_goes {K : Nat → Nat} {m : Nat} {s : Cs} (h : gms K m s = 0) {i : Nat} (hi : i < m) : goes s.1 (wvs K s) (bt s.2.2.2.1) i = false := by
  have e := gm_bit s.1 (wvs K s) (bt s.2.2.2.1) i m
  unfold gms at h
  rw [h, Nat.zero_testBit, decide_eq_true hi, Bool.true_and] at e
  exact e.symm
theorem cnt_0 {C v : Nat → Nat} {B : Nat → Bool} : ∀ {m : Nat}, (∀ i, i < m → goes C v B i = false) → cnt C v B m = 0
  | 0, _ => rfl
  | m + 1, h => by rw [cnt, cnt_0 (fun i hi => h i (by omega)), h m (Nat.lt_succ_self m)]; rfl
theorem stp_still {K : Nat → Nat} {m : Nat} {s : Cs} (h : gms K m s = 0) : stp K m s = tk s 1 := by
  have g := fun i (hi : i < m) => gms_goes h hi
  unfold stp tk
  have e1 : (fun i => if i < m then C1 s.1 (wvs K s) (bt s.2.2.2.1) i else s.1 i) = s.1 := by
    funext i
    split
    · next hi => unfold C1; rw [g i hi]; rfl
    · rfl
  have e2 : (fun i => if i < m then W1 s.1 s.2.2.1 (wvs K s) (bt s.2.2.2.1) i else s.2.2.1 i) = s.2.2.1 := by
    funext i
    split
    · next hi => unfold W1; rw [g i hi]; rfl
    · rfl
  rw [e1, e2, cnt_0 g]
  rfl
theorem wish_6 (k c g w t : Nat) (B : Nat → Bool) : wish k c g w (t + 6) B = wish k c g w t B := by
  unfold wish
  rw [show (t + 6) % 2 = t % 2 by omega, show (t + 6) % 3 = t % 3 by omega]
theorem gms_6 (K : Nat → Nat) (m : Nat) (s : Cs) (j : Nat) : gms K m (tk s (j + 6)) = gms K m (tk s j) := by
  have e : wvs K (tk s (j + 6)) = wvs K (tk s j) := by
    funext i
    exact wish_6 (K i) (s.1 i) (s.2.1 i) (s.2.2.1 i) (s.2.2.2.2.1 + j) (bt s.2.2.2.1)
  unfold gms
  rw [e]
  rfl
theorem gms_all {K : Nat → Nat} {m : Nat} {s : Cs} (h : ∀ j, j < 6 → gms K m (tk s j) = 0) (j : Nat) : gms K m (tk s j) = 0 := by
  induction j using Nat.strongRecOn with
  | ind j ih =>
    by_cases e : j < 6
    · exact h j e
    · have := gms_6 K m s (j - 6)
      rw [show j - 6 + 6 = j by omega] at this
      rw [this]
      exact ih (j - 6) (by omega)
/-- steps till all are there, who was last away -/
def alr (K : Nat → Nat) (m : Nat) : Nat → Cs → Nat → Nat → Option (Nat × Nat)
  | 0, _, _, _ => none
  | r + 1, s, t, o => if ofN s m = 7 then some (t, o) else alr K m r (stp K m s) (t + 1) (ofN s m)
theorem alr_still {K : Nat → Nat} {m : Nat} {s : Cs} (h : ∀ j, gms K m (tk s j) = 0) (ho : ofN s m ≠ 7) : ∀ r j t o, alr K m r (tk s j) t o = none
  | 0, _, _, _ => rfl
  | r + 1, j, t, o => by
    rw [alr, if_neg (show ofN (tk s j) m ≠ 7 from ho), stp_still (h j), tk_tk]
    exact alr_still h ho r (j + 1) (t + 1) _
def alV (y : Int32) : Option (Nat × Nat) → Int32
  | none => y
  | some (t, _) => nI t
section
variable {n d : Nat} {I I' : zi} {L L' : zl} {Q : zq} {K K' : Nat → Nat} {s s' s0 : Cs} {k m q i a b l : Nat}
theorem r_Q_till {o : Option (Nat × Nat)} (hQ : ∀ I', (∀ k j, (k < 19 ∨ 23 < k) → I' k j = I k j) → (∀ t x, o = some (t, x) → I' 19 8 = nI x) → Q (some (.int (alV 61 o))) I' L) :
    ∀ r t q x (s : Cs) I' v3, t + r = 61 → q ≤ 6 → s.2.2.2.2.1 + q ≤ 99 + t → alr K m r (tk s q) t x = o → XC I' L 19 m K (tk s q) → (∀ j, j < q → gms K m (tk s j) = 0) → (0 < q → ofN s m ≠ 7) → I' 19 8 = nI x → (∀ k j, (k < 19 ∨ 23 < k) → I' k j = I k j) → zV n (d + 4) 80 9 [.ref 19, .int (nI q), .int (nI t), v3] [] I' L Q := by
  have hz := Qa_z (k := 19) (Or.inr (Or.inr rfl))
  intro r
  induction r with
  | zero =>
    intro t q x s I' v3 ht hq hs ho hx hg hq0 h8 h2
    have e : t = 61 := by omega
    subst e
    subst ho
    have g : ((60 : Int32) < nI 61) = True := eq_true (by decide)
    simp only [e80_9, e80_10, e80_12, e80_76, e80_78, zpush_some, zpush_none, true_or, or_true, true_and, and_true, ↓reduceIte, zq_ite, zq_itel, g]
    exact hQ I' h2 (fun t x e => by cases e)
  | succ r ih =>
    intro t q x s I' v3 ht hq hs ho hx hg hq0 h8 h2
    have hlt : ((60 : Int32) < nI t) = False := (nI_ltN (a := 60) (by decide) (by omega)).trans (eq_false (by omega))
    by_cases h6 : q = 6
    · subst h6
      rw [alr_still (gms_all hg) (hq0 (by decide))] at ho
      subst ho
      have g : ((6 : Int32) ≤ nI 6) = True := eq_true (by decide)
      simp only [e80_9, e80_10, e80_12, e80_15, e80_16, e80_18, e80_76, e80_78, zpush_some, zpush_none, true_or, or_true, true_and, and_true, ↓reduceIte, zq_ite, zq_itel, hlt, g]
      exact hQ I' h2 (fun t x e => by cases e)
    · have g : ((6 : Int32) ≤ nI q) = False := eq_false (nI_ge (b := 6) (by omega) (by decide))
      have m7 := XC_m7 hx
      have htl := thN_lt (tk s q) m
      have hp : 2 ^ m ≤ 128 := Nat.pow_le_pow_right (n := 2) (by decide) m7
      have hal : 2 ^ m - (thN (tk s q) m + 1) < 128 := by omega
      rw [alr] at ho
      by_cases hof : ofN (tk s q) m = 7
      · rw [if_pos hof] at ho
        have e0 : (nI (2 ^ m - (thN (tk s q) m + 1)) = 0) = True := by
          rw [nI_z (by omega)]
          exact eq_true ((low7_7 _ hal).mp (low7_of.trans hof))
        simp only [e80_9, e80_10, e80_12, e80_15, e80_16, e80_18, e80_21, e80_22, e80_23, e80_26, e80_27, e80_28, e80_29, e80_30, e80_33, e80_34, e80_35, e80_36, e80_36a, e80_37, e80_38, e80_41, e80_42, zpush_some, zpush_none, true_or, or_true, true_and, and_true, ↓reduceIte, zq_ite, zq_itel, hlt, g, zo_19, XC_m hx, s_Q_thereBits hz hx, thb_N _ m (by omega), h_away m m7 _ htl, e0, not_true_eq_false]
        subst ho
        exact hQ I' h2 (fun t' x' e => by cases e; exact h8)
      · rw [if_neg hof] at ho
        have e0 : (nI (2 ^ m - (thN (tk s q) m + 1)) = 0) = False := by
          rw [nI_z (by omega)]
          exact eq_false (fun e => hof (low7_of.symm.trans ((low7_7 _ hal).mpr e)))
        have ol : wx7 (ofN (tk s q) m) = nI (ofN (tk s q) m) := if_pos (by have := ofN_le (tk s q) m; omega)
        simp only [e80_9, e80_10, e80_12, e80_15, e80_16, e80_18, e80_21, e80_22, e80_23, e80_26, e80_27, e80_28, e80_29, e80_30, e80_33, e80_34, e80_35, e80_36, e80_36a, e80_37, e80_38, e80_41, e80_42, e80_43, e80_44, e80_45, e80_48, e80_51, e80_52, zpush_some, zpush_none, true_or, or_true, true_and, and_true, ↓reduceIte, zq_ite, zq_itel, hlt, g, zo_19, XC_m hx, s_Q_thereBits hz hx, thb_N _ m (by omega), h_away m m7 _ htl, e0, not_false_eq_true, s_Q_lowestBit7 hal, low7_of, ol]
        refine t_Q_advance hz (XC_eq hx (fun k' j _ _ hj => ?_) rfl) (by show s.2.2.2.2.1 + q < _; omega) (fun I2 x1 x2 x3 => ?_)
        · by_cases e : k' = 19
          · subst e; exact zup_nj (by omega)
          · exact zup_ne e
        have hI2 : ∀ k j, (k < 19 ∨ 23 < k) → I2 k j = I k j := fun k j hk => by
          rw [x2 k j (by omega) (by omega) (Or.inl (by omega)), zup_ne (by omega)]; exact h2 k j hk
        have h82 : I2 19 8 = nI (ofN (tk s q) m) := by rw [x2 19 8 (by decide) (by decide) (by decide), zup_eq]
        have gl : gms K m (tk s q) < 128 := Nat.lt_of_lt_of_le (gm_lt _ _ _ m) hp
        by_cases hg0 : gms K m (tk s q) = 0
        · have e9 : (I2 19 9 = 0) = True := eq_true (by rw [x3]; show nI (gms K m (tk s q)) = 0; rw [hg0]; rfl)
          rw [stp_still hg0, tk_tk] at ho x1
          simp only [e80_55, e80_56, e80_59, e80_62, e80_63, e80_64, e80_65, e80_68, e80_69, zpush_some, zpush_none, true_or, or_true, true_and, and_true, ↓reduceIte, zq_ite, zq_itel, zo_19, e9, not_true_eq_false, nI_1]
          simp only [e80_70, e80_70a, e80_73, zpush_some, zpush_none, true_or, or_true, true_and, and_true, ↓reduceIte, zq_ite, zq_itel, nI_1]
          refine ih (t + 1) (q + 1) _ s I2 _ (by omega) (by omega) (by omega) ho x1 (fun j hj => ?_) (fun _ => hof) h82 hI2
          by_cases e : j = q
          · subst e; exact hg0
          · exact hg j (by omega)
        · have e9 : (I2 19 9 = 0) = False := by
            rw [x3]
            show (nI (gms K m (tk s q)) = 0) = False
            rw [nI_z (by omega)]; exact eq_false hg0
          simp only [e80_55, e80_56, e80_59, e80_62, e80_63, e80_64, e80_65, e80_68, e80_69, zpush_some, zpush_none, true_or, or_true, true_and, and_true, ↓reduceIte, zq_ite, zq_itel, zo_19, e9, not_false_eq_true]
          simp only [e80_70, e80_70a, e80_73, zpush_some, zpush_none, true_or, or_true, true_and, and_true, ↓reduceIte, zq_ite, zq_itel, nI_1]
          exact ih (t + 1) 0 _ (stp K m (tk s q)) I2 _ (by omega) (by omega) (by show s.2.2.2.2.1 + q + 1 + 0 ≤ _; omega) ho x1 (fun j hj => absurd hj (Nat.not_lt_zero j)) (fun e => absurd e (by decide)) h82 hI2
theorem t_Q_till (hx : XC I L 19 m K s) (hs : s.2.2.2.2.1 ≤ 99) (hQ : ∀ I', (∀ k j, (k < 19 ∨ 23 < k) → I' k j = I k j) → (∀ t x, alr K m 61 s 0 0 = some (t, x) → I' 19 8 = nI x) → Q (some (.int (alV 61 (alr K m 61 s 0 0)))) I' L) : zV n (d + 4) 80 0 [.ref 19, .null, .null, .null] [] I L Q := by
  simp only [e80_0, e80_1, e80_2, e80_5, e80_6, e80_7, e80_8, e80_8a, zpush_some, zpush_none, true_or, or_true, true_and, and_true, ↓reduceIte, zq_ite, zq_itel, zo_19]
  refine r_Q_till (I := zup I 19 8 0) (o := alr K m 61 s 0 0) (fun I' h1 h2 => hQ I' (fun k j hk => by rw [h1 k j hk, zup_ne (by omega)]) h2) 61 0 0 0 s _ _ rfl (by decide) (by omega) rfl (XC_eq hx (fun k' j _ _ hj => ?_) rfl) (fun j hj => absurd hj (Nat.not_lt_zero j)) (fun e => absurd e (by decide)) zup_eq (fun _ _ _ => rfl)
  by_cases e : k' = 19
  · subst e; exact zup_nj (by omega)
  · exact zup_ne e
theorem l_M_offOnes (hx : MC I 75 m s) (hm1 : I 62 14 = nI m) (hm : m ≤ 7) : ∀ r i, i + r = m → (∀ j, j < i → thr s j = true) → (zV n (d + 1) 178 2 [.ref 62, .int (nI i)] [] I L Q ↔ Q (some (.int (if ofN s m = 7 then -9 else nI (ofN s m)))) I L) := by
  intro r
  induction r with
  | zero =>
    intro i hi h
    have e : i = m := by omega
    subst e
    rw [if_pos (ofN_7 h)]
    simp only [e178_2, e178_3, e178_4, e178_7, e178_29, e178_31, zpush_some, zpush_none, true_or, or_true, true_and, and_true, ↓reduceIte, zq_ite, zq_itel, zo_62, hm1, Int32.le_refl]
  | succ r ih =>
    intro i hi h
    have hlt : (nI m ≤ nI i) = False := eq_false (nI_ge (by omega) (by omega))
    cases ht : thr s i
    · have e := ofN_eq hm (show i < m by omega) h ht
      rw [e, if_neg (by omega)]
      simp only [e178_2, e178_3, e178_4, e178_7, e178_10, e178_11, e178_14, e178_15, e178_18, e178_21, e178_22, zpush_some, zpush_none, true_or, or_true, true_and, and_true, ↓reduceIte, zq_ite, zq_itel, zo_62, hm1, hlt, zr_62_22, zn_75, s_M_isThere hx Ma_75 hm (show i < m by omega), ht, zb_f, not_true_eq_false]
    · simp only [e178_2, e178_3, e178_4, e178_7, e178_10, e178_11, e178_14, e178_15, e178_18, e178_21, e178_22, zpush_some, zpush_none, true_or, or_true, true_and, and_true, ↓reduceIte, zq_ite, zq_itel, zo_62, hm1, hlt, zr_62_22, zn_75, s_M_isThere hx Ma_75 hm (show i < m by omega), ht, zb_t, zz_1, not_false_eq_true]
      simp only [e178_23, e178_26, nI_1]
      refine ih (i + 1) (by omega) (fun j hj => ?_)
      by_cases e : j = i
      · subst e; exact ht
      · exact h j (by omega)
theorem s_M_offOnes (hx : MC I 75 m s) (hm1 : I 62 14 = nI m) (hm : m ≤ 7) : zV n (d + 1) 178 0 [.ref 62, .null] [] I L Q ↔ Q (some (.int (if ofN s m = 7 then -9 else nI (ofN s m)))) I L := by
  simp only [e178_0, e178_1, zpush_some, zpush_none, true_or, or_true, true_and, and_true, ↓reduceIte, zq_ite, zq_itel]
  exact l_M_offOnes hx hm1 hm m 0 (by omega) (fun j hj => absurd hj (Nat.not_lt_zero j))
theorem r_M_allOf {o : Option (Nat × Nat)} (hm : m ≤ 7) (hK : MK I m K) (hQ : ∀ I', (∀ k j, k ≠ 75 → k ≠ 76 → k ≠ 77 → (k ≠ 62 ∨ j ≠ 30) → I' k j = I k j) → (∀ t x, o = some (t, x) → I' 62 30 = nI x) → Q (some (.int (alV (-9) o))) I' L) :
    ∀ r t x (s : Cs) I' v2, t + r = 61 → s.2.2.2.2.1 ≤ 99 + t → alr K m r s t x = o → MC I' 75 m s → I' 62 30 = nI x → (∀ k j, k ≠ 75 → k ≠ 76 → k ≠ 77 → (k ≠ 62 ∨ j ≠ 30) → I' k j = I k j) → zV n (d + 5) 177 7 [.ref 62, .int (nI t), v2] [] I' L Q := by
  intro r
  induction r with
  | zero =>
    intro t x s I' v2 ht hs ho hx h8 h2
    have e : t = 61 := by omega
    subst e
    subst ho
    have g : ((60 : Int32) < nI 61) = True := eq_true (by decide)
    simp only [e177_7, e177_8, e177_10, e177_46, e177_48, zpush_some, zpush_none, true_or, or_true, true_and, and_true, ↓reduceIte, zq_ite, zq_itel, g]
    exact hQ I' h2 (fun t x e => by cases e)
  | succ r ih =>
    intro t x s I' v2 ht hs ho hx h8 h2
    have hlt : ((60 : Int32) < nI t) = False := (nI_ltN (a := 60) (by decide) (by omega)).trans (eq_false (by omega))
    have hm1 : I' 62 14 = nI m := by rw [h2 62 14 (by decide) (by decide) (by decide) (by decide)]; exact MK_m hK
    rw [alr] at ho
    by_cases hof : ofN s m = 7
    · rw [if_pos hof] at ho
      simp only [e177_7, e177_8, e177_10, e177_13, e177_14, e177_17, e177_17a, e177_18, e177_19, e177_21, e177_24, e177_25, zpush_some, zpush_none, true_or, or_true, true_and, and_true, ↓reduceIte, zq_ite, zq_itel, hlt, zo_62, s_M_offOnes hx hm1 hm, hof, not_true_eq_false]
      subst ho
      exact hQ I' h2 (fun t' x' e => by cases e; exact h8)
    · rw [if_neg hof] at ho
      have hof' : (ofN s m = 7) = False := eq_false hof
      have ne9 : (nI (ofN s m) = -9) = False := eq_false ((by decide +kernel : ∀ w, w ≤ 7 → ¬ nI w = -9) _ (ofN_le s m))
      simp only [e177_7, e177_8, e177_10, e177_13, e177_14, e177_17, e177_17a, e177_18, e177_19, e177_21, e177_24, e177_25, e177_26, e177_27, e177_28, e177_31, e177_32, e177_33, e177_36, zpush_some, zpush_none, true_or, or_true, true_and, and_true, ↓reduceIte, zq_ite, zq_itel, hlt, zo_62, s_M_offOnes hx hm1 hm, hof', ne9, not_false_eq_true, zr_62_22, zn_75]
      have hK' : MK (zup I' 62 30 (nI (ofN s m))) m K := by
        obtain ⟨K', e, k1, k2, k3⟩ := hK
        exact ⟨K', e, by rw [zup_nj (by decide)]; exact hm1, k2, fun i hi => by rw [zup_ne (by decide), h2 69 i (by decide) (by decide) (by decide) (by omega)]; exact k3 i hi⟩
      refine t_M_steps (MC_eq hx (fun j => zup_ne (by decide))) hK' Ma_75 (by decide) (by omega) (fun I2 x1 x2 x3 => ?_)
      simp only [e177_36, e177_39, e177_40, e177_43, zpush_some, zpush_none, true_or, or_true, true_and, and_true, ↓reduceIte, zq_ite, zq_itel, nI_1]
      refine ih (t + 1) _ _ I2 _ (by omega) (by show s.2.2.2.2.1 + 1 ≤ _; omega) ho x1 (by rw [x2 62 30 (by decide) (by decide) (by decide), zup_eq]) (fun k j a b c e => ?_)
      rw [x2 k j a b c]
      have : zup I' 62 30 (nI (ofN s m)) k j = I' k j := by
        rcases e with e | e
        · exact zup_ne e
        · exact zup_nj e
      rw [this]
      exact h2 k j a b c e
theorem t_M_allOf (hm : m ≤ 7) (hK : MK I m K) (hx : MC I 75 m s) (hs : s.2.2.2.2.1 ≤ 99) (hQ : ∀ I', (∀ k j, k ≠ 75 → k ≠ 76 → k ≠ 77 → (k ≠ 62 ∨ j ≠ 30) → I' k j = I k j) → (∀ t x, alr K m 61 s 0 0 = some (t, x) → I' 62 30 = nI x) → Q (some (.int (alV (-9) (alr K m 61 s 0 0)))) I' L) : zV n (d + 5) 177 0 [.ref 62, .null, .null] [] I L Q := by
  simp only [e177_0, e177_1, e177_2, e177_5, e177_6, zpush_some, zpush_none, true_or, or_true, true_and, and_true, ↓reduceIte, zq_ite, zq_itel, zo_62]
  have hK' : MK (zup I 62 30 0) m K := by
    obtain ⟨K', e, k1, k2, k3⟩ := hK
    exact ⟨K', e, by rw [zup_nj (by decide)]; exact k1, k2, fun i hi => by rw [zup_ne (by decide)]; exact k3 i hi⟩
  refine r_M_allOf (I := zup I 62 30 0) (o := alr K m 61 s 0 0) hm hK' (fun I' h1 h2 => hQ I' (fun k j a b c e => ?_) h2) 61 0 0 s _ _ rfl (by omega) rfl (MC_eq hx (fun j => zup_ne (by decide))) zup_eq (fun _ _ _ _ _ _ => rfl)
  rw [h1 k j a b c e]
  rcases e with e | e
  · exact zup_ne e
  · exact zup_nj e
theorem alr_t : ∀ {r : Nat} {s : Cs} {t o : Nat} {t' o' : Nat}, alr K m r s t o = some (t', o') → t' < t + r
  | 0, _, _, _, _, _, h => by cases h
  | r + 1, s, t, o, t', o', h => by
    rw [alr] at h
    split at h
    · cases h; omega
    · have := alr_t h
      omega
theorem p_all (h : Inv I L) : zV n (d + 6) 79 0 [.ref 3, .null] [] I L (fun v1 I1 L1 => zV n (d + 6) 176 0 [.ref 62, .null] [] I1 L1 (fun v2 I2 L2 => same v1 v2 ∧ Inv I2 L2)) := by
  obtain ⟨m, K, s, hm, hok, ht, hX, hM, hK⟩ := h.view
  have hz := Qa_z (k := 14) (Or.inr (Or.inl rfl))
  have hz2 := Qa_z (k := 19) (Or.inr (Or.inr rfl))
  by_cases hm0 : m = 0
  · have e0 : (nI m = 0) = True := by rw [nI_z (by omega)]; exact eq_true hm0
    simp only [e79_0, e79_1, e79_4, e79_7, e79_10, e79_12, e79_13, e79_14, e79_17, e79_18, e79_21, e79_24, e79_25, e79_28, e79_31, e79_32, e79_33, e79_35, e79_38, e79_40, e79_43, e79_44, e79_45, e79_46, e79_49, e79_52, e79_55, e176_0, e176_1, e176_4, e176_7, e176_9, e176_10, e176_11, e176_14, e176_15, e176_18, e176_19, e176_20, e176_22, e176_25, e176_26, e176_27, e176_30, e176_33, e176_34, e176_35, zpush_some, zpush_none, true_or, or_true, true_and, and_true, ↓reduceIte, zq_ite, zq_itel, zo_3, zr_3_5, zo_14, zo_62, XC_m hX, MK_m hK, e0, not_true_eq_false]
    exact ⟨same_i, h⟩
  · have e0 : (nI m = 0) = False := by rw [nI_z (by omega)]; exact eq_false hm0
    simp only [e79_0, e79_1, e79_4, e79_7, e79_10, e79_12, e79_13, e79_14, e79_17, e79_18, e79_21, zpush_some, zpush_none, true_or, or_true, true_and, and_true, ↓reduceIte, zq_ite, zq_itel, zo_3, zr_3_5, zr_3_6, zo_14, zo_19, XC_m hX, e0, not_false_eq_true]
    refine t_Q_take hz2 hz (by decide) hX (fun I1 L1 x1 x2 x3 => ?_)
    simp only [e79_21, e79_24, e79_25, e79_28, zpush_some, zpush_none, true_or, or_true, true_and, and_true, ↓reduceIte, zq_ite, zq_itel, zo_3, zr_3_6, zo_19]
    refine t_Q_till x1 ht (fun I2 y1 y2 => ?_)
    have hI2 : ∀ k j, (k < 19 ∨ 23 < k) → I2 k j = I k j := fun k j hk => by rw [y1 k j hk, x2 k j (by omega)]
    cases ho : alr K m 61 s 0 0 with
    | none =>
      have hK2 : MK I2 m K := MK_eq hK (fun j => hI2 _ _ (by decide)) (fun j => hI2 _ _ (by decide))
      simp only [e79_28, e79_31, e79_32, e79_33, e79_35, e79_38, e79_40, e79_43, e79_44, e79_45, e79_46, e79_49, e79_52, e79_55, e176_0, e176_1, e176_4, e176_7, e176_9, e176_10, e176_11, zpush_some, zpush_none, true_or, or_true, true_and, and_true, ↓reduceIte, zq_ite, zq_itel, alV, not_true_eq_false, not_false_eq_true, zo_62, MK_m hK2, e0]
      refine s_M_begin (MC_eq hM (fun j => hI2 _ _ (by decide))) (fun I3 w1 w2 w3 => ?_)
      simp only [e176_11, e176_14, e176_15, zpush_some, zpush_none, true_or, or_true, true_and, and_true, ↓reduceIte, zq_ite, zq_itel, zo_62]
      refine t_M_allOf hm (MK_eq hK2 (fun j => w2 _ _ (by decide) (by decide)) (fun j => w2 _ _ (by decide) (by decide))) w1 ht (fun I4 v1 v2 => ?_)
      simp only [e176_15, e176_18, e176_19, e176_20, e176_22, e176_25, e176_26, e176_27, e176_30, e176_33, e176_34, e176_35, zpush_some, zpush_none, true_or, or_true, true_and, and_true, ↓reduceIte, zq_ite, zq_itel, ho, alV]
      refine ⟨same_i, inv_told h ?_ (fun k j hk => ?_) (fun k j hk => x3 k j (by omega))⟩
      · rw [v1 3 12 (by decide) (by decide) (by decide) (by decide), v1 62 6 (by decide) (by decide) (by decide) (by decide), w2 _ _ (by decide) (by decide), w2 _ _ (by decide) (by decide), hI2 _ _ (by decide), hI2 _ _ (by decide)]
        exact h.1.2.2.1
      · unfold cubeCell at hk
        rw [v1 k j (by omega) (by omega) (by omega) (by omega), w2 k j (by omega) (by omega), hI2 k j (by omega)]
    | some o =>
      obtain ⟨t, x⟩ := o
      have htl := alr_t ho
      have n61 : (nI t = 61) = False := (nI_eqN (b := 61) (by omega) (by decide)).trans (eq_false (by omega))
      have n9 : (nI t = -9) = False := eq_false ((by decide +kernel : ∀ w, w < 61 → ¬ nI w = -9) _ (by omega))
      have hK2 : ∀ {v : Int32}, MK (zup I2 3 12 v) m K := fun {v} => MK_eq hK (fun j => by rw [zup_ne (by decide), hI2 _ _ (by decide)]) (fun j => by rw [zup_ne (by decide), hI2 _ _ (by decide)])
      simp only [e79_28, e79_31, e79_32, e79_33, e79_35, e79_38, e79_40, e79_43, e79_44, e79_45, e79_46, e79_49, e79_52, e79_55, e176_0, e176_1, e176_4, e176_7, e176_9, e176_10, e176_11, zpush_some, zpush_none, true_or, or_true, true_and, and_true, ↓reduceIte, zq_ite, zq_itel, alV, n61, not_false_eq_true, zo_3, zr_3_6, zo_19, y2 t x ho, s_X_tell, zo_62, MK_m hK2, e0]
      refine s_M_begin (MC_eq hM (fun j => by rw [zup_ne (by decide), hI2 _ _ (by decide)])) (fun I3 w1 w2 w3 => ?_)
      simp only [e176_11, e176_14, e176_15, zpush_some, zpush_none, true_or, or_true, true_and, and_true, ↓reduceIte, zq_ite, zq_itel, zo_62]
      refine t_M_allOf hm (MK_eq hK2 (fun j => w2 _ _ (by decide) (by decide)) (fun j => w2 _ _ (by decide) (by decide))) w1 ht (fun I4 v1 v2 => ?_)
      simp only [e176_15, e176_18, e176_19, e176_20, e176_22, e176_25, e176_26, e176_27, e176_30, e176_33, e176_34, e176_35, zpush_some, zpush_none, true_or, or_true, true_and, and_true, ↓reduceIte, zq_ite, zq_itel, ho, alV, n9, zo_62, v2 t x ho, s_M_tells]
      refine ⟨same_i, inv_told h ?_ (fun k j hk => ?_) (fun k j hk => x3 k j (by omega))⟩
      · rw [zup_ne (by decide), zup_eq, v1 3 12 (by decide) (by decide) (by decide) (by decide), w2 _ _ (by decide) (by decide), zup_eq]
      · unfold cubeCell at hk
        have e6 : zup I4 62 6 (nI x) k j = I4 k j := by
          by_cases g : k = 62
          · exact zup_nj (by omega)
          · exact zup_ne g
        rw [e6, v1 k j (by omega) (by omega) (by omega) (by omega), w2 k j (by omega) (by omega)]
        by_cases g : k = 3
        · subst g
          rw [zup_nj (by omega), hI2 3 j (by decide)]
        · rw [zup_ne g, hI2 k j (by omega)]
end
