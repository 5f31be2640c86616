/-! TEST -/
theorem bt0 (x : Int32) {l : Nat} (hl : l < 32) : (x >>> (nI l &&& 31) &&& 1 = 0) = (bt x l = false) := by
  rw [← hs_bt x hl]
  unfold hs
  rcases and1 (x >>> (nI l &&& 31)) with e | e
  · rw [e]; decide
  · rw [e]; decide
def sk (K : Nat → Nat) (m : Nat) (s : Cs) (p kd i : Nat) : Nat := (stps (Kk K p kd) m s (i + 1)).1 p
def prt (B : Nat → Bool) (g : Nat → Nat) (c : Nat) : Nat → Nat
  | 0 => 0
  | i + 1 => prt B g c i + (if B i && decide (g i = c) then 1 else 0)
theorem prt_le (B : Nat → Bool) (g : Nat → Nat) (c : Nat) : ∀ i, prt B g c i ≤ i
  | 0 => Nat.le_refl 0
  | i + 1 => by
    rw [prt]
    have := prt_le B g c i
    split <;> omega
def gpt (B : Nat → Bool) (g : Nat → Nat) : Nat → Nat
  | 0 => 0
  | c + 1 => if gpt B g c < prt B g c 6 then prt B g c 6 else gpt B g c
theorem gpt_le (B : Nat → Bool) (g : Nat → Nat) : ∀ c, gpt B g c ≤ 6
  | 0 => Nat.zero_le _
  | c + 1 => by
    rw [gpt]
    split
    · exact prt_le _ _ _ 6
    · exact gpt_le B g c
def bs (g : Nat → Nat) : Nat → Nat × Nat
  | 0 => (0, 7)
  | i + 1 => if g i < (bs g i).2 then (i + 1, g i) else bs g i
theorem bs_le (g : Nat → Nat) (hg : ∀ i, g i ≤ 6) : ∀ i, (bs g i).2 ≤ 7 ∧ (bs g i).1 ≤ i
  | 0 => ⟨Nat.le_refl _, Nat.le_refl _⟩
  | i + 1 => by
    have := bs_le g hg i
    have := hg i
    rw [bs]
    split
    · exact ⟨by show g i ≤ 7; omega, Nat.le_refl _⟩
    · exact ⟨by omega, by omega⟩
theorem bs_pos (g : Nat → Nat) (hg : ∀ i, g i ≤ 6) : ∀ i, 1 ≤ (bs g (i + 1)).1
  | 0 => by
    have h0 : g 0 < (bs g 0).2 := by
      show g 0 < 7
      have := hg 0
      omega
    rw [bs, if_pos h0]
    exact Nat.le_refl _
  | i + 1 => by
    rw [bs]
    split
    · show 1 ≤ i + 1 + 1; omega
    · exact bs_pos g hg i
def bv (x : Nat) : Int32 := if x = 0 then -9 else nI x
theorem look_z : ∀ k, k < 6 → zref 28 k = 29 + k ∧ zint (29 + k) = true ∧ zwr (29 + k) = true ∧ zlen (29 + k) = 20 := by decide +kernel
section
variable {n d : Nat} {I I' : zi} {L L' : zl} {Q : zq} {K K' : Nat → Nat} {s s' s0 : Cs} {k m q i a b l N p j c kd : Nat} {f : Nat → Int32} {x : Int32}
theorem sk_lt (hok : okc m K s) (hp : p < m) (hk : kd < 6) : sk K m s p kd i < 16 := by
  have h : okc m (Kk K p kd) s := fun q hq => by
    obtain ⟨a, b⟩ := hok q hq
    refine ⟨?_, b⟩
    unfold Kk
    split
    · exact hk
    · exact a
  exact (stps_ok h (i + 1) p hp).2.1
theorem l_X_look1 (hp : p < m) (hm : m ≤ 7) (hk : kd < 6) (hs : s.2.2.2.2.1 ≤ 99) (hQ : ∀ I', (∀ k j, (k < 19 ∨ 23 < k) → k ≠ 29 + kd → I' k j = I k j) → (∀ i, i < 20 → I' (29 + kd) i = nI (sk K m s p kd i)) → zV n (d + 4) 101 78 [.ref 3, .int (nI p), .int x, .int (nI kd), .int 20] [] I' L Q) :
    ∀ r i I', i + r = 20 → XC I' L 19 m (Kk K p kd) (stps (Kk K p kd) m s i) → (∀ k j, (k < 19 ∨ 23 < k) → k ≠ 29 + kd → I' k j = I k j) → (∀ j, j < i → I' (29 + kd) j = nI (sk K m s p kd j)) → zV n (d + 4) 101 40 [.ref 3, .int (nI p), .int x, .int (nI kd), .int (nI i)] [] I' L Q := by
  have hz2 := Qa_z (k := 19) (Or.inr (Or.inr rfl))
  obtain ⟨y0, y1, y2, y3⟩ := look_z kd hk
  have zk : zin (nI kd) 6 = true := zin_ok hk (by decide)
  have ck : (nI kd).toNatClampNeg = kd := nI_clamp (by omega)
  have zp : zin (nI p) 7 = true := zin_ok (by omega) (by decide)
  have cp : (nI p).toNatClampNeg = p := nI_clamp (by omega)
  intro r
  induction r with
  | zero =>
    intro i I' hi hx h1 h2
    have e : i = 20 := by omega
    subst e
    simp only [e101_40, e101_42, e101_44, zpush_some, zpush_none, true_or, or_true, true_and, and_true, ↓reduceIte, zq_ite, zq_itel, show nI 20 = (20 : Int32) from rfl, Int32.le_refl]
    exact hQ I' h1 h2
  | succ r ih =>
    intro i I' hi hx h1 h2
    have hlt : ((20 : Int32) ≤ nI i) = False := eq_false (nI_ge (b := 20) (by omega) (by omega))
    have zi7 : zin (nI i) 20 = true := zin_ok (by omega) (by decide)
    have ci : (nI i).toNatClampNeg = i := nI_clamp (by omega)
    simp only [e101_40, e101_42, e101_44, e101_47, e101_48, e101_51, zpush_some, zpush_none, true_or, or_true, true_and, and_true, ↓reduceIte, zq_ite, zq_itel, hlt, zo_3, zr_3_6, zo_19]
    refine t_Q_advance hz2 hx (by rw [stps_t]; omega) (fun I2 x1 x2 x3 => ?_)
    have c1 : I2 21 p = nI (sk K m s p kd i) := (XC_get x1 hp).2.1.1
    simp only [e101_51, e101_54, e101_55, e101_58, e101_59, e101_60, e101_62, e101_63, e101_66, e101_69, e101_70, e101_71, zpush_some, zpush_none, true_or, or_true, true_and, and_true, ↓reduceIte, zq_ite, zq_itel, zo_3, zr_3_6, zr_3_9, zo_19, zn_28, zl_28, zk, ck, y0, y1, y2, y3, zi7, ci, zr_19_1, zn_21, zl_21, zp, cp, c1]
    simp only [e101_72, e101_72a, e101_75, nI_1]
    refine ih (i + 1) _ (by omega) (XC_eq x1 (fun k' j a b _ => zup_ne (by omega)) rfl) (fun k j a b => by rw [zup_ne b, x2 k j (by omega) (by omega) (Or.inl (by omega))]; exact h1 k j a b) (fun j hj => ?_)
    by_cases e : j = i
    · subst e; exact zup_eq
    · rw [zup_nj e, x2 _ j (by omega) (by omega) (Or.inl (by omega))]; exact h2 j (by omega)
theorem l_X_look (hX : XC I L 14 m K s) (hp : p < m) (hs : s.2.2.2.2.1 ≤ 99) (hQ : ∀ I' L', (∀ k j, (k < 19 ∨ 23 < k) → (k < 29 ∨ 34 < k) → I' k j = I k j) → (∀ k j, k ≠ 19 → L' k j = L k j) → (∀ kd, kd < 6 → bt x kd = true → ∀ i, i < 20 → I' (29 + kd) i = nI (sk K m s p kd i)) → Q none I' L') :
    ∀ r kd I' L' v4, kd + r = 6 → (∀ k j, (k < 19 ∨ 23 < k) → (k < 29 ∨ 34 < k) → I' k j = I k j) → (∀ k j, k ≠ 19 → L' k j = L k j) → (∀ k, k < kd → bt x k = true → ∀ i, i < 20 → I' (29 + k) i = nI (sk K m s p k i)) → zV n (d + 4) 101 2 [.ref 3, .int (nI p), .int x, .int (nI kd), v4] [] I' L' Q := by
  have hz := Qa_z (k := 14) (Or.inr (Or.inl rfl))
  have hz2 := Qa_z (k := 19) (Or.inr (Or.inr rfl))
  have m7 := XC_m7 hX
  have zp : zin (nI p) 7 = true := zin_ok (by omega) (by decide)
  have cp : (nI p).toNatClampNeg = p := nI_clamp (by omega)
  intro r
  induction r with
  | zero =>
    intro kd I' L' v4 hk h1 h2 h3
    have e : kd = 6 := by omega
    subst e
    simp only [e101_2, e101_3, e101_5, e101_84, zpush_some, zpush_none, true_or, or_true, true_and, and_true, ↓reduceIte, zq_ite, zq_itel, show nI 6 = (6 : Int32) from rfl, Int32.le_refl]
    exact hQ I' L' h1 h2 h3
  | succ r ih =>
    intro kd I' L' v4 hk h1 h2 h3
    have hlt : ((6 : Int32) ≤ nI kd) = False := eq_false (nI_ge (b := 6) (by omega) (by omega))
    have hX' : XC I' L' 14 m K s := XC_eq hX (fun k' j a b _ => h1 k' j (by omega) (by omega)) (h2 14 5 (by decide))
    have hb0 := bt0 x (show kd < 32 by omega)
    cases hb : bt x kd
    · have hb0 := hb0.trans (eq_true hb)
      simp only [e101_2, e101_3, e101_5, e101_8, e101_9, e101_10, e101_11, e101_12, e101_13, zpush_some, zpush_none, true_or, or_true, true_and, and_true, ↓reduceIte, zq_ite, zq_itel, hlt, hb0]
      simp only [e101_78, e101_81, nI_1]
      refine ih (kd + 1) I' L' v4 (by omega) h1 h2 (fun k hk' hkb => ?_)
      by_cases e : k = kd
      · subst e; rw [hb] at hkb; cases hkb
      · exact h3 k (by omega) hkb
    · have hb0 := hb0.trans (eq_false (by rw [hb]; decide))
      simp only [e101_2, e101_3, e101_5, e101_8, e101_9, e101_10, e101_11, e101_12, e101_13, e101_16, e101_17, e101_20, e101_21, e101_24, zpush_some, zpush_none, true_or, or_true, true_and, and_true, ↓reduceIte, zq_ite, zq_itel, hlt, hb0, zo_3, zr_3_5, zr_3_6, zo_14, zo_19]
      refine t_Q_take hz2 hz (by decide) hX' (fun I1 L1 x1 x2 x3 => ?_)
      simp only [e101_24, e101_27, e101_28, e101_31, e101_34, e101_35, e101_36, e101_37, e101_38, e101_38a, zpush_some, zpush_none, true_or, or_true, true_and, and_true, ↓reduceIte, zq_ite, zq_itel, zo_3, zr_3_6, zo_19, zr_19_0, zn_20, zw_20, zl_20, zp, cp]
      refine l_X_look1 (I := zup I1 20 p (nI kd)) (K := K) (s := s) hp m7 (show kd < 6 by omega) hs (fun I2 y1 y2 => ?_) 20 0 _ rfl (XC_kind x1 hp (by omega)) (fun _ _ _ _ => rfl) (fun j hj => absurd hj (Nat.not_lt_zero j))
      simp only [e101_78, e101_81, nI_1]
      refine ih (kd + 1) I2 L1 _ (by omega) (fun k j a b => ?_) (fun k j a => by rw [x3 k j a, h2 k j a]) (fun k hk' hkb i hi => ?_)
      · rw [y1 k j a (by omega), zup_ne (by omega), x2 k j (by omega)]
        exact h1 k j a b
      · by_cases e : k = kd
        · subst e; exact y2 i hi
        · rw [y1 _ i (by omega) (by omega), zup_ne (by omega), x2 _ i (by omega)]
          exact h3 k (by omega) hkb i hi
theorem l_X_part {g : Nat → Nat} (hg : ∀ k, k < 6 → g k < 16) (hi : i < 20) (hc : c < 16) (hl : ∀ k, k < 6 → bt x k = true → I (29 + k) i = nI (g k)) {G : Int32} : ∀ r kd, kd + r = 6 → (zV n d 102 18 [.ref 3, .int x, .int (nI i), .int G, .int (nI c), .int (nI (prt (bt x) g c kd)), .int (nI kd)] [] I L Q ↔ zV n d 102 64 [.ref 3, .int x, .int (nI i), .int G, .int (nI c), .int (nI (prt (bt x) g c 6)), .int 6] [] I L Q) := by
  have zi7 : zin (nI i) 20 = true := zin_ok (by omega) (by decide)
  have ci : (nI i).toNatClampNeg = i := nI_clamp (by omega)
  intro r
  induction r with
  | zero =>
    intro kd hk
    have e : kd = 6 := by omega
    subst e
    simp only [e102_18, e102_20, e102_22, zpush_some, zpush_none, true_or, or_true, true_and, and_true, ↓reduceIte, zq_ite, zq_itel, show nI 6 = (6 : Int32) from rfl, Int32.le_refl]
  | succ r ih =>
    intro kd hk
    have hlt : ((6 : Int32) ≤ nI kd) = False := eq_false (nI_ge (b := 6) (by omega) (by omega))
    have hb0 := bt0 x (show kd < 32 by omega)
    obtain ⟨y0, y1, y2, y3⟩ := look_z kd (by omega)
    have zk : zin (nI kd) 6 = true := zin_ok (by omega) (by decide)
    have ck : (nI kd).toNatClampNeg = kd := nI_clamp (by omega)
    have e := ih (kd + 1) (by omega)
    rw [prt] at e
    cases hb : bt x kd
    · have hb0 := hb0.trans (eq_true hb)
      rw [hb] at e
      simp only [Bool.false_and, Bool.false_eq_true, if_false, Nat.add_zero] at e
      simp only [e102_18, e102_20, e102_22, e102_25, e102_27, e102_28, e102_30, e102_31, e102_32, e102_33, e102_36, e102_37, e102_40, e102_42, e102_43, e102_44, e102_45, e102_47, e102_50, e102_51, e102_54, e102_55, e102_56, e102_56a, zpush_some, zpush_none, true_or, or_true, true_and, and_true, ↓reduceIte, zq_ite, zq_itel, hlt, hb0, Int32.add_zero]
      simp only [e102_58, e102_58a, e102_61, nI_1]
      exact e
    · have hb0 := hb0.trans (eq_false (by rw [hb]; decide))
      have hl' := hl kd (by omega) hb
      have hgc : (nI (g kd) = nI c) = (g kd = c) := nI_eqN (by have := hg kd (by omega); omega) (by omega)
      rw [hb, Bool.true_and] at e
      by_cases hq : g kd = c
      · rw [decide_eq_true hq, if_pos rfl] at e
        have hgc := hgc.trans (eq_true hq)
        simp only [e102_18, e102_20, e102_22, e102_25, e102_27, e102_28, e102_30, e102_31, e102_32, e102_33, e102_36, e102_37, e102_40, e102_42, e102_43, e102_44, e102_45, e102_47, e102_50, e102_51, e102_54, e102_55, e102_56, e102_56a, zpush_some, zpush_none, true_or, or_true, true_and, and_true, ↓reduceIte, zq_ite, zq_itel, hlt, hb0, zo_3, zr_3_9, zn_28, zl_28, zk, ck, y0, y1, y3, zi7, ci, hl', hgc, not_true_eq_false, nI_1]
        simp only [e102_58, e102_58a, e102_61, nI_1]
        exact e
      · rw [decide_eq_false hq, if_neg Bool.false_ne_true, Nat.add_zero] at e
        have hgc := hgc.trans (eq_false hq)
        simp only [e102_18, e102_20, e102_22, e102_25, e102_27, e102_28, e102_30, e102_31, e102_32, e102_33, e102_36, e102_37, e102_40, e102_42, e102_43, e102_44, e102_45, e102_47, e102_50, e102_51, e102_54, e102_55, e102_56, e102_56a, zpush_some, zpush_none, true_or, or_true, true_and, and_true, ↓reduceIte, zq_ite, zq_itel, hlt, hb0, zo_3, zr_3_9, zn_28, zl_28, zk, ck, y0, y1, y3, zi7, ci, hl', hgc, not_false_eq_true, Int32.add_zero]
        simp only [e102_58, e102_58a, e102_61, nI_1]
        exact e
theorem l_X_great {g : Nat → Nat} (hg : ∀ k, k < 6 → g k < 16) (hi : i < 20) (hl : ∀ k, k < 6 → bt x k = true → I (29 + k) i = nI (g k)) : ∀ r c v5 v6, c + r = 16 → (zV n d 102 5 [.ref 3, .int x, .int (nI i), .int (nI (gpt (bt x) g c)), .int (nI c), v5, v6] [] I L Q ↔ Q (some (.int (nI (gpt (bt x) g 16)))) I L) := by
  intro r
  induction r with
  | zero =>
    intro c v5 v6 hc
    have e : c = 16 := by omega
    subst e
    simp only [e102_5, e102_7, e102_9, e102_77, e102_78, zpush_some, zpush_none, true_or, or_true, true_and, and_true, ↓reduceIte, zq_ite, zq_itel, show nI 16 = (16 : Int32) from rfl, Int32.le_refl]
  | succ r ih =>
    intro c v5 v6 hc
    have hlt : ((16 : Int32) ≤ nI c) = False := eq_false (nI_ge (b := 16) (by omega) (by omega))
    have e := ih (c + 1) (.int (nI (prt (bt x) g c 6))) (.int 6) (by omega)
    rw [gpt] at e
    have R := l_X_part (n := n) (d := d) (L := L) (Q := Q) (G := nI (gpt (bt x) g c)) hg hi (show c < 16 by omega) hl 6 0 rfl
    simp only [e102_5, e102_7, e102_9, e102_12, e102_13, e102_13a, e102_15, e102_16, e102_16a, zpush_some, zpush_none, true_or, or_true, true_and, and_true, ↓reduceIte, zq_ite, zq_itel, hlt]
    refine R.trans ?_
    have hgl := gpt_le (bt x) g c
    have hpl := prt_le (bt x) g c 6
    have hmx : (nI (gpt (bt x) g c) < nI (prt (bt x) g c 6)) = (gpt (bt x) g c < prt (bt x) g c 6) := nI_ltN (by omega) (by omega)
    by_cases hq : gpt (bt x) g c < prt (bt x) g c 6
    · rw [if_pos hq] at e
      have hmx := hmx.trans (eq_true hq)
      simp only [e102_64, e102_65, e102_67, e102_70, zpush_some, zpush_none, true_or, or_true, true_and, and_true, ↓reduceIte, zq_ite, zq_itel, hmx]
      simp only [e102_71, e102_71a, e102_74, nI_1]
      exact e
    · rw [if_neg hq] at e
      have hmx := hmx.trans (eq_false hq)
      simp only [e102_64, e102_65, e102_67, e102_70, zpush_some, zpush_none, true_or, or_true, true_and, and_true, ↓reduceIte, zq_ite, zq_itel, hmx]
      simp only [e102_71, e102_71a, e102_74, nI_1]
      exact e
theorem s_X_great {g : Nat → Nat} (hg : ∀ k, k < 6 → g k < 16) (hi : i < 20) (hl : ∀ k, k < 6 → bt x k = true → I (29 + k) i = nI (g k)) : zV n d 102 0 [.ref 3, .int x, .int (nI i), .null, .null, .null, .null] [] I L Q ↔ Q (some (.int (nI (gpt (bt x) g 16)))) I L := by
  simp only [e102_0, e102_1, e102_2, e102_3, e102_3a, zpush_some, zpush_none, true_or, or_true, true_and, and_true, ↓reduceIte, zq_ite, zq_itel]
  exact l_X_great hg hi hl 16 0 _ _ rfl
theorem l_M_lay1 (hp : p < m) (hm : m ≤ 7) (hk : kd < 6) (hs : s.2.2.2.2.1 ≤ 99) (hK : MK I m (Kk K p kd)) (hQ : ∀ I', (∀ k j, k ≠ 75 → k ≠ 76 → k ≠ 77 → (k ≠ 82 ∨ j < 20 * kd ∨ 20 * kd + 20 ≤ j) → I' k j = I k j) → (∀ i, i < 20 → I' 82 (20 * kd + i) = nI (sk K m s p kd i)) → zV n (d + 5) 192 70 [.ref 62, .int (nI p), .int x, .int (nI kd), .int 20] [] I' L Q) :
    ∀ r i I', i + r = 20 → MC I' 75 m (stps (Kk K p kd) m s i) → (∀ k j, k ≠ 75 → k ≠ 76 → k ≠ 77 → (k ≠ 82 ∨ j < 20 * kd ∨ 20 * kd + 20 ≤ j) → I' k j = I k j) → (∀ j, j < i → I' 82 (20 * kd + j) = nI (sk K m s p kd j)) → zV n (d + 5) 192 28 [.ref 62, .int (nI p), .int x, .int (nI kd), .int (nI i)] [] I' L Q := by
  have z3 : zin (nI (3 + p)) 24 = true := zin_ok (by omega) (by decide)
  have y3 : (nI (3 + p)).toNatClampNeg = 3 + p := nI_clamp (by omega)
  have m20 : ∀ i, (20 : Int32) * nI kd + nI i = nI (20 * kd + i) := fun i => by rw [show (20 : Int32) = nI 20 from rfl, pk_mul, nI_add]
  intro r
  induction r with
  | zero =>
    intro i I' hi hx h1 h2
    have e : i = 20 := by omega
    subst e
    simp only [e192_28, e192_30, e192_32, zpush_some, zpush_none, true_or, or_true, true_and, and_true, ↓reduceIte, zq_ite, zq_itel, show nI 20 = (20 : Int32) from rfl, Int32.le_refl]
    exact hQ I' h1 h2
  | succ r ih =>
    intro i I' hi hx h1 h2
    have hlt : ((20 : Int32) ≤ nI i) = False := eq_false (nI_ge (b := 20) (by omega) (by omega))
    have zi7 : zin (nI (20 * kd + i)) 120 = true := zin_ok (by omega) (by decide)
    have ci : (nI (20 * kd + i)).toNatClampNeg = 20 * kd + i := nI_clamp (by omega)
    simp only [e192_28, e192_30, e192_32, e192_35, e192_36, e192_37, e192_40, zpush_some, zpush_none, true_or, or_true, true_and, and_true, ↓reduceIte, zq_ite, zq_itel, hlt, zo_62, zr_62_22, zn_75]
    refine t_M_steps hx (MK_eq hK (fun j => h1 _ _ (by decide) (by decide) (by decide) (by omega)) (fun j => h1 _ _ (by decide) (by decide) (by decide) (by omega))) Ma_75 (by decide) (by rw [stps_t]; omega) (fun I2 x1 x2 x3 => ?_)
    have c1 : I2 75 (3 + p) = nI (sk K m s p kd i) := (MC_get x1 hm hp).1.1
    simp only [e192_40, e192_43, e192_44, e192_45, e192_48, e192_50, e192_51, e192_52, e192_54, e192_55, e192_56, e192_59, e192_60, e192_61, e192_62, e192_63, zpush_some, zpush_none, true_or, or_true, true_and, and_true, ↓reduceIte, zq_ite, zq_itel, zo_62, zr_62_22, zr_62_29, zn_75, zl_75, zn_82, zw_82, zl_82, i_3, z3, y3, c1, m20, zi7, ci]
    simp only [e192_64, e192_64a, e192_67, nI_1]
    refine ih (i + 1) _ (by omega) (MC_eq x1 (fun j => zup_ne (by decide))) (fun k j a b c e => ?_) (fun j hj => ?_)
    · have : zup I2 82 (20 * kd + i) (nI (sk K m s p kd i)) k j = I2 k j := by
        by_cases g : k = 82
        · exact zup_nj (by omega)
        · exact zup_ne g
      rw [this, x2 k j a b c]
      exact h1 k j a b c e
    · by_cases e : j = i
      · subst e; exact zup_eq
      · rw [zup_nj (by omega), x2 82 _ (by decide) (by decide) (by decide)]
        exact h2 j (by omega)
theorem l_M_lay (hM : MC I 70 m s) (hK : MK I m K) (hm : m ≤ 7) (hp : p < m) (hs : s.2.2.2.2.1 ≤ 99) (hQ : ∀ I', (∀ k j, k ≠ 75 → k ≠ 76 → k ≠ 77 → k ≠ 82 → I' k j = I k j) → (∀ kd, kd < 6 → ∀ i, i < 20 → I' 82 (20 * kd + i) = nI (sk K m s p kd i)) → Q none I' L) :
    ∀ r kd I' v4, kd + r = 6 → (∀ k j, k ≠ 75 → k ≠ 76 → k ≠ 77 → k ≠ 82 → (k ≠ 69 ∨ j ≠ p) → I' k j = I k j) → (∀ k, k < kd → ∀ i, i < 20 → I' 82 (20 * k + i) = nI (sk K m s p k i)) → zV n (d + 5) 192 9 [.ref 62, .int (nI p), .int (I 69 p), .int (nI kd), v4] [] I' L Q := by
  have zp : zin (nI p) 7 = true := zin_ok (by omega) (by decide)
  have cp : (nI p).toNatClampNeg = p := nI_clamp (by omega)
  intro r
  induction r with
  | zero =>
    intro kd I' v4 hk h1 h2
    have e : kd = 6 := by omega
    subst e
    have g : ((5 : Int32) < nI 6) = True := eq_true (by decide)
    simp only [e192_9, e192_10, e192_11, e192_76, e192_77, e192_80, e192_81, e192_82, e192_83, zpush_some, zpush_none, true_or, or_true, true_and, and_true, ↓reduceIte, zq_ite, zq_itel, g, zo_62, zr_62_15, zn_69, zw_69, zl_69, zp, cp]
    refine hQ _ (fun k i a b c e => ?_) (fun k hk i hi => by rw [zup_ne (by decide)]; exact h2 k hk i hi)
    by_cases e1 : k = 69 ∧ i = p
    · obtain ⟨rfl, rfl⟩ := e1
      exact zup_eq
    · have : zup I' 69 p (I 69 p) k i = I' k i := by
        by_cases e2 : k = 69
        · exact zup_nj (fun g => e1 ⟨e2, g⟩)
        · exact zup_ne e2
      rw [this]
      exact h1 k i a b c e (by omega)
  | succ r ih =>
    intro kd I' v4 hk h1 h2
    have hlt : ((5 : Int32) < nI kd) = False := (nI_ltN (a := 5) (by decide) (by omega)).trans (eq_false (by omega))
    simp only [e192_9, e192_10, e192_11, e192_14, e192_15, zpush_some, zpush_none, true_or, or_true, true_and, and_true, ↓reduceIte, zq_ite, zq_itel, hlt, zo_62]
    refine s_M_begin (MC_eq hM (fun j => h1 _ _ (by decide) (by decide) (by decide) (by decide) (by omega))) (fun I1 w1 w2 w3 => ?_)
    simp only [e192_15, e192_18, e192_19, e192_22, e192_23, e192_24, e192_25, e192_26, e192_26a, zpush_some, zpush_none, true_or, or_true, true_and, and_true, ↓reduceIte, zq_ite, zq_itel, zo_62, zr_62_15, zn_69, zw_69, zl_69, zp, cp]
    have hI1 : ∀ {v : Int32} k i, k ≠ 75 → k ≠ 76 → k ≠ 77 → k ≠ 82 → (k ≠ 69 ∨ i ≠ p) → zup I1 69 p v k i = I k i := fun {v} k i a b c e e' => by
      have : zup I1 69 p v k i = I1 k i := by
        rcases e' with e' | e'
        · exact zup_ne e'
        · exact zup_nj e'
      rw [this, w2 k i a c, h1 k i a b c e e']
    have hK1 : MK (zup I1 69 p (nI kd)) m (Kk K p kd) := by
      obtain ⟨K', f1, k1, k2, k3⟩ := hK
      refine ⟨Kk K' p kd, fun q hq => by unfold Kk; rw [f1 q hq], by rw [hI1 62 14 (by decide) (by decide) (by decide) (by decide) (by omega)]; exact k1, k2, fun q hq => ?_⟩
      unfold Kk
      by_cases e : q = p
      · subst e; rw [zup_eq, if_pos rfl]; exact ⟨rfl, by omega⟩
      · rw [hI1 69 q (by decide) (by decide) (by decide) (by decide) (by omega), if_neg e]; exact k3 q hq
    refine l_M_lay1 (I := zup I1 69 p (nI kd)) (K := K) (s := s) hp hm (show kd < 6 by omega) hs hK1 (fun I2 y1 y2 => ?_) 20 0 _ rfl (MC_eq w1 (fun j => zup_ne (by decide))) (fun _ _ _ _ _ _ => rfl) (fun j hj => absurd hj (Nat.not_lt_zero j))
    simp only [e192_70, e192_70a, e192_73, nI_1]
    refine ih (kd + 1) I2 _ (by omega) (fun k j a b c e e' => ?_) (fun k hk' i hi => ?_)
    · rw [y1 k j a b c (Or.inl e)]
      exact hI1 k j a b c e e'
    · by_cases e : k = kd
      · subst e; exact y2 i hi
      · rw [y1 82 _ (by decide) (by decide) (by decide) (by omega), zup_ne (by decide), w2 82 _ (by decide) (by decide)]
        exact h2 k (by omega) i hi
theorem l_M_part {g : Nat → Nat} (hg : ∀ k, k < 6 → g k < 16) (hi : i < 20) (hc : c < 16) (hl : ∀ k, k < 6 → I 82 (20 * k + i) = nI (g k)) {b0 p0 : Int32} {a1 a2 a3 : Value} {G B2 : Int32} : ∀ r kd, kd + r = 6 → (zV n (d + 1) 191 71 [.ref 62, a1, a2, a3, .int x, .int b0, .int p0, .int (nI i), .int G, .int (nI c), .int (nI (prt (bt x) g c kd)), .int (nI kd)] [] I L Q ↔ zV n (d + 1) 191 121 [.ref 62, a1, a2, a3, .int x, .int b0, .int p0, .int (nI i), .int G, .int (nI c), .int (nI (prt (bt x) g c 6)), .int 6] [] I L Q) := by
  intro r
  induction r with
  | zero =>
    intro kd hk
    have e : kd = 6 := by omega
    subst e
    have g : ((5 : Int32) < nI 6) = True := eq_true (by decide)
    simp only [e191_71, e191_73, e191_74, zpush_some, zpush_none, true_or, or_true, true_and, and_true, ↓reduceIte, zq_ite, zq_itel, g]
    exact Iff.rfl
  | succ r ih =>
    intro kd hk
    have hlt : ((5 : Int32) < nI kd) = False := (nI_ltN (a := 5) (by decide) (by omega)).trans (eq_false (by omega))
    have m20 : (20 : Int32) * nI kd + nI i = nI (20 * kd + i) := by rw [show (20 : Int32) = nI 20 from rfl, pk_mul, nI_add]
    have zi7 : zin (nI (20 * kd + i)) 120 = true := zin_ok (by omega) (by decide)
    have ci : (nI (20 * kd + i)).toNatClampNeg = 20 * kd + i := nI_clamp (by omega)
    have e := ih (kd + 1) (by omega)
    rw [prt] at e
    cases hb : bt x kd
    · rw [hb] at e
      simp only [Bool.false_and, Bool.false_eq_true, if_false, Nat.add_zero] at e
      simp only [e191_71, e191_73, e191_74, e191_77, e191_79, e191_81, e191_83, e191_86, e191_89, e191_90, e191_93, e191_95, e191_97, e191_98, e191_100, e191_101, e191_102, e191_104, e191_107, e191_108, e191_111, e191_112, e191_113, e191_113a, zpush_some, zpush_none, true_or, or_true, true_and, and_true, ↓reduceIte, zq_ite, zq_itel, hlt, s_M_hasN x (show kd < 32 by omega), hb, zb_f, Int32.add_zero]
      simp only [e191_115, e191_115a, e191_118, nI_1]
      exact e
    · have hl' := hl kd (by omega)
      have hgc : (nI (g kd) = nI c) = (g kd = c) := nI_eqN (by have := hg kd (by omega); omega) (by omega)
      rw [hb, Bool.true_and] at e
      by_cases hq : g kd = c
      · rw [decide_eq_true hq, if_pos rfl] at e
        have hgc := hgc.trans (eq_true hq)
        simp only [e191_71, e191_73, e191_74, e191_77, e191_79, e191_81, e191_83, e191_86, e191_89, e191_90, e191_93, e191_95, e191_97, e191_98, e191_100, e191_101, e191_102, e191_104, e191_107, e191_108, e191_111, e191_112, e191_113, e191_113a, zpush_some, zpush_none, true_or, or_true, true_and, and_true, ↓reduceIte, zq_ite, zq_itel, hlt, s_M_hasN x (show kd < 32 by omega), hb, zb_t, zz_1, zo_62, zr_62_29, zn_82, zl_82, m20, zi7, ci, hl', hgc, not_true_eq_false, nI_1]
        simp only [e191_115, e191_115a, e191_118, nI_1]
        exact e
      · rw [decide_eq_false hq, if_neg Bool.false_ne_true, Nat.add_zero] at e
        have hgc := hgc.trans (eq_false hq)
        simp only [e191_71, e191_73, e191_74, e191_77, e191_79, e191_81, e191_83, e191_86, e191_89, e191_90, e191_93, e191_95, e191_97, e191_98, e191_100, e191_101, e191_102, e191_104, e191_107, e191_108, e191_111, e191_112, e191_113, e191_113a, zpush_some, zpush_none, true_or, or_true, true_and, and_true, ↓reduceIte, zq_ite, zq_itel, hlt, s_M_hasN x (show kd < 32 by omega), hb, zb_t, zz_1, zo_62, zr_62_29, zn_82, zl_82, m20, zi7, ci, hl', hgc, not_false_eq_true, Int32.add_zero]
        simp only [e191_115, e191_115a, e191_118, nI_1]
        exact e
theorem l_M_great {g : Nat → Nat} (hg : ∀ k, k < 6 → g k < 16) (hi : i < 20) (hl : ∀ k, k < 6 → I 82 (20 * k + i) = nI (g k)) {b0 p0 : Int32} {a1 a2 a3 : Value} (hQ : ∀ v10 v11, zV n (d + 1) 191 143 [.ref 62, a1, a2, a3, .int x, .int b0, .int p0, .int (nI i), .int (nI (gpt (bt x) g 16)), .int 16, v10, v11] [] I L Q) : ∀ r c v10 v11, c + r = 16 → zV n (d + 1) 191 58 [.ref 62, a1, a2, a3, .int x, .int b0, .int p0, .int (nI i), .int (nI (gpt (bt x) g c)), .int (nI c), v10, v11] [] I L Q := by
  intro r
  induction r with
  | zero =>
    intro c v10 v11 hc
    have e : c = 16 := by omega
    subst e
    simp only [e191_58, e191_60, e191_62, zpush_some, zpush_none, true_or, or_true, true_and, and_true, ↓reduceIte, zq_ite, zq_itel, show nI 16 = (16 : Int32) from rfl, Int32.le_refl]
    exact hQ _ _
  | succ r ih =>
    intro c v10 v11 hc
    have hlt : ((16 : Int32) ≤ nI c) = False := eq_false (nI_ge (b := 16) (by omega) (by omega))
    have e := ih (c + 1) (.int (nI (prt (bt x) g c 6))) (.int 6) (by omega)
    rw [gpt] at e
    have R := l_M_part (x := x) (n := n) (d := d) (L := L) (Q := Q) (b0 := b0) (p0 := p0) (a1 := a1) (a2 := a2) (a3 := a3) (G := nI (gpt (bt x) g c)) (B2 := 0) hg hi (show c < 16 by omega) hl 6 0 rfl
    simp only [e191_58, e191_60, e191_62, e191_65, e191_66, e191_66a, e191_68, e191_69, e191_69a, zpush_some, zpush_none, true_or, or_true, true_and, and_true, ↓reduceIte, zq_ite, zq_itel, hlt]
    refine R.mpr ?_
    have hgl := gpt_le (bt x) g c
    have hpl := prt_le (bt x) g c 6
    have hmx : (nI (prt (bt x) g c 6) ≤ nI (gpt (bt x) g c)) = (prt (bt x) g c 6 ≤ gpt (bt x) g c) := nI_leN (by omega) (by omega)
    by_cases hq : gpt (bt x) g c < prt (bt x) g c 6
    · rw [if_pos hq] at e
      have hmx := hmx.trans (eq_false (by omega))
      simp only [e191_121, e191_123, e191_125, e191_128, e191_130, e191_133, e191_135, e191_135a, zpush_some, zpush_none, true_or, or_true, true_and, and_true, ↓reduceIte, zq_ite, zq_itel, hmx]
      simp only [e191_137, e191_137a, e191_140, nI_1]
      exact e
    · rw [if_neg hq] at e
      have hmx := hmx.trans (eq_true (by omega))
      simp only [e191_121, e191_123, e191_125, e191_128, e191_130, e191_133, e191_135, e191_135a, zpush_some, zpush_none, true_or, or_true, true_and, and_true, ↓reduceIte, zq_ite, zq_itel, hmx]
      simp only [e191_137, e191_137a, e191_140, nI_1]
      exact e
theorem l_M_best {h : Nat → Nat → Nat} (hg : ∀ k, k < 6 → ∀ i, i < 20 → h k i < 16) (hl : ∀ k, k < 6 → ∀ i, i < 20 → I 82 (20 * k + i) = nI (h k i)) {a1 a2 a3 : Value} (hQ : ∀ v8 v9 v10 v11, zV n (d + 1) 191 183 [.ref 62, a1, a2, a3, .int x, .int (bv (bs (fun i => gpt (bt x) (fun k => h k i) 16) 20).1), .int (nI (bs (fun i => gpt (bt x) (fun k => h k i) 16) 20).2), .int 20, v8, v9, v10, v11] [] I L Q) : ∀ r i v8 v9 v10 v11, i + r = 20 → zV n (d + 1) 191 45 [.ref 62, a1, a2, a3, .int x, .int (bv (bs (fun i => gpt (bt x) (fun k => h k i) 16) i).1), .int (nI (bs (fun i => gpt (bt x) (fun k => h k i) 16) i).2), .int (nI i), v8, v9, v10, v11] [] I L Q := by
  intro r
  induction r with
  | zero =>
    intro i v8 v9 v10 v11 hi
    have e : i = 20 := by omega
    subst e
    simp only [e191_45, e191_47, e191_49, zpush_some, zpush_none, true_or, or_true, true_and, and_true, ↓reduceIte, zq_ite, zq_itel, show nI 20 = (20 : Int32) from rfl, Int32.le_refl]
    exact hQ _ _ _ _
  | succ r ih =>
    intro i v8 v9 v10 v11 hi
    have hlt : ((20 : Int32) ≤ nI i) = False := eq_false (nI_ge (b := 20) (by omega) (by omega))
    have ih' := ih (i + 1)
    rw [bs] at ih'
    have hbl := (bs_le (fun i => gpt (bt x) (fun k => h k i) 16) (fun i => gpt_le _ _ 16) i).1
    have hgl := gpt_le (bt x) (fun k => h k i) 16
    simp only [e191_45, e191_47, e191_49, e191_52, e191_53, e191_53a, e191_55, e191_56, e191_56a, zpush_some, zpush_none, true_or, or_true, true_and, and_true, ↓reduceIte, zq_ite, zq_itel, hlt]
    refine l_M_great (fun k hk => hg k hk i (by omega)) (show i < 20 by omega) (fun k hk => hl k hk i (by omega)) (fun u1 u2 => ?_) 16 0 _ _ rfl
    have hmx : (nI (bs (fun i => gpt (bt x) (fun k => h k i) 16) i).2 ≤ nI (gpt (bt x) (fun k => h k i) 16)) = ((bs (fun i => gpt (bt x) (fun k => h k i) 16) i).2 ≤ gpt (bt x) (fun k => h k i) 16) := nI_leN (by omega) (by omega)
    by_cases hq : gpt (bt x) (fun k => h k i) 16 < (bs (fun i => gpt (bt x) (fun k => h k i) 16) i).2
    · rw [if_pos hq] at ih'
      have hmx := hmx.trans (eq_false (by omega))
      have nx := ih' (.int (nI (gpt (bt x) (fun k => h k i) 16))) (.int 16) u1 u2 (by omega)
      rw [show bv (i + 1) = nI (i + 1) from if_neg (by omega)] at nx
      simp only [e191_143, e191_145, e191_147, e191_150, e191_152, e191_153, e191_154, e191_157, e191_159, e191_159a, e191_161, e191_163, e191_165, e191_168, e191_170, e191_173, e191_175, e191_175a, zpush_some, zpush_none, true_or, or_true, true_and, and_true, ↓reduceIte, zq_ite, zq_itel, hmx, nI_1]
      simp only [e191_177, e191_177a, e191_180, nI_1]
      exact nx
    · rw [if_neg hq] at ih'
      have hmx := hmx.trans (eq_true (by omega))
      have nx := ih' (.int (nI (gpt (bt x) (fun k => h k i) 16))) (.int 16) u1 u2 (by omega)
      simp only [e191_143, e191_145, e191_147, e191_150, e191_152, e191_153, e191_154, e191_157, e191_159, e191_159a, e191_161, e191_163, e191_165, e191_168, e191_170, e191_173, e191_175, e191_175a, zpush_some, zpush_none, true_or, or_true, true_and, and_true, ↓reduceIte, zq_ite, zq_itel, hmx]
      simp only [e191_177, e191_177a, e191_180, nI_1]
      exact nx
theorem l_X_best {h : Nat → Nat → Nat} (hg : ∀ k, k < 6 → ∀ i, i < 20 → h k i < 16) (hl : ∀ k, k < 6 → bt x k = true → ∀ i, i < 20 → I (29 + k) i = nI (h k i)) {a1 a2 a3 : Value} (hQ : ∀ v8, zV n (d + 1) 100 104 [.ref 3, a1, a2, a3, .int x, .int (nI ((bs (fun i => gpt (bt x) (fun k => h k i) 16) 20).1 - 1)), .int (nI (bs (fun i => gpt (bt x) (fun k => h k i) 16) 20).2), .int 20, v8] [] I L Q) : ∀ r i v8, i + 1 + r = 20 → zV n (d + 1) 100 56 [.ref 3, a1, a2, a3, .int x, .int (nI ((bs (fun i => gpt (bt x) (fun k => h k i) 16) (i + 1)).1 - 1)), .int (nI (bs (fun i => gpt (bt x) (fun k => h k i) 16) (i + 1)).2), .int (nI (i + 1)), v8] [] I L Q := by
  intro r
  induction r with
  | zero =>
    intro i v8 hi
    have e : i = 19 := by omega
    subst e
    simp only [e100_56, e100_58, e100_60, zpush_some, zpush_none, true_or, or_true, true_and, and_true, ↓reduceIte, zq_ite, zq_itel, show nI (19 + 1) = (20 : Int32) from rfl, Int32.le_refl]
    exact hQ _
  | succ r ih =>
    intro i v8 hi
    have hlt : ((20 : Int32) ≤ nI (i + 1)) = False := eq_false (nI_ge (b := 20) (by omega) (by omega))
    have ih' := ih (i + 1)
    rw [bs] at ih'
    have hbl := (bs_le (fun i => gpt (bt x) (fun k => h k i) 16) (fun i => gpt_le _ _ 16) (i + 1)).1
    have hgl := gpt_le (bt x) (fun k => h k (i + 1)) 16
    have hmx : (nI (bs (fun i => gpt (bt x) (fun k => h k i) 16) (i + 1)).2 ≤ nI (gpt (bt x) (fun k => h k (i + 1)) 16)) = ((bs (fun i => gpt (bt x) (fun k => h k i) 16) (i + 1)).2 ≤ gpt (bt x) (fun k => h k (i + 1)) 16) := nI_leN (by omega) (by omega)
    have hmn : (nI (gpt (bt x) (fun k => h k (i + 1)) 16) < nI (bs (fun i => gpt (bt x) (fun k => h k i) 16) (i + 1)).2) = (gpt (bt x) (fun k => h k (i + 1)) 16 < (bs (fun i => gpt (bt x) (fun k => h k i) 16) (i + 1)).2) := nI_ltN (by omega) (by omega)
    have hmn2 : (nI (bs (fun i => gpt (bt x) (fun k => h k i) 16) (i + 1)).2 < nI (gpt (bt x) (fun k => h k (i + 1)) 16)) = ((bs (fun i => gpt (bt x) (fun k => h k i) 16) (i + 1)).2 < gpt (bt x) (fun k => h k (i + 1)) 16) := nI_ltN (by omega) (by omega)
    have gr := fun n d L Q => s_X_great (n := n) (d := d) (I := I) (L := L) (Q := Q) (x := x) (g := fun k => h k (i + 1)) (fun k hk => hg k hk (i + 1) (by omega)) (show i + 1 < 20 by omega) (fun k hk hb => hl k hk hb (i + 1) (by omega))
    by_cases hq : gpt (bt x) (fun k => h k (i + 1)) 16 < (bs (fun i => gpt (bt x) (fun k => h k i) 16) (i + 1)).2
    · rw [if_pos hq] at ih'
      have hmx := hmx.trans (eq_false (by omega))
      have hmn := hmn.trans (eq_true hq)
      have hmn2 := hmn2.trans (eq_false (by omega))
      simp only [e100_56, e100_58, e100_60, e100_63, e100_64, e100_66, e100_68, e100_71, e100_71a, e100_73, e100_75, e100_77, e100_80, e100_82, e100_85, e100_87, e100_87a, e100_89, e100_91, e100_93, e100_96, e100_96a, zpush_some, zpush_none, true_or, or_true, true_and, and_true, ↓reduceIte, zq_ite, zq_itel, hlt, zo_3, gr, hmx, hmn, hmn2]
      simp only [e100_98, e100_98a, e100_101, nI_1]
      exact ih' _ (by omega)
    · rw [if_neg hq] at ih'
      have hmx := hmx.trans (eq_true (by omega))
      have hmn := hmn.trans (eq_false hq)
      by_cases hq2 : (bs (fun i => gpt (bt x) (fun k => h k i) 16) (i + 1)).2 < gpt (bt x) (fun k => h k (i + 1)) 16
      · have hmn2 := hmn2.trans (eq_true hq2)
        simp only [e100_56, e100_58, e100_60, e100_63, e100_64, e100_66, e100_68, e100_71, e100_71a, e100_73, e100_75, e100_77, e100_80, e100_82, e100_85, e100_87, e100_87a, e100_89, e100_91, e100_93, e100_96, e100_96a, zpush_some, zpush_none, true_or, or_true, true_and, and_true, ↓reduceIte, zq_ite, zq_itel, hlt, zo_3, gr, hmx, hmn, hmn2]
        simp only [e100_98, e100_98a, e100_101, nI_1]
        exact ih' _ (by omega)
      · have hmn2 := hmn2.trans (eq_false hq2)
        have eq : gpt (bt x) (fun k => h k (i + 1)) 16 = (bs (fun i => gpt (bt x) (fun k => h k i) 16) (i + 1)).2 := by omega
        have nx := ih' (.int (nI (gpt (bt x) (fun k => h k (i + 1)) 16))) (by omega)
        simp only [e100_56, e100_58, e100_60, e100_63, e100_64, e100_66, e100_68, e100_71, e100_71a, e100_73, e100_75, e100_77, e100_80, e100_82, e100_85, e100_87, e100_87a, e100_89, e100_91, e100_93, e100_96, e100_96a, zpush_some, zpush_none, true_or, or_true, true_and, and_true, ↓reduceIte, zq_ite, zq_itel, hlt, zo_3, gr, hmx, hmn, hmn2]
        simp only [e100_98, e100_98a, e100_101, nI_1]
        rw [eq] at nx ⊢
        exact nx
theorem bs_1 (g : Nat → Nat) (hg : ∀ i, g i ≤ 6) : bs g 1 = (1, g 0) := by
  have h0 : g 0 < (bs g 0).2 := by
    show g 0 < 7
    have := hg 0
    omega
  rw [bs, if_pos h0]
theorem p_test (h : Inv I L) (i r : Int32) : zV n (d + 7) 100 0 [.ref 3, .int i, .int r, .null, .null, .null, .null, .null, .null] [] I L (fun v1 I1 L1 => zV n (d + 7) 191 0 [.ref 62, .int i, .int r, .null, .null, .null, .null, .null, .null, .null, .null, .null] [] I1 L1 (fun v2 I2 L2 => same v1 v2 ∧ Inv I2 L2)) := by
  obtain ⟨m, K, s, hm, hok, ht, hX, hM, hK⟩ := h.view
  rcases sights h hX hK hm i r with ⟨v, I1, I2, hv, hi2, e1, e2⟩ | ⟨p, j, q, hp, rfl, hj, rfl, q1, q2, q3, q4, q5, e1, e2⟩
  · have hv' := eq_false hv
    simp only [e100_0, e100_1, e100_2, e100_3, e100_6, e100_7, e100_8, e100_11, e100_12, e191_0, e191_1, e191_2, e191_3, e191_6, e191_7, e191_8, e191_11, e191_12, zpush_some, zpush_none, true_or, or_true, true_and, and_true, ↓reduceIte, zq_ite, zq_itel, zo_3, zo_62, e1, e2, hv']
    exact ⟨same_i, hi2⟩
  · obtain ⟨z0, hsz⟩ := row_z j hj
    have zj : zin (nI j) 6 = true := zin_ok hj (by decide)
    have cj : (nI j).toNatClampNeg = j := nI_clamp (by omega)
    simp only [e100_0, e100_1, e100_2, e100_3, e100_6, e100_7, e100_8, e100_11, e100_12, e100_13, e100_14, e100_15, e100_16, e100_19, e100_20, e100_21, zpush_some, zpush_none, true_or, or_true, true_and, and_true, ↓reduceIte, zq_ite, zq_itel, zo_3, e1, zr_3_0, zn_4, zl_4, zj, cj, z0, hsz.1]
    refine t_X_kinds (d := d + 1) (f := fun k => I 64 (40 * j + k)) (s := s) hX ht hp hj q4 q3 q5 (fun I3 L3 x1 x2 => ?_)
    generalize hx : gset (fun c => fit (Kk K p c) m p (fun k => I 64 (40 * j + k)) q s 0) 6 = x
    by_cases hx0 : x = 0
    · simp only [e100_21, e100_24, e100_24a, e100_26, e100_28, e100_31, e100_33, zpush_some, zpush_none, true_or, or_true, true_and, and_true, ↓reduceIte, zq_ite, zq_itel, hx0, not_true_eq_false]
      have e3 := fun n d Q => e2 n d Q I3 L3 (by rw [x1 62 14 (by decide)]; exact MK_m hK) (fun a => x1 _ _ (by decide)) (fun a => x1 _ _ (by decide))
      simp only [e191_0, e191_1, e191_2, e191_3, e191_6, e191_7, e191_8, e191_11, e191_12, e191_13, e191_14, e191_15, e191_16, zpush_some, zpush_none, true_or, or_true, true_and, and_true, ↓reduceIte, zq_ite, zq_itel, zo_62, e3]
      refine t_M_kinds (I := I3) (f := fun k => I 64 (40 * j + k)) (s := s) (MC_eq hM (fun j => x1 _ _ (by decide))) (MK_eq hK (fun j => x1 _ _ (by decide)) (fun j => x1 _ _ (by decide))) hm ht hp hj (by rw [x1 _ _ (by decide)]; exact q1) q3 (fun i hi => x1 _ _ (by decide)) (fun I4 y1 => ?_)
      rw [hx]
      simp only [e191_16, e191_19, e191_19a, e191_21, e191_23, e191_26, e191_28, zpush_some, zpush_none, true_or, or_true, true_and, and_true, ↓reduceIte, zq_ite, zq_itel, hx0, not_true_eq_false]
      refine ⟨same_i, inv_other h (fun k j hk => ?_) (fun k j hk => x2 k j (by omega))⟩
      unfold cubeCell at hk
      rw [y1 k j (by omega) (by omega) (by omega), x1 k j (by omega)]
    · have hx0' := eq_false hx0
      simp only [e100_21, e100_24, e100_24a, e100_26, e100_28, e100_31, e100_33, e100_34, e100_35, e100_36, e100_38, e101_0, e101_1, zpush_some, zpush_none, true_or, or_true, true_and, and_true, ↓reduceIte, zq_ite, zq_itel, zo_3, hx0', not_false_eq_true]
      refine l_X_look (I := I3) (L := L3) (x := x) (s := s) (K := K) (XC_eq hX (fun k' j a b _ => x1 _ _ (by omega)) (x2 14 5 (by decide))) hp ht (fun I4 L4 y1 y2 y3 => ?_) 6 0 I3 L3 _ rfl (fun _ _ _ _ => rfl) (fun _ _ _ => rfl) (fun k hk => absurd hk (Nat.not_lt_zero k))
      have gr0 := fun n d Q => s_X_great (n := n) (d := d) (I := I4) (L := L4) (Q := Q) (x := x) (i := 0) (g := fun k => sk K m s p k 0) (fun k hk => sk_lt hok hp hk) (by decide) (fun k hk hb => y3 k hk hb 0 (by decide))
      have gr0' : ∀ n d (Q : zq), zV n d 102 0 [.ref 3, .int x, .int 0, .null, .null, .null, .null] [] I4 L4 Q ↔ Q (some (.int (nI (gpt (bt x) (fun k => sk K m s p k 0) 16)))) I4 L4 := gr0
      simp only [e100_38, e100_41, e100_42, e100_42a, e100_44, e100_45, e100_47, e100_48, e100_51, e100_51a, e100_53, e100_54, e100_54a, zpush_some, zpush_none, true_or, or_true, true_and, and_true, ↓reduceIte, zq_ite, zq_itel, zo_3, gr0']
      have hG : ∀ i, (fun i => gpt (bt x) (fun k => sk K m s p k i) 16) i ≤ 6 := fun i => gpt_le _ _ 16
      have B := l_X_best (n := n) (d := d + 6) (I := I4) (L := L4) (Q := fun v1 I1 L1 => zV n (d + 7) 191 0 [.ref 62, .int (nI p), .int (nI j), .null, .null, .null, .null, .null, .null, .null, .null, .null] [] I1 L1 (fun v2 I2 L2 => same v1 v2 ∧ Inv I2 L2)) (x := x) (h := fun k i => sk K m s p k i) (fun k hk i hi => sk_lt hok hp hk) y3 (a1 := .int (nI p)) (a2 := .int (nI j)) (a3 := .int 0) (fun v8 => by
        have hps := bs_pos _ hG 19
        generalize hb : bs (fun i => gpt (bt x) (fun k => sk K m s p k i) 16) (19 + 1) = o at hps
        have g3 : ∀ {v : Int32} k j, (k < 19 ∨ 23 < k) → (k < 29 ∨ 34 < k) → k ≠ 3 → zup I4 3 12 v k j = I k j := fun {v} k j a b c => by rw [zup_ne c, y1 k j a b, x1 k j a]
        have ho1 : nI (o.1 - 1) + 1 = nI o.1 := by rw [nI_1, Nat.sub_add_cancel hps]
        simp only [e100_104, e100_105, e100_107, e100_108, e100_109, e100_111, e100_114, zpush_some, zpush_none, true_or, or_true, true_and, and_true, ↓reduceIte, zq_ite, zq_itel, zo_3, ho1, s_X_tell]
        have e3 := fun n d Q => e2 n d Q (zup I4 3 12 (nI o.2)) L4 (by rw [g3 62 14 (by decide) (by decide) (by decide)]; exact MK_m hK) (fun a => g3 _ _ (by decide) (by decide) (by decide)) (fun a => g3 _ _ (by decide) (by decide) (by decide))
        simp only [e191_0, e191_1, e191_2, e191_3, e191_6, e191_7, e191_8, e191_11, e191_12, e191_13, e191_14, e191_15, e191_16, zpush_some, zpush_none, true_or, or_true, true_and, and_true, ↓reduceIte, zq_ite, zq_itel, zo_62, e3]
        have hM5 : MC (zup I4 3 12 (nI o.2)) 70 m s := MC_eq hM (fun j => g3 _ _ (by decide) (by decide) (by decide))
        have hK5 : MK (zup I4 3 12 (nI o.2)) m K := MK_eq hK (fun j => g3 _ _ (by decide) (by decide) (by decide)) (fun j => g3 _ _ (by decide) (by decide) (by decide))
        refine t_M_kinds (f := fun k => I 64 (40 * j + k)) (s := s) hM5 hK5 hm ht hp hj (by rw [g3 _ _ (by decide) (by decide) (by decide)]; exact q1) q3 (fun i hi => g3 _ _ (by decide) (by decide) (by decide)) (fun I5 w1 => ?_)
        rw [hx]
        have zp : zin (nI p) 7 = true := zin_ok (by omega) (by decide)
        have cp : (nI p).toNatClampNeg = p := nI_clamp (by omega)
        simp only [e191_16, e191_19, e191_19a, e191_21, e191_23, e191_26, e191_28, e191_29, e191_30, e191_31, e192_0, e192_1, e192_4, e192_5, e192_6, e192_7, e192_8, e192_8a, zpush_some, zpush_none, true_or, or_true, true_and, and_true, ↓reduceIte, zq_ite, zq_itel, zo_62, hx0', not_false_eq_true, zr_62_15, zn_69, zl_69, zp, cp]
        refine l_M_lay (I := I5) (s := s) (K := K) (MC_eq hM5 (fun j => w1 _ _ (by decide) (by decide) (by decide))) (MK_eq hK5 (fun j => w1 _ _ (by decide) (by decide) (by decide)) (fun j => w1 _ _ (by decide) (by decide) (by decide))) hm hp ht (fun I6 u1 u2 => ?_) 6 0 I5 _ rfl (fun _ _ _ _ _ _ _ => rfl) (fun k hk => absurd hk (Nat.not_lt_zero k))
        simp only [e191_31, e191_34, e191_36, e191_36a, e191_38, e191_40, e191_40a, e191_42, e191_43, e191_43a, zpush_some, zpush_none, true_or, or_true, true_and, and_true, ↓reduceIte, zq_ite, zq_itel]
        refine l_M_best (x := x) (h := fun k i => sk K m s p k i) (fun k hk i hi => sk_lt hok hp hk) u2 (fun v8 v9 v10 v11 => ?_) 20 0 _ _ _ _ rfl
        have hb' : bs (fun i => gpt (bt x) (fun k => sk K m s p k i) 16) 20 = o := hb
        rw [hb', show bv o.1 = nI o.1 from if_neg (by omega)]
        simp only [e191_183, e191_184, e191_186, e191_189, e191_190, e191_192, zpush_some, zpush_none, true_or, or_true, true_and, and_true, ↓reduceIte, zq_ite, zq_itel, zo_62, s_M_tells]
        refine ⟨same_i, inv_told h ?_ (fun k j hk => ?_) (fun k j hk => by rw [y2 k j (by omega), x2 k j (by omega)])⟩
        · rw [zup_ne (by decide), zup_eq, u1 3 12 (by decide) (by decide) (by decide) (by decide), w1 3 12 (by decide) (by decide) (by decide), zup_eq]
        · unfold cubeCell at hk
          have e6 : zup I6 62 6 (nI o.2) k j = I6 k j := by
            by_cases g : k = 62
            · exact zup_nj (by omega)
            · exact zup_ne g
          rw [e6, u1 k j (by omega) (by omega) (by omega) (by omega), w1 k j (by omega) (by omega) (by omega)]
          by_cases g : k = 3
          · subst g
            rw [zup_nj (by omega), y1 3 j (by decide) (by decide), x1 3 j (by decide)]
          · exact g3 k j (by omega) (by omega) g) 19 0 .null rfl
      rw [bs_1 _ hG] at B
      exact B
end
