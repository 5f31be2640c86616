/-! FAR, REACH -/
/-- a set of corners -/
def SB (x : Int32) (f : Nat → Bool) : Prop := ∀ i, i < 32 → bt x i = (decide (i < 16) && f i)
def lws (wh : Int64) (w : Nat) : Int32 := (sh64 wh (nI (16 * w))).toInt32 &&& zLE4 w
def spT (wh : Int64) (x : Int32) (w : Nat) : Int32 := (x &&& lws wh w) <<< (nI (2 ^ w) &&& 31) ||| x >>> (nI (2 ^ w) &&& 31) &&& lws wh w
def spA (wh : Int64) (x : Int32) : Nat → Int32
  | 0 => x
  | w + 1 => spA wh x w ||| spT wh x w
/-- arcs that are whole -/
def WH (wh : Int64) (B : Nat → Bool) : Prop := ∀ c, c < 16 → ∀ w, w < 4 → bl wh (16 * w + c) = !B (lk c w)
theorem bt_i32 (u : Int64) {i : Nat} (hi : i < 32) : bt u.toInt32 i = bl u i := by
  unfold bt bl
  rw [Int64.toBitVec_toInt32, BitVec.getLsbD_signExtend]
  simp [hi, show i < 64 by omega]
theorem bl_sh64 (u : Int64) {k i : Nat} (hk : k < 64) : bl (sh64 u (nI k)) i = bl u (k + i) := by
  show (sh64 u (nI k)).toBitVec.toNat.testBit i = u.toBitVec.toNat.testBit (k + i)
  rw [sh64_nat u k hk, Nat.testBit_div_two_pow, Nat.add_comm]
theorem LE_1 : ∀ w, w < 4 → ∀ i, i < 32 → 2 ^ w ≤ i → bt (zLE4 w) (i - 2 ^ w) = true → i < 16 ∧ i - 2 ^ w = i ^^^ 2 ^ w ∧ i.testBit w = true := by decide +kernel
theorem LE_2 : ∀ w, w < 4 → ∀ i, i < 32 → bt (zLE4 w) i = true → i < 16 ∧ 2 ^ w + i = i ^^^ 2 ^ w ∧ i.testBit w = false ∧ 2 ^ w + i < 32 := by decide +kernel
theorem LE_3 : ∀ w, w < 4 → ∀ i, i < 16 → i.testBit w = true → 2 ^ w ≤ i ∧ bt (zLE4 w) (i - 2 ^ w) = true ∧ bt (zLE4 w) i = false := by decide +kernel
theorem LE_4 : ∀ w, w < 4 → ∀ i, i < 16 → i.testBit w = false → bt (zLE4 w) i = true := by decide +kernel
theorem lws_bit {wh : Int64} {w i : Nat} (hi : i < 32) (hw : w < 4) : bt (lws wh w) i = (bl wh (16 * w + i) && bt (zLE4 w) i) := by
  unfold lws
  rw [b_and, bt_i32 _ hi, bl_sh64 _ (by omega)]
theorem pow_lt : ∀ w, w < 4 → 2 ^ w < 32 := by decide
theorem spT_bit {wh : Int64} {B f : Nat → Bool} {x : Int32} (hW : WH wh B) (hx : SB x f) {w i : Nat} (hw : w < 4) (hi : i < 32) : bt (spT wh x w) i = (decide (i < 16) && (f (i ^^^ 2 ^ w) && !B (lk i w))) := by
  unfold spT
  have hp := pow_lt w hw
  rw [b_or, b_shl _ hp _ hi, b_and, b_and, b_sshr _ hp x hi]
  by_cases h16 : i < 16
  · obtain ⟨t1, t2, t3⟩ := xor_pow16 i h16 w hw
    rw [decide_eq_true h16, Bool.true_and]
    cases hb : i.testBit w
    · have l4 := LE_4 w hw i h16 hb
      obtain ⟨a1, a2, a3, a4⟩ := LE_2 w hw i hi l4
      have e1 : (decide (2 ^ w ≤ i) && (bt x (i - 2 ^ w) && bt (lws wh w) (i - 2 ^ w))) = false := by
        by_cases g : 2 ^ w ≤ i
        · rw [lws_bit (show i - 2 ^ w < 32 from Nat.lt_of_le_of_lt (Nat.sub_le _ _) hi) hw]
          cases g2 : bt (zLE4 w) (i - 2 ^ w)
          · simp
          · have := LE_1 w hw i hi g g2
            rw [hb] at this
            cases this.2.2
        · rw [decide_eq_false g, Bool.false_and]
      rw [e1, Bool.false_or, if_pos a4, a2, lws_bit hi hw, l4, Bool.and_true, hx _ (by omega), decide_eq_true t1, Bool.true_and, hW i h16 w hw]
    · obtain ⟨a1, a2, a3⟩ := LE_3 w hw i h16 hb
      obtain ⟨b1, b2, b3⟩ := LE_1 w hw i hi a1 a2
      rw [decide_eq_true a1, Bool.true_and, lws_bit hi hw, a3, Bool.and_false, Bool.and_false, Bool.or_false, lws_bit (by omega) hw, a2, Bool.and_true, b2, hx _ (by omega), decide_eq_true t1, Bool.true_and, hW _ t1 w hw, t3]
  · rw [decide_eq_false h16, Bool.false_and, Bool.or_eq_false_iff]
    refine ⟨?_, ?_⟩
    · by_cases g : 2 ^ w ≤ i
      · rw [lws_bit (show i - 2 ^ w < 32 from Nat.lt_of_le_of_lt (Nat.sub_le _ _) hi) hw]
        cases g2 : bt (zLE4 w) (i - 2 ^ w)
        · simp
        · exact absurd (LE_1 w hw i hi g g2).1 h16
      · rw [decide_eq_false g, Bool.false_and]
    · rw [lws_bit hi hw]
      cases g2 : bt (zLE4 w) i
      · simp
      · exact absurd (LE_2 w hw i hi g2).1 h16
theorem SB_sp {wh : Int64} {B f : Nat → Bool} {x : Int32} (hW : WH wh B) (hx : SB x f) : ∀ w, w ≤ 4 → SB (spA wh x w) (spF B f w)
  | 0, _ => hx
  | w + 1, h => fun i hi => by
    rw [spA, b_or, SB_sp hW hx w (by omega) i hi, spT_bit hW hx (by omega) hi, spF]
    cases decide (i < 16) <;> simp
def stI (wh : Int64) (a : Nat) : Nat → Int32
  | 0 => (1 : Int32) <<< (nI a &&& 31)
  | k + 1 => spA wh (stI wh a k) 4
theorem SB_st {wh : Int64} {B : Nat → Bool} {a : Nat} (hW : WH wh B) (ha : a < 16) : ∀ k, SB (stI wh a k) (lev B a k)
  | 0 => fun i hi => by
    show bt ((1 : Int32) <<< (nI a &&& 31)) i = (decide (i < 16) && decide (i = a))
    rw [bt_shl (by omega) hi]
    by_cases e : i = a
    · subst e; simp [ha]
    · simp [e]
  | k + 1 => SB_sp hW (SB_st hW ha k) 4 (by decide)
section
variable {n d : Nat} {I I' : zi} {L L' : zl} {Q : zq} {K K' : Nat → Nat} {s s' s0 : Cs} {k m q i a b l N p j c e : Nat} {wh : Int64} {B : Nat → Bool} {x : Int32}
theorem l_W_spread (h2 : ∀ j, j < 4 → I 2 j = zLE4 j) : ∀ r w v5 v6, w + r = 4 → (zV n d 87 5 [.long wh, .null, .int x, .int (spA wh x w), .int (nI w), v5, v6] [] I L Q ↔ Q (some (.int (spA wh x 4))) I L) := by
  intro r
  induction r with
  | zero =>
    intro w v5 v6 hw
    have e : w = 4 := by omega
    subst e
    simp only [e87_5, e87_7, e87_8, e87_58, e87_59, zpush_some, zpush_none, true_or, or_true, true_and, and_true, ↓reduceIte, zq_ite, zq_itel, show nI 4 = (4 : Int32) from rfl, Int32.le_refl]
  | succ r ih =>
    intro w v5 v6 hw
    have hlt : ((4 : Int32) ≤ nI w) = False := eq_false (nI_ge (b := 4) (by omega) (by omega))
    have e16 : (16 : Int32) * nI w = nI (16 * w) := pk_mul 16 w
    have zw : zin (nI w) 4 = true := zin_ok (by omega) (by decide)
    have cw : (nI w).toNatClampNeg = w := nI_clamp (by omega)
    have e2 : zint 2 = true ∧ zlen 2 = 4 := by decide +kernel
    simp only [e87_5, e87_7, e87_8, e87_11, e87_12, e87_14, e87_16, e87_17, e87_18, e87_19, e87_22, e87_24, e87_25, e87_26, e87_26a, e87_28, e87_29, e87_31, e87_32, e87_32a, e87_34, e87_35, e87_36, e87_38, e87_39, e87_41, e87_42, e87_43, e87_45, e87_46, e87_48, e87_49, e87_50, e87_51, zpush_some, zpush_none, true_or, or_true, true_and, and_true, ↓reduceIte, zq_ite, zq_itel, hlt, e16, e2.1, e2.2, zw, cw, h2 w (by omega), nI_shl w (by omega)]
    simp only [e87_52, e87_52a, e87_55, nI_1]
    exact ih (w + 1) _ _ (by omega)
theorem s_W_spread (h2 : ∀ j, j < 4 → I 2 j = zLE4 j) : zV n d 87 0 [.long wh, .null, .int x, .null, .null, .null, .null] [] I L Q ↔ Q (some (.int (spA wh x 4))) I L := by
  simp only [e87_0, e87_1, e87_2, e87_3, e87_3a, zpush_some, zpush_none, true_or, or_true, true_and, and_true, ↓reduceIte, zq_ite, zq_itel]
  exact l_W_spread h2 4 0 _ _ rfl
theorem l_W_distance (h2 : ∀ j, j < 4 → I 2 j = zLE4 j) (hW : WH wh B) (ha : a < 16) (hb : b < 16) : ∀ r k, k + r = 16 → (zV n (d + 1) 86 8 [.long wh, .null, .int (nI a), .int (nI b), .int (stI wh a k), .int (nI k)] [] I L Q ↔ Q (some (.int (nI (dsR B a b r k)))) I L) := by
  intro r
  induction r with
  | zero =>
    intro k hk
    have e : k = 16 := by omega
    subst e
    simp only [e86_8, e86_10, e86_12, e86_41, e86_43, zpush_some, zpush_none, true_or, or_true, true_and, and_true, ↓reduceIte, zq_ite, zq_itel, show nI 16 = (16 : Int32) from rfl, Int32.le_refl, dsR]
  | succ r ih =>
    intro k hk
    have hlt : ((16 : Int32) ≤ nI k) = False := eq_false (nI_ge (b := 16) (by omega) (by omega))
    have hb0 := bt0 (stI wh a k) (show b < 32 by omega)
    have hs := SB_st hW ha k b (by omega)
    rw [decide_eq_true hb, Bool.true_and] at hs
    rw [hs] at hb0
    rw [dsR]
    cases g : lev B a k b
    · have hb0 := hb0.trans (eq_true g)
      rw [if_neg Bool.false_ne_true]
      simp only [e86_8, e86_10, e86_12, e86_15, e86_17, e86_18, e86_19, e86_20, e86_21, e86_24, e86_26, e86_27, e86_28, e86_30, e86_33, zpush_some, zpush_none, true_or, or_true, true_and, and_true, ↓reduceIte, zq_ite, zq_itel, hlt, hb0, s_W_spread h2]
      simp only [e86_35, e86_35a, e86_38, nI_1]
      exact ih (k + 1) (by omega)
    · have hb0 := hb0.trans (eq_false (by rw [g]; decide))
      rw [if_pos rfl]
      simp only [e86_8, e86_10, e86_12, e86_15, e86_17, e86_18, e86_19, e86_20, e86_21, e86_24, e86_26, e86_27, e86_28, e86_30, e86_33, zpush_some, zpush_none, true_or, or_true, true_and, and_true, ↓reduceIte, zq_ite, zq_itel, hlt, hb0]
theorem s_W_distance (h2 : ∀ j, j < 4 → I 2 j = zLE4 j) (hW : WH wh B) (ha : a < 16) (hb : b < 16) : zV n (d + 1) 86 0 [.long wh, .null, .int (nI a), .int (nI b), .null, .null] [] I L Q ↔ Q (some (.int (nI (dN B a b)))) I L := by
  simp only [e86_0, e86_1, e86_2, e86_3, e86_5, e86_6, e86_6a, zpush_some, zpush_none, true_or, or_true, true_and, and_true, ↓reduceIte, zq_ite, zq_itel]
  exact l_W_distance h2 hW ha hb 16 0 rfl
theorem WH_not {y : Int64} (h : AB y B) : WH (y ^^^ (-1)) B := by
  intro c hc w hw
  rw [bl_xor, h c hc w hw]
  have : bl (-1) (16 * w + c) = true := (by decide +kernel : ∀ i, i < 64 → bl (-1) i = true) _ (by omega)
  rw [this]
  simp
/-- the check's queue -/
theorem l_M_away0 {v1 v2 : Int32} {v4 v5 v6 v7 : Value} (hQ : ∀ I', (∀ k j, k ≠ 78 → I' k j = I k j) → (∀ v, v < 16 → I' 78 v = -1) → zV n d 181 21 [.ref 62, .int v1, .int v2, .int 16, v4, v5, v6, v7] [] I' L Q) :
    ∀ r i I', i + r = 16 → (∀ k j, k ≠ 78 → I' k j = I k j) → (∀ v, v < i → I' 78 v = -1) → zV n d 181 2 [.ref 62, .int v1, .int v2, .int (nI i), v4, v5, v6, v7] [] I' L Q := by
  intro r
  induction r with
  | zero =>
    intro i I' hi h1 h2
    have e : i = 16 := by omega
    subst e
    simp only [e181_2, e181_3, e181_5, zpush_some, zpush_none, true_or, or_true, true_and, and_true, ↓reduceIte, zq_ite, zq_itel, show nI 16 = (16 : Int32) from rfl, Int32.le_refl]
    exact hQ I' h1 h2
  | succ r ih =>
    intro i I' hi h1 h2
    have hlt : ((16 : Int32) ≤ nI i) = False := eq_false (nI_ge (b := 16) (by omega) (by omega))
    have z1 : zin (nI i) 16 = true := zin_ok (by omega) (by decide)
    have c1 : (nI i).toNatClampNeg = i := nI_clamp (by omega)
    simp only [e181_2, e181_3, e181_5, e181_8, e181_9, e181_12, e181_13, e181_14, zpush_some, zpush_none, true_or, or_true, true_and, and_true, ↓reduceIte, zq_ite, zq_itel, hlt, zo_62, zr_62_25, zn_78, zw_78, zl_78, z1, c1]
    simp only [e181_15, e181_18, nI_1]
    refine ih (i + 1) _ (by omega) (fun k j g => by rw [zup_ne g]; exact h1 k j g) (fun l hl => ?_)
    by_cases e : l = i
    · subst e; exact zup_eq
    · rw [zup_nj e]; exact h2 l (by omega)
def BC (I : zi) (A q : Nat → Nat) (e : Nat) : Prop := (∀ v, v < 16 → I 78 v = aw (A v)) ∧ (∀ i, i < e → I 79 i = nI (q i)) ∧ ∀ v, A v ≤ 16
theorem aw_lt {d : Nat} (h : d < 16) : aw d = nI d := if_pos h
theorem l_M_away1 (hc : c < 16) {v2 : Int32} (hQ : ∀ I' A q e v7, (∀ k j, k ≠ 78 → k ≠ 79 → I' k j = I k j) → BC I' A q e → BF (bt x) c A q b e → b < e → (∀ w, w < 4 → bt x (lk (q b) w) = false → A (q b ^^^ 2 ^ w) < 16 ∧ A (q b ^^^ 2 ^ w) ≤ A (q b) + 1) → zV n (d + 1) 181 130 [.ref 62, .int x, .int v2, .int (nI e), .int (nI b), .int (nI (q b)), .int 4, v7] [] I' L Q) :
    ∀ r w I' A q e v7, w + r = 4 → (∀ k j, k ≠ 78 → k ≠ 79 → I' k j = I k j) → BC I' A q e → BF (bt x) c A q b e → b < e → (∀ w', w' < w → bt x (lk (q b) w') = false → A (q b ^^^ 2 ^ w') < 16 ∧ A (q b ^^^ 2 ^ w') ≤ A (q b) + 1) → zV n (d + 1) 181 58 [.ref 62, .int x, .int v2, .int (nI e), .int (nI b), .int (nI (q b)), .int (nI w), v7] [] I' L Q := by
  intro r
  induction r with
  | zero =>
    intro w I' A q e v7 hw h1 hC hF hb hp
    have e : w = 4 := by omega
    subst e
    simp only [e181_58, e181_60, e181_61, zpush_some, zpush_none, true_or, or_true, true_and, and_true, ↓reduceIte, zq_ite, zq_itel, show nI 4 = (4 : Int32) from rfl, Int32.le_refl]
    exact hQ I' A q _ v7 h1 hC hF hb hp
  | succ r ih =>
    intro w I' A q e v7 hw h1 hC hF hb hp
    have hw4 : w < 4 := by omega
    have hlt : ((4 : Int32) ≤ nI w) = False := eq_false (nI_ge (b := 4) (by omega) (by omega))
    obtain ⟨b1, b2, b3⟩ := hF.2.1 b hb
    obtain ⟨t1, t2, t3⟩ := xor_pow16 _ b1 w hw4
    obtain ⟨c1, c2, c3⟩ := id hC
    have zt : zin (nI (q b ^^^ 2 ^ w)) 16 = true := zin_ok t1 (by decide)
    have ct : (nI (q b ^^^ 2 ^ w)).toNatClampNeg = q b ^^^ 2 ^ w := nI_clamp (by omega)
    have hl := lk_lt _ b1 w hw4
    by_cases hA : A (q b ^^^ 2 ^ w) < 16
    · have g : (0 ≤ aw (A (q b ^^^ 2 ^ w))) = True := aw_ge.trans (eq_true hA)
      simp only [e181_58, e181_60, e181_61, e181_64, e181_66, e181_67, e181_69, e181_70, e181_71, e181_71a, e181_73, e181_74, e181_77, e181_79, e181_80, zpush_some, zpush_none, true_or, or_true, true_and, and_true, ↓reduceIte, zq_ite, zq_itel, hlt, h_flip _ b1 _ hw4, zo_62, zr_62_25, zn_78, zl_78, zt, ct, c1 _ t1, g]
      simp only [e181_124, e181_124a, e181_127, nI_1]
      refine ih (w + 1) I' A q e _ (by omega) h1 hC hF hb (fun w' hw' hB' => ?_)
      by_cases e1 : w' = w
      · subst e1; exact ⟨hA, BF_seen hF hb t1 hA⟩
      · exact hp w' (by omega) hB'
    · have g : (0 ≤ aw (A (q b ^^^ 2 ^ w))) = False := aw_ge.trans (eq_false hA)
      cases hB : bt x (lk (q b) w)
      · have he := BF_cnt hF t1 hA
        have zb' : zin (nI (q b)) 16 = true := zin_ok b1 (by decide)
        have cb' : (nI (q b)).toNatClampNeg = q b := nI_clamp (by omega)
        have ze : zin (nI e) 16 = true := zin_ok he (by decide)
        have ce : (nI e).toNatClampNeg = e := nI_clamp (by omega)
        simp only [e181_58, e181_60, e181_61, e181_64, e181_66, e181_67, e181_69, e181_70, e181_71, e181_71a, e181_73, e181_74, e181_77, e181_79, e181_80, e181_83, e181_84, e181_86, e181_88, e181_91, e181_94, e181_97, e181_98, e181_101, e181_103, e181_104, e181_107, e181_109, e181_110, e181_111, e181_112, e181_113, e181_114, e181_117, e181_118, e181_120, zpush_some, zpush_none, true_or, or_true, true_and, and_true, ↓reduceIte, zq_ite, zq_itel, hlt, h_flip _ b1 _ hw4, zo_62, zr_62_25, zr_62_26, zn_78, zw_78, zl_78, zn_79, zw_79, zl_79, zt, ct, c1 _ t1, g, s_M_linkAt b1 hw4, s_M_hasN x hl, hB, zb_f, not_true_eq_false, zb', cb', c1 _ b1, aw_lt b2, nI_1, ze, ce]
        simp only [e181_121, e181_124, e181_124a, e181_127, nI_1]
        have hF' := BF_push hF hb hw4 hA hB
        have qb : upN q e (q b ^^^ 2 ^ w) b = q b := upN_ne (by omega)
        have qn : q b ≠ q b ^^^ 2 ^ w := fun g => hA (by rw [← g]; exact b2)
        have Ab : upN A (q b ^^^ 2 ^ w) (A (q b) + 1) (q b) = A (q b) := upN_ne qn
        have nx := ih (w + 1) (zup (zup I' 78 (q b ^^^ 2 ^ w) (nI (A (q b) + 1))) 79 e (nI (q b ^^^ 2 ^ w))) (upN A (q b ^^^ 2 ^ w) (A (q b) + 1)) (upN q e (q b ^^^ 2 ^ w)) (e + 1) (.int (nI (q b ^^^ 2 ^ w))) (by omega) (fun k j a b => by rw [zup_ne b, zup_ne a]; exact h1 k j a b) ⟨fun v hv => ?_, fun i hi => ?_, fun v => ?_⟩ hF' (by omega) (fun w' hw' hB' => ?_)
        · rw [qb] at nx
          exact nx
        · rw [zup_ne (by decide)]
          by_cases e1 : v = q b ^^^ 2 ^ w
          · subst e1
            rw [zup_eq, upN_eq, aw_lt]
            have := hF'.2.1 e (by omega)
            rw [upN_eq, upN_eq] at this
            exact this.2.1
          · rw [zup_nj e1, upN_ne e1]; exact c1 v hv
        · by_cases e1 : i = e
          · subst e1; rw [zup_eq, upN_eq]
          · rw [zup_nj e1, zup_ne (by decide), upN_ne e1]; exact c2 i (by omega)
        · by_cases e1 : v = q b ^^^ 2 ^ w
          · subst e1; rw [upN_eq]; omega
          · rw [upN_ne e1]; exact c3 v
        · rw [qb, Ab]
          rw [qb] at hB'
          by_cases e1 : w' = w
          · subst e1
            rw [upN_eq]
            have := hF'.2.1 e (by omega)
            rw [upN_eq, upN_eq] at this
            exact ⟨this.2.1, Nat.le_refl _⟩
          · have := hp w' (by omega) hB'
            rw [upN_ne (fun g => hA (by rw [← g]; exact this.1))]
            exact this
      · simp only [e181_58, e181_60, e181_61, e181_64, e181_66, e181_67, e181_69, e181_70, e181_71, e181_71a, e181_73, e181_74, e181_77, e181_79, e181_80, e181_83, e181_84, e181_86, e181_88, e181_91, e181_94, zpush_some, zpush_none, true_or, or_true, true_and, and_true, ↓reduceIte, zq_ite, zq_itel, hlt, h_flip _ b1 _ hw4, zo_62, zr_62_25, zn_78, zl_78, zt, ct, c1 _ t1, g, s_M_linkAt b1 hw4, s_M_hasN x hl, hB, zb_t, zz_1, not_false_eq_true]
        simp only [e181_124, e181_124a, e181_127, nI_1]
        refine ih (w + 1) I' A q e _ (by omega) h1 hC hF hb (fun w' hw' hB' => ?_)
        by_cases e1 : w' = w
        · subst e1; rw [hB] at hB'; cases hB'
        · exact hp w' (by omega) hB'
theorem l_M_away2 (hc : c < 16) {v2 : Int32} (hQ : ∀ I', (∀ k j, k ≠ 78 → k ≠ 79 → I' k j = I k j) → (∀ v, v < 16 → I' 78 v = aw (dN (bt x) c v)) → Q none I' L) :
    ∀ r b I' A q e v5 v6 v7, b + r = 16 → (∀ k j, k ≠ 78 → k ≠ 79 → I' k j = I k j) → BC I' A q e → BF (bt x) c A q b e → zV n (d + 1) 181 40 [.ref 62, .int x, .int v2, .int (nI e), .int (nI b), v5, v6, v7] [] I' L Q := by
  have fin : ∀ b I' A q v5 v6 v7, (∀ k j, k ≠ 78 → k ≠ 79 → I' k j = I k j) → BC I' A q b → BF (bt x) c A q b b → zV n (d + 1) 181 40 [.ref 62, .int x, .int v2, .int (nI b), .int (nI b), v5, v6, v7] [] I' L Q := fun b I' A q v5 v6 v7 h1 hC hF => by
    simp only [e181_40, e181_42, e181_43, e181_136, zpush_some, zpush_none, true_or, or_true, true_and, and_true, ↓reduceIte, zq_ite, zq_itel, Int32.le_refl]
    exact hQ I' h1 (fun v hv => by rw [hC.1 v hv, BF_end hF hC.2.2 hv])
  intro r
  induction r with
  | zero =>
    intro b I' A q e v5 v6 v7 hb h1 hC hF
    have e1 := hF.1
    have e2 : b = e := by omega
    subst e2
    exact fin b I' A q v5 v6 v7 h1 hC hF
  | succ r ih =>
    intro b I' A q e v5 v6 v7 hb h1 hC hF
    have e1 := hF.1
    by_cases g : b = e
    · subst g
      exact fin b I' A q v5 v6 v7 h1 hC hF
    · have hlt : (nI e ≤ nI b) = False := eq_false (nI_ge (by omega) (by omega))
      have zb' : zin (nI b) 16 = true := zin_ok (by omega) (by decide)
      have cb' : (nI b).toNatClampNeg = b := nI_clamp (by omega)
      simp only [e181_40, e181_42, e181_43, e181_46, e181_47, e181_50, e181_52, e181_53, e181_53a, e181_55, e181_56, e181_56a, zpush_some, zpush_none, true_or, or_true, true_and, and_true, ↓reduceIte, zq_ite, zq_itel, hlt, zo_62, zr_62_26, zn_79, zl_79, zb', cb', hC.2.1 b (by omega)]
      refine l_M_away1 (I := I) (b := b) hc (fun I2 A2 q2 e2 v7' x1 x2 x3 x4 x5 => ?_) 4 0 I' A q e _ rfl h1 hC hF (by omega) (fun w hw => absurd hw (Nat.not_lt_zero w))
      simp only [e181_130, e181_130a, e181_133, nI_1]
      exact ih (b + 1) I2 A2 q2 e2 _ _ _ (by omega) x1 x2 (BF_next x3 x4 x5)
theorem t_M_layAway (hc : c < 16) (hQ : ∀ I', (∀ k j, k ≠ 78 → k ≠ 79 → I' k j = I k j) → (∀ v, v < 16 → I' 78 v = aw (dN (bt x) c v)) → Q none I' L) : zV n (d + 1) 181 0 [.ref 62, .int x, .int (nI c), .null, .null, .null, .null, .null] [] I L Q := by
  have zc : zin (nI c) 16 = true := zin_ok hc (by decide)
  have cc : (nI c).toNatClampNeg = c := nI_clamp (by omega)
  simp only [e181_0, e181_1, zpush_some, zpush_none, true_or, or_true, true_and, and_true, ↓reduceIte, zq_ite, zq_itel]
  refine l_M_away0 (I := I) (fun I1 h1 h2 => ?_) 16 0 I rfl (fun _ _ _ => rfl) (fun v hv => absurd hv (Nat.not_lt_zero v))
  simp only [e181_21, e181_22, e181_25, e181_26, e181_27, e181_28, e181_29, e181_32, e181_33, e181_34, e181_35, e181_36, e181_37, e181_38, e181_38a, zpush_some, zpush_none, true_or, or_true, true_and, and_true, ↓reduceIte, zq_ite, zq_itel, zo_62, zr_62_25, zr_62_26, zn_78, zw_78, zl_78, zn_79, zw_79, zl_79, zc, cc, zi_0, zt_0, Nat.reduceLT, decide_true]
  refine l_M_away2 (I := I) hc hQ 16 0 _ (upN (fun _ => 16) c 0) (fun _ => c) 1 _ _ _ rfl (fun k j a b => by rw [zup_ne b, zup_ne a]; exact h1 k j a) ⟨fun v hv => ?_, fun i hi => ?_, fun v => ?_⟩ (BF_start hc)
  · rw [zup_ne (by decide)]
    by_cases e : v = c
    · subst e; rw [zup_eq, upN_eq]; rfl
    · rw [zup_nj e, upN_ne e, h2 v hv]; rfl
  · have e : i = 0 := by omega
    subst e
    exact zup_eq
  · by_cases e : v = c
    · subst e; rw [upN_eq]; decide
    · rw [upN_ne e]; exact Nat.le_refl _
theorem p_far (h : Inv I L) (h2 : ∀ j, j < 4 → I 2 j = zLE4 j) (a b : Int32) : zV n (d + 3) 85 0 [.ref 3, .int a, .int b, .null] [] I L (fun v1 I1 L1 => zV n (d + 3) 180 0 [.ref 62, .int a, .int b] [] I1 L1 (fun v2 I2 L2 => same v1 v2 ∧ Inv I2 L2)) := by
  obtain ⟨m, K, s, hm, hok, ht, hX, hM, hK⟩ := h.view
  rcases rng a 15 (by decide) (a := 16) (b := 15) rfl rfl with g1 | ⟨g1, g2, g3⟩ | ⟨i, hi, rfl, g1, g2, g3⟩
  · simp only [e85_0, e85_1, e85_4, e85_7, e85_8, e85_11, e85_14, e85_15, e85_16, e85_17, e85_20, e85_23, e85_26, e85_27, e85_28, e85_29, e85_32, e85_33, e85_34, e85_36, e85_39, e85_41, e85_44, e85_45, e180_0, e180_1, e180_2, e180_4, e180_7, e180_10, e180_11, e180_12, e180_14, e180_17, e180_20, e180_21, e180_22, e180_23, e180_24, e180_27, e180_28, e180_29, e180_30, e180_33, e180_34, e180_37, e180_38, e180_39, e180_42, e180_44, e180_47, e180_48, e180_51, e180_52, e180_53, zpush_some, zpush_none, true_or, or_true, true_and, and_true, ↓reduceIte, zq_ite, zq_itel, s_M_in, s_X_isCorner, g1, not_true_eq_false]
    exact ⟨same_i, h⟩
  · simp only [e85_0, e85_1, e85_4, e85_7, e85_8, e85_11, e85_14, e85_15, e85_16, e85_17, e85_20, e85_23, e85_26, e85_27, e85_28, e85_29, e85_32, e85_33, e85_34, e85_36, e85_39, e85_41, e85_44, e85_45, e180_0, e180_1, e180_2, e180_4, e180_7, e180_10, e180_11, e180_12, e180_14, e180_17, e180_20, e180_21, e180_22, e180_23, e180_24, e180_27, e180_28, e180_29, e180_30, e180_33, e180_34, e180_37, e180_38, e180_39, e180_42, e180_44, e180_47, e180_48, e180_51, e180_52, e180_53, zpush_some, zpush_none, true_or, or_true, true_and, and_true, ↓reduceIte, zq_ite, zq_itel, s_M_in, s_X_isCorner, g1, g2, g3, not_true_eq_false]
    exact ⟨same_i, h⟩
  · rcases rng b 15 (by decide) (a := 16) (b := 15) rfl rfl with f1 | ⟨f1, f2, f3⟩ | ⟨j, hj, rfl, f1, f2, f3⟩
    · simp only [e85_0, e85_1, e85_4, e85_7, e85_8, e85_11, e85_14, e85_15, e85_16, e85_17, e85_20, e85_23, e85_26, e85_27, e85_28, e85_29, e85_32, e85_33, e85_34, e85_36, e85_39, e85_41, e85_44, e85_45, e180_0, e180_1, e180_2, e180_4, e180_7, e180_10, e180_11, e180_12, e180_14, e180_17, e180_20, e180_21, e180_22, e180_23, e180_24, e180_27, e180_28, e180_29, e180_30, e180_33, e180_34, e180_37, e180_38, e180_39, e180_42, e180_44, e180_47, e180_48, e180_51, e180_52, e180_53, zpush_some, zpush_none, true_or, or_true, true_and, and_true, ↓reduceIte, zq_ite, zq_itel, s_M_in, s_X_isCorner, g1, g2, g3, f1, zz_1, not_true_eq_false]
      exact ⟨same_i, h⟩
    · simp only [e85_0, e85_1, e85_4, e85_7, e85_8, e85_11, e85_14, e85_15, e85_16, e85_17, e85_20, e85_23, e85_26, e85_27, e85_28, e85_29, e85_32, e85_33, e85_34, e85_36, e85_39, e85_41, e85_44, e85_45, e180_0, e180_1, e180_2, e180_4, e180_7, e180_10, e180_11, e180_12, e180_14, e180_17, e180_20, e180_21, e180_22, e180_23, e180_24, e180_27, e180_28, e180_29, e180_30, e180_33, e180_34, e180_37, e180_38, e180_39, e180_42, e180_44, e180_47, e180_48, e180_51, e180_52, e180_53, zpush_some, zpush_none, true_or, or_true, true_and, and_true, ↓reduceIte, zq_ite, zq_itel, s_M_in, s_X_isCorner, g1, g2, g3, f1, f2, f3, zz_1, not_true_eq_false]
      exact ⟨same_i, h⟩
    · have hW := WH_not (XC_B hX)
      have dl := dN_16 (B := bt s.2.2.2.1) (a := i) (v := j)
      have zj : zin (nI j) 16 = true := zin_ok hj (by decide)
      have cj : (nI j).toNatClampNeg = j := nI_clamp (by omega)
      simp only [e85_0, e85_1, e85_4, e85_7, e85_8, e85_11, e85_14, e85_15, e85_16, e85_17, e85_20, e85_23, e85_26, e85_27, e85_28, e85_29, e85_32, zpush_some, zpush_none, true_or, or_true, true_and, and_true, ↓reduceIte, zq_ite, zq_itel, s_X_isCorner, g1, g2, f1, f2, zz_1, not_false_eq_true, zo_3, zr_3_5, zo_14, s_W_distance h2 hW hi hj]
      by_cases hd : dN (bt s.2.2.2.1) i j < 16
      · have n16 : (nI (dN (bt s.2.2.2.1) i j) = 16) = False := (nI_eqN (b := 16) (by omega) (by decide)).trans (eq_false (by omega))
        simp only [e85_33, e85_34, e85_36, e85_39, e85_41, e85_44, e85_45, e180_0, e180_1, e180_2, e180_4, e180_7, e180_10, e180_11, e180_12, e180_14, e180_17, e180_20, e180_21, e180_22, e180_23, e180_24, e180_27, e180_28, e180_29, e180_30, zpush_some, zpush_none, true_or, or_true, true_and, and_true, ↓reduceIte, zq_ite, zq_itel, n16, not_false_eq_true, s_M_in, g1, g3, f1, f3, zz_1, zo_62, zr_62_16, zn_70, zl_70, zi_2, zt_2, Nat.reduceLT, decide_true, MC_x hM]
        refine t_M_layAway hi (fun I1 x1 x2 => ?_)
        have hge : (0 ≤ nI (dN (bt s.2.2.2.1) i j)) = True := h0q (by omega)
        have x3 : I1 78 j = nI (dN (bt s.2.2.2.1) i j) := (x2 j hj).trans (aw_lt hd)
        simp only [e180_30, e180_33, e180_34, e180_37, e180_38, e180_39, e180_42, e180_44, e180_47, e180_48, e180_51, e180_52, e180_53, zpush_some, zpush_none, true_or, or_true, true_and, and_true, ↓reduceIte, zq_ite, zq_itel, zo_62, zr_62_25, zn_78, zl_78, zj, cj, x3, hge]
        refine ⟨same_i, inv_other h (fun k j hk => ?_) (fun _ _ _ => rfl)⟩
        unfold cubeCell at hk
        exact x1 k j (by omega) (by omega)
      · have e16 : dN (bt s.2.2.2.1) i j = 16 := by omega
        have n16 : (nI (dN (bt s.2.2.2.1) i j) = 16) = True := eq_true (by rw [e16]; rfl)
        simp only [e85_33, e85_34, e85_36, e85_39, e85_41, e85_44, e85_45, e180_0, e180_1, e180_2, e180_4, e180_7, e180_10, e180_11, e180_12, e180_14, e180_17, e180_20, e180_21, e180_22, e180_23, e180_24, e180_27, e180_28, e180_29, e180_30, zpush_some, zpush_none, true_or, or_true, true_and, and_true, ↓reduceIte, zq_ite, zq_itel, n16, not_true_eq_false, s_M_in, g1, g3, f1, f3, zz_1, not_false_eq_true, zo_62, zr_62_16, zn_70, zl_70, zi_2, zt_2, Nat.reduceLT, decide_true, MC_x hM]
        refine t_M_layAway hi (fun I1 x1 x2 => ?_)
        have hge : (0 ≤ aw (dN (bt s.2.2.2.1) i j)) = False := aw_ge.trans (eq_false hd)
        simp only [e180_30, e180_33, e180_34, e180_37, e180_38, e180_39, e180_42, e180_44, e180_47, e180_48, e180_51, e180_52, e180_53, zpush_some, zpush_none, true_or, or_true, true_and, and_true, ↓reduceIte, zq_ite, zq_itel, zo_62, zr_62_25, zn_78, zl_78, zj, cj, x2 j hj, hge]
        refine ⟨same_i, inv_other h (fun k j hk => ?_) (fun _ _ _ => rfl)⟩
        unfold cubeCell at hk
        exact x1 k j (by omega) (by omega)
end
