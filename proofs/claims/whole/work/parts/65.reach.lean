/-! REACH -/
theorem gset_bit (b : Nat → Bool) {i : Nat} (hi : i < 32) : ∀ N, N ≤ 32 → bt (gset b N) i = (decide (i < N) && b i)
  | 0, _ => by rw [gset, b_0]; simp
  | N + 1, h => by
    rw [gset, b_or, gset_bit b hi N (by omega)]
    by_cases e : i = N
    · subst e
      cases hb : b i
      · simp [b_0]
      · rw [if_pos rfl, bt_shl (by omega) hi]; simp
    · have e2 : bt (if b N = true then (1 : Int32) <<< (nI N &&& 31) else 0) i = false := by
        split
        · rw [bt_shl (by omega) hi]; exact decide_eq_false e
        · exact b_0 i
      rw [e2, Bool.or_false]
      congr 1
      by_cases g : i < N
      · rw [decide_eq_true g, decide_eq_true (by omega)]
      · rw [decide_eq_false g, decide_eq_false (by omega)]
def fxN (wh : Int64) (c : Nat) : Nat → Nat
  | 0 => 0
  | k + 1 => if stI wh c (k + 1) = stI wh c k then fxN wh c k else k + 1
def frN (A : Nat → Nat) : Nat → Nat
  | 0 => 0
  | k + 1 => if A k < 16 ∧ frN A k < A k then A k else frN A k
theorem lev_15 {B : Nat → Bool} {a v : Nat} : lev B a 15 v = decide (dN B a v < 16) := by
  by_cases h : dN B a v < 16
  · rw [decide_eq_true h]
    have := lev_le (dN_lt h) (15 - dN B a v)
    rw [show dN B a v + (15 - dN B a v) = 15 by omega] at this
    exact this
  · rw [decide_eq_false h]
    cases g : lev B a 15 v
    · rfl
    · have := dN_le (j := 15) (by decide) g
      omega
theorem fx_max {wh : Int64} {B : Nat → Bool} {c : Nat} (hW : WH wh B) (hc : c < 16) : ∀ k, k ≤ 15 → (∀ v, v < 16 → dN B c v ≤ k → dN B c v ≤ fxN wh c k) ∧ (fxN wh c k = 0 ∨ ∃ v, v < 16 ∧ dN B c v = fxN wh c k) ∧ fxN wh c k ≤ k
  | 0, _ => ⟨fun v _ h => h, Or.inl rfl, Nat.le_refl _⟩
  | k + 1, hk => by
    obtain ⟨h1, h2, h3⟩ := fx_max hW hc k (by omega)
    have S1 := SB_st hW hc (k + 1)
    have S0 := SB_st hW hc k
    rw [fxN]
    by_cases e : stI wh c (k + 1) = stI wh c k
    · rw [if_pos e]
      refine ⟨fun v hv hd => ?_, h2, by omega⟩
      by_cases g : dN B c v = k + 1
      · have l1 := dN_lt (B := B) (a := c) (v := v) (by omega)
        rw [g] at l1
        have s1 := S1 v (by omega)
        have s0 := S0 v (by omega)
        rw [e, s0, l1, decide_eq_true hv, Bool.true_and, Bool.true_and] at s1
        have := dN_le (B := B) (a := c) (v := v) (j := k) (by omega) s1
        omega
      · exact h1 v hv (by omega)
    · rw [if_neg e]
      refine ⟨fun v hv hd => hd, Or.inr ?_, Nat.le_refl _⟩
      by_cases hall : ∀ v, v < 16 → lev B c (k + 1) v = lev B c k v
      · exact absurd (bt_ext fun i hi => by
          rw [S1 i hi, S0 i hi]
          by_cases g : i < 16
          · rw [hall i g]
          · rw [decide_eq_false g, Bool.false_and, Bool.false_and]) e
      · obtain ⟨v, hv⟩ := Classical.not_forall.mp hall
        obtain ⟨hv1, hv2⟩ := Classical.not_imp.mp hv
        refine ⟨v, hv1, ?_⟩
        cases g0 : lev B c k v
        · cases g1 : lev B c (k + 1) v
          · rw [g0, g1] at hv2; exact absurd rfl hv2
          · have a1 := dN_le (B := B) (a := c) (v := v) (j := k + 1) (by omega) g1
            by_cases g2 : dN B c v ≤ k
            · have := lev_le (dN_lt (B := B) (a := c) (v := v) (by omega)) (k - dN B c v)
              rw [show dN B c v + (k - dN B c v) = k by omega, g0] at this
              cases this
            · omega
        · rw [g0, lev_up g0] at hv2; exact absurd rfl hv2
theorem fr_max (A : Nat → Nat) : ∀ k, (∀ v, v < k → A v < 16 → A v ≤ frN A k) ∧ (frN A k = 0 ∨ ∃ v, v < k ∧ A v = frN A k ∧ A v < 16)
  | 0 => ⟨fun v h => absurd h (Nat.not_lt_zero v), Or.inl rfl⟩
  | k + 1 => by
    obtain ⟨h1, h2⟩ := fr_max A k
    rw [frN]
    by_cases g : A k < 16 ∧ frN A k < A k
    · rw [if_pos g]
      refine ⟨fun v hv ha => ?_, Or.inr ⟨k, Nat.lt_succ_self k, rfl, g.1⟩⟩
      by_cases e : v = k
      · subst e; exact Nat.le_refl _
      · have := h1 v (by omega) ha
        omega
    · rw [if_neg g]
      refine ⟨fun v hv ha => ?_, ?_⟩
      · by_cases e : v = k
        · subst e; omega
        · exact h1 v (by omega) ha
      · rcases h2 with h2 | ⟨v, v1, v2, v3⟩
        · exact Or.inl h2
        · exact Or.inr ⟨v, by omega, v2, v3⟩
theorem fr_lt (A : Nat → Nat) (k : Nat) : frN A k < 16 := by
  rcases (fr_max A k).2 with h | ⟨v, _, h1, h2⟩
  · omega
  · omega
theorem fr_fx {wh : Int64} {B : Nat → Bool} {c : Nat} (hW : WH wh B) (hc : c < 16) : frN (dN B c) 16 = fxN wh c 15 := by
  obtain ⟨a1, a2, a3⟩ := fx_max hW hc 15 (by decide)
  obtain ⟨b1, b2⟩ := fr_max (dN B c) 16
  have h1 : frN (dN B c) 16 ≤ fxN wh c 15 := by
    rcases b2 with h | ⟨v, v1, v2, v3⟩
    · omega
    · have := a1 v v1 (by omega)
      omega
  have h2 : fxN wh c 15 ≤ frN (dN B c) 16 := by
    rcases a2 with h | ⟨v, v1, v2⟩
    · omega
    · have := b1 v v1 (by omega)
      omega
  omega
section
variable {n d : Nat} {I I' : zi} {L L' : zl} {Q : zq} {K K' : Nat → Nat} {s s' s0 : Cs} {k m q i a b l N p j c e : Nat} {wh : Int64} {B : Nat → Bool} {x : Int32}
theorem l_X_reach (h2 : ∀ j, j < 4 → I 2 j = zLE4 j) {v1 : Int32} : ∀ r k v5, k + 1 + r = 16 → (zV n (d + 1) 88 18 [.ref 3, .int v1, .int (stI (L 14 5 ^^^ (-1)) c k), .int (nI (fxN (L 14 5 ^^^ (-1)) c k)), .int (nI (k + 1)), v5] [] I L Q ↔ Q (some (.int (stI (L 14 5 ^^^ (-1)) c 15))) (zup I 3 12 (nI (fxN (L 14 5 ^^^ (-1)) c 15))) L) := by
  intro r
  induction r with
  | zero =>
    intro k v5 hk
    have e : k = 15 := by omega
    subst e
    simp only [e88_18, e88_20, e88_22, e88_64, e88_65, e88_66, e88_67, e88_70, zpush_some, zpush_none, true_or, or_true, true_and, and_true, ↓reduceIte, zq_ite, zq_itel, show nI (15 + 1) = (16 : Int32) from rfl, Int32.le_refl, zo_3, s_X_tell]
  | succ r ih =>
    intro k v5 hk
    have hlt : ((16 : Int32) ≤ nI (k + 1)) = False := eq_false (nI_ge (b := 16) (by omega) (by omega))
    have e := ih (k + 1) (.int (stI (L 14 5 ^^^ (-1)) c (k + 1))) (by omega)
    rw [fxN] at e
    have e0 : spA (L 14 5 ^^^ (-1)) (stI (L 14 5 ^^^ (-1)) c k) 4 = stI (L 14 5 ^^^ (-1)) c (k + 1) := rfl
    by_cases g : stI (L 14 5 ^^^ (-1)) c (k + 1) = stI (L 14 5 ^^^ (-1)) c k
    · rw [if_pos g] at e
      have g' := eq_true g
      simp only [e88_18, e88_20, e88_22, e88_25, e88_26, e88_29, e88_32, e88_35, e88_36, e88_37, e88_40, e88_40a, e88_42, e88_44, e88_45, e88_48, e88_50, e88_53, e88_54, e88_54a, e88_55, e88_57, zpush_some, zpush_none, true_or, or_true, true_and, and_true, ↓reduceIte, zq_ite, zq_itel, hlt, zo_3, zr_3_5, zo_14, s_W_spread h2, e0, g']
      simp only [e88_58, e88_58a, e88_61, nI_1]
      exact e
    · rw [if_neg g] at e
      have g' := eq_false g
      simp only [e88_18, e88_20, e88_22, e88_25, e88_26, e88_29, e88_32, e88_35, e88_36, e88_37, e88_40, e88_40a, e88_42, e88_44, e88_45, e88_48, e88_50, e88_53, e88_54, e88_54a, e88_55, e88_57, zpush_some, zpush_none, true_or, or_true, true_and, and_true, ↓reduceIte, zq_ite, zq_itel, hlt, zo_3, zr_3_5, zo_14, s_W_spread h2, e0, g']
      simp only [e88_58, e88_58a, e88_61, nI_1]
      exact e
theorem l_M_reach {A : Nat → Nat} (hA : ∀ v, v < 16 → I 78 v = aw (A v)) {v1 : Int32} : ∀ r k, k + r = 16 → (zV n (d + 1) 182 30 [.ref 62, .int v1, .int (gset (fun v => decide (A v < 16)) k), .int (nI (frN A k)), .int (nI k)] [] I L Q ↔ Q (some (.int (gset (fun v => decide (A v < 16)) 16))) (zup I 62 6 (nI (frN A 16))) L) := by
  intro r
  induction r with
  | zero =>
    intro k hk
    have e : k = 16 := by omega
    subst e
    simp only [e182_30, e182_32, e182_34, e182_87, e182_88, e182_89, e182_92, e182_93, e182_94, zpush_some, zpush_none, true_or, or_true, true_and, and_true, ↓reduceIte, zq_ite, zq_itel, show nI 16 = (16 : Int32) from rfl, Int32.le_refl, zo_62, s_M_tells]
  | succ r ih =>
    intro k hk
    have hlt : ((16 : Int32) ≤ nI k) = False := eq_false (nI_ge (b := 16) (by omega) (by omega))
    have zk : zin (nI k) 16 = true := zin_ok (by omega) (by decide)
    have ck : (nI k).toNatClampNeg = k := nI_clamp (by omega)
    have fl := fr_lt A k
    have e := ih (k + 1) (by omega)
    rw [gset, frN] at e
    have hAk := hA k (by omega)
    by_cases g : A k < 16
    · have ge : (0 ≤ nI (A k)) = True := h0q (by omega)
      have hAk := hAk.trans (aw_lt g)
      rw [decide_eq_true g, if_pos rfl] at e
      have hle : (nI (A k) ≤ nI (frN A k)) = (A k ≤ frN A k) := nI_leN (by omega) (by omega)
      by_cases g2 : frN A k < A k
      · rw [if_pos ⟨g, g2⟩] at e
        have hle := hle.trans (eq_false (by omega))
        simp only [e182_30, e182_32, e182_34, e182_37, e182_38, e182_39, e182_42, e182_44, e182_45, e182_48, e182_49, e182_52, e182_53, e182_55, e182_56, e182_57, e182_58, e182_59, e182_62, e182_64, e182_65, e182_66, e182_69, e182_70, e182_73, e182_75, e182_76, e182_79, e182_80, e182_80a, zpush_some, zpush_none, true_or, or_true, true_and, and_true, ↓reduceIte, zq_ite, zq_itel, hlt, zo_62, zr_62_25, zn_78, zl_78, zk, ck, hAk, ge, hle]
        simp only [e182_81, e182_81a, e182_84, nI_1]
        exact e
      · rw [if_neg (fun q => g2 q.2)] at e
        have hle := hle.trans (eq_true (by omega))
        simp only [e182_30, e182_32, e182_34, e182_37, e182_38, e182_39, e182_42, e182_44, e182_45, e182_48, e182_49, e182_52, e182_53, e182_55, e182_56, e182_57, e182_58, e182_59, e182_62, e182_64, e182_65, e182_66, e182_69, e182_70, e182_73, e182_75, e182_76, e182_79, e182_80, e182_80a, zpush_some, zpush_none, true_or, or_true, true_and, and_true, ↓reduceIte, zq_ite, zq_itel, hlt, zo_62, zr_62_25, zn_78, zl_78, zk, ck, hAk, ge, hle]
        simp only [e182_81, e182_81a, e182_84, nI_1]
        exact e
    · have ge : ((0 : Int32) ≤ -1) = False := h0m
      have hAk : I 78 k = -1 := by rw [hAk]; exact if_neg g
      have hle : ((-1 : Int32) ≤ nI (frN A k)) = True := eq_true (by rw [Int32.le_iff_toInt_le, nI_toInt (by omega)]; have : (-1 : Int32).toInt = -1 := rfl; omega)
      rw [decide_eq_false g, if_neg Bool.false_ne_true, if_neg (fun q => g q.1)] at e
      simp only [e182_30, e182_32, e182_34, e182_37, e182_38, e182_39, e182_42, e182_44, e182_45, e182_48, e182_49, e182_52, e182_53, e182_55, e182_56, e182_57, e182_58, e182_59, e182_62, e182_64, e182_65, e182_66, e182_69, e182_70, e182_73, e182_75, e182_76, e182_79, e182_80, e182_80a, zpush_some, zpush_none, true_or, or_true, true_and, and_true, ↓reduceIte, zq_ite, zq_itel, hlt, zo_62, zr_62_25, zn_78, zl_78, zk, ck, hAk, ge, hle]
      simp only [e182_81, e182_81a, e182_84, nI_1]
      exact e
theorem p_reach (h : Inv I L) (h2 : ∀ j, j < 4 → I 2 j = zLE4 j) (a : Int32) : zV n (d + 3) 88 0 [.ref 3, .int a, .null, .null, .null, .null] [] I L (fun v1 I1 L1 => zV n (d + 3) 182 0 [.ref 62, .int a, .null, .null, .null] [] I1 L1 (fun v2 I2 L2 => same v1 v2 ∧ Inv I2 L2)) := by
  obtain ⟨m, K, s, hm, hok, ht, hX, hM, hK⟩ := h.view
  rcases rng a 15 (by decide) (a := 16) (b := 15) rfl rfl with g1 | ⟨g1, g2, g3⟩ | ⟨c, hc, rfl, g1, g2, g3⟩
  · simp only [e88_0, e88_1, e88_4, e88_7, e88_8, e88_9, e88_10, e88_11, e88_12, e88_13, e88_14, e88_14a, e88_15, e88_16, e88_16a, e182_0, e182_1, e182_2, e182_4, e182_7, e182_10, e182_11, e182_12, e182_13, e182_14, e182_17, e182_18, e182_19, e182_20, e182_23, e182_24, e182_25, e182_26, e182_26a, e182_27, e182_28, e182_28a, zpush_some, zpush_none, true_or, or_true, true_and, and_true, ↓reduceIte, zq_ite, zq_itel, s_M_in, s_X_isCorner, g1, not_true_eq_false]
    exact ⟨same_i, h⟩
  · simp only [e88_0, e88_1, e88_4, e88_7, e88_8, e88_9, e88_10, e88_11, e88_12, e88_13, e88_14, e88_14a, e88_15, e88_16, e88_16a, e182_0, e182_1, e182_2, e182_4, e182_7, e182_10, e182_11, e182_12, e182_13, e182_14, e182_17, e182_18, e182_19, e182_20, e182_23, e182_24, e182_25, e182_26, e182_26a, e182_27, e182_28, e182_28a, zpush_some, zpush_none, true_or, or_true, true_and, and_true, ↓reduceIte, zq_ite, zq_itel, s_M_in, s_X_isCorner, g1, g2, g3, not_true_eq_false]
    exact ⟨same_i, h⟩
  · have hW := WH_not (XC_B hX)
    simp only [e88_0, e88_1, e88_4, e88_7, e88_8, e88_9, e88_10, e88_11, e88_12, e88_13, e88_14, e88_14a, e88_15, e88_16, e88_16a, zpush_some, zpush_none, true_or, or_true, true_and, and_true, ↓reduceIte, zq_ite, zq_itel, s_X_isCorner, g1, g2, zz_1, not_false_eq_true]
    refine (l_X_reach (c := c) h2 15 0 _ rfl).mpr ?_
    have x0 : ∀ {v : Int32}, zup I 3 12 v 70 2 = s.2.2.2.1 := fun {v} => by rw [zup_ne (by decide)]; exact MC_x hM
    simp only [e182_0, e182_1, e182_2, e182_4, e182_7, e182_10, e182_11, e182_12, e182_13, e182_14, e182_17, e182_18, e182_19, e182_20, zpush_some, zpush_none, true_or, or_true, true_and, and_true, ↓reduceIte, zq_ite, zq_itel, s_M_in, g1, g3, zz_1, not_false_eq_true, zo_62, zr_62_16, zn_70, zl_70, zi_2, zt_2, Nat.reduceLT, decide_true, x0]
    refine t_M_layAway hc (fun I1 x1 x2 => ?_)
    simp only [e182_20, e182_23, e182_24, e182_25, e182_26, e182_26a, e182_27, e182_28, e182_28a, zpush_some, zpush_none, true_or, or_true, true_and, and_true, ↓reduceIte, zq_ite, zq_itel]
    refine (l_M_reach (A := dN (bt s.2.2.2.1) c) x2 16 0 rfl).mpr ?_
    have es : gset (fun v => decide (dN (bt s.2.2.2.1) c v < 16)) 16 = stI (L 14 5 ^^^ (-1)) c 15 := bt_ext fun i hi => by
      rw [gset_bit _ hi 16 (by decide), SB_st hW hc 15 i hi, lev_15]
    rw [es, fr_fx hW hc]
    refine ⟨same_i, inv_told h ?_ (fun k j hk => ?_) (fun _ _ _ => rfl)⟩
    · rw [zup_ne (by decide), zup_eq, x1 3 12 (by decide) (by decide), zup_eq]
    · unfold cubeCell at hk
      have e6 : zup I1 62 6 (nI (fxN (L 14 5 ^^^ (-1)) c 15)) k j = I1 k j := by
        by_cases g : k = 62
        · exact zup_nj (by omega)
        · exact zup_ne g
      rw [e6, x1 k j (by omega) (by omega)]
      by_cases g : k = 3
      · subst g
        exact zup_nj (by omega)
      · exact zup_ne g
end
