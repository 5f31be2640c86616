/-! PARTS -/
section
variable {n d : Nat} {I I' : zi} {L L' : zl} {Q : zq} {K K' : Nat → Nat} {s0 : Cs} {k q i l N p j c t u a b w : Nat} {x : Int32} {B : Nat → Bool} {U U' : Nat → Nat → Bool} {y : Int64} {s o : Bs}
def UB (z : Int64) (U : Nat → Nat → Bool) : Prop := ∀ c, c < 16 → ∀ w, w < 4 → bl z (16 * w + c) = U c w
def FF (B : Nat → Bool) (U : Nat → Nat → Bool) : Nat → Nat → Bool := fun c w => B (lk c w) || U c w
def XS (I : zi) (s : Bs) (x : Int32) : Prop := (∀ i, i < s.2.1 → I 25 i = nI (s.1 i)) ∧ (∀ v, v < 16 → s.2.2 v < 4 → I 26 v = nI (s.2.2 v)) ∧ ∀ i, i < 32 → bt x i = (decide (i < 16) && decide (s.2.2 i < 5))
theorem l_P_in (hB : AB y B) (hU : UB (L 24 2) U) (hk : k < 16) {v3 v4 : Int32} (hQ : ∀ I' x v9 v10, (∀ k j, k ≠ 25 → k ≠ 26 → I' k j = I k j) → XS I' o x → zV n (d + 1) 91 144 [.ref 24, .long y, .null, .int v3, .int v4, .int x, .int (nI o.2.1), .int (nI k), .int 4, v9, v10] [] I' L Q) :
    ∀ r w (s : Bs) rk x I' v9 v10, w + r = 4 → VI (FF B U) a s rk → k < s.2.1 → XS I' s x → (∀ k j, k ≠ 25 → k ≠ 26 → I' k j = I k j) → binr (FF B U) k r w s = o → zV n (d + 1) 91 35 [.ref 24, .long y, .null, .int v3, .int v4, .int x, .int (nI s.2.1), .int (nI k), .int (nI w), v9, v10] [] I' L Q := by
  intro r
  induction r with
  | zero =>
    intro w s rk x I' v9 v10 hw hV hks hX hI ho
    have e : w = 4 := by omega
    subst e
    subst ho
    simp only [e91_35, e91_37, e91_38, zpush_some, zpush_none, true_or, or_true, true_and, and_true, ↓reduceIte, zq_ite, zq_itel, show nI 4 = (4 : Int32) from rfl, Int32.le_refl]
    exact hQ I' x _ _ hI hX
  | succ r ih =>
    intro w s rk x I' v9 v10 hw hV hks hX hI ho
    have hw4 : w < 4 := by omega
    have hlt : ((4 : Int32) ≤ nI w) = False := eq_false (nI_ge (b := 4) (by omega) (by omega))
    obtain ⟨k1, k2, k3⟩ := hV.2.1 k hks
    obtain ⟨t1, t2, t3⟩ := xor_pow16 _ k1 w hw4
    have zk : zin (nI k) 16 = true := zin_ok hk (by decide)
    have ck : (nI k).toNatClampNeg = k := nI_clamp (by omega)
    have hz : (y ||| L 24 2) &&& lN (2 ^ (16 * w + s.1 k)) = 0 ↔ FF B U (s.1 k) w = false := by
      rw [and_pow0 (show 16 * w + s.1 k < 64 by omega), bl_or, hB _ k1 w hw4, hU _ k1 w hw4]
      exact Iff.rfl
    have hz := propext hz
    obtain ⟨rk', V1, V2, V3⟩ := VI_step hV hks hw4
    rw [binr] at ho
    have ih' := ih (w + 1) (bst (FF B U) s k w) rk'
    cases hF : FF B U (s.1 k) w
    · have hz := hz.trans (eq_true hF)
      have hsn := hX.2.2 _ (show s.1 k ^^^ 2 ^ w < 32 by omega)
      rw [decide_eq_true t1, Bool.true_and] at hsn
      have hb0 := bt0 x (show s.1 k ^^^ 2 ^ w < 32 by omega)
      rw [hsn] at hb0
      by_cases g : s.2.2 (s.1 k ^^^ 2 ^ w) < 5
      · have hb0 := hb0.trans (eq_false (by rw [decide_eq_true g]; decide))
        have eb : bst (FF B U) s k w = s := by unfold bst; exact if_neg (fun q => by omega)
        rw [eb] at ih' ho
        simp only [e91_35, e91_37, e91_38, e91_41, e91_42, e91_45, e91_47, e91_48, e91_49, e91_51, e91_52, e91_53, e91_53a, e91_55, e91_56, e91_57, e91_60, e91_61, e91_62, e91_65, e91_67, e91_68, e91_70, e91_73, e91_74, e91_75, e91_76, e91_79, e91_80, e91_83, e91_84, e91_84a, e91_86, e91_88, e91_91, e91_93, e91_95, e91_96, e91_97, e91_98, zpush_some, zpush_none, true_or, or_true, true_and, and_true, ↓reduceIte, zq_ite, zq_itel, hlt, zo_24, zr_24_0, zn_25, zl_25, zk, ck, hX.1 k hks, h_flip _ k1 _ hw4, s_W_arc k1 hw4, lg_0, hz, not_true_eq_false, zz_1, hb0, not_false_eq_true]
        simp only [e91_138, e91_138a, e91_141, nI_1]
        exact ih' x I' _ _ (by omega) (by rw [eb] at V1; exact V1) (by rw [eb] at V2; exact V2) hX hI ho
      · have hb0 := hb0.trans (eq_true (decide_eq_false g))
        have h5 : s.2.2 (s.1 k ^^^ 2 ^ w) = 5 := by have := hV.2.2.2.2.2.1 (s.1 k ^^^ 2 ^ w); omega
        have he := VI_cnt hV t1 g
        have eb : bst (FF B U) s k w = (upN s.1 s.2.1 (s.1 k ^^^ 2 ^ w), s.2.1 + 1, upN s.2.2 (s.1 k ^^^ 2 ^ w) w) := by unfold bst; exact if_pos ⟨h5, hF⟩
        have l16 : ((16 : Int32) ≤ nI s.2.1) = False := eq_false (nI_ge (b := 16) he (by decide))
        have zt : zin (nI (s.1 k ^^^ 2 ^ w)) 16 = true := zin_ok t1 (by decide)
        have ct : (nI (s.1 k ^^^ 2 ^ w)).toNatClampNeg = s.1 k ^^^ 2 ^ w := nI_clamp (by omega)
        have ze : zin (nI s.2.1) 16 = true := zin_ok he (by decide)
        have ce : (nI s.2.1).toNatClampNeg = s.2.1 := nI_clamp (by omega)
        rw [eb] at ih' ho V1 V2
        simp only [e91_35, e91_37, e91_38, e91_41, e91_42, e91_45, e91_47, e91_48, e91_49, e91_51, e91_52, e91_53, e91_53a, e91_55, e91_56, e91_57, e91_60, e91_61, e91_62, e91_65, e91_67, e91_68, e91_70, e91_73, e91_74, e91_75, e91_76, e91_79, e91_80, e91_83, e91_84, e91_84a, e91_86, e91_88, e91_91, e91_93, e91_95, e91_96, e91_97, e91_98, e91_101, e91_103, e91_105, e91_108, e91_110, e91_111, e91_113, e91_114, e91_115, e91_117, e91_118, e91_121, e91_123, e91_125, e91_126, e91_127, e91_130, e91_132, e91_134, zpush_some, zpush_none, true_or, or_true, true_and, and_true, ↓reduceIte, zq_ite, zq_itel, hlt, zo_24, zr_24_0, zr_24_1, zn_25, zw_25, zl_25, zn_26, zw_26, zl_26, zk, ck, hX.1 k hks, h_flip _ k1 _ hw4, s_W_arc k1 hw4, lg_0, hz, not_true_eq_false, zz_1, hb0, l16, zt, ct, ze, ce]
        simp only [e91_135, e91_135a, e91_138, e91_138a, e91_141, nI_1]
        refine ih' _ _ _ _ (by omega) V1 V2 ⟨fun i hi => ?_, fun v hv hv2 => ?_, fun i hi => ?_⟩ (fun k j a b => by rw [zup_ne a, zup_ne b]; exact hI k j a b) ho
        · have hi : i < s.2.1 + 1 := hi
          show zup (zup I' 26 (s.1 k ^^^ 2 ^ w) (nI w)) 25 s.2.1 (nI (s.1 k ^^^ 2 ^ w)) 25 i = nI (upN s.1 s.2.1 (s.1 k ^^^ 2 ^ w) i)
          by_cases e : i = s.2.1
          · subst e; rw [zup_eq, upN_eq]
          · rw [zup_nj e, zup_ne (by decide), upN_ne e]; exact hX.1 i (by omega)
        · have hv2 : upN s.2.2 (s.1 k ^^^ 2 ^ w) w v < 4 := hv2
          show zup (zup I' 26 (s.1 k ^^^ 2 ^ w) (nI w)) 25 s.2.1 (nI (s.1 k ^^^ 2 ^ w)) 26 v = nI (upN s.2.2 (s.1 k ^^^ 2 ^ w) w v)
          rw [zup_ne (by decide)]
          by_cases e : v = s.1 k ^^^ 2 ^ w
          · subst e; rw [zup_eq, upN_eq]
          · rw [upN_ne e] at hv2
            rw [zup_nj e, upN_ne e]; exact hX.2.1 v hv hv2
        · show bt (x ||| (1 : Int32) <<< (nI (s.1 k ^^^ 2 ^ w) &&& 31)) i = (decide (i < 16) && decide (upN s.2.2 (s.1 k ^^^ 2 ^ w) w i < 5))
          rw [b_or, bt_shl (by omega) hi, hX.2.2 i hi]
          by_cases e : i = s.1 k ^^^ 2 ^ w
          · subst e; rw [upN_eq, decide_eq_true t1, decide_eq_true (show w < 5 by omega)]; simp
          · rw [upN_ne e, decide_eq_false e, Bool.or_false]
    · have hz := hz.trans (eq_false (by rw [hF]; decide))
      have eb : bst (FF B U) s k w = s := by unfold bst; exact if_neg (fun q => by rw [hF] at q; cases q.2)
      rw [eb] at ih' ho
      simp only [e91_35, e91_37, e91_38, e91_41, e91_42, e91_45, e91_47, e91_48, e91_49, e91_51, e91_52, e91_53, e91_53a, e91_55, e91_56, e91_57, e91_60, e91_61, e91_62, e91_65, e91_67, e91_68, e91_70, e91_73, e91_74, e91_75, e91_76, e91_79, e91_80, e91_83, e91_84, e91_84a, e91_86, e91_88, zpush_some, zpush_none, true_or, or_true, true_and, and_true, ↓reduceIte, zq_ite, zq_itel, hlt, zo_24, zr_24_0, zn_25, zl_25, zk, ck, hX.1 k hks, h_flip _ k1 _ hw4, s_W_arc k1 hw4, lg_0, hz, not_false_eq_true]
      simp only [e91_138, e91_138a, e91_141, nI_1]
      exact ih' x I' _ _ (by omega) (by rw [eb] at V1; exact V1) (by rw [eb] at V2; exact V2) hX hI ho
theorem l_P_out (hB : AB y B) (hU : UB (L 24 2) U) (hb : b < 16) {v3 : Int32} (hQ : ∀ I' x, (∀ k j, k ≠ 25 → k ≠ 26 → I' k j = I k j) → XS I' o x → Q (some (.int (zb (decide (o.2.2 b < 5))))) I' L) :
    ∀ r k (s : Bs) rk x I' v8 v9 v10, k + r = 16 → VI (FF B U) a s rk → XS I' s x → (∀ k j, k ≠ 25 → k ≠ 26 → I' k j = I k j) → boutr (FF B U) r k s = o → zV n (d + 1) 91 18 [.ref 24, .long y, .null, .int v3, .int (nI b), .int x, .int (nI s.2.1), .int (nI k), v8, v9, v10] [] I' L Q := by
  have fin : ∀ (s : Bs) x I' v6 v7 v8 v9 v10, XS I' s x → (∀ k j, k ≠ 25 → k ≠ 26 → I' k j = I k j) → s = o → zV n (d + 1) 91 150 [.ref 24, .long y, .null, .int v3, .int (nI b), .int x, v6, v7, v8, v9, v10] [] I' L Q := fun s x I' v6 v7 v8 v9 v10 hX hI ho => by
    subst ho
    have hsn := hX.2.2 b (by omega)
    rw [decide_eq_true hb, Bool.true_and] at hsn
    have hb0 := bt0 x (show b < 32 by omega)
    rw [hsn] at hb0
    have fq := hQ I' x hI hX
    by_cases g : s.2.2 b < 5
    · have hb0 := hb0.trans (eq_false (by rw [decide_eq_true g]; decide))
      rw [decide_eq_true g] at fq
      simp only [e91_150, e91_152, e91_154, e91_155, e91_156, e91_157, e91_160, e91_161, e91_164, e91_165, zpush_some, zpush_none, true_or, or_true, true_and, and_true, ↓reduceIte, zq_ite, zq_itel, hb0]
      exact fq
    · have hb0 := hb0.trans (eq_true (decide_eq_false g))
      rw [decide_eq_false g] at fq
      simp only [e91_150, e91_152, e91_154, e91_155, e91_156, e91_157, e91_160, e91_161, e91_164, e91_165, zpush_some, zpush_none, true_or, or_true, true_and, and_true, ↓reduceIte, zq_ite, zq_itel, hb0]
      exact fq
  intro r
  induction r with
  | zero =>
    intro k s rk x I' v8 v9 v10 hk hV hX hI ho
    have e : k = 16 := by omega
    subst e
    have h16 := hV.1
    have g : (nI s.2.1 ≤ nI 16) = True := (nI_leN (by omega) (by decide)).trans (eq_true h16)
    simp only [e91_18, e91_20, e91_22, zpush_some, zpush_none, true_or, or_true, true_and, and_true, ↓reduceIte, zq_ite, zq_itel, g]
    exact fin s x I' _ _ _ _ _ hX hI ho
  | succ r ih =>
    intro k s rk x I' v8 v9 v10 hk hV hX hI ho
    have h16 := hV.1
    rw [boutr] at ho
    by_cases g : k < s.2.1
    · rw [if_pos g] at ho
      have g1 : (nI s.2.1 ≤ nI k) = False := (nI_leN (by omega) (by omega)).trans (eq_false (by omega))
      have g2 : ((16 : Int32) ≤ nI k) = False := eq_false (nI_ge (b := 16) (by omega) (by decide))
      simp only [e91_18, e91_20, e91_22, e91_25, e91_27, e91_29, e91_32, e91_33, e91_33a, zpush_some, zpush_none, true_or, or_true, true_and, and_true, ↓reduceIte, zq_ite, zq_itel, g1, g2]
      obtain ⟨rk', V1⟩ := VI_in 4 0 s rk rfl hV g
      refine l_P_in (I := I) (o := binr (FF B U) k 4 0 s) (a := a) hB hU (show k < 16 by omega) (fun I2 x2 v9' v10' y1 y2 => ?_) 4 0 s rk x I' _ _ rfl hV g hX hI rfl
      simp only [e91_144, e91_144a, e91_147, nI_1]
      exact ih (k + 1) _ rk' x2 I2 _ _ _ (by omega) V1 y2 y1 ho
    · rw [if_neg g] at ho
      have g1 : (nI s.2.1 ≤ nI k) = True := (nI_leN (by omega) (by omega)).trans (eq_true (by omega))
      simp only [e91_18, e91_20, e91_22, zpush_some, zpush_none, true_or, or_true, true_and, and_true, ↓reduceIte, zq_ite, zq_itel, g1]
      exact fin s x I' _ _ _ _ _ hX hI ho
theorem t_P_finds (hB : AB y B) (hU : UB (L 24 2) U) (ha : a < 16) (hb : b < 16) (hQ : ∀ I' x, (∀ k j, k ≠ 25 → k ≠ 26 → I' k j = I k j) → XS I' (srch B a U) x → Q (some (.int (zb (decide ((srch B a U).2.2 b < 5))))) I' L) : zV n (d + 1) 91 0 [.ref 24, .long y, .null, .int (nI a), .int (nI b), .null, .null, .null, .null, .null, .null] [] I L Q := by
  have a4 : ∀ v, (Bs0 a).2.2 v = upN (fun _ => 5) a 4 v := fun v => rfl
  simp only [e91_0, e91_1, e91_2, e91_3, e91_5, e91_6, e91_6a, e91_8, e91_9, e91_12, e91_13, e91_14, e91_15, e91_16, e91_16a, zpush_some, zpush_none, true_or, or_true, true_and, and_true, ↓reduceIte, zq_ite, zq_itel, zo_24, zr_24_0, zn_25, zw_25, zl_25, zi_0, zt_0, Nat.reduceLT, decide_true]
  refine l_P_out (I := I) (o := srch B a U) (U := U) (a := a) hB hU hb hQ 16 0 (Bs0 a) (fun _ => 0) _ _ _ _ _ rfl (VI_0 ha) ⟨fun i hi => ?_, fun v hv hv2 => ?_, fun i hi => ?_⟩ (fun k j a b => by rw [zup_ne a]) rfl
  · have hi : i < 1 := hi
    have e : i = 0 := by omega
    subst e
    exact zup_eq
  · rw [a4] at hv2
    by_cases e : v = a
    · subst e; rw [upN_eq] at hv2; omega
    · rw [upN_ne e] at hv2; omega
  · rw [bt_shl (by omega) hi, a4]
    by_cases e : i = a
    · subst e; rw [upN_eq, decide_eq_true ha]; simp
    · rw [upN_ne e, decide_eq_false e]; simp
theorem UB_use {z : Int64} (hU : UB z U) {v : Nat} (hp : p < 16) (hv : v < 16) (hw : w < 4) : UB (if U v w then z &&& (lN (2 ^ (16 * w + v)) ^^^ (-1)) else z ||| lN (2 ^ (16 * w + p))) (usU U p v w) := by
  intro c hc x hx
  have hm : bl (-1) (16 * x + c) = true := (by decide +kernel : ∀ i, i < 64 → bl (-1) i = true) _ (by omega)
  unfold usU
  cases g : U v w
  · simp only [Bool.false_eq_true, if_false]
    rw [bl_or, bl_pow (by omega), hU c hc x hx]
    by_cases e : c = p ∧ x = w
    · rw [if_pos e, e.1, e.2]; simp
    · have e2 : ¬ 16 * x + c = 16 * w + p := fun q => e ⟨by omega, by omega⟩
      rw [if_neg e, decide_eq_false e2, Bool.or_false]
  · simp only [if_true]
    rw [bl_and, bl_xor, bl_pow (by omega), hm, hU c hc x hx]
    by_cases e : c = v ∧ x = w
    · rw [if_pos e, e.1, e.2]; simp
    · have e2 : ¬ 16 * x + c = 16 * w + v := fun q => e ⟨by omega, by omega⟩
      rw [if_neg e, decide_eq_false e2]; simp
theorem t_P_use (hU : UB (L 24 2) U) {v : Nat} (hp : p < 16) (hv : v < 16) (hw : w < 4) (hQ : ∀ L', (∀ k j, k ≠ 24 → L' k j = L k j) → UB (L' 24 2) (usU U p v w) → Q none I L') : zV n (d + 1) 93 0 [.ref 24, .int (nI p), .int (nI v), .int (nI w)] [] I L Q := by
  have hz := and_pow0 (x := L 24 2) (j := 16 * w + v) (by omega)
  rw [hU v hv w hw] at hz
  have hN := UB_use (z := L 24 2) hU hp hv hw
  cases g : U v w
  · have hz := hz.trans (eq_true g)
    rw [g, if_neg Bool.false_ne_true] at hN
    simp only [e93_0, e93_1, e93_4, e93_5, e93_6, e93_9, e93_10, e93_11, e93_12, e93_15, e93_16, e93_17, e93_20, e93_21, e93_22, e93_25, e93_28, e93_29, e93_30, e93_33, e93_36, e93_37, e93_38, e93_41, e93_42, e93_43, e93_46, e93_47, e93_50, zpush_some, zpush_none, true_or, or_true, true_and, and_true, ↓reduceIte, zq_ite, zq_itel, zo_24, s_W_arc hv hw, s_W_arc hp hw, lg_0, hz]
    exact hQ _ (fun k j hk => zup_ne hk) (by rw [zup_eq]; exact hN)
  · have hz := hz.trans (eq_false (by rw [g]; decide))
    rw [g, if_pos rfl] at hN
    simp only [e93_0, e93_1, e93_4, e93_5, e93_6, e93_9, e93_10, e93_11, e93_12, e93_15, e93_16, e93_17, e93_20, e93_21, e93_22, e93_25, e93_28, e93_29, e93_30, e93_33, e93_36, e93_37, e93_38, e93_41, e93_42, e93_43, e93_46, e93_47, e93_50, zpush_some, zpush_none, true_or, or_true, true_and, and_true, ↓reduceIte, zq_ite, zq_itel, zo_24, s_W_arc hv hw, lg_0, hz]
    exact hQ _ (fun k j hk => zup_ne hk) (by rw [zup_eq]; exact hN)
theorem r_P_way {F : Nat → Nat → Bool} {rk : Nat → Nat} (ha : a < 16) (hV : VI F a s rk) (hC : ∀ v, v < 16 → s.2.2 v < 4 → I 26 v = nI (s.2.2 v)) {v2 : Int32} (hQ : ∀ L', (∀ k j, k ≠ 24 → L' k j = L k j) → UB (L' 24 2) U' → Q none I L') :
    ∀ r k v U L' v5 v6, k + r = 16 → v < 16 → s.2.2 v < 5 → rk v < r → UB (L' 24 2) U → (∀ k j, k ≠ 24 → L' k j = L k j) → bk s.2.2 a r v U = U' → zV n (d + 2) 92 5 [.ref 24, .int (nI a), .int v2, .int (nI v), .int (nI k), v5, v6] [] I L' Q := by
  intro r
  induction r with
  | zero => intro k v U L' v5 v6 h1 h2 h3 h4; omega
  | succ r ih =>
    intro k v U L' v5 v6 hk hv hc hr hU hL ho
    have g16 : ((16 : Int32) ≤ nI k) = False := eq_false (nI_ge (b := 16) (by omega) (by decide))
    have eva : (nI v = nI a) = (v = a) := nI_eqN (by omega) (by omega)
    rw [bk] at ho
    by_cases g : v = a
    · rw [if_pos g] at ho
      have eva := eva.trans (eq_true g)
      subst ho
      simp only [e92_5, e92_7, e92_9, e92_12, e92_13, e92_14, e92_51, zpush_some, zpush_none, true_or, or_true, true_and, and_true, ↓reduceIte, zq_ite, zq_itel, g16, eva]
      exact hQ L' hL hU
    · rw [if_neg g] at ho
      have eva := eva.trans (eq_false g)
      have hc4 : s.2.2 v < 4 := by
        have := hV.2.2.2.2.2.2.2 v hv
        by_cases e : s.2.2 v = 4
        · exact absurd (this e) g
        · omega
      obtain ⟨h1, h2, h3⟩ := hV.2.2.2.2.1 v hv hc4
      obtain ⟨t1, t2, t3⟩ := xor_pow16 v hv _ hc4
      have zv : zin (nI v) 16 = true := zin_ok hv (by decide)
      have cv : (nI v).toNatClampNeg = v := nI_clamp (by omega)
      simp only [e92_5, e92_7, e92_9, e92_12, e92_13, e92_14, e92_17, e92_18, e92_21, e92_22, e92_23, e92_23a, e92_25, e92_26, e92_27, e92_29, e92_30, e92_31, e92_31a, e92_33, e92_34, e92_36, e92_37, e92_39, zpush_some, zpush_none, true_or, or_true, true_and, and_true, ↓reduceIte, zq_ite, zq_itel, g16, eva, zo_24, zr_24_1, zn_26, zl_26, zv, cv, hC v hv hc4, h_flip _ hv _ hc4]
      refine t_P_use hU t1 hv hc4 (fun L2 x1 x2 => ?_)
      simp only [e92_39, e92_42, e92_44, e92_45, e92_45a, e92_48, zpush_some, zpush_none, true_or, or_true, true_and, and_true, ↓reduceIte, zq_ite, zq_itel, nI_1]
      exact ih (k + 1) _ _ L2 _ _ (by omega) t1 h1 (by omega) x2 (fun k j hk => by rw [x1 k j hk, hL k j hk]) ho
theorem l_P_fewest (hB : AB y B) (ha : a < 16) (hb : b < 16) (hab : b ≠ a) (hQ : ∀ I' L', (∀ k j, k ≠ 25 → k ≠ 26 → I' k j = I k j) → (∀ k j, k ≠ 24 → L' k j = L k j) → Q (some (.int (nI N))) I' L') :
    ∀ r i U I' L', i + r = 4 → N = i + augs B a b r U → UB (L' 24 2) U → (∀ k j, k ≠ 25 → k ≠ 26 → I' k j = I k j) → (∀ k j, k ≠ 24 → L' k j = L k j) → zV n (d + 3) 90 8 [.ref 24, .long y, .null, .int (nI a), .int (nI b), .int (nI i)] [] I' L' Q := by
  intro r
  induction r with
  | zero =>
    intro i U I' L' hi hN hU hI hL
    have e : i = 4 := by omega
    subst e
    have hN : N = 4 := hN
    subst hN
    simp only [e90_8, e90_10, e90_11, e90_41, e90_42, zpush_some, zpush_none, true_or, or_true, true_and, and_true, ↓reduceIte, zq_ite, zq_itel, show nI 4 = (4 : Int32) from rfl, Int32.le_refl]
    exact hQ I' L' hI hL
  | succ r ih =>
    intro i U I' L' hi hN hU hI hL
    have hlt : ((4 : Int32) ≤ nI i) = False := eq_false (nI_ge (b := 4) (by omega) (by omega))
    rw [augs] at hN
    simp only [e90_8, e90_10, e90_11, e90_14, e90_15, e90_16, e90_17, e90_19, zpush_some, zpush_none, true_or, or_true, true_and, and_true, ↓reduceIte, zq_ite, zq_itel, hlt, zo_24]
    refine t_P_finds hB hU ha hb (fun I2 x x1 x2 => ?_)
    have hI2 : ∀ k j, k ≠ 25 → k ≠ 26 → I2 k j = I k j := fun k j a b => by rw [x1 k j a b, hI k j a b]
    by_cases g : (srch B a U).2.2 b < 5
    · rw [if_pos g] at hN
      simp only [e90_19, e90_22, e90_25, e90_27, e90_28, e90_29, e90_30, e90_32, e92_0, e92_1, e92_2, e92_3, e92_3a, zpush_some, zpush_none, true_or, or_true, true_and, and_true, ↓reduceIte, zq_ite, zq_itel, zo_24, decide_eq_true g, zb_t, zz_1, not_false_eq_true]
      obtain ⟨rk, hV⟩ := VI_out (F := FF B U) (a := a) 16 0 (Bs0 a) (fun _ => 0) (VI_0 ha)
      have hr := (hV.2.2.2.1 b hb g).1
      have h16 := hV.1
      refine r_P_way (F := FF B U) (s := srch B a U) (L := L') (U' := bk (srch B a U).2.2 a 16 b U) ha hV x2.2.1 (fun L3 y1 y2 => ?_) 16 0 b U L' _ _ rfl hb g (Nat.lt_of_lt_of_le hr h16) hU (fun _ _ _ => rfl) rfl
      simp only [e90_32, e90_35, e90_38, zpush_some, zpush_none, true_or, or_true, true_and, and_true, ↓reduceIte, zq_ite, zq_itel, nI_1]
      exact ih (i + 1) _ I2 L3 (by omega) (by omega) y2 hI2 (fun k j hk => by rw [y1 k j hk, hL k j hk])
    · rw [if_neg g] at hN
      simp only [e90_19, e90_22, e90_25, e90_27, zpush_some, zpush_none, true_or, or_true, true_and, and_true, ↓reduceIte, zq_ite, zq_itel, decide_eq_false g, zb_f, not_true_eq_false]
      have := hQ I2 L' hI2 hL
      rw [hN] at this
      exact this
end
