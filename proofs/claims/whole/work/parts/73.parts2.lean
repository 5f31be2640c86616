/-! PARTS, the check's -/
section
variable {n d : Nat} {I I' : zi} {L L' : zl} {Q : zq} {K K' : Nat → Nat} {s0 : Cs} {k q i l N p j c t u a b w v : Nat} {x : Int32} {B : Nat → Bool} {U U' : Nat → Nat → Bool} {y : Int64} {s o : Bs}
def FR (I : zi) (U : Nat → Nat → Bool) : Prop := ∀ c, c < 16 → ∀ w, w < 4 → c.testBit w = false → I 80 (lk c w) = (if U c w then 1 else if U (c ^^^ 2 ^ w) w then -1 else 0) ∧ ¬ (U c w = true ∧ U (c ^^^ 2 ^ w) w = true)
def cmv (c : Nat) : Int32 := if c < 5 then nI c else -1
def MS (I : zi) (s : Bs) : Prop := (∀ i, i < s.2.1 → I 79 i = nI (s.1 i)) ∧ ∀ v, v < 16 → I 81 v = cmv (s.2.2 v)
theorem flip_bit : ∀ c, c < 16 → ∀ w, w < 4 → (c ^^^ 2 ^ w).testBit w = !c.testBit w := by decide +kernel
/-- the flow through a link is what this way would make it, just if the way is used -/
theorem FR_goes (h : FR I U) (hc : c < 16) (hw : w < 4) : (I 80 (lk c w) = if c.testBit w then (-1 : Int32) else 1) = (U c w = true) := by
  obtain ⟨t1, t2, t3⟩ := xor_pow16 c hc w hw
  cases hb : c.testBit w
  · obtain ⟨h1, h2⟩ := h c hc w hw hb
    rw [h1]
    cases g : U c w
    · cases g2 : U (c ^^^ 2 ^ w) w <;> decide
    · cases g2 : U (c ^^^ 2 ^ w) w <;> decide
  · obtain ⟨h1, h2⟩ := h _ t1 w hw (by rw [flip_bit c hc w hw, hb]; rfl)
    rw [t2, t3] at h1
    rw [t2] at h2
    rw [h1]
    cases g : U c w
    · cases g2 : U (c ^^^ 2 ^ w) w <;> decide
    · have g2 : U (c ^^^ 2 ^ w) w = false := by
        cases g2 : U (c ^^^ 2 ^ w) w
        · rfl
        · exact absurd ⟨g2, g⟩ h2
      rw [g2]; decide
/-- one way more through a link -/
theorem FR_use (h : FR I U) (hv : v < 16) (hw : w < 4) (h0 : U (v ^^^ 2 ^ w) w = false) : FR (zup I 80 (lk (v ^^^ 2 ^ w) w) (I 80 (lk (v ^^^ 2 ^ w) w) + if (v ^^^ 2 ^ w).testBit w then (-1 : Int32) else 1)) (usU U (v ^^^ 2 ^ w) v w) := by
  obtain ⟨t1, t2, t3⟩ := xor_pow16 v hv w hw
  intro c hc x hx hb
  obtain ⟨s1, s2, s3⟩ := xor_pow16 c hc x hx
  by_cases e : lk c x = lk (v ^^^ 2 ^ w) w
  · rw [e, zup_eq]
    cases hvb : v.testBit w
    · have e3 : c = v ∧ x = w := lk_inj hc hx hv hw (by rw [e, t3]) (by rw [hb, hvb])
      obtain ⟨rfl, rfl⟩ := e3
      obtain ⟨h1, h2⟩ := h c hc x hx hb
      rw [flip_bit c hc x hx, hvb, t3, h1]
      cases g : U c x
      · have eu : usU U (c ^^^ 2 ^ x) c x c x = false := by
          unfold usU; rw [g, if_neg Bool.false_ne_true, if_neg (fun q => xor_ne c hc x hx q.1)]
        have eu2 : usU U (c ^^^ 2 ^ x) c x (c ^^^ 2 ^ x) x = true := by
          unfold usU; rw [g, if_neg Bool.false_ne_true, if_pos ⟨rfl, rfl⟩]
        rw [eu, eu2, h0]; decide
      · have eu : usU U (c ^^^ 2 ^ x) c x c x = false := by
          unfold usU; rw [g, if_pos rfl, if_pos ⟨rfl, rfl⟩]
        have eu2 : usU U (c ^^^ 2 ^ x) c x (c ^^^ 2 ^ x) x = false := by
          unfold usU; rw [g, if_pos rfl, if_neg (fun q => xor_ne c hc x hx q.1.symm)]; exact h0
        rw [eu, eu2, h0]; decide
    · have e3 : c = v ^^^ 2 ^ w ∧ x = w := lk_inj hc hx t1 hw e (by rw [hb, flip_bit v hv w hw, hvb]; rfl)
      obtain ⟨rfl, rfl⟩ := e3
      obtain ⟨h1, h2⟩ := h _ t1 x hx hb
      rw [hb, t2, h1, t2, h0]
      cases g : U v x
      · have eu : usU U (v ^^^ 2 ^ x) v x (v ^^^ 2 ^ x) x = true := by
          unfold usU; rw [g, if_neg Bool.false_ne_true, if_pos ⟨rfl, rfl⟩]
        have eu2 : usU U (v ^^^ 2 ^ x) v x v x = false := by
          unfold usU; rw [g, if_neg Bool.false_ne_true, if_neg (fun q => xor_ne v hv x hx q.1)]
        rw [eu, eu2]; decide
      · have eu : usU U (v ^^^ 2 ^ x) v x (v ^^^ 2 ^ x) x = false := by
          unfold usU; rw [g, if_pos rfl, if_neg (fun q => xor_ne v hv x hx q.1.symm)]; exact h0
        have eu2 : usU U (v ^^^ 2 ^ x) v x v x = false := by
          unfold usU; rw [g, if_pos rfl, if_pos ⟨rfl, rfl⟩]
        rw [eu, eu2]; decide
  · rw [zup_nj e]
    have a1 : usU U (v ^^^ 2 ^ w) v w c x = U c x := usU_far (fun q => e (by rw [q.1, q.2, t3])) (fun q => e (by rw [q.1, q.2]))
    have a2 : usU U (v ^^^ 2 ^ w) v w (c ^^^ 2 ^ x) x = U (c ^^^ 2 ^ x) x := usU_far (fun q => e (by rw [← s3, q.1, q.2, t3])) (fun q => e (by rw [← s3, q.1, q.2]))
    rw [a1, a2]
    exact h c hc x hx hb
theorem l_M_more0 {v1 v2 : Int32} {v4 v5 v6 v7 v8 v9 : Value} (hQ : ∀ I', (∀ k j, k ≠ 81 → I' k j = I k j) → (∀ v, v < 16 → I' 81 v = -1) → zV n d 184 21 [.ref 62, .int v1, .int v2, .int 16, v4, v5, v6, v7, v8, v9] [] I' L Q) :
    ∀ r i I', i + r = 16 → (∀ k j, k ≠ 81 → I' k j = I k j) → (∀ v, v < i → I' 81 v = -1) → zV n d 184 2 [.ref 62, .int v1, .int v2, .int (nI i), v4, v5, v6, v7, v8, v9] [] I' L Q := by
  intro r
  induction r with
  | zero =>
    intro i I' hi h1 h2
    have e : i = 16 := by omega
    subst e
    simp only [e184_2, e184_3, e184_5, zpush_some, zpush_none, true_or, or_true, true_and, and_true, ↓reduceIte, zq_ite, zq_itel, show nI 16 = (16 : Int32) from rfl, Int32.le_refl]
    exact hQ I' h1 h2
  | succ r ih =>
    intro i I' hi h1 h2
    have hlt : ((16 : Int32) ≤ nI i) = False := eq_false (nI_ge (b := 16) (by omega) (by omega))
    have z1 : zin (nI i) 16 = true := zin_ok (by omega) (by decide)
    have c1 : (nI i).toNatClampNeg = i := nI_clamp (by omega)
    simp only [e184_2, e184_3, e184_5, e184_8, e184_9, e184_12, e184_13, e184_14, zpush_some, zpush_none, true_or, or_true, true_and, and_true, ↓reduceIte, zq_ite, zq_itel, hlt, zo_62, zr_62_28, zn_81, zw_81, zl_81, z1, c1]
    simp only [e184_15, e184_18, nI_1]
    refine ih (i + 1) _ (by omega) (fun k j g => by rw [zup_ne g]; exact h1 k j g) (fun l hl => ?_)
    by_cases e : l = i
    · subst e; exact zup_eq
    · rw [zup_nj e]; exact h2 l (by omega)
theorem cmv_ge {c : Nat} : (0 ≤ cmv c) = (c < 5) := by
  unfold cmv
  by_cases h : c < 5
  · rw [if_pos h]; exact propext ⟨fun _ => h, fun _ => nI_pos' (by omega)⟩
  · rw [if_neg h]; exact propext ⟨fun g => absurd g (by decide), fun g => absurd g h⟩
theorem l_M_in (hx : I 70 2 = x) (hU : FR I U) (hk : k < 16) {v1 v2 : Int32} (hQ : ∀ I' v7 v8 v9, (∀ k j, k ≠ 79 → k ≠ 81 → I' k j = I k j) → MS I' o → zV n (d + 1) 184 161 [.ref 62, .int v1, .int v2, .int (nI o.2.1), .int (nI k), .int (nI p), .int 4, v7, v8, v9] [] I' L Q) :
    ∀ r w (s : Bs) rk I' v7 v8 v9, w + r = 4 → VI (FF (bt x) U) a s rk → k < s.2.1 → s.1 k = p → MS I' s → (∀ k j, k ≠ 79 → k ≠ 81 → I' k j = I k j) → binr (FF (bt x) U) k r w s = o → zV n (d + 1) 184 58 [.ref 62, .int v1, .int v2, .int (nI s.2.1), .int (nI k), .int (nI p), .int (nI w), v7, v8, v9] [] I' L Q := by
  intro r
  induction r with
  | zero =>
    intro w s rk I' v7 v8 v9 hw hV hks hp hX hI ho
    have e : w = 4 := by omega
    subst e
    subst ho
    simp only [e184_58, e184_60, e184_61, zpush_some, zpush_none, true_or, or_true, true_and, and_true, ↓reduceIte, zq_ite, zq_itel, show nI 4 = (4 : Int32) from rfl, Int32.le_refl]
    exact hQ I' _ _ _ hI hX
  | succ r ih =>
    intro w s rk I' v7 v8 v9 hw hV hks hp hX hI ho
    have hw4 : w < 4 := by omega
    have hlt : ((4 : Int32) ≤ nI w) = False := eq_false (nI_ge (b := 4) (by omega) (by omega))
    obtain ⟨k1, k2, k3⟩ := hV.2.1 k hks
    subst hp
    obtain ⟨t1, t2, t3⟩ := xor_pow16 _ k1 w hw4
    have hl := lk_lt _ k1 w hw4
    have zt : zin (nI (s.1 k ^^^ 2 ^ w)) 16 = true := zin_ok t1 (by decide)
    have ct : (nI (s.1 k ^^^ 2 ^ w)).toNatClampNeg = s.1 k ^^^ 2 ^ w := nI_clamp (by omega)
    have zl32 : zin (nI (lk (s.1 k) w)) 32 = true := zin_ok hl (by decide)
    have cl32 : (nI (lk (s.1 k) w)).toNatClampNeg = lk (s.1 k) w := nI_clamp (by omega)
    have hbc : bt (nI (s.1 k)) w = (s.1 k).testBit w := bt_nI (by omega)
    have hU' : FR I' U := fun c hc w hw hb => by rw [hI 80 _ (by decide) (by decide)]; exact hU c hc w hw hb
    have hx' : I' 70 2 = x := by rw [hI 70 2 (by decide) (by decide)]; exact hx
    have hgo := FR_goes hU' k1 hw4
    have hto := hX.2 _ t1
    obtain ⟨rk', V1, V2, V3⟩ := VI_step hV hks hw4
    rw [binr] at ho
    have ih' := ih (w + 1) (bst (FF (bt x) U) s k w) rk'
    rw [V3] at ih'
    by_cases g : s.2.2 (s.1 k ^^^ 2 ^ w) < 5
    · have hge : (0 ≤ cmv (s.2.2 (s.1 k ^^^ 2 ^ w))) = True := cmv_ge.trans (eq_true g)
      have eb : bst (FF (bt x) U) s k w = s := by unfold bst; exact if_neg (fun q => by omega)
      rw [eb] at ih' ho V1 V2
      cases hsb : (s.1 k).testBit w
      · simp only [e184_58, e184_60, e184_61, e184_64, e184_66, e184_67, e184_69, e184_70, e184_71, e184_71a, e184_73, e184_75, e184_77, e184_80, e184_80a, e184_82, e184_84, e184_86, e184_89, e184_92, e184_93, e184_96, e184_97, e184_97a, e184_99, e184_100, e184_103, e184_105, e184_106, zpush_some, zpush_none, true_or, or_true, true_and, and_true, ↓reduceIte, zq_ite, zq_itel, hlt, h_flip _ k1 _ hw4, s_M_linkAt k1 hw4, s_M_hasN (nI (s.1 k)) (show w < 32 by omega), hbc, hsb, zb_f, zo_62, zr_62_28, zn_81, zl_81, zt, ct, hto, hge]
        simp only [e184_155, e184_155a, e184_158, nI_1]
        exact ih' I' _ _ _ (by omega) V1 V2 rfl hX hI ho
      · simp only [e184_58, e184_60, e184_61, e184_64, e184_66, e184_67, e184_69, e184_70, e184_71, e184_71a, e184_73, e184_75, e184_77, e184_80, e184_80a, e184_82, e184_84, e184_86, e184_89, e184_92, e184_93, e184_96, e184_97, e184_97a, e184_99, e184_100, e184_103, e184_105, e184_106, zpush_some, zpush_none, true_or, or_true, true_and, and_true, ↓reduceIte, zq_ite, zq_itel, hlt, h_flip _ k1 _ hw4, s_M_linkAt k1 hw4, s_M_hasN (nI (s.1 k)) (show w < 32 by omega), hbc, hsb, zb_t, zz_1, zo_62, zr_62_28, zn_81, zl_81, zt, ct, hto, hge]
        simp only [e184_155, e184_155a, e184_158, nI_1]
        exact ih' I' _ _ _ (by omega) V1 V2 rfl hX hI ho
    · have hge : (0 ≤ cmv (s.2.2 (s.1 k ^^^ 2 ^ w))) = False := cmv_ge.trans (eq_false g)
      have h5 : s.2.2 (s.1 k ^^^ 2 ^ w) = 5 := by have := hV.2.2.2.2.2.1 (s.1 k ^^^ 2 ^ w); omega
      have he := VI_cnt hV t1 g
      cases hBk : bt x (lk (s.1 k) w)
      · cases hUk : U (s.1 k) w
        · have hF : FF (bt x) U (s.1 k) w = false := by unfold FF; rw [hBk, hUk]; rfl
          have eb : bst (FF (bt x) U) s k w = (upN s.1 s.2.1 (s.1 k ^^^ 2 ^ w), s.2.1 + 1, upN s.2.2 (s.1 k ^^^ 2 ^ w) w) := by unfold bst; exact if_pos ⟨h5, hF⟩
          have hgo := hgo.trans (eq_false (by rw [hUk]; decide))
          have ze : zin (nI s.2.1) 16 = true := zin_ok he (by decide)
          have ce : (nI s.2.1).toNatClampNeg = s.2.1 := nI_clamp (by omega)
          rw [eb] at ih' ho V1 V2
          have ms : MS (zup (zup I' 81 (s.1 k ^^^ 2 ^ w) (nI w)) 79 s.2.1 (nI (s.1 k ^^^ 2 ^ w))) (upN s.1 s.2.1 (s.1 k ^^^ 2 ^ w), s.2.1 + 1, upN s.2.2 (s.1 k ^^^ 2 ^ w) w) := by
            refine ⟨fun i hi => ?_, fun v hv => ?_⟩
            · have hi : i < s.2.1 + 1 := hi
              show _ = nI (upN s.1 s.2.1 (s.1 k ^^^ 2 ^ w) i)
              by_cases e : i = s.2.1
              · subst e; rw [zup_eq, upN_eq]
              · rw [zup_nj e, zup_ne (by decide), upN_ne e]; exact hX.1 i (by omega)
            · show _ = cmv (upN s.2.2 (s.1 k ^^^ 2 ^ w) w v)
              rw [zup_ne (by decide)]
              by_cases e : v = s.1 k ^^^ 2 ^ w
              · subst e; rw [zup_eq, upN_eq]; exact (if_pos (by omega)).symm
              · rw [zup_nj e, upN_ne e]; exact hX.2 v hv
          have fr : ∀ k' j, k' ≠ 79 → k' ≠ 81 → zup (zup I' 81 (s.1 k ^^^ 2 ^ w) (nI w)) 79 s.2.1 (nI (s.1 k ^^^ 2 ^ w)) k' j = I k' j := fun k' j a b => by rw [zup_ne a, zup_ne b]; exact hI k' j a b
          have qk : upN s.1 s.2.1 (s.1 k ^^^ 2 ^ w) k = s.1 k := upN_ne (by omega)
          cases hsb : (s.1 k).testBit w
          · rw [hsb, if_neg Bool.false_ne_true] at hgo
            simp only [e184_58, e184_60, e184_61, e184_64, e184_66, e184_67, e184_69, e184_70, e184_71, e184_71a, e184_73, e184_75, e184_77, e184_80, e184_80a, e184_82, e184_84, e184_86, e184_89, e184_92, e184_93, e184_96, e184_97, e184_97a, e184_99, e184_100, e184_103, e184_105, e184_106, e184_109, e184_110, e184_113, e184_114, e184_115, e184_117, e184_120, e184_123, e184_124, e184_127, e184_129, e184_130, e184_132, e184_135, e184_136, e184_139, e184_141, e184_143, e184_144, e184_145, e184_148, e184_149, e184_151, zpush_some, zpush_none, true_or, or_true, true_and, and_true, ↓reduceIte, zq_ite, zq_itel, hlt, h_flip _ k1 _ hw4, s_M_linkAt k1 hw4, s_M_hasN (nI (s.1 k)) (show w < 32 by omega), hbc, hsb, zb_f, zo_62, zr_62_16, zr_62_26, zr_62_27, zr_62_28, zn_70, zl_70, zi_2, zt_2, Nat.reduceLT, decide_true, hx', s_M_hasN x hl, hBk, zn_79, zw_79, zl_79, zn_80, zl_80, zn_81, zw_81, zl_81, zt, ct, hto, hge, zl32, cl32, hgo, ze, ce, not_true_eq_false, not_false_eq_true]
            simp only [e184_152, e184_155, e184_155a, e184_158, nI_1]
            exact ih' _ _ _ _ (by omega) V1 V2 rfl ms fr ho
          · rw [hsb, if_pos rfl] at hgo
            simp only [e184_58, e184_60, e184_61, e184_64, e184_66, e184_67, e184_69, e184_70, e184_71, e184_71a, e184_73, e184_75, e184_77, e184_80, e184_80a, e184_82, e184_84, e184_86, e184_89, e184_92, e184_93, e184_96, e184_97, e184_97a, e184_99, e184_100, e184_103, e184_105, e184_106, e184_109, e184_110, e184_113, e184_114, e184_115, e184_117, e184_120, e184_123, e184_124, e184_127, e184_129, e184_130, e184_132, e184_135, e184_136, e184_139, e184_141, e184_143, e184_144, e184_145, e184_148, e184_149, e184_151, zpush_some, zpush_none, true_or, or_true, true_and, and_true, ↓reduceIte, zq_ite, zq_itel, hlt, h_flip _ k1 _ hw4, s_M_linkAt k1 hw4, s_M_hasN (nI (s.1 k)) (show w < 32 by omega), hbc, hsb, zb_t, zb_f, zz_1, zo_62, zr_62_16, zr_62_26, zr_62_27, zr_62_28, zn_70, zl_70, zi_2, zt_2, Nat.reduceLT, decide_true, hx', s_M_hasN x hl, hBk, zn_79, zw_79, zl_79, zn_80, zl_80, zn_81, zw_81, zl_81, zt, ct, hto, hge, zl32, cl32, hgo, ze, ce, not_true_eq_false, not_false_eq_true]
            simp only [e184_152, e184_155, e184_155a, e184_158, nI_1]
            exact ih' _ _ _ _ (by omega) V1 V2 rfl ms fr ho
        · have hF : FF (bt x) U (s.1 k) w = true := by unfold FF; rw [hBk, hUk]; rfl
          have eb : bst (FF (bt x) U) s k w = s := by unfold bst; exact if_neg (fun q => by rw [hF] at q; cases q.2)
          have hgo := hgo.trans (eq_true hUk)
          rw [eb] at ih' ho V1 V2
          cases hsb : (s.1 k).testBit w
          · rw [hsb, if_neg Bool.false_ne_true] at hgo
            simp only [e184_58, e184_60, e184_61, e184_64, e184_66, e184_67, e184_69, e184_70, e184_71, e184_71a, e184_73, e184_75, e184_77, e184_80, e184_80a, e184_82, e184_84, e184_86, e184_89, e184_92, e184_93, e184_96, e184_97, e184_97a, e184_99, e184_100, e184_103, e184_105, e184_106, e184_109, e184_110, e184_113, e184_114, e184_115, e184_117, e184_120, e184_123, e184_124, e184_127, e184_129, e184_130, e184_132, zpush_some, zpush_none, true_or, or_true, true_and, and_true, ↓reduceIte, zq_ite, zq_itel, hlt, h_flip _ k1 _ hw4, s_M_linkAt k1 hw4, s_M_hasN (nI (s.1 k)) (show w < 32 by omega), hbc, hsb, zb_f, zo_62, zr_62_16, zr_62_27, zr_62_28, zn_70, zl_70, zi_2, zt_2, Nat.reduceLT, decide_true, hx', s_M_hasN x hl, hBk, zn_80, zl_80, zn_81, zl_81, zt, ct, hto, hge, zl32, cl32, hgo, not_true_eq_false, not_false_eq_true]
            simp only [e184_155, e184_155a, e184_158, nI_1]
            exact ih' I' _ _ _ (by omega) V1 V2 rfl hX hI ho
          · rw [hsb, if_pos rfl] at hgo
            simp only [e184_58, e184_60, e184_61, e184_64, e184_66, e184_67, e184_69, e184_70, e184_71, e184_71a, e184_73, e184_75, e184_77, e184_80, e184_80a, e184_82, e184_84, e184_86, e184_89, e184_92, e184_93, e184_96, e184_97, e184_97a, e184_99, e184_100, e184_103, e184_105, e184_106, e184_109, e184_110, e184_113, e184_114, e184_115, e184_117, e184_120, e184_123, e184_124, e184_127, e184_129, e184_130, e184_132, zpush_some, zpush_none, true_or, or_true, true_and, and_true, ↓reduceIte, zq_ite, zq_itel, hlt, h_flip _ k1 _ hw4, s_M_linkAt k1 hw4, s_M_hasN (nI (s.1 k)) (show w < 32 by omega), hbc, hsb, zb_t, zb_f, zz_1, zo_62, zr_62_16, zr_62_27, zr_62_28, zn_70, zl_70, zi_2, zt_2, Nat.reduceLT, decide_true, hx', s_M_hasN x hl, hBk, zn_80, zl_80, zn_81, zl_81, zt, ct, hto, hge, zl32, cl32, hgo, not_true_eq_false, not_false_eq_true]
            simp only [e184_155, e184_155a, e184_158, nI_1]
            exact ih' I' _ _ _ (by omega) V1 V2 rfl hX hI ho
      · have hF : FF (bt x) U (s.1 k) w = true := by unfold FF; rw [hBk]; rfl
        have eb : bst (FF (bt x) U) s k w = s := by unfold bst; exact if_neg (fun q => by rw [hF] at q; cases q.2)
        rw [eb] at ih' ho V1 V2
        cases hsb : (s.1 k).testBit w
        · simp only [e184_58, e184_60, e184_61, e184_64, e184_66, e184_67, e184_69, e184_70, e184_71, e184_71a, e184_73, e184_75, e184_77, e184_80, e184_80a, e184_82, e184_84, e184_86, e184_89, e184_92, e184_93, e184_96, e184_97, e184_97a, e184_99, e184_100, e184_103, e184_105, e184_106, e184_109, e184_110, e184_113, e184_114, e184_115, e184_117, e184_120, zpush_some, zpush_none, true_or, or_true, true_and, and_true, ↓reduceIte, zq_ite, zq_itel, hlt, h_flip _ k1 _ hw4, s_M_linkAt k1 hw4, s_M_hasN (nI (s.1 k)) (show w < 32 by omega), hbc, hsb, zb_f, zb_t, zz_1, zo_62, zr_62_16, zr_62_28, zn_70, zl_70, zi_2, zt_2, Nat.reduceLT, decide_true, hx', s_M_hasN x hl, hBk, zn_81, zl_81, zt, ct, hto, hge, not_true_eq_false, not_false_eq_true]
          simp only [e184_155, e184_155a, e184_158, nI_1]
          exact ih' I' _ _ _ (by omega) V1 V2 rfl hX hI ho
        · simp only [e184_58, e184_60, e184_61, e184_64, e184_66, e184_67, e184_69, e184_70, e184_71, e184_71a, e184_73, e184_75, e184_77, e184_80, e184_80a, e184_82, e184_84, e184_86, e184_89, e184_92, e184_93, e184_96, e184_97, e184_97a, e184_99, e184_100, e184_103, e184_105, e184_106, e184_109, e184_110, e184_113, e184_114, e184_115, e184_117, e184_120, zpush_some, zpush_none, true_or, or_true, true_and, and_true, ↓reduceIte, zq_ite, zq_itel, hlt, h_flip _ k1 _ hw4, s_M_linkAt k1 hw4, s_M_hasN (nI (s.1 k)) (show w < 32 by omega), hbc, hsb, zb_t, zz_1, zo_62, zr_62_16, zr_62_28, zn_70, zl_70, zi_2, zt_2, Nat.reduceLT, decide_true, hx', s_M_hasN x hl, hBk, zn_81, zl_81, zt, ct, hto, hge, not_true_eq_false, not_false_eq_true]
          simp only [e184_155, e184_155a, e184_158, nI_1]
          exact ih' I' _ _ _ (by omega) V1 V2 rfl hX hI ho
theorem l_M_out (hx : I 70 2 = x) (hU : FR I U) {v1 v2 : Int32} (hQ : ∀ I' v3 v4 v5 v6 v7 v8 v9, (∀ k j, k ≠ 79 → k ≠ 81 → I' k j = I k j) → MS I' o → zV n (d + 1) 184 167 [.ref 62, .int v1, .int v2, .int v3, .int v4, v5, v6, v7, v8, v9] [] I' L Q) :
    ∀ r k (s : Bs) rk I' v5 v6 v7 v8 v9, k + r = 16 → VI (FF (bt x) U) a s rk → MS I' s → (∀ k j, k ≠ 79 → k ≠ 81 → I' k j = I k j) → boutr (FF (bt x) U) r k s = o → zV n (d + 1) 184 40 [.ref 62, .int v1, .int v2, .int (nI s.2.1), .int (nI k), v5, v6, v7, v8, v9] [] I' L Q := by
  intro r
  induction r with
  | zero =>
    intro k s rk I' v5 v6 v7 v8 v9 hk hV hX hI ho
    have e : k = 16 := by omega
    subst e
    have h16 := hV.1
    have g : (nI s.2.1 ≤ nI 16) = True := (nI_leN (by omega) (by decide)).trans (eq_true h16)
    subst ho
    simp only [e184_40, e184_42, e184_43, zpush_some, zpush_none, true_or, or_true, true_and, and_true, ↓reduceIte, zq_ite, zq_itel, g]
    exact hQ I' _ _ _ _ _ _ _ hI hX
  | succ r ih =>
    intro k s rk I' v5 v6 v7 v8 v9 hk hV hX hI ho
    have h16 := hV.1
    rw [boutr] at ho
    by_cases g : k < s.2.1
    · rw [if_pos g] at ho
      have g1 : (nI s.2.1 ≤ nI k) = False := (nI_leN (by omega) (by omega)).trans (eq_false (by omega))
      have zk : zin (nI k) 16 = true := zin_ok (by omega) (by decide)
      have ck : (nI k).toNatClampNeg = k := nI_clamp (by omega)
      simp only [e184_40, e184_42, e184_43, e184_46, e184_47, e184_50, e184_52, e184_53, e184_53a, e184_55, e184_56, e184_56a, zpush_some, zpush_none, true_or, or_true, true_and, and_true, ↓reduceIte, zq_ite, zq_itel, g1, zo_62, zr_62_26, zn_79, zl_79, zk, ck, hX.1 k g]
      obtain ⟨rk', V1⟩ := VI_in 4 0 s rk rfl hV g
      refine l_M_in (I := I) (o := binr (FF (bt x) U) k 4 0 s) (a := a) (p := s.1 k) hx hU (show k < 16 by omega) (fun I2 w7 w8 w9 y1 y2 => ?_) 4 0 s rk I' _ _ _ rfl hV g rfl hX hI rfl
      simp only [e184_161, e184_161a, e184_164, nI_1]
      exact ih (k + 1) _ rk' I2 _ _ _ _ _ (by omega) V1 y2 y1 ho
    · rw [if_neg g] at ho
      have g1 : (nI s.2.1 ≤ nI k) = True := (nI_leN (by omega) (by omega)).trans (eq_true (by omega))
      subst ho
      simp only [e184_40, e184_42, e184_43, zpush_some, zpush_none, true_or, or_true, true_and, and_true, ↓reduceIte, zq_ite, zq_itel, g1]
      exact hQ I' _ _ _ _ _ _ _ hI hX
theorem r_M_way {F : Nat → Nat → Bool} {rk : Nat → Nat} {U0 : Nat → Nat → Bool} (ha : a < 16) (hV : VI F a s rk) (hF : ∀ c w, F c w = false → U0 c w = false) (hC : ∀ v, v < 16 → I 81 v = cmv (s.2.2 v)) {v2 v3 : Int32} {v7 v8 v9 : Value} (hQ : ∀ I', (∀ k j, k ≠ 80 → I' k j = I k j) → FR I' U' → Q (some (.int 1)) I' L) :
    ∀ r v U I' v5 v6, v < 16 → s.2.2 v < 5 → rk v < r → UI s rk v U U0 → FR I' U → (∀ k j, k ≠ 80 → I' k j = I k j) → bk s.2.2 a r v U = U' → zV n (d + 2) 184 181 [.ref 62, .int (nI a), .int v2, .int v3, .int (nI v), v5, v6, v7, v8, v9] [] I' L Q := by
  intro r
  induction r with
  | zero => intro v U I' v5 v6 h1 h2 h3; omega
  | succ r ih =>
    intro v U I' v5 v6 hv hc hr hUI hR hI ho
    have eva : (nI v = nI a) = (v = a) := nI_eqN (by omega) (by omega)
    rw [bk] at ho
    by_cases g : v = a
    · rw [if_pos g] at ho
      have eva := eva.trans (eq_true g)
      subst ho
      simp only [e184_181, e184_183, e184_184, e184_242, e184_243, zpush_some, zpush_none, true_or, or_true, true_and, and_true, ↓reduceIte, zq_ite, zq_itel, eva]
      exact hQ I' hI hR
    · rw [if_neg g] at ho
      have eva := eva.trans (eq_false g)
      have hc4 : s.2.2 v < 4 := by
        have := hV.2.2.2.2.2.2.2 v hv
        by_cases e : s.2.2 v = 4
        · exact absurd (this e) g
        · omega
      obtain ⟨h1, h2, h3⟩ := hV.2.2.2.2.1 v hv hc4
      obtain ⟨t1, t2, t3⟩ := xor_pow16 v hv _ hc4
      have z0 : U (v ^^^ 2 ^ s.2.2 v) (s.2.2 v) = false := by
        rw [hUI _ t1 _ hc4 h1 (by rw [t2]; exact hc) (by omega) (by rw [t2]; omega)]
        exact hF _ _ h3
      have hN := FR_use hR hv hc4 z0
      have zv : zin (nI v) 16 = true := zin_ok hv (by decide)
      have cv : (nI v).toNatClampNeg = v := nI_clamp (by omega)
      have ecm : I' 81 v = nI (s.2.2 v) := by rw [hI 81 v (by decide), hC v hv]; exact if_pos (by omega)
      have hl := lk_lt _ t1 _ hc4
      have zl32 : zin (nI (lk (v ^^^ 2 ^ s.2.2 v) (s.2.2 v))) 32 = true := zin_ok hl (by decide)
      have cl32 : (nI (lk (v ^^^ 2 ^ s.2.2 v) (s.2.2 v))).toNatClampNeg = lk (v ^^^ 2 ^ s.2.2 v) (s.2.2 v) := nI_clamp (by omega)
      have hbc : bt (nI (v ^^^ 2 ^ s.2.2 v)) (s.2.2 v) = (v ^^^ 2 ^ s.2.2 v).testBit (s.2.2 v) := bt_nI (by omega)
      cases hsb : (v ^^^ 2 ^ s.2.2 v).testBit (s.2.2 v)
      · rw [hsb, if_neg Bool.false_ne_true] at hN
        simp only [e184_181, e184_183, e184_184, e184_187, e184_188, e184_191, e184_193, e184_194, e184_194a, e184_196, e184_198, e184_199, e184_201, e184_202, e184_203, e184_203a, e184_205, e184_206, e184_209, e184_211, e184_213, e184_216, e184_217, e184_218, e184_220, e184_222, e184_225, e184_228, e184_229, e184_232, e184_233, e184_234, e184_235, e184_237, e184_237a, zpush_some, zpush_none, true_or, or_true, true_and, and_true, ↓reduceIte, zq_ite, zq_itel, eva, zo_62, zr_62_27, zr_62_28, zn_81, zl_81, zv, cv, ecm, h_flip _ hv _ hc4, zn_80, zw_80, zl_80, s_M_linkAt t1 hc4, zl32, cl32, s_M_hasN (nI (v ^^^ 2 ^ s.2.2 v)) (show s.2.2 v < 32 by omega), hbc, hsb, zb_f]
        simp only [e184_239, zpush_some, zpush_none, true_or, or_true, true_and, and_true, ↓reduceIte, zq_ite, zq_itel]
        exact ih _ _ _ _ _ t1 h1 (by omega) (UI_step hV hv hc4 hUI) hN (fun k j hk => by rw [zup_ne hk]; exact hI k j hk) ho
      · rw [hsb, if_pos rfl] at hN
        simp only [e184_181, e184_183, e184_184, e184_187, e184_188, e184_191, e184_193, e184_194, e184_194a, e184_196, e184_198, e184_199, e184_201, e184_202, e184_203, e184_203a, e184_205, e184_206, e184_209, e184_211, e184_213, e184_216, e184_217, e184_218, e184_220, e184_222, e184_225, e184_228, e184_229, e184_232, e184_233, e184_234, e184_235, e184_237, e184_237a, zpush_some, zpush_none, true_or, or_true, true_and, and_true, ↓reduceIte, zq_ite, zq_itel, eva, zo_62, zr_62_27, zr_62_28, zn_81, zl_81, zv, cv, ecm, h_flip _ hv _ hc4, zn_80, zw_80, zl_80, s_M_linkAt t1 hc4, zl32, cl32, s_M_hasN (nI (v ^^^ 2 ^ s.2.2 v)) (show s.2.2 v < 32 by omega), hbc, hsb, zb_t, zz_1]
        simp only [e184_239, zpush_some, zpush_none, true_or, or_true, true_and, and_true, ↓reduceIte, zq_ite, zq_itel]
        exact ih _ _ _ _ _ t1 h1 (by omega) (UI_step hV hv hc4 hUI) hN (fun k j hk => by rw [zup_ne hk]; exact hI k j hk) ho
theorem t_M_more (hx : I 70 2 = x) (hU : FR I U) (ha : a < 16) (hb : b < 16) (hQ0 : ∀ I', ¬ (srch (bt x) a U).2.2 b < 5 → (∀ k j, k ≠ 79 → k ≠ 81 → I' k j = I k j) → Q (some (.int 0)) I' L) (hQ1 : ∀ I', (srch (bt x) a U).2.2 b < 5 → (∀ k j, k ≠ 79 → k ≠ 81 → k ≠ 80 → I' k j = I k j) → FR I' (bk (srch (bt x) a U).2.2 a 16 b U) → Q (some (.int 1)) I' L) : zV n (d + 2) 184 0 [.ref 62, .int (nI a), .int (nI b), .null, .null, .null, .null, .null, .null, .null] [] I L Q := by
  have za : zin (nI a) 16 = true := zin_ok ha (by decide)
  have ca : (nI a).toNatClampNeg = a := nI_clamp (by omega)
  have zb' : zin (nI b) 16 = true := zin_ok hb (by decide)
  have cb' : (nI b).toNatClampNeg = b := nI_clamp (by omega)
  simp only [e184_0, e184_1, zpush_some, zpush_none, true_or, or_true, true_and, and_true, ↓reduceIte, zq_ite, zq_itel]
  refine l_M_more0 (I := I) (fun I1 h1 h2 => ?_) 16 0 I rfl (fun _ _ _ => rfl) (fun v hv => absurd hv (Nat.not_lt_zero v))
  simp only [e184_21, e184_22, e184_25, e184_26, e184_27, e184_28, e184_29, e184_32, e184_33, e184_34, e184_35, e184_36, e184_37, e184_38, e184_38a, zpush_some, zpush_none, true_or, or_true, true_and, and_true, ↓reduceIte, zq_ite, zq_itel, zo_62, zr_62_26, zr_62_28, zn_79, zw_79, zl_79, zn_81, zw_81, zl_81, za, ca, zi_0, zt_0, Nat.reduceLT, decide_true]
  have hI1 : ∀ {z1 z2 : Int32} k j, k ≠ 79 → k ≠ 81 → zup (zup I1 81 a z1) 79 0 z2 k j = I k j := fun {z1 z2} k j e1 e2 => by rw [zup_ne e1, zup_ne e2, h1 k j e2]
  refine l_M_out (I := I) (o := srch (bt x) a U) (U := U) (a := a) (d := d + 1) hx hU (fun I2 w3 w4 w5 w6 w7 w8 w9 y1 y2 => ?_) 16 0 (Bs0 a) (fun _ => 0) _ _ _ _ _ _ rfl (VI_0 ha) ⟨fun i hi => ?_, fun v hv => ?_⟩ (fun k j a b => hI1 k j a b) rfl
  · by_cases g : (srch (bt x) a U).2.2 b < 5
    · have hge : (0 ≤ cmv ((srch (bt x) a U).2.2 b)) = True := cmv_ge.trans (eq_true g)
      simp only [e184_167, e184_168, e184_171, e184_172, e184_173, e184_176, e184_177, e184_178, e184_179, e184_179a, zpush_some, zpush_none, true_or, or_true, true_and, and_true, ↓reduceIte, zq_ite, zq_itel, zo_62, zr_62_28, zn_81, zl_81, zb', cb', y2.2 b hb, hge]
      obtain ⟨rk, hV⟩ := VI_out (F := FF (bt x) U) (a := a) 16 0 (Bs0 a) (fun _ => 0) (VI_0 ha)
      have hr := (hV.2.2.2.1 b hb g).1
      have h16 := hV.1
      refine r_M_way (F := FF (bt x) U) (s := srch (bt x) a U) (I := I2) (U0 := U) (U' := bk (srch (bt x) a U).2.2 a 16 b U) (d := d) ha hV (fun c w hf => ?_) y2.2 (fun I3 z1 z2 => hQ1 I3 g (fun k j e1 e2 e3 => by rw [z1 k j e3, y1 k j e1 e2]) z2) 16 b U I2 _ _ hb g (Nat.lt_of_lt_of_le hr h16) (fun c _ w _ _ _ _ _ => rfl) (fun c hc w hw hbb => by rw [y1 80 _ (by decide) (by decide)]; exact hU c hc w hw hbb) (fun _ _ _ => rfl) rfl
      unfold FF at hf
      exact (Bool.or_eq_false_iff.mp hf).2
    · have hge : (0 ≤ cmv ((srch (bt x) a U).2.2 b)) = False := cmv_ge.trans (eq_false g)
      simp only [e184_167, e184_168, e184_171, e184_172, e184_173, e184_176, e184_177, zpush_some, zpush_none, true_or, or_true, true_and, and_true, ↓reduceIte, zq_ite, zq_itel, zo_62, zr_62_28, zn_81, zl_81, zb', cb', y2.2 b hb, hge]
      exact hQ0 I2 g y1
  · have hi : i < 1 := hi
    have e : i = 0 := by omega
    subst e
    exact zup_eq
  · show _ = cmv (upN (fun _ => 5) a 4 v)
    rw [zup_ne (by decide)]
    by_cases e : v = a
    · subst e; rw [zup_eq, upN_eq]; rfl
    · rw [zup_nj e, upN_ne e, h2 v hv]; rfl
theorem l_M_flow0 {v1 v2 : Int32} (hQ : ∀ I', (∀ k j, k ≠ 80 → I' k j = I k j) → (∀ v, v < 32 → I' 80 v = 0) → zV n d 183 48 [.ref 62, .int v1, .int v2, .int 32] [] I' L Q) :
    ∀ r i I', i + r = 32 → (∀ k j, k ≠ 80 → I' k j = I k j) → (∀ v, v < i → I' 80 v = 0) → zV n d 183 29 [.ref 62, .int v1, .int v2, .int (nI i)] [] I' L Q := by
  intro r
  induction r with
  | zero =>
    intro i I' hi h1 h2
    have e : i = 32 := by omega
    subst e
    simp only [e183_29, e183_30, e183_32, zpush_some, zpush_none, true_or, or_true, true_and, and_true, ↓reduceIte, zq_ite, zq_itel, show nI 32 = (32 : Int32) from rfl, Int32.le_refl]
    exact hQ I' h1 h2
  | succ r ih =>
    intro i I' hi h1 h2
    have hlt : ((32 : Int32) ≤ nI i) = False := eq_false (nI_ge (b := 32) (by omega) (by omega))
    have z1 : zin (nI i) 32 = true := zin_ok (by omega) (by decide)
    have c1 : (nI i).toNatClampNeg = i := nI_clamp (by omega)
    simp only [e183_29, e183_30, e183_32, e183_35, e183_36, e183_39, e183_40, e183_41, zpush_some, zpush_none, true_or, or_true, true_and, and_true, ↓reduceIte, zq_ite, zq_itel, hlt, zo_62, zr_62_27, zn_80, zw_80, zl_80, z1, c1]
    simp only [e183_42, e183_45, nI_1]
    refine ih (i + 1) _ (by omega) (fun k j g => by rw [zup_ne g]; exact h1 k j g) (fun l hl => ?_)
    by_cases e : l = i
    · subst e; exact zup_eq
    · rw [zup_nj e]; exact h2 l (by omega)
theorem l_M_parts (hx : I 70 2 = x) (ha : a < 16) (hb : b < 16) (hab : b ≠ a) (hQ : ∀ I', (∀ k j, k ≠ 79 → k ≠ 81 → k ≠ 80 → I' k j = I k j) → Q (some (.int (nI N))) I' L) :
    ∀ r i U I', cu U a + r = 4 → N = i + augs (bt x) a b r U → ZU U a → FR I' U → (∀ k j, k ≠ 79 → k ≠ 81 → k ≠ 80 → I' k j = I k j) → zV n (d + 3) 183 50 [.ref 62, .int (nI a), .int (nI b), .int (nI i)] [] I' L Q := by
  intro r
  induction r with
  | zero =>
    intro i U I' hc hN hZ hU hI
    have hx' : I' 70 2 = x := by rw [hI 70 2 (by decide) (by decide) (by decide)]; exact hx
    have hall := cu_4 (show cu U a = 4 by omega)
    have hs : srch (bt x) a U = Bs0 a := boutr_none (fun w hw => by show (bt x (lk a w) || U a w) = true; rw [hall w hw, Bool.or_true])
    have hnb : (srch (bt x) a U).2.2 b = 5 := by
      rw [hs]
      exact upN_ne (f := fun _ => 5) (x := 4) hab
    have hN : N = i := hN
    subst hN
    simp only [e183_50, e183_51, e183_52, e183_53, zpush_some, zpush_none, true_or, or_true, true_and, and_true, ↓reduceIte, zq_ite, zq_itel, zo_62]
    refine t_M_more hx' hU ha hb (fun I2 g x1 => ?_) (fun I2 g x1 x2 => absurd g (by omega))
    simp only [e183_53, e183_56, e183_59, e183_62, e183_65, e183_66, zpush_some, zpush_none, true_or, or_true, true_and, and_true, ↓reduceIte, zq_ite, zq_itel]
    exact hQ I2 (fun k j e1 e2 e3 => by rw [x1 k j e1 e2, hI k j e1 e2 e3])
  | succ r ih =>
    intro i U I' hc hN hZ hU hI
    have hx' : I' 70 2 = x := by rw [hI 70 2 (by decide) (by decide) (by decide)]; exact hx
    rw [augs] at hN
    simp only [e183_50, e183_51, e183_52, e183_53, zpush_some, zpush_none, true_or, or_true, true_and, and_true, ↓reduceIte, zq_ite, zq_itel, zo_62]
    refine t_M_more hx' hU ha hb (fun I2 g x1 => ?_) (fun I2 g x1 x2 => ?_)
    · rw [if_neg g] at hN
      have hN : N = i := hN
      subst hN
      simp only [e183_53, e183_56, e183_59, e183_62, e183_65, e183_66, zpush_some, zpush_none, true_or, or_true, true_and, and_true, ↓reduceIte, zq_ite, zq_itel]
      exact hQ I2 (fun k j e1 e2 e3 => by rw [x1 k j e1 e2, hI k j e1 e2 e3])
    · rw [if_pos g] at hN
      simp only [e183_53, e183_56, e183_59, e183_62, zpush_some, zpush_none, true_or, or_true, true_and, and_true, ↓reduceIte, zq_ite, zq_itel, zz_1, nI_1]
      obtain ⟨rk, hV⟩ := VI_out (F := FF (bt x) U) (a := a) 16 0 (Bs0 a) (fun _ => 0) (VI_0 ha)
      have hr := (hV.2.2.2.1 b hb g).1
      have h16 := hV.1
      obtain ⟨c1, c2⟩ := bk_cu (U0 := U) (s := srch (bt x) a U) ha hV (fun c w hf => by unfold FF at hf; exact (Bool.or_eq_false_iff.mp hf).2) 16 b U hb g (Nat.lt_of_lt_of_le hr h16) (fun c _ w _ _ _ _ _ => rfl) hZ
      rw [if_neg hab] at c2
      exact ih (i + 1) _ I2 (by omega) (by omega) c1 x2 (fun k j e1 e2 e3 => by rw [x1 k j e1 e2 e3, hI k j e1 e2 e3])
theorem p_parts (h : Inv I L) (a b : Int32) : zV n (d + 4) 89 0 [.ref 3, .int a, .int b] [] I L (fun v1 I1 L1 => zV n (d + 4) 183 0 [.ref 62, .int a, .int b, .null] [] I1 L1 (fun v2 I2 L2 => same v1 v2 ∧ Inv I2 L2)) := by
  obtain ⟨m, K, s, hm, hok, ht, hX, hM, hK⟩ := h.view
  rcases rng a 15 (by decide) (a := 16) (b := 15) rfl rfl with g1 | ⟨g1, g2, g3⟩ | ⟨i, hi, rfl, g1, g2, g3⟩
  · simp only [e89_0, e89_1, e89_4, e89_7, e89_8, e89_11, e89_14, e89_15, e89_16, e89_19, e89_20, e89_21, e89_22, e89_25, e89_26, e89_29, e89_32, e89_33, e89_34, e89_37, e183_0, e183_1, e183_2, e183_4, e183_7, e183_10, e183_11, e183_12, e183_14, e183_17, e183_20, e183_21, e183_22, e183_25, e183_26, e183_27, e183_28, zpush_some, zpush_none, true_or, or_true, true_and, and_true, ↓reduceIte, zq_ite, zq_itel, s_M_in, s_X_isCorner, g1]
    exact ⟨same_i, h⟩
  · simp only [e89_0, e89_1, e89_4, e89_7, e89_8, e89_11, e89_14, e89_15, e89_16, e89_19, e89_20, e89_21, e89_22, e89_25, e89_26, e89_29, e89_32, e89_33, e89_34, e89_37, e183_0, e183_1, e183_2, e183_4, e183_7, e183_10, e183_11, e183_12, e183_14, e183_17, e183_20, e183_21, e183_22, e183_25, e183_26, e183_27, e183_28, zpush_some, zpush_none, true_or, or_true, true_and, and_true, ↓reduceIte, zq_ite, zq_itel, s_M_in, s_X_isCorner, g1, g2, g3]
    exact ⟨same_i, h⟩
  · rcases rng b 15 (by decide) (a := 16) (b := 15) rfl rfl with f1 | ⟨f1, f2, f3⟩ | ⟨j, hj, rfl, f1, f2, f3⟩
    · simp only [e89_0, e89_1, e89_4, e89_7, e89_8, e89_11, e89_14, e89_15, e89_16, e89_19, e89_20, e89_21, e89_22, e89_25, e89_26, e89_29, e89_32, e89_33, e89_34, e89_37, e183_0, e183_1, e183_2, e183_4, e183_7, e183_10, e183_11, e183_12, e183_14, e183_17, e183_20, e183_21, e183_22, e183_25, e183_26, e183_27, e183_28, zpush_some, zpush_none, true_or, or_true, true_and, and_true, ↓reduceIte, zq_ite, zq_itel, s_M_in, s_X_isCorner, g1, g2, g3, f1, zz_1]
      exact ⟨same_i, h⟩
    · simp only [e89_0, e89_1, e89_4, e89_7, e89_8, e89_11, e89_14, e89_15, e89_16, e89_19, e89_20, e89_21, e89_22, e89_25, e89_26, e89_29, e89_32, e89_33, e89_34, e89_37, e183_0, e183_1, e183_2, e183_4, e183_7, e183_10, e183_11, e183_12, e183_14, e183_17, e183_20, e183_21, e183_22, e183_25, e183_26, e183_27, e183_28, zpush_some, zpush_none, true_or, or_true, true_and, and_true, ↓reduceIte, zq_ite, zq_itel, s_M_in, s_X_isCorner, g1, g2, g3, f1, f2, f3, zz_1]
      exact ⟨same_i, h⟩
    · by_cases hij : i = j
      · subst hij
        simp only [e89_0, e89_1, e89_4, e89_7, e89_8, e89_11, e89_14, e89_15, e89_16, e89_19, e89_20, e89_21, e89_22, e89_25, e89_26, e89_29, e89_32, e89_33, e89_34, e89_37, e183_0, e183_1, e183_2, e183_4, e183_7, e183_10, e183_11, e183_12, e183_14, e183_17, e183_20, e183_21, e183_22, e183_25, e183_26, e183_27, e183_28, zpush_some, zpush_none, true_or, or_true, true_and, and_true, ↓reduceIte, zq_ite, zq_itel, s_M_in, s_X_isCorner, g1, g2, g3, zz_1, not_true_eq_false]
        exact ⟨same_i, h⟩
      · have nij : (nI i = nI j) = False := (nI_eqN (by omega) (by omega)).trans (eq_false hij)
        have hB := XC_B hX
        simp only [e89_0, e89_1, e89_4, e89_7, e89_8, e89_11, e89_14, e89_15, e89_16, e89_19, e89_20, e89_21, e89_22, e89_25, e89_26, e89_29, e89_32, e89_33, e89_34, e89_37, e90_0, e90_1, e90_2, e90_5, e90_6, zpush_some, zpush_none, true_or, or_true, true_and, and_true, ↓reduceIte, zq_ite, zq_itel, s_X_isCorner, g1, g2, f1, f2, zz_1, nij, not_false_eq_true, zo_3, zr_3_5, zr_3_7, zo_14, zo_24]
        refine l_P_fewest (I := I) (L := zup L 24 2 0) (N := 0 + augs (bt s.2.2.2.1) i j 4 (fun _ _ => false)) hB hi hj (fun e => hij e.symm) (fun I1 L1 x1 x2 => ?_) 4 0 (fun _ _ => false) I _ rfl rfl (fun c hc w hw => by rw [zup_eq]; exact bl_0 _) (fun _ _ _ _ => rfl) (fun _ _ _ => rfl)
        simp only [e89_0, e89_1, e89_4, e89_7, e89_8, e89_11, e89_14, e89_15, e89_16, e89_19, e89_20, e89_21, e89_22, e89_25, e89_26, e89_29, e89_32, e89_33, e89_34, e89_37, e183_0, e183_1, e183_2, e183_4, e183_7, e183_10, e183_11, e183_12, e183_14, e183_17, e183_20, e183_21, e183_22, e183_25, e183_26, e183_27, e183_28, zpush_some, zpush_none, true_or, or_true, true_and, and_true, ↓reduceIte, zq_ite, zq_itel, s_M_in, g1, g3, f1, f3, zz_1, nij, not_false_eq_true]
        refine l_M_flow0 (I := I1) (fun I2 y1 y2 => ?_) 32 0 I1 rfl (fun _ _ _ => rfl) (fun v hv => absurd hv (Nat.not_lt_zero v))
        simp only [e183_48, e183_49, zpush_some, zpush_none, true_or, or_true, true_and, and_true, ↓reduceIte, zq_ite, zq_itel]
        refine l_M_parts (I := I2) (x := s.2.2.2.1) (N := 0 + augs (bt s.2.2.2.1) i j 4 (fun _ _ => false)) (by rw [y1 70 2 (by decide), x1 70 2 (by decide) (by decide)]; exact MC_x hM) hi hj (fun e => hij e.symm) (fun I3 z1 => ?_) 4 0 (fun _ _ => false) I2 rfl rfl (fun w hw => rfl) (fun c hc w hw hb => ⟨y2 _ (lk_lt c hc w hw), fun q => by cases q.1⟩) (fun _ _ _ _ _ => rfl)
        refine ⟨same_i, inv_other h (fun k j hk => ?_) (fun k j hk => by rw [x2 k j (by omega), zup_ne (by omega)])⟩
        unfold cubeCell at hk
        rw [z1 k j (by omega) (by omega) (by omega), y1 k j (by omega), x1 k j (by omega) (by omega)]
end
