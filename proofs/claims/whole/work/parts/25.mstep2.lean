theorem zb_t : zb true = 1 := rfl
theorem zb_f : zb false = 0 := rfl
theorem zup_ne {α : Type} {f : Nat → Nat → α} {k j k' j' : Nat} {v : α} (h : k' ≠ k) : zup f k j v k' j' = f k' j' := by simp [zup, h]
theorem zup_nj {α : Type} {f : Nat → Nat → α} {k j k' j' : Nat} {v : α} (h : j' ≠ j) : zup f k j v k' j' = f k' j' := by simp [zup, h]
theorem zup_eq {α : Type} {f : Nat → Nat → α} {k j : Nat} {v : α} : zup f k j v k j = v := by simp [zup]
theorem h_flip : ∀ c, c < 16 → ∀ w, w < 4 → nI c ^^^ (1 : Int32) <<< (nI w &&& 31) = nI (c ^^^ 2 ^ w) := by decide +kernel
section
variable {n d : Nat} {L : zl} {Q : zq} {C G W K : Nat → Nat} {x : Int32} {t h a m : Nat}
/-- the arcs taken, as two sets of links -/
def UD (A : Nat → Nat → Bool) (up dn : Int32) : Prop := ∀ c, c < 16 → ∀ w, w < 4 → (c.testBit w = false → bt up (lk c w) = A c w) ∧ (c.testBit w = true → bt dn (lk c w) = A c w)
/-- behind i messages of the second loop -/
def Ms (I I' : zi) (a : Nat) (C W v : Nat → Nat) (B : Nat → Bool) (i : Nat) : Prop := (∀ k j, k ≠ a → k ≠ 77 → I' k j = I k j) ∧ (∀ j, (j < 3 ∨ (10 ≤ j ∧ j < 17)) → I' a j = I a j) ∧ (∀ q, q < 7 → I' a (3 + q) = nI (if q < i then C1 C v B q else C q) ∧ I' a (17 + q) = wy (if q < i then W1 C W v B q else W q)) ∧ ∀ l, l < 32 → I' 77 l = I 77 l + nI (cntl C v B l i)
theorem Ms_skip {I I' : zi} {v : Nat → Nat} {B : Nat → Bool} {i : Nat} (hS : Ms I I' a C W v B i) (hg : goes C v B i = false) : Ms I I' a C W v B (i + 1) := by
  obtain ⟨h1, h2, h3, h4⟩ := hS
  refine ⟨h1, h2, fun q hq => ?_, fun l hl => ?_⟩
  · by_cases e : q = i
    · subst e
      have := h3 q hq
      simp only [Nat.lt_irrefl, if_false] at this
      simp only [Nat.lt_succ_self, if_true, C1, W1, hg, Bool.false_eq_true, if_false]
      exact this
    · have := h3 q hq
      have e2 : (q < i + 1) = (q < i) := propext ⟨fun g => by omega, fun g => by omega⟩
      simp only [e2]
      exact this
  · rw [h4 l hl, cntl]
    simp [hg]
theorem Ms_go {I I' : zi} {v : Nat → Nat} {B : Nat → Bool} {i : Nat} (hS : Ms I I' a C W v B i) (hg : goes C v B i = true) (hi : i < 7) (hv : v i < 4) (ha : a ≠ 77) : Ms I (zup (zup (zup I' a (3 + i) (nI (C i ^^^ 2 ^ v i))) a (17 + i) (nI (v i))) 77 (lk (C i) (v i)) (I' 77 (lk (C i) (v i)) + 1)) a C W v B (i + 1) := by
  obtain ⟨h1, h2, h3, h4⟩ := hS
  refine ⟨fun k j hk hk2 => ?_, fun j hj => ?_, fun q hq => ?_, fun l hl => ?_⟩
  · rw [zup_ne hk2, zup_ne hk, zup_ne hk]
    exact h1 k j hk hk2
  · rw [zup_ne ha, zup_nj (by omega), zup_nj (by omega)]
    exact h2 j hj
  · rw [zup_ne ha, zup_ne ha]
    by_cases e : q = i
    · subst e
      simp only [Nat.lt_succ_self, if_true, C1, W1, hg]
      rw [zup_nj (by omega), zup_eq, zup_eq, wy_lt hv]
      exact ⟨rfl, rfl⟩
    · have := h3 q hq
      have e2 : (q < i + 1) = (q < i) := propext ⟨fun g => by omega, fun g => by omega⟩
      simp only [e2]
      rw [zup_nj (by omega), zup_nj (by omega), zup_nj (by omega), zup_nj (by omega)]
      exact this
  · rw [cntl]
    by_cases e : lk (C i) (v i) = l
    · subst e
      rw [zup_eq, h4 _ hl]
      simp only [hg, and_self, if_true]
      rw [← nI_add, Int32.add_assoc]
      rfl
    · rw [zup_nj (fun g => e g.symm), zup_ne (fun g => ha g.symm), zup_ne (fun g => ha g.symm), h4 l hl]
      simp [e]
theorem UD_skip {v : Nat → Nat} {B : Nat → Bool} {i : Nat} {up dn : Int32} (hU : UD (arcs C v B i) up dn) (hg : goes C v B i = false) : UD (arcs C v B (i + 1)) up dn := by
  intro c hc w hw
  have := hU c hc w hw
  unfold goes at hg
  simpa [arcs, hg] using this
theorem UD_up {v : Nat → Nat} {B : Nat → Bool} {i : Nat} {up dn : Int32} (hU : UD (arcs C v B i) up dn) (hg : goes C v B i = true) (hc0 : C i < 16) (hv : v i < 4) (hr : (C i).testBit (v i) = false) : UD (arcs C v B (i + 1)) (up ||| (1 : Int32) <<< (nI (lk (C i) (v i)) &&& 31)) dn := by
  intro c hc w hw
  have hl := lk_lt c hc w hw
  have hl0 := lk_lt _ hc0 _ hv
  obtain ⟨u1, u2⟩ := hU c hc w hw
  unfold goes at hg
  simp only [arcs, hg, Bool.true_and]
  refine ⟨fun g => ?_, fun g => ?_⟩
  · rw [b_or, bt_shl hl0 hl, u1 g]
    congr 1
    by_cases e : lk c w = lk (C i) (v i)
    · obtain ⟨e1, e2⟩ := lk_inj hc hw hc0 hv e (by rw [g, hr])
      rw [decide_eq_true e, decide_eq_true e1, decide_eq_true e2]
      rfl
    · rw [decide_eq_false e]
      by_cases e1 : c = C i
      · by_cases e2 : w = v i
        · rw [e1, e2] at e; exact absurd rfl e
        · rw [decide_eq_false e2, Bool.and_false]
      · rw [decide_eq_false e1, Bool.false_and]
  · rw [u2 g]
    by_cases e1 : c = C i
    · by_cases e2 : w = v i
      · rw [e1, e2, hr] at g; cases g
      · rw [decide_eq_false e2, Bool.and_false, Bool.or_false]
    · rw [decide_eq_false e1, Bool.false_and, Bool.or_false]
theorem UD_dn {v : Nat → Nat} {B : Nat → Bool} {i : Nat} {up dn : Int32} (hU : UD (arcs C v B i) up dn) (hg : goes C v B i = true) (hc0 : C i < 16) (hv : v i < 4) (hr : (C i).testBit (v i) = true) : UD (arcs C v B (i + 1)) up (dn ||| (1 : Int32) <<< (nI (lk (C i) (v i)) &&& 31)) := by
  intro c hc w hw
  have hl := lk_lt c hc w hw
  have hl0 := lk_lt _ hc0 _ hv
  obtain ⟨u1, u2⟩ := hU c hc w hw
  unfold goes at hg
  simp only [arcs, hg, Bool.true_and]
  refine ⟨fun g => ?_, fun g => ?_⟩
  · rw [u1 g]
    by_cases e1 : c = C i
    · by_cases e2 : w = v i
      · rw [e1, e2, hr] at g; cases g
      · rw [decide_eq_false e2, Bool.and_false, Bool.or_false]
    · rw [decide_eq_false e1, Bool.false_and, Bool.or_false]
  · rw [b_or, bt_shl hl0 hl, u2 g]
    congr 1
    by_cases e : lk c w = lk (C i) (v i)
    · obtain ⟨e1, e2⟩ := lk_inj hc hw hc0 hv e (by rw [g, hr])
      rw [decide_eq_true e, decide_eq_true e1, decide_eq_true e2]
      rfl
    · rw [decide_eq_false e]
      by_cases e1 : c = C i
      · by_cases e2 : w = v i
        · rw [e1, e2] at e; exact absurd rfl e
        · rw [decide_eq_false e2, Bool.and_false]
      · rw [decide_eq_false e1, Bool.false_and]
theorem l_M_steps2 {I : zi} {v : Nat → Nat} (hM : Mc I a C G W x t h) (hK : Mk I K m) (ha : Ma a) (ha2 : a ≠ 62 ∧ a ≠ 69 ∧ a ≠ 76 ∧ a ≠ 77) (hv : ∀ j, v j ≤ 4) (hw : ∀ j, j < m → I 76 j = wy (v j)) (hQ : ∀ I' up dn a6 a7 a8 a9, Ms I I' a C W v (bt x) m → zV n (d + 4) 165 225 [.ref 62, .ref a, .int (nI (cnt C v (bt x) m)), .int up, .int dn, .int (nI m), a6, a7, a8, a9] [] I' L Q) :
    ∀ r i I' up dn a6 a7 a8 a9, i + r = m → Ms I I' a C W v (bt x) i → UD (arcs C v (bt x) i) up dn → zV n (d + 4) 165 43 [.ref 62, .ref a, .int (nI (cnt C v (bt x) i)), .int up, .int dn, .int (nI i), a6, a7, a8, a9] [] I' L Q := by
  intro r
  induction r with
  | zero =>
    intro i I' up dn a6 a7 a8 a9 hi hS hU
    have hK' := Mk_eq (I' := I') hK (fun j => hS.1 62 j (fun g => ha2.1 g.symm) (by decide)) (fun j => hS.1 69 j (fun g => ha2.2.1 g.symm) (by decide))
    have e : i = m := by omega
    subst e
    simp only [e165_43, e165_45, e165_46, e165_49, zpush_some, zpush_none, true_or, or_true, true_and, and_true, ↓reduceIte, zq_ite, zq_itel, zo_62, hK'.1, Int32.le_refl]
    exact hQ I' up dn a6 a7 a8 a9 hS
  | succ r ih =>
    intro i I' up dn a6 a7 a8 a9 hi hS hU
    have hK' := Mk_eq (I' := I') hK (fun j => hS.1 62 j (fun g => ha2.1 g.symm) (by decide)) (fun j => hS.1 69 j (fun g => ha2.2.1 g.symm) (by decide))
    obtain ⟨k1, k2, k3⟩ := hK'
    obtain ⟨-, -, hx2, hMc⟩ := hM
    have hi7 : i < 7 := by omega
    obtain ⟨⟨-, hC⟩, -, -⟩ := hMc i hi7
    obtain ⟨f1, f2, f3, f4⟩ := id hS
    have hlt : (nI m ≤ nI i) = False := eq_false (nI_ge (by omega) (by omega))
    have zi7 : zin (nI i) 7 = true := zin_ok (by omega) (by decide)
    have ci : (nI i).toNatClampNeg = i := nI_clamp (by omega)
    have hwi : I' 76 i = wy (v i) := by rw [f1 76 i (fun g => ha2.2.2.1 g.symm) (by decide)]; exact hw i (by omega)
    by_cases h4 : v i < 4
    · have hci : I' a (3 + i) = nI (C i) := by
        have := (f3 i hi7).1
        rwa [if_neg (Nat.lt_irrefl i)] at this
      have hxi : I' a 2 = x := by rw [f2 2 (by omega)]; exact hx2
      have hl := lk_lt _ hC _ h4
      obtain ⟨a1, a2, a3⟩ := ha
      have z3 : zin (nI (3 + i)) 24 = true := zin_ok (by omega) (by decide)
      have z17 : zin (nI (17 + i)) 24 = true := zin_ok (by omega) (by decide)
      have c3 : (nI (3 + i)).toNatClampNeg = 3 + i := nI_clamp (by omega)
      have c17 : (nI (17 + i)).toNatClampNeg = 17 + i := nI_clamp (by omega)
      have zl32 : zin (nI (lk (C i) (v i))) 32 = true := zin_ok hl (by decide)
      have cl : (nI (lk (C i) (v i))).toNatClampNeg = lk (C i) (v i) := nI_clamp (by omega)
      obtain ⟨u1, u2⟩ := hU _ hC _ h4
      have hbc : bt (nI (C i)) (v i) = (C i).testBit (v i) := bt_nI (by omega)
      have n77 : (77 : Nat) ≠ a := fun g => ha2.2.2.2 g.symm
      have e317 : 17 + i ≠ 3 + i := by omega
      cases hB : bt x (lk (C i) (v i)) with
      | true =>
        have hg : goes C v (bt x) i = false := by unfold goes goes1; rw [hB]; simp
        cases hr : (C i).testBit (v i) <;> simp only [e165_43, e165_45, e165_46, e165_49, e165_52, e165_53, e165_56, e165_58, e165_59, e165_59a, e165_61, e165_63, e165_65, e165_68, e165_69, e165_70, e165_72, e165_73, e165_74, e165_76, e165_79, e165_79a, e165_81, e165_82, e165_83, e165_85, e165_86, e165_87, e165_89, e165_92, e165_95, e165_96, e165_99, e165_100, e165_100a, e165_102, e165_103, e165_104, e165_105, e165_107, e165_110, e165_113, e165_115, e165_118, e165_119, e165_122, e165_124, e165_126, e165_129, e165_132, e165_133, e165_136, e165_137, e165_137a, e165_139, e165_141, e165_144, e165_146, e165_149, e165_150, e165_151, e165_153, e165_154, e165_155, e165_158, e165_159, e165_159a, e165_160, e165_162, e165_165, e165_167, e165_170, e165_172, e165_173, e165_175, e165_176, e165_177, e165_177a, e165_179, e165_180, e165_181, e165_183, e165_184, e165_185, e165_186, e165_188, e165_189, e165_190, e165_191, e165_193, e165_194, e165_195, e165_196, e165_197, e165_199, e165_201, e165_202, e165_204, e165_205, e165_206, e165_209, e165_211, e165_212, e165_213, e165_214, e165_215, e165_216, zpush_some, zpush_none, true_or, or_true, true_and, and_true, ↓reduceIte, zq_ite, zq_itel, zo_62, k1, hlt, zr_62_23, zn_76, zl_76, zi7, ci, hwi, wy_lt h4, wy_ne9 _ h4, a1, a3, i_3, z3, c3, hci, s_M_linkAt hC h4, s_M_hasN (nI (C i)) (show v i < 32 by omega), hbc, hr, zb_0, hxi, zi_2, zt_2, Nat.reduceLT, decide_true, s_M_hasN x hl, hB, Bool.true_eq_false, not_false_eq_true, not_true_eq_false, zb_t, zb_f] <;> simp only [e165_219, e165_219a, e165_222, nI_1] <;>
          (have e9 : cnt C v (bt x) (i + 1) = cnt C v (bt x) i := by rw [cnt]; simp [hg]) <;> rw [← e9] <;> exact ih (i + 1) I' up dn _ _ _ _ (by omega) (Ms_skip hS hg) (UD_skip hU hg)
      | false =>
        cases hA : arcs C v (bt x) i (C i) (v i) with
        | true =>
          have hg : goes C v (bt x) i = false := by unfold goes goes1; rw [hA]; simp
          have e9 : cnt C v (bt x) (i + 1) = cnt C v (bt x) i := by rw [cnt]; simp [hg]
          cases hr : (C i).testBit (v i) with
          | false =>
            have hu := (u1 hr).trans hA
            simp only [e165_43, e165_45, e165_46, e165_49, e165_52, e165_53, e165_56, e165_58, e165_59, e165_59a, e165_61, e165_63, e165_65, e165_68, e165_69, e165_70, e165_72, e165_73, e165_74, e165_76, e165_79, e165_79a, e165_81, e165_82, e165_83, e165_85, e165_86, e165_87, e165_89, e165_92, e165_95, e165_96, e165_99, e165_100, e165_100a, e165_102, e165_103, e165_104, e165_105, e165_107, e165_110, e165_113, e165_115, e165_118, e165_119, e165_122, e165_124, e165_126, e165_129, e165_132, e165_133, e165_136, e165_137, e165_137a, e165_139, e165_141, e165_144, e165_146, e165_149, e165_150, e165_151, e165_153, e165_154, e165_155, e165_158, e165_159, e165_159a, e165_160, e165_162, e165_165, e165_167, e165_170, e165_172, e165_173, e165_175, e165_176, e165_177, e165_177a, e165_179, e165_180, e165_181, e165_183, e165_184, e165_185, e165_186, e165_188, e165_189, e165_190, e165_191, e165_193, e165_194, e165_195, e165_196, e165_197, e165_199, e165_201, e165_202, e165_204, e165_205, e165_206, e165_209, e165_211, e165_212, e165_213, e165_214, e165_215, e165_216, zpush_some, zpush_none, true_or, or_true, true_and, and_true, ↓reduceIte, zq_ite, zq_itel, zo_62, k1, hlt, zr_62_23, zn_76, zl_76, zi7, ci, hwi, wy_lt h4, wy_ne9 _ h4, a1, a3, i_3, z3, c3, hci, s_M_linkAt hC h4, s_M_hasN (nI (C i)) (show v i < 32 by omega), hbc, hr, zb_0, hxi, zi_2, zt_2, Nat.reduceLT, decide_true, s_M_hasN x hl, s_M_hasN up hl, hu, hB, Bool.true_eq_false, not_false_eq_true, not_true_eq_false, zb_t, zb_f, zz_1]
            simp only [e165_219, e165_219a, e165_222, nI_1]
            rw [← e9]
            exact ih (i + 1) I' up dn _ _ _ _ (by omega) (Ms_skip hS hg) (UD_skip hU hg)
          | true =>
            have hu := (u2 hr).trans hA
            simp only [e165_43, e165_45, e165_46, e165_49, e165_52, e165_53, e165_56, e165_58, e165_59, e165_59a, e165_61, e165_63, e165_65, e165_68, e165_69, e165_70, e165_72, e165_73, e165_74, e165_76, e165_79, e165_79a, e165_81, e165_82, e165_83, e165_85, e165_86, e165_87, e165_89, e165_92, e165_95, e165_96, e165_99, e165_100, e165_100a, e165_102, e165_103, e165_104, e165_105, e165_107, e165_110, e165_113, e165_115, e165_118, e165_119, e165_122, e165_124, e165_126, e165_129, e165_132, e165_133, e165_136, e165_137, e165_137a, e165_139, e165_141, e165_144, e165_146, e165_149, e165_150, e165_151, e165_153, e165_154, e165_155, e165_158, e165_159, e165_159a, e165_160, e165_162, e165_165, e165_167, e165_170, e165_172, e165_173, e165_175, e165_176, e165_177, e165_177a, e165_179, e165_180, e165_181, e165_183, e165_184, e165_185, e165_186, e165_188, e165_189, e165_190, e165_191, e165_193, e165_194, e165_195, e165_196, e165_197, e165_199, e165_201, e165_202, e165_204, e165_205, e165_206, e165_209, e165_211, e165_212, e165_213, e165_214, e165_215, e165_216, zpush_some, zpush_none, true_or, or_true, true_and, and_true, ↓reduceIte, zq_ite, zq_itel, zo_62, k1, hlt, zr_62_23, zn_76, zl_76, zi7, ci, hwi, wy_lt h4, wy_ne9 _ h4, a1, a3, i_3, z3, c3, hci, s_M_linkAt hC h4, s_M_hasN (nI (C i)) (show v i < 32 by omega), hbc, hr, zb_0, hxi, zi_2, zt_2, Nat.reduceLT, decide_true, s_M_hasN x hl, s_M_hasN dn hl, hu, hB, Bool.true_eq_false, not_false_eq_true, not_true_eq_false, zb_t, zb_f, zz_1]
            simp only [e165_219, e165_219a, e165_222, nI_1]
            rw [← e9]
            exact ih (i + 1) I' up dn _ _ _ _ (by omega) (Ms_skip hS hg) (UD_skip hU hg)
        | false =>
          have hg : goes C v (bt x) i = true := by unfold goes goes1; rw [hA, hB]; simp [h4]
          have e9 : cnt C v (bt x) (i + 1) = cnt C v (bt x) i + 1 := by rw [cnt]; simp [hg]
          cases hr : (C i).testBit (v i) with
          | false =>
            have hu := (u1 hr).trans hA
            simp only [e165_43, e165_45, e165_46, e165_49, e165_52, e165_53, e165_56, e165_58, e165_59, e165_59a, e165_61, e165_63, e165_65, e165_68, e165_69, e165_70, e165_72, e165_73, e165_74, e165_76, e165_79, e165_79a, e165_81, e165_82, e165_83, e165_85, e165_86, e165_87, e165_89, e165_92, e165_95, e165_96, e165_99, e165_100, e165_100a, e165_102, e165_103, e165_104, e165_105, e165_107, e165_110, e165_113, e165_115, e165_118, e165_119, e165_122, e165_124, e165_126, e165_129, e165_132, e165_133, e165_136, e165_137, e165_137a, e165_139, e165_141, e165_144, e165_146, e165_149, e165_150, e165_151, e165_153, e165_154, e165_155, e165_158, e165_159, e165_159a, e165_160, e165_162, e165_165, e165_167, e165_170, e165_172, e165_173, e165_175, e165_176, e165_177, e165_177a, e165_179, e165_180, e165_181, e165_183, e165_184, e165_185, e165_186, e165_188, e165_189, e165_190, e165_191, e165_193, e165_194, e165_195, e165_196, e165_197, e165_199, e165_201, e165_202, e165_204, e165_205, e165_206, e165_209, e165_211, e165_212, e165_213, e165_214, e165_215, e165_216, zpush_some, zpush_none, true_or, or_true, true_and, and_true, ↓reduceIte, zq_ite, zq_itel, zo_62, k1, hlt, zr_62_23, zr_62_24, zn_76, zl_76, zn_77, zw_77, zl_77, zi7, ci, hwi, wy_lt h4, wy_ne9 _ h4, a1, a2, a3, i_3, i_17, z3, z17, c3, c17, hci, s_M_linkAt hC h4, s_M_hasN (nI (C i)) (show v i < 32 by omega), hbc, hr, zb_0, hxi, zi_2, zt_2, Nat.reduceLT, decide_true, s_M_hasN x hl, s_M_hasN up hl, hu, hB, Bool.true_eq_false, not_false_eq_true, not_true_eq_false, zb_t, zb_f, zz_1, h_flip _ hC _ h4, zl32, cl, zup_ne n77]
            simp only [e165_219, e165_219a, e165_222, nI_1]
            rw [← e9]
            exact ih (i + 1) _ _ dn _ _ _ _ (by omega) (Ms_go hS hg hi7 h4 ha2.2.2.2) (UD_up hU hg hC h4 hr)
          | true =>
            have hu := (u2 hr).trans hA
            simp only [e165_43, e165_45, e165_46, e165_49, e165_52, e165_53, e165_56, e165_58, e165_59, e165_59a, e165_61, e165_63, e165_65, e165_68, e165_69, e165_70, e165_72, e165_73, e165_74, e165_76, e165_79, e165_79a, e165_81, e165_82, e165_83, e165_85, e165_86, e165_87, e165_89, e165_92, e165_95, e165_96, e165_99, e165_100, e165_100a, e165_102, e165_103, e165_104, e165_105, e165_107, e165_110, e165_113, e165_115, e165_118, e165_119, e165_122, e165_124, e165_126, e165_129, e165_132, e165_133, e165_136, e165_137, e165_137a, e165_139, e165_141, e165_144, e165_146, e165_149, e165_150, e165_151, e165_153, e165_154, e165_155, e165_158, e165_159, e165_159a, e165_160, e165_162, e165_165, e165_167, e165_170, e165_172, e165_173, e165_175, e165_176, e165_177, e165_177a, e165_179, e165_180, e165_181, e165_183, e165_184, e165_185, e165_186, e165_188, e165_189, e165_190, e165_191, e165_193, e165_194, e165_195, e165_196, e165_197, e165_199, e165_201, e165_202, e165_204, e165_205, e165_206, e165_209, e165_211, e165_212, e165_213, e165_214, e165_215, e165_216, zpush_some, zpush_none, true_or, or_true, true_and, and_true, ↓reduceIte, zq_ite, zq_itel, zo_62, k1, hlt, zr_62_23, zr_62_24, zn_76, zl_76, zn_77, zw_77, zl_77, zi7, ci, hwi, wy_lt h4, wy_ne9 _ h4, a1, a2, a3, i_3, i_17, z3, z17, c3, c17, hci, s_M_linkAt hC h4, s_M_hasN (nI (C i)) (show v i < 32 by omega), hbc, hr, zb_0, hxi, zi_2, zt_2, Nat.reduceLT, decide_true, s_M_hasN x hl, s_M_hasN dn hl, hu, hB, Bool.true_eq_false, not_false_eq_true, not_true_eq_false, zb_t, zb_f, zz_1, h_flip _ hC _ h4, zl32, cl, zup_ne n77]
            simp only [e165_219, e165_219a, e165_222, nI_1]
            rw [← e9]
            exact ih (i + 1) _ up _ _ _ _ _ (by omega) (Ms_go hS hg hi7 h4 ha2.2.2.2) (UD_dn hU hg hC h4 hr)
    · have e4 : v i = 4 := by have := hv i; omega
      have hg : goes C v (bt x) i = false := by unfold goes goes1; simp [h4]
      have e9 : cnt C v (bt x) (i + 1) = cnt C v (bt x) i := by rw [cnt]; simp [hg]
      have hwi9 : I' 76 i = -9 := by rw [hwi, e4]; rfl
      simp only [e165_43, e165_45, e165_46, e165_49, e165_52, e165_53, e165_56, e165_58, e165_59, e165_59a, e165_61, e165_63, e165_65, e165_68, e165_69, e165_70, e165_72, e165_73, e165_74, e165_76, e165_79, e165_79a, e165_81, e165_82, e165_83, e165_85, e165_86, e165_87, e165_89, e165_92, e165_95, e165_96, e165_99, e165_100, e165_100a, e165_102, e165_103, e165_104, e165_105, e165_107, e165_110, e165_113, e165_115, e165_118, e165_119, e165_122, e165_124, e165_126, e165_129, e165_132, e165_133, e165_136, e165_137, e165_137a, e165_139, e165_141, e165_144, e165_146, e165_149, e165_150, e165_151, e165_153, e165_154, e165_155, e165_158, e165_159, e165_159a, e165_160, e165_162, e165_165, e165_167, e165_170, e165_172, e165_173, e165_175, e165_176, e165_177, e165_177a, e165_179, e165_180, e165_181, e165_183, e165_184, e165_185, e165_186, e165_188, e165_189, e165_190, e165_191, e165_193, e165_194, e165_195, e165_196, e165_197, e165_199, e165_201, e165_202, e165_204, e165_205, e165_206, e165_209, e165_211, e165_212, e165_213, e165_214, e165_215, e165_216, zpush_some, zpush_none, true_or, or_true, true_and, and_true, ↓reduceIte, zq_ite, zq_itel, zo_62, k1, hlt, zr_62_23, zn_76, zl_76, zi7, ci, hwi9]
      simp only [e165_219, e165_219a, e165_222, nI_1]
      rw [← e9]
      exact ih (i + 1) I' up dn _ _ _ _ (by omega) (Ms_skip hS hg) (UD_skip hU hg)
/-- a step of the check's cube, told whole -/
def Mst (I I' : zi) (a : Nat) (K C G W : Nat → Nat) (x : Int32) (t h m : Nat) : Prop := Mc I' a (fun i => if i < m then C1 C (wv K C G W t (bt x)) (bt x) i else C i) G (fun i => if i < m then W1 C W (wv K C G W t (bt x)) (bt x) i else W i) x (t + 1) (h + cnt C (wv K C G W t (bt x)) (bt x) m) ∧ (∀ k j, k ≠ a → k ≠ 76 → k ≠ 77 → I' k j = I k j) ∧ ∀ l, l < 32 → I' 77 l = I 77 l + nI (cntl C (wv K C G W t (bt x)) (bt x) l m)
theorem C1_lt {v : Nat → Nat} {B : Nat → Bool} {i : Nat} (hc : C i < 16) (hv : v i ≤ 4) : C1 C v B i < 16 := by
  unfold C1
  split
  · next hg =>
    have h4 : v i < 4 := by
      unfold goes goes1 at hg
      simp only [Bool.and_eq_true, decide_eq_true_eq] at hg
      exact hg.1
    exact xor_pow _ hc _ h4
  · exact hc
theorem W1_le {v : Nat → Nat} {B : Nat → Bool} {i : Nat} (hw : W i ≤ 4) (hv : v i ≤ 4) : W1 C W v B i ≤ 4 := by
  unfold W1
  split <;> assumption
theorem s_M_steps {I : zi} (hM : Mc I a C G W x t h) (hK : Mk I K m) (ha : Ma a) (ha2 : a ≠ 62 ∧ a ≠ 69 ∧ a ≠ 76 ∧ a ≠ 77) (ht : t < 2 ^ 31) (hQ : ∀ I', Mst I I' a K C G W x t h m → Q (some (.int (nI (cnt C (wv K C G W t (bt x)) (bt x) m)))) I' L) :
    zV n (d + 4) 165 0 [.ref 62, .ref a, .null, .null, .null, .null, .null, .null, .null, .null] [] I L Q := by
  simp only [e165_0, e165_1, e165_2, e165_3, e165_3a]
  refine l_M_steps1 hM hK ha ⟨ha2.1, ha2.2.1, ha2.2.2.1⟩ ht (fun I1 h1 h2 => ?_) m 0 I (by omega) (fun _ _ _ => rfl) (fun j hj => absurd hj (Nat.not_lt_zero j))
  simp only [e165_35, e165_36, e165_36a, e165_37, e165_38, e165_38a, e165_40, e165_41, e165_41a]
  have hM1 : Mc I1 a C G W x t h := Mc_eq hM (fun j => h1 a j ha2.2.2.1)
  have hK1 : Mk I1 K m := Mk_eq hK (fun j => h1 62 j (by decide)) (fun j => h1 69 j (by decide))
  have hMc := hM1.2.2.2
  refine l_M_steps2 (v := wv K C G W t (bt x)) hM1 hK1 ha ha2 (fun j => wish_le _ _ _ _ _ _) h2 (fun I2 up dn a6 a7 a8 a9 hS => ?_) m 0 I1 0 0 _ _ _ _ (by omega) ⟨fun _ _ _ _ => rfl, fun _ _ => rfl, fun q hq => ?_, fun l hl => ?_⟩ ?_
  · obtain ⟨f1, f2, f3, f4⟩ := hS
    obtain ⟨a1, a2, a3⟩ := ha
    have e0 : I2 a 0 = nI t := by rw [f2 0 (by omega)]; exact hM1.1
    have e1 : I2 a 1 = nI h := by rw [f2 1 (by omega)]; exact hM1.2.1
    simp only [e165_225, e165_226, e165_227, e165_228, e165_229, e165_230, e165_231, e165_232, e165_233, e165_234, e165_235, e165_236, e165_237, e165_238, e165_239, e165_240, zpush_some, zpush_none, true_or, or_true, true_and, and_true, ↓reduceIte, zq_ite, zq_itel, a1, a2, a3, zi_0, zt_0, zi_1, zt_1, Nat.reduceLT, decide_true, zup_nj (show (1 : Nat) ≠ 0 by decide), e0, e1, nI_1, nI_add]
    refine hQ _ ⟨⟨?_, ?_, ?_, fun i hi => ⟨⟨?_, ?_⟩, ⟨?_, ?_⟩, ⟨?_, ?_⟩⟩⟩, fun k j hk hk2 hk3 => ?_, fun l hl => ?_⟩
    · rw [zup_nj (by omega), zup_eq]
    · rw [zup_eq]
    · rw [zup_nj (by omega), zup_nj (by omega), f2 2 (by omega)]
      exact hM1.2.2.1
    · rw [zup_nj (by omega), zup_nj (by omega)]
      exact (f3 i hi).1
    · dsimp only
      split
      · exact C1_lt (hMc i hi).1.2 (wish_le _ _ _ _ _ _)
      · exact (hMc i hi).1.2
    · rw [zup_nj (by omega), zup_nj (by omega), f2 (10 + i) (by omega)]
      exact (hMc i hi).2.1.1
    · exact (hMc i hi).2.1.2
    · rw [zup_nj (by omega), zup_nj (by omega)]
      exact (f3 i hi).2
    · dsimp only
      split
      · exact W1_le (hMc i hi).2.2.2 (wish_le _ _ _ _ _ _)
      · exact (hMc i hi).2.2.2
    · rw [zup_ne hk, zup_ne hk, f1 k j hk hk3]
      exact h1 k j hk2
    · rw [zup_ne (fun g => ha2.2.2.2 g.symm), zup_ne (fun g => ha2.2.2.2 g.symm), f4 l hl, h1 77 l (by decide)]
  · have := hMc q hq
    simp only [Nat.not_lt_zero, if_false]
    exact ⟨this.1.1, this.2.2.1⟩
  · rw [cntl]
    exact (Int32.add_zero _).symm
  · intro c hc w hw
    exact ⟨fun _ => b_0 _, fun _ => b_0 _⟩
end
