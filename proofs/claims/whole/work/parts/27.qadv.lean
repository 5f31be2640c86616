/-! A STEP OF THE CLASS'S CUBE -/
theorem h_arc : ∀ c, c < 16 → ∀ w, w < 4 → (1 : Int64) <<< ((16 * nI w + nI c).toInt64 &&& 63) = lN (2 ^ (16 * w + c)) := by decide +kernel
theorem bl_or (x y : Int64) (i : Nat) : bl (x ||| y) i = (bl x i || bl y i) := by unfold bl; rw [Int64.toBitVec_or, BitVec.getLsbD_or]
theorem bl_and (x y : Int64) (i : Nat) : bl (x &&& y) i = (bl x i && bl y i) := by unfold bl; rw [Int64.toBitVec_and, BitVec.getLsbD_and]
theorem bl_xor (x y : Int64) (i : Nat) : bl (x ^^^ y) i = (bl x i ^^ bl y i) := by unfold bl; rw [Int64.toBitVec_xor, BitVec.getLsbD_xor]
theorem bl_0 (i : Nat) : bl 0 i = false := BitVec.getLsbD_zero
theorem bl_ext {x y : Int64} (h : ∀ i, i < 64 → bl x i = bl y i) : x = y := Int64.toBitVec_inj.1 (BitVec.eq_of_getLsbD_eq h)
theorem bl_pow {j i : Nat} (hi : i < 64) : bl (lN (2 ^ j)) i = decide (i = j) := by
  show (BitVec.ofNat 64 (2 ^ j)).getLsbD i = _
  rw [BitVec.getLsbD_ofNat, Nat.testBit_two_pow]
  simp only [hi, decide_true, Bool.true_and]
  by_cases h : j = i
  · simp [h]
  · simp [h, Ne.symm h]
theorem and_pow0 {x : Int64} {j : Nat} (hj : j < 64) : (x &&& lN (2 ^ j) = 0) = (bl x j = false) := by
  refine propext ⟨fun h => ?_, fun h => bl_ext fun i hi => ?_⟩
  · have h2 := congrArg (fun z => bl z j) h
    simp only [bl_and, bl_pow hj, bl_0, decide_true, Bool.and_true] at h2
    exact h2
  · rw [bl_and, bl_pow hi, bl_0]
    by_cases e : i = j
    · subst e; rw [h]; rfl
    · rw [decide_eq_false e, Bool.and_false]
theorem nx_or (a b : Nat) : nI a ||| nI b = nI (a ||| b) := by
  apply Int32.toBitVec_inj.1
  show BitVec.ofNat 32 a ||| BitVec.ofNat 32 b = BitVec.ofNat 32 (a ||| b)
  apply BitVec.eq_of_getLsbD_eq
  intro i hi
  simp [hi]
/-- who goes, as a set -/
def gm (C v : Nat → Nat) (B : Nat → Bool) : Nat → Nat
  | 0 => 0
  | i + 1 => gm C v B i ||| (if goes C v B i then 2 ^ i else 0)
theorem gm_lt (C v : Nat → Nat) (B : Nat → Bool) : ∀ i, gm C v B i < 2 ^ i
  | 0 => by show 0 < 1; decide
  | i + 1 => by
    rw [gm]
    have h := gm_lt C v B i
    refine Nat.or_lt_two_pow ?_ ?_
    · rw [Nat.pow_succ]; omega
    · split
      · rw [Nat.pow_succ]
        have := Nat.two_pow_pos i
        omega
      · exact Nat.two_pow_pos _
theorem gm_bit (C v : Nat → Nat) (B : Nat → Bool) (q : Nat) : ∀ i, (gm C v B i).testBit q = (decide (q < i) && goes C v B q)
  | 0 => by simp [gm]
  | i + 1 => by
    rw [gm, Nat.testBit_or, gm_bit C v B q i]
    by_cases hq : q = i
    · subst hq
      cases hg : goes C v B q <;> simp [hg, Nat.testBit_two_pow]
    · have h1 : (if goes C v B i = true then 2 ^ i else 0).testBit q = false := by
        split
        · rw [Nat.testBit_two_pow]; simp [Ne.symm hq]
        · simp
      rw [h1, Bool.or_false]
      congr 1
      by_cases h2 : q < i
      · rw [decide_eq_true h2, decide_eq_true (by omega)]
      · rw [decide_eq_false h2, decide_eq_false (by omega)]
def pop7 (s : Nat) : Nat := (if s.testBit 0 then 1 else 0) + ((if s.testBit 1 then 1 else 0) + ((if s.testBit 2 then 1 else 0) + ((if s.testBit 3 then 1 else 0) + ((if s.testBit 4 then 1 else 0) + ((if s.testBit 5 then 1 else 0) + (if s.testBit 6 then 1 else 0))))))
theorem cnt_pop (C v : Nat → Nat) (B : Nat → Bool) {m : Nat} (hm : m ≤ 7) : pop7 (gm C v B m) = cnt C v B m := by
  unfold pop7
  simp only [gm_bit]
  rcases (show m = 0 ∨ m = 1 ∨ m = 2 ∨ m = 3 ∨ m = 4 ∨ m = 5 ∨ m = 6 ∨ m = 7 by omega) with rfl | rfl | rfl | rfl | rfl | rfl | rfl | rfl <;> simp [cnt] <;> omega
section
variable {n d : Nat} {I : zi} {L : zl} {Q : zq} {K C G W v : Nat → Nat} {B : Nat → Bool} {k m t h : Nat}
theorem s_W_arc {c w : Nat} (hc : c < 16) (hw : w < 4) : zV n d 39 0 [.int (nI c), .int (nI w)] [] I L Q ↔ Q (some (.long (lN (2 ^ (16 * w + c))))) I L := by
  simp only [e39_0, e39_1, e39_3, e39_4, e39_5, e39_6, e39_7, e39_8, zpush_some, zpush_none, true_or, or_true, true_and, and_true, ↓reduceIte, zq_ite, zq_itel, h_arc c hc w hw]
def bcI (x : Int32) : Int32 :=
  let a := x - ((x.toUInt32 >>> ((1 : Int32).toUInt32 &&& Int32.toUInt32 31)).toInt32 &&& 1431655765)
  let b := (a &&& 858993459) + ((a.toUInt32 >>> ((2 : Int32).toUInt32 &&& Int32.toUInt32 31)).toInt32 &&& 858993459)
  let c := (b + (b.toUInt32 >>> ((4 : Int32).toUInt32 &&& Int32.toUInt32 31)).toInt32) &&& 252645135
  let e := c + (c.toUInt32 >>> ((8 : Int32).toUInt32 &&& Int32.toUInt32 31)).toInt32
  let f := e + (e.toUInt32 >>> ((16 : Int32).toUInt32 &&& Int32.toUInt32 31)).toInt32
  f &&& 63
theorem h_bcI : ∀ s, s < 128 → bcI (nI s) = nI (pop7 s) := by decide +kernel
theorem s_JI_bitCount {s : Nat} (hs : s < 128) : zV n d 48 0 [.int (nI s)] [] I L Q ↔ Q (some (.int (nI (pop7 s)))) I L := by
  simp only [e48_0, e48_1, e48_2, e48_3, e48_4, e48_7, e48_8, e48_9, e48_10, e48_11, e48_14, e48_15, e48_16, e48_17, e48_18, e48_21, e48_22, e48_23, e48_24, e48_25, e48_26, e48_27, e48_28, e48_29, e48_32, e48_33, e48_34, e48_35, e48_36, e48_38, e48_39, e48_40, e48_41, e48_42, e48_43, e48_45, e48_46, e48_47, e48_48, e48_49, e48_51, e48_52, zpush_some, zpush_none, true_or, or_true, true_and, and_true, ↓reduceIte, zq_ite, zq_itel]
  rw [← h_bcI s hs]
  rfl
def Qs (I I' : zi) (k m : Nat) (C W v : Nat → Nat) (B : Nat → Bool) (i : Nat) : Prop := (∀ k' j, k' ≠ k + 2 → k' ≠ k + 4 → (k' ≠ k ∨ j ≠ 9) → I' k' j = I k' j) ∧ (∀ q, q < m → I' (k + 2) q = nI (if q < i then C1 C v B q else C q) ∧ I' (k + 4) q = wx (if q < i then W1 C W v B q else W q)) ∧ I' k 9 = nI (gm C v B i)
theorem Qs_skip {I I' : zi} {i : Nat} (hS : Qs I I' k m C W v B i) (hg : goes C v B i = false) : Qs I I' k m C W v B (i + 1) := by
  obtain ⟨h1, h2, h3⟩ := hS
  refine ⟨h1, fun q hq => ?_, ?_⟩
  · by_cases e : q = i
    · subst e
      have := h2 q hq
      simp only [Nat.lt_irrefl, if_false] at this
      simp only [Nat.lt_succ_self, if_true, C1, W1, hg, Bool.false_eq_true, if_false]
      exact this
    · have := h2 q hq
      have e2 : (q < i + 1) = (q < i) := propext ⟨fun g => by omega, fun g => by omega⟩
      simp only [e2]
      exact this
  · rw [h3, gm]
    simp [hg]
theorem wx_lt {w : Nat} (h : w < 4) : wx w = nI w := if_pos h
theorem Qs_go {I I' : zi} {i : Nat} (hS : Qs I I' k m C W v B i) (hg : goes C v B i = true) (hi : i < 7) (hv : v i < 4) : Qs I (zup (zup (zup I' (k + 2) i (nI (C i ^^^ 2 ^ v i))) (k + 4) i (nI (v i))) k 9 (nI (gm C v B i) ||| (1 : Int32) <<< (nI i &&& 31))) k m C W v B (i + 1) := by
  obtain ⟨h1, h2, h3⟩ := hS
  refine ⟨fun k' j hk hk2 hk3 => ?_, fun q hq => ?_, ?_⟩
  · have e : zup (zup (zup I' (k + 2) i (nI (C i ^^^ 2 ^ v i))) (k + 4) i (nI (v i))) k 9 (nI (gm C v B i) ||| (1 : Int32) <<< (nI i &&& 31)) k' j = I' k' j := by
      rcases hk3 with g | g
      · rw [zup_ne g, zup_ne hk2, zup_ne hk]
      · rw [zup_nj g, zup_ne hk2, zup_ne hk]
    rw [e]
    exact h1 k' j hk hk2 hk3
  · have eA : zup (zup (zup I' (k + 2) i (nI (C i ^^^ 2 ^ v i))) (k + 4) i (nI (v i))) k 9 (nI (gm C v B i) ||| (1 : Int32) <<< (nI i &&& 31)) (k + 2) q = zup I' (k + 2) i (nI (C i ^^^ 2 ^ v i)) (k + 2) q := by
      rw [zup_ne (show k + 2 ≠ k by omega), zup_ne (show k + 2 ≠ k + 4 by omega)]
    have eB : zup (zup (zup I' (k + 2) i (nI (C i ^^^ 2 ^ v i))) (k + 4) i (nI (v i))) k 9 (nI (gm C v B i) ||| (1 : Int32) <<< (nI i &&& 31)) (k + 4) q = zup (zup I' (k + 2) i (nI (C i ^^^ 2 ^ v i))) (k + 4) i (nI (v i)) (k + 4) q := zup_ne (show k + 4 ≠ k by omega)
    rw [eA, eB]
    by_cases e : q = i
    · subst e
      simp only [Nat.lt_succ_self, if_true, C1, W1, hg]
      rw [zup_eq, zup_eq, wx_lt hv]
      exact ⟨rfl, rfl⟩
    · have := h2 q hq
      have e2 : (q < i + 1) = (q < i) := propext ⟨fun g => by omega, fun g => by omega⟩
      simp only [e2]
      rw [zup_nj e, zup_nj e, zup_ne (show k + 4 ≠ k + 2 by omega)]
      exact this
  · rw [zup_eq, gm, nI_shl i (by omega), nx_or]
    simp [hg]
theorem Qs_c {I I' : zi} {i : Nat} (hS : Qs I I' k m C W v B i) (hq : Qc I L k m K C G W B t h) (hv : ∀ j, v j ≤ 4) : Qc I' L k m K (fun q => if q < i then C1 C v B q else C q) G (fun q => if q < i then W1 C W v B q else W q) B t h := by
  obtain ⟨h1, h2, h3⟩ := hS
  obtain ⟨⟨m1, m2⟩, hB, ht, hh, hc⟩ := hq
  refine ⟨⟨by rw [h1 k 4 (by omega) (by omega) (Or.inr (by decide))]; exact m1, m2⟩, hB, by rw [h1 k 6 (by omega) (by omega) (Or.inr (by decide))]; exact ht, by rw [h1 k 7 (by omega) (by omega) (Or.inr (by decide))]; exact hh, fun q hq => ?_⟩
  obtain ⟨⟨a1, a2⟩, ⟨b1, b2⟩, ⟨c1, c2⟩, d1, d2⟩ := hc q hq
  refine ⟨⟨by rw [h1 (k + 1) q (by omega) (by omega) (Or.inl (by omega))]; exact a1, a2⟩, ⟨(h2 q hq).1, ?_⟩, ⟨by rw [h1 (k + 3) q (by omega) (by omega) (Or.inl (by omega))]; exact c1, c2⟩, (h2 q hq).2, ?_⟩
  · dsimp only
    split
    · exact C1_lt b2 (hv q)
    · exact b2
  · dsimp only
    split
    · exact W1_le d2 (hv q)
    · exact d2
theorem l_Q_advance (hz : Qz k) (hq : Qc I L k m K C G W B t h) (ht : t < 2 ^ 31) (hQ : ∀ I' cl a4, Qs I I' k m C W (wv K C G W t B) B m → zV n (d + 3) 42 114 [.ref k, .long cl, .null, .int (nI m), a4] [] I' L Q) :
    ∀ r i I' cl a4, i + r = m → Qs I I' k m C W (wv K C G W t B) B i → (∀ c, c < 16 → ∀ w, w < 4 → bl cl (16 * w + c) = (B (lk c w) || arcs C (wv K C G W t B) B i c w)) → zV n (d + 3) 42 12 [.ref k, .long cl, .null, .int (nI i), a4] [] I' L Q := by
  have hv : ∀ j, wv K C G W t B j ≤ 4 := fun j => wish_le _ _ _ _ _ _
  intro r
  induction r with
  | zero =>
    intro i I' cl a4 hi hS hc
    obtain ⟨⟨m1, m2⟩, -⟩ := Qs_c hS hq hv
    have e : i = m := by omega
    subst e
    simp only [e42_12, e42_13, e42_14, e42_17, zpush_some, zpush_none, true_or, or_true, true_and, and_true, ↓reduceIte, zq_ite, zq_itel, hz.1, m1, Int32.le_refl]
    exact hQ I' cl a4 hS
  | succ r ih =>
    intro i I' cl a4 hi hS hcl
    have hq' := Qs_c hS hq hv
    obtain ⟨⟨m1, m2⟩, hB, ht', hh', hc'⟩ := id hq'
    have hi7 : i < 7 := by omega
    obtain ⟨⟨a1, a2⟩, ⟨b1, b2⟩, -, -⟩ := hc' i (by omega)
    simp only [Nat.lt_irrefl, if_false] at b1 b2
    obtain ⟨ho1, ho2⟩ := has_ok (show i < m by omega) m2
    obtain ⟨z1, z2, z3, z4, z5, ⟨n1, n2, n3, n4⟩, ⟨w1, w2, w3, w4⟩, l1, l2, l3, l4⟩ := id hz
    have zi7 : zin (nI i) 7 = true := zin_ok (by omega) (by decide)
    have ci : (nI i).toNatClampNeg = i := nI_clamp (by omega)
    have hws := s_Q_wishAs (n := n) (d := d) (Q := fun r I L => zV n (d + 3) 42 35 [.ref k, .long cl, .null, .int (nI i), a4] (zpush r []) I L Q) hz hq' (show i < m by omega) a2 ht
    simp only [Nat.lt_irrefl, if_false] at hws
    simp only [e42_12, e42_13, e42_14, e42_17, e42_20, e42_21, e42_22, e42_25, e42_26, e42_27, e42_28, e42_29, e42_32, zpush_some, zpush_none, true_or, or_true, true_and, and_true, ↓reduceIte, zq_ite, zq_itel, z1, z2, n1, l1, m1, ho2, zi7, ci, a1, ht']
    rw [hws]
    have ev : wish (K i) (C i) (G i) (W i) t B = wv K C G W t B i := rfl
    rw [ev]
    by_cases h4 : wv K C G W t B i < 4
    · have hne : (nI (wv K C G W t B i) = -1) = False := eq_false ((by decide +kernel : ∀ w, w < 4 → ¬ nI w = -1) _ h4)
      have hb := hcl (C i) b2 _ h4
      have hj : 16 * wv K C G W t B i + C i < 64 := by omega
      by_cases hf : bl cl (16 * wv K C G W t B i + C i) = false
      · have hg : goes C (wv K C G W t B) B i = true := by
          unfold goes goes1
          rw [hf] at hb
          have := Bool.or_eq_false_iff.mp hb.symm
          rw [this.1, this.2]
          simp [h4]
        have h9 : I' k 9 = nI (gm C (wv K C G W t B) B i) := hS.2.2
        have e1 : k ≠ k + 4 := by omega
        have e2 : k ≠ k + 2 := by omega
        simp only [e42_35, e42_35a, e42_37, e42_39, e42_40, e42_43, e42_44, e42_45, e42_48, e42_49, e42_50, e42_52, e42_55, e42_56, e42_57, e42_58, e42_61, e42_62, e42_63, e42_66, e42_67, e42_68, e42_70, e42_73, e42_74, e42_75, e42_76, e42_79, e42_80, e42_81, e42_82, e42_83, e42_85, e42_86, e42_87, e42_88, e42_89, e42_92, e42_93, e42_95, e42_96, e42_97, e42_98, e42_101, e42_102, e42_103, e42_104, e42_105, zpush_some, zpush_none, true_or, or_true, true_and, and_true, ↓reduceIte, zq_ite, zq_itel, wx_lt h4, hne, z1, z3, z5, n2, n4, w2, w4, l2, l4, zi7, ci, b1, s_W_arc b2 h4, lg_0, and_pow0 hj, hf, not_true_eq_false, h_flip _ b2 _ h4, zup_ne e1, zup_ne e2, h9]
        simp only [e42_108, e42_111, nI_1]
        refine ih (i + 1) _ _ _ (by omega) (Qs_go hS hg hi7 h4) (fun c hc w hw => ?_)
        rw [bl_or, bl_pow (by omega), hcl c hc w hw]
        unfold goes at hg
        simp only [arcs, hg, Bool.true_and]
        rw [Bool.or_assoc]
        congr 2
        by_cases e : c = C i ∧ w = wv K C G W t B i
        · rw [e.1, e.2]; simp
        · have e3 : ¬ 16 * w + c = 16 * wv K C G W t B i + C i := by
            intro g
            exact e ⟨by omega, by omega⟩
          rw [decide_eq_false e3]
          by_cases e4 : c = C i
          · have e5 : ¬ w = wv K C G W t B i := fun g => e ⟨e4, g⟩
            rw [decide_eq_false e5, Bool.and_false]
          · rw [decide_eq_false e4, Bool.false_and]
      · have hf2 : bl cl (16 * wv K C G W t B i + C i) = true := by simpa using hf
        have hg : goes C (wv K C G W t B) B i = false := by
          unfold goes goes1
          rw [hf2] at hb
          rcases (Bool.or_eq_true_iff.mp hb.symm) with g | g <;> rw [g] <;> simp
        simp only [e42_35, e42_35a, e42_37, e42_39, e42_40, e42_43, e42_44, e42_45, e42_48, e42_49, e42_50, e42_52, e42_55, e42_56, e42_57, e42_58, e42_61, e42_62, e42_63, e42_66, e42_67, e42_68, e42_70, e42_73, e42_74, e42_75, e42_76, e42_79, e42_80, e42_81, e42_82, e42_83, e42_85, e42_86, e42_87, e42_88, e42_89, e42_92, e42_93, e42_95, e42_96, e42_97, e42_98, e42_101, e42_102, e42_103, e42_104, e42_105, zpush_some, zpush_none, true_or, or_true, true_and, and_true, ↓reduceIte, zq_ite, zq_itel, wx_lt h4, hne, z1, z3, n2, l2, zi7, ci, b1, s_W_arc b2 h4, lg_0, and_pow0 hj, hf, not_false_eq_true]
        simp only [e42_108, e42_111, nI_1]
        refine ih (i + 1) _ _ _ (by omega) (Qs_skip hS hg) (fun c hc w hw => ?_)
        rw [hcl c hc w hw]
        unfold goes at hg
        simp [arcs, hg]
    · have e4 : wv K C G W t B i = 4 := by have := hv i; omega
      have hg : goes C (wv K C G W t B) B i = false := by unfold goes goes1; simp [h4]
      have e5 : wx (wv K C G W t B i) = -1 := by rw [e4]; rfl
      simp only [e42_35, e42_35a, e42_37, e42_39, e42_40, e42_43, e42_44, e42_45, e42_48, e42_49, e42_50, e42_52, e42_55, e42_56, e42_57, e42_58, e42_61, e42_62, e42_63, e42_66, e42_67, e42_68, e42_70, e42_73, e42_74, e42_75, e42_76, e42_79, e42_80, e42_81, e42_82, e42_83, e42_85, e42_86, e42_87, e42_88, e42_89, e42_92, e42_93, e42_95, e42_96, e42_97, e42_98, e42_101, e42_102, e42_103, e42_104, e42_105, zpush_some, zpush_none, true_or, or_true, true_and, and_true, ↓reduceIte, zq_ite, zq_itel, e5]
      simp only [e42_108, e42_111, nI_1]
      refine ih (i + 1) _ _ _ (by omega) (Qs_skip hS hg) (fun c hc w hw => ?_)
      rw [hcl c hc w hw]
      unfold goes at hg
      simp [arcs, hg]
/-- a step of the class's cube, told whole -/
def Qst (I I' : zi) (L : zl) (k m : Nat) (K C G W : Nat → Nat) (B : Nat → Bool) (t h : Nat) : Prop := Qc I' L k m K (fun i => if i < m then C1 C (wv K C G W t B) B i else C i) G (fun i => if i < m then W1 C W (wv K C G W t B) B i else W i) B (t + 1) (h + cnt C (wv K C G W t B) B m) ∧ (∀ k' j, k' ≠ k + 2 → k' ≠ k + 4 → (k' ≠ k ∨ (j ≠ 9 ∧ j ≠ 6 ∧ j ≠ 7)) → I' k' j = I k' j) ∧ I' k 9 = nI (gm C (wv K C G W t B) B m)
theorem s_Q_advance (hz : Qz k) (hq : Qc I L k m K C G W B t h) (ht : t < 2 ^ 31) (hQ : ∀ I', Qst I I' L k m K C G W B t h → Q none I' L) : zV n (d + 3) 42 0 [.ref k, .null, .null, .null, .null] [] I L Q := by
  have hv : ∀ j, wv K C G W t B j ≤ 4 := fun j => wish_le _ _ _ _ _ _
  have hq0 : Qc (zup I k 9 0) L k m K C G W B t h := by
    obtain ⟨⟨m1, m2⟩, hB, ht, hh, hc⟩ := hq
    refine ⟨⟨by rw [zup_nj (by decide)]; exact m1, m2⟩, hB, by rw [zup_nj (by decide)]; exact ht, by rw [zup_nj (by decide)]; exact hh, fun q hq => ?_⟩
    rw [zup_ne (show k + 1 ≠ k by omega), zup_ne (show k + 2 ≠ k by omega), zup_ne (show k + 3 ≠ k by omega), zup_ne (show k + 4 ≠ k by omega)]
    exact hc q hq
  simp only [e42_0, e42_1, e42_4, e42_5, e42_6, e42_7, e42_10, e42_11, hz.1]
  refine l_Q_advance hz hq0 ht (fun I' cl a4 hS => ?_) m 0 _ _ _ (by omega) ⟨fun _ _ _ _ _ => rfl, fun q hq => ?_, zup_eq⟩ (fun c hc w hw => ?_)
  · have hc := Qs_c hS hq0 hv
    obtain ⟨⟨m1, m2⟩, hB, ht', hh', hc'⟩ := id hc
    obtain ⟨h1, h2, h3⟩ := hS
    have hgm : gm C (wv K C G W t B) B m < 128 := Nat.lt_of_lt_of_le (gm_lt _ _ _ _) (Nat.pow_le_pow_right (by decide) m2)
    simp only [e42_114, e42_115, e42_116, e42_119, e42_120, e42_121, e42_124, e42_125, e42_126, e42_129, e42_130, e42_133, e42_136, e42_137, e42_140, zpush_some, zpush_none, true_or, or_true, true_and, and_true, ↓reduceIte, zq_ite, zq_itel, hz.1, ht', nI_1, zup_nj (show (7 : Nat) ≠ 6 by decide), zup_nj (show (9 : Nat) ≠ 6 by decide), hh', h3, s_JI_bitCount hgm, cnt_pop _ _ _ m2, nI_add]
    refine hQ _ ⟨⟨⟨?_, m2⟩, hB, ?_, ?_, fun q hq => ?_⟩, fun k' j e1 e2 e3 => ?_, ?_⟩
    · rw [zup_nj (by decide), zup_nj (by decide)]; exact m1
    · rw [zup_nj (by decide), zup_eq]
    · rw [zup_eq]
    · rw [zup_ne (show k + 1 ≠ k by omega), zup_ne (show k + 1 ≠ k by omega), zup_ne (show k + 2 ≠ k by omega), zup_ne (show k + 2 ≠ k by omega), zup_ne (show k + 3 ≠ k by omega), zup_ne (show k + 3 ≠ k by omega), zup_ne (show k + 4 ≠ k by omega), zup_ne (show k + 4 ≠ k by omega)]
      exact hc' q hq
    · have e4 : zup (zup I' k 6 (nI (t + 1))) k 7 (nI (h + cnt C (wv K C G W t B) B m)) k' j = I' k' j := by
        rcases e3 with g | ⟨g1, g2, g3⟩
        · rw [zup_ne g, zup_ne g]
        · rw [zup_nj g3, zup_nj g2]
      rw [e4, h1 k' j e1 e2 (by rcases e3 with g | g; exact Or.inl g; exact Or.inr g.1)]
      rcases e3 with g | ⟨g1, g2, g3⟩
      · rw [zup_ne g]
      · rw [zup_nj g1]
    · rw [zup_nj (by decide), zup_nj (by decide)]; exact h3
  · obtain ⟨-, -, -, -, hc⟩ := hq0
    have := hc q hq
    simp only [Nat.not_lt_zero, if_false]
    exact ⟨this.2.1.1, this.2.2.2.1⟩
  · rw [hq.2.1 c hc w hw]
    simp [arcs]
end
