/-! THE CHECK'S CUBE: an array of 24 -/
def Mc (I : zi) (a : Nat) (C G W : Nat → Nat) (x : Int32) (t h : Nat) : Prop := I a 0 = nI t ∧ I a 1 = nI h ∧ I a 2 = x ∧ ∀ i, i < 7 → (I a (3 + i) = nI (C i) ∧ C i < 16) ∧ (I a (10 + i) = nI (G i) ∧ G i < 16) ∧ (I a (17 + i) = wy (W i) ∧ W i ≤ 4)
def Ma (a : Nat) : Prop := zint a = true ∧ zwr a = true ∧ zlen a = 24
theorem Ma_70 : Ma 70 := ⟨zn_70, zw_70, zl_70⟩
theorem Ma_75 : Ma 75 := ⟨zn_75, zw_75, zl_75⟩
theorem i_3 (i : Nat) : (3 : Int32) + nI i = nI (3 + i) := nI_add 3 i
theorem i_10 (i : Nat) : (10 : Int32) + nI i = nI (10 + i) := nI_add 10 i
theorem i_17 (i : Nat) : (17 : Int32) + nI i = nI (17 + i) := nI_add 17 i
theorem h_rem2 {t : Nat} (ht : t < 2 ^ 31) : nI t - nI t / 2 * 2 = nI (t % 2) := pk_rem (d := 2) ht (by decide) (by decide)
theorem h_rem3 {t : Nat} (ht : t < 2 ^ 31) : nI t - nI t / 3 * 3 = nI (t % 3) := pk_rem (d := 3) ht (by decide) (by decide)
theorem h_r2 (t : Nat) : (nI (t % 2) = 1) = (t % 2 = 1) := by
  have : t % 2 = 0 ∨ t % 2 = 1 := by omega
  rcases this with h | h <;> rw [h] <;> decide
theorem h_r3 (t : Nat) : (nI (t % 3) = 0) = (t % 3 = 0) := by
  have : t % 3 = 0 ∨ t % 3 = 1 ∨ t % 3 = 2 := by omega
  rcases this with h | h | h <;> rw [h] <;> decide
section
variable {n d : Nat} {I : zi} {L : zl} {Q : zq} {C G W : Nat → Nat} {x : Int32} {t h a : Nat}
theorem s_M_wishOf (hM : Mc I a C G W x t h) (ha : Ma a) (ht : t < 2 ^ 31) {i k : Nat} (hi : i < 7) (hk : k < 6) : zV n (d + 3) 149 0 [.ref a, .int (nI i), .int (nI k), .null] [] I L Q ↔ Q (some (.int (wy (wish k (C i) (G i) (W i) t (bt x))))) I L := by
  obtain ⟨h0, h1, h2, hc⟩ := hM
  obtain ⟨⟨hc1, hc2⟩, ⟨hg1, hg2⟩, ⟨hw1, hw2⟩⟩ := hc i hi
  obtain ⟨a1, a2, a3⟩ := ha
  have z3 : zin (nI (3 + i)) 24 = true := zin_ok (by omega) (by decide)
  have z10 : zin (nI (10 + i)) 24 = true := zin_ok (by omega) (by decide)
  have z17 : zin (nI (17 + i)) 24 = true := zin_ok (by omega) (by decide)
  have c3 : (nI (3 + i)).toNatClampNeg = 3 + i := nI_clamp (by omega)
  have c10 : (nI (10 + i)).toNatClampNeg = 10 + i := nI_clamp (by omega)
  have c17 : (nI (17 + i)).toNatClampNeg = 17 + i := nI_clamp (by omega)
  have hx := xor_lt16 hc2 hg2
  have hd1 := dod_le (C i ^^^ G i) (whN (bt x) (C i))
  have hwy : (¬ wy (dod (C i ^^^ G i) (whN (bt x) (C i))) = wy (W i)) = (¬ dod (C i ^^^ G i) (whN (bt x) (C i)) = W i) := propext (not_congr (wy_inj _ hd1 _ hw2))
  rcases (show k = 0 ∨ k = 1 ∨ k = 2 ∨ k = 3 ∨ k = 4 ∨ k = 5 by omega) with rfl | rfl | rfl | rfl | rfl | rfl
  all_goals simp only [show nI 0 = 0 from rfl, show nI 1 = 1 from rfl, show nI 2 = 2 from rfl, show nI 3 = 3 from rfl, show nI 4 = 4 from rfl, show nI 5 = 5 from rfl]
  · have hd0 : (0 : Int32).toInt < 1 ∨ 5 < (0 : Int32).toInt := by decide
    simp only [e149_0, e149_1, e149_2, e149_3, e149_4, e149_5, e149_6, e149_8, e149_9, e149_10, e149_11, e149_12, e149_13, e149_14_1, e149_14_2, e149_14_3, e149_14_4, e149_14_5, e149_14_d, e149_48, e149_49, e149_52, e149_53, e149_54, e149_55, e149_56, e149_57, e149_58, e149_59, e149_62, e149_64, e149_67, e149_68, e149_71, e149_72, e149_73, e149_74, e149_75, e149_76, e149_77, e149_78, e149_79, e149_80, e149_81, e149_84, e149_85, e149_86, e149_87, e149_88, e149_89, e149_90, e149_93, e149_94, e149_97, e149_100, e149_101, e149_104, e149_105, e149_106, e149_107, e149_108, e149_109, e149_110, e149_111, e149_112, e149_113, e149_114, e149_117, e149_118, e149_120, e149_121, e149_122, e149_123, e149_126, e149_128, e149_131, e149_132, e149_133, e149_134, e149_135, e149_136, e149_137, e149_138, e149_139, e149_140, e149_143, e149_144, e149_145, e149_148, zpush_some, zpush_none, true_or, or_true, true_and, and_true, ↓reduceIte, zq_ite, zq_itel, a1, a3, i_3, i_10, z3, z10, c3, c10, hc1, hg1, nx_xor, hd0, s_M_lowest hx, wish]
  · simp only [e149_0, e149_1, e149_2, e149_3, e149_4, e149_5, e149_6, e149_8, e149_9, e149_10, e149_11, e149_12, e149_13, e149_14_1, e149_14_2, e149_14_3, e149_14_4, e149_14_5, e149_14_d, e149_48, e149_49, e149_52, e149_53, e149_54, e149_55, e149_56, e149_57, e149_58, e149_59, e149_62, e149_64, e149_67, e149_68, e149_71, e149_72, e149_73, e149_74, e149_75, e149_76, e149_77, e149_78, e149_79, e149_80, e149_81, e149_84, e149_85, e149_86, e149_87, e149_88, e149_89, e149_90, e149_93, e149_94, e149_97, e149_100, e149_101, e149_104, e149_105, e149_106, e149_107, e149_108, e149_109, e149_110, e149_111, e149_112, e149_113, e149_114, e149_117, e149_118, e149_120, e149_121, e149_122, e149_123, e149_126, e149_128, e149_131, e149_132, e149_133, e149_134, e149_135, e149_136, e149_137, e149_138, e149_139, e149_140, e149_143, e149_144, e149_145, e149_148, zpush_some, zpush_none, true_or, or_true, true_and, and_true, ↓reduceIte, zq_ite, zq_itel, a1, a3, i_3, i_10, z3, z10, c3, c10, hc1, hg1, nx_xor, s_M_highest hx, wish]
  · simp only [e149_0, e149_1, e149_2, e149_3, e149_4, e149_5, e149_6, e149_8, e149_9, e149_10, e149_11, e149_12, e149_13, e149_14_1, e149_14_2, e149_14_3, e149_14_4, e149_14_5, e149_14_d, e149_48, e149_49, e149_52, e149_53, e149_54, e149_55, e149_56, e149_57, e149_58, e149_59, e149_62, e149_64, e149_67, e149_68, e149_71, e149_72, e149_73, e149_74, e149_75, e149_76, e149_77, e149_78, e149_79, e149_80, e149_81, e149_84, e149_85, e149_86, e149_87, e149_88, e149_89, e149_90, e149_93, e149_94, e149_97, e149_100, e149_101, e149_104, e149_105, e149_106, e149_107, e149_108, e149_109, e149_110, e149_111, e149_112, e149_113, e149_114, e149_117, e149_118, e149_120, e149_121, e149_122, e149_123, e149_126, e149_128, e149_131, e149_132, e149_133, e149_134, e149_135, e149_136, e149_137, e149_138, e149_139, e149_140, e149_143, e149_144, e149_145, e149_148, zpush_some, zpush_none, true_or, or_true, true_and, and_true, ↓reduceIte, zq_ite, zq_itel, a1, a3, i_3, i_10, z3, z10, c3, c10, hc1, hg1, nx_xor, s_M_lowest hx, wish, zi_0, zt_0, h0, h_rem2 ht, h_r2, zz_2, not_false_eq_true, Nat.reduceLT, decide_true]
    split <;> simp_all [wy]
  · simp only [e149_0, e149_1, e149_2, e149_3, e149_4, e149_5, e149_6, e149_8, e149_9, e149_10, e149_11, e149_12, e149_13, e149_14_1, e149_14_2, e149_14_3, e149_14_4, e149_14_5, e149_14_d, e149_48, e149_49, e149_52, e149_53, e149_54, e149_55, e149_56, e149_57, e149_58, e149_59, e149_62, e149_64, e149_67, e149_68, e149_71, e149_72, e149_73, e149_74, e149_75, e149_76, e149_77, e149_78, e149_79, e149_80, e149_81, e149_84, e149_85, e149_86, e149_87, e149_88, e149_89, e149_90, e149_93, e149_94, e149_97, e149_100, e149_101, e149_104, e149_105, e149_106, e149_107, e149_108, e149_109, e149_110, e149_111, e149_112, e149_113, e149_114, e149_117, e149_118, e149_120, e149_121, e149_122, e149_123, e149_126, e149_128, e149_131, e149_132, e149_133, e149_134, e149_135, e149_136, e149_137, e149_138, e149_139, e149_140, e149_143, e149_144, e149_145, e149_148, zpush_some, zpush_none, true_or, or_true, true_and, and_true, ↓reduceIte, zq_ite, zq_itel, a1, a3, i_3, i_10, z3, z10, c3, c10, hc1, hg1, nx_xor, s_M_dodges hc2 hx, wish, zi_2, zt_2, h2, Nat.reduceLT, decide_true]
  · simp only [e149_0, e149_1, e149_2, e149_3, e149_4, e149_5, e149_6, e149_8, e149_9, e149_10, e149_11, e149_12, e149_13, e149_14_1, e149_14_2, e149_14_3, e149_14_4, e149_14_5, e149_14_d, e149_48, e149_49, e149_52, e149_53, e149_54, e149_55, e149_56, e149_57, e149_58, e149_59, e149_62, e149_64, e149_67, e149_68, e149_71, e149_72, e149_73, e149_74, e149_75, e149_76, e149_77, e149_78, e149_79, e149_80, e149_81, e149_84, e149_85, e149_86, e149_87, e149_88, e149_89, e149_90, e149_93, e149_94, e149_97, e149_100, e149_101, e149_104, e149_105, e149_106, e149_107, e149_108, e149_109, e149_110, e149_111, e149_112, e149_113, e149_114, e149_117, e149_118, e149_120, e149_121, e149_122, e149_123, e149_126, e149_128, e149_131, e149_132, e149_133, e149_134, e149_135, e149_136, e149_137, e149_138, e149_139, e149_140, e149_143, e149_144, e149_145, e149_148, zpush_some, zpush_none, true_or, or_true, true_and, and_true, ↓reduceIte, zq_ite, zq_itel, a1, a3, i_3, i_10, z3, z10, c3, c10, hc1, hg1, nx_xor, s_M_lowest hx, s_M_highest hx, wish, zi_0, zt_0, h0, h_rem3 ht, h_r3, zz_3, not_false_eq_true, Nat.reduceLT, decide_true]
    split <;> simp_all [wy]
  · simp only [e149_0, e149_1, e149_2, e149_3, e149_4, e149_5, e149_6, e149_8, e149_9, e149_10, e149_11, e149_12, e149_13, e149_14_1, e149_14_2, e149_14_3, e149_14_4, e149_14_5, e149_14_d, e149_48, e149_49, e149_52, e149_53, e149_54, e149_55, e149_56, e149_57, e149_58, e149_59, e149_62, e149_64, e149_67, e149_68, e149_71, e149_72, e149_73, e149_74, e149_75, e149_76, e149_77, e149_78, e149_79, e149_80, e149_81, e149_84, e149_85, e149_86, e149_87, e149_88, e149_89, e149_90, e149_93, e149_94, e149_97, e149_100, e149_101, e149_104, e149_105, e149_106, e149_107, e149_108, e149_109, e149_110, e149_111, e149_112, e149_113, e149_114, e149_117, e149_118, e149_120, e149_121, e149_122, e149_123, e149_126, e149_128, e149_131, e149_132, e149_133, e149_134, e149_135, e149_136, e149_137, e149_138, e149_139, e149_140, e149_143, e149_144, e149_145, e149_148, zpush_some, zpush_none, true_or, or_true, true_and, and_true, ↓reduceIte, zq_ite, zq_itel, a1, a3, i_3, i_10, i_17, z3, z10, z17, c3, c10, c17, hc1, hg1, hw1, nx_xor, s_M_dodges hc2 hx, wish, zi_2, zt_2, h2, Nat.reduceLT, decide_true, hwy]
    split <;> simp_all [wy]
end
/-- arcs (a corner, a way) that the first i messages take -/
def goes1 (A : Nat → Nat → Bool) (C wv : Nat → Nat) (B : Nat → Bool) (i : Nat) : Bool := decide (wv i < 4) && (!B (lk (C i) (wv i)) && !A (C i) (wv i))
def arcs (C wv : Nat → Nat) (B : Nat → Bool) : Nat → Nat → Nat → Bool
  | 0 => fun _ _ => false
  | i + 1 => fun c w => arcs C wv B i c w || (goes1 (arcs C wv B i) C wv B i && (decide (c = C i) && decide (w = wv i)))
def goes (C wv : Nat → Nat) (B : Nat → Bool) (i : Nat) : Bool := goes1 (arcs C wv B i) C wv B i
def C1 (C wv : Nat → Nat) (B : Nat → Bool) (i : Nat) : Nat := if goes C wv B i then C i ^^^ 2 ^ wv i else C i
def W1 (C W wv : Nat → Nat) (B : Nat → Bool) (i : Nat) : Nat := if goes C wv B i then wv i else W i
/-- how many of the first i go; through a link -/
def cnt (C wv : Nat → Nat) (B : Nat → Bool) : Nat → Nat
  | 0 => 0
  | i + 1 => cnt C wv B i + (if goes C wv B i then 1 else 0)
def cntl (C wv : Nat → Nat) (B : Nat → Bool) (l : Nat) : Nat → Nat
  | 0 => 0
  | i + 1 => cntl C wv B l i + (if goes C wv B i ∧ lk (C i) (wv i) = l then 1 else 0)
theorem cnt_le (C wv : Nat → Nat) (B : Nat → Bool) : ∀ i, cnt C wv B i ≤ i
  | 0 => Nat.le_refl _
  | i + 1 => by
    have := cnt_le C wv B i
    unfold cnt
    split <;> omega
theorem cntl_le (C wv : Nat → Nat) (B : Nat → Bool) (l : Nat) : ∀ i, cntl C wv B l i ≤ i
  | 0 => Nat.le_refl _
  | i + 1 => by
    have := cntl_le C wv B l i
    unfold cntl
    split <;> omega
theorem bt_nI {c w : Nat} (hw : w < 32) : bt (nI c) w = c.testBit w := by
  show (BitVec.ofNat 32 c).getLsbD w = _
  rw [BitVec.getLsbD_ofNat]
  simp [hw]
theorem nI_shl : ∀ l, l < 31 → (1 : Int32) <<< (nI l &&& 31) = nI (2 ^ l) := by decide +kernel
theorem bt_shl {l i : Nat} (hl : l < 32) (hi : i < 32) : bt ((1 : Int32) <<< (nI l &&& 31)) i = decide (i = l) := by
  rw [b_shl l hl 1 hi]
  have h1 : ∀ i, i < 32 → bt 1 i = decide (i = 0) := by decide
  by_cases h : l ≤ i
  · rw [h1 (i - l) (by omega)]
    by_cases h2 : i = l
    · subst h2; simp
    · simp [h, h2]; omega
  · simp [h]; omega
theorem lk_inj0 : ((List.range 64).all fun p => (List.range 64).all fun q => !(decide (lk (p % 16) (p / 16) = lk (q % 16) (q / 16)) && decide ((p % 16).testBit (p / 16) = (q % 16).testBit (q / 16))) || decide (p = q)) = true := by decide +kernel
theorem lk_inj {c w c' w' : Nat} (hc : c < 16) (hw : w < 4) (hc' : c' < 16) (hw' : w' < 4) (h1 : lk c w = lk c' w') (h2 : c.testBit w = c'.testBit w') : c = c' ∧ w = w' := by
  have h := List.all_eq_true.mp (List.all_eq_true.mp lk_inj0 (16 * w + c) (List.mem_range.mpr (by omega))) (16 * w' + c') (List.mem_range.mpr (by omega))
  rw [show (16 * w + c) % 16 = c by omega, show (16 * w + c) / 16 = w by omega, show (16 * w' + c') % 16 = c' by omega, show (16 * w' + c') / 16 = w' by omega] at h
  simp only [h1, h2, decide_true, Bool.and_self, Bool.not_true, Bool.false_or, decide_eq_true_eq] at h
  omega
theorem wy_lt {w : Nat} (h : w < 4) : wy w = nI w := if_pos h
theorem wy_ne9 : ∀ w, w < 4 → (nI w = -9) = False := fun w h => eq_false ((by decide +kernel : ∀ w, w < 4 → ¬ nI w = -9) w h)
theorem xor_pow : ∀ c, c < 16 → ∀ w, w < 4 → c ^^^ 2 ^ w < 16 := by decide +kernel
/-- the check's other facts: kinds, how many -/
def Mk (I : zi) (K : Nat → Nat) (m : Nat) : Prop := I 62 14 = nI m ∧ m ≤ 7 ∧ ∀ i, i < 7 → I 69 i = nI (K i) ∧ K i < 6
theorem Mc_eq {I I' : zi} {a : Nat} {C G W : Nat → Nat} {x : Int32} {t h : Nat} (hM : Mc I a C G W x t h) (he : ∀ j, I' a j = I a j) : Mc I' a C G W x t h := by
  obtain ⟨h0, h1, h2, h3⟩ := hM
  exact ⟨by rw [he]; exact h0, by rw [he]; exact h1, by rw [he]; exact h2, fun i hi => by rw [he, he, he]; exact h3 i hi⟩
theorem Mk_eq {I I' : zi} {K : Nat → Nat} {m : Nat} (hM : Mk I K m) (h1 : ∀ j, I' 62 j = I 62 j) (h2 : ∀ j, I' 69 j = I 69 j) : Mk I' K m := by
  obtain ⟨a, b, c⟩ := hM
  exact ⟨by rw [h1]; exact a, b, fun i hi => by rw [h2]; exact c i hi⟩
section
variable {n d : Nat} {L : zl} {Q : zq} {C G W K : Nat → Nat} {x : Int32} {t h a m : Nat}
def wv (K C G W : Nat → Nat) (t : Nat) (B : Nat → Bool) (i : Nat) : Nat := wish (K i) (C i) (G i) (W i) t B
theorem l_M_steps1 {I : zi} (hM : Mc I a C G W x t h) (hK : Mk I K m) (ha : Ma a) (ha2 : a ≠ 62 ∧ a ≠ 69 ∧ a ≠ 76) (ht : t < 2 ^ 31) (hQ : ∀ I', (∀ k j, k ≠ 76 → I' k j = I k j) → (∀ j, j < m → I' 76 j = wy (wv K C G W t (bt x) j)) → zV n (d + 4) 165 35 [.ref 62, .ref a, .int 0, .int (nI m), .null, .null, .null, .null, .null, .null] [] I' L Q) :
    ∀ r i I', i + r = m → (∀ k j, k ≠ 76 → I' k j = I k j) → (∀ j, j < i → I' 76 j = wy (wv K C G W t (bt x) j)) → zV n (d + 4) 165 4 [.ref 62, .ref a, .int 0, .int (nI i), .null, .null, .null, .null, .null, .null] [] I' L Q := by
  intro r
  induction r with
  | zero =>
    intro i I' hi h1 h2
    have hK' := Mk_eq hK (fun j => h1 62 j (by decide)) (fun j => h1 69 j (by decide))
    have e : i = m := by omega
    subst e
    simp only [e165_4, e165_5, e165_6, e165_9, zpush_some, zpush_none, true_or, or_true, true_and, and_true, ↓reduceIte, zq_ite, zq_itel, zo_62, hK'.1, Int32.le_refl]
    exact hQ I' h1 h2
  | succ r ih =>
    intro i I' hi h1 h2
    have hK' := Mk_eq hK (fun j => h1 62 j (by decide)) (fun j => h1 69 j (by decide))
    have hM' := Mc_eq hM (fun j => h1 a j ha2.2.2)
    obtain ⟨k1, k2, k3⟩ := hK'
    have hi7 : i < 7 := by omega
    have hlt : (nI m ≤ nI i) = False := eq_false (nI_ge (by omega) (by omega))
    have zi7 : zin (nI i) 7 = true := zin_ok (by omega) (by decide)
    have ci : (nI i).toNatClampNeg = i := nI_clamp (by omega)
    simp only [e165_4, e165_5, e165_6, e165_9, e165_12, e165_13, e165_16, e165_17, e165_18, e165_19, e165_20, e165_23, e165_24, e165_25, e165_28, zpush_some, zpush_none, true_or, or_true, true_and, and_true, ↓reduceIte, zq_ite, zq_itel, zo_62, k1, hlt, zr_62_23, zr_62_15, zn_69, zw_76, zl_69, zl_76, zi7, ci, (k3 i hi7).1, s_M_wishOf hM' ha ht hi7 (k3 i hi7).2]
    simp only [e165_29, e165_29a, e165_32, nI_1]
    refine ih (i + 1) _ (by omega) (fun k j hk => ?_) (fun j hj => ?_)
    · rw [← h1 k j hk]
      simp [zup, hk]
    · by_cases e : j = i
      · subst e
        simp [zup, wv]
      · rw [← h2 j (by omega)]
        simp [zup, e]
end
