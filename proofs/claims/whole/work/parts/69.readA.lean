/-! THE LANGUAGE OF CUBES -/
def kl (x : Int32) : Nat := if x = 108 then 0 else if x = 104 then 1 else if x = 122 then 2 else if x = 100 then 3 else if x = 112 then 4 else if x = 115 then 5 else 6
def co (x : Int32) : Nat := if x - 97 < 0 then 16 else if 16 ≤ x - 97 then 16 else (x - 97).toNatClampNeg
theorem kl_le (x : Int32) : kl x ≤ 6 := by
  unfold kl
  repeat' split
  all_goals decide
theorem co_c (x : Int32) : (co x = 16 ∧ ((x - 97 < 0) = True ∨ ((x - 97 < 0) = False ∧ (16 ≤ x - 97) = True))) ∨ (co x < 16 ∧ x - 97 = nI (co x) ∧ (x - 97 < 0) = False ∧ (16 ≤ x - 97) = False) := by
  unfold co
  by_cases h1 : x - 97 < 0
  · exact Or.inl ⟨if_pos h1, Or.inl (eq_true h1)⟩
  · by_cases h2 : 16 ≤ x - 97
    · exact Or.inl ⟨by rw [if_neg h1, if_pos h2], Or.inr ⟨eq_false h1, eq_true h2⟩⟩
    · refine Or.inr ?_
      rw [if_neg h1, if_neg h2]
      rcases pk_ix (x - 97) (n := 16) (by decide) with q | q | ⟨c, q1, q2⟩
      · exact absurd q h1
      · exact absurd q h2
      · rw [q2, nI_clamp (by omega)]
        exact ⟨q1, rfl, eq_false (nI_pos (by omega)), eq_false (nI_ge (b := 16) q1 (by decide))⟩
abbrev Mq : Type := Nat × (Nat → Nat) × (Nat → Nat) × (Nat → Nat)
def psh (m : Mq) (k c g : Nat) : Mq := (m.1 + 1, upN m.2.1 m.1 k, upN m.2.2.1 m.1 c, upN m.2.2.2 m.1 g)
def rd (f : Nat → Int32) (N : Nat) : Nat → Nat → Mq → Option Nat × Mq
  | 0, _, m => (none, m)
  | u + 1, p, m => if N ≤ p then (if m.1 = 0 then some N else none, m) else if f p = 32 then rd f N u (p + 1) m else if kl (f p) = 6 ∨ m.1 = 7 then (some p, m) else if N ≤ p + 1 then (some N, m) else if co (f (p + 1)) = 16 then (some (p + 1), m) else if N ≤ p + 2 then (some N, m) else if co (f (p + 2)) = 16 then (some (p + 2), m) else rd f N u (p + 3) (psh m (kl (f p)) (co (f (p + 1))) (co (f (p + 2))))
def rv : Option Nat → Int32
  | none => -9
  | some p => nI p
def okM (m : Mq) : Prop := m.1 ≤ 7 ∧ ∀ i, i < m.1 → m.2.1 i < 6 ∧ m.2.2.1 i < 16 ∧ m.2.2.2 i < 16
theorem okM_psh {m : Mq} (h : okM m) {k c g : Nat} (h7 : m.1 ≠ 7) (hk : k < 6) (hc : c < 16) (hg : g < 16) : okM (psh m k c g) := by
  obtain ⟨h1, h2⟩ := h
  refine ⟨by show m.1 + 1 ≤ 7; omega, fun i hi => ?_⟩
  have hi : i < m.1 + 1 := hi
  show upN m.2.1 m.1 k i < 6 ∧ upN m.2.2.1 m.1 c i < 16 ∧ upN m.2.2.2 m.1 g i < 16
  by_cases e : i = m.1
  · subst e; rw [upN_eq, upN_eq, upN_eq]; exact ⟨hk, hc, hg⟩
  · rw [upN_ne e, upN_ne e, upN_ne e]; exact h2 i (by omega)
section
variable {n d : Nat} {I I' : zi} {L L' : zl} {Q : zq} {K K' : Nat → Nat} {s s' s0 : Cs} {k q i a b l N p j c t u : Nat} {x : Int32} {f : Nat → Int32} {m : Mq}
def klX (k : Nat) : Int32 := if k < 6 then nI k else -9
def klM (k : Nat) : Int32 := if k < 6 then nI k else -1
theorem s_X_kind (h1 : ∀ j, j < 6 → I 1 j = zKL6 j) (x : Int32) : zV n d 28 0 [.int x, .null] [] I L Q ↔ Q (some (.int (klX (kl x)))) I L := by
  have z : zint 1 = true ∧ zlen 1 = 6 := by decide +kernel
  have k0 : I 1 0 = 108 := h1 0 (by decide)
  have k1 : I 1 1 = 104 := h1 1 (by decide)
  have k2 : I 1 2 = 122 := h1 2 (by decide)
  have k3 : I 1 3 = 100 := h1 3 (by decide)
  have k4 : I 1 4 = 112 := h1 4 (by decide)
  have k5 : I 1 5 = 115 := h1 5 (by decide)
  have st : ∀ {P : Prop}, P → True ∧ P := fun h => ⟨trivial, h⟩
  by_cases g0 : x = 108
  · subst g0
    have e : kl 108 = 0 := by decide
    simp only [e28_0, e28_1, e28_2, e28_3, e28_5, e28_8, e28_11, e28_12, e28_13, e28_14, e28_17, e28_18, e28_19, e28_22, e28_25, e28_27, zpush_some, zpush_none, true_or, or_true, true_and, and_true, ↓reduceIte, zq_ite, zq_itel, z.1, z.2, zi_0, zt_0, Nat.reduceLT, decide_true, k0, Int32.reduceLE, not_true_eq_false, e]
    exact Iff.rfl
  · have n0 : ((108 : Int32) = x) = False := eq_false (fun w => g0 w.symm)
    by_cases g1 : x = 104
    · subst g1
      have e : kl 104 = 1 := by decide
      simp only [e28_0, e28_1, e28_2, e28_3, e28_5, e28_8, e28_11, e28_12, e28_13, e28_14, e28_17, e28_18, e28_19, e28_22, e28_25, e28_27, zpush_some, zpush_none, true_or, or_true, true_and, and_true, ↓reduceIte, zq_ite, zq_itel, z.1, z.2, zi_0, zt_0, zi_1, zt_1, Nat.reduceLT, decide_true, k0, k1, Int32.reduceLE, Int32.reduceAdd, n0, not_true_eq_false, not_false_eq_true, e]
      exact Iff.rfl
    · have n1 : ((104 : Int32) = x) = False := eq_false (fun w => g1 w.symm)
      by_cases g2 : x = 122
      · subst g2
        have e : kl 122 = 2 := by decide
        simp only [e28_0, e28_1, e28_2, e28_3, e28_5, e28_8, e28_11, e28_12, e28_13, e28_14, e28_17, e28_18, e28_19, e28_22, e28_25, e28_27, zpush_some, zpush_none, true_or, or_true, true_and, and_true, ↓reduceIte, zq_ite, zq_itel, z.1, z.2, zi_0, zt_0, zi_1, zt_1, zi_2, zt_2, Nat.reduceLT, decide_true, k0, k1, k2, Int32.reduceLE, Int32.reduceAdd, n0, n1, not_true_eq_false, not_false_eq_true, e]
        exact Iff.rfl
      · have n2 : ((122 : Int32) = x) = False := eq_false (fun w => g2 w.symm)
        by_cases g3 : x = 100
        · subst g3
          have e : kl 100 = 3 := by decide
          simp only [e28_0, e28_1, e28_2, e28_3, e28_5, e28_8, e28_11, e28_12, e28_13, e28_14, e28_17, e28_18, e28_19, e28_22, e28_25, e28_27, zpush_some, zpush_none, true_or, or_true, true_and, and_true, ↓reduceIte, zq_ite, zq_itel, z.1, z.2, zi_0, zt_0, zi_1, zt_1, zi_2, zt_2, zi_3, zt_3, Nat.reduceLT, decide_true, k0, k1, k2, k3, Int32.reduceLE, Int32.reduceAdd, n0, n1, n2, not_true_eq_false, not_false_eq_true, e]
          exact Iff.rfl
        · have n3 : ((100 : Int32) = x) = False := eq_false (fun w => g3 w.symm)
          by_cases g4 : x = 112
          · subst g4
            have e : kl 112 = 4 := by decide
            simp only [e28_0, e28_1, e28_2, e28_3, e28_5, e28_8, e28_11, e28_12, e28_13, e28_14, e28_17, e28_18, e28_19, e28_22, e28_25, e28_27, zpush_some, zpush_none, true_or, or_true, true_and, and_true, ↓reduceIte, zq_ite, zq_itel, z.1, z.2, zi_0, zt_0, zi_1, zt_1, zi_2, zt_2, zi_3, zt_3, zi_4, zt_4, Nat.reduceLT, decide_true, k0, k1, k2, k3, k4, Int32.reduceLE, Int32.reduceAdd, n0, n1, n2, n3, not_true_eq_false, not_false_eq_true, e]
            exact Iff.rfl
          · have n4 : ((112 : Int32) = x) = False := eq_false (fun w => g4 w.symm)
            by_cases g5 : x = 115
            · subst g5
              have e : kl 115 = 5 := by decide
              simp only [e28_0, e28_1, e28_2, e28_3, e28_5, e28_8, e28_11, e28_12, e28_13, e28_14, e28_17, e28_18, e28_19, e28_22, e28_25, e28_27, zpush_some, zpush_none, true_or, or_true, true_and, and_true, ↓reduceIte, zq_ite, zq_itel, z.1, z.2, zi_0, zt_0, zi_1, zt_1, zi_2, zt_2, zi_3, zt_3, zi_4, zt_4, zi_5, zt_5, Nat.reduceLT, decide_true, k0, k1, k2, k3, k4, k5, Int32.reduceLE, Int32.reduceAdd, n0, n1, n2, n3, n4, not_true_eq_false, not_false_eq_true, e]
              exact Iff.rfl
            · have n5 : ((115 : Int32) = x) = False := eq_false (fun w => g5 w.symm)
              have e : kl x = 6 := by unfold kl; rw [if_neg g0, if_neg g1, if_neg g2, if_neg g3, if_neg g4, if_neg g5]
              simp only [e28_0, e28_1, e28_2, e28_3, e28_5, e28_8, e28_11, e28_12, e28_13, e28_14, e28_17, e28_18, e28_19, e28_22, e28_25, e28_27, zpush_some, zpush_none, true_or, or_true, true_and, and_true, ↓reduceIte, zq_ite, zq_itel, z.1, z.2, zi_0, zt_0, zi_1, zt_1, zi_2, zt_2, zi_3, zt_3, zi_4, zt_4, zi_5, zt_5, Nat.reduceLT, decide_true, k0, k1, k2, k3, k4, k5, Int32.reduceLE, Int32.reduceAdd, n0, n1, n2, n3, n4, n5, not_true_eq_false, not_false_eq_true, e]
              exact Iff.rfl
end
