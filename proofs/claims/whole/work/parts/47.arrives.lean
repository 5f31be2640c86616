/-! ARRIVES -/
section
variable {n d : Nat} {I I' : zi} {L L' : zl} {Q : zq} {K K' : Nat → Nat} {m p : Nat}
/-- whether one goes in a step -/
def gos (K : Nat → Nat) (s : Cs) (p : Nat) : Bool := goes s.1 (wvs K s) (bt s.2.2.2.1) p
def arr (K : Nat → Nat) (m p : Nat) : Nat → Cs → Nat → Nat → Option (Nat × Nat)
  | 0, _, _, _ => none
  | r + 1, s, t, h => if thr s p then some (t, h) else arr K m p r (stp K m s) (t + 1) (h + if gos K s p then 1 else 0)
def arvV : Option (Nat × Nat) → Int32
  | none => -9
  | some (t, _) => nI t
def arvI (k j : Nat) : Option (Nat × Nat) → zi → zi
  | none, I => I
  | some (_, h), I => zup I k j (nI h)
theorem xor_ne : ∀ c, c < 16 → ∀ w, w < 4 → ¬ c = c ^^^ 2 ^ w := by decide +kernel
theorem gos_c {s : Cs} (hp : p < m) (hc : s.1 p < 16) : (s.1 p = (stp K m s).1 p) = (gos K s p = false) := by
  show (s.1 p = if p < m then C1 s.1 (wvs K s) (bt s.2.2.2.1) p else s.1 p) = (goes s.1 (wvs K s) (bt s.2.2.2.1) p = false)
  rw [if_pos hp]
  unfold C1
  cases hg : goes s.1 (wvs K s) (bt s.2.2.2.1) p
  · simp
  · have hw : wvs K s p < 4 := by
      unfold goes goes1 at hg
      simp at hg
      exact hg.1
    have := xor_ne _ hc _ hw
    simp [this]
theorem r_X_arrives (hp : p < m) {o : Option (Nat × Nat)} (hQ : ∀ I', (∀ k j, (k < 19 ∨ 23 < k) → I' k j = I k j) → Q (some (.int (arvV o))) (arvI 3 12 o I') L) :
    ∀ r t h (s : Cs) I', t + r = 61 → arr K m p r s t h = o → s.2.2.2.2.1 ≤ 99 + t → XC I' L 19 m K s → (∀ k j, (k < 19 ∨ 23 < k) → I' k j = I k j) → zV n (d + 4) 76 28 [.ref 3, .int (nI p), .int (nI h), .int (nI t)] [] I' L Q := by
  have hz := Qa_z (k := 19) (Or.inr (Or.inr rfl))
  intro r
  induction r with
  | zero =>
    intro t h s I' ht ho hs hx h2
    have e : t = 61 := by omega
    subst e
    subst ho
    have g : ((60 : Int32) < nI 61) = True := eq_true (by decide)
    simp only [e76_28, e76_29, e76_31, e76_84, e76_86, zpush_some, zpush_none, true_or, or_true, true_and, and_true, ↓reduceIte, zq_ite, zq_itel, g]
    exact hQ I' h2
  | succ r ih =>
    intro t h s I' ht ho hs hx h2
    have hlt : ((60 : Int32) < nI t) = False := (nI_ltN (a := 60) (by decide) (by omega)).trans (eq_false (by omega))
    have m7 := XC_m7 hx
    cases hth : thr s p
    · rw [arr, hth] at ho
      simp only [e76_28, e76_29, e76_31, e76_34, e76_35, e76_38, e76_39, e76_42, e76_45, e76_46, e76_47, e76_48, e76_51, e76_52, e76_53, e76_56, zpush_some, zpush_none, true_or, or_true, true_and, and_true, ↓reduceIte, zq_ite, zq_itel, hlt, zo_3, zr_3_6, zo_19, s_Q_isThere hz hx hp, hth, zb_f]
      refine t_Q_advance hz hx (by omega) (fun I2 x1 x2 x3 => ?_)
      have gl : gm s.1 (wvs K s) (bt s.2.2.2.1) m < 128 := Nat.lt_of_lt_of_le (gm_lt _ _ _ m) (Nat.pow_le_pow_right (by decide) m7)
      have gb : (gm s.1 (wvs K s) (bt s.2.2.2.1) m).testBit p = gos K s p := by rw [gm_bit, decide_eq_true hp]; rfl
      have nx := ih (t + 1) (h + if gos K s p then 1 else 0) (stp K m s) I2 (by omega) ho (by show s.2.2.2.2.1 + 1 ≤ _; omega) x1 (fun k j hk => by rw [x2 k j (by omega) (by omega) (Or.inl (by omega))]; exact h2 k j hk)
      cases hg : gos K s p
      · rw [hg] at nx
        simp only [e76_56, e76_59, e76_60, e76_61, e76_64, e76_65, e76_68, e76_71, e76_72, e76_75, e76_76, e76_77, e76_78, e76_78a, e76_81, zpush_some, zpush_none, true_or, or_true, true_and, and_true, ↓reduceIte, zq_ite, zq_itel, zo_3, zr_3_6, zo_19, s_Q_wentJustNow hz x3 gl (show p < 7 by omega), gb, hg, zb_f, nI_1, Int32.add_zero]
        exact nx
      · rw [hg] at nx
        simp only [e76_56, e76_59, e76_60, e76_61, e76_64, e76_65, e76_68, e76_71, e76_72, e76_75, e76_76, e76_77, e76_78, e76_78a, e76_81, zpush_some, zpush_none, true_or, or_true, true_and, and_true, ↓reduceIte, zq_ite, zq_itel, zo_3, zr_3_6, zo_19, s_Q_wentJustNow hz x3 gl (show p < 7 by omega), gb, hg, zb_t, zz_1, nI_1]
        exact nx
    · rw [arr, hth] at ho
      have ho : o = some (t, h) := ho.symm
      subst ho
      simp only [e76_28, e76_29, e76_31, e76_34, e76_35, e76_38, e76_39, e76_42, e76_45, e76_46, e76_47, e76_48, e76_51, zpush_some, zpush_none, true_or, or_true, true_and, and_true, ↓reduceIte, zq_ite, zq_itel, hlt, zo_3, zr_3_6, zo_19, s_Q_isThere hz hx hp, hth, zb_t, zz_1, s_X_tell]
      exact hQ I' h2
end
