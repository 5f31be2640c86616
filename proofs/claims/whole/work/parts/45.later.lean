/-! WHAT COMES -/
section
variable {n d : Nat} {I I' : zi} {L L' : zl} {Q : zq} {K K' : Nat → Nat} {s s' s0 : Cs} {k m q i a b l f : Nat} {D D' : List Nat} {c : Nat} {kp kp' : Nat → Option (List Nat)}
theorem l_M_begin (hQ : ∀ I', (∀ k j, k ≠ 77 → I' k j = I k j) → (∀ l, l < 32 → I' 77 l = 0) → Q none I' L) :
    ∀ r i I', i + r = 32 → (∀ k j, k ≠ 77 → I' k j = I k j) → (∀ l, l < i → I' 77 l = 0) → zV n d 173 17 [.ref 62, .int (nI i)] [] I' L Q := by
  intro r
  induction r with
  | zero =>
    intro i I' hi h1 h2
    have e : i = 32 := by omega
    subst e
    simp only [e173_17, e173_18, e173_20, e173_36, zpush_some, zpush_none, true_or, or_true, true_and, and_true, ↓reduceIte, zq_ite, zq_itel, show nI 32 = (32 : Int32) from rfl, Int32.le_refl]
    exact hQ I' h1 h2
  | succ r ih =>
    intro i I' hi h1 h2
    have hlt : ((32 : Int32) ≤ nI i) = False := eq_false (nI_ge (b := 32) (by omega) (by omega))
    have z1 : zin (nI i) 32 = true := zin_ok (by omega) (by decide)
    have c1 : (nI i).toNatClampNeg = i := nI_clamp (by omega)
    simp only [e173_17, e173_18, e173_20, e173_23, e173_24, e173_27, e173_28, e173_29, zpush_some, zpush_none, true_or, or_true, true_and, and_true, ↓reduceIte, zq_ite, zq_itel, hlt, zo_62, zr_62_24, zn_77, zw_77, zl_77, z1, c1]
    simp only [e173_30, e173_33, nI_1]
    refine ih (i + 1) _ (by omega) (fun k j g => by rw [zup_ne g]; exact h1 k j g) (fun l hl => ?_)
    by_cases e : l = i
    · subst e; exact zup_eq
    · rw [zup_nj e]; exact h2 l (by omega)
/-- the check's cube to try -/
theorem s_M_begin (hM : MC I 70 m s) (hQ : ∀ I', MC I' 75 m s → (∀ k j, k ≠ 75 → k ≠ 77 → I' k j = I k j) → (∀ l, l < 32 → I' 77 l = 0) → Q none I' L) : zV n (d + 1) 173 0 [.ref 62, .null] [] I L Q := by
  simp only [e173_0, e173_1, e173_4, e173_5, e173_6, e173_9, e173_10, e173_12, zpush_some, zpush_none, true_or, or_true, true_and, and_true, ↓reduceIte, zq_ite, zq_itel, zo_62, zr_62_16, zr_62_22, zn_70, zn_75]
  refine s_M_bring (o := 0) (p := 0) (N := 24) ⟨zn_70, zn_75, zw_75⟩ (by decide) (by rw [zl_70]; decide) (by rw [zl_75]; decide) (by rw [zl_70]; decide) (by rw [zl_75]; decide) (fun I1 h1 h2 => ?_)
  simp only [e173_12, e173_15, e173_16, zpush_some, zpush_none, true_or, or_true, true_and, and_true, ↓reduceIte, zq_ite, zq_itel]
  refine l_M_begin (I := I1) (fun I2 x1 x2 => ?_) 32 0 I1 rfl (fun _ _ _ => rfl) (fun l hl => absurd hl (by omega))
  refine hQ I2 (MCo_0.mp (MCo_cpy (MCo_0.mpr hM) (fun j hj => ?_))) (fun k j a b => ?_) x2
  · rw [x1 75 _ (by decide), h2 j hj]
  · rw [x1 k j b, h1 k j (Or.inl a)]
/-- many steps -/
def stps (K : Nat → Nat) (m : Nat) (s : Cs) : Nat → Cs
  | 0 => s
  | i + 1 => stp K m (stps K m s i)
theorem stps_t (i : Nat) : (stps K m s i).2.2.2.2.1 = s.2.2.2.2.1 + i := by
  induction i with
  | zero => rfl
  | succ i ih => show (stps K m s i).2.2.2.2.1 + 1 = _; rw [ih]; omega
theorem l_X_later {w : Nat} (hw : w ≤ 60) (hs : s.2.2.2.2.1 ≤ 99) {i1 : Value} (hQ : ∀ I', XC I' L 19 m K (stps K m s w) → (∀ k j, (k < 19 ∨ 23 < k) → I' k j = I k j) → zV n (d + 4) 75 54 [.ref 3, i1, .int (nI w), .int (nI w)] [] I' L Q) :
    ∀ r i I', i + r = w → XC I' L 19 m K (stps K m s i) → (∀ k j, (k < 19 ∨ 23 < k) → I' k j = I k j) → zV n (d + 4) 75 36 [.ref 3, i1, .int (nI w), .int (nI i)] [] I' L Q := by
  have hz := Qa_z (k := 19) (Or.inr (Or.inr rfl))
  intro r
  induction r with
  | zero =>
    intro i I' hi h1 h2
    have e : i = w := by omega
    subst e
    simp only [e75_36, e75_37, e75_38, zpush_some, zpush_none, true_or, or_true, true_and, and_true, ↓reduceIte, zq_ite, zq_itel, Int32.le_refl]
    exact hQ I' h1 h2
  | succ r ih =>
    intro i I' hi h1 h2
    have hlt : (nI w ≤ nI i) = False := eq_false (nI_ge (by omega) (by omega))
    simp only [e75_36, e75_37, e75_38, e75_41, e75_42, e75_45, zpush_some, zpush_none, true_or, or_true, true_and, and_true, ↓reduceIte, zq_ite, zq_itel, hlt, zo_3, zr_3_6, zo_19]
    refine t_Q_advance hz h1 (by rw [stps_t]; omega) (fun I2 x1 x2 x3 => ?_)
    simp only [e75_45, e75_48, e75_51, zpush_some, zpush_none, true_or, or_true, true_and, and_true, ↓reduceIte, zq_ite, zq_itel, nI_1]
    exact ih (i + 1) I2 (by omega) x1 (fun k j hk => by rw [x2 k j (by omega) (by omega) (Or.inl (by omega))]; exact h2 k j hk)
end
