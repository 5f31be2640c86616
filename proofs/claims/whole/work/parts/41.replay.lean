/-! REPLAY -/
section
variable {n d : Nat} {I I' : zi} {L L' : zl} {Q : zq} {K K' : Nat → Nat} {s s' s0 : Cs} {k m q i a b l f : Nat} {D : List Nat} {c : Nat} {kp : Nat → Option (List Nat)}
/-- the four arrays of a cube, so far -/
def Qt (I I' : zi) (k f i : Nat) : Prop := (∀ k' j, k' ≠ k + 1 → k' ≠ k + 2 → k' ≠ k + 3 → k' ≠ k + 4 → I' k' j = I k' j) ∧ ∀ q, q < i → I' (k + 1) q = I (f + 1) q ∧ I' (k + 2) q = I (f + 2) q ∧ I' (k + 3) q = I (f + 3) q ∧ I' (k + 4) q = I (f + 4) q
theorem Qt_step (hkf : k + 4 < f ∨ f + 4 < k) (h : Qt I I' k f i) : Qt I (zup (zup (zup (zup I' (k + 1) i (I (f + 1) i)) (k + 2) i (I (f + 2) i)) (k + 3) i (I (f + 3) i)) (k + 4) i (I (f + 4) i)) k f (i + 1) := by
  refine ⟨fun k' j a1 a2 a3 a4 => by rw [zup_ne a4, zup_ne a3, zup_ne a2, zup_ne a1]; exact h.1 k' j a1 a2 a3 a4, fun q hq => ?_⟩
  by_cases e : q = i
  · subst e
    refine ⟨?_, ?_, ?_, zup_eq⟩
    · rw [zup_ne (by omega), zup_ne (by omega), zup_ne (by omega), zup_eq]
    · rw [zup_ne (by omega), zup_ne (by omega), zup_eq]
    · rw [zup_ne (by omega), zup_eq]
  · obtain ⟨b1, b2, b3, b4⟩ := h.2 q (by omega)
    rw [zup_nj e, zup_nj e, zup_nj e, zup_nj e, zup_nj e, zup_nj e, zup_nj e, zup_nj e, zup_nj e, zup_nj e, zup_nj e, zup_nj e, zup_nj e, zup_nj e, zup_nj e, zup_nj e]
    exact ⟨b1, b2, b3, b4⟩
theorem l_Q_take (hz : Qz k) (hf : Qz f) (hkf : k + 4 < f ∨ f + 4 < k) (hQ : ∀ I', Qt I I' k f 7 → zV n d 32 62 [.ref k, .ref f, .int 7] [] I' L Q) :
    ∀ r i I', i + r = 7 → Qt I I' k f i → zV n d 32 2 [.ref k, .ref f, .int (nI i)] [] I' L Q := by
  intro r
  induction r with
  | zero =>
    intro i I' hi h
    have e : i = 7 := by omega
    subst e
    simp only [e32_2, e32_3, e32_5, zpush_some, zpush_none, true_or, or_true, true_and, and_true, ↓reduceIte, zq_ite, zq_itel, show nI 7 = (7 : Int32) from rfl, Int32.le_refl]
    exact hQ I' h
  | succ r ih =>
    intro i I' hi h
    have hlt : ((7 : Int32) ≤ nI i) = False := eq_false (nI_ge (b := 7) (by omega) (by omega))
    have zi7 : zin (nI i) 7 = true := zin_ok (by omega) (by decide)
    have ci : (nI i).toNatClampNeg = i := nI_clamp (by omega)
    obtain ⟨z1, z2, z3, z4, z5, ⟨n1, n2, n3, n4⟩, ⟨w1, w2, w3, w4⟩, l1, l2, l3, l4⟩ := id hz
    obtain ⟨fz1, fz2, fz3, fz4, fz5, ⟨fn1, fn2, fn3, fn4⟩, -, fl1, fl2, fl3, fl4⟩ := id hf
    have g1 : I' (f + 1) i = I (f + 1) i := h.1 _ _ (by omega) (by omega) (by omega) (by omega)
    have g2 : ∀ {x}, zup I' (k + 1) i x (f + 2) i = I (f + 2) i := fun {x} => by rw [zup_ne (by omega)]; exact h.1 _ _ (by omega) (by omega) (by omega) (by omega)
    have g3 : ∀ {x y}, zup (zup I' (k + 1) i x) (k + 2) i y (f + 3) i = I (f + 3) i := fun {x y} => by rw [zup_ne (by omega), zup_ne (by omega)]; exact h.1 _ _ (by omega) (by omega) (by omega) (by omega)
    have g4 : ∀ {x y z}, zup (zup (zup I' (k + 1) i x) (k + 2) i y) (k + 3) i z (f + 4) i = I (f + 4) i := fun {x y z} => by rw [zup_ne (by omega), zup_ne (by omega), zup_ne (by omega)]; exact h.1 _ _ (by omega) (by omega) (by omega) (by omega)
    simp only [e32_2, e32_3, e32_5, e32_8, e32_9, e32_12, e32_13, e32_14, e32_17, e32_18, e32_19, e32_20, e32_21, e32_24, e32_25, e32_26, e32_29, e32_30, e32_31, e32_32, e32_33, e32_36, e32_37, e32_38, e32_41, e32_42, e32_43, e32_44, e32_45, e32_48, e32_49, e32_50, e32_53, e32_54, e32_55, zpush_some, zpush_none, true_or, or_true, true_and, and_true, ↓reduceIte, zq_ite, zq_itel, hlt, z1, z2, z3, z4, z5, n1, n2, n3, n4, w1, w2, w3, w4, l1, l2, l3, l4, fz1, fz2, fz3, fz4, fz5, fn1, fn2, fn3, fn4, fl1, fl2, fl3, fl4, zi7, ci, g1, g2, g3, g4]
    simp only [e32_56, e32_59, nI_1]
    exact ih (i + 1) _ (by omega) (Qt_step hkf h)
theorem t_Q_take (hz : Qz k) (hf : Qz f) (hkf : k + 4 < f ∨ f + 4 < k) (hx : XC I L f m K s) (hQ : ∀ I' L', XC I' L' k m K s → (∀ k' j, (k' < k ∨ k + 4 < k') → I' k' j = I k' j) → (∀ k' j, k' ≠ k → L' k' j = L k' j) → Q none I' L') : zV n d 32 0 [.ref k, .ref f, .null] [] I L Q := by
  simp only [e32_0, e32_1, zpush_some, zpush_none, true_or, or_true, true_and, and_true, ↓reduceIte, zq_ite, zq_itel]
  refine l_Q_take (I := I) hz hf hkf (fun I' h => ?_) 7 0 I rfl ⟨fun _ _ _ _ _ _ => rfl, fun q hq => absurd hq (by omega)⟩
  have e : ∀ j, I' f j = I f j := fun j => h.1 _ _ (by omega) (by omega) (by omega) (by omega)
  have kf : f ≠ k := by omega
  simp only [e32_62, e32_63, e32_64, e32_67, e32_70, e32_71, e32_72, e32_75, e32_78, e32_79, e32_80, e32_83, e32_86, e32_87, e32_88, e32_91, e32_94, e32_95, e32_96, e32_99, e32_102, e32_103, e32_104, e32_107, e32_110, zpush_some, zpush_none, true_or, or_true, true_and, and_true, ↓reduceIte, zq_ite, zq_itel, hz.1, hf.1, e, zup_ne kf]
  obtain ⟨K', s', e1, e2, ⟨m1, m2⟩, hB, h6, h7, hc⟩ := hx
  refine hQ _ _ ⟨K', s', e1, e2, ⟨?_, m2⟩, ?_, ?_, ?_, fun q hq => ?_⟩ (fun k' j hk => ?_) (fun k' j hk => ?_)
  · rw [zup_nj (by decide), zup_nj (by decide), zup_nj (by decide), zup_nj (by decide), zup_eq]; exact m1
  · rw [zup_eq]; exact hB
  · rw [zup_nj (by decide), zup_nj (by decide), zup_nj (by decide), zup_eq]; exact h6
  · rw [zup_nj (by decide), zup_nj (by decide), zup_eq]; exact h7
  · obtain ⟨b1, b2, b3, b4⟩ := h.2 q (by omega)
    have g : ∀ x, x ≠ k → zup (zup (zup (zup (zup I' k 4 (I f 4)) k 6 (I f 6)) k 7 (I f 7)) k 8 (I f 8)) k 9 (I f 9) x q = I' x q := fun x hx => by rw [zup_ne hx, zup_ne hx, zup_ne hx, zup_ne hx, zup_ne hx]
    rw [g _ (by omega), g _ (by omega), g _ (by omega), g _ (by omega), b1, b2, b3, b4]
    exact hc q hq
  · have hx : k' ≠ k := by omega
    rw [zup_ne hx, zup_ne hx, zup_ne hx, zup_ne hx, zup_ne hx]
    exact h.1 k' j (by omega) (by omega) (by omega) (by omega)
  · exact zup_ne hk
theorem rep_cons {s : Cs} : rep K m s (D.take (i + 1)) = if h : i < D.length then do1 K m (rep K m s (D.take i)) (D.getD i 0) else rep K m s D := by
  by_cases h : i < D.length
  · rw [dif_pos h, List.take_succ_eq_append_getElem h, rep_snoc, List.getD_eq_getElem?_getD, List.getElem?_eq_getElem h]
    rfl
  · rw [dif_neg h, List.take_of_length_le (by omega)]
theorem l_X_replay (hok : ∀ c ∈ D, okd m c) (hs : s0.2.2.2.2.1 ≤ 99) (hd : DS I 6 D) (hQ : ∀ I' L', XC I' L' 14 m K (rep K m s0 D) → (∀ k' j, (k' < 14 ∨ 18 < k') → I' k' j = I k' j) → (∀ k' j, k' ≠ 14 → L' k' j = L k' j) → Q none I' L') :
    ∀ r i I' L', i + r = D.length → XC I' L' 14 m K (rep K m s0 (D.take i)) → (∀ k' j, (k' < 14 ∨ 18 < k') → I' k' j = I k' j) → (∀ k' j, k' ≠ 14 → L' k' j = L k' j) → zV n (d + 5) 33 13 [.ref 3, .int (nI i)] [] I' L' Q := by
  have hz := Qa_z (k := 14) (Or.inr (Or.inl rfl))
  have hD := hd.1
  intro r
  induction r with
  | zero =>
    intro i I' L' hi hx h1 h2
    have e : i = D.length := by omega
    subst e
    have e1 : I' 6 1 = nI D.length := by rw [h1 6 1 (by decide)]; exact hd.2.1
    rw [List.take_length] at hx
    simp only [e33_13, e33_14, e33_15, e33_18, e33_21, e33_45, zpush_some, zpush_none, true_or, or_true, true_and, and_true, ↓reduceIte, zq_ite, zq_itel, zo_3, zr_3_2, Sz_6.1, e1, Int32.le_refl]
    exact hQ I' L' hx h1 h2
  | succ r ih =>
    intro i I' L' hi hx h1 h2
    have hlt : (nI D.length ≤ nI i) = False := eq_false (nI_ge (by omega) (by omega))
    have e1 : I' 6 1 = nI D.length := by rw [h1 6 1 (by decide)]; exact hd.2.1
    have e2 : I' (6 + 1) i = nI (D.getD i 0) := by rw [h1 7 i (by decide)]; exact hd.2.2 i (by omega)
    have g1 : (nI i < 0) = False := eq_false (nI_pos (by omega))
    have hmem : D.getD i 0 ∈ D := by
      rw [List.getD_eq_getElem?_getD, List.getElem?_eq_getElem (show i < D.length by omega)]
      exact List.getElem_mem _
    simp only [e33_13, e33_14, e33_15, e33_18, e33_21, e33_24, e33_25, e33_28, e33_29, e33_32, e33_33, e33_36, zpush_some, zpush_none, true_or, or_true, true_and, and_true, ↓reduceIte, zq_ite, zq_itel, zo_3, zr_3_2, zr_3_5, Sz_6.1, zo_14, e1, hlt, s_S_get_k Sz_6 e1 (show i < 40 by omega) (by decide) g1 hlt, e2]
    refine t_Q_obey hz hx (Nat.lt_of_le_of_lt (rep_t hs) (by decide)) (hok _ hmem) (fun I2 L2 x1 x2 x3 => ?_)
    simp only [e33_36, e33_39, e33_42, zpush_some, zpush_none, true_or, or_true, true_and, and_true, ↓reduceIte, zq_ite, zq_itel, nI_1]
    refine ih (i + 1) I2 L2 (by omega) ?_ (fun k' j hk => (x2 k' j (by omega)).trans (h1 k' j hk)) (fun k' j hk => (x3 k' j hk).trans (h2 k' j hk))
    rw [rep_cons, dif_pos (by omega)]
    exact x1
theorem t_X_replay (hx : XC I L 9 m K s0) (hok : ∀ c ∈ D, okd m c) (hs : s0.2.2.2.2.1 ≤ 99) (hd : DS I 6 D) (hQ : ∀ I' L', XC I' L' 14 m K (rep K m s0 D) → (∀ k' j, (k' < 14 ∨ 18 < k') → I' k' j = I k' j) → (∀ k' j, k' ≠ 14 → L' k' j = L k' j) → Q none I' L') : zV n (d + 5) 33 0 [.ref 3, .null] [] I L Q := by
  have hz := Qa_z (k := 14) (Or.inr (Or.inl rfl))
  simp only [e33_0, e33_1, e33_4, e33_5, e33_8, zpush_some, zpush_none, true_or, or_true, true_and, and_true, ↓reduceIte, zq_ite, zq_itel, zo_3, zr_3_4, zr_3_5, zo_9, zo_14]
  refine t_Q_take hz (Qa_z (Or.inl rfl)) (by decide) hx (fun I' L' x1 x2 x3 => ?_)
  simp only [e33_8, e33_11, e33_12, zpush_some, zpush_none, true_or, or_true, true_and, and_true, ↓reduceIte, zq_ite, zq_itel]
  exact l_X_replay hok hs hd hQ D.length 0 I' L' (by omega) x1 x2 x3
end
