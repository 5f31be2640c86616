/-! DEEDS -/
section
variable {n d : Nat} {I I' : zi} {L L' : zl} {Q : zq} {K K' : Nat → Nat} {s s' s0 : Cs} {k m q i a b l : Nat} {D : List Nat} {c : Nat} {kp : Nat → Option (List Nat)}
theorem MCo_rng {o : Nat} (h : MCo I a o m s) (hI : ∀ j, o ≤ j → j < o + 24 → I' a j = I a j) : MCo I' a o m s := by
  obtain ⟨s', h1, h2, h3, h4, h5⟩ := h
  exact ⟨s', h1, by rw [hI _ (by omega) (by omega)]; exact h2, by rw [hI _ (by omega) (by omega)]; exact h3, by rw [hI _ (by omega) (by omega)]; exact h4, fun i hi => by rw [hI _ (by omega) (by omega), hI _ (by omega) (by omega), hI _ (by omega) (by omega)]; exact h5 i hi⟩
/-- a copy of the check's cube -/
theorem MCo_cpy {o o' a' : Nat} (h : MCo I a o m s) (hI : ∀ j, j < 24 → I' a' (o' + j) = I a (o + j)) : MCo I' a' o' m s := by
  obtain ⟨s', h1, h2, h3, h4, h5⟩ := h
  exact ⟨s', h1, by rw [hI _ (by omega)]; exact h2, by rw [hI _ (by omega)]; exact h3, by rw [hI _ (by omega)]; exact h4, fun i hi => by rw [hI _ (by omega), hI _ (by omega), hI _ (by omega)]; exact h5 i hi⟩
theorem rep_snoc : rep K m s0 (D ++ [c]) = do1 K m (rep K m s0 D) c := by
  unfold rep
  rw [List.foldl_append]
  rfl
theorem ICs_do (h : ICs I L m K s0 D kp) (hc : okd m c) (hds : DS I' 6 (D ++ [c])) (hx : XC I' L' 14 m K (do1 K m (rep K m s0 D) c)) (hmc : MC I' 70 m (do1 K m (rep K m s0 D) c)) (hn : I' 62 18 = nI (D.length + 1)) (hnew : MCo I' 71 (24 * D.length) m (rep K m s0 D)) (hold : ∀ j, j < 24 * D.length → I' 71 j = I 71 j) (hI : ∀ k j, cubeCell k j → k ≠ 6 → k ≠ 7 → (k < 14 ∨ 18 < k) → (k ≠ 62 ∨ j ≠ 18) → k ≠ 70 → k ≠ 71 → I' k j = I k j) (hL : L' 9 5 = L 9 5) : ICs I' L' m K s0 (D ++ [c]) kp := by
  obtain ⟨h1, h2, h3, h4, h5, h6, h7, h8, h9, h10, h11, h12, h13⟩ := h
  have g : ∀ k j, cubeCell k j → k ≠ 6 → k ≠ 7 → (k < 14 ∨ 18 < k) → (k ≠ 62 ∨ j ≠ 18) → k ≠ 70 → k ≠ 71 → I' k j = I k j := hI
  refine ⟨h1, h2, h3, trivial, fun x hx => ?_, XC_eq h6 (fun k' j a b _ => g _ _ (by unfold cubeCell; omega) (by omega) (by omega) (by omega) (by omega) (by omega) (by omega)) hL, by rw [rep_snoc]; exact hx, hds, ?_, by rw [rep_snoc]; exact hmc, by rw [List.length_append]; exact hn, fun j hj => ?_, fun q hq => ?_⟩
  · rcases List.mem_append.mp hx with e | e
    · exact h5 x e
    · rw [List.mem_singleton.mp e]; exact hc
  · obtain ⟨K', e, k1, k2, k3⟩ := h9
    exact ⟨K', e, by rw [g 62 14 (by unfold cubeCell; omega) (by omega) (by omega) (by omega) (by omega) (by omega) (by omega)]; exact k1, k2, fun i hi => by rw [g 69 i (by unfold cubeCell; omega) (by omega) (by omega) (by omega) (by omega) (by omega) (by omega)]; exact k3 i hi⟩
  · rw [List.length_append, List.length_singleton] at hj
    by_cases e : j < D.length
    · rw [List.take_append_of_le_length (by omega)]
      exact MCo_rng (h12 j e) (fun i a b => hold i (by omega))
    · have e : j = D.length := by omega
      subst e
      rw [List.take_append_of_le_length (by omega), List.take_length]
      exact hnew
  · have hk := h13 q hq
    cases hkp : kp q with
    | none =>
      rw [hkp] at hk
      exact ⟨by rw [g _ _ (by unfold cubeCell; omega) (by omega) (by omega) (by omega) (by omega) (by omega) (by omega)]; exact hk.1, by rw [g _ _ (by unfold cubeCell; omega) (by omega) (by omega) (by omega) (by omega) (by omega) (by omega)]; exact hk.2⟩
    | some D' =>
      rw [hkp] at hk
      obtain ⟨f1, f2, f3, f4, f5⟩ := hk
      exact ⟨DS_eq f1 (g _ _ (by unfold cubeCell; omega) (by omega) (by omega) (by omega) (by omega) (by omega) (by omega)) (fun j => g _ _ (by unfold cubeCell; omega) (by omega) (by omega) (by omega) (by omega) (by omega) (by omega)), f2, by rw [g 74 q (by unfold cubeCell; omega) (by omega) (by omega) (by omega) (by omega) (by omega) (by omega)]; exact f3, MCo_eq f4 (fun j => g _ _ (by unfold cubeCell; omega) (by omega) (by omega) (by omega) (by omega) (by omega) (by omega)), fun j hj => MCo_eq (f5 j hj) (fun j => g _ _ (by unfold cubeCell; omega) (by omega) (by omega) (by omega) (by omega) (by omega) (by omega))⟩
/-- the check brings a part of one array into another -/
theorem l_M_bring {o p N : Nat} (hz : zint a = true ∧ zint b = true ∧ zwr b = true) (hab : a ≠ b) (ho : o + N ≤ zlen a) (hp : p + N ≤ zlen b) (hla : zlen a < 2 ^ 31) (hlb : zlen b < 2 ^ 31) (hQ : ∀ I', (∀ k j, (k ≠ b ∨ j < p ∨ p + N ≤ j) → I' k j = I k j) → (∀ j, j < N → I' b (p + j) = I a (o + j)) → Q none I' L) :
    ∀ r i I', i + r = N → (∀ k j, (k ≠ b ∨ j < p ∨ p + i ≤ j) → I' k j = I k j) → (∀ j, j < i → I' b (p + j) = I a (o + j)) → zV n d 164 3 [.ref a, .int (nI o), .ref b, .int (nI p), .int (nI N), .int (nI i)] [] I' L Q := by
  intro r
  induction r with
  | zero =>
    intro i I' hi h1 h2
    have e : i = N := by omega
    subst e
    simp only [e164_3, e164_5, e164_7, e164_28, zpush_some, zpush_none, true_or, or_true, true_and, and_true, ↓reduceIte, zq_ite, zq_itel, Int32.le_refl]
    exact hQ I' h1 h2
  | succ r ih =>
    intro i I' hi h1 h2
    have hlt : (nI N ≤ nI i) = False := eq_false (nI_ge (by omega) (by omega))
    have z1 : zin (nI (o + i)) (zlen a) = true := zin_ok (by omega) (by omega)
    have c1 : (nI (o + i)).toNatClampNeg = o + i := nI_clamp (by omega)
    have z2 : zin (nI (p + i)) (zlen b) = true := zin_ok (by omega) (by omega)
    have c2 : (nI (p + i)).toNatClampNeg = p + i := nI_clamp (by omega)
    simp only [e164_3, e164_5, e164_7, e164_10, e164_11, e164_12, e164_14, e164_15, e164_16, e164_17, e164_19, e164_20, e164_21, zpush_some, zpush_none, true_or, or_true, true_and, and_true, ↓reduceIte, zq_ite, zq_itel, hlt, i_tk, hz.1, hz.2.1, hz.2.2, z1, c1, z2, c2]
    simp only [e164_22, e164_25, nI_1]
    refine ih (i + 1) _ (by omega) (fun k' j g => ?_) (fun j hj => ?_)
    · have : zup I' b (p + i) (I' a (o + i)) k' j = I' k' j := by
        rcases g with g | g
        · exact zup_ne g
        · exact zup_nj (by omega)
      rw [this]
      exact h1 k' j (by omega)
    · by_cases e : j = i
      · subst e
        rw [zup_eq]
        exact h1 a _ (Or.inl hab)
      · rw [zup_nj (by omega)]
        exact h2 j (by omega)
theorem s_M_bring {o p N : Nat} (hz : zint a = true ∧ zint b = true ∧ zwr b = true) (hab : a ≠ b) (ho : o + N ≤ zlen a) (hp : p + N ≤ zlen b) (hla : zlen a < 2 ^ 31) (hlb : zlen b < 2 ^ 31) (hQ : ∀ I', (∀ k j, (k ≠ b ∨ j < p ∨ p + N ≤ j) → I' k j = I k j) → (∀ j, j < N → I' b (p + j) = I a (o + j)) → Q none I' L) : zV n d 164 0 [.ref a, .int (nI o), .ref b, .int (nI p), .int (nI N), .null] [] I L Q := by
  simp only [e164_0, e164_1, zpush_some, zpush_none, true_or, or_true, true_and, and_true, ↓reduceIte, zq_ite, zq_itel]
  exact l_M_bring hz hab ho hp hla hlb hQ N 0 I (by omega) (fun _ _ _ => rfl) (fun j hj => absurd hj (by omega))
theorem s_M_note (hn : I 62 18 = nI q) (hq : q < 40) (hQ : ∀ I', (∀ k j, k ≠ 71 → (k ≠ 62 ∨ j ≠ 18) → I' k j = I k j) → (∀ j, j < 24 * q → I' 71 j = I 71 j) → (∀ j, j < 24 → I' 71 (24 * q + j) = I 70 (0 + j)) → I' 62 18 = nI (q + 1) → Q none I' L) : zV n (d + 1) 163 0 [.ref 62] [] I L Q := by
  have e : (24 : Int32) * nI q = nI (24 * q) := pk_mul 24 q
  simp only [e163_0, e163_1, e163_4, e163_5, e163_6, e163_9, e163_11, e163_12, e163_15, e163_16, e163_18, e163_21, e163_22, e163_23, e163_26, e163_27, e163_28, e163_31, zpush_some, zpush_none, true_or, or_true, true_and, and_true, ↓reduceIte, zq_ite, zq_itel, zo_62, zr_62_16, zr_62_17, hn, e, zn_70, zn_71]
  refine s_M_bring (o := 0) (p := 24 * q) (N := 24) ⟨zn_70, zn_71, zw_71⟩ (by decide) (by rw [zl_70]; decide) (by rw [zl_71]; omega) (by rw [zl_70]; decide) (by rw [zl_71]; decide) (fun I' h1 h2 => ?_)
  have e2 : I' 62 18 = nI q := by rw [h1 62 18 (Or.inl (by decide))]; exact hn
  simp only [e163_0, e163_1, e163_4, e163_5, e163_6, e163_9, e163_11, e163_12, e163_15, e163_16, e163_18, e163_21, e163_22, e163_23, e163_26, e163_27, e163_28, e163_31, zpush_some, zpush_none, true_or, or_true, true_and, and_true, ↓reduceIte, zq_ite, zq_itel, zo_62, e2, nI_1]
  refine hQ _ (fun k j a b => ?_) (fun j hj => ?_) (fun j hj => ?_) zup_eq
  · have : zup I' 62 18 (nI (q + 1)) k j = I' k j := by
      rcases b with b | b
      · exact zup_ne b
      · exact zup_nj b
    rw [this]
    exact h1 k j (Or.inl a)
  · rw [zup_ne (by decide)]; exact h1 71 j (by omega)
  · rw [zup_ne (by decide)]; exact h2 j hj
theorem Sz_6 : Sz 6 40 := ⟨by decide +kernel, by decide +kernel, by decide +kernel, by decide +kernel, by decide +kernel⟩
theorem s_S_append6 (hn : I 6 1 = nI q) (hq : q < 40) (v : Int32) : zV n d 61 0 [.ref 6, .int v] [] I L Q ↔ Q none (zup (zup I 7 q v) 6 1 (nI (q + 1))) L := by
  have g1 : (nI q < 0) = False := eq_false (nI_pos (by omega))
  have g2 : ((40 : Int32) ≤ nI q) = False := eq_false (nI_ge (b := 40) hq (by decide))
  have z1 : zin (nI q) 40 = true := zin_ok (by omega) (by decide)
  have c1 : (nI q).toNatClampNeg = q := nI_clamp (by omega)
  obtain ⟨y1, y2, y3, y4, y5⟩ := Sz_6
  have e : zup I 7 q v 6 1 = nI q := by rw [zup_ne (by decide)]; exact hn
  simp only [e61_0, e61_1, e61_4, e61_7, e61_8, e61_11, e61_12, e61_15, e61_15q, e61_16, e61_19, e61_20, e61_23, e61_24, e61_27, e61_28, e61_29, e61_30, e61_31, e61_34, e61_35, e61_36, e61_39, zpush_some, zpush_none, true_or, or_true, true_and, and_true, ↓reduceIte, zq_ite, zq_itel, y1, y2, y3, y4, y5, hn, g1, g2, z1, c1, e, nI_1, show nI 40 = (40 : Int32) from rfl]
theorem DS_snoc (h : DS I 6 D) (hD : D.length < 40) (h1 : I' 6 1 = nI (D.length + 1)) (h2 : I' 7 D.length = nI c) (h3 : ∀ j, j < D.length → I' 7 j = I 7 j) : DS I' 6 (D ++ [c]) := by
  refine ⟨by rw [List.length_append, List.length_singleton]; omega, by rw [List.length_append, List.length_singleton]; exact h1, fun j hj => ?_⟩
  rw [List.length_append, List.length_singleton] at hj
  by_cases e : j < D.length
  · rw [List.getD_eq_getElem?_getD, List.getElem?_append_left e, ← List.getD_eq_getElem?_getD]
    exact (h3 j e).trans (h.2.2 j e)
  · have e : j = D.length := by omega
    subst e
    rw [List.getD_eq_getElem?_getD, List.getElem?_append_right (by omega), Nat.sub_self]
    exact h2
/-- the class performs a deed -/
theorem t_X_perform (hx : XC I L 14 m K s) (ht : s.2.2.2.2.1 < 2 ^ 31) (hd : DS I 6 D) (hD : D.length < 40) (hc : okd m c) (hQ : ∀ I' L', XC I' L' 14 m K (do1 K m s c) → DS I' 6 (D ++ [c]) → (∀ k j, k ≠ 6 → k ≠ 7 → (k < 14 ∨ 18 < k) → I' k j = I k j) → (∀ k j, k ≠ 14 → L' k j = L k j) → Q none I' L') : zV n (d + 5) 60 0 [.ref 3, .int (nI c)] [] I L Q := by
  have hz := Qa_z (k := 14) (Or.inr (Or.inl rfl))
  simp only [e60_0, e60_1, e60_4, e60_5, e60_8, e60_9, e60_12, e60_13, e60_16, zpush_some, zpush_none, true_or, or_true, true_and, and_true, ↓reduceIte, zq_ite, zq_itel, zo_3, zr_3_2, zr_3_5, Sz_6.1, zo_14, s_S_append6 hd.2.1 hD]
  refine t_Q_obey hz (XC_eq hx (fun k' j a b _ => by rw [zup_ne (by omega), zup_ne (by omega)]) rfl) ht hc (fun I' L' h1 h2 h3 => ?_)
  simp only [e60_0, e60_1, e60_4, e60_5, e60_8, e60_9, e60_12, e60_13, e60_16, zpush_some, zpush_none, true_or, or_true, true_and, and_true, ↓reduceIte, zq_ite, zq_itel]
  refine hQ I' L' h1 (DS_snoc hd hD ?_ ?_ (fun j hj => ?_)) (fun k j a b e => ?_) h3
  · rw [h2 6 1 (by omega), zup_eq]
  · rw [h2 7 _ (by omega), zup_ne (by decide), zup_eq]
  · rw [h2 7 _ (by omega), zup_ne (by decide), zup_nj (by omega)]
  · rw [h2 k j (by omega), zup_ne a, zup_ne b]
/-- what ties both, taken apart -/
theorem Inv.apart (h : Inv I L) : ∃ m K s0 D kp, ICs I L m K s0 D kp := h.2.2.2
theorem ICs.now (h : ICs I L m K s0 D kp) : XC I L 14 m K (rep K m s0 D) ∧ MC I 70 m (rep K m s0 D) ∧ MK I m K ∧ (rep K m s0 D).2.2.2.2.1 ≤ 99 ∧ DS I 6 D ∧ I 62 18 = nI D.length ∧ m ≤ 7 ∧ okc m K (rep K m s0 D) := by
  obtain ⟨h1, h2, h3, h4, h5, h6, h7, h8, h9, h10, h11, h12, h13⟩ := h
  exact ⟨h7, h10, h9, rep_t (by rw [h3]; exact Nat.zero_le _), h8, h11, h1, rep_ok h2⟩
/-- only cubes and deeds have changed -/
theorem inv_cube (h : Inv I L) (hc : IC I' L') (hI : ∀ k j, (k = 3 ∨ k = 35 ∨ k = 67 ∨ (36 ≤ k ∧ k < 56) ∨ (63 ≤ k ∧ k ≤ 66) ∨ (k = 62 ∧ (j = 4 ∨ j = 6))) → I' k j = I k j) (hL : ∀ k j, (k = 3 ∨ k = 62) → L' k j = L k j) : Inv I' L' := by
  obtain ⟨⟨a1, a2, a3, a4, a5⟩, h2, h3, h4⟩ := h
  refine ⟨⟨by rw [hI _ _ (by omega), hI _ _ (by omega)]; exact a1, fun f f1 f2 => by rw [hI _ _ (by omega), hI _ _ (by omega)]; exact a2 f f1 f2, by rw [hI _ _ (by omega), hI _ _ (by omega)]; exact a3, by rw [hL _ _ (by omega), hL _ _ (by omega)]; exact a4, by rw [hL _ _ (by omega), hL _ _ (by omega)]; exact a5⟩, IRt_eq h2 (fun k j b1 b2 => hI k j (by omega)) (fun j => hI _ j (by omega)) (fun j => hI _ j (by omega)), IRt_eq h3 (fun k j b1 b2 => hI k j (by omega)) (fun j => hI _ j (by omega)) (fun j => hI _ j (by omega)), hc⟩
theorem nI_z {a : Nat} (h : a < 2 ^ 31) : (nI a = 0) = (a = 0) := propext ⟨fun g => by
  have := congrArg Int32.toInt g
  rw [nI_toInt h, Int32.toInt_zero] at this
  omega, fun g => by rw [g]; rfl⟩
theorem nI_eqN {a b : Nat} (ha : a < 2 ^ 31) (hb : b < 2 ^ 31) : (nI a = nI b) = (a = b) := propext ⟨fun g => by
  have := congrArg Int32.toInt g
  rw [nI_toInt ha, nI_toInt hb] at this
  omega, fun g => by rw [g]⟩
theorem nI_ltN {a b : Nat} (ha : a < 2 ^ 31) (hb : b < 2 ^ 31) : (nI a < nI b) = (a < b) := propext (by
  rw [Int32.lt_iff_toInt_lt, nI_toInt ha, nI_toInt hb]
  omega)
theorem nI_leN {a b : Nat} (ha : a < 2 ^ 31) (hb : b < 2 ^ 31) : (nI a ≤ nI b) = (a ≤ b) := propext (by
  rw [Int32.le_iff_toInt_le, nI_toInt ha, nI_toInt hb]
  omega)
theorem add_sub_l (a b : Int32) : a + b - a = b := by
  rw [Int32.add_comm, Int32.add_sub_cancel]
theorem p_step (h : Inv I L) : zV n (d + 6) 59 0 [.ref 3, .null] [] I L (fun v1 I1 L1 => zV n (d + 6) 162 0 [.ref 62] [] I1 L1 (fun v2 I2 L2 => same v1 v2 ∧ Inv I2 L2)) := by
  obtain ⟨m, K, s0, D, kp, hcs⟩ := h.apart
  obtain ⟨hX, hM, hK, ht, hds, hn, hm, hok⟩ := hcs.now
  have hz := Qa_z (k := 14) (Or.inr (Or.inl rfl))
  by_cases hm0 : m = 0
  · have e0 : (nI m = 0) = True := by rw [nI_z (by omega)]; exact eq_true hm0
    simp only [e59_0, e59_1, e59_4, e59_7, e59_10, e59_11, e59_14, e59_17, e59_19, e59_22, e59_24, e59_25, e59_26, e59_29, e59_32, e59_34, e59_37, e59_39, e59_40, e59_41, e59_44, e59_47, e59_48, e59_49, e59_50, e59_53, e59_54, e59_57, e59_60, e59_61, e59_62, e162_0, e162_1, e162_4, e162_7, e162_8, e162_11, e162_12, e162_13, e162_15, e162_18, e162_20, e162_21, e162_22, e162_25, e162_27, e162_30, e162_32, e162_33, e162_34, e162_37, e162_38, e162_39, e162_42, e162_45, zpush_some, zpush_none, true_or, or_true, true_and, and_true, ↓reduceIte, zq_ite, zq_itel, zo_3, zr_3_5, zo_14, zo_62, XC_m hX, MK_m hK, e0]
    exact ⟨same_i, h⟩
  · have e0 : (nI m = 0) = False := by rw [nI_z (by omega)]; exact eq_false hm0
    by_cases h99 : (rep K m s0 D).2.2.2.2.1 = 99
    · have e1 : ((99 : Int32) < 99) = False := eq_false (by decide)
      simp only [e59_0, e59_1, e59_4, e59_7, e59_10, e59_11, e59_14, e59_17, e59_19, e59_22, e59_24, e59_25, e59_26, e59_29, e59_32, e59_34, e59_37, e59_39, e59_40, e59_41, e59_44, e59_47, e59_48, e59_49, e59_50, e59_53, e59_54, e59_57, e59_60, e59_61, e59_62, e162_0, e162_1, e162_4, e162_7, e162_8, e162_11, e162_12, e162_13, e162_15, e162_18, e162_20, e162_21, e162_22, e162_25, e162_27, e162_30, e162_32, e162_33, e162_34, e162_37, e162_38, e162_39, e162_42, e162_45, zpush_some, zpush_none, true_or, or_true, true_and, and_true, ↓reduceIte, zq_ite, zq_itel, zo_3, zr_3_5, zo_14, zo_62, XC_m hX, MK_m hK, e0, XC_t hX, h99, show nI 99 = (99 : Int32) from rfl, e1, zr_62_16, zn_70, zl_70, zi_0, zt_0, Nat.reduceLT, decide_true, MC_t hM, not_true_eq_false]
      exact ⟨same_i, h⟩
    · have e1 : (nI (rep K m s0 D).2.2.2.2.1 < 99) = True := (nI_ltN (b := 99) (by omega) (by decide)).trans (eq_true (by omega))
      have e2 : (nI (rep K m s0 D).2.2.2.2.1 = 99) = False := (nI_eqN (b := 99) (by omega) (by decide)).trans (eq_false h99)
      have hD := hds.1
      by_cases hD4 : D.length = 40
      · have e3 : ((40 : Int32) < 40) = False := eq_false (by decide)
        have e4 : nI D.length = 40 := by rw [hD4]; rfl
        simp only [e59_0, e59_1, e59_4, e59_7, e59_10, e59_11, e59_14, e59_17, e59_19, e59_22, e59_24, e59_25, e59_26, e59_29, e59_32, e59_34, e59_37, e59_39, e59_40, e59_41, e59_44, e59_47, e59_48, e59_49, e59_50, e59_53, e59_54, e59_57, e59_60, e59_61, e59_62, e162_0, e162_1, e162_4, e162_7, e162_8, e162_11, e162_12, e162_13, e162_15, e162_18, e162_20, e162_21, e162_22, e162_25, e162_27, e162_30, e162_32, e162_33, e162_34, e162_37, e162_38, e162_39, e162_42, e162_45, zpush_some, zpush_none, true_or, or_true, true_and, and_true, ↓reduceIte, zq_ite, zq_itel, zo_3, zr_3_5, zo_14, zo_62, XC_m hX, MK_m hK, e0, XC_t hX, e1, e2, zr_3_2, Sz_6.1, hds.2.1, e3, e4, hn, zr_62_16, zn_70, zl_70, zi_0, zt_0, Nat.reduceLT, decide_true, MC_t hM, not_true_eq_false, not_false_eq_true]
        exact ⟨same_i, h⟩
      · have e3 : (nI D.length < 40) = True := (nI_ltN (b := 40) (by omega) (by decide)).trans (eq_true (by omega))
        have e4 : (nI D.length = 40) = False := (nI_eqN (b := 40) (by omega) (by decide)).trans (eq_false hD4)
        simp only [e59_0, e59_1, e59_4, e59_7, e59_10, e59_11, e59_14, e59_17, e59_19, e59_22, e59_24, e59_25, e59_26, e59_29, e59_32, e59_34, e59_37, e59_39, e59_40, e59_41, e59_44, e59_47, e59_48, e59_49, e59_50, e59_53, e59_54, e59_57, e59_60, e59_61, e59_62, zpush_some, zpush_none, true_or, or_true, true_and, and_true, ↓reduceIte, zq_ite, zq_itel, zo_3, zr_3_5, zo_14, XC_m hX, e0, XC_t hX, e1, zr_3_2, Sz_6.1, hds.2.1, e3, XC_h hX]
        refine t_X_perform (c := 0) hX (by omega) hds (by omega) (Or.inl rfl) (fun I1 L1 x1 x2 x3 x4 => ?_)
        have r : do1 K m (rep K m s0 D) 0 = stp K m (rep K m s0 D) := by unfold do1; rw [if_neg (by omega), if_neg (by omega), if_pos (by omega)]
        have hn1 : I1 62 18 = nI D.length := by rw [x3 62 18 (by decide) (by decide) (by decide)]; exact hn
        have hm1 : I1 62 14 = nI m := by rw [x3 62 14 (by decide) (by decide) (by decide)]; exact MK_m hK
        have ht1 : I1 70 0 = nI (rep K m s0 D).2.2.2.2.1 := by rw [x3 70 0 (by decide) (by decide) (by decide)]; exact MC_t hM
        have hh : I1 14 7 = nI (rep K m s0 D).2.2.2.2.2 + nI (cnt (rep K m s0 D).1 (wvs K (rep K m s0 D)) (bt (rep K m s0 D).2.2.2.1) m) := by
          rw [XC_h x1, r, i_tk]; rfl
        simp only [e59_0, e59_1, e59_4, e59_7, e59_10, e59_11, e59_14, e59_17, e59_19, e59_22, e59_24, e59_25, e59_26, e59_29, e59_32, e59_34, e59_37, e59_39, e59_40, e59_41, e59_44, e59_47, e59_48, e59_49, e59_50, e59_53, e59_54, e59_57, e59_60, e59_61, e59_62, e162_0, e162_1, e162_4, e162_7, e162_8, e162_11, e162_12, e162_13, e162_15, e162_18, e162_20, e162_21, e162_22, e162_25, e162_27, e162_30, e162_32, e162_33, e162_34, e162_37, e162_38, e162_39, e162_42, e162_45, zpush_some, zpush_none, true_or, or_true, true_and, and_true, ↓reduceIte, zq_ite, zq_itel, zo_3, zr_3_5, zo_14, zo_62, hh, add_sub_l, hm1, e0, zr_62_16, zn_70, zl_70, zi_0, zt_0, Nat.reduceLT, decide_true, ht1, e2, hn1, e4, not_false_eq_true]
        refine s_M_note hn1 (by omega) (fun I2 y1 y2 y3 y4 => ?_)
        simp only [e162_0, e162_1, e162_4, e162_7, e162_8, e162_11, e162_12, e162_13, e162_15, e162_18, e162_20, e162_21, e162_22, e162_25, e162_27, e162_30, e162_32, e162_33, e162_34, e162_37, e162_38, e162_39, e162_42, e162_45, zpush_some, zpush_none, true_or, or_true, true_and, and_true, ↓reduceIte, zq_ite, zq_itel, zo_62, zr_62_16, zn_70]
        have hM2 : MC I2 70 m (rep K m s0 D) := MC_eq hM (fun j => by rw [y1 70 j (by decide) (by omega), x3 70 j (by decide) (by decide) (by decide)])
        have hK2 : MK I2 m K := by
          obtain ⟨K', e, k1, k2, k3⟩ := hK
          exact ⟨K', e, by rw [y1 62 14 (by decide) (by decide), hm1], k2, fun i hi => by rw [y1 69 i (by decide) (by omega), x3 69 i (by decide) (by decide) (by decide)]; exact k3 i hi⟩
        refine t_M_steps hM2 hK2 Ma_70 (by decide) (by omega) (fun I3 w1 w2 w3 => ?_)
        simp only [e162_0, e162_1, e162_4, e162_7, e162_8, e162_11, e162_12, e162_13, e162_15, e162_18, e162_20, e162_21, e162_22, e162_25, e162_27, e162_30, e162_32, e162_33, e162_34, e162_37, e162_38, e162_39, e162_42, e162_45, zpush_some, zpush_none, true_or, or_true, true_and, and_true, ↓reduceIte, zq_ite, zq_itel]
        have hI : ∀ k j, k ≠ 6 → k ≠ 7 → (k < 14 ∨ 18 < k) → (k ≠ 62 ∨ j ≠ 18) → k ≠ 70 → k ≠ 71 → k ≠ 76 → k ≠ 77 → I3 k j = I k j := fun k j a1 a2 a3 a4 a5 a6 a7 a8 => by
          rw [w2 k j a5 a7 a8, y1 k j a6 a4, x3 k j a1 a2 a3]
        refine ⟨same_i, inv_cube h ⟨m, K, s0, D ++ [0], kp, ICs_do hcs (Or.inl rfl) (DS_eq x2 ?_ (fun j => ?_)) (XC_eq x1 (fun k' j a b _ => ?_) rfl) (by rw [r]; exact w1) ?_ ?_ (fun j hj => ?_) (fun k j cc a1 a2 a3 a4 a5 a6 => hI k j a1 a2 a3 a4 a5 a6 (by unfold cubeCell at cc; omega) (by unfold cubeCell at cc; omega)) (x4 9 5 (by decide))⟩ (fun k j hk => hI k j (by omega) (by omega) (by omega) (by omega) (by omega) (by omega) (by omega) (by omega)) (fun k j hk => x4 k j (by omega))⟩
        · rw [w2 6 1 (by decide) (by decide) (by decide), y1 6 1 (by decide) (by decide)]
        · rw [w2 7 j (by decide) (by decide) (by decide), y1 7 j (by decide) (by omega)]
        · rw [w2 k' j (by omega) (by omega) (by omega), y1 k' j (by omega) (by omega)]
        · rw [w2 62 18 (by decide) (by decide) (by decide), y4]
        · refine MCo_cpy (MCo_0.mpr hM) (fun j hj => ?_)
          rw [w2 71 _ (by decide) (by decide) (by decide), y3 j hj, x3 70 _ (by decide) (by decide) (by decide)]
        · rw [w2 71 j (by decide) (by decide) (by decide), y2 j hj, x3 71 j (by decide) (by decide) (by decide)]
end
