/-! UNDO, KEEP, ON -/
section
variable {n d : Nat} {I I' : zi} {L L' : zl} {Q : zq} {K K' : Nat → Nat} {s s' s0 : Cs} {k m q i a b l f : Nat} {D D' : List Nat} {c : Nat} {kp kp' : Nat → Option (List Nat)}
/-- other deeds, the start as it was -/
theorem ICs_set (h : ICs I L m K s0 D kp) (hok : ∀ c ∈ D', okd m c) (hds : DS I' 6 D') (hx : XC I' L' 14 m K (rep K m s0 D')) (hmc : MC I' 70 m (rep K m s0 D')) (hn : I' 62 18 = nI D'.length) (hdd : ∀ j, j < D'.length → MCo I' 71 (24 * j) m (rep K m s0 (D'.take j))) (hkp : ∀ q, q < 3 → KP I' m K s0 q (kp' q)) (hI : ∀ k j, ((9 ≤ k ∧ k ≤ 13) ∨ k = 69 ∨ (k = 62 ∧ j = 14)) → I' k j = I k j) (hL : L' 9 5 = L 9 5) : ICs I' L' m K s0 D' kp' := by
  obtain ⟨h1, h2, h3, h4, h5, h6, h7, h8, h9, h10, h11, h12, h13⟩ := h
  refine ⟨h1, h2, h3, trivial, hok, XC_eq h6 (fun k' j a b _ => hI _ _ (by omega)) hL, hx, hds, ?_, hmc, hn, hdd, hkp⟩
  obtain ⟨K', e, k1, k2, k3⟩ := h9
  exact ⟨K', e, by rw [hI 62 14 (by omega)]; exact k1, k2, fun i hi => by rw [hI 69 i (by omega)]; exact k3 i hi⟩
theorem ICs.kept (h : ICs I L m K s0 D kp) (hq : q < 3) : KP I m K s0 q (kp q) := by
  obtain ⟨h1, h2, h3, h4, h5, h6, h7, h8, h9, h10, h11, h12, h13⟩ := h
  exact h13 q hq
theorem ICs.deed (h : ICs I L m K s0 D kp) : (∀ c ∈ D, okd m c) ∧ ∀ j, j < D.length → MCo I 71 (24 * j) m (rep K m s0 (D.take j)) := by
  obtain ⟨h1, h2, h3, h4, h5, h6, h7, h8, h9, h10, h11, h12, h13⟩ := h
  exact ⟨h5, h12⟩
theorem ICs.start (h : ICs I L m K s0 D kp) : XC I L 9 m K s0 ∧ s0.2.2.2.2.1 ≤ 99 := by
  obtain ⟨h1, h2, h3, h4, h5, h6, h7, h8, h9, h10, h11, h12, h13⟩ := h
  exact ⟨h6, by rw [h3]; exact Nat.zero_le _⟩
theorem KP_fr {D : Option (List Nat)} (hq : q < 3) (h : KP I m K s0 q D) (hI : ∀ k j, ((56 ≤ k ∧ k ≤ 61) ∨ (72 ≤ k ∧ k ≤ 74)) → I' k j = I k j) : KP I' m K s0 q D := by
  cases D with
  | none => exact ⟨by rw [hI _ _ (by omega)]; exact h.1, by rw [hI _ _ (by omega)]; exact h.2⟩
  | some D =>
    obtain ⟨h1, h2, h3, h4, h5⟩ := h
    exact ⟨DS_eq h1 (hI _ _ (by omega)) (fun j => hI _ _ (by omega)), h2, by rw [hI _ _ (by omega)]; exact h3, MCo_eq h4 (fun j => hI _ _ (by omega)), fun j hj => MCo_eq (h5 j hj) (fun j => hI _ _ (by omega))⟩
theorem s_S_shorten6 (hn : I 6 1 = nI l) (hl : l ≤ 40) (hq : q ≤ l) : zV n d 71 0 [.ref 6, .int (nI q)] [] I L Q ↔ Q none (zup I 6 1 (nI q)) L := by
  have e1 : (if nI l < nI q then nI l else nI q) = nI q := if_neg (nI_nlt hq (by omega))
  have e2 : (if (0 : Int32) < nI q then nI q else 0) = nI q := by
    by_cases g : q = 0
    · subst g; rfl
    · exact if_pos (nI_lt (a := 0) (by omega) (by omega))
  simp only [e71_0, e71_1, e71_2, e71_3, e71_4, e71_7, e71_10, e71_13, e71_16, zpush_some, zpush_none, true_or, or_true, true_and, and_true, ↓reduceIte, zq_ite, zq_itel, Sz_6.1, hn, e1, e2]
theorem DS_take (h : DS I 6 D) (hq : q ≤ D.length) (h1 : I' 6 1 = nI q) (h2 : ∀ j, I' 7 j = I 7 j) : DS I' 6 (D.take q) := by
  have e : (D.take q).length = q := by rw [List.length_take]; omega
  refine ⟨by rw [e]; exact Nat.le_trans hq h.1, by rw [e]; exact h1, fun j hj => ?_⟩
  rw [e] at hj
  rw [h2, h.2.2 j (by omega), List.getD_eq_getElem?_getD, List.getD_eq_getElem?_getD, List.getElem?_take_of_lt hj]
theorem p_undo (h : Inv I L) (w : Int32) : zV n (d + 6) 70 0 [.ref 3, .int w, .null] [] I L (fun v1 I1 L1 => zV n (d + 6) 169 0 [.ref 62, .int w, .null] [] I1 L1 (fun v2 I2 L2 => same v1 v2 ∧ Inv I2 L2)) := by
  obtain ⟨m, K, s0, D, kp, hcs⟩ := h.apart
  obtain ⟨hX, hM, hK, ht, hds, hn, hm, hok⟩ := hcs.now
  have hz := Qa_z (k := 14) (Or.inr (Or.inl rfl))
  have hD := hds.1
  rcases rng w D.length (by omega) rfl rfl with h1 | ⟨h1, h2, h3⟩ | ⟨q, hq, rfl, h1, h2, h3⟩
  · simp only [e70_0, e70_1, e70_4, e70_5, e70_6, e70_9, e70_12, e70_15, e70_16, e70_17, e70_18, e70_21, e70_24, e70_25, e70_26, e70_27, e70_28, e70_31, e70_32, e70_35, e70_36, e70_39, e70_40, e169_0, e169_1, e169_2, e169_3, e169_6, e169_9, e169_12, e169_13, e169_14, e169_15, e169_18, e169_19, e169_20, e169_21, e169_22, e169_25, e169_26, e169_29, e169_31, e169_32, e169_33, e169_34, e169_37, e169_38, e169_40, e169_43, e169_44, e169_45, e169_48, e169_49, zpush_some, zpush_none, true_or, or_true, true_and, and_true, ↓reduceIte, zq_ite, zq_itel, zo_62, s_M_in, hn, h1, not_true_eq_false]
    exact ⟨same_i, h⟩
  · have h4 : (w ≤ nI D.length) = False := eq_false (by rw [Int32.not_le]; exact of_eq_true h3)
    simp only [e70_0, e70_1, e70_4, e70_5, e70_6, e70_9, e70_12, e70_15, e70_16, e70_17, e70_18, e70_21, e70_24, e70_25, e70_26, e70_27, e70_28, e70_31, e70_32, e70_35, e70_36, e70_39, e70_40, e169_0, e169_1, e169_2, e169_3, e169_6, e169_9, e169_12, e169_13, e169_14, e169_15, e169_18, e169_19, e169_20, e169_21, e169_22, e169_25, e169_26, e169_29, e169_31, e169_32, e169_33, e169_34, e169_37, e169_38, e169_40, e169_43, e169_44, e169_45, e169_48, e169_49, zpush_some, zpush_none, true_or, or_true, true_and, and_true, ↓reduceIte, zq_ite, zq_itel, zo_3, zr_3_2, Sz_6.1, hds.2.1, zo_62, s_M_in, hn, h1, h3, h4, not_true_eq_false]
    exact ⟨same_i, h⟩
  · have h4 : (nI q ≤ nI D.length) = True := (nI_leN (by omega) (by omega)).trans (eq_true (by omega))
    have e1 : nI D.length - nI q = nI (D.length - q) := pk_sub (by omega)
    have hok' : ∀ c ∈ D.take q, okd m c := fun c hc => hcs.deed.1 c (List.mem_of_mem_take hc)
    have hlen : (D.take q).length = q := by rw [List.length_take]; omega
    simp only [e70_0, e70_1, e70_4, e70_5, e70_6, e70_9, e70_12, e70_15, e70_16, e70_17, e70_18, e70_21, e70_24, e70_25, e70_26, e70_27, e70_28, e70_31, e70_32, e70_35, e70_36, e70_39, e70_40, zpush_some, zpush_none, true_or, or_true, true_and, and_true, ↓reduceIte, zq_ite, zq_itel, zo_3, zr_3_2, Sz_6.1, hds.2.1, h1, h4, e1, s_S_shorten6 hds.2.1 hD (show q ≤ D.length by omega)]
    have hds1 : DS (zup I 6 1 (nI q)) 6 (D.take q) := DS_take hds (by omega) zup_eq (fun j => zup_ne (by decide))
    refine t_X_replay (XC_eq hcs.start.1 (fun k' j a b _ => zup_ne (by omega)) rfl) hok' hcs.start.2 hds1 (fun I1 L1 x1 x2 x3 => ?_)
    have hn1 : I1 62 18 = nI D.length := by rw [x2 62 18 (by decide), zup_ne (by decide)]; exact hn
    by_cases hg : q = D.length
    · have e2 : ((nI (D.length - q)) ≤ 0) = True := eq_true (by rw [hg, Nat.sub_self]; decide)
      simp only [e70_0, e70_1, e70_4, e70_5, e70_6, e70_9, e70_12, e70_15, e70_16, e70_17, e70_18, e70_21, e70_24, e70_25, e70_26, e70_27, e70_28, e70_31, e70_32, e70_35, e70_36, e70_39, e70_40, e169_0, e169_1, e169_2, e169_3, e169_6, e169_9, e169_12, e169_13, e169_14, e169_15, e169_18, e169_19, e169_20, e169_21, e169_22, e169_25, e169_26, e169_29, e169_31, e169_32, e169_33, e169_34, e169_37, e169_38, e169_40, e169_43, e169_44, e169_45, e169_48, e169_49, zpush_some, zpush_none, true_or, or_true, true_and, and_true, ↓reduceIte, zq_ite, zq_itel, zo_62, s_M_in, hn1, h1, h3, zz_1, not_false_eq_true, e1, e2]
      have hI : ∀ k j, (k ≠ 6 ∨ j ≠ 1) → (k < 14 ∨ 18 < k) → (k ≠ 62 ∨ j ≠ 18) → zup I1 62 18 (nI q) k j = I k j := fun k j a1 a2 a3 => by
        have : zup I1 62 18 (nI q) k j = I1 k j := by
          rcases a3 with g | g
          · exact zup_ne g
          · exact zup_nj g
        rw [this, x2 k j a2]
        rcases a1 with g | g
        · exact zup_ne g
        · exact zup_nj g
      refine ⟨same_i, inv_cube h ⟨m, K, s0, D.take q, kp, ICs_set hcs hok' (DS_eq hds1 ?_ (fun j => ?_)) (XC_eq x1 (fun k' j a b _ => zup_ne (by omega)) rfl) ?_ (by rw [hlen]; exact zup_eq) (fun j hj => ?_) (fun q' hq' => KP_fr hq' (hcs.kept hq') (fun k j cc => hI k j (by omega) (by omega) (by omega))) (fun k j hk => hI k j (by omega) (by omega) (by omega)) (x3 9 5 (by decide))⟩ (fun k j hk => hI k j (by omega) (by omega) (by omega)) (fun k j hk => x3 k j (by omega))⟩
      · rw [zup_ne (by decide), x2 6 1 (by decide)]
      · rw [zup_ne (by decide), x2 7 j (by decide)]
      · rw [hg, List.take_length]
        exact MC_eq hM (fun j => hI 70 j (by omega) (by decide) (by omega))
      · rw [hlen] at hj
        rw [List.take_take, Nat.min_eq_left (by omega)]
        exact MCo_eq (hcs.deed.2 j (by omega)) (fun i => hI 71 i (by omega) (by decide) (by omega))
    · have e2 : ((nI (D.length - q)) ≤ 0) = False := (nI_leN (b := 0) (by omega) (by decide)).trans (eq_false (by omega))
      have e3 : (24 : Int32) * nI q = nI (24 * q) := pk_mul 24 q
      simp only [e70_0, e70_1, e70_4, e70_5, e70_6, e70_9, e70_12, e70_15, e70_16, e70_17, e70_18, e70_21, e70_24, e70_25, e70_26, e70_27, e70_28, e70_31, e70_32, e70_35, e70_36, e70_39, e70_40, e169_0, e169_1, e169_2, e169_3, e169_6, e169_9, e169_12, e169_13, e169_14, e169_15, e169_18, e169_19, e169_20, e169_21, e169_22, e169_25, e169_26, e169_29, e169_31, e169_32, e169_33, e169_34, e169_37, e169_38, e169_40, e169_43, e169_44, e169_45, e169_48, e169_49, zpush_some, zpush_none, true_or, or_true, true_and, and_true, ↓reduceIte, zq_ite, zq_itel, zo_62, s_M_in, hn1, h1, h3, zz_1, not_false_eq_true, e1, e2, zr_62_16, zr_62_17, zn_70, zn_71, e3]
      refine s_M_bring (o := 24 * q) (p := 0) (N := 24) ⟨zn_71, zn_70, zw_70⟩ (by decide) (by rw [zl_71]; omega) (by rw [zl_70]; decide) (by rw [zl_71]; decide) (by rw [zl_70]; decide) (fun I2 y1 y2 => ?_)
      simp only [e169_0, e169_1, e169_2, e169_3, e169_6, e169_9, e169_12, e169_13, e169_14, e169_15, e169_18, e169_19, e169_20, e169_21, e169_22, e169_25, e169_26, e169_29, e169_31, e169_32, e169_33, e169_34, e169_37, e169_38, e169_40, e169_43, e169_44, e169_45, e169_48, e169_49, zpush_some, zpush_none, true_or, or_true, true_and, and_true, ↓reduceIte, zq_ite, zq_itel, zo_62]
      have hI : ∀ k j, (k ≠ 6 ∨ j ≠ 1) → (k < 14 ∨ 18 < k) → (k ≠ 62 ∨ j ≠ 18) → k ≠ 70 → zup I2 62 18 (nI q) k j = I k j := fun k j a1 a2 a3 a4 => by
        have : zup I2 62 18 (nI q) k j = I2 k j := by
          rcases a3 with g | g
          · exact zup_ne g
          · exact zup_nj g
        rw [this, y1 k j (Or.inl a4), x2 k j a2]
        rcases a1 with g | g
        · exact zup_ne g
        · exact zup_nj g
      refine ⟨same_i, inv_cube h ⟨m, K, s0, D.take q, kp, ICs_set hcs hok' (DS_eq hds1 ?_ (fun j => ?_)) (XC_eq x1 (fun k' j a b _ => by rw [zup_ne (by omega), y1 k' j (Or.inl (by omega))]) rfl) ?_ (by rw [hlen]; exact zup_eq) (fun j hj => ?_) (fun q' hq' => KP_fr hq' (hcs.kept hq') (fun k j cc => hI k j (by omega) (by omega) (by omega) (by omega))) (fun k j hk => hI k j (by omega) (by omega) (by omega) (by omega)) (x3 9 5 (by decide))⟩ (fun k j hk => hI k j (by omega) (by omega) (by omega) (by omega)) (fun k j hk => x3 k j (by omega))⟩
      · rw [zup_ne (by decide), y1 6 1 (by decide), x2 6 1 (by decide)]
      · rw [zup_ne (by decide), y1 7 j (Or.inl (by decide)), x2 7 j (by decide)]
      · refine MCo_0.mp (MCo_cpy (hcs.deed.2 q (by omega)) (fun j hj => ?_))
        rw [zup_ne (by decide), y2 j hj, x2 71 _ (by decide), zup_ne (by decide)]
      · rw [hlen] at hj
        rw [List.take_take, Nat.min_eq_left (by omega)]
        exact MCo_eq (hcs.deed.2 j (by omega)) (fun i => hI 71 i (by omega) (by decide) (by omega) (by decide))
/-- a strip of deeds takes another -/
theorem l_S_take (hk : Sz k 40) (hf : Sz f 40) (hkf : k + 1 < f ∨ f + 1 < k) (hq : q ≤ 40) (hfs : I f 1 = nI q) (hks : I k 1 = nI q) (hQ : ∀ I', (∀ k' j, k' ≠ k + 1 → I' k' j = I k' j) → (∀ j, j < q → I' (k + 1) j = I (f + 1) j) → Q none I' L) :
    ∀ r i I', i + r = q → (∀ k' j, k' ≠ k + 1 → I' k' j = I k' j) → (∀ j, j < i → I' (k + 1) j = I (f + 1) j) → zV n (d + 2) 73 18 [.ref k, .ref f, .int (nI i)] [] I' L Q := by
  intro r
  induction r with
  | zero =>
    intro i I' hi h1 h2
    have e : i = q := by omega
    subst e
    have e1 : I' k 1 = nI i := by rw [h1 k 1 (by omega)]; exact hks
    simp only [e73_18, e73_19, e73_20, e73_23, e73_43, zpush_some, zpush_none, true_or, or_true, true_and, and_true, ↓reduceIte, zq_ite, zq_itel, hk.1, e1, Int32.le_refl]
    exact hQ I' h1 h2
  | succ r ih =>
    intro i I' hi h1 h2
    have e1 : I' k 1 = nI q := by rw [h1 k 1 (by omega)]; exact hks
    have e2 : I' f 1 = nI q := by rw [h1 f 1 (by omega)]; exact hfs
    have e3 : I' (f + 1) i = I (f + 1) i := h1 _ _ (by omega)
    have hlt : (nI q ≤ nI i) = False := eq_false (nI_ge (by omega) (by omega))
    have g1 : (nI i < 0) = False := eq_false (nI_pos (by omega))
    have z1 : zin (nI i) 40 = true := zin_ok (by omega) (by decide)
    have c1 : (nI i).toNatClampNeg = i := nI_clamp (by omega)
    simp only [e73_18, e73_19, e73_20, e73_23, e73_26, e73_27, e73_30, e73_31, e73_32, e73_33, e73_36, zpush_some, zpush_none, true_or, or_true, true_and, and_true, ↓reduceIte, zq_ite, zq_itel, hk.1, hk.2.1, hk.2.2.1, hk.2.2.2.1, hk.2.2.2.2, hf.1, e1, hlt, s_S_get_k hf e2 (show i < 40 by omega) (by decide) g1 hlt, z1, c1, e3]
    simp only [e73_37, e73_40, nI_1]
    refine ih (i + 1) _ (by omega) (fun k' j g => by rw [zup_ne g]; exact h1 k' j g) (fun j hj => ?_)
    by_cases e : j = i
    · subst e; exact zup_eq
    · rw [zup_nj e]; exact h2 j (by omega)
theorem s_S_take (hk : Sz k 40) (hf : Sz f 40) (hkf : k + 1 < f ∨ f + 1 < k) (hq : q ≤ 40) (hfs : I f 1 = nI q) (hQ : ∀ I', (∀ k' j, k' ≠ k + 1 → (k' ≠ k ∨ j ≠ 1) → I' k' j = I k' j) → I' k 1 = nI q → (∀ j, j < q → I' (k + 1) j = I (f + 1) j) → Q none I' L) : zV n (d + 2) 73 0 [.ref k, .ref f, .null] [] I L Q := by
  have e1 : (if nI 40 < nI q then nI 40 else nI q) = nI q := if_neg (nI_nlt hq (by omega))
  simp only [e73_0, e73_1, e73_2, e73_5, e73_6, e73_9, e73_9q, e73_10, e73_13, e73_16, e73_17, zpush_some, zpush_none, true_or, or_true, true_and, and_true, ↓reduceIte, zq_ite, zq_itel, hk.1, hk.2.1, hk.2.2.1, hk.2.2.2.2, hf.1, hfs, e1]
  refine l_S_take (I := zup I k 1 (nI q)) hk hf hkf hq (by rw [zup_ne (by omega)]; exact hfs) zup_eq (fun I' h1 h2 => ?_) q 0 _ (by omega) (fun _ _ _ => rfl) (fun j hj => absurd hj (by omega))
  refine hQ I' (fun k' j a b => ?_) (by rw [h1 k 1 (by omega), zup_eq]) (fun j hj => ?_)
  · rw [h1 k' j a]
    rcases b with b | b
    · exact zup_ne b
    · exact zup_nj b
  · rw [h2 j hj, zup_ne (by omega)]
end
