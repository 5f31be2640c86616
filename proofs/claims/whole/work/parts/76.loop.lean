/-! THE LAW'S LOOP, ITS START -/
section
variable {n e : Nat} {I : zi} {L : zl}
theorem law_switch {i j : Nat} {Q : zq} (h : Inv I L) (h1 : ∀ j, j < 6 → I 1 j = zKL6 j) (h2 : ∀ j, j < 4 → I 2 j = zLE4 j) (hi : i + 6 ≤ n) (hn : n ≤ 3072) (hj : j < 64) (nx : ∀ I2 L2, Inv I2 L2 → (∀ k, k < 3 → ∀ j, I2 k j = I k j) → zV n (e + 9) 212 1375 [.ref 0, .ref 3, .ref 62, .int (nI i)] [] I2 L2 Q) : zV n (e + 9) 212 33 [.ref 0, .ref 3, .ref 62, .int (nI i)] [.int (nI j)] I L Q := by
  rcases (show j = 0 ∨ j = 1 ∨ j = 2 ∨ j = 3 ∨ j = 4 ∨ j = 5 ∨ j = 6 ∨ j = 7 ∨ j = 8 ∨ j = 9 ∨ j = 10 ∨ j = 11 ∨ j = 12 ∨ j = 13 ∨ j = 14 ∨ j = 15 ∨ j = 16 ∨ j = 17 ∨ j = 18 ∨ j = 19 ∨ j = 20 ∨ j = 21 ∨ j = 22 ∨ j = 23 ∨ j = 24 ∨ j = 25 ∨ j = 26 ∨ j = 27 ∨ j = 28 ∨ j = 29 ∨ j = 30 ∨ j = 31 ∨ j = 32 ∨ j = 33 ∨ j = 34 ∨ j = 35 ∨ j = 36 ∨ j = 37 ∨ j = 38 ∨ j = 39 ∨ j = 40 ∨ j = 41 ∨ 42 ≤ j by omega) with rfl | rfl | rfl | rfl | rfl | rfl | rfl | rfl | rfl | rfl | rfl | rfl | rfl | rfl | rfl | rfl | rfl | rfl | rfl | rfl | rfl | rfl | rfl | rfl | rfl | rfl | rfl | rfl | rfl | rfl | rfl | rfl | rfl | rfl | rfl | rfl | rfl | rfl | rfl | rfl | rfl | rfl | h42
  · simp only [show nI 0 = (0 : Int32) from rfl, e212_33_0]
    exact w_row h h1 h2 (by omega) hn nx
  · simp only [show nI 1 = (1 : Int32) from rfl, e212_33_1]
    exact w_lay h h1 h2 (by omega) hn nx
  · simp only [show nI 2 = (2 : Int32) from rfl, e212_33_2]
    exact w_at h h1 h2 (by omega) hn nx
  · simp only [show nI 3 = (3 : Int32) from rfl, e212_33_3]
    exact w_tear h h1 h2 (by omega) hn nx
  · simp only [show nI 4 = (4 : Int32) from rfl, e212_33_4]
    exact w_copy h h1 h2 (by omega) hn nx
  · simp only [show nI 5 = (5 : Int32) from rfl, e212_33_5]
    exact w_mean h h1 h2 (by omega) hn nx
  · simp only [show nI 6 = (6 : Int32) from rfl, e212_33_6]
    exact w_text h h1 h2 (by omega) hn nx
  · simp only [show nI 7 = (7 : Int32) from rfl, e212_33_7]
    exact w_put h h1 h2 (by omega) hn nx
  · simp only [show nI 8 = (8 : Int32) from rfl, e212_33_8]
    exact w_fault h h1 h2 (by omega) hn nx
  · simp only [show nI 9 = (9 : Int32) from rfl, e212_33_9]
    exact w_cube h h1 h2 (by omega) hn nx
  · simp only [show nI 10 = (10 : Int32) from rfl, e212_33_10]
    exact w_message h h1 h2 (by omega) hn nx
  · simp only [show nI 11 = (11 : Int32) from rfl, e212_33_11]
    exact w_mark h h1 h2 (by omega) hn nx
  · simp only [show nI 12 = (12 : Int32) from rfl, e212_33_12]
    exact w_link h h1 h2 (by omega) hn nx
  · simp only [show nI 13 = (13 : Int32) from rfl, e212_33_13]
    exact w_step h h1 h2 (by omega) hn nx
  · simp only [show nI 14 = (14 : Int32) from rfl, e212_33_14]
    exact w_snap h h1 h2 (by omega) hn nx
  · simp only [show nI 15 = (15 : Int32) from rfl, e212_33_15]
    exact w_mend h h1 h2 (by omega) hn nx
  · simp only [show nI 16 = (16 : Int32) from rfl, e212_33_16]
    exact w_aim h h1 h2 (by omega) hn nx
  · simp only [show nI 17 = (17 : Int32) from rfl, e212_33_17]
    exact w_undo h h1 h2 (by omega) hn nx
  · simp only [show nI 18 = (18 : Int32) from rfl, e212_33_18]
    exact w_keep h h1 h2 (by omega) hn nx
  · simp only [show nI 19 = (19 : Int32) from rfl, e212_33_19]
    exact w_on h h1 h2 (by omega) hn nx
  · simp only [show nI 20 = (20 : Int32) from rfl, e212_33_20]
    exact w_later h h1 h2 (by omega) hn nx
  · simp only [show nI 21 = (21 : Int32) from rfl, e212_33_21]
    exact w_arrives h h1 h2 (by omega) hn nx
  · simp only [show nI 22 = (22 : Int32) from rfl, e212_33_22]
    exact w_all h h1 h2 (by omega) hn nx
  · simp only [show nI 23 = (23 : Int32) from rfl, e212_33_23]
    exact w_tight h h1 h2 (by omega) hn nx
  · simp only [show nI 24 = (24 : Int32) from rfl, e212_33_24]
    exact w_far h h1 h2 (by omega) hn nx
  · simp only [show nI 25 = (25 : Int32) from rfl, e212_33_25]
    exact w_reach h h1 h2 (by omega) hn nx
  · simp only [show nI 26 = (26 : Int32) from rfl, e212_33_26]
    exact w_parts h h1 h2 (by omega) hn nx
  · simp only [show nI 27 = (27 : Int32) from rfl, e212_33_27]
    exact w_hurts h h1 h2 (by omega) hn nx
  · simp only [show nI 28 = (28 : Int32) from rfl, e212_33_28]
    exact w_goals h h1 h2 (by omega) hn nx
  · simp only [show nI 29 = (29 : Int32) from rfl, e212_33_29]
    exact w_kinds h h1 h2 (by omega) hn nx
  · simp only [show nI 30 = (30 : Int32) from rfl, e212_33_30]
    exact w_test h h1 h2 (by omega) hn nx
  · simp only [show nI 31 = (31 : Int32) from rfl, e212_33_31]
    exact w_duel h h1 h2 (by omega) hn nx
  · simp only [show nI 32 = (32 : Int32) from rfl, e212_33_32]
    exact w_odds h h1 h2 (by omega) hn nx
  · simp only [show nI 33 = (33 : Int32) from rfl, e212_33_33]
    exact w_mid h h1 h2 (by omega) hn nx
  · simp only [show nI 34 = (34 : Int32) from rfl, e212_33_34]
    exact w_lots h h1 h2 (by omega) hn nx
  · simp only [show nI 35 = (35 : Int32) from rfl, e212_33_35]
    exact w_asked h h1 h2 (by omega) hn nx
  · simp only [show nI 36 = (36 : Int32) from rfl, e212_33_36]
    exact w_upper h h1 h2 (by omega) hn nx
  · simp only [show nI 37 = (37 : Int32) from rfl, e212_33_37]
    exact w_lower h h1 h2 (by omega) hn nx
  · simp only [show nI 38 = (38 : Int32) from rfl, e212_33_38]
    exact w_count h h1 h2 (by omega) hn nx
  · simp only [show nI 39 = (39 : Int32) from rfl, e212_33_39]
    exact w_finding h h1 h2 (by omega) hn nx
  · simp only [show nI 40 = (40 : Int32) from rfl, e212_33_40]
    exact w_findings h h1 h2 (by omega) hn nx
  · simp only [show nI 41 = (41 : Int32) from rfl, e212_33_41]
    exact w_digest h h1 h2 (by omega) hn nx
  · have d1 : (nI j).toInt < 0 ∨ 41 < (nI j).toInt := by
      rw [nI_toInt (by omega)]
      omega
    rw [e212_33_d d1]
    exact nx I L h (fun _ _ _ => rfl)
theorem law_loop (hn : n ≤ 3072) : ∀ r i (I : zi) (L : zl), n ≤ i + r → i ≤ n + 6 → Inv I L → (∀ j, j < 6 → I 1 j = zKL6 j) → (∀ j, j < 4 → I 2 j = zLE4 j) → zV n (e + 9) 212 18 [.ref 0, .ref 3, .ref 62, .int (nI i)] [] I L (fun v _ _ => v = some (.int 1)) := by
  intro r
  induction r with
  | zero =>
    intro i I L h0 h3 h h1 h2
    have g : (nI n - 6 < nI i) = True := eq_true (by
      rw [Int32.lt_iff_toInt_lt, show (6 : Int32) = nI 6 from rfl, subI (by omega) (by decide), nI_toInt (by omega)]
      omega)
    simp only [e212_18, e212_19, e212_20, e212_21, e212_23, e212_24, e212_1381, e212_1382, zpush_some, zpush_none, true_or, or_true, true_and, and_true, ↓reduceIte, zq_ite, zq_itel, g]
  | succ r ih =>
    intro i I L h0 h3 h h1 h2
    by_cases hi : i + 6 ≤ n
    · have g : (nI n - 6 < nI i) = False := eq_false (by
        rw [Int32.lt_iff_toInt_lt, show (6 : Int32) = nI 6 from rfl, subI (by omega) (by decide), nI_toInt (by omega)]
        omega)
      have z0 : zin (nI i) n = true := zin_ok (by omega) (by omega)
      have c0 : (nI i).toNatClampNeg = i := nI_clamp (by omega)
      obtain ⟨j, hj, ej⟩ := pk_andE (I 0 i) (m := 63) 6 (by decide)
      simp only [e212_18, e212_19, e212_20, e212_21, e212_23, e212_24, e212_27, e212_28, e212_29, e212_30, e212_32, zpush_some, zpush_none, true_or, or_true, true_and, and_true, ↓reduceIte, zq_ite, zq_itel, g, z0, c0, ej]
      refine law_switch h h1 h2 hi hn hj (fun I2 L2 hI hf => ?_)
      simp only [e212_1375, e212_1375a, e212_1378, nI_6]
      exact ih (i + 6) I2 L2 (by omega) (by omega) hI (fun j hj => by rw [hf 1 (by decide)]; exact h1 j hj) (fun j hj => by rw [hf 2 (by decide)]; exact h2 j hj)
    · have g : (nI n - 6 < nI i) = True := eq_true (by
        rw [Int32.lt_iff_toInt_lt, show (6 : Int32) = nI 6 from rfl, subI (by omega) (by decide), nI_toInt (by omega)]
        omega)
      simp only [e212_18, e212_19, e212_20, e212_21, e212_23, e212_24, e212_1381, e212_1382, zpush_some, zpush_none, true_or, or_true, true_and, and_true, ↓reduceIte, zq_ite, zq_itel, g]
theorem inv_start (h : zInit I L) : Inv I L := by
  have a : ∀ k j, 3 ≤ k → k < 83 → j < 32 → I k j = zI1 k j := fun k j h1 h2 h3 => (h k j h1 h2).1 h3
  have b : ∀ k j, 3 ≤ k → k < 83 → j < 16 → L k j = zL1 k j := fun k j h1 h2 h3 => (h k j h1 h2).2 h3
  have z0 : ∀ k j, 3 ≤ k → k < 83 → j < 32 → k ≠ 63 → k ≠ 65 → k ≠ 74 → (j ≠ 1 ∨ k < 36 ∨ 61 < k) → I k j = 0 := fun k j h1 h2 h3 h4 h5 h6 h7 => by
    rw [a k j h1 h2 h3]
    unfold zI1
    by_cases g : k = 62
    · rw [if_pos g]
    · rw [if_neg g, if_neg (by omega), if_neg (by omega)]
  have zm : ∀ r, r < 13 → I (36 + 2 * r) 1 = -1 := fun r hr => by
    rw [a _ 1 (by omega) (by omega) (by decide)]
    unfold zI1
    rw [if_neg (by omega), if_neg (by omega), if_pos (by omega)]
  have z63 : ∀ j, j < 6 → I 63 j = -1 := fun j hj => by
    rw [a 63 j (by decide) (by decide) (by omega)]
    unfold zI1
    rw [if_neg (by omega), if_pos (by omega)]
  have z65 : ∀ j, j < 4 → I 65 j = -1 := fun j hj => by
    rw [a 65 j (by decide) (by decide) (by omega)]
    unfold zI1
    rw [if_neg (by omega), if_pos (by omega)]
  have z74 : ∀ j, j < 3 → I 74 j = -1 := fun j hj => by
    rw [a 74 j (by decide) (by decide) (by omega)]
    unfold zI1
    rw [if_neg (by omega), if_pos (by omega)]
  have hx : ∀ k, (k = 9 ∨ k = 14) → XC I L k 0 (fun _ => 0) (fun _ => 0, fun _ => 0, fun _ => 4, 0, 0, 0) := fun k hk => by
    refine ⟨fun _ => 0, (fun _ => 0, fun _ => 0, fun _ => 4, 0, 0, 0), eqm.rf, eqs.rf, ⟨z0 k 4 (by omega) (by omega) (by decide) (by omega) (by omega) (by omega) (by omega), by decide⟩, fun c hc w hw => ?_, z0 k 6 (by omega) (by omega) (by decide) (by omega) (by omega) (by omega) (by omega), z0 k 7 (by omega) (by omega) (by decide) (by omega) (by omega) (by omega) (by omega), fun i hi => absurd hi (Nat.not_lt_zero i)⟩
    have e5 : L k 5 = 0 := by
      rw [b k 5 (by omega) (by omega) (by decide)]
      exact if_neg (by omega)
    rw [e5, bl_0]
    exact (b_0 _).symm
  refine ⟨⟨?_, fun f f1 f2 => ?_, ?_, ?_, ?_⟩, fun r hr => ?_, fun r hr => ?_, 0, fun _ => 0, (fun _ => 0, fun _ => 0, fun _ => 4, 0, 0, 0), [], fun _ => none, by decide, fun i hi => absurd hi (Nat.not_lt_zero i), rfl, trivial, fun c hc => absurd hc (by simp), hx 9 (Or.inl rfl), hx 14 (Or.inr rfl), ⟨by decide, z0 6 1 (by decide) (by decide) (by decide) (by decide) (by decide) (by decide) (by decide), fun j hj => absurd hj (Nat.not_lt_zero j)⟩, ⟨fun _ => 0, eqm.rf, z0 62 14 (by decide) (by decide) (by decide) (by decide) (by decide) (by decide) (by decide), by decide, fun i hi => ⟨z0 69 i (by decide) (by decide) (by omega) (by decide) (by decide) (by decide) (by omega), show 0 < 6 by decide⟩⟩, ⟨(fun _ => 0, fun _ => 0, fun _ => 0, 0, 0, 0), ⟨fun i hi => absurd hi (Nat.not_lt_zero i), fun i hi => absurd hi (Nat.not_lt_zero i), fun i hi => absurd hi (Nat.not_lt_zero i), rfl⟩, z0 70 0 (by decide) (by decide) (by decide) (by decide) (by decide) (by decide) (by decide), z0 70 1 (by decide) (by decide) (by decide) (by decide) (by decide) (by decide) (by decide), z0 70 2 (by decide) (by decide) (by decide) (by decide) (by decide) (by decide) (by decide), fun i hi => ⟨⟨z0 70 (3 + i) (by decide) (by decide) (by omega) (by decide) (by decide) (by decide) (by omega), show 0 < 16 by decide⟩, ⟨z0 70 (10 + i) (by decide) (by decide) (by omega) (by decide) (by decide) (by decide) (by omega), show 0 < 16 by decide⟩, ⟨z0 70 (17 + i) (by decide) (by decide) (by omega) (by decide) (by decide) (by decide) (by omega), show 0 ≤ 4 by decide⟩⟩⟩, z0 62 18 (by decide) (by decide) (by decide) (by decide) (by decide) (by decide) (by decide), fun j hj => absurd hj (Nat.not_lt_zero j), fun q hq => ⟨?_, z74 q hq⟩⟩
  · rw [z0 3 11 (by decide) (by decide) (by decide) (by decide) (by decide) (by decide) (by decide), z0 62 4 (by decide) (by decide) (by decide) (by decide) (by decide) (by decide) (by decide)]
  · rw [z0 35 f (by decide) (by decide) (by omega) (by decide) (by decide) (by decide) (by omega), z0 67 f (by decide) (by decide) (by omega) (by decide) (by decide) (by decide) (by omega)]
  · rw [z0 3 12 (by decide) (by decide) (by decide) (by decide) (by decide) (by decide) (by decide), z0 62 6 (by decide) (by decide) (by decide) (by decide) (by decide) (by decide) (by decide)]
  · rw [b 3 13 (by decide) (by decide) (by decide), b 62 7 (by decide) (by decide) (by decide)]
    rfl
  · rw [b 3 14 (by decide) (by decide) (by decide), b 62 8 (by decide) (by decide) (by decide)]
    rfl
  · exact ⟨by rw [zm r (by omega), z63 r hr], Or.inl (z63 r hr)⟩
  · exact ⟨by rw [show 48 + 2 * r = 36 + 2 * (6 + r) by omega, zm (6 + r) (by omega), z65 r hr], Or.inl (z65 r hr)⟩
  · rw [show 56 + 2 * q = 36 + 2 * (10 + q) by omega, zm (10 + q) (by omega)]
theorem zlaw : zLaw := by
  intro n xs I L hn h0 h1 h2 hz
  have hv := law_loop (n := n) (e := 21) hn n 0 I L (by omega) (by omega) (inv_start hz) h1 h2
  exact zW_mono (zV_W hv) (fun v S' q => q)
end
