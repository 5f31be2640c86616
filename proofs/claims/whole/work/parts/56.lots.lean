/-! LOTS -/
def lotN (s : Nat) : Nat → Nat
  | 0 => s
  | k + 1 => lotN s k * 48271 % 2147483647
theorem lotN_lt {s : Nat} (h : s < 2147483647) : ∀ k, lotN s k < 2147483647
  | 0 => h
  | _ + 1 => Nat.mod_lt _ (by decide)
/-- a lot's deed -/
def ldd (m x : Nat) : Nat := if x % 4 = 0 then 1 + 4 * (x / 8 % 32) else if x % 4 = 1 then 2 + 4 * (16 * (x / 8 % m) + x / 64 % 16) else 0
theorem ldd_ok {m x : Nat} (hm : 0 < m) : okd m (ldd m x) := by
  unfold ldd
  split
  · exact Or.inr (Or.inl ⟨by omega, by omega⟩)
  · split
    · have := Nat.mod_lt (x / 8) hm
      exact Or.inr (Or.inr ⟨by omega, by omega⟩)
    · exact Or.inl rfl
def ldl (s m : Nat) : Nat → List Nat
  | 0 => []
  | k + 1 => ldl s m k ++ [ldd m (lotN s (k + 1))]
theorem ldl_len (s m : Nat) : ∀ k, (ldl s m k).length = k
  | 0 => rfl
  | k + 1 => by rw [ldl, List.length_append, ldl_len s m k]; rfl
theorem ldl_ok {s m : Nat} (hm : 0 < m) : ∀ k, ∀ c ∈ ldl s m k, okd m c
  | 0, c, h => absurd h (by simp [ldl])
  | k + 1, c, h => by
    rw [ldl] at h
    rcases List.mem_append.mp h with e | e
    · exact ldl_ok hm k c e
    · rw [List.mem_singleton.mp e]; exact ldd_ok hm
theorem h_lot {x : Nat} (hx : x < 2147483647) : lN x * 48271 - lN x * 48271 / 2147483647 * 2147483647 = lN (x * 48271 % 2147483647) := by
  rw [show (48271 : Int64) = lN 48271 from rfl, show (2147483647 : Int64) = lN 2147483647 from rfl, lN_mul]
  exact pk_lRem (by omega) (by decide) (by decide)
section
variable {n d : Nat} {I I' : zi} {L L' : zl} {Q : zq} {K K' : Nat → Nat} {s s' s0 : Cs} {k m q i a b l : Nat} {D : List Nat} {c : Nat} {kp : Nat → Option (List Nat)}
theorem s_X_lotDeed {x : Nat} (hx : x < 2 ^ 31) (hX : XC I L 14 m K s) (hm0 : 0 < m) : zV n (d + 1) 112 0 [.ref 3, .int (nI x), .null] [] I L Q ↔ Q (some (.int (nI (ldd m x)))) I L := by
  have hm := XC_m7 hX
  have e4 : nI x - nI x / 4 * 4 = nI (x % 4) := pk_rem (d := 4) hx (by decide) (by decide)
  have e8 : nI x / 8 = nI (x / 8) := pk_div (d := 8) hx (by decide) (by decide)
  have e64 : nI x / 64 = nI (x / 64) := pk_div (d := 64) hx (by decide) (by decide)
  have e32 : nI (x / 8) - nI (x / 8) / 32 * 32 = nI (x / 8 % 32) := pk_rem (d := 32) (by omega) (by decide) (by decide)
  have e16 : nI (x / 64) - nI (x / 64) / 16 * 16 = nI (x / 64 % 16) := pk_rem (d := 16) (by omega) (by decide) (by decide)
  have em : nI (x / 8) - nI (x / 8) / nI m * nI m = nI (x / 8 % m) := pk_rem (by omega) hm0 (by omega)
  have nm : (nI m = 0) = False := eq_false (nI_ne0 hm0 (by omega))
  have lm : (nI m ≤ 0) = False := eq_false (nI_nle hm0 (by omega))
  have hr : x % 4 < 4 := Nat.mod_lt _ (by decide)
  have z0 : (nI (x % 4) = 0) = (x % 4 = 0) := nI_z (by omega)
  have z1 : (nI (x % 4) = 1) = (x % 4 = 1) := nI_eqN (b := 1) (by omega) (by decide)
  by_cases g0 : x % 4 = 0
  · have f : ldd m x = 1 + 4 * (x / 8 % 32) := by unfold ldd; rw [if_pos g0]
    have z0 := z0.trans (eq_true g0)
    simp only [e112_0, e112_1, e112_2, e112_3, e112_4, e112_5, e112_8, e112_9, e112_11, e112_12, e112_14, e112_15, e112_18, e112_19, e112_20, e112_21, e112_24, e112_25, e112_28, e112_31, e112_34, e112_35, e112_37, e112_38, e112_39, e112_42, e112_45, e112_46, e112_47, e112_49, e112_50, e112_52, e112_53, e112_56, e112_57, e112_58, zpush_some, zpush_none, true_or, or_true, true_and, and_true, ↓reduceIte, zq_ite, zq_itel, zz_4, zz_8, zz_32, not_false_eq_true, not_true_eq_false, e4, e8, e32, z0, s_X_linkDeed, f]
  · have z0 := z0.trans (eq_false g0)
    by_cases g1 : x % 4 = 1
    · have f : ldd m x = 2 + 4 * (16 * (x / 8 % m) + x / 64 % 16) := by unfold ldd; rw [if_neg g0, if_pos g1]
      have z1 := z1.trans (eq_true g1)
      simp only [e112_0, e112_1, e112_2, e112_3, e112_4, e112_5, e112_8, e112_9, e112_11, e112_12, e112_14, e112_15, e112_18, e112_19, e112_20, e112_21, e112_24, e112_25, e112_28, e112_31, e112_34, e112_35, e112_37, e112_38, e112_39, e112_42, e112_45, e112_46, e112_47, e112_49, e112_50, e112_52, e112_53, e112_56, e112_57, e112_58, zpush_some, zpush_none, true_or, or_true, true_and, and_true, ↓reduceIte, zq_ite, zq_itel, zz_4, zz_8, zz_16, zz_64, nm, not_false_eq_true, not_true_eq_false, e4, e8, e64, e16, em, z0, z1, zo_3, zr_3_5, zo_14, XC_m hX, lm, s_X_aimDeed, f]
    · have f : ldd m x = 0 := by unfold ldd; rw [if_neg g0, if_neg g1]
      have z1 := z1.trans (eq_false g1)
      simp only [e112_0, e112_1, e112_2, e112_3, e112_4, e112_5, e112_8, e112_9, e112_11, e112_12, e112_14, e112_15, e112_18, e112_19, e112_20, e112_21, e112_24, e112_25, e112_28, e112_31, e112_34, e112_35, e112_37, e112_38, e112_39, e112_42, e112_45, e112_46, e112_47, e112_49, e112_50, e112_52, e112_53, e112_56, e112_57, e112_58, zpush_some, zpush_none, true_or, or_true, true_and, and_true, ↓reduceIte, zq_ite, zq_itel, zz_4, not_false_eq_true, e4, z0, z1, f]
      exact Iff.rfl
theorem l_X_lots {S N : Nat} {vs : Int32} (hS : S < 2147483647) (hm0 : 0 < m) (hok : ∀ c ∈ D, okd m c) (hs : s0.2.2.2.2.1 ≤ 99) (hN : D.length + N ≤ 40) (hQ : ∀ I' L', XC I' L' 14 m K (rep K m s0 (D ++ ldl S m N)) → DS I' 6 (D ++ ldl S m N) → (∀ k j, k ≠ 6 → k ≠ 7 → (k < 14 ∨ 18 < k) → I' k j = I k j) → (∀ k j, k ≠ 14 → L' k j = L k j) → Q (some (.int (nI (rep K m s0 (D ++ ldl S m N)).2.2.2.2.2))) I' L') :
    ∀ r i I' L', i + r = N → XC I' L' 14 m K (rep K m s0 (D ++ ldl S m i)) → DS I' 6 (D ++ ldl S m i) → (∀ k j, k ≠ 6 → k ≠ 7 → (k < 14 ∨ 18 < k) → I' k j = I k j) → (∀ k j, k ≠ 14 → L' k j = L k j) → zV n (d + 6) 111 61 [.ref 3, .int (nI N), .int vs, .long (lN (lotN S i)), .null, .int (nI i)] [] I' L' Q := by
  intro r
  induction r with
  | zero =>
    intro i I' L' hi hx hd h1 h2
    have e : i = N := by omega
    subst e
    simp only [e111_61, e111_63, e111_64, e111_93, e111_94, e111_97, e111_100, zpush_some, zpush_none, true_or, or_true, true_and, and_true, ↓reduceIte, zq_ite, zq_itel, Int32.le_refl, zo_3, zr_3_5, zo_14, XC_h hx]
    exact hQ I' L' hx hd h1 h2
  | succ r ih =>
    intro i I' L' hi hx hd h1 h2
    have hlt : (nI N ≤ nI i) = False := eq_false (nI_ge (by omega) (by omega))
    have hl := lotN_lt hS (i + 1)
    have n0 : ((2147483647 : Int64) = 0) = False := eq_false (by decide)
    simp only [e111_61, e111_63, e111_64, e111_67, e111_68, e111_71, e111_72, e111_75, e111_76, e111_77, e111_78, e111_79, e111_80, e111_81, e111_84, zpush_some, zpush_none, true_or, or_true, true_and, and_true, ↓reduceIte, zq_ite, zq_itel, hlt, n0, not_false_eq_true, h_lot (lotN_lt hS i), lN_i, zo_3, s_X_lotDeed (show lotN S i * 48271 % 2147483647 < 2 ^ 31 from Nat.lt_trans hl (by decide)) hx hm0]
    have hlen : (D ++ ldl S m i).length < 40 := by rw [List.length_append, ldl_len]; omega
    refine t_X_perform hx (Nat.lt_of_le_of_lt (rep_t hs) (by decide)) hd hlen (ldd_ok hm0) (fun I2 L2 x1 x2 x3 x4 => ?_)
    simp only [e111_84, e111_87, e111_90, zpush_some, zpush_none, true_or, or_true, true_and, and_true, ↓reduceIte, zq_ite, zq_itel, nI_1]
    refine ih (i + 1) I2 L2 (by omega) ?_ ?_ (fun k j a1 a2 a3 => (x3 k j a1 a2 a3).trans (h1 k j a1 a2 a3)) (fun k j a1 => (x4 k j a1).trans (h2 k j a1))
    · rw [ldl, ← List.append_assoc, rep_snoc]
      exact x1
    · rw [ldl, ← List.append_assoc]
      exact x2
/-- one lot of the check -/
theorem t_M_lot {x : Nat} (hx : x < 2 ^ 31) (hM : MC I 70 m s) (hK : MK I m K) (hm : m ≤ 7) (hm0 : 0 < m) (ht : s.2.2.2.2.1 ≤ 99) (hn : I 62 18 = nI q) (hq : q < 40) (hQ : ∀ I', MC I' 70 m (do1 K m s (ldd m x)) → (∀ k j, k ≠ 70 → k ≠ 71 → k ≠ 76 → k ≠ 77 → (k ≠ 62 ∨ j ≠ 18) → I' k j = I k j) → (∀ j, j < 24 * q → I' 71 j = I 71 j) → (∀ j, j < 24 → I' 71 (24 * q + j) = I 70 (0 + j)) → I' 62 18 = nI (q + 1) → Q none I' L) : zV n (d + 5) 201 0 [.ref 62, .int (nI x)] [] I L Q := by
  have e4 : nI x - nI x / 4 * 4 = nI (x % 4) := pk_rem (d := 4) hx (by decide) (by decide)
  have e8 : nI x / 8 = nI (x / 8) := pk_div (d := 8) hx (by decide) (by decide)
  have e64 : nI x / 64 = nI (x / 64) := pk_div (d := 64) hx (by decide) (by decide)
  have e32 : nI (x / 8) - nI (x / 8) / 32 * 32 = nI (x / 8 % 32) := pk_rem (d := 32) (by omega) (by decide) (by decide)
  have e16 : nI (x / 64) - nI (x / 64) / 16 * 16 = nI (x / 64 % 16) := pk_rem (d := 16) (by omega) (by decide) (by decide)
  have em : nI (x / 8) - nI (x / 8) / nI m * nI m = nI (x / 8 % m) := pk_rem (by omega) hm0 (by omega)
  have nm : (nI m = 0) = False := eq_false (nI_ne0 hm0 (by omega))
  have hr : x % 4 < 4 := Nat.mod_lt _ (by decide)
  have z0 : (nI (x % 4) = 0) = (x % 4 = 0) := nI_z (by omega)
  have z1 : (nI (x % 4) = 1) = (x % 4 = 1) := nI_eqN (b := 1) (by omega) (by decide)
  simp only [e201_0, e201_1, zpush_some, zpush_none, true_or, or_true, true_and, and_true, ↓reduceIte, zq_ite, zq_itel, zo_62]
  refine s_M_note hn hq (fun I1 y1 y2 y3 y4 => ?_)
  have hM1 : MC I1 70 m s := MC_eq hM (fun j => y1 70 j (by decide) (by omega))
  have hm1 : I1 62 14 = nI m := by rw [y1 62 14 (by decide) (by decide)]; exact MK_m hK
  by_cases g0 : x % 4 = 0
  · have f : ldd m x = 1 + 4 * (x / 8 % 32) := by unfold ldd; rw [if_pos g0]
    have z0 := z0.trans (eq_true g0)
    simp only [e201_4, e201_5, e201_6, e201_7, e201_10, e201_11, e201_14, e201_15, e201_16, e201_19, e201_20, e201_21, e201_22, e201_23, e201_25, e201_26, e201_28, e201_29, e201_30, e201_31, e201_32, e201_35, e201_36, e201_37, e201_38, e201_39, e201_42, e201_43, e201_46, e201_48, e201_49, e201_51, e201_52, e201_53, e201_56, e201_57, e201_58, e201_59, e201_61, e201_62, e201_64, e201_65, e201_66, e201_69, e201_70, e201_73, e201_74, e201_75, e201_77, e201_80, e201_81, e201_82, e201_85, e201_88, e201_89, zpush_some, zpush_none, true_or, or_true, true_and, and_true, ↓reduceIte, zq_ite, zq_itel, zz_4, zz_8, zz_32, not_false_eq_true, not_true_eq_false, e4, e8, e32, z0, zo_62, zr_62_16, zn_70, zw_70, zl_70, zi_2, zt_2, Nat.reduceLT, decide_true, MC_x hM1]
    refine hQ _ ?_ (fun k j a1 a2 a3 a4 a5 => by rw [zup_ne a1, y1 k j a2 a5]) (fun j hj => by rw [zup_ne (by decide), y2 j hj]) (fun j hj => by rw [zup_ne (by decide), y3 j hj]) (by rw [zup_ne (by decide), y4])
    rw [f, do1_tog (Nat.mod_lt _ (by decide))]
    exact MC_brk hM1 _
  · have z0 := z0.trans (eq_false g0)
    by_cases g1 : x % 4 = 1
    · have f : ldd m x = 2 + 4 * (16 * (x / 8 % m) + x / 64 % 16) := by unfold ldd; rw [if_neg g0, if_pos g1]
      have z1 := z1.trans (eq_true g1)
      have hp := Nat.mod_lt (x / 8) hm0
      have hc : x / 64 % 16 < 16 := Nat.mod_lt _ (by decide)
      have z10 : zin (nI (10 + x / 8 % m)) 24 = true := zin_ok (by omega) (by decide)
      have y10 : (nI (10 + x / 8 % m)).toNatClampNeg = 10 + x / 8 % m := nI_clamp (by omega)
      simp only [e201_4, e201_5, e201_6, e201_7, e201_10, e201_11, e201_14, e201_15, e201_16, e201_19, e201_20, e201_21, e201_22, e201_23, e201_25, e201_26, e201_28, e201_29, e201_30, e201_31, e201_32, e201_35, e201_36, e201_37, e201_38, e201_39, e201_42, e201_43, e201_46, e201_48, e201_49, e201_51, e201_52, e201_53, e201_56, e201_57, e201_58, e201_59, e201_61, e201_62, e201_64, e201_65, e201_66, e201_69, e201_70, e201_73, e201_74, e201_75, e201_77, e201_80, e201_81, e201_82, e201_85, e201_88, e201_89, zpush_some, zpush_none, true_or, or_true, true_and, and_true, ↓reduceIte, zq_ite, zq_itel, zz_4, zz_8, zz_16, zz_64, nm, not_false_eq_true, not_true_eq_false, e4, e8, e64, e16, em, z0, z1, zo_62, zr_62_16, zn_70, zw_70, zl_70, hm1, i_10, z10, y10]
      refine hQ _ ?_ (fun k j a1 a2 a3 a4 a5 => by rw [zup_ne a1, y1 k j a2 a5]) (fun j hj => by rw [zup_ne (by decide), y2 j hj]) (fun j hj => by rw [zup_ne (by decide), y3 j hj]) (by rw [zup_ne (by decide), y4])
      have r : do1 K m s (2 + 4 * (16 * (x / 8 % m) + x / 64 % 16)) = (s.1, fun q => if q = x / 8 % m then x / 64 % 16 else s.2.1 q, s.2.2) := by
        generalize x / 8 % m = p
        generalize x / 64 % 16 = c at hc
        unfold do1
        rw [if_neg (by omega), if_pos (by omega), show (2 + 4 * (16 * p + c)) / 4 / 16 = p by omega, show (2 + 4 * (16 * p + c)) / 4 % 16 = c by omega]
      rw [f, r]
      exact MC_goal hM1 hm hp hc
    · have f : ldd m x = 0 := by unfold ldd; rw [if_neg g0, if_neg g1]
      have z1 := z1.trans (eq_false g1)
      by_cases h99 : s.2.2.2.2.1 = 99
      · have e9 : ((99 : Int32) ≤ nI 99) = True := eq_true (by decide)
        simp only [e201_4, e201_5, e201_6, e201_7, e201_10, e201_11, e201_14, e201_15, e201_16, e201_19, e201_20, e201_21, e201_22, e201_23, e201_25, e201_26, e201_28, e201_29, e201_30, e201_31, e201_32, e201_35, e201_36, e201_37, e201_38, e201_39, e201_42, e201_43, e201_46, e201_48, e201_49, e201_51, e201_52, e201_53, e201_56, e201_57, e201_58, e201_59, e201_61, e201_62, e201_64, e201_65, e201_66, e201_69, e201_70, e201_73, e201_74, e201_75, e201_77, e201_80, e201_81, e201_82, e201_85, e201_88, e201_89, zpush_some, zpush_none, true_or, or_true, true_and, and_true, ↓reduceIte, zq_ite, zq_itel, zz_4, not_false_eq_true, e4, z0, z1, zo_62, zr_62_16, zn_70, zl_70, zi_0, zt_0, Nat.reduceLT, decide_true, MC_t hM1, h99, e9]
        refine hQ _ ?_ (fun k j a1 a2 a3 a4 a5 => y1 k j a2 a5) y2 y3 y4
        have r : do1 K m s 0 = s := by unfold do1; rw [if_neg (by omega), if_neg (by omega), if_neg (by omega)]
        rw [f, r]
        exact hM1
      · have e9 : ((99 : Int32) ≤ nI s.2.2.2.2.1) = False := (nI_leN (a := 99) (by decide) (by omega)).trans (eq_false (by omega))
        simp only [e201_4, e201_5, e201_6, e201_7, e201_10, e201_11, e201_14, e201_15, e201_16, e201_19, e201_20, e201_21, e201_22, e201_23, e201_25, e201_26, e201_28, e201_29, e201_30, e201_31, e201_32, e201_35, e201_36, e201_37, e201_38, e201_39, e201_42, e201_43, e201_46, e201_48, e201_49, e201_51, e201_52, e201_53, e201_56, e201_57, e201_58, e201_59, e201_61, e201_62, e201_64, e201_65, e201_66, e201_69, e201_70, e201_73, e201_74, e201_75, e201_77, e201_80, e201_81, e201_82, e201_85, zpush_some, zpush_none, true_or, or_true, true_and, and_true, ↓reduceIte, zq_ite, zq_itel, zz_4, not_false_eq_true, e4, z0, z1, zo_62, zr_62_16, zn_70, zl_70, zi_0, zt_0, Nat.reduceLT, decide_true, MC_t hM1, e9]
        have hK1 : MK I1 m K := by
          obtain ⟨K', e, k1, k2, k3⟩ := hK
          exact ⟨K', e, hm1, k2, fun i hi => by rw [y1 69 i (by decide) (by omega)]; exact k3 i hi⟩
        refine t_M_steps hM1 hK1 Ma_70 (by decide) (by omega) (fun I3 w1 w2 w3 => ?_)
        simp only [e201_85, e201_88, e201_89, zpush_some, zpush_none, true_or, or_true, true_and, and_true, ↓reduceIte, zq_ite, zq_itel]
        refine hQ _ ?_ (fun k j a1 a2 a3 a4 a5 => by rw [w2 k j a1 a3 a4, y1 k j a2 a5]) (fun j hj => by rw [w2 71 j (by decide) (by decide) (by decide), y2 j hj]) (fun j hj => by rw [w2 71 _ (by decide) (by decide) (by decide), y3 j hj]) (by rw [w2 62 18 (by decide) (by decide) (by decide), y4])
        have r : do1 K m s 0 = stp K m s := by unfold do1; rw [if_neg (by omega), if_neg (by omega), if_pos (by omega)]
        rw [f, r]
        exact w1
theorem l_M_lots {S N : Nat} {vs : Int32} (hS : S < 2147483647) (hm : m ≤ 7) (hm0 : 0 < m) (hs : s0.2.2.2.2.1 ≤ 99) (hN : D.length + N ≤ 40) (hK : MK I m K) (hQ : ∀ I', MC I' 70 m (rep K m s0 (D ++ ldl S m N)) → I' 62 18 = nI (D.length + N) → (∀ j, j < D.length + N → MCo I' 71 (24 * j) m (rep K m s0 ((D ++ ldl S m N).take j))) → (∀ k j, k ≠ 70 → k ≠ 71 → k ≠ 76 → k ≠ 77 → (k ≠ 62 ∨ j ≠ 18) → I' k j = I k j) → Q (some (.int (nI (rep K m s0 (D ++ ldl S m N)).2.2.2.2.2))) I' L) :
    ∀ r i I', i + r = N → MC I' 70 m (rep K m s0 (D ++ ldl S m i)) → I' 62 18 = nI (D.length + i) → (∀ j, j < D.length + i → MCo I' 71 (24 * j) m (rep K m s0 ((D ++ ldl S m i).take j))) → (∀ k j, k ≠ 70 → k ≠ 71 → k ≠ 76 → k ≠ 77 → (k ≠ 62 ∨ j ≠ 18) → I' k j = I k j) → zV n (d + 6) 200 52 [.ref 62, .int (nI N), .int vs, .long (lN (lotN S i)), .null, .int (nI i)] [] I' L Q := by
  intro r
  induction r with
  | zero =>
    intro i I' hi hx hn hd h1
    have e : i = N := by omega
    subst e
    simp only [e200_52, e200_54, e200_55, e200_80, e200_81, e200_84, e200_85, e200_86, zpush_some, zpush_none, true_or, or_true, true_and, and_true, ↓reduceIte, zq_ite, zq_itel, Int32.le_refl, zo_62, zr_62_16, zn_70, zl_70, zi_1, zt_1, Nat.reduceLT, decide_true, MC_h hx]
    exact hQ I' hx hn hd h1
  | succ r ih =>
    intro i I' hi hx hn hd h1
    have hlt : (nI N ≤ nI i) = False := eq_false (nI_ge (by omega) (by omega))
    have hl := lotN_lt hS (i + 1)
    have n0 : ((2147483647 : Int64) = 0) = False := eq_false (by decide)
    simp only [e200_52, e200_54, e200_55, e200_58, e200_59, e200_62, e200_63, e200_66, e200_67, e200_68, e200_69, e200_70, e200_71, zpush_some, zpush_none, true_or, or_true, true_and, and_true, ↓reduceIte, zq_ite, zq_itel, hlt, n0, not_false_eq_true, h_lot (lotN_lt hS i), lN_i, zo_62]
    have hK' : MK I' m K := by
      obtain ⟨K', e, k1, k2, k3⟩ := hK
      exact ⟨K', e, by rw [h1 62 14 (by decide) (by decide) (by decide) (by decide) (by decide)]; exact k1, k2, fun i hi => by rw [h1 69 i (by decide) (by decide) (by decide) (by decide) (by omega)]; exact k3 i hi⟩
    refine t_M_lot (q := D.length + i) (show lotN S i * 48271 % 2147483647 < 2 ^ 31 from Nat.lt_trans hl (by decide)) hx hK' hm hm0 (rep_t hs) hn (by omega) (fun I2 x1 x2 x3 x4 x5 => ?_)
    simp only [e200_71, e200_74, e200_77, zpush_some, zpush_none, true_or, or_true, true_and, and_true, ↓reduceIte, zq_ite, zq_itel, nI_1]
    have hlen : (D ++ ldl S m i).length = D.length + i := by rw [List.length_append, ldl_len]
    refine ih (i + 1) I2 (by omega) ?_ x5 (fun j hj => ?_) (fun k j a1 a2 a3 a4 a5 => (x2 k j a1 a2 a3 a4 a5).trans (h1 k j a1 a2 a3 a4 a5))
    · rw [ldl, ← List.append_assoc, rep_snoc]
      exact x1
    · rw [ldl, ← List.append_assoc]
      by_cases e : j < D.length + i
      · rw [List.take_append_of_le_length (by omega)]
        exact MCo_rng (hd j e) (fun i a b => x3 i (by omega))
      · have e : j = D.length + i := by omega
        subst e
        rw [List.take_append_of_le_length (by omega), List.take_of_length_le (by omega)]
        exact MCo_cpy (MCo_0.mpr hx) x4
theorem p_lots (h : Inv I L) (w sd : Int32) : zV n (d + 6) 111 0 [.ref 3, .int w, .int sd, .null, .null, .null] [] I L (fun v1 I1 L1 => zV n (d + 6) 200 0 [.ref 62, .int w, .int sd, .null, .null, .null] [] I1 L1 (fun v2 I2 L2 => same v1 v2 ∧ Inv I2 L2)) := by
  obtain ⟨m, K, s0, D, kp, hcs⟩ := h.apart
  obtain ⟨hX, hM, hK, ht, hds, hn, hm, hok⟩ := hcs.now
  rcases rng1 w 20 (by decide) (b := 20) rfl with h1 | ⟨h1, h2, h3⟩ | ⟨N, j1, j2, rfl, h1, h2, h3⟩
  · simp only [e111_0, e111_1, e111_2, e111_5, e111_6, e111_8, e111_11, e111_12, e111_13, e111_16, e111_17, e111_20, e111_23, e111_24, e111_25, e111_26, e111_29, e111_32, e111_35, e111_37, e111_38, e111_39, e111_42, e111_45, e111_46, e111_47, e111_49, e111_52, e111_54, e200_0, e200_1, e200_2, e200_4, e200_7, e200_10, e200_11, e200_12, e200_14, e200_17, e200_20, e200_21, e200_22, e200_23, e200_26, e200_29, e200_31, e200_32, e200_33, e200_36, e200_37, e200_38, e200_40, e200_43, e200_45, zpush_some, zpush_none, true_or, or_true, true_and, and_true, ↓reduceIte, zq_ite, zq_itel, s_M_in, h1]
    exact ⟨same_i, h⟩
  · simp only [e111_0, e111_1, e111_2, e111_5, e111_6, e111_8, e111_11, e111_12, e111_13, e111_16, e111_17, e111_20, e111_23, e111_24, e111_25, e111_26, e111_29, e111_32, e111_35, e111_37, e111_38, e111_39, e111_42, e111_45, e111_46, e111_47, e111_49, e111_52, e111_54, e200_0, e200_1, e200_2, e200_4, e200_7, e200_10, e200_11, e200_12, e200_14, e200_17, e200_20, e200_21, e200_22, e200_23, e200_26, e200_29, e200_31, e200_32, e200_33, e200_36, e200_37, e200_38, e200_40, e200_43, e200_45, zpush_some, zpush_none, true_or, or_true, true_and, and_true, ↓reduceIte, zq_ite, zq_itel, s_M_in, h1, h2, h3]
    exact ⟨same_i, h⟩
  · rcases rng1 sd 2147483646 (by decide) (b := 2147483646) rfl with g1 | ⟨g1, g2, g3⟩ | ⟨S, i1, i2, rfl, g1, g2, g3⟩
    · simp only [e111_0, e111_1, e111_2, e111_5, e111_6, e111_8, e111_11, e111_12, e111_13, e111_16, e111_17, e111_20, e111_23, e111_24, e111_25, e111_26, e111_29, e111_32, e111_35, e111_37, e111_38, e111_39, e111_42, e111_45, e111_46, e111_47, e111_49, e111_52, e111_54, e200_0, e200_1, e200_2, e200_4, e200_7, e200_10, e200_11, e200_12, e200_14, e200_17, e200_20, e200_21, e200_22, e200_23, e200_26, e200_29, e200_31, e200_32, e200_33, e200_36, e200_37, e200_38, e200_40, e200_43, e200_45, zpush_some, zpush_none, true_or, or_true, true_and, and_true, ↓reduceIte, zq_ite, zq_itel, s_M_in, h1, h2, h3, zz_1, g1, not_true_eq_false]
      exact ⟨same_i, h⟩
    · simp only [e111_0, e111_1, e111_2, e111_5, e111_6, e111_8, e111_11, e111_12, e111_13, e111_16, e111_17, e111_20, e111_23, e111_24, e111_25, e111_26, e111_29, e111_32, e111_35, e111_37, e111_38, e111_39, e111_42, e111_45, e111_46, e111_47, e111_49, e111_52, e111_54, e200_0, e200_1, e200_2, e200_4, e200_7, e200_10, e200_11, e200_12, e200_14, e200_17, e200_20, e200_21, e200_22, e200_23, e200_26, e200_29, e200_31, e200_32, e200_33, e200_36, e200_37, e200_38, e200_40, e200_43, e200_45, zpush_some, zpush_none, true_or, or_true, true_and, and_true, ↓reduceIte, zq_ite, zq_itel, s_M_in, h1, h2, h3, zz_1, g1, g2, g3, not_true_eq_false]
      exact ⟨same_i, h⟩
    · by_cases hm0 : m = 0
      · have e0 : (nI m = 0) = True := by rw [nI_z (by omega)]; exact eq_true hm0
        simp only [e111_0, e111_1, e111_2, e111_5, e111_6, e111_8, e111_11, e111_12, e111_13, e111_16, e111_17, e111_20, e111_23, e111_24, e111_25, e111_26, e111_29, e111_32, e111_35, e111_37, e111_38, e111_39, e111_42, e111_45, e111_46, e111_47, e111_49, e111_52, e111_54, e200_0, e200_1, e200_2, e200_4, e200_7, e200_10, e200_11, e200_12, e200_14, e200_17, e200_20, e200_21, e200_22, e200_23, e200_26, e200_29, e200_31, e200_32, e200_33, e200_36, e200_37, e200_38, e200_40, e200_43, e200_45, zpush_some, zpush_none, true_or, or_true, true_and, and_true, ↓reduceIte, zq_ite, zq_itel, s_M_in, h1, h2, h3, zz_1, g1, g2, g3, not_true_eq_false, not_false_eq_true, zo_3, zr_3_5, zo_14, zo_62, XC_m hX, MK_m hK, e0]
        exact ⟨same_i, h⟩
      · have e0 : (nI m = 0) = False := by rw [nI_z (by omega)]; exact eq_false hm0
        have hD := hds.1
        by_cases hD4 : D.length + N ≤ 40
        · have f3 : (nI (D.length + N) ≤ 40) = True := (nI_leN (b := 40) (by omega) (by decide)).trans (eq_true hD4)
          have hS : S < 2147483647 := i2
          simp only [e111_0, e111_1, e111_2, e111_5, e111_6, e111_8, e111_11, e111_12, e111_13, e111_16, e111_17, e111_20, e111_23, e111_24, e111_25, e111_26, e111_29, e111_32, e111_35, e111_37, e111_38, e111_39, e111_42, e111_45, e111_46, e111_47, e111_49, e111_52, e111_54, e111_55, e111_56, e111_57, e111_58, e111_59, zpush_some, zpush_none, true_or, or_true, true_and, and_true, ↓reduceIte, zq_ite, zq_itel, h1, h2, h3, g1, g3, not_false_eq_true, zo_3, zr_3_5, zo_14, XC_m hX, e0, zr_3_2, Sz_6.1, hds.2.1, i_tk, f3, nI_l (show S < 2 ^ 31 by omega)]
          have hok' : ∀ c ∈ D ++ ldl S m N, okd m c := fun c hc => by
            rcases List.mem_append.mp hc with e | e
            · exact hcs.deed.1 c e
            · exact ldl_ok (by omega) N c e
          have hlen : (D ++ ldl S m N).length = D.length + N := by rw [List.length_append, ldl_len]
          refine l_X_lots (s0 := s0) (D := D) (S := S) hS (by omega) hcs.deed.1 hcs.start.2 hD4 (fun I1 L1 x1 x2 x3 x4 => ?_) N 0 I L (by omega) (by rw [ldl, List.append_nil]; exact hX) (by rw [ldl, List.append_nil]; exact hds) (fun _ _ _ _ _ => rfl) (fun _ _ _ => rfl)
          have hn1 : I1 62 18 = nI D.length := by rw [x3 62 18 (by decide) (by decide) (by decide)]; exact hn
          have hm1 : I1 62 14 = nI m := by rw [x3 62 14 (by decide) (by decide) (by decide)]; exact MK_m hK
          simp only [e200_0, e200_1, e200_2, e200_4, e200_7, e200_10, e200_11, e200_12, e200_14, e200_17, e200_20, e200_21, e200_22, e200_23, e200_26, e200_29, e200_31, e200_32, e200_33, e200_36, e200_37, e200_38, e200_40, e200_43, e200_45, e200_46, e200_47, e200_48, e200_49, e200_50, zpush_some, zpush_none, true_or, or_true, true_and, and_true, ↓reduceIte, zq_ite, zq_itel, s_M_in, h1, h2, g1, g2, zz_1, not_false_eq_true, zo_62, hm1, e0, hn1, i_tk, f3, nI_l (show S < 2 ^ 31 by omega)]
          have hK1 : MK I1 m K := by
            obtain ⟨K', e, k1, k2, k3⟩ := hK
            exact ⟨K', e, hm1, k2, fun i hi => by rw [x3 69 i (by decide) (by decide) (by decide)]; exact k3 i hi⟩
          refine l_M_lots (s0 := s0) (D := D) (S := S) hS hm (by omega) hcs.start.2 hD4 hK1 (fun I2 y1 y2 y3 y4 => ?_) N 0 I1 (by omega) (by rw [ldl, List.append_nil]; exact MC_eq hM (fun j => x3 70 j (by decide) (by decide) (by decide))) hn1 (fun j hj => by rw [ldl, List.append_nil]; exact MCo_eq (hcs.deed.2 j hj) (fun i => x3 71 i (by decide) (by decide) (by decide))) (fun _ _ _ _ _ _ _ => rfl)
          have hI : ∀ k j, k ≠ 6 → k ≠ 7 → (k < 14 ∨ 18 < k) → k ≠ 70 → k ≠ 71 → k ≠ 76 → k ≠ 77 → (k ≠ 62 ∨ j ≠ 18) → I2 k j = I k j := fun k j a1 a2 a3 a4 a5 a6 a7 a8 => by
            rw [y4 k j a4 a5 a6 a7 a8, x3 k j a1 a2 a3]
          refine ⟨same_i, inv_cube h ⟨m, K, s0, D ++ ldl S m N, kp, ICs_set hcs hok' (DS_eq x2 ?_ (fun j => ?_)) (XC_eq x1 (fun k' j a b _ => ?_) rfl) y1 (by rw [hlen]; exact y2) (by rw [hlen]; exact y3) (fun q' hq' => KP_fr hq' (hcs.kept hq') (fun k j cc => hI k j (by omega) (by omega) (by omega) (by omega) (by omega) (by omega) (by omega) (by omega))) (fun k j hk => hI k j (by omega) (by omega) (by omega) (by omega) (by omega) (by omega) (by omega) (by omega)) (x4 9 5 (by decide))⟩ (fun k j hk => hI k j (by omega) (by omega) (by omega) (by omega) (by omega) (by omega) (by omega) (by omega)) (fun k j hk => x4 k j (by omega))⟩
          · exact y4 6 1 (by decide) (by decide) (by decide) (by decide) (by decide)
          · exact y4 7 j (by decide) (by decide) (by decide) (by decide) (by omega)
          · exact y4 k' j (by omega) (by omega) (by omega) (by omega) (by omega)
        · have f3 : (nI (D.length + N) ≤ 40) = False := (nI_leN (b := 40) (by omega) (by decide)).trans (eq_false hD4)
          simp only [e111_0, e111_1, e111_2, e111_5, e111_6, e111_8, e111_11, e111_12, e111_13, e111_16, e111_17, e111_20, e111_23, e111_24, e111_25, e111_26, e111_29, e111_32, e111_35, e111_37, e111_38, e111_39, e111_42, e111_45, e111_46, e111_47, e111_49, e111_52, e111_54, e200_0, e200_1, e200_2, e200_4, e200_7, e200_10, e200_11, e200_12, e200_14, e200_17, e200_20, e200_21, e200_22, e200_23, e200_26, e200_29, e200_31, e200_32, e200_33, e200_36, e200_37, e200_38, e200_40, e200_43, e200_45, zpush_some, zpush_none, true_or, or_true, true_and, and_true, ↓reduceIte, zq_ite, zq_itel, s_M_in, h1, h2, h3, zz_1, g1, g2, g3, not_true_eq_false, not_false_eq_true, zo_3, zr_3_5, zo_14, zo_62, XC_m hX, MK_m hK, e0, zr_3_2, Sz_6.1, hds.2.1, hn, i_tk, f3]
          exact ⟨same_i, h⟩
end
