/-! WHO IS THERE -/
section
variable {n d : Nat} {I I' : zi} {L L' : zl} {Q : zq} {K K' : Nat → Nat} {s s' s0 : Cs} {k m q i a b l f : Nat}
def thr (s : Cs) (i : Nat) : Bool := decide (s.1 i = s.2.1 i)
theorem s_Q_isThere (hz : Qz k) (hx : XC I L k m K s) (hi : i < m) : zV n (d + 1) 77 0 [.ref k, .int (nI i)] [] I L Q ↔ Q (some (.int (zb (thr s i)))) I L := by
  have m2 := XC_m7 hx
  obtain ⟨o1, o2⟩ := has_ok hi m2
  obtain ⟨-, ⟨c1, c2⟩, ⟨e1, e2⟩, -⟩ := XC_get hx hi
  obtain ⟨z1, z2, z3, z4, z5, ⟨n1, n2, n3, n4⟩, -, l1, l2, l3, l4⟩ := id hz
  have zi7 : zin (nI i) 7 = true := zin_ok (by omega) (by decide)
  have ci : (nI i).toNatClampNeg = i := nI_clamp (by omega)
  by_cases g : s.1 i = s.2.1 i
  · have t : thr s i = true := decide_eq_true g
    rw [← g] at e1
    simp only [e77_0, e77_1, e77_2, e77_5, e77_8, e77_9, e77_12, e77_13, e77_14, e77_15, e77_18, e77_19, e77_20, e77_23, e77_24, e77_27, e77_28, zpush_some, zpush_none, true_or, or_true, true_and, and_true, ↓reduceIte, zq_ite, zq_itel, s_Q_hasMessage hz, XC_m hx, o1, o2, zz_1, z1, z3, z4, n2, n3, l2, l3, zi7, ci, c1, e1, not_true_eq_false, t, zb_t]
  · have t : thr s i = false := decide_eq_false g
    have e : (nI (s.1 i) = nI (s.2.1 i)) = False := (nI_inj16 c2 e2).trans (eq_false g)
    simp only [e77_0, e77_1, e77_2, e77_5, e77_8, e77_9, e77_12, e77_13, e77_14, e77_15, e77_18, e77_19, e77_20, e77_23, e77_24, e77_27, e77_28, zpush_some, zpush_none, true_or, or_true, true_and, and_true, ↓reduceIte, zq_ite, zq_itel, s_Q_hasMessage hz, XC_m hx, o1, o2, zz_1, z1, z3, z4, n2, n3, l2, l3, zi7, ci, c1, e1, e, not_false_eq_true, t, zb_f]
theorem s_M_isThere (hx : MC I a m s) (ha : Ma a) (hm : m ≤ 7) (hi : i < m) : zV n d 175 0 [.ref a, .int (nI i)] [] I L Q ↔ Q (some (.int (zb (thr s i)))) I L := by
  obtain ⟨⟨c1, c2⟩, ⟨e1, e2⟩, -⟩ := MC_get hx hm hi
  have z3 : zin (nI (3 + i)) 24 = true := zin_ok (by omega) (by decide)
  have y3 : (nI (3 + i)).toNatClampNeg = 3 + i := nI_clamp (by omega)
  have z10 : zin (nI (10 + i)) 24 = true := zin_ok (by omega) (by decide)
  have y10 : (nI (10 + i)).toNatClampNeg = 10 + i := nI_clamp (by omega)
  by_cases g : s.1 i = s.2.1 i
  · have t : thr s i = true := decide_eq_true g
    rw [← g] at e1
    simp only [e175_0, e175_1, e175_2, e175_3, e175_4, e175_5, e175_6, e175_8, e175_9, e175_10, e175_11, e175_14, e175_15, e175_18, e175_19, zpush_some, zpush_none, true_or, or_true, true_and, and_true, ↓reduceIte, zq_ite, zq_itel, ha.1, ha.2.2, i_3, i_10, z3, y3, z10, y10, c1, e1, not_true_eq_false, t, zb_t]
  · have t : thr s i = false := decide_eq_false g
    have e : (nI (s.1 i) = nI (s.2.1 i)) = False := (nI_inj16 c2 e2).trans (eq_false g)
    simp only [e175_0, e175_1, e175_2, e175_3, e175_4, e175_5, e175_6, e175_8, e175_9, e175_10, e175_11, e175_14, e175_15, e175_18, e175_19, zpush_some, zpush_none, true_or, or_true, true_and, and_true, ↓reduceIte, zq_ite, zq_itel, ha.1, ha.2.2, i_3, i_10, z3, y3, z10, y10, c1, e1, e, not_false_eq_true, t, zb_f]
theorem h_went : ∀ g, g < 128 → ∀ i, i < 7 → (nI g >>> (nI i &&& 31) &&& 1 = 0 ↔ g.testBit i = false) := by decide +kernel
theorem s_Q_wentJustNow (hz : Qz k) {g : Nat} (hg : I k 9 = nI g) (hg2 : g < 128) (hi : i < 7) : zV n d 78 0 [.ref k, .int (nI i)] [] I L Q ↔ Q (some (.int (zb (g.testBit i)))) I L := by
  have e := propext (h_went g hg2 i hi)
  cases t : g.testBit i
  · rw [t] at e
    simp only [e78_0, e78_1, e78_4, e78_5, e78_6, e78_7, e78_8, e78_11, e78_12, e78_15, e78_16, zpush_some, zpush_none, true_or, or_true, true_and, and_true, ↓reduceIte, zq_ite, zq_itel, hz.1, hg, e, zb_f]
  · rw [t] at e
    have e' : (nI g >>> (nI i &&& 31) &&& 1 = 0) = False := e.trans (eq_false (by decide))
    simp only [e78_0, e78_1, e78_4, e78_5, e78_6, e78_7, e78_8, e78_11, e78_12, e78_15, e78_16, zpush_some, zpush_none, true_or, or_true, true_and, and_true, ↓reduceIte, zq_ite, zq_itel, hz.1, hg, e', zb_t]
end
