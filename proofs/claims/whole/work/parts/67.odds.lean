/-! ODDS, MID -/
theorem lg_le (u v : Int64) : (lg_cmp u v ≤ 0) = (u ≤ v) := by
  unfold lg_cmp
  by_cases h : u > v
  · rw [if_pos h]
    exact propext ⟨fun g => absurd g (by decide), fun g => absurd h (Int64.not_lt.mpr g)⟩
  · rw [if_neg h]
    have hle : u ≤ v := Int64.not_lt.mp h
    by_cases e : u = v
    · rw [if_pos e]; exact propext ⟨fun _ => hle, fun _ => by decide⟩
    · rw [if_neg e]; exact propext ⟨fun _ => hle, fun _ => by decide⟩
/-- Euclid ends within f rounds -/
def eun : Nat → Nat → Nat → Bool
  | 0, _, b => decide (b = 0)
  | f + 1, a, b => decide (b = 0) || eun f b (a % b)
theorem eun_odds : ∀ p, p < 13 → ∀ k, k < 5 → eun 100 ((12 - p) ^ k) (12 ^ k) = true ∧ (12 - p) ^ k < 2 ^ 20 ∧ 12 ^ k < 2 ^ 20 := by decide +kernel
theorem eun_0 : ∀ k, k < 5 → eun 100 0 (12 ^ k) = true := by decide +kernel
theorem eun_mid : ∀ p, p < 13 → ∀ k, k < 5 → eun 100 (k * (12 - p)) 12 = true ∧ k * (12 - p) < 2 ^ 20 := by decide +kernel
theorem gcd_step (a b : Nat) : Nat.gcd b (a % b) = Nat.gcd a b := by
  rw [Nat.gcd_comm a b, Nat.gcd_rec b a, Nat.gcd_comm]
def cor (a b w : Nat) : Nat := (a >>> w) <<< w ||| b % 2 ^ w
theorem cor_t : ∀ a, a < 16 → ∀ b, b < 16 → ∀ w, w < 4 → (a ^^^ b).testBit w = true → cor a b w ≠ b ∧ low (cor a b w ^^^ b) = w ∧ cor a b w ^^^ 2 ^ w = cor a b (w + 1) := by decide +kernel
theorem cor_f : ∀ a, a < 16 → ∀ b, b < 16 → ∀ w, w < 4 → (a ^^^ b).testBit w = false → cor a b (w + 1) = cor a b w := by decide +kernel
theorem cor_lt : ∀ a, a < 16 → ∀ b, b < 16 → ∀ w, w ≤ 4 → cor a b w < 16 := by decide +kernel
theorem cor_0 : ∀ a, a < 16 → ∀ b, b < 16 → cor a b 0 = a ∧ cor a b 4 = b := by decide +kernel
def wc (B : Nat → Bool) (a b : Nat) : Nat → Nat
  | 0 => 0
  | w + 1 => wc B a b w + (if (a ^^^ b).testBit w && !B (lk (cor a b w) w) then 1 else 0)
def pcn (a b : Nat) : Nat → Nat
  | 0 => 0
  | w + 1 => pcn a b w + (if (a ^^^ b).testBit w then 1 else 0)
theorem pcn_4 : ∀ a, a < 16 → ∀ b, b < 16 → pcn a b 4 = pop7 (a ^^^ b) := by decide +kernel
theorem wc_le (B : Nat → Bool) (a b : Nat) : ∀ w, wc B a b w ≤ pcn a b w ∧ pcn a b w ≤ w
  | 0 => ⟨Nat.le_refl _, Nat.le_refl _⟩
  | w + 1 => by
    have := wc_le B a b w
    rw [wc, pcn]
    cases (a ^^^ b).testBit w
    · simp; omega
    · cases B (lk (cor a b w) w)
      · simp; omega
      · simp; omega
def upo (B : Nat → Bool) (a b p w : Nat) : Nat := if wc B a b w < pcn a b w then 0 else (12 - p) ^ wc B a b w
section
variable {n d : Nat} {I I' : zi} {L L' : zl} {Q : zq} {K K' : Nat → Nat} {s s' s0 : Cs} {k m q i a b l N p j c e t fl ce lo f w : Nat} {wh : Int64} {B : Nat → Bool} {x : Int32}
theorem inv_frac (h : Inv I L) (hI : ∀ k j, I' k j = I k j) (h1 : L' 3 13 = L' 62 7) (h2 : L' 3 14 = L' 62 8) (hL : ∀ k j, (k = 9 ∨ k = 14) → L' k j = L k j) : Inv I' L' := by
  obtain ⟨⟨a1, a2, a3, a4, a5⟩, g2, g3, g4⟩ := h
  refine ⟨⟨by rw [hI, hI]; exact a1, fun f f1 f2 => by rw [hI, hI]; exact a2 f f1 f2, by rw [hI, hI]; exact a3, h1, h2⟩, IRt_eq g2 (fun k j _ _ => hI k j) (fun j => hI _ j) (fun j => hI _ j), IRt_eq g3 (fun k j _ _ => hI k j) (fun j => hI _ j) (fun j => hI _ j), IC_eq g4 (fun k j _ => hI k j) (fun k hk => hL k 5 (by omega))⟩
theorem l_X_gcd {u v : Int64} : ∀ f k a b a9, k + f = 100 → a < 2 ^ 30 → b < 2 ^ 30 → eun f a b = true → (zV n d 109 9 [.long u, .null, .long v, .null, .long (lN a), .null, .long (lN b), .null, .int (nI k), a9, .null] [] I L Q ↔ Q (some (.long (lN (Nat.gcd a b)))) I L) := by
  intro f
  induction f with
  | zero =>
    intro k a b a9 hk ha hb he
    have e : k = 100 := by omega
    subst e
    have e0 : b = 0 := of_decide_eq_true he
    subst e0
    simp only [e109_9, e109_11, e109_13, e109_44, e109_46, zpush_some, zpush_none, true_or, or_true, true_and, and_true, ↓reduceIte, zq_ite, zq_itel, show nI 100 = (100 : Int32) from rfl, Int32.le_refl, Nat.gcd_zero_right]
  | succ f ih =>
    intro k a b a9 hk ha hb he
    have hlt : ((100 : Int32) ≤ nI k) = False := eq_false (nI_ge (b := 100) (by omega) (by omega))
    by_cases g : b = 0
    · subst g
      have z : (lN 0 = 0) = True := eq_true rfl
      simp only [e109_9, e109_11, e109_13, e109_16, e109_18, e109_19, e109_20, e109_44, e109_46, zpush_some, zpush_none, true_or, or_true, true_and, and_true, ↓reduceIte, zq_ite, zq_itel, hlt, lg_0, z, Nat.gcd_zero_right]
    · have z : (lN b = 0) = False := eq_false (fun q => g ((pk_lEQ (b := 0) (by omega) (by decide)).mp q))
      rw [eun, decide_eq_false g, Bool.false_or] at he
      have hm := Nat.mod_lt a (show 0 < b by omega)
      have hr : lN a - lN a / lN b * lN b = lN (a % b) := pk_lRem (by omega) (by omega) (by omega)
      simp only [e109_9, e109_11, e109_13, e109_16, e109_18, e109_19, e109_20, e109_23, e109_25, e109_27, e109_28, e109_28a, e109_30, e109_32, e109_34, e109_36, zpush_some, zpush_none, true_or, or_true, true_and, and_true, ↓reduceIte, zq_ite, zq_itel, hlt, lg_0, z, not_false_eq_true, hr]
      simp only [e109_38, e109_41, nI_1]
      rw [← gcd_step a b]
      exact ih (k + 1) b (a % b) _ (by omega) hb (by omega) he
theorem s_X_gcd (ha : a < 2 ^ 30) (hb : b < 2 ^ 30) (he : eun 100 a b = true) : zV n d 109 0 [.long (lN a), .null, .long (lN b), .null, .null, .null, .null, .null, .null, .null, .null] [] I L Q ↔ Q (some (.long (lN (Nat.gcd a b)))) I L := by
  simp only [e109_0, e109_1, e109_3, e109_4, e109_6, e109_7, zpush_some, zpush_none, true_or, or_true, true_and, and_true, ↓reduceIte, zq_ite, zq_itel]
  exact l_X_gcd 100 0 a b _ rfl ha hb he
theorem s_X_frac (ha : a < 2 ^ 30) (hb : b < 2 ^ 30) (hb0 : 0 < b) (he : eun 100 a b = true) : zV n (d + 1) 108 0 [.ref 3, .long (lN a), .null, .long (lN b), .null, .null, .null] [] I L Q ↔ Q (some (.int 1)) I (zup (zup L 3 13 (lN (a / Nat.gcd a b))) 3 14 (lN (b / Nat.gcd a b))) := by
  have g0 := Nat.gcd_pos_of_pos_right a hb0
  have g1 := Nat.gcd_le_right a hb0
  have z : (lN (Nat.gcd a b) = 0) = False := eq_false (fun q => by have := (pk_lEQ (b := 0) (by omega) (by decide)).mp q; omega)
  have zl : (lN (Nat.gcd a b) ≤ 0) = False := eq_false (fun q => by have := (pk_lLE (b := 0) (by omega) (by decide)).mp q; omega)
  have e1 : lN a / lN (Nat.gcd a b) = lN (a / Nat.gcd a b) := pk_lDiv (by omega) g0 (by omega)
  have e2 : lN b / lN (Nat.gcd a b) = lN (b / Nat.gcd a b) := pk_lDiv (by omega) g0 (by omega)
  simp only [e108_0, e108_1, e108_2, e108_5, e108_7, e108_9, e108_10, e108_11, e108_14, e108_15, e108_16, e108_18, e108_19, e108_22, e108_23, e108_24, e108_26, e108_27, e108_30, e108_31, zpush_some, zpush_none, true_or, or_true, true_and, and_true, ↓reduceIte, zq_ite, zq_itel, s_X_gcd ha hb he, lg_le, zl, z, not_false_eq_true, zo_3, e1, e2]
theorem l_M_told {u v : Nat} (hu : u < 2 ^ 30) (hv : v < 2 ^ 30) (hv0 : 0 < v) : ∀ f a b a9, a < 2 ^ 30 → b < 2 ^ 30 → eun f a b = true → Nat.gcd a b = Nat.gcd u v → (zV n d 198 6 [.ref 62, .long (lN u), .null, .long (lN v), .null, .long (lN a), .null, .long (lN b), .null, a9, .null] [] I L Q ↔ Q (some (.int 1)) I (zup (zup L 62 7 (lN (u / Nat.gcd u v))) 62 8 (lN (v / Nat.gcd u v)))) := by
  have g0 := Nat.gcd_pos_of_pos_right u hv0
  have g1 := Nat.gcd_le_right u hv0
  have z : (lN (Nat.gcd u v) = 0) = False := eq_false (fun q => by have := (pk_lEQ (b := 0) (by omega) (by decide)).mp q; omega)
  have e1 : lN u / lN (Nat.gcd u v) = lN (u / Nat.gcd u v) := pk_lDiv (by omega) g0 (by omega)
  have e2 : lN v / lN (Nat.gcd u v) = lN (v / Nat.gcd u v) := pk_lDiv (by omega) g0 (by omega)
  have zl0 : (lN 0 ≤ 0) = True := eq_true (by decide)
  have fin : ∀ a a9, Nat.gcd a 0 = Nat.gcd u v → (zV n d 198 6 [.ref 62, .long (lN u), .null, .long (lN v), .null, .long (lN a), .null, .long (lN 0), .null, a9, .null] [] I L Q ↔ Q (some (.int 1)) I (zup (zup L 62 7 (lN (u / Nat.gcd u v))) 62 8 (lN (v / Nat.gcd u v)))) := fun a a9 hg => by
    rw [Nat.gcd_zero_right] at hg
    subst hg
    simp only [e198_6, e198_8, e198_9, e198_10, e198_31, e198_32, e198_33, e198_35, e198_36, e198_39, e198_40, e198_41, e198_43, e198_44, e198_47, e198_48, zpush_some, zpush_none, true_or, or_true, true_and, and_true, ↓reduceIte, zq_ite, zq_itel, lg_le, zl0, z, not_false_eq_true, zo_62, e1, e2]
  intro f
  induction f with
  | zero =>
    intro a b a9 ha hb he hg
    have e0 : b = 0 := of_decide_eq_true he
    subst e0
    exact fin a a9 hg
  | succ f ih =>
    intro a b a9 ha hb he hg
    by_cases g : b = 0
    · subst g
      exact fin a a9 hg
    · have zb : (lN b = 0) = False := eq_false (fun q => g ((pk_lEQ (b := 0) (by omega) (by decide)).mp q))
      have zl : (lN b ≤ 0) = False := eq_false (fun q => by have := (pk_lLE (b := 0) (by omega) (by decide)).mp q; omega)
      rw [eun, decide_eq_false g, Bool.false_or] at he
      have hm := Nat.mod_lt a (show 0 < b by omega)
      have hr : lN a - lN a / lN b * lN b = lN (a % b) := pk_lRem (by omega) (by omega) (by omega)
      simp only [e198_6, e198_8, e198_9, e198_10, e198_13, e198_15, e198_17, e198_18, e198_20, e198_22, e198_24, e198_26, zpush_some, zpush_none, true_or, or_true, true_and, and_true, ↓reduceIte, zq_ite, zq_itel, lg_le, zl, zb, not_false_eq_true, hr]
      simp only [e198_28, zpush_some, zpush_none, true_or, or_true, true_and, and_true, ↓reduceIte, zq_ite, zq_itel]
      exact ih b (a % b) _ hb (by omega) he (by rw [gcd_step]; exact hg)
theorem s_M_told {u v : Nat} (hu : u < 2 ^ 30) (hv : v < 2 ^ 30) (hv0 : 0 < v) (he : eun 100 u v = true) : zV n d 198 0 [.ref 62, .long (lN u), .null, .long (lN v), .null, .null, .null, .null, .null, .null, .null] [] I L Q ↔ Q (some (.int 1)) I (zup (zup L 62 7 (lN (u / Nat.gcd u v))) 62 8 (lN (v / Nat.gcd u v))) := by
  simp only [e198_0, e198_1, e198_3, e198_4, zpush_some, zpush_none, true_or, or_true, true_and, and_true, ↓reduceIte, zq_ite, zq_itel]
  exact l_M_told hu hv hv0 100 u v _ hu hv he rfl
theorem h_bit16 : ∀ x, x < 16 → ∀ w, w < 4 → (nI x >>> (nI w &&& 31) &&& 1 = 0 ↔ x.testBit w = false) := by decide +kernel
theorem l_X_way (hB : AB (L 14 5) B) (ha : a < 16) (hb : b < 16) : ∀ r w, w + r = 4 → (zV n (d + 1) 107 8 [.ref 3, .int (nI a), .int (nI b), .int (nI (cor a b w)), .int (nI (wc B a b w)), .int (nI w)] [] I L Q ↔ Q (some (.int (nI (wc B a b 4)))) I L) := by
  intro r
  induction r with
  | zero =>
    intro w hw
    have e : w = 4 := by omega
    subst e
    simp only [e107_8, e107_10, e107_11, e107_67, e107_69, zpush_some, zpush_none, true_or, or_true, true_and, and_true, ↓reduceIte, zq_ite, zq_itel, show nI 4 = (4 : Int32) from rfl, Int32.le_refl]
  | succ r ih =>
    intro w hw
    have hw4 : w < 4 := by omega
    have hlt : ((4 : Int32) ≤ nI w) = False := eq_false (nI_ge (b := 4) (by omega) (by omega))
    have hbt := propext (h_bit16 _ (xor_lt16 ha hb) w hw4)
    have hcl := cor_lt a ha b hb w (by omega)
    have e := ih (w + 1) (by omega)
    rw [wc] at e
    cases ht : (a ^^^ b).testBit w
    · rw [ht, cor_f a ha b hb w hw4 ht] at e
      have hbt := hbt.trans (eq_true ht)
      simp only [e107_8, e107_10, e107_11, e107_14, e107_15, e107_16, e107_17, e107_19, e107_20, e107_21, e107_22, e107_25, e107_27, e107_28, e107_31, e107_34, e107_35, e107_37, e107_40, e107_41, e107_42, e107_43, e107_46, e107_47, e107_50, e107_51, e107_52, e107_52a, e107_54, e107_55, e107_56, e107_58, e107_59, e107_60, zpush_some, zpush_none, true_or, or_true, true_and, and_true, ↓reduceIte, zq_ite, zq_itel, hlt, nx_xor, hbt]
      simp only [e107_61, e107_61a, e107_64, nI_1]
      exact e
    · obtain ⟨c1, c2, c3⟩ := cor_t a ha b hb w hw4 ht
      rw [ht, Bool.true_and, ← c3] at e
      have hbt := hbt.trans (eq_false (by rw [ht]; decide))
      have hz := and_pow0 (x := L 14 5) (j := 16 * w + cor a b w) (by omega)
      rw [hB _ hcl w hw4] at hz
      cases hbk : B (lk (cor a b w) w)
      · have hz := hz.trans (eq_true hbk)
        rw [hbk] at e
        simp only [e107_8, e107_10, e107_11, e107_14, e107_15, e107_16, e107_17, e107_19, e107_20, e107_21, e107_22, e107_25, e107_27, e107_28, e107_31, e107_34, e107_35, e107_37, e107_40, e107_41, e107_42, e107_43, e107_46, e107_47, e107_50, e107_51, e107_52, e107_52a, e107_54, e107_55, e107_56, e107_58, e107_59, e107_60, zpush_some, zpush_none, true_or, or_true, true_and, and_true, ↓reduceIte, zq_ite, zq_itel, hlt, nx_xor, hbt, zo_3, zr_3_5, zo_14, s_W_arc hcl hw4, lg_0, hz, not_true_eq_false, nI_1]
        simp only [h_flip _ hcl _ hw4]
        simp only [e107_61, e107_61a, e107_64, nI_1]
        exact e
      · have hz := hz.trans (eq_false (by rw [hbk]; decide))
        rw [hbk] at e
        simp only [e107_8, e107_10, e107_11, e107_14, e107_15, e107_16, e107_17, e107_19, e107_20, e107_21, e107_22, e107_25, e107_27, e107_28, e107_31, e107_34, e107_35, e107_37, e107_40, e107_41, e107_42, e107_43, e107_46, e107_47, e107_50, e107_51, e107_52, e107_52a, e107_54, e107_55, e107_56, e107_58, e107_59, e107_60, zpush_some, zpush_none, true_or, or_true, true_and, and_true, ↓reduceIte, zq_ite, zq_itel, hlt, nx_xor, hbt, zo_3, zr_3_5, zo_14, s_W_arc hcl hw4, lg_0, hz, not_false_eq_true, Int32.add_zero]
        simp only [h_flip _ hcl _ hw4]
        simp only [e107_61, e107_61a, e107_64, nI_1]
        exact e
theorem s_X_way (hB : AB (L 14 5) B) (ha : a < 16) (hb : b < 16) : zV n (d + 1) 107 0 [.ref 3, .int (nI a), .int (nI b), .null, .null, .null] [] I L Q ↔ Q (some (.int (nI (wc B a b 4)))) I L := by
  have R := l_X_way (n := n) (d := d) (I := I) (L := L) (Q := Q) hB ha hb 4 0 rfl
  rw [(cor_0 a ha b hb).1] at R
  simp only [e107_0, e107_1, e107_2, e107_3, e107_3a, e107_5, e107_6, e107_6a, zpush_some, zpush_none, true_or, or_true, true_and, and_true, ↓reduceIte, zq_ite, zq_itel]
  exact R
theorem l_X_pow (hp : p ≤ 12) {v1 v2 : Value} : ∀ r k, k + r = N → N < 100 → (zV n (d + 2) 106 61 [.ref 3, v1, v2, .int (nI p), .int (nI N), .long (lN ((12 - p) ^ k)), .null, .long (lN (12 ^ k)), .null, .int (nI k)] [] I L Q ↔ zV n (d + 2) 106 92 [.ref 3, v1, v2, .int (nI p), .int (nI N), .long (lN ((12 - p) ^ N)), .null, .long (lN (12 ^ N)), .null, .int (nI N)] [] I L Q) := by
  have ep : (12 : Int32) - nI p = nI (12 - p) := pk_sub (a := 12) hp
  intro r
  induction r with
  | zero =>
    intro k hk hN
    have e : k = N := by omega
    subst e
    simp only [e106_61, e106_63, e106_65, zpush_some, zpush_none, true_or, or_true, true_and, and_true, ↓reduceIte, zq_ite, zq_itel, Int32.le_refl]
  | succ r ih =>
    intro k hk hN
    have hlt : (nI N ≤ nI k) = False := eq_false (nI_ge (by omega) (by omega))
    have e1 : lN ((12 - p) ^ k) * lN (12 - p) = lN ((12 - p) ^ (k + 1)) := by rw [lN_mul, Nat.pow_succ]
    have e2 : lN (12 ^ k) * 12 = lN (12 ^ (k + 1)) := by rw [show (12 : Int64) = lN 12 from rfl, lN_mul, Nat.pow_succ]
    simp only [e106_61, e106_63, e106_65, e106_68, e106_70, e106_72, e106_73, e106_74, e106_75, e106_76, e106_76a, e106_78, e106_80, e106_83, e106_84, zpush_some, zpush_none, true_or, or_true, true_and, and_true, ↓reduceIte, zq_ite, zq_itel, hlt, ep, nI_l (show 12 - p < 2 ^ 31 by omega), e1, e2]
    simp only [e106_86, e106_89, nI_1]
    exact ih (k + 1) (by omega) hN
theorem upo_f (ht : (a ^^^ b).testBit w = false) : upo B a b p (w + 1) = upo B a b p w ∧ pcn a b (w + 1) = pcn a b w ∧ wc B a b (w + 1) = wc B a b w := by
  have e1 : pcn a b (w + 1) = pcn a b w := by rw [pcn, ht]; rfl
  have e2 : wc B a b (w + 1) = wc B a b w := by rw [wc, ht]; rfl
  exact ⟨by unfold upo; rw [e1, e2], e1, e2⟩
theorem upo_t (ht : (a ^^^ b).testBit w = true) : upo B a b p (w + 1) = upo B a b p w * (if B (lk (cor a b w) w) then 0 else 12 - p) ∧ pcn a b (w + 1) = pcn a b w + 1 ∧ wc B a b (w + 1) = wc B a b w + (if B (lk (cor a b w) w) then 0 else 1) := by
  have h0 := wc_le B a b w
  have e1 : pcn a b (w + 1) = pcn a b w + 1 := by rw [pcn, ht]; rfl
  cases hb : B (lk (cor a b w) w)
  · have e2 : wc B a b (w + 1) = wc B a b w + 1 := by rw [wc, ht, hb]; rfl
    refine ⟨?_, e1, by rw [e2]; rfl⟩
    unfold upo
    rw [e1, e2]
    by_cases g : wc B a b w < pcn a b w
    · rw [if_pos g, if_pos (by omega), Nat.zero_mul]
    · rw [if_neg g, if_neg (by omega), Nat.pow_succ]; rfl
  · have e2 : wc B a b (w + 1) = wc B a b w := by rw [wc, ht, hb]; rfl
    refine ⟨?_, e1, by rw [e2]; rfl⟩
    unfold upo
    rw [e1, e2, if_pos (show wc B a b w < pcn a b w + 1 by omega)]
    rfl
theorem l_M_odds (hx : I 70 2 = x) (hp : p ≤ 12) (ha : a < 16) (hb : b < 16) {v1 : Value} : ∀ r w a9, w + r = 4 → (∀ a9, zV n (d + 2) 197 109 [.ref 62, v1, .int (nI b), .int (nI p), .long (lN (upo (bt x) a b p 4)), .null, .long (lN (12 ^ pcn a b 4)), .null, .int (nI b), a9] [] I L Q) → zV n (d + 2) 197 41 [.ref 62, v1, .int (nI b), .int (nI p), .long (lN (upo (bt x) a b p w)), .null, .long (lN (12 ^ pcn a b w)), .null, .int (nI (cor a b w)), a9] [] I L Q := by
  have ep : (12 : Int32) - nI p = nI (12 - p) := pk_sub (a := 12) hp
  intro r
  induction r with
  | zero =>
    intro w a9 hw hQ
    have e : w = 4 := by omega
    subst e
    rw [(cor_0 a ha b hb).2]
    simp only [e197_41, e197_43, e197_44, zpush_some, zpush_none, true_or, or_true, true_and, and_true, ↓reduceIte, zq_ite, zq_itel]
    exact hQ _
  | succ r ih =>
    intro w a9 hw hQ
    have hw4 : w < 4 := by omega
    have hcl := cor_lt a ha b hb w (by omega)
    cases ht : (a ^^^ b).testBit w
    · have := ih (w + 1) a9 (by omega) hQ
      obtain ⟨u1, u2, u3⟩ := upo_f (B := bt x) (p := p) ht
      rw [u1, u2, cor_f a ha b hb w hw4 ht] at this
      exact this
    · obtain ⟨c1, c2, c3⟩ := cor_t a ha b hb w hw4 ht
      obtain ⟨u1, u2, u3⟩ := upo_t (B := bt x) (p := p) ht
      have ne : (nI (cor a b w) = nI b) = False := (nI_eqN (by omega) (by omega)).trans (eq_false c1)
      have nx := ih (w + 1) (.int (nI w)) (by omega) hQ
      rw [u1, u2, ← c3] at nx
      have e2 : lN (12 ^ pcn a b w) * 12 = lN (12 ^ (pcn a b w + 1)) := by rw [show (12 : Int64) = lN 12 from rfl, lN_mul, Nat.pow_succ]
      have hlk := lk_lt _ hcl w hw4
      have wyw : wy w = nI w := if_pos hw4
      cases hbk : bt x (lk (cor a b w) w)
      · rw [hbk] at nx
        have e1 : lN (upo (bt x) a b p w) * lN (12 - p) = lN (upo (bt x) a b p w * (12 - p)) := lN_mul _ _
        simp only [e197_41, e197_43, e197_44, e197_47, e197_49, e197_50, e197_51, e197_54, e197_54a, e197_56, e197_58, e197_59, e197_62, e197_63, e197_64, e197_66, e197_68, e197_71, e197_74, e197_77, e197_78, e197_81, e197_83, e197_84, e197_85, e197_86, e197_87, e197_89, e197_91, e197_94, e197_95, e197_97, e197_99, e197_100, e197_102, e197_103, e197_104, zpush_some, zpush_none, true_or, or_true, true_and, and_true, ↓reduceIte, zq_ite, zq_itel, ne, nx_xor, s_M_lowest (xor_lt16 hcl hb), c2, wyw, zo_62, zr_62_16, zn_70, zl_70, zi_2, zt_2, Nat.reduceLT, decide_true, hx, s_M_linkAt hcl hw4, s_M_hasN x hlk, hbk, zb_f, ep, nI_l (show 12 - p < 2 ^ 31 by omega), e1, e2]
        simp only [h_flip _ hcl _ hw4]
        simp only [e197_106, zpush_some, zpush_none, true_or, or_true, true_and, and_true, ↓reduceIte, zq_ite, zq_itel]
        exact nx
      · rw [hbk] at nx
        have e1 : lN (upo (bt x) a b p w) * 0 = lN (upo (bt x) a b p w * 0) := by rw [show (0 : Int64) = lN 0 from rfl, lN_mul]
        simp only [e197_41, e197_43, e197_44, e197_47, e197_49, e197_50, e197_51, e197_54, e197_54a, e197_56, e197_58, e197_59, e197_62, e197_63, e197_64, e197_66, e197_68, e197_71, e197_74, e197_77, e197_78, e197_81, e197_83, e197_84, e197_85, e197_86, e197_87, e197_89, e197_91, e197_94, e197_95, e197_97, e197_99, e197_100, e197_102, e197_103, e197_104, zpush_some, zpush_none, true_or, or_true, true_and, and_true, ↓reduceIte, zq_ite, zq_itel, ne, nx_xor, s_M_lowest (xor_lt16 hcl hb), c2, wyw, zo_62, zr_62_16, zn_70, zl_70, zi_2, zt_2, Nat.reduceLT, decide_true, hx, s_M_linkAt hcl hw4, s_M_hasN x hlk, hbk, zb_t, zz_1, e1, e2]
        simp only [h_flip _ hcl _ hw4]
        simp only [e197_106, zpush_some, zpush_none, true_or, or_true, true_and, and_true, ↓reduceIte, zq_ite, zq_itel]
        exact nx
theorem l_M_mid (hx : I 70 2 = x) (ha : a < 16) (hb : b < 16) {v1 : Value} {v3 : Int32} : ∀ r w a6, w + r = 4 → (∀ a6, zV n (d + 2) 199 94 [.ref 62, v1, .int (nI b), .int v3, .int (nI (wc (bt x) a b 4)), .int (nI b), a6] [] I L Q) → zV n (d + 2) 199 38 [.ref 62, v1, .int (nI b), .int v3, .int (nI (wc (bt x) a b w)), .int (nI (cor a b w)), a6] [] I L Q := by
  intro r
  induction r with
  | zero =>
    intro w a9 hw hQ
    have e : w = 4 := by omega
    subst e
    rw [(cor_0 a ha b hb).2]
    simp only [e199_38, e199_40, e199_41, zpush_some, zpush_none, true_or, or_true, true_and, and_true, ↓reduceIte, zq_ite, zq_itel]
    exact hQ _
  | succ r ih =>
    intro w a9 hw hQ
    have hw4 : w < 4 := by omega
    have hcl := cor_lt a ha b hb w (by omega)
    cases ht : (a ^^^ b).testBit w
    · have := ih (w + 1) a9 (by omega) hQ
      obtain ⟨u1, u2, u3⟩ := upo_f (B := bt x) (p := 0) ht
      rw [u3, cor_f a ha b hb w hw4 ht] at this
      exact this
    · obtain ⟨c1, c2, c3⟩ := cor_t a ha b hb w hw4 ht
      obtain ⟨u1, u2, u3⟩ := upo_t (B := bt x) (p := 0) ht
      have ne : (nI (cor a b w) = nI b) = False := (nI_eqN (by omega) (by omega)).trans (eq_false c1)
      have nx := ih (w + 1) (.int (nI w)) (by omega) hQ
      rw [u3, ← c3] at nx
      have hlk := lk_lt _ hcl w hw4
      have wyw : wy w = nI w := if_pos hw4
      cases hbk : bt x (lk (cor a b w) w)
      · rw [hbk] at nx
        simp only [e199_38, e199_40, e199_41, e199_44, e199_46, e199_47, e199_48, e199_51, e199_51a, e199_53, e199_55, e199_56, e199_59, e199_60, e199_61, e199_63, e199_65, e199_68, e199_71, e199_74, e199_75, e199_78, e199_79, e199_80, e199_82, e199_84, e199_85, e199_87, e199_88, e199_89, e199_89a, zpush_some, zpush_none, true_or, or_true, true_and, and_true, ↓reduceIte, zq_ite, zq_itel, ne, nx_xor, s_M_lowest (xor_lt16 hcl hb), c2, wyw, zo_62, zr_62_16, zn_70, zl_70, zi_2, zt_2, Nat.reduceLT, decide_true, hx, s_M_linkAt hcl hw4, s_M_hasN x hlk, hbk, zb_f, nI_1]
        simp only [h_flip _ hcl _ hw4]
        simp only [e199_91, zpush_some, zpush_none, true_or, or_true, true_and, and_true, ↓reduceIte, zq_ite, zq_itel]
        exact nx
      · rw [hbk] at nx
        simp only [e199_38, e199_40, e199_41, e199_44, e199_46, e199_47, e199_48, e199_51, e199_51a, e199_53, e199_55, e199_56, e199_59, e199_60, e199_61, e199_63, e199_65, e199_68, e199_71, e199_74, e199_75, e199_78, e199_79, e199_80, e199_82, e199_84, e199_85, e199_87, e199_88, e199_89, e199_89a, zpush_some, zpush_none, true_or, or_true, true_and, and_true, ↓reduceIte, zq_ite, zq_itel, ne, nx_xor, s_M_lowest (xor_lt16 hcl hb), c2, wyw, zo_62, zr_62_16, zn_70, zl_70, zi_2, zt_2, Nat.reduceLT, decide_true, hx, s_M_linkAt hcl hw4, s_M_hasN x hlk, hbk, zb_t, zz_1, Int32.add_zero]
        simp only [h_flip _ hcl _ hw4]
        simp only [e199_91, zpush_some, zpush_none, true_or, or_true, true_and, and_true, ↓reduceIte, zq_ite, zq_itel]
        exact nx
theorem p_odds (h : Inv I L) (a b w : Int32) : zV n (d + 3) 106 0 [.ref 3, .int a, .int b, .int w, .null, .null, .null, .null, .null, .null] [] I L (fun v1 I1 L1 => zV n (d + 3) 197 0 [.ref 62, .int a, .int b, .int w, .null, .null, .null, .null, .null, .null] [] I1 L1 (fun v2 I2 L2 => same v1 v2 ∧ Inv I2 L2)) := by
  obtain ⟨m, K, s, hm, hok, ht, hX, hM, hK⟩ := h.view
  rcases rng a 15 (by decide) (a := 16) (b := 15) rfl rfl with g1 | ⟨g1, g2, g3⟩ | ⟨i, hi, rfl, g1, g2, g3⟩
  · simp only [e106_0, e106_1, e106_4, e106_7, e106_8, e106_11, e106_14, e106_15, e106_18, e106_19, e106_21, e106_24, e106_25, e197_0, e197_1, e197_2, e197_4, e197_7, e197_10, e197_11, e197_12, e197_14, e197_17, e197_20, e197_21, e197_22, e197_24, e197_27, e197_30, e197_31, zpush_some, zpush_none, true_or, or_true, true_and, and_true, ↓reduceIte, zq_ite, zq_itel, s_M_in, s_X_isCorner, g1, not_true_eq_false]
    exact ⟨same_i, h⟩
  · simp only [e106_0, e106_1, e106_4, e106_7, e106_8, e106_11, e106_14, e106_15, e106_18, e106_19, e106_21, e106_24, e106_25, e197_0, e197_1, e197_2, e197_4, e197_7, e197_10, e197_11, e197_12, e197_14, e197_17, e197_20, e197_21, e197_22, e197_24, e197_27, e197_30, e197_31, zpush_some, zpush_none, true_or, or_true, true_and, and_true, ↓reduceIte, zq_ite, zq_itel, s_M_in, s_X_isCorner, g1, g2, g3, not_true_eq_false]
    exact ⟨same_i, h⟩
  · rcases rng b 15 (by decide) (a := 16) (b := 15) rfl rfl with f1 | ⟨f1, f2, f3⟩ | ⟨j, hj, rfl, f1, f2, f3⟩
    · simp only [e106_0, e106_1, e106_4, e106_7, e106_8, e106_11, e106_14, e106_15, e106_18, e106_19, e106_21, e106_24, e106_25, e197_0, e197_1, e197_2, e197_4, e197_7, e197_10, e197_11, e197_12, e197_14, e197_17, e197_20, e197_21, e197_22, e197_24, e197_27, e197_30, e197_31, zpush_some, zpush_none, true_or, or_true, true_and, and_true, ↓reduceIte, zq_ite, zq_itel, s_M_in, s_X_isCorner, g1, g2, g3, f1, zz_1, not_true_eq_false]
      exact ⟨same_i, h⟩
    · simp only [e106_0, e106_1, e106_4, e106_7, e106_8, e106_11, e106_14, e106_15, e106_18, e106_19, e106_21, e106_24, e106_25, e197_0, e197_1, e197_2, e197_4, e197_7, e197_10, e197_11, e197_12, e197_14, e197_17, e197_20, e197_21, e197_22, e197_24, e197_27, e197_30, e197_31, zpush_some, zpush_none, true_or, or_true, true_and, and_true, ↓reduceIte, zq_ite, zq_itel, s_M_in, s_X_isCorner, g1, g2, g3, f1, f2, f3, zz_1, not_true_eq_false]
      exact ⟨same_i, h⟩
    · rcases rng w 12 (by decide) (a := 13) (b := 12) rfl rfl with k1 | ⟨k1, k2, k3⟩ | ⟨p, hp, rfl, k1, k2, k3⟩
      · simp only [e106_0, e106_1, e106_4, e106_7, e106_8, e106_11, e106_14, e106_15, e106_18, e106_19, e106_21, e106_24, e106_25, e197_0, e197_1, e197_2, e197_4, e197_7, e197_10, e197_11, e197_12, e197_14, e197_17, e197_20, e197_21, e197_22, e197_24, e197_27, e197_30, e197_31, zpush_some, zpush_none, true_or, or_true, true_and, and_true, ↓reduceIte, zq_ite, zq_itel, s_M_in, s_X_isCorner, g1, g2, g3, f1, f2, f3, zz_1, k1, not_true_eq_false]
        exact ⟨same_i, h⟩
      · have k4 : (w ≤ 12) = False := eq_false (by rw [Int32.not_le]; exact of_eq_true k3)
        simp only [e106_0, e106_1, e106_4, e106_7, e106_8, e106_11, e106_14, e106_15, e106_18, e106_19, e106_21, e106_24, e106_25, e197_0, e197_1, e197_2, e197_4, e197_7, e197_10, e197_11, e197_12, e197_14, e197_17, e197_20, e197_21, e197_22, e197_24, e197_27, e197_30, e197_31, zpush_some, zpush_none, true_or, or_true, true_and, and_true, ↓reduceIte, zq_ite, zq_itel, s_M_in, s_X_isCorner, g1, g2, g3, f1, f2, f3, zz_1, k1, k3, k4, not_true_eq_false]
        exact ⟨same_i, h⟩
      · have k4 : (nI p ≤ 12) = True := eq_true (by rw [← Int32.not_lt]; exact of_eq_false k3)
        have hB := XC_B hX
        have hx16 := xor_lt16 hi hj
        have hwl := wc_le (bt s.2.2.2.1) i j 4
        have hpp := pcn_4 i hi j hj
        have hm2 : ∀ (L' : zl) u v, L' 3 13 = lN (u / Nat.gcd u v) → L' 3 14 = lN (v / Nat.gcd u v) → (∀ k j, (k = 9 ∨ k = 14) → L' k j = L k j) → upo (bt s.2.2.2.1) i j p 4 / Nat.gcd (upo (bt s.2.2.2.1) i j p 4) (12 ^ pcn i j 4) = u / Nat.gcd u v → 12 ^ pcn i j 4 / Nat.gcd (upo (bt s.2.2.2.1) i j p 4) (12 ^ pcn i j 4) = v / Nat.gcd u v → eun 100 (upo (bt s.2.2.2.1) i j p 4) (12 ^ pcn i j 4) = true → upo (bt s.2.2.2.1) i j p 4 < 2 ^ 20 → zV n (d + 3) 197 0 [.ref 62, .int (nI i), .int (nI j), .int (nI p), .null, .null, .null, .null, .null, .null] [] I L' (fun v2 I2 L2 => same (some (.int 1)) v2 ∧ Inv I2 L2) := fun L' u v l1 l2 l3 q1 q2 he hu => by
          have h12 := (eun_odds p (by omega) (pcn i j 4) (by omega)).2.2
          have R := l_M_odds (n := n) (d := d + 1) (I := I) (L := L') (Q := fun v2 I2 L2 => same (some (.int 1)) v2 ∧ Inv I2 L2) (v1 := .int (nI i)) (MC_x hM) (show p ≤ 12 by omega) hi hj 4 0 .null rfl (fun a9 => by
            simp only [e197_109, e197_110, e197_112, e197_114, e197_117, zpush_some, zpush_none, true_or, or_true, true_and, and_true, ↓reduceIte, zq_ite, zq_itel, zo_62, s_M_told (show upo (bt s.2.2.2.1) i j p 4 < 2 ^ 30 by omega) (show 12 ^ pcn i j 4 < 2 ^ 30 by omega) (Nat.pow_pos (by decide)) he]
            refine ⟨same_i, inv_frac h (fun _ _ => rfl) ?_ ?_ (fun k j hk => ?_)⟩
            · rw [zup_ne (by decide), zup_ne (by decide), zup_nj (by decide), zup_eq, q1, l1]
            · rw [zup_ne (by decide), zup_ne (by decide), zup_eq, q2, l2]
            · rw [zup_ne (by omega), zup_ne (by omega)]; exact l3 k j hk)
          rw [(cor_0 i hi j hj).1] at R
          simp only [e197_0, e197_1, e197_2, e197_4, e197_7, e197_10, e197_11, e197_12, e197_14, e197_17, e197_20, e197_21, e197_22, e197_24, e197_27, e197_30, e197_31, e197_32, e197_33, e197_35, e197_36, e197_38, e197_39, zpush_some, zpush_none, true_or, or_true, true_and, and_true, ↓reduceIte, zq_ite, zq_itel, s_M_in, g1, g3, f1, f3, k1, k3, zz_1, not_false_eq_true]
          exact R
        simp only [e106_0, e106_1, e106_4, e106_7, e106_8, e106_11, e106_14, e106_15, e106_18, e106_19, e106_21, e106_24, e106_25, e106_26, e106_27, e106_28, e106_29, e106_32, e106_34, e106_36, e106_37, e106_38, e106_39, e106_42, zpush_some, zpush_none, true_or, or_true, true_and, and_true, ↓reduceIte, zq_ite, zq_itel, s_X_isCorner, g1, g2, f1, f2, zz_1, k1, k4, zo_3, s_X_way hB hi hj, nx_xor, s_JI_bitCount (show i ^^^ j < 128 by omega)]
        rw [← hpp]
        by_cases g : wc (bt s.2.2.2.1) i j 4 < pcn i j 4
        · have g' : (nI (pcn i j 4) ≤ nI (wc (bt s.2.2.2.1) i j 4)) = False := (nI_leN (by omega) (by omega)).trans (eq_false (by omega))
          have F := s_X_frac (n := n) (d := d + 1) (I := I) (L := L) (a := 0) (b := 1) (Q := fun r I2 L2 => zV n (d + 3) 106 51 [.ref 3, .int (nI i), .int (nI j), .int (nI p), .int (nI (wc (bt s.2.2.2.1) i j 4)), .null, .null, .null, .null, .null] (zpush r []) I2 L2 (fun v1 I1 L1 => zV n (d + 3) 197 0 [.ref 62, .int (nI i), .int (nI j), .int (nI p), .null, .null, .null, .null, .null, .null] [] I1 L1 (fun v2 I2 L2 => same v1 v2 ∧ Inv I2 L2))) (by decide) (by decide) (by decide) (by decide +kernel)
          simp only [e106_42, e106_45, e106_46, e106_47, e106_48, zpush_some, zpush_none, true_or, or_true, true_and, and_true, ↓reduceIte, zq_ite, zq_itel, g', zo_3]
          refine F.mpr ?_
          simp only [e106_51, zpush_some, zpush_none, true_or, or_true, true_and, and_true, ↓reduceIte, zq_ite, zq_itel]
          have u0 : upo (bt s.2.2.2.1) i j p 4 = 0 := by unfold upo; rw [if_pos g]
          refine hm2 _ 0 1 ?_ ?_ (fun k j hk => ?_) ?_ ?_ ?_ ?_
          · rw [zup_nj (by decide), zup_eq]
          · rw [zup_eq]
          · rw [zup_ne (by omega), zup_ne (by omega)]
          · rw [u0, Nat.zero_div, Nat.zero_div]
          · rw [u0, Nat.gcd_zero_left, Nat.gcd_zero_left, Nat.div_self (Nat.pow_pos (by decide))]
          · rw [u0]; exact eun_0 _ (by omega)
          · rw [u0]; decide
        · have g' : (nI (pcn i j 4) ≤ nI (wc (bt s.2.2.2.1) i j 4)) = True := (nI_leN (by omega) (by omega)).trans (eq_true (by omega))
          have u0 : upo (bt s.2.2.2.1) i j p 4 = (12 - p) ^ pcn i j 4 := by unfold upo; rw [if_neg g, show wc (bt s.2.2.2.1) i j 4 = pcn i j 4 by omega]
          have eo := eun_odds p (by omega) (pcn i j 4) (by omega)
          have ewp : wc (bt s.2.2.2.1) i j 4 = pcn i j 4 := by omega
          have R := l_X_pow (n := n) (d := d + 1) (I := I) (L := L) (N := pcn i j 4) (p := p) (v1 := .int (nI i)) (v2 := .int (nI j)) (Q := fun v1 I1 L1 => zV n (d + 3) 197 0 [.ref 62, .int (nI i), .int (nI j), .int (nI p), .null, .null, .null, .null, .null, .null] [] I1 L1 (fun v2 I2 L2 => same v1 v2 ∧ Inv I2 L2)) (by omega) (pcn i j 4) 0 (by omega) (by omega)
          rw [ewp] at g' ⊢
          simp only [e106_42, e106_45, e106_46, e106_47, e106_48, e106_51, e106_52, e106_53, e106_53a, e106_55, e106_56, e106_58, e106_59, zpush_some, zpush_none, true_or, or_true, true_and, and_true, ↓reduceIte, zq_ite, zq_itel, g']
          refine R.mpr ?_
          simp only [e106_92, e106_93, e106_95, e106_97, e106_100, zpush_some, zpush_none, true_or, or_true, true_and, and_true, ↓reduceIte, zq_ite, zq_itel, zo_3, s_X_frac (show (12 - p) ^ pcn i j 4 < 2 ^ 30 by omega) (show 12 ^ pcn i j 4 < 2 ^ 30 by omega) (Nat.pow_pos (by decide)) eo.1]
          refine hm2 _ ((12 - p) ^ pcn i j 4) (12 ^ pcn i j 4) ?_ ?_ (fun k j hk => ?_) ?_ ?_ ?_ ?_
          · rw [zup_nj (by decide), zup_eq]
          · rw [zup_eq]
          · rw [zup_ne (by omega), zup_ne (by omega)]
          · rw [u0]
          · rw [u0]
          · rw [u0]; exact eo.1
          · rw [u0]; exact eo.2.1
theorem p_mid (h : Inv I L) (a b w : Int32) : zV n (d + 3) 110 0 [.ref 3, .int a, .int b, .int w] [] I L (fun v1 I1 L1 => zV n (d + 3) 199 0 [.ref 62, .int a, .int b, .int w, .null, .null, .null] [] I1 L1 (fun v2 I2 L2 => same v1 v2 ∧ Inv I2 L2)) := by
  obtain ⟨m, K, s, hm, hok, ht, hX, hM, hK⟩ := h.view
  rcases rng a 15 (by decide) (a := 16) (b := 15) rfl rfl with g1 | ⟨g1, g2, g3⟩ | ⟨i, hi, rfl, g1, g2, g3⟩
  · simp only [e110_0, e110_1, e110_4, e110_7, e110_8, e110_11, e110_14, e110_15, e110_18, e110_19, e110_21, e110_24, e110_25, e199_0, e199_1, e199_2, e199_4, e199_7, e199_10, e199_11, e199_12, e199_14, e199_17, e199_20, e199_21, e199_22, e199_24, e199_27, e199_30, e199_31, zpush_some, zpush_none, true_or, or_true, true_and, and_true, ↓reduceIte, zq_ite, zq_itel, s_M_in, s_X_isCorner, g1, not_true_eq_false]
    exact ⟨same_i, h⟩
  · simp only [e110_0, e110_1, e110_4, e110_7, e110_8, e110_11, e110_14, e110_15, e110_18, e110_19, e110_21, e110_24, e110_25, e199_0, e199_1, e199_2, e199_4, e199_7, e199_10, e199_11, e199_12, e199_14, e199_17, e199_20, e199_21, e199_22, e199_24, e199_27, e199_30, e199_31, zpush_some, zpush_none, true_or, or_true, true_and, and_true, ↓reduceIte, zq_ite, zq_itel, s_M_in, s_X_isCorner, g1, g2, g3, not_true_eq_false]
    exact ⟨same_i, h⟩
  · rcases rng b 15 (by decide) (a := 16) (b := 15) rfl rfl with f1 | ⟨f1, f2, f3⟩ | ⟨j, hj, rfl, f1, f2, f3⟩
    · simp only [e110_0, e110_1, e110_4, e110_7, e110_8, e110_11, e110_14, e110_15, e110_18, e110_19, e110_21, e110_24, e110_25, e199_0, e199_1, e199_2, e199_4, e199_7, e199_10, e199_11, e199_12, e199_14, e199_17, e199_20, e199_21, e199_22, e199_24, e199_27, e199_30, e199_31, zpush_some, zpush_none, true_or, or_true, true_and, and_true, ↓reduceIte, zq_ite, zq_itel, s_M_in, s_X_isCorner, g1, g2, g3, f1, zz_1, not_true_eq_false]
      exact ⟨same_i, h⟩
    · simp only [e110_0, e110_1, e110_4, e110_7, e110_8, e110_11, e110_14, e110_15, e110_18, e110_19, e110_21, e110_24, e110_25, e199_0, e199_1, e199_2, e199_4, e199_7, e199_10, e199_11, e199_12, e199_14, e199_17, e199_20, e199_21, e199_22, e199_24, e199_27, e199_30, e199_31, zpush_some, zpush_none, true_or, or_true, true_and, and_true, ↓reduceIte, zq_ite, zq_itel, s_M_in, s_X_isCorner, g1, g2, g3, f1, f2, f3, zz_1, not_true_eq_false]
      exact ⟨same_i, h⟩
    · rcases rng w 12 (by decide) (a := 13) (b := 12) rfl rfl with k1 | ⟨k1, k2, k3⟩ | ⟨p, hp, rfl, k1, k2, k3⟩
      · simp only [e110_0, e110_1, e110_4, e110_7, e110_8, e110_11, e110_14, e110_15, e110_18, e110_19, e110_21, e110_24, e110_25, e199_0, e199_1, e199_2, e199_4, e199_7, e199_10, e199_11, e199_12, e199_14, e199_17, e199_20, e199_21, e199_22, e199_24, e199_27, e199_30, e199_31, zpush_some, zpush_none, true_or, or_true, true_and, and_true, ↓reduceIte, zq_ite, zq_itel, s_M_in, s_X_isCorner, g1, g2, g3, f1, f2, f3, zz_1, k1, not_true_eq_false]
        exact ⟨same_i, h⟩
      · have k4 : (w ≤ 12) = False := eq_false (by rw [Int32.not_le]; exact of_eq_true k3)
        simp only [e110_0, e110_1, e110_4, e110_7, e110_8, e110_11, e110_14, e110_15, e110_18, e110_19, e110_21, e110_24, e110_25, e199_0, e199_1, e199_2, e199_4, e199_7, e199_10, e199_11, e199_12, e199_14, e199_17, e199_20, e199_21, e199_22, e199_24, e199_27, e199_30, e199_31, zpush_some, zpush_none, true_or, or_true, true_and, and_true, ↓reduceIte, zq_ite, zq_itel, s_M_in, s_X_isCorner, g1, g2, g3, f1, f2, f3, zz_1, k1, k3, k4, not_true_eq_false]
        exact ⟨same_i, h⟩
      · have k4 : (nI p ≤ 12) = True := eq_true (by rw [← Int32.not_lt]; exact of_eq_false k3)
        have hB := XC_B hX
        have hx16 := xor_lt16 hi hj
        have hwl := wc_le (bt s.2.2.2.1) i j 4
        have ep : (12 : Int32) - nI p = nI (12 - p) := pk_sub (a := 12) (by omega)
        have em := eun_mid p (by omega) (wc (bt s.2.2.2.1) i j 4) (by omega)
        have e1 : lN (wc (bt s.2.2.2.1) i j 4) * lN (12 - p) = lN (wc (bt s.2.2.2.1) i j 4 * (12 - p)) := lN_mul _ _
        have F := fun n d I L Q => s_X_frac (n := n) (d := d) (I := I) (L := L) (Q := Q) (b := 12) (show wc (bt s.2.2.2.1) i j 4 * (12 - p) < 2 ^ 30 by omega) (by decide) (by decide) em.1
        have F' : ∀ n d I L (Q : zq), zV n (d + 1) 108 0 [.ref 3, .long (lN (wc (bt s.2.2.2.1) i j 4 * (12 - p))), .null, .long 12, .null, .null, .null] [] I L Q ↔ Q (some (.int 1)) I (zup (zup L 3 13 (lN (wc (bt s.2.2.2.1) i j 4 * (12 - p) / Nat.gcd (wc (bt s.2.2.2.1) i j 4 * (12 - p)) 12))) 3 14 (lN (12 / Nat.gcd (wc (bt s.2.2.2.1) i j 4 * (12 - p)) 12))) := F
        simp only [e110_0, e110_1, e110_4, e110_7, e110_8, e110_11, e110_14, e110_15, e110_18, e110_19, e110_21, e110_24, e110_25, e110_26, e110_27, e110_28, e110_29, e110_30, e110_33, e110_34, e110_36, e110_37, e110_38, e110_39, e110_40, e110_43, e110_46, zpush_some, zpush_none, true_or, or_true, true_and, and_true, ↓reduceIte, zq_ite, zq_itel, s_X_isCorner, g1, g2, f1, f2, zz_1, k1, k4, zo_3, s_X_way hB hi hj, ep, nI_l (show wc (bt s.2.2.2.1) i j 4 < 2 ^ 31 by omega), nI_l (show 12 - p < 2 ^ 31 by omega), e1, F']
        have T := fun n d I L Q => s_M_told (n := n) (d := d) (I := I) (L := L) (Q := Q) (v := 12) (show wc (bt s.2.2.2.1) i j 4 * (12 - p) < 2 ^ 30 by omega) (by decide) (by decide) em.1
        have T' : ∀ n d I L (Q : zq), zV n d 198 0 [.ref 62, .long (lN (wc (bt s.2.2.2.1) i j 4 * (12 - p))), .null, .long 12, .null, .null, .null, .null, .null, .null, .null] [] I L Q ↔ Q (some (.int 1)) I (zup (zup L 62 7 (lN (wc (bt s.2.2.2.1) i j 4 * (12 - p) / Nat.gcd (wc (bt s.2.2.2.1) i j 4 * (12 - p)) 12))) 62 8 (lN (12 / Nat.gcd (wc (bt s.2.2.2.1) i j 4 * (12 - p)) 12))) := T
        have el : (12 : Int64) - lN p = lN (12 - p) := lN_sub (a := 12) (by omega)
        have R := l_M_mid (n := n) (d := d + 1) (I := I) (L := zup (zup L 3 13 (lN (wc (bt s.2.2.2.1) i j 4 * (12 - p) / Nat.gcd (wc (bt s.2.2.2.1) i j 4 * (12 - p)) 12))) 3 14 (lN (12 / Nat.gcd (wc (bt s.2.2.2.1) i j 4 * (12 - p)) 12))) (Q := fun v2 I2 L2 => same (some (.int 1)) v2 ∧ Inv I2 L2) (v1 := .int (nI i)) (v3 := nI p) (MC_x hM) hi hj 4 0 .null rfl (fun a6 => by
          simp only [e199_94, e199_95, e199_97, e199_98, e199_101, e199_102, e199_103, e199_104, e199_105, e199_108, e199_111, zpush_some, zpush_none, true_or, or_true, true_and, and_true, ↓reduceIte, zq_ite, zq_itel, zo_62, nI_l (show wc (bt s.2.2.2.1) i j 4 < 2 ^ 31 by omega), nI_l (show p < 2 ^ 31 by omega), el, e1, T']
          refine ⟨same_i, inv_frac h (fun _ _ => rfl) ?_ ?_ (fun k j hk => ?_)⟩
          · rw [zup_ne (by decide), zup_ne (by decide), zup_nj (by decide), zup_eq, zup_nj (by decide), zup_eq]
          · rw [zup_ne (by decide), zup_ne (by decide), zup_eq, zup_eq]
          · rw [zup_ne (by omega), zup_ne (by omega), zup_ne (by omega), zup_ne (by omega)])
        rw [(cor_0 i hi j hj).1] at R
        simp only [e199_0, e199_1, e199_2, e199_4, e199_7, e199_10, e199_11, e199_12, e199_14, e199_17, e199_20, e199_21, e199_22, e199_24, e199_27, e199_30, e199_31, e199_32, e199_33, e199_35, e199_36, e199_36a, zpush_some, zpush_none, true_or, or_true, true_and, and_true, ↓reduceIte, zq_ite, zq_itel, s_M_in, g1, g3, f1, f3, k1, k3, zz_1, not_false_eq_true]
        exact R
end
