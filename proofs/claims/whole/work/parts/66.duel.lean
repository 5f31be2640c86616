/-! DUEL -/
def fdS (V : Int32 → Nat) (x : Int32) : Nat → Nat
  | 0 => V x
  | l + 1 => if bt x l then fdS V x l else max (fdS V x l) (V (tog x l))
def fdM (V : Int32 → Nat) (x : Int32) : Nat → Nat
  | 0 => V x
  | l + 1 => if bt x l then min (fdM V x l) (V (tog x l)) else fdM V x l
/-- what a turn is worth: of one who snaps (false), who mends (true) -/
def VT (a b : Nat) : Nat → Bool → Int32 → Nat
  | 0, _, x => dN (bt x) a b
  | t + 1, false, x => fdS (VT a b t true) x 32
  | t + 1, true, x => fdM (VT a b t false) x 32
theorem fdS_rng {V : Int32 → Nat} {lo : Nat} (h : ∀ x, lo ≤ V x ∧ V x ≤ 16) (x : Int32) : ∀ l, lo ≤ fdS V x l ∧ fdS V x l ≤ 16
  | 0 => h x
  | l + 1 => by
    rw [fdS]
    have h1 := fdS_rng h x l
    have h2 := h (tog x l)
    split
    · exact h1
    · omega
theorem fdM_rng {V : Int32 → Nat} {lo : Nat} (h : ∀ x, lo ≤ V x ∧ V x ≤ 16) (x : Int32) : ∀ l, lo ≤ fdM V x l ∧ fdM V x l ≤ 16
  | 0 => h x
  | l + 1 => by
    rw [fdM]
    have h1 := fdM_rng h x l
    have h2 := h (tog x l)
    split
    · omega
    · exact h1
theorem fdS_up {V : Int32 → Nat} {x : Int32} {l : Nat} : ∀ r, fdS V x l ≤ fdS V x (l + r)
  | 0 => Nat.le_refl _
  | r + 1 => by
    show _ ≤ fdS V x (l + r + 1)
    rw [fdS]
    have := fdS_up (V := V) (x := x) (l := l) r
    split
    · exact this
    · omega
theorem fdM_dn {V : Int32 → Nat} {x : Int32} {l : Nat} : ∀ r, fdM V x (l + r) ≤ fdM V x l
  | 0 => Nat.le_refl _
  | r + 1 => by
    show fdM V x (l + r + 1) ≤ _
    rw [fdM]
    have := fdM_dn (V := V) (x := x) (l := l) r
    split
    · omega
    · exact this
theorem pop_tri : ∀ a, a < 16 → ∀ v, v < 16 → ∀ w, w < 4 → pop7 (a ^^^ v) ≤ pop7 (a ^^^ (v ^^^ 2 ^ w)) + 1 := by decide +kernel
theorem pop_le4 : ∀ a, a < 16 → ∀ v, v < 16 → pop7 (a ^^^ v) ≤ 4 := by decide +kernel
theorem pop_0 : ∀ a, a < 16 → pop7 (a ^^^ a) = 0 := by decide +kernel
theorem lev_pop {B : Nat → Bool} {a : Nat} (ha : a < 16) : ∀ k v, v < 16 → lev B a k v = true → pop7 (a ^^^ v) ≤ k := by
  intro k
  induction k with
  | zero =>
    intro v hv h
    have : v = a := of_decide_eq_true h
    subst this
    rw [pop_0 _ hv]
    exact Nat.le_refl _
  | succ k ih =>
    intro v hv h
    rcases lev_cases h with g | ⟨w, hw, g, _⟩
    · have := ih v hv g
      omega
    · have h1 := ih _ (xor_pow16 v hv w hw).1 g
      have h2 := pop_tri a ha v hv w hw
      omega
theorem dN_rng {a b : Nat} (ha : a < 16) (hb : b < 16) (x : Int32) : pop7 (a ^^^ b) ≤ dN (bt x) a b ∧ dN (bt x) a b ≤ 16 := by
  have h1 := dN_16 (B := bt x) (a := a) (v := b)
  have h2 := pop_le4 a ha b hb
  refine ⟨?_, h1⟩
  by_cases g : dN (bt x) a b < 16
  · exact lev_pop ha _ b hb (dN_lt g)
  · omega
theorem VT_rng {a b : Nat} (ha : a < 16) (hb : b < 16) : ∀ t s x, pop7 (a ^^^ b) ≤ VT a b t s x ∧ VT a b t s x ≤ 16
  | 0, _, x => dN_rng ha hb x
  | t + 1, false, x => fdS_rng (fun y => VT_rng ha hb t true y) x 32
  | t + 1, true, x => fdM_rng (fun y => VT_rng ha hb t false y) x 32
theorem WH_snap {wh : Int64} {x : Int32} {l : Nat} (hl : l < 32) (h : WH wh (bt x)) (hb : bt x l = false) : WH (wh &&& (arcsL l ^^^ (-1))) (bt (tog x l)) := by
  intro c hc w hw
  have hm : bl (-1) (16 * w + c) = true := (by decide +kernel : ∀ i, i < 64 → bl (-1) i = true) _ (by omega)
  rw [bl_and, bl_xor, bl_arcs hl hc hw, hm, h c hc w hw, bt_tog x hl (lk_lt c hc w hw)]
  by_cases e : lk c w = l
  · subst e; rw [hb]; simp
  · simp [e]
theorem WH_mend {wh : Int64} {x : Int32} {l : Nat} (hl : l < 32) (h : WH wh (bt x)) (hb : bt x l = true) : WH (wh ||| arcsL l) (bt (tog x l)) := by
  intro c hc w hw
  rw [bl_or, bl_arcs hl hc hw, h c hc w hw, bt_tog x hl (lk_lt c hc w hw)]
  by_cases e : lk c w = l
  · subst e; rw [hb]; simp
  · simp [e]
theorem WH_and {wh : Int64} {x : Int32} {l : Nat} (hl : l < 32) (h : WH wh (bt x)) : (wh &&& arcsL l = 0) = (bt x l = true) := by
  rw [and_arcs (B := fun l => !bt x l) h hl]
  simp
def CL (V r fl ce : Nat) : Prop := min (max V fl) ce = min (max r fl) ce
theorem mxI {a b : Nat} (ha : a ≤ 16) (hb : b ≤ 16) : (if nI a < nI b then nI b else nI a) = nI (max a b) := by
  rw [ite_congr (nI_ltN (by omega) (by omega)) (fun _ => rfl) (fun _ => rfl)]
  split
  · rw [Nat.max_eq_right (by omega)]
  · rw [Nat.max_eq_left (by omega)]
theorem mnI {a b : Nat} (ha : a ≤ 16) (hb : b ≤ 16) : (if nI b < nI a then nI b else nI a) = nI (min a b) := by
  rw [ite_congr (nI_ltN (by omega) (by omega)) (fun _ => rfl) (fun _ => rfl)]
  split
  · rw [Nat.min_eq_right (by omega)]
  · rw [Nat.min_eq_left (by omega)]
section
variable {n d : Nat} {I I' : zi} {L L' : zl} {Q : zq} {K K' : Nat → Nat} {s s' s0 : Cs} {k m q i a b l N p j c e t fl ce lo : Nat} {wh : Int64} {B : Nat → Bool} {x : Int32} {V : Int32 → Nat}
/-- one turn, when the other's are known -/
def TOK (n d mi : Nat) (I : zi) (L : zl) (a b t lo : Nat) (V : Int32 → Nat) : Prop := ∀ (Q : zq) wh x fl ce, WH wh (bt x) → fl ≤ 16 → ce ≤ 16 → (∀ r, lo ≤ r → r ≤ 16 → CL (V x) r fl ce → Q (some (.int (nI r))) I L) → zV n d mi 0 [.long wh, .null, .int (nI a), .int (nI b), .int (nI t), .int (nI fl), .int (nI ce), .null, .null, .null, .null, .null] [] I L Q
theorem l_W_snap (hT : TOK n d 105 I L a b t lo V) (hd : ∃ d', d = d' + 2) (hW : WH wh (bt x)) (hfl : fl ≤ 16) (hce : ce ≤ 16) (hV : ∀ x, lo ≤ V x ∧ V x ≤ 16) (hQ : ∀ r, lo ≤ r → r ≤ 16 → CL (fdS V x 32) r fl ce → Q (some (.int (nI r))) I L) :
    ∀ r l y a9 a10 a11, l + r = 32 → lo ≤ y → y ≤ 16 → CL (fdS V x l) y fl ce → zV n (d + 1) 104 31 [.long wh, .null, .int (nI a), .int (nI b), .int (nI (t + 1)), .int (nI fl), .int (nI ce), .int (nI y), .int (nI l), a9, a10, a11] [] I L Q := by
  obtain ⟨d', rfl⟩ := hd
  have hT1 : nI (t + 1) - 1 = nI t := nI_pred t
  intro r
  induction r with
  | zero =>
    intro l y a9 a10 a11 hl hy1 hy2 hC
    have e : l = 32 := by omega
    subst e
    simp only [e104_31, e104_33, e104_35, e104_104, e104_106, zpush_some, zpush_none, true_or, or_true, true_and, and_true, ↓reduceIte, zq_ite, zq_itel, show nI 32 = (32 : Int32) from rfl, Int32.le_refl]
    exact hQ y hy1 hy2 hC
  | succ r ih =>
    intro l y a9 a10 a11 hl hy1 hy2 hC
    have hlt : ((32 : Int32) ≤ nI l) = False := eq_false (nI_ge (b := 32) (by omega) (by omega))
    have hl32 : l < 32 := by omega
    by_cases g : ce ≤ y
    · have g' : (nI ce ≤ nI y) = True := (nI_leN (by omega) (by omega)).trans (eq_true g)
      simp only [e104_31, e104_33, e104_35, e104_38, e104_40, e104_42, e104_104, e104_106, zpush_some, zpush_none, true_or, or_true, true_and, and_true, ↓reduceIte, zq_ite, zq_itel, hlt, g']
      refine hQ y hy1 hy2 ?_
      have hu := fdS_up (V := V) (x := x) (l := l) (r + 1)
      rw [hl] at hu
      unfold CL at hC ⊢
      omega
    · have g' : (nI ce ≤ nI y) = False := (nI_leN (by omega) (by omega)).trans (eq_false g)
      have ih' := ih (l + 1)
      rw [fdS] at ih'
      have hwa := WH_and hl32 hW
      cases hb : bt x l
      · rw [hb, if_neg Bool.false_ne_true] at ih'
        have hwa := hwa.trans (eq_false (by rw [hb]; decide))
        simp only [e104_31, e104_33, e104_35, e104_38, e104_40, e104_42, e104_45, e104_47, e104_50, e104_50a, e104_52, e104_53, e104_55, e104_56, e104_57, e104_58, e104_61, e104_62, e104_64, e104_67, e104_68, e104_69, e104_70, e104_71, e104_73, e104_74, e104_75, e104_77, e104_79, e104_82, e104_84, zpush_some, zpush_none, true_or, or_true, true_and, and_true, ↓reduceIte, zq_ite, zq_itel, hlt, g', s_W_arcsOf hl32, lg_0, hwa, hT1, mxI hy2 hfl]
        refine hT _ _ (tog x l) (max y fl) ce (WH_snap hl32 hW hb) (by omega) hce (fun z z1 z2 z3 => ?_)
        simp only [e104_84, e104_87, e104_89, e104_91, e104_93, e104_96, zpush_some, zpush_none, true_or, or_true, true_and, and_true, ↓reduceIte, zq_ite, zq_itel, mxI hy2 z2]
        simp only [e104_98, e104_98a, e104_101, nI_1]
        refine ih' (max y z) _ _ _ (by omega) (by omega) (by omega) ?_
        unfold CL at hC z3 ⊢
        omega
      · rw [hb, if_pos rfl] at ih'
        have hwa := hwa.trans (eq_true hb)
        simp only [e104_31, e104_33, e104_35, e104_38, e104_40, e104_42, e104_45, e104_47, e104_50, e104_50a, e104_52, e104_53, e104_55, e104_56, e104_57, e104_58, zpush_some, zpush_none, true_or, or_true, true_and, and_true, ↓reduceIte, zq_ite, zq_itel, hlt, g', s_W_arcsOf hl32, lg_0, hwa]
        simp only [e104_98, e104_98a, e104_101, nI_1]
        exact ih' y _ _ _ (by omega) hy1 hy2 hC
theorem l_W_mend (hT : TOK n d 104 I L a b t lo V) (hd : ∃ d', d = d' + 2) (hW : WH wh (bt x)) (hfl : fl ≤ 16) (hce : ce ≤ 16) (hV : ∀ x, lo ≤ V x ∧ V x ≤ 16) (hQ : ∀ r, lo ≤ r → r ≤ 16 → CL (fdM V x 32) r fl ce → Q (some (.int (nI r))) I L) :
    ∀ r l y a9 a10 a11, l + r = 32 → lo ≤ y → y ≤ 16 → CL (fdM V x l) y fl ce → zV n (d + 1) 105 31 [.long wh, .null, .int (nI a), .int (nI b), .int (nI (t + 1)), .int (nI fl), .int (nI ce), .int (nI y), .int (nI l), a9, a10, a11] [] I L Q := by
  obtain ⟨d', rfl⟩ := hd
  have hT1 : nI (t + 1) - 1 = nI t := nI_pred t
  intro r
  induction r with
  | zero =>
    intro l y a9 a10 a11 hl hy1 hy2 hC
    have e : l = 32 := by omega
    subst e
    simp only [e105_31, e105_33, e105_35, e105_100, e105_102, zpush_some, zpush_none, true_or, or_true, true_and, and_true, ↓reduceIte, zq_ite, zq_itel, show nI 32 = (32 : Int32) from rfl, Int32.le_refl]
    exact hQ y hy1 hy2 hC
  | succ r ih =>
    intro l y a9 a10 a11 hl hy1 hy2 hC
    have hlt : ((32 : Int32) ≤ nI l) = False := eq_false (nI_ge (b := 32) (by omega) (by omega))
    have hl32 : l < 32 := by omega
    by_cases g : y ≤ fl
    · have g' : (nI y ≤ nI fl) = True := (nI_leN (by omega) (by omega)).trans (eq_true g)
      simp only [e105_31, e105_33, e105_35, e105_38, e105_40, e105_42, e105_100, e105_102, zpush_some, zpush_none, true_or, or_true, true_and, and_true, ↓reduceIte, zq_ite, zq_itel, hlt, g']
      refine hQ y hy1 hy2 ?_
      have hu := fdM_dn (V := V) (x := x) (l := l) (r + 1)
      rw [hl] at hu
      unfold CL at hC ⊢
      omega
    · have g' : (nI y ≤ nI fl) = False := (nI_leN (by omega) (by omega)).trans (eq_false g)
      have ih' := ih (l + 1)
      rw [fdM] at ih'
      have hwa := WH_and hl32 hW
      cases hb : bt x l
      · rw [hb, if_neg Bool.false_ne_true] at ih'
        have hwa := hwa.trans (eq_false (by rw [hb]; decide))
        simp only [e105_31, e105_33, e105_35, e105_38, e105_40, e105_42, e105_45, e105_47, e105_50, e105_50a, e105_52, e105_53, e105_55, e105_56, e105_57, e105_58, zpush_some, zpush_none, true_or, or_true, true_and, and_true, ↓reduceIte, zq_ite, zq_itel, hlt, g', s_W_arcsOf hl32, lg_0, hwa, not_false_eq_true]
        simp only [e105_94, e105_94a, e105_97, nI_1]
        exact ih' y _ _ _ (by omega) hy1 hy2 hC
      · rw [hb, if_pos rfl] at ih'
        have hwa := hwa.trans (eq_true hb)
        have mc : (if nI ce < nI y then nI ce else nI y) = nI (min y ce) := mnI hy2 hce
        simp only [e105_31, e105_33, e105_35, e105_38, e105_40, e105_42, e105_45, e105_47, e105_50, e105_50a, e105_52, e105_53, e105_55, e105_56, e105_57, e105_58, e105_61, e105_62, e105_64, e105_65, e105_66, e105_67, e105_69, e105_70, e105_71, e105_73, e105_75, e105_77, e105_80, zpush_some, zpush_none, true_or, or_true, true_and, and_true, ↓reduceIte, zq_ite, zq_itel, hlt, g', s_W_arcsOf hl32, lg_0, hwa, not_true_eq_false, hT1, mc]
        refine hT _ _ (tog x l) fl (min y ce) (WH_mend hl32 hW hb) hfl (by omega) (fun z z1 z2 z3 => ?_)
        have mz : (if nI z < nI y then nI z else nI y) = nI (min y z) := mnI hy2 z2
        simp only [e105_80, e105_83, e105_85, e105_87, e105_89, e105_92, zpush_some, zpush_none, true_or, or_true, true_and, and_true, ↓reduceIte, zq_ite, zq_itel, mz]
        simp only [e105_94, e105_94a, e105_97, nI_1]
        refine ih' (min y z) _ _ _ (by omega) (by omega) (by omega) ?_
        unfold CL at hC z3 ⊢
        omega
theorem TOK_all (h2 : ∀ j, j < 4 → I 2 j = zLE4 j) (ha : a < 16) (hb : b < 16) : ∀ t, t ≤ 3 → TOK n (d + t + 3) 104 I L a b t (pop7 (a ^^^ b)) (VT a b t false) ∧ TOK n (d + t + 3) 105 I L a b t (pop7 (a ^^^ b)) (VT a b t true)
  | 0, _ => by
    have g : ((0 : Int32) < nI 0) = False := eq_false (by decide)
    refine ⟨fun Q wh x fl ce hW hfl hce hQ => ?_, fun Q wh x fl ce hW hfl hce hQ => ?_⟩
    · simp only [e104_0, e104_2, e104_5, e104_6, e104_7, e104_8, e104_11, zpush_some, zpush_none, true_or, or_true, true_and, and_true, ↓reduceIte, zq_ite, zq_itel, g, s_W_distance h2 hW ha hb]
      have := dN_rng ha hb x
      exact hQ _ this.1 this.2 rfl
    · simp only [e105_0, e105_2, e105_5, e105_6, e105_7, e105_8, e105_11, zpush_some, zpush_none, true_or, or_true, true_and, and_true, ↓reduceIte, zq_ite, zq_itel, g, s_W_distance h2 hW ha hb]
      have := dN_rng ha hb x
      exact hQ _ this.1 this.2 rfl
  | t + 1, ht => by
    obtain ⟨h1, h3⟩ := TOK_all h2 ha hb t (by omega)
    have g : ((0 : Int32) < nI (t + 1)) = True := eq_true (nI_lt (a := 0) (by omega) (by omega))
    have hT1 : nI (t + 1) - 1 = nI t := nI_pred t
    refine ⟨fun Q wh x fl ce hW hfl hce hQ => ?_, fun Q wh x fl ce hW hfl hce hQ => ?_⟩
    · simp only [show d + (t + 1) + 3 = d + t + 3 + 1 by omega]
      simp only [e104_0, e104_2, e104_5, e104_6, e104_7, e104_8, e104_11, e104_12, e104_13, e104_14, e104_15, e104_17, e104_18, e104_19, e104_21, e104_23, zpush_some, zpush_none, true_or, or_true, true_and, and_true, ↓reduceIte, zq_ite, zq_itel, g, hT1]
      refine h3 _ wh x fl ce hW hfl hce (fun r r1 r2 r3 => ?_)
      simp only [e104_23, e104_26, e104_28, e104_29, e104_29a, zpush_some, zpush_none, true_or, or_true, true_and, and_true, ↓reduceIte, zq_ite, zq_itel]
      exact l_W_snap (V := VT a b t true) h3 ⟨d + t + 1, by omega⟩ hW hfl hce (fun y => VT_rng ha hb t true y) hQ 32 0 r _ _ _ rfl r1 r2 r3
    · simp only [show d + (t + 1) + 3 = d + t + 3 + 1 by omega]
      simp only [e105_0, e105_2, e105_5, e105_6, e105_7, e105_8, e105_11, e105_12, e105_13, e105_14, e105_15, e105_17, e105_18, e105_19, e105_21, e105_23, zpush_some, zpush_none, true_or, or_true, true_and, and_true, ↓reduceIte, zq_ite, zq_itel, g, hT1]
      refine h1 _ wh x fl ce hW hfl hce (fun r r1 r2 r3 => ?_)
      simp only [e105_23, e105_26, e105_28, e105_29, e105_29a, zpush_some, zpush_none, true_or, or_true, true_and, and_true, ↓reduceIte, zq_ite, zq_itel]
      exact l_W_mend (V := VT a b t false) h1 ⟨d + t + 1, by omega⟩ hW hfl hce (fun y => VT_rng ha hb t false y) hQ 32 0 r _ _ _ rfl r1 r2 r3
/-- the check's turns -/
def MOK (n d mi : Nat) (I : zi) (L : zl) (as : List Value) (v : Nat) : Prop := ∀ (Q : zq) I1, (∀ k j, k ≠ 78 → k ≠ 79 → I1 k j = I k j) → (∀ I', (∀ k j, k ≠ 78 → k ≠ 79 → I' k j = I k j) → Q (some (.int (nI v))) I' L) → zV n d mi 0 as [] I1 L Q
theorem t_M_farBy (ha : a < 16) (hb : b < 16) : MOK n (d + 2) 194 I L [.ref 62, .int x, .int (nI a), .int (nI b)] (dN (bt x) a b) := by
  intro Q I1 h1 hQ
  have zj : zin (nI b) 16 = true := zin_ok hb (by decide)
  have cj : (nI b).toNatClampNeg = b := nI_clamp (by omega)
  simp only [e194_0, e194_1, e194_2, e194_3, zpush_some, zpush_none, true_or, or_true, true_and, and_true, ↓reduceIte, zq_ite, zq_itel, zo_62]
  refine t_M_layAway ha (fun I2 x1 x2 => ?_)
  have hI2 : ∀ k j, k ≠ 78 → k ≠ 79 → I2 k j = I k j := fun k j a b => by rw [x1 k j a b, h1 k j a b]
  by_cases g : dN (bt x) a b < 16
  · have hge : (0 ≤ nI (dN (bt x) a b)) = True := h0q (by omega)
    have x3 : I2 78 b = nI (dN (bt x) a b) := (x2 b hb).trans (aw_lt g)
    simp only [e194_3, e194_6, e194_7, e194_10, e194_11, e194_12, e194_15, e194_17, e194_20, e194_21, e194_24, e194_25, e194_26, zpush_some, zpush_none, true_or, or_true, true_and, and_true, ↓reduceIte, zq_ite, zq_itel, zo_62, zr_62_25, zn_78, zl_78, zj, cj, x3, hge]
    exact hQ I2 hI2
  · have e16 : dN (bt x) a b = 16 := by have := dN_16 (B := bt x) (a := a) (v := b); omega
    have x3 : I2 78 b = -1 := by rw [x2 b hb]; exact if_neg g
    simp only [e194_3, e194_6, e194_7, e194_10, e194_11, e194_12, e194_15, e194_17, e194_20, e194_21, e194_24, e194_25, e194_26, zpush_some, zpush_none, true_or, or_true, true_and, and_true, ↓reduceIte, zq_ite, zq_itel, zo_62, zr_62_25, zn_78, zl_78, zj, cj, x3, h0m]
    have := hQ I2 hI2
    rw [e16] at this
    exact this
theorem l_M_farthest (ha : a < 16) (hb : b < 16) (hQ : ∀ I', (∀ k j, k ≠ 78 → k ≠ 79 → I' k j = I k j) → Q (some (.int (nI (VT a b 1 false x)))) I' L) : ∀ r l I' v6, l + r = 32 → (∀ k j, k ≠ 78 → k ≠ 79 → I' k j = I k j) → zV n (d + 3) 195 12 [.ref 62, .int x, .int (nI a), .int (nI b), .int (nI (fdS (VT a b 0 true) x l)), .int (nI l), v6] [] I' L Q := by
  intro r
  induction r with
  | zero =>
    intro l I' v6 hl h1
    have e : l = 32 := by omega
    subst e
    simp only [e195_12, e195_14, e195_16, e195_69, e195_71, zpush_some, zpush_none, true_or, or_true, true_and, and_true, ↓reduceIte, zq_ite, zq_itel, show nI 32 = (32 : Int32) from rfl, Int32.le_refl]
    exact hQ I' h1
  | succ r ih =>
    intro l I' v6 hl h1
    have hlt : ((32 : Int32) ≤ nI l) = False := eq_false (nI_ge (b := 32) (by omega) (by omega))
    have hl32 : l < 32 := by omega
    have rg := fdS_rng (fun y => VT_rng ha hb 0 true y) x l
    have ih' := ih (l + 1)
    rw [fdS] at ih'
    cases hb1 : bt x l
    · rw [hb1, if_neg Bool.false_ne_true] at ih'
      simp only [e195_12, e195_14, e195_16, e195_19, e195_20, e195_22, e195_25, e195_28, e195_30, e195_33, e195_34, e195_35, e195_36, e195_38, e195_39, e195_40, e195_41, e195_42, zpush_some, zpush_none, true_or, or_true, true_and, and_true, ↓reduceIte, zq_ite, zq_itel, hlt, s_M_hasN x hl32, hb1, zb_f, zo_62, tog_or hl32 hb1]
      refine t_M_farBy (I := I) ha hb _ I' h1 (fun I2 x1 => ?_)
      have rg2 := VT_rng ha hb 0 true (tog x l)
      have hle : (nI (dN (bt (tog x l)) a b) ≤ nI (fdS (VT a b 0 true) x l)) = (VT a b 0 true (tog x l) ≤ fdS (VT a b 0 true) x l) := nI_leN (Nat.lt_of_le_of_lt rg2.2 (by decide)) (by omega)
      by_cases g : VT a b 0 true (tog x l) ≤ fdS (VT a b 0 true) x l
      · have hle := hle.trans (eq_true g)
        rw [Nat.max_eq_left g] at ih'
        simp only [e195_42, e195_45, e195_45a, e195_47, e195_49, e195_51, e195_54, e195_56, e195_59, e195_61, zpush_some, zpush_none, true_or, or_true, true_and, and_true, ↓reduceIte, zq_ite, zq_itel, hle]
        simp only [e195_63, e195_63a, e195_66, nI_1]
        exact ih' I2 _ (by omega) x1
      · have hle := hle.trans (eq_false g)
        rw [Nat.max_eq_right (by omega)] at ih'
        simp only [e195_42, e195_45, e195_45a, e195_47, e195_49, e195_51, e195_54, e195_56, e195_59, e195_61, zpush_some, zpush_none, true_or, or_true, true_and, and_true, ↓reduceIte, zq_ite, zq_itel, hle]
        simp only [e195_63, e195_63a, e195_66, nI_1]
        exact ih' I2 _ (by omega) x1
    · rw [hb1, if_pos rfl] at ih'
      simp only [e195_12, e195_14, e195_16, e195_19, e195_20, e195_22, e195_25, e195_28, e195_30, e195_33, e195_34, e195_35, e195_36, e195_38, e195_39, e195_40, e195_41, e195_42, e195_45, e195_45a, e195_47, e195_49, e195_51, e195_54, e195_56, e195_59, e195_61, zpush_some, zpush_none, true_or, or_true, true_and, and_true, ↓reduceIte, zq_ite, zq_itel, hlt, s_M_hasN x hl32, hb1, zb_t, zz_1, Int32.le_refl]
      simp only [e195_63, e195_63a, e195_66, nI_1]
      exact ih' I' _ (by omega) h1
theorem t_M_farthest (ha : a < 16) (hb : b < 16) : MOK n (d + 3) 195 I L [.ref 62, .int x, .int (nI a), .int (nI b), .null, .null, .null] (VT a b 1 false x) := by
  intro Q I1 h1 hQ
  simp only [e195_0, e195_1, e195_2, e195_3, e195_4, zpush_some, zpush_none, true_or, or_true, true_and, and_true, ↓reduceIte, zq_ite, zq_itel, zo_62]
  refine t_M_farBy (I := I) ha hb _ I1 h1 (fun I2 x1 => ?_)
  simp only [e195_4, e195_7, e195_9, e195_10, e195_10a, zpush_some, zpush_none, true_or, or_true, true_and, and_true, ↓reduceIte, zq_ite, zq_itel]
  exact l_M_farthest (I := I) ha hb hQ 32 0 I2 _ rfl x1
theorem l_M_near0 (ha : a < 16) (hb : b < 16) (hQ : ∀ I', (∀ k j, k ≠ 78 → k ≠ 79 → I' k j = I k j) → Q (some (.int (nI (VT a b 1 true x)))) I' L) : ∀ r l I' v7 v8, l + r = 32 → (∀ k j, k ≠ 78 → k ≠ 79 → I' k j = I k j) → zV n (d + 4) 196 27 [.ref 62, .int x, .int (nI a), .int (nI b), .int 0, .int (nI (fdM (VT a b 0 false) x l)), .int (nI l), v7, v8] [] I' L Q := by
  intro r
  induction r with
  | zero =>
    intro l I' v7 v8 hl h1
    have e : l = 32 := by omega
    subst e
    simp only [e196_27, e196_29, e196_31, e196_101, e196_103, zpush_some, zpush_none, true_or, or_true, true_and, and_true, ↓reduceIte, zq_ite, zq_itel, show nI 32 = (32 : Int32) from rfl, Int32.le_refl]
    exact hQ I' h1
  | succ r ih =>
    intro l I' v7 v8 hl h1
    have hlt : ((32 : Int32) ≤ nI l) = False := eq_false (nI_ge (b := 32) (by omega) (by omega))
    have hl32 : l < 32 := by omega
    have rg := fdM_rng (fun y => VT_rng ha hb 0 false y) x l
    have ih' := ih (l + 1)
    rw [fdM] at ih'
    cases hb1 : bt x l
    · rw [hb1, if_neg Bool.false_ne_true] at ih'
      simp only [e196_27, e196_29, e196_31, e196_34, e196_35, e196_37, e196_40, zpush_some, zpush_none, true_or, or_true, true_and, and_true, ↓reduceIte, zq_ite, zq_itel, hlt, s_M_hasN x hl32, hb1, zb_f]
      simp only [e196_95, e196_95a, e196_98, nI_1]
      exact ih' I' _ _ (by omega) h1
    · rw [hb1, if_pos rfl] at ih'
      simp only [e196_27, e196_29, e196_31, e196_34, e196_35, e196_37, e196_40, e196_43, e196_44, e196_45, e196_47, e196_48, e196_49, e196_50, e196_51, e196_51a, e196_53, e196_55, e196_58, e196_59, e196_61, e196_62, e196_63, zpush_some, zpush_none, true_or, or_true, true_and, and_true, ↓reduceIte, zq_ite, zq_itel, hlt, s_M_hasN x hl32, hb1, zb_t, zz_1, zo_62, tog_and hl32 hb1, not_true_eq_false]
      refine t_M_farBy (I := I) ha hb _ I' h1 (fun I2 x1 => ?_)
      have rg2 := VT_rng ha hb 0 false (tog x l)
      have hle : (nI (fdM (VT a b 0 false) x l) ≤ nI (dN (bt (tog x l)) a b)) = (fdM (VT a b 0 false) x l ≤ VT a b 0 false (tog x l)) := nI_leN (by omega) (Nat.lt_of_le_of_lt rg2.2 (by decide))
      by_cases g : fdM (VT a b 0 false) x l ≤ VT a b 0 false (tog x l)
      · have hle := hle.trans (eq_true g)
        rw [Nat.min_eq_left g] at ih'
        simp only [e196_63, e196_66, e196_69, e196_70, e196_72, e196_73, e196_74, e196_77, e196_77a, e196_79, e196_81, e196_83, e196_86, e196_88, e196_91, e196_93, zpush_some, zpush_none, true_or, or_true, true_and, and_true, ↓reduceIte, zq_ite, zq_itel, hle]
        simp only [e196_95, e196_95a, e196_98, nI_1]
        exact ih' I2 _ _ (by omega) x1
      · have hle := hle.trans (eq_false g)
        rw [Nat.min_eq_right (by omega)] at ih'
        simp only [e196_63, e196_66, e196_69, e196_70, e196_72, e196_73, e196_74, e196_77, e196_77a, e196_79, e196_81, e196_83, e196_86, e196_88, e196_91, e196_93, zpush_some, zpush_none, true_or, or_true, true_and, and_true, ↓reduceIte, zq_ite, zq_itel, hle]
        simp only [e196_95, e196_95a, e196_98, nI_1]
        exact ih' I2 _ _ (by omega) x1
theorem l_M_near1 (ha : a < 16) (hb : b < 16) (hQ : ∀ I', (∀ k j, k ≠ 78 → k ≠ 79 → I' k j = I k j) → Q (some (.int (nI (VT a b 2 true x)))) I' L) : ∀ r l I' v7 v8, l + r = 32 → (∀ k j, k ≠ 78 → k ≠ 79 → I' k j = I k j) → zV n (d + 4) 196 27 [.ref 62, .int x, .int (nI a), .int (nI b), .int 1, .int (nI (fdM (VT a b 1 false) x l)), .int (nI l), v7, v8] [] I' L Q := by
  intro r
  induction r with
  | zero =>
    intro l I' v7 v8 hl h1
    have e : l = 32 := by omega
    subst e
    simp only [e196_27, e196_29, e196_31, e196_101, e196_103, zpush_some, zpush_none, true_or, or_true, true_and, and_true, ↓reduceIte, zq_ite, zq_itel, show nI 32 = (32 : Int32) from rfl, Int32.le_refl]
    exact hQ I' h1
  | succ r ih =>
    intro l I' v7 v8 hl h1
    have hlt : ((32 : Int32) ≤ nI l) = False := eq_false (nI_ge (b := 32) (by omega) (by omega))
    have hl32 : l < 32 := by omega
    have rg := fdM_rng (fun y => VT_rng ha hb 1 false y) x l
    have ih' := ih (l + 1)
    rw [fdM] at ih'
    cases hb1 : bt x l
    · rw [hb1, if_neg Bool.false_ne_true] at ih'
      simp only [e196_27, e196_29, e196_31, e196_34, e196_35, e196_37, e196_40, zpush_some, zpush_none, true_or, or_true, true_and, and_true, ↓reduceIte, zq_ite, zq_itel, hlt, s_M_hasN x hl32, hb1, zb_f]
      simp only [e196_95, e196_95a, e196_98, nI_1]
      exact ih' I' _ _ (by omega) h1
    · rw [hb1, if_pos rfl] at ih'
      simp only [e196_27, e196_29, e196_31, e196_34, e196_35, e196_37, e196_40, e196_43, e196_44, e196_45, e196_47, e196_48, e196_49, e196_50, e196_51, e196_51a, e196_53, e196_55, e196_58, e196_59, e196_61, e196_62, e196_63, e196_66, e196_69, e196_70, e196_72, e196_73, e196_74, zpush_some, zpush_none, true_or, or_true, true_and, and_true, ↓reduceIte, zq_ite, zq_itel, hlt, s_M_hasN x hl32, hb1, zb_t, zz_1, zo_62, tog_and hl32 hb1, not_false_eq_true]
      refine t_M_farthest (I := I) ha hb _ I' h1 (fun I2 x1 => ?_)
      have rg2 := VT_rng ha hb 1 false (tog x l)
      have hle : (nI (fdM (VT a b 1 false) x l) ≤ nI (VT a b 1 false (tog x l))) = (fdM (VT a b 1 false) x l ≤ VT a b 1 false (tog x l)) := nI_leN (by omega) (by omega)
      by_cases g : fdM (VT a b 1 false) x l ≤ VT a b 1 false (tog x l)
      · have hle := hle.trans (eq_true g)
        rw [Nat.min_eq_left g] at ih'
        simp only [e196_74, e196_77, e196_77a, e196_79, e196_81, e196_83, e196_86, e196_88, e196_91, e196_93, zpush_some, zpush_none, true_or, or_true, true_and, and_true, ↓reduceIte, zq_ite, zq_itel, hle]
        simp only [e196_95, e196_95a, e196_98, nI_1]
        exact ih' I2 _ _ (by omega) x1
      · have hle := hle.trans (eq_false g)
        rw [Nat.min_eq_right (by omega)] at ih'
        simp only [e196_74, e196_77, e196_77a, e196_79, e196_81, e196_83, e196_86, e196_88, e196_91, e196_93, zpush_some, zpush_none, true_or, or_true, true_and, and_true, ↓reduceIte, zq_ite, zq_itel, hle]
        simp only [e196_95, e196_95a, e196_98, nI_1]
        exact ih' I2 _ _ (by omega) x1
theorem t_M_near (ha : a < 16) (hb : b < 16) (ht : t < 2) : MOK n (d + 4) 196 I L [.ref 62, .int x, .int (nI a), .int (nI b), .int (nI t), .null, .null, .null, .null] (VT a b (t + 1) true x) := by
  intro Q I1 h1 hQ
  rcases (show t = 0 ∨ t = 1 by omega) with rfl | rfl
  · have n0 : (nI 0 = 0) = True := eq_true rfl
    simp only [e196_0, e196_2, e196_5, e196_6, e196_7, e196_8, e196_9, zpush_some, zpush_none, true_or, or_true, true_and, and_true, ↓reduceIte, zq_ite, zq_itel, n0, not_true_eq_false, zo_62]
    refine t_M_farBy (I := I) ha hb _ I1 h1 (fun I2 x1 => ?_)
    simp only [e196_9, e196_12, e196_15, e196_16, e196_17, e196_18, e196_19, e196_22, e196_24, e196_25, e196_25a, zpush_some, zpush_none, true_or, or_true, true_and, and_true, ↓reduceIte, zq_ite, zq_itel]
    exact l_M_near0 (I := I) ha hb hQ 32 0 I2 _ _ rfl x1
  · have n0 : (nI 1 = 0) = False := eq_false (by decide)
    simp only [e196_0, e196_2, e196_5, e196_6, e196_7, e196_8, e196_9, e196_12, e196_15, e196_16, e196_17, e196_18, e196_19, zpush_some, zpush_none, true_or, or_true, true_and, and_true, ↓reduceIte, zq_ite, zq_itel, n0, not_false_eq_true, zo_62]
    refine t_M_farthest (I := I) ha hb _ I1 h1 (fun I2 x1 => ?_)
    simp only [e196_19, e196_22, e196_24, e196_25, e196_25a, zpush_some, zpush_none, true_or, or_true, true_and, and_true, ↓reduceIte, zq_ite, zq_itel]
    exact l_M_near1 (I := I) ha hb hQ 32 0 I2 _ _ rfl x1
theorem l_M_duel (ha : a < 16) (hb : b < 16) (ht : t < 2) (hQ : ∀ I', (∀ k j, k ≠ 78 → k ≠ 79 → I' k j = I k j) → Q (some (.int (nI (VT a b (t + 2) false x)))) I' L) : ∀ r l I' v7, l + r = 32 → (∀ k j, k ≠ 78 → k ≠ 79 → I' k j = I k j) → zV n (d + 5) 193 89 [.ref 62, .int (nI a), .int (nI b), .int (nI (t + 2)), .int x, .int (nI (fdS (VT a b (t + 1) true) x l)), .int (nI l), v7] [] I' L Q := by
  have ht2 : nI (t + 2) - 2 = nI t := by rw [show (2 : Int32) = nI 2 from rfl, pk_sub (by omega)]; rfl
  intro r
  induction r with
  | zero =>
    intro l I' v7 hl h1
    have e : l = 32 := by omega
    subst e
    simp only [e193_89, e193_91, e193_93, e193_151, e193_153, zpush_some, zpush_none, true_or, or_true, true_and, and_true, ↓reduceIte, zq_ite, zq_itel, show nI 32 = (32 : Int32) from rfl, Int32.le_refl]
    exact hQ I' h1
  | succ r ih =>
    intro l I' v7 hl h1
    have hlt : ((32 : Int32) ≤ nI l) = False := eq_false (nI_ge (b := 32) (by omega) (by omega))
    have hl32 : l < 32 := by omega
    have rg := fdS_rng (fun y => VT_rng ha hb (t + 1) true y) x l
    have ih' := ih (l + 1)
    rw [fdS] at ih'
    cases hb1 : bt x l
    · rw [hb1, if_neg Bool.false_ne_true] at ih'
      simp only [e193_89, e193_91, e193_93, e193_96, e193_98, e193_100, e193_103, e193_106, e193_108, e193_111, e193_112, e193_114, e193_115, e193_117, e193_118, e193_119, e193_120, e193_121, e193_122, e193_123, e193_124, zpush_some, zpush_none, true_or, or_true, true_and, and_true, ↓reduceIte, zq_ite, zq_itel, hlt, s_M_hasN x hl32, hb1, zb_f, zo_62, tog_or hl32 hb1, ht2]
      refine t_M_near (I := I) ha hb ht _ I' h1 (fun I2 x1 => ?_)
      have rg2 := VT_rng ha hb (t + 1) true (tog x l)
      have hle : (nI (VT a b (t + 1) true (tog x l)) ≤ nI (fdS (VT a b (t + 1) true) x l)) = (VT a b (t + 1) true (tog x l) ≤ fdS (VT a b (t + 1) true) x l) := nI_leN (Nat.lt_of_le_of_lt rg2.2 (by decide)) (Nat.lt_of_le_of_lt rg.2 (by decide))
      by_cases g : VT a b (t + 1) true (tog x l) ≤ fdS (VT a b (t + 1) true) x l
      · have hle := hle.trans (eq_true g)
        rw [Nat.max_eq_left g] at ih'
        simp only [e193_124, e193_127, e193_127a, e193_129, e193_131, e193_133, e193_136, e193_138, e193_141, e193_143, e193_143a, zpush_some, zpush_none, true_or, or_true, true_and, and_true, ↓reduceIte, zq_ite, zq_itel, hle]
        simp only [e193_145, e193_145a, e193_148, nI_1]
        exact ih' I2 _ (by omega) x1
      · have hle := hle.trans (eq_false g)
        rw [Nat.max_eq_right (by omega)] at ih'
        simp only [e193_124, e193_127, e193_127a, e193_129, e193_131, e193_133, e193_136, e193_138, e193_141, e193_143, e193_143a, zpush_some, zpush_none, true_or, or_true, true_and, and_true, ↓reduceIte, zq_ite, zq_itel, hle]
        simp only [e193_145, e193_145a, e193_148, nI_1]
        exact ih' I2 _ (by omega) x1
    · rw [hb1, if_pos rfl] at ih'
      simp only [e193_89, e193_91, e193_93, e193_96, e193_98, e193_100, e193_103, e193_106, e193_108, e193_111, e193_112, e193_114, e193_115, e193_117, e193_118, e193_119, e193_120, e193_121, e193_122, e193_123, e193_124, e193_127, e193_127a, e193_129, e193_131, e193_133, e193_136, e193_138, e193_141, e193_143, e193_143a, zpush_some, zpush_none, true_or, or_true, true_and, and_true, ↓reduceIte, zq_ite, zq_itel, hlt, s_M_hasN x hl32, hb1, zb_t, zz_1, Int32.le_refl]
      simp only [e193_145, e193_145a, e193_148, nI_1]
      exact ih' I' _ (by omega) h1
theorem p_duel (h : Inv I L) (h2 : ∀ j, j < 4 → I 2 j = zLE4 j) (a b w : Int32) : zV n (d + 8) 103 0 [.ref 3, .int a, .int b, .int w] [] I L (fun v1 I1 L1 => zV n (d + 8) 193 0 [.ref 62, .int a, .int b, .int w, .null, .null, .null, .null] [] I1 L1 (fun v2 I2 L2 => same v1 v2 ∧ Inv I2 L2)) := by
  obtain ⟨m, K, s, hm, hok, ht, hX, hM, hK⟩ := h.view
  rcases rng a 15 (by decide) (a := 16) (b := 15) rfl rfl with g1 | ⟨g1, g2, g3⟩ | ⟨i, hi, rfl, g1, g2, g3⟩
  · simp only [e103_0, e103_1, e103_4, e103_7, e103_8, e103_11, e103_14, e103_15, e103_16, e103_19, e103_20, e103_23, e103_24, e103_25, e103_28, e103_29, e103_30, e103_31, e103_34, e103_37, e103_40, e103_41, e103_42, e103_43, e103_44, e103_45, e103_46, e103_47, e103_50, e103_52, e103_55, e193_0, e193_1, e193_2, e193_4, e193_7, e193_10, e193_11, e193_12, e193_14, e193_17, e193_20, e193_21, e193_22, e193_25, e193_26, e193_27, e193_28, e193_31, e193_34, e193_35, zpush_some, zpush_none, true_or, or_true, true_and, and_true, ↓reduceIte, zq_ite, zq_itel, s_M_in, s_X_isCorner, g1]
    exact ⟨same_i, h⟩
  · simp only [e103_0, e103_1, e103_4, e103_7, e103_8, e103_11, e103_14, e103_15, e103_16, e103_19, e103_20, e103_23, e103_24, e103_25, e103_28, e103_29, e103_30, e103_31, e103_34, e103_37, e103_40, e103_41, e103_42, e103_43, e103_44, e103_45, e103_46, e103_47, e103_50, e103_52, e103_55, e193_0, e193_1, e193_2, e193_4, e193_7, e193_10, e193_11, e193_12, e193_14, e193_17, e193_20, e193_21, e193_22, e193_25, e193_26, e193_27, e193_28, e193_31, e193_34, e193_35, zpush_some, zpush_none, true_or, or_true, true_and, and_true, ↓reduceIte, zq_ite, zq_itel, s_M_in, s_X_isCorner, g1, g2, g3]
    exact ⟨same_i, h⟩
  · rcases rng b 15 (by decide) (a := 16) (b := 15) rfl rfl with f1 | ⟨f1, f2, f3⟩ | ⟨j, hj, rfl, f1, f2, f3⟩
    · simp only [e103_0, e103_1, e103_4, e103_7, e103_8, e103_11, e103_14, e103_15, e103_16, e103_19, e103_20, e103_23, e103_24, e103_25, e103_28, e103_29, e103_30, e103_31, e103_34, e103_37, e103_40, e103_41, e103_42, e103_43, e103_44, e103_45, e103_46, e103_47, e103_50, e103_52, e103_55, e193_0, e193_1, e193_2, e193_4, e193_7, e193_10, e193_11, e193_12, e193_14, e193_17, e193_20, e193_21, e193_22, e193_25, e193_26, e193_27, e193_28, e193_31, e193_34, e193_35, zpush_some, zpush_none, true_or, or_true, true_and, and_true, ↓reduceIte, zq_ite, zq_itel, s_M_in, s_X_isCorner, g1, g2, g3, f1, zz_1]
      exact ⟨same_i, h⟩
    · simp only [e103_0, e103_1, e103_4, e103_7, e103_8, e103_11, e103_14, e103_15, e103_16, e103_19, e103_20, e103_23, e103_24, e103_25, e103_28, e103_29, e103_30, e103_31, e103_34, e103_37, e103_40, e103_41, e103_42, e103_43, e103_44, e103_45, e103_46, e103_47, e103_50, e103_52, e103_55, e193_0, e193_1, e193_2, e193_4, e193_7, e193_10, e193_11, e193_12, e193_14, e193_17, e193_20, e193_21, e193_22, e193_25, e193_26, e193_27, e193_28, e193_31, e193_34, e193_35, zpush_some, zpush_none, true_or, or_true, true_and, and_true, ↓reduceIte, zq_ite, zq_itel, s_M_in, s_X_isCorner, g1, g2, g3, f1, f2, f3, zz_1]
      exact ⟨same_i, h⟩
    · by_cases hij : i = j
      · subst hij
        simp only [e103_0, e103_1, e103_4, e103_7, e103_8, e103_11, e103_14, e103_15, e103_16, e103_19, e103_20, e103_23, e103_24, e103_25, e103_28, e103_29, e103_30, e103_31, e103_34, e103_37, e103_40, e103_41, e103_42, e103_43, e103_44, e103_45, e103_46, e103_47, e103_50, e103_52, e103_55, e193_0, e193_1, e193_2, e193_4, e193_7, e193_10, e193_11, e193_12, e193_14, e193_17, e193_20, e193_21, e193_22, e193_25, e193_26, e193_27, e193_28, e193_31, e193_34, e193_35, zpush_some, zpush_none, true_or, or_true, true_and, and_true, ↓reduceIte, zq_ite, zq_itel, s_M_in, s_X_isCorner, g1, g2, g3, zz_1]
        exact ⟨same_i, h⟩
      · have nij : (nI i = nI j) = False := (nI_eqN (by omega) (by omega)).trans (eq_false hij)
        rcases rng w 3 (by decide) (a := 4) (b := 3) rfl rfl with k1 | ⟨k1, k2, k3⟩ | ⟨t, ht4, rfl, k1, k2, k3⟩
        · simp only [e103_0, e103_1, e103_4, e103_7, e103_8, e103_11, e103_14, e103_15, e103_16, e103_19, e103_20, e103_23, e103_24, e103_25, e103_28, e103_29, e103_30, e103_31, e103_34, e103_37, e103_40, e103_41, e103_42, e103_43, e103_44, e103_45, e103_46, e103_47, e103_50, e103_52, e103_55, e193_0, e193_1, e193_2, e193_4, e193_7, e193_10, e193_11, e193_12, e193_14, e193_17, e193_20, e193_21, e193_22, e193_25, e193_26, e193_27, e193_28, e193_31, e193_34, e193_35, zpush_some, zpush_none, true_or, or_true, true_and, and_true, ↓reduceIte, zq_ite, zq_itel, s_M_in, s_X_isCorner, g1, g2, g3, f1, f2, f3, zz_1, nij, k1, not_true_eq_false]
          exact ⟨same_i, h⟩
        · have k4 : (w ≤ 3) = False := eq_false (by rw [Int32.not_le]; exact of_eq_true k3)
          simp only [e103_0, e103_1, e103_4, e103_7, e103_8, e103_11, e103_14, e103_15, e103_16, e103_19, e103_20, e103_23, e103_24, e103_25, e103_28, e103_29, e103_30, e103_31, e103_34, e103_37, e103_40, e103_41, e103_42, e103_43, e103_44, e103_45, e103_46, e103_47, e103_50, e103_52, e103_55, e193_0, e193_1, e193_2, e193_4, e193_7, e193_10, e193_11, e193_12, e193_14, e193_17, e193_20, e193_21, e193_22, e193_25, e193_26, e193_27, e193_28, e193_31, e193_34, e193_35, zpush_some, zpush_none, true_or, or_true, true_and, and_true, ↓reduceIte, zq_ite, zq_itel, s_M_in, s_X_isCorner, g1, g2, g3, f1, f2, f3, zz_1, nij, k1, k3, k4, not_true_eq_false]
          exact ⟨same_i, h⟩
        · have k4 : (nI t ≤ 3) = True := eq_true (by rw [← Int32.not_lt]; exact of_eq_false k3)
          have hW := WH_not (XC_B hX)
          have hx16 := xor_lt16 hi hj
          have hpl := pop_le4 i hi j hj
          simp only [e103_0, e103_1, e103_4, e103_7, e103_8, e103_11, e103_14, e103_15, e103_16, e103_19, e103_20, e103_23, e103_24, e103_25, e103_28, e103_29, e103_30, e103_31, e103_34, e103_37, e103_40, e103_41, e103_42, e103_43, e103_44, e103_45, e103_46, e103_47, e103_50, e103_52, e103_55, zpush_some, zpush_none, true_or, or_true, true_and, and_true, ↓reduceIte, zq_ite, zq_itel, s_X_isCorner, g1, g2, f1, f2, zz_1, nij, k1, k4, not_false_eq_true, zo_3, zr_3_5, zo_14, nx_xor, s_JI_bitCount (show i ^^^ j < 128 by omega)]
          have T := (TOK_all (n := n) (d := d + (4 - t)) (L := L) h2 hi hj t (by omega)).1
          rw [show d + (4 - t) + t + 3 = d + 7 by omega] at T
          refine T _ _ _ (pop7 (i ^^^ j)) 16 hW (by omega) (by decide) (fun r r1 r2 r3 => ?_)
          have rg := VT_rng hi hj t false s.2.2.2.1
          have er : r = VT i j t false s.2.2.2.1 := by unfold CL at r3; omega
          subst er
          simp only [e103_0, e103_1, e103_4, e103_7, e103_8, e103_11, e103_14, e103_15, e103_16, e103_19, e103_20, e103_23, e103_24, e103_25, e103_28, e103_29, e103_30, e103_31, e103_34, e103_37, e103_40, e103_41, e103_42, e103_43, e103_44, e103_45, e103_46, e103_47, e103_50, e103_52, e103_55, zpush_some, zpush_none, true_or, or_true, true_and, and_true, ↓reduceIte, zq_ite, zq_itel]
          have fin : ∀ I' : zi, (∀ k j, k ≠ 78 → k ≠ 79 → I' k j = I k j) → same (some (.int (nI (VT i j t false s.2.2.2.1)))) (some (.int (nI (VT i j t false s.2.2.2.1)))) ∧ Inv I' L := fun I' x1 => ⟨same_i, inv_other h (fun k j hk => by unfold cubeCell at hk; exact x1 k j (by omega) (by omega)) (fun _ _ _ => rfl)⟩
          simp only [e193_0, e193_1, e193_2, e193_4, e193_7, e193_10, e193_11, e193_12, e193_14, e193_17, e193_20, e193_21, e193_22, e193_25, e193_26, e193_27, e193_28, e193_31, e193_34, e193_35, e193_36, e193_37, e193_40, e193_41, e193_42, zpush_some, zpush_none, true_or, or_true, true_and, and_true, ↓reduceIte, zq_ite, zq_itel, s_M_in, g1, g3, f1, f3, zz_1, nij, k1, k3, not_false_eq_true, zo_62, zr_62_16, zn_70, zl_70, zi_2, zt_2, Nat.reduceLT, decide_true, MC_x hM]
          rcases (show t = 0 ∨ t = 1 ∨ t = 2 ∨ t = 3 by omega) with rfl | rfl | rfl | rfl
          · have c1 : ((2 : Int32) ≤ nI 0) = False := eq_false (by decide)
            have c2 : (nI 0 = 0) = True := eq_true rfl
            simp only [e193_44, e193_45, e193_46, e193_49, e193_50, e193_53, e193_54, e193_56, e193_57, e193_58, zpush_some, zpush_none, true_or, or_true, true_and, and_true, ↓reduceIte, zq_ite, zq_itel, c1, c2, not_true_eq_false, zo_62]
            refine t_M_farBy (I := I) hi hj _ I (fun _ _ _ _ => rfl) (fun I2 x1 => ?_)
            simp only [e193_58, e193_61, e193_64, e193_65, e193_67, e193_68, e193_69, e193_72, zpush_some, zpush_none, true_or, or_true, true_and, and_true, ↓reduceIte, zq_ite, zq_itel]
            exact fin I2 x1
          · have c1 : ((2 : Int32) ≤ nI 1) = False := eq_false (by decide)
            have c2 : (nI 1 = 0) = False := eq_false (by decide)
            simp only [e193_44, e193_45, e193_46, e193_49, e193_50, e193_53, e193_54, e193_56, e193_57, e193_58, e193_61, e193_64, e193_65, e193_67, e193_68, e193_69, zpush_some, zpush_none, true_or, or_true, true_and, and_true, ↓reduceIte, zq_ite, zq_itel, c1, c2, not_false_eq_true, zo_62]
            refine t_M_farthest (I := I) hi hj _ I (fun _ _ _ _ => rfl) (fun I2 x1 => ?_)
            simp only [e193_69, e193_72, zpush_some, zpush_none, true_or, or_true, true_and, and_true, ↓reduceIte, zq_ite, zq_itel]
            exact fin I2 x1
          · have c1 : ((2 : Int32) ≤ nI 2) = True := eq_true (by decide)
            have c3 : nI 2 - 2 = nI 0 := by decide
            simp only [e193_44, e193_45, e193_46, e193_49, e193_50, e193_53, e193_54, e193_56, e193_57, e193_58, e193_61, e193_64, e193_65, e193_67, e193_68, e193_69, e193_72, e193_73, e193_74, e193_76, e193_77, e193_78, e193_79, e193_80, e193_81, zpush_some, zpush_none, true_or, or_true, true_and, and_true, ↓reduceIte, zq_ite, zq_itel, c1, c3, zo_62]
            refine t_M_near (I := I) (t := 0) hi hj (by decide) _ I (fun _ _ _ _ => rfl) (fun I2 x1 => ?_)
            simp only [e193_81, e193_84, e193_84a, e193_86, e193_87, e193_87a, zpush_some, zpush_none, true_or, or_true, true_and, and_true, ↓reduceIte, zq_ite, zq_itel]
            exact l_M_duel (I := I) (t := 0) hi hj (by decide) fin 32 0 I2 _ rfl x1
          · have c1 : ((2 : Int32) ≤ nI 3) = True := eq_true (by decide)
            have c3 : nI 3 - 2 = nI 1 := by decide
            simp only [e193_44, e193_45, e193_46, e193_49, e193_50, e193_53, e193_54, e193_56, e193_57, e193_58, e193_61, e193_64, e193_65, e193_67, e193_68, e193_69, e193_72, e193_73, e193_74, e193_76, e193_77, e193_78, e193_79, e193_80, e193_81, zpush_some, zpush_none, true_or, or_true, true_and, and_true, ↓reduceIte, zq_ite, zq_itel, c1, c3, zo_62]
            refine t_M_near (I := I) (t := 1) hi hj (by decide) _ I (fun _ _ _ _ => rfl) (fun I2 x1 => ?_)
            simp only [e193_81, e193_84, e193_84a, e193_86, e193_87, e193_87a, zpush_some, zpush_none, true_or, or_true, true_and, and_true, ↓reduceIte, zq_ite, zq_itel]
            exact l_M_duel (I := I) (t := 1) hi hj (by decide) fin 32 0 I2 _ rfl x1
end
