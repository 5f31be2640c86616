/-! PARTS: ways that share no link -/
abbrev Bs : Type := (Nat → Nat) × Nat × (Nat → Nat)
def bst (F : Nat → Nat → Bool) (s : Bs) (k w : Nat) : Bs := if s.2.2 (s.1 k ^^^ 2 ^ w) = 5 ∧ F (s.1 k) w = false then (upN s.1 s.2.1 (s.1 k ^^^ 2 ^ w), s.2.1 + 1, upN s.2.2 (s.1 k ^^^ 2 ^ w) w) else s
def binr (F : Nat → Nat → Bool) (k : Nat) : Nat → Nat → Bs → Bs
  | 0, _, s => s
  | r + 1, w, s => binr F k r (w + 1) (bst F s k w)
def boutr (F : Nat → Nat → Bool) : Nat → Nat → Bs → Bs
  | 0, _, s => s
  | r + 1, b, s => if b < s.2.1 then boutr F r (b + 1) (binr F b 4 0 s) else s
def Bs0 (a : Nat) : Bs := (fun _ => a, 1, upN (fun _ => 5) a 4)
/-- what the search knows; rk: the place in the queue -/
def VI (F : Nat → Nat → Bool) (a : Nat) (s : Bs) (rk : Nat → Nat) : Prop :=
  s.2.1 ≤ 16 ∧ (∀ i, i < s.2.1 → s.1 i < 16 ∧ s.2.2 (s.1 i) < 5 ∧ rk (s.1 i) = i) ∧ sumB (fun v => decide (s.2.2 v < 5)) 16 = s.2.1 ∧
  (∀ v, v < 16 → s.2.2 v < 5 → rk v < s.2.1 ∧ s.1 (rk v) = v) ∧ (∀ v, v < 16 → s.2.2 v < 4 → s.2.2 (v ^^^ 2 ^ s.2.2 v) < 5 ∧ rk (v ^^^ 2 ^ s.2.2 v) < rk v ∧ F (v ^^^ 2 ^ s.2.2 v) (s.2.2 v) = false) ∧
  (∀ v, s.2.2 v ≤ 5) ∧ s.2.2 a = 4 ∧ ∀ v, v < 16 → s.2.2 v = 4 → v = a
theorem VI_0 {F : Nat → Nat → Bool} {a : Nat} (ha : a < 16) : VI F a (Bs0 a) (fun _ => 0) := by
  have a0 : upN (fun _ => 5) a 4 a = 4 := upN_eq
  have cn : ∀ v, upN (fun _ => 5) a 4 v < 5 → v = a := fun v g => by
    by_cases e : v = a
    · exact e
    · rw [upN_ne e] at g; omega
  refine ⟨by show 1 ≤ 16; decide, fun i hi => ?_, ?_, fun v hv hv2 => ⟨by show 0 < 1; decide, (cn v hv2).symm⟩, fun v hv hv2 => ?_, fun v => ?_, a0, fun v hv hv2 => cn v (by have : upN (fun _ => 5) a 4 v = 4 := hv2; omega)⟩
  · have hi : i < 1 := hi
    show a < 16 ∧ upN (fun _ => 5) a 4 a < 5 ∧ 0 = i
    rw [a0]
    exact ⟨ha, by decide, by omega⟩
  · have h0 : ∀ N, sumB (fun _ => false) N = 0 := fun N => by
      induction N with
      | zero => rfl
      | succ N ih => rw [sumB, ih]; rfl
    show sumB (fun v => decide (upN (fun _ => 5) a 4 v < 5)) 16 = 1
    rw [sumB_up (f := fun _ => false) (t := a) rfl (by rw [a0]; rfl) (fun i hi => by rw [upN_ne hi]; rfl) 16, h0, if_pos ha]
  · have hv2 : upN (fun _ => 5) a 4 v < 4 := hv2
    have := cn v (by omega)
    subst this
    rw [a0] at hv2
    exact absurd hv2 (by decide)
  · show upN (fun _ => 5) a 4 v ≤ 5
    by_cases e : v = a
    · subst e; rw [a0]; decide
    · rw [upN_ne e]; exact Nat.le_refl _
theorem VI_cnt {F : Nat → Nat → Bool} {a : Nat} {s : Bs} {rk : Nat → Nat} {t : Nat} (h : VI F a s rk) (ht : t < 16) (hA : ¬ s.2.2 t < 5) : s.2.1 < 16 := by
  have h3 := h.2.2.1
  have hs := sumB_up (f := fun v => decide (s.2.2 v < 5)) (g := fun v => decide (s.2.2 v < 5) || decide (v = t)) (t := t) (decide_eq_false hA) (by simp) (fun i hi => by simp [hi]) 16
  rw [if_pos ht, h3] at hs
  have := sumB_le (fun v => decide (s.2.2 v < 5) || decide (v = t)) 16
  omega
theorem VI_step {F : Nat → Nat → Bool} {a : Nat} {s : Bs} {rk : Nat → Nat} {k w : Nat} (h : VI F a s rk) (hk : k < s.2.1) (hw : w < 4) : ∃ rk', VI F a (bst F s k w) rk' ∧ k < (bst F s k w).2.1 ∧ (bst F s k w).1 k = s.1 k := by
  unfold bst
  by_cases g : s.2.2 (s.1 k ^^^ 2 ^ w) = 5 ∧ F (s.1 k) w = false
  · rw [if_pos g]
    obtain ⟨g1, g2⟩ := g
    have hA : ¬ s.2.2 (s.1 k ^^^ 2 ^ w) < 5 := by omega
    obtain ⟨k1, k2, k3⟩ := h.2.1 k hk
    obtain ⟨t1, t2, t3⟩ := xor_pow16 _ k1 w hw
    have he := VI_cnt h t1 hA
    obtain ⟨h1, h2, h3, h4, h5, h6, h7, h8⟩ := h
    generalize ht : s.1 k ^^^ 2 ^ w = t at *
    have sn : ∀ i, i < s.2.1 → s.1 i ≠ t := fun i hi e => hA (by rw [← e]; exact (h2 i hi).2.1)
    refine ⟨upN rk t s.2.1, ⟨by show s.2.1 + 1 ≤ 16; omega, fun i hi => ?_, ?_, fun v hv hv2 => ?_, fun v hv hv2 => ?_, fun v => ?_, ?_, fun v hv hv2 => ?_⟩, by show k < s.2.1 + 1; omega, upN_ne (by omega)⟩
    · have hi : i < s.2.1 + 1 := hi
      show upN s.1 s.2.1 t i < 16 ∧ upN s.2.2 t w (upN s.1 s.2.1 t i) < 5 ∧ upN rk t s.2.1 (upN s.1 s.2.1 t i) = i
      by_cases e : i = s.2.1
      · subst e; rw [upN_eq, upN_eq, upN_eq]; exact ⟨t1, by omega, rfl⟩
      · rw [upN_ne e, upN_ne (sn i (by omega)), upN_ne (sn i (by omega))]; exact h2 i (by omega)
    · show sumB (fun v => decide (upN s.2.2 t w v < 5)) 16 = s.2.1 + 1
      rw [sumB_up (f := fun v => decide (s.2.2 v < 5)) (t := t) (decide_eq_false hA) (by rw [upN_eq]; exact decide_eq_true (by omega)) (fun i hi => by rw [upN_ne hi]) 16, h3, if_pos t1]
    · have hv2 : upN s.2.2 t w v < 5 := hv2
      show upN rk t s.2.1 v < s.2.1 + 1 ∧ upN s.1 s.2.1 t (upN rk t s.2.1 v) = v
      by_cases e : v = t
      · subst e; rw [upN_eq, upN_eq]; exact ⟨by omega, rfl⟩
      · rw [upN_ne e] at hv2 ⊢
        obtain ⟨a1, a2⟩ := h4 v hv hv2
        rw [upN_ne (by omega)]
        exact ⟨by omega, a2⟩
    · have hv2 : upN s.2.2 t w v < 4 := hv2
      show upN s.2.2 t w (v ^^^ 2 ^ upN s.2.2 t w v) < 5 ∧ upN rk t s.2.1 (v ^^^ 2 ^ upN s.2.2 t w v) < upN rk t s.2.1 v ∧ F (v ^^^ 2 ^ upN s.2.2 t w v) (upN s.2.2 t w v) = false
      by_cases e : v = t
      · subst e
        rw [upN_eq, upN_eq, t2, upN_ne (sn k hk), upN_ne (sn k hk), k3]
        exact ⟨k2, hk, g2⟩
      · rw [upN_ne e] at hv2
        rw [upN_ne e, upN_ne e]
        obtain ⟨a1, a2, a3⟩ := h5 v hv hv2
        have ne : v ^^^ 2 ^ s.2.2 v ≠ t := fun q => hA (by rw [← q]; exact a1)
        rw [upN_ne ne, upN_ne ne]
        exact ⟨a1, a2, a3⟩
    · show upN s.2.2 t w v ≤ 5
      by_cases e : v = t
      · subst e; rw [upN_eq]; omega
      · rw [upN_ne e]; exact h6 v
    · show upN s.2.2 t w a = 4
      rw [upN_ne (fun e => hA (by rw [← e, h7]; decide))]; exact h7
    · have hv2 : upN s.2.2 t w v = 4 := hv2
      by_cases e : v = t
      · subst e; rw [upN_eq] at hv2; omega
      · rw [upN_ne e] at hv2; exact h8 v hv hv2
  · rw [if_neg g]
    exact ⟨rk, h, hk, rfl⟩
/-- when all of the first's ways are taken, nothing is found -/
theorem boutr_none {F : Nat → Nat → Bool} {a : Nat} (h : ∀ w, w < 4 → F a w = true) : boutr F 16 0 (Bs0 a) = Bs0 a := by
  have hb : ∀ w, w < 4 → bst F (Bs0 a) 0 w = Bs0 a := fun w hw => by
    unfold bst
    refine if_neg (fun g => ?_)
    have : F a w = false := g.2
    rw [h w hw] at this
    cases this
  have hi : binr F 0 4 0 (Bs0 a) = Bs0 a := by
    show binr F 0 0 4 (bst F (bst F (bst F (bst F (Bs0 a) 0 0) 0 1) 0 2) 0 3) = Bs0 a
    rw [hb 0 (by decide), hb 1 (by decide), hb 2 (by decide), hb 3 (by decide)]
    rfl
  rw [boutr, if_pos (show 0 < (Bs0 a).2.1 from Nat.zero_lt_one), hi, boutr, if_neg (show ¬ 0 + 1 < (Bs0 a).2.1 from Nat.lt_irrefl 1)]
/-- a link's way is used, or the other way given back -/
def usU (U : Nat → Nat → Bool) (p v w : Nat) : Nat → Nat → Bool := fun c x => if U v w then (if c = v ∧ x = w then false else U c x) else (if c = p ∧ x = w then true else U c x)
def bk (cam : Nat → Nat) (a : Nat) : Nat → Nat → (Nat → Nat → Bool) → Nat → Nat → Bool
  | 0, _, U => U
  | r + 1, v, U => if v = a then U else bk cam a r (v ^^^ 2 ^ cam v) (usU U (v ^^^ 2 ^ cam v) v (cam v))
def cu (U : Nat → Nat → Bool) (a : Nat) : Nat := (U a 0).toNat + (U a 1).toNat + (U a 2).toNat + (U a 3).toNat
def ZU (U : Nat → Nat → Bool) (a : Nat) : Prop := ∀ w, w < 4 → U (a ^^^ 2 ^ w) w = false
theorem usU_far {U : Nat → Nat → Bool} {p v w c x : Nat} (h1 : ¬ (c = v ∧ x = w)) (h2 : ¬ (c = p ∧ x = w)) : usU U p v w c x = U c x := by
  unfold usU
  rw [if_neg h1, if_neg h2]
  split <;> rfl
/-- as far as the path still goes, nothing has changed -/
def UI (s : Bs) (rk : Nat → Nat) (v : Nat) (U U0 : Nat → Nat → Bool) : Prop := ∀ c, c < 16 → ∀ w, w < 4 → s.2.2 c < 5 → s.2.2 (c ^^^ 2 ^ w) < 5 → rk c ≤ rk v → rk (c ^^^ 2 ^ w) ≤ rk v → U c w = U0 c w
theorem UI_step {F : Nat → Nat → Bool} {a : Nat} {s : Bs} {rk : Nat → Nat} {v : Nat} {U U0 : Nat → Nat → Bool} (hV : VI F a s rk) (hv : v < 16) (hc : s.2.2 v < 4) (h : UI s rk v U U0) : UI s rk (v ^^^ 2 ^ s.2.2 v) (usU U (v ^^^ 2 ^ s.2.2 v) v (s.2.2 v)) U0 := by
  obtain ⟨h1, h2, h3⟩ := hV.2.2.2.2.1 v hv hc
  obtain ⟨t1, t2, t3⟩ := xor_pow16 v hv _ hc
  intro c hc16 w hw g1 g2 g3 g4
  rw [usU_far (fun e => ?_) (fun e => ?_)]
  · exact h c hc16 w hw g1 g2 (by omega) (by omega)
  · rw [e.1] at g3; omega
  · rw [e.1, e.2, t2] at g4; omega
theorem cu_le (U : Nat → Nat → Bool) (a : Nat) : cu U a ≤ 4 := by
  unfold cu
  have := Bool.toNat_le (U a 0)
  have := Bool.toNat_le (U a 1)
  have := Bool.toNat_le (U a 2)
  have := Bool.toNat_le (U a 3)
  omega
theorem cu_4 {U : Nat → Nat → Bool} {a : Nat} (h : cu U a = 4) : ∀ w, w < 4 → U a w = true := by
  unfold cu at h
  intro w hw
  rcases (show w = 0 ∨ w = 1 ∨ w = 2 ∨ w = 3 by omega) with rfl | rfl | rfl | rfl <;> cases h0 : U a 0 <;> cases h1 : U a 1 <;> cases h2 : U a 2 <;> cases h3 : U a 3 <;> simp [h0, h1, h2, h3] at h ⊢
theorem cu_add {U : Nat → Nat → Bool} {a p v w : Nat} (hp : p = a) (hw : w < 4) (h1 : U v w = false) (h2 : U a w = false) : cu (usU U p v w) a = cu U a + 1 := by
  subst hp
  have e : ∀ x, usU U p v w p x = if x = w then true else U p x := fun x => by
    unfold usU
    rw [h1, if_neg Bool.false_ne_true]
    by_cases g : x = w
    · rw [if_pos ⟨rfl, g⟩, if_pos g]
    · rw [if_neg (fun q => g q.2), if_neg g]
  unfold cu
  rw [e, e, e, e]
  rcases (show w = 0 ∨ w = 1 ∨ w = 2 ∨ w = 3 by omega) with rfl | rfl | rfl | rfl <;> simp [h2] <;> omega
theorem cu_same {U : Nat → Nat → Bool} {a p v w : Nat} (hp : p ≠ a) (hv : v ≠ a) : cu (usU U p v w) a = cu U a := by
  have e : ∀ x, usU U p v w a x = U a x := fun x => usU_far (fun q => hv q.1.symm) (fun q => hp q.1.symm)
  unfold cu
  rw [e, e, e, e]
theorem ZU_use {U : Nat → Nat → Bool} {a v w : Nat} (ha : a < 16) (hv : v < 16) (hw : w < 4) (hne : v ≠ a) (h : ZU U a) : ZU (usU U (v ^^^ 2 ^ w) v w) a := by
  intro x hx
  unfold usU
  split
  · split
    · rfl
    · exact h x hx
  · split
    · next g =>
      obtain ⟨g1, g2⟩ := g
      subst g2
      have t1 := (xor_pow16 a ha x hx).2.1
      have t2 := (xor_pow16 v hv x hx).2.1
      rw [← g1, t1] at t2
      exact absurd t2.symm hne
    · exact h x hx
/-- a path that is found takes one more of the first's ways -/
theorem bk_cu {F : Nat → Nat → Bool} {a : Nat} {s : Bs} {rk : Nat → Nat} {U0 : Nat → Nat → Bool} (ha : a < 16) (hV : VI F a s rk) (hF : ∀ c w, F c w = false → U0 c w = false) : ∀ r v U, v < 16 → s.2.2 v < 5 → rk v < r → UI s rk v U U0 → ZU U a → ZU (bk s.2.2 a r v U) a ∧ cu (bk s.2.2 a r v U) a = cu U a + (if v = a then 0 else 1) := by
  intro r
  induction r with
  | zero => intro v U hv hc hr; omega
  | succ r ih =>
    intro v U hv hc hr hU hZ
    rw [bk]
    by_cases g : v = a
    · rw [if_pos g, if_pos g]
      exact ⟨hZ, rfl⟩
    · rw [if_neg g, if_neg g]
      have hc4 : s.2.2 v < 4 := by
        have := hV.2.2.2.2.2.2.2 v hv
        by_cases e : s.2.2 v = 4
        · exact absurd (this e) g
        · omega
      obtain ⟨h1, h2, h3⟩ := hV.2.2.2.2.1 v hv hc4
      obtain ⟨t1, t2, t3⟩ := xor_pow16 v hv _ hc4
      obtain ⟨i1, i2⟩ := ih _ _ t1 h1 (by omega) (UI_step hV hv hc4 hU) (ZU_use ha hv hc4 g hZ)
      refine ⟨i1, ?_⟩
      rw [i2]
      by_cases e : v ^^^ 2 ^ s.2.2 v = a
      · rw [if_pos e]
        have z1 : U v (s.2.2 v) = false := by
          have := hZ _ hc4
          rw [← e, t2] at this
          exact this
        have z2 : U a (s.2.2 v) = false := by
          rw [← e, hU _ t1 _ hc4 h1 (by rw [t2]; exact hc) (by omega) (by rw [t2]; omega)]
          exact hF _ _ h3
        rw [cu_add e hc4 z1 z2]
      · rw [if_neg e, cu_same e g]
/-- the ways found, one behind the other -/
def srch (B : Nat → Bool) (a : Nat) (U : Nat → Nat → Bool) : Bs := boutr (fun c w => B (lk c w) || U c w) 16 0 (Bs0 a)
def augs (B : Nat → Bool) (a b : Nat) : Nat → (Nat → Nat → Bool) → Nat
  | 0, _ => 0
  | r + 1, U => if (srch B a U).2.2 b < 5 then 1 + augs B a b r (bk (srch B a U).2.2 a 16 b U) else 0
theorem VI_in {F : Nat → Nat → Bool} {a k : Nat} : ∀ r w (s : Bs) rk, w + r = 4 → VI F a s rk → k < s.2.1 → ∃ rk', VI F a (binr F k r w s) rk'
  | 0, w, s, rk, _, h, _ => ⟨rk, h⟩
  | r + 1, w, s, rk, hw, h, hk => by
    obtain ⟨rk', h1, h2, h3⟩ := VI_step h hk (show w < 4 by omega)
    exact VI_in r (w + 1) _ rk' (by omega) h1 h2
theorem VI_out {F : Nat → Nat → Bool} {a : Nat} : ∀ r b (s : Bs) rk, VI F a s rk → ∃ rk', VI F a (boutr F r b s) rk'
  | 0, b, s, rk, h => ⟨rk, h⟩
  | r + 1, b, s, rk, h => by
    rw [boutr]
    split
    · next g =>
      obtain ⟨rk', h1⟩ := VI_in 4 0 s rk rfl h g
      exact VI_out r (b + 1) _ rk' h1
    · exact ⟨rk, h⟩
