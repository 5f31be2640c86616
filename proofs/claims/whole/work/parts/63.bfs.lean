/-! HOW FAR: by sets that grow, by a queue -/
def spF (B : Nat → Bool) (f : Nat → Bool) : Nat → Nat → Bool
  | 0, v => f v
  | w + 1, v => spF B f w v || (f (v ^^^ 2 ^ w) && !B (lk v w))
def lev (B : Nat → Bool) (a : Nat) : Nat → Nat → Bool
  | 0 => fun v => decide (v = a)
  | k + 1 => spF B (lev B a k) 4
/-- the first of r sets, from k on, that holds v -/
def dsR (B : Nat → Bool) (a v : Nat) : Nat → Nat → Nat
  | 0, _ => 16
  | r + 1, k => if lev B a k v then k else dsR B a v r (k + 1)
def dN (B : Nat → Bool) (a v : Nat) : Nat := dsR B a v 16 0
theorem lev_up {B : Nat → Bool} {a k v : Nat} (h : lev B a k v = true) : lev B a (k + 1) v = true := by
  show (((spF B (lev B a k) 0 v || _) || _) || _ || _) = true
  show ((((lev B a k v || _) || _) || _) || _) = true
  rw [h]
  simp
theorem lev_le {B : Nat → Bool} {a k v : Nat} (h : lev B a k v = true) : ∀ r, lev B a (k + r) v = true
  | 0 => h
  | r + 1 => lev_up (lev_le h r)
theorem lev_edge {B : Nat → Bool} {a k v w : Nat} (hw : w < 4) (h : lev B a k (v ^^^ 2 ^ w) = true) (hb : B (lk v w) = false) : lev B a (k + 1) v = true := by
  show ((((lev B a k v || (lev B a k (v ^^^ 2 ^ 0) && !B (lk v 0))) || (lev B a k (v ^^^ 2 ^ 1) && !B (lk v 1))) || (lev B a k (v ^^^ 2 ^ 2) && !B (lk v 2))) || (lev B a k (v ^^^ 2 ^ 3) && !B (lk v 3))) = true
  rcases (show w = 0 ∨ w = 1 ∨ w = 2 ∨ w = 3 by omega) with rfl | rfl | rfl | rfl <;> rw [h, hb] <;> simp
theorem lev_cases {B : Nat → Bool} {a k v : Nat} (h : lev B a (k + 1) v = true) : lev B a k v = true ∨ ∃ w, w < 4 ∧ lev B a k (v ^^^ 2 ^ w) = true ∧ B (lk v w) = false := by
  have h' : ((((lev B a k v || (lev B a k (v ^^^ 2 ^ 0) && !B (lk v 0))) || (lev B a k (v ^^^ 2 ^ 1) && !B (lk v 1))) || (lev B a k (v ^^^ 2 ^ 2) && !B (lk v 2))) || (lev B a k (v ^^^ 2 ^ 3) && !B (lk v 3))) = true := h
  simp only [Bool.or_eq_true, Bool.and_eq_true, Bool.not_eq_true'] at h'
  rcases h' with (((g | g) | g) | g) | g
  · exact Or.inl g
  · exact Or.inr ⟨0, by decide, g⟩
  · exact Or.inr ⟨1, by decide, g⟩
  · exact Or.inr ⟨2, by decide, g⟩
  · exact Or.inr ⟨3, by decide, g⟩
/-- dN is the least -/
theorem dsR_lt {B : Nat → Bool} {a v : Nat} : ∀ {r k : Nat}, k + r = 16 → dsR B a v r k < 16 → lev B a (dsR B a v r k) v = true
  | 0, _, _, h => absurd h (by show ¬ 16 < 16; omega)
  | r + 1, k, hk, h => by
    rw [dsR] at h ⊢
    cases g : lev B a k v
    · rw [g, if_neg Bool.false_ne_true] at h
      rw [if_neg Bool.false_ne_true]
      exact dsR_lt (by omega) h
    · rw [if_pos rfl]; exact g
theorem dsR_le {B : Nat → Bool} {a v : Nat} : ∀ {r k j : Nat}, k + r = 16 → k ≤ j → j < 16 → lev B a j v = true → dsR B a v r k ≤ j
  | 0, k, j, hk, h1, h2, _ => absurd h2 (by omega)
  | r + 1, k, j, hk, h1, h2, h => by
    rw [dsR]
    cases g : lev B a k v
    · rw [if_neg Bool.false_ne_true]
      have : k ≠ j := fun e => by rw [e, h] at g; cases g
      exact dsR_le (by omega) (by omega) h2 h
    · rw [if_pos rfl]; exact h1
theorem dsR_16 {B : Nat → Bool} {a v : Nat} : ∀ {r k : Nat}, k + r = 16 → dsR B a v r k ≤ 16
  | 0, _, _ => Nat.le_refl _
  | r + 1, k, hk => by
    rw [dsR]
    split
    · omega
    · exact dsR_16 (by omega)
theorem dN_lt {B : Nat → Bool} {a v : Nat} (h : dN B a v < 16) : lev B a (dN B a v) v = true := dsR_lt (by omega) h
theorem dN_le {B : Nat → Bool} {a v j : Nat} (hj : j < 16) (h : lev B a j v = true) : dN B a v ≤ j := dsR_le (by omega) (Nat.zero_le _) hj h
theorem dN_16 {B : Nat → Bool} {a v : Nat} : dN B a v ≤ 16 := dsR_16 (by omega)
/-- what a queue knows -/
def BF (B : Nat → Bool) (c : Nat) (A q : Nat → Nat) (b e : Nat) : Prop :=
  (e ≤ 16 ∧ b ≤ e) ∧ (∀ i, i < e → q i < 16 ∧ A (q i) < 16 ∧ A (q i) ≤ i) ∧ sumB (fun v => decide (A v < 16)) 16 = e ∧
  (∀ v, v < 16 → A v < 16 → ∃ i, i < e ∧ q i = v) ∧ (∀ i j, i ≤ j → j < e → A (q i) ≤ A (q j)) ∧ (b < e → ∀ j, j < e → A (q j) ≤ A (q b) + 1) ∧
  (∀ v, v < 16 → A v < 16 → lev B c (A v) v = true) ∧ (∀ i, i < b → ∀ w, w < 4 → B (lk (q i) w) = false → A (q i ^^^ 2 ^ w) < 16 ∧ A (q i ^^^ 2 ^ w) ≤ A (q i) + 1) ∧ A c = 0
def upN (f : Nat → Nat) (k x : Nat) : Nat → Nat := fun i => if i = k then x else f i
theorem upN_eq {f : Nat → Nat} {k x : Nat} : upN f k x k = x := if_pos rfl
theorem upN_ne {f : Nat → Nat} {k x i : Nat} (h : i ≠ k) : upN f k x i = f i := if_neg h
theorem sumB_up {f g : Nat → Bool} {t : Nat} (hf : f t = false) (hg : g t = true) (h : ∀ i, i ≠ t → g i = f i) : ∀ N, sumB g N = sumB f N + (if t < N then 1 else 0)
  | 0 => rfl
  | N + 1 => by
    rw [sumB, sumB, sumB_up hf hg h N]
    by_cases e : N = t
    · subst e
      rw [hf, hg]
      simp
    · rw [h N e]
      by_cases g : t < N
      · rw [if_pos g, if_pos (by omega)]; omega
      · rw [if_neg g, if_neg (by omega)]; omega
theorem xor_pow16 : ∀ c, c < 16 → ∀ w, w < 4 → c ^^^ 2 ^ w < 16 ∧ (c ^^^ 2 ^ w) ^^^ 2 ^ w = c ∧ lk (c ^^^ 2 ^ w) w = lk c w := by decide +kernel
theorem BF_cnt {B : Nat → Bool} {c : Nat} {A q : Nat → Nat} {b e t : Nat} (h : BF B c A q b e) (ht : t < 16) (hA : ¬ A t < 16) : e < 16 := by
  obtain ⟨⟨e1, e2⟩, -, h3, -⟩ := h
  have hs := sumB_up (f := fun v => decide (A v < 16)) (g := fun v => decide (A v < 16) || decide (v = t)) (t := t) (decide_eq_false hA) (by simp) (fun i hi => by simp [hi]) 16
  rw [if_pos ht, h3] at hs
  have := sumB_le (fun v => decide (A v < 16) || decide (v = t)) 16
  omega
/-- one more in the queue -/
theorem BF_push {B : Nat → Bool} {c : Nat} {A q : Nat → Nat} {b e w : Nat} (h : BF B c A q b e) (hb : b < e) (hw : w < 4) (hA : ¬ A (q b ^^^ 2 ^ w) < 16) (hB : B (lk (q b) w) = false) : BF B c (upN A (q b ^^^ 2 ^ w) (A (q b) + 1)) (upN q e (q b ^^^ 2 ^ w)) b (e + 1) := by
  have he := BF_cnt h (xor_pow16 _ (h.2.1 b hb).1 w hw).1 hA
  obtain ⟨⟨e1, e2⟩, h2, h3, h4, h5, h6, h7, h8, h9⟩ := h
  obtain ⟨b1, b2, b3⟩ := h2 b hb
  obtain ⟨t1, t2, t3⟩ := xor_pow16 _ b1 w hw
  have qn : ∀ i, i < e → q i ≠ q b ^^^ 2 ^ w := fun i hi g => hA (by rw [← g]; exact (h2 i hi).2.1)
  have Aq : ∀ i, i < e → upN A (q b ^^^ 2 ^ w) (A (q b) + 1) (upN q e (q b ^^^ 2 ^ w) i) = A (q i) := fun i hi => by
    rw [upN_ne (show i ≠ e by omega), upN_ne (qn i hi)]
  have Ae : upN A (q b ^^^ 2 ^ w) (A (q b) + 1) (upN q e (q b ^^^ 2 ^ w) e) = A (q b) + 1 := by rw [upN_eq, upN_eq]
  refine ⟨⟨by omega, by omega⟩, fun i hi => ?_, ?_, fun v hv hv2 => ?_, fun i j hij hj => ?_, fun _ j hj => ?_, fun v hv hv2 => ?_, fun i hi w' hw' hB' => ?_, ?_⟩
  · by_cases g : i = e
    · subst g
      rw [Ae, upN_eq]
      exact ⟨t1, by omega, by omega⟩
    · rw [Aq i (by omega), upN_ne g]
      exact h2 i (by omega)
  · rw [sumB_up (f := fun v => decide (A v < 16)) (t := q b ^^^ 2 ^ w) (decide_eq_false hA) (by rw [upN_eq]; exact decide_eq_true (by omega)) (fun i hi => by rw [upN_ne hi]) 16, h3, if_pos t1]
  · by_cases g : v = q b ^^^ 2 ^ w
    · exact ⟨e, Nat.lt_succ_self e, by rw [upN_eq, g]⟩
    · rw [upN_ne g] at hv2
      obtain ⟨i, i1, i2⟩ := h4 v hv hv2
      exact ⟨i, by omega, by rw [upN_ne (show i ≠ e by omega)]; exact i2⟩
  · by_cases g : j = e
    · subst g
      rw [Ae]
      by_cases g2 : i = j
      · subst g2; rw [Ae]; exact Nat.le_refl _
      · rw [Aq i (by omega)]
        exact h6 hb i (by omega)
    · rw [Aq j (by omega), Aq i (by omega)]
      exact h5 i j hij (by omega)
  · rw [Aq b hb]
    by_cases g : j = e
    · subst g; rw [Ae]; exact Nat.le_refl _
    · rw [Aq j (by omega)]; exact h6 hb j (by omega)
  · by_cases g : v = q b ^^^ 2 ^ w
    · subst g
      rw [upN_eq]
      exact lev_edge hw (by rw [t2]; exact h7 _ b1 b2) (by rw [t3]; exact hB)
    · rw [upN_ne g] at hv2 ⊢
      exact h7 v hv hv2
  · rw [upN_ne (show i ≠ e by omega)] at hB' ⊢
    obtain ⟨g1, g2⟩ := h8 i hi w' hw' hB'
    rw [upN_ne (fun g => hA (by rw [← g]; exact g1)), upN_ne (qn i (by omega))]
    exact ⟨g1, g2⟩
  · by_cases g : c = q b ^^^ 2 ^ w
    · exact absurd (by rw [← g, h9]; decide) hA
    · rw [upN_ne g]; exact h9
theorem BF_seen {B : Nat → Bool} {c : Nat} {A q : Nat → Nat} {b e v : Nat} (h : BF B c A q b e) (hb : b < e) (hv : v < 16) (hA : A v < 16) : A v ≤ A (q b) + 1 := by
  obtain ⟨⟨e1, e2⟩, h2, h3, h4, h5, h6, h7, h8, h9⟩ := h
  obtain ⟨i, i1, i2⟩ := h4 v hv hA
  rw [← i2]
  exact h6 hb i i1
theorem BF_next {B : Nat → Bool} {c : Nat} {A q : Nat → Nat} {b e : Nat} (h : BF B c A q b e) (hb : b < e) (hp : ∀ w, w < 4 → B (lk (q b) w) = false → A (q b ^^^ 2 ^ w) < 16 ∧ A (q b ^^^ 2 ^ w) ≤ A (q b) + 1) : BF B c A q (b + 1) e := by
  obtain ⟨⟨e1, e2⟩, h2, h3, h4, h5, h6, h7, h8, h9⟩ := h
  refine ⟨⟨e1, by omega⟩, h2, h3, h4, h5, fun g j hj => ?_, h7, fun i hi => ?_, h9⟩
  · have := h6 hb j hj
    have := h5 b (b + 1) (by omega) g
    omega
  · by_cases g : i = b
    · subst g; exact hp
    · exact h8 i (by omega)
theorem BF_end {B : Nat → Bool} {c : Nat} {A q : Nat → Nat} {e : Nat} (h : BF B c A q e e) (hA : ∀ v, A v ≤ 16) {v : Nat} (hv : v < 16) : A v = dN B c v := by
  obtain ⟨⟨e1, e2⟩, h2, h3, h4, h5, h6, h7, h8, h9⟩ := h
  have low : ∀ k v, v < 16 → lev B c k v = true → A v < 16 ∧ A v ≤ k := by
    intro k
    induction k with
    | zero =>
      intro v hv hl
      have : v = c := of_decide_eq_true hl
      subst this
      rw [h9]
      exact ⟨by decide, Nat.le_refl _⟩
    | succ k ih =>
      intro v hv hl
      rcases lev_cases hl with g | ⟨w, hw, g1, g2⟩
      · have := ih v hv g
        exact ⟨this.1, by omega⟩
      · obtain ⟨t1, t2, t3⟩ := xor_pow16 v hv w hw
        obtain ⟨a1, a2⟩ := ih _ t1 g1
        obtain ⟨i, i1, i2⟩ := h4 _ t1 a1
        have := h8 i i1 w hw (by rw [i2, t3]; exact g2)
        rw [i2, t2] at this
        exact ⟨this.1, by omega⟩
  by_cases g : A v < 16
  · have h1 := dN_le (v := v) g (h7 v hv g)
    have h2 := dN_lt (B := B) (a := c) (v := v) (by omega)
    have h3 := (low _ v hv h2).2
    omega
  · have h1 := dN_16 (B := B) (a := c) (v := v)
    have h2 := hA v
    by_cases g2 : dN B c v < 16
    · exact absurd (low _ v hv (dN_lt g2)).1 g
    · omega
def aw (d : Nat) : Int32 := if d < 16 then nI d else -1
theorem aw_ge {d : Nat} : (0 ≤ aw d) = (d < 16) := by
  unfold aw
  by_cases h : d < 16
  · rw [if_pos h]; exact propext ⟨fun _ => h, fun _ => nI_pos' (by omega)⟩
  · rw [if_neg h]; exact propext ⟨fun g => absurd g (by decide), fun g => absurd g h⟩
theorem BF_start {B : Nat → Bool} {c : Nat} (hc : c < 16) : BF B c (upN (fun _ => 16) c 0) (fun _ => c) 0 1 := by
  have a0 : upN (fun _ => 16) c 0 c = 0 := upN_eq
  have cn : ∀ v, upN (fun _ => 16) c 0 v < 16 → v = c := fun v g => by
    by_cases e : v = c
    · exact e
    · rw [upN_ne e] at g; omega
  refine ⟨⟨by decide, by decide⟩, fun i hi => ?_, ?_, fun v hv hv2 => ⟨0, by decide, (cn v hv2).symm⟩, fun i j _ _ => Nat.le_refl _, fun _ j _ => Nat.le_succ _, fun v hv hv2 => ?_, fun i hi => absurd hi (Nat.not_lt_zero i), a0⟩
  · show c < 16 ∧ upN (fun _ => 16) c 0 c < 16 ∧ upN (fun _ => 16) c 0 c ≤ i
    rw [a0]
    exact ⟨hc, by decide, Nat.zero_le _⟩
  · have h0 : ∀ N, sumB (fun _ => false) N = 0 := fun N => by
      induction N with
      | zero => rfl
      | succ N ih => rw [sumB, ih]; rfl
    rw [sumB_up (f := fun _ => false) (t := c) rfl (by rw [a0]; rfl) (fun i hi => by rw [upN_ne hi]; rfl) 16, h0, if_pos hc]
  · have := cn v hv2
    subst this
    rw [a0]
    exact decide_eq_true rfl
