/-! BITS, SUMMED -/
def sumB (f : Nat → Bool) : Nat → Nat
  | 0 => 0
  | i + 1 => sumB f i + (f i).toNat
theorem and1 (y : Int32) : y &&& 1 = 0 ∨ y &&& 1 = 1 := by
  have e := pk_and y (m := 1) 1 (by decide)
  rw [e]
  rcases (show y.toBitVec.toNat % 2 ^ 1 = 0 ∨ y.toBitVec.toNat % 2 ^ 1 = 1 by omega) with g | g
  · rw [g]; exact Or.inl rfl
  · rw [g]; exact Or.inr rfl
theorem bsI_sum (x : Int32) : ∀ i, i ≤ 32 → bsI x i = nI (sumB (bt x) i)
  | 0, _ => rfl
  | i + 1, h => by
    rw [bsI, sumB, bsI_sum x i (by omega)]
    have e := hs_bt x (l := i) (by omega)
    unfold hs at e
    cases hb : bt x i
    · rw [hb] at e
      have e := of_decide_eq_false e
      rw [(and1 _).resolve_right e]
      exact i_tk _ 0
    · rw [hb] at e
      have e := of_decide_eq_true e
      rw [e]
      exact i_tk _ 1
/-- both arcs of each link -/
theorem sumB_arcs {b : Int64} {x : Int32} (h : AB b (bt x)) : sumB (bl b) 64 = 2 * sumB (bt x) 32 := by
  have g : ∀ j, j < 64 → bl b j = bt x (lk (j % 16) (j / 16)) := fun j hj => by
    rw [← h (j % 16) (by omega) (j / 16) (by omega), show 16 * (j / 16) + j % 16 = j by omega]
  have g2 : ∀ i, i ≤ 64 → sumB (bl b) i = sumB (fun j => bt x (lk (j % 16) (j / 16))) i := fun i => by
    induction i with
    | zero => intro _; rfl
    | succ i ih => intro hi; rw [sumB, sumB, ih (by omega), g i (by omega)]
  rw [g2 64 (by omega)]
  generalize bt x = f
  simp only [sumB, lk, Nat.reduceMod, Nat.reduceDiv, Nat.reduceMul, Nat.reduceAdd, Nat.reduceShiftRight, Nat.reduceShiftLeft, Nat.reducePow, Nat.reduceSub, Nat.reduceAnd, Nat.reduceOr]
  omega
