/-! THE SMALL METHODS -/
theorem zq_ite {c : Prop} [Decidable c] {Q : zq} {x y : Int32} {I : zi} {L : zl} : (if c then Q (some (.int x)) I L else Q (some (.int y)) I L) ↔ Q (some (.int (if c then x else y))) I L := by
  by_cases h : c <;> simp [h]
theorem zq_itel {c : Prop} [Decidable c] {Q : zq} {x y : Int64} {I : zi} {L : zl} : (if c then Q (some (.long x)) I L else Q (some (.long y)) I L) ↔ Q (some (.long (if c then x else y))) I L := by
  by_cases h : c <;> simp [h]
def zb (b : Bool) : Int32 := if b then 1 else 0
theorem zb_0 {b : Bool} : (zb b = 0) ↔ (b = false) := by cases b <;> decide
/-- the link at a corner by a way -/
def lk (c w : Nat) : Nat := 8 * w + (((c >>> (w + 1)) <<< w) ||| (c &&& (2 ^ w - 1)))
theorem lk_lt : ∀ c, c < 16 → ∀ w, w < 4 → lk c w < 32 := by decide +kernel
/-- has: a set, a number -/
def hs (x y : Int32) : Bool := decide (((x >>> (y &&& 31)) &&& 1) = 1)
theorem hs_bt (x : Int32) {l : Nat} (hl : l < 32) : hs x (nI l) = bt x l := by
  unfold hs
  have h1 : ∀ z : Int32, (z &&& 1 = 1) ↔ bt z 0 = true := by
    intro z
    constructor
    · intro h
      have := congrArg (fun q => bt q 0) h
      simp only [b_and] at this
      have h2 : bt 1 0 = true := by decide
      rw [h2, Bool.and_true] at this
      exact this
    · intro h
      apply b_ext
      intro i hi
      rw [b_and]
      rcases Nat.eq_zero_or_pos i with rfl | hp
      · rw [h]; rfl
      · have h2 : ∀ i, i < 32 → 0 < i → bt 1 i = false := by decide
        rw [h2 i hi hp, Bool.and_false]
  have h3 := b_sshr l hl x (i := 0) (by omega)
  rw [Nat.add_zero, if_pos hl] at h3
  rw [← h3]
  cases hb : bt (x >>> (nI l &&& 31)) 0 with
  | true => exact decide_eq_true ((h1 _).mpr hb)
  | false => exact decide_eq_false (fun h => by rw [(h1 _).mp h] at hb; cases hb)
/-- a way: 4 is none; as the check has it (-9), as the class has it (-1) -/
def wy (w : Nat) : Int32 := if w < 4 then nI w else -9
def wx (w : Nat) : Int32 := if w < 4 then nI w else -1
def low (s : Nat) : Nat := if s.testBit 0 then 0 else if s.testBit 1 then 1 else if s.testBit 2 then 2 else if s.testBit 3 then 3 else 4
def high (s : Nat) : Nat := if s.testBit 3 then 3 else if s.testBit 2 then 2 else if s.testBit 1 then 1 else if s.testBit 0 then 0 else 4
def whN (B : Nat → Bool) (c : Nat) : Nat := (if B (lk c 0) then 0 else 1) + ((if B (lk c 1) then 0 else 2) + ((if B (lk c 2) then 0 else 4) + (if B (lk c 3) then 0 else 8)))
def dod (off wh : Nat) : Nat := if low off = 4 then 4 else if wh.testBit (low off) then low off else if off &&& wh = 0 then low wh else low (off &&& wh)
def wish (k c g w t : Nat) (B : Nat → Bool) : Nat := match k with
  | 1 => high (c ^^^ g)
  | 2 => if t % 2 = 1 then 4 else low (c ^^^ g)
  | 3 => dod (c ^^^ g) (whN B c)
  | 4 => if t % 3 = 0 then low (c ^^^ g) else high (c ^^^ g)
  | 5 => if dod (c ^^^ g) (whN B c) = w then 4 else dod (c ^^^ g) (whN B c)
  | _ => low (c ^^^ g)
theorem whN_lt (B : Nat → Bool) (c : Nat) : whN B c < 16 := by
  unfold whN
  split <;> split <;> split <;> split <;> decide
theorem low_le (s : Nat) : low s ≤ 4 := by
  unfold low
  repeat' split
  all_goals decide
theorem high_le (s : Nat) : high s ≤ 4 := by
  unfold high
  repeat' split
  all_goals decide
theorem dod_le (a b : Nat) : dod a b ≤ 4 := by
  unfold dod
  repeat' split
  all_goals first | exact low_le _ | decide
theorem wish_le (k c g w t : Nat) (B : Nat → Bool) : wish k c g w t B ≤ 4 := by
  unfold wish
  repeat' split
  all_goals first | exact low_le _ | exact high_le _ | exact dod_le _ _ | decide
theorem wy_inj : ∀ a, a ≤ 4 → ∀ b, b ≤ 4 → (wy a = wy b ↔ a = b) := by decide +kernel
theorem wx_inj : ∀ a, a ≤ 4 → ∀ b, b ≤ 4 → (wx a = wx b ↔ a = b) := by decide +kernel
section
variable {n d : Nat} {I : zi} {L : zl} {Q : zq}
theorem s_M_in (v a b : Int32) : zV n d 126 0 [.int v, .int a, .int b] [] I L Q ↔ Q (some (.int (if v < a then 0 else if b < v then 0 else 1))) I L := by
  simp only [e126_0, e126_1, e126_2, e126_5, e126_6, e126_7, e126_10, e126_11, e126_14, e126_15, zpush_some, zpush_none, true_or, or_true, true_and, and_true, ↓reduceIte, zq_ite, zq_itel]
theorem h_lk : ∀ c, c < 16 → ∀ w, w < 4 → ((8 : Int32) * nI w + (nI c >>> ((nI w + 1) &&& 31) <<< (nI w &&& 31) ||| nI c &&& ((1 : Int32) <<< (nI w &&& 31)) - 1)) = nI (lk c w) := by decide +kernel
theorem s_M_linkAt {c w : Nat} (hc : c < 16) (hw : w < 4) : zV n d 155 0 [.int (nI c), .int (nI w)] [] I L Q ↔ Q (some (.int (nI (lk c w)))) I L := by
  simp only [e155_0, e155_2, e155_3, e155_4, e155_5, e155_6, e155_7, e155_8, e155_9, e155_10, e155_11, e155_12, e155_13, e155_14, e155_15, e155_16, e155_17, e155_18, e155_19, e155_20, zpush_some, zpush_none, true_or, or_true, true_and, and_true, ↓reduceIte, zq_ite, zq_itel, h_lk c hc w hw]
theorem s_M_linkAt0 {c : Nat} (hc : c < 16) : zV n d 155 0 [.int (nI c), .int 0] [] I L Q ↔ Q (some (.int (nI (lk c 0)))) I L := s_M_linkAt (w := 0) hc (by decide)
theorem s_M_linkAt1 {c : Nat} (hc : c < 16) : zV n d 155 0 [.int (nI c), .int 1] [] I L Q ↔ Q (some (.int (nI (lk c 1)))) I L := s_M_linkAt (w := 1) hc (by decide)
theorem s_M_linkAt2 {c : Nat} (hc : c < 16) : zV n d 155 0 [.int (nI c), .int 2] [] I L Q ↔ Q (some (.int (nI (lk c 2)))) I L := s_M_linkAt (w := 2) hc (by decide)
theorem s_M_linkAt3 {c : Nat} (hc : c < 16) : zV n d 155 0 [.int (nI c), .int 3] [] I L Q ↔ Q (some (.int (nI (lk c 3)))) I L := s_M_linkAt (w := 3) hc (by decide)
theorem s_M_has (x y : Int32) : zV n d 151 0 [.int x, .int y] [] I L Q ↔ Q (some (.int (zb (hs x y)))) I L := by
  simp only [e151_0, e151_1, e151_2, e151_3, e151_4, e151_5, e151_6, e151_9, e151_10, e151_13, e151_14, zpush_some, zpush_none, true_or, or_true, true_and, and_true, ↓reduceIte, zq_ite, zq_itel, hs, zb]
  by_cases h : ((x >>> (y &&& 31)) &&& 1) = 1 <;> simp [h]
theorem s_M_hasN (x : Int32) {l : Nat} (hl : l < 32) : zV n d 151 0 [.int x, .int (nI l)] [] I L Q ↔ Q (some (.int (zb (bt x l)))) I L := by
  rw [s_M_has, hs_bt x hl]
theorem h_low : ∀ s, s < 16 → (if hs (nI s) 0 = false then (if hs (nI s) 1 = false then (if hs (nI s) 2 = false then (if hs (nI s) 3 = false then (-9 : Int32) else 3) else 2) else 1) else 0) = wy (low s) := by decide +kernel
theorem s_M_lowest {s : Nat} (h : s < 16) : zV n (d + 1) 152 0 [.int (nI s), .null] [] I L Q ↔ Q (some (.int (wy (low s)))) I L := by
  simp only [e152_0, e152_1, e152_2, e152_3, e152_4, e152_7, e152_8, e152_9, e152_12, e152_15, e152_16, e152_17, e152_20, e152_23, e152_25, zpush_some, zpush_none, true_or, or_true, true_and, and_true, ↓reduceIte, zq_ite, zq_itel, s_M_has, zb_0, Int32.reduceAdd, Int32.reduceLE, Int32.reduceLT, h_low s h]
theorem zm_3 : (3 : Int32) + (-1) = 2 := by decide
theorem zm_2 : (2 : Int32) + (-1) = 1 := by decide
theorem zm_1 : (1 : Int32) + (-1) = 0 := by decide
theorem zm_0 : (0 : Int32) + (-1) = -1 := by decide
theorem zm_n : ((-1 : Int32) < 0) = True := eq_true (by decide)
theorem h_high : ∀ s, s < 16 → (if hs (nI s) 3 = false then (if hs (nI s) 2 = false then (if hs (nI s) 1 = false then (if hs (nI s) 0 = false then (-9 : Int32) else 0) else 1) else 2) else 3) = wy (high s) := by decide +kernel
theorem s_M_highest {s : Nat} (h : s < 16) : zV n (d + 1) 150 0 [.int (nI s), .null] [] I L Q ↔ Q (some (.int (wy (high s)))) I L := by
  simp only [e150_0, e150_1, e150_2, e150_3, e150_6, e150_7, e150_8, e150_11, e150_14, e150_15, e150_16, e150_19, e150_22, e150_24, zpush_some, zpush_none, true_or, or_true, true_and, and_true, ↓reduceIte, zq_ite, zq_itel, s_M_has, zb_0, zm_3, zm_2, zm_1, zm_0, zm_n, Int32.reduceLT, h_high s h]
theorem h_whole : ∀ a b c e : Bool, ((((0 : Int32) ||| (if a = false then 1 <<< ((0 : Int32) &&& 31) else 0)) ||| (if b = false then 1 <<< ((1 : Int32) &&& 31) else 0)) ||| (if c = false then 1 <<< ((2 : Int32) &&& 31) else 0)) ||| (if e = false then 1 <<< ((3 : Int32) &&& 31) else 0) = nI ((if a then 0 else 1) + ((if b then 0 else 2) + ((if c then 0 else 4) + (if e then 0 else 8)))) := by decide +kernel
theorem s_M_wholeOnes {x : Int32} {c : Nat} (hc : c < 16) : zV n (d + 1) 154 0 [.int x, .int (nI c), .null, .null] [] I L Q ↔ Q (some (.int (nI (whN (bt x) c)))) I L := by
  simp only [e154_0, e154_1, e154_2, e154_3, e154_3a, e154_4, e154_5, e154_6, e154_9, e154_10, e154_11, e154_12, e154_13, e154_16, e154_19, e154_22, e154_23, e154_26, e154_27, e154_28, e154_29, e154_30, e154_31, e154_31a, e154_34, e154_37, e154_38, zpush_some, zpush_none, true_or, or_true, true_and, and_true, ↓reduceIte, zq_ite, zq_itel, s_M_linkAt0 hc, s_M_linkAt1 hc, s_M_linkAt2 hc, s_M_linkAt3 hc, s_M_hasN x (lk_lt c hc 0 (by decide)), s_M_hasN x (lk_lt c hc 1 (by decide)), s_M_hasN x (lk_lt c hc 2 (by decide)), s_M_hasN x (lk_lt c hc 3 (by decide)), zb_0, Int32.reduceAdd, Int32.reduceLE, Int32.reduceLT]
  unfold whN
  rw [← h_whole]
  generalize bt x (lk c 0) = b0
  generalize bt x (lk c 1) = b1
  generalize bt x (lk c 2) = b2
  generalize bt x (lk c 3) = b3
  cases b0 <;> cases b1 <;> cases b2 <;> cases b3 <;> simp
theorem h_dod : ∀ off, off < 16 → ∀ wh, wh < 16 → (if wy (low off) = -9 then wy (low off) else if hs (nI wh) (wy (low off)) = false then (if nI off &&& nI wh = 0 then wy (low wh) else wy (low (off &&& wh))) else wy (low off)) = wy (dod off wh) := by decide +kernel
theorem and_lt16 {a : Nat} (b : Nat) (h : a < 16) : a &&& b < 16 := Nat.lt_of_le_of_lt Nat.and_le_left h
theorem xor_lt16 {a b : Nat} (h : a < 16) (h2 : b < 16) : a ^^^ b < 16 := Nat.xor_lt_two_pow (n := 4) h h2
theorem s_M_dodges {x : Int32} {c off : Nat} (hc : c < 16) (ho : off < 16) : zV n (d + 2) 153 0 [.int x, .int (nI c), .int (nI off), .null, .null] [] I L Q ↔ Q (some (.int (wy (dod off (whN (bt x) c))))) I L := by
  have hw := whN_lt (bt x) c
  simp only [e153_0, e153_1, e153_2, e153_5, e153_6, e153_7, e153_10, e153_10a, e153_12, e153_14, e153_16, e153_19, e153_20, e153_22, e153_25, e153_28, e153_30, e153_33, e153_34, e153_35, e153_36, e153_39, e153_40, e153_41, e153_42, e153_45, e153_48, e153_49, e153_52, zpush_some, zpush_none, true_or, or_true, true_and, and_true, ↓reduceIte, zq_ite, zq_itel, s_M_wholeOnes hc, s_M_lowest ho, s_M_lowest hw, s_M_has, zb_0, nx_and, s_M_lowest (and_lt16 (whN (bt x) c) ho)]
  rw [← h_dod off ho _ hw, nx_and]
end
