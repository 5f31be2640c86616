/-! WHAT TIES BOTH -/
def IA (I : zi) (L : zl) : Prop := I 3 11 = I 62 4 ∧ (∀ f, 1 ≤ f → f ≤ 5 → I 35 f = I 67 f) ∧ I 3 12 = I 62 6 ∧ L 3 13 = L 62 7 ∧ L 3 14 = L 62 8
/-- rows: base of the class's strips, the check's sizes, its items, the limit, how many -/
def IRt (I : zi) (b sz it lim cn : Nat) : Prop := ∀ r, r < cn → I (b + 2 * r) 1 = I sz r ∧ (I sz r = -1 ∨ ∃ q, q ≤ lim ∧ I sz r = nI q ∧ ∀ j, j < q → I (b + 1 + 2 * r) j = I it (lim * r + j))
def IR (I : zi) : Prop := IRt I 36 63 64 40 6
def IT (I : zi) : Prop := IRt I 48 65 66 60 4
theorem IRt_eq {I I' : zi} {b sz it lim cn : Nat} (h : IRt I b sz it lim cn) (h1 : ∀ k j, b ≤ k → k < b + 2 * cn → I' k j = I k j) (h2 : ∀ j, I' sz j = I sz j) (h3 : ∀ j, I' it j = I it j) : IRt I' b sz it lim cn := by
  intro r hr
  obtain ⟨a1, a2⟩ := h r hr
  refine ⟨by rw [h1 _ 1 (by omega) (by omega), h2]; exact a1, ?_⟩
  rw [h2]
  rcases a2 with a2 | ⟨q, q1, q2, q3⟩
  · exact Or.inl a2
  · exact Or.inr ⟨q, q1, q2, fun j hj => by rw [h1 _ j (by omega) (by omega), h3]; exact q3 j hj⟩
/-- a deed -/
def tog (x : Int32) (l : Nat) : Int32 := x ^^^ (1 : Int32) <<< (nI l &&& 31)
def do1 (K : Nat → Nat) (m : Nat) (s : Cs) (c : Nat) : Cs :=
  if c % 4 = 1 then (s.1, s.2.1, s.2.2.1, tog s.2.2.2.1 (c / 4), s.2.2.2.2)
  else if c % 4 = 2 then (s.1, fun i => if i = c / 4 / 16 then c / 4 % 16 else s.2.1 i, s.2.2)
  else if s.2.2.2.2.1 < 99 then stp K m s else s
def rep (K : Nat → Nat) (m : Nat) (s : Cs) (D : List Nat) : Cs := D.foldl (do1 K m) s
/-- a deed's number, as it can be -/
def okd (m c : Nat) : Prop := c = 0 ∨ (c % 4 = 1 ∧ c / 4 < 32) ∨ (c % 4 = 2 ∧ c / 4 / 16 < m)
/-- deeds in a strip -/
def DS (I : zi) (k : Nat) (D : List Nat) : Prop := D.length ≤ 40 ∧ I k 1 = nI D.length ∧ ∀ j, j < D.length → I (k + 1) j = nI (D.getD j 0)
/-- the check's cube, somewhere in a longer array -/
def MCo (I : zi) (a o m : Nat) (s : Cs) : Prop := ∃ s' : Cs, eqs m s' s ∧ I a (o + 0) = nI s'.2.2.2.2.1 ∧ I a (o + 1) = nI s'.2.2.2.2.2 ∧ I a (o + 2) = s'.2.2.2.1 ∧ ∀ i, i < 7 → (I a (o + (3 + i)) = nI (s'.1 i) ∧ s'.1 i < 16) ∧ (I a (o + (10 + i)) = nI (s'.2.1 i) ∧ s'.2.1 i < 16) ∧ (I a (o + (17 + i)) = wy (s'.2.2.1 i) ∧ s'.2.2.1 i ≤ 4)
theorem MCo_0 {I : zi} {a m : Nat} {s : Cs} : MCo I a 0 m s ↔ MC I a m s := by
  unfold MCo MC Mc
  simp only [Nat.zero_add]
/-- a kept cube: the class's strip, the check's copy -/
def KP (I : zi) (m : Nat) (K : Nat → Nat) (s0 : Cs) (q : Nat) (D : Option (List Nat)) : Prop := match D with
  | none => I (56 + 2 * q) 1 = -1 ∧ I 74 q = -1
  | some D => DS I (56 + 2 * q) D ∧ (∀ c ∈ D, okd m c) ∧ I 74 q = nI D.length ∧ MCo I 72 (24 * q) m (rep K m s0 D) ∧ ∀ j, j < D.length → MCo I 73 (960 * q + 24 * j) m (rep K m s0 (D.take j))
def ICs (I : zi) (L : zl) (m : Nat) (K : Nat → Nat) (s0 : Cs) (D : List Nat) (kp : Nat → Option (List Nat)) : Prop :=
  m ≤ 7 ∧ okc m K s0 ∧ s0.2.2.2 = (0, 0, 0) ∧ True ∧ (∀ c ∈ D, okd m c) ∧
  XC I L 9 m K s0 ∧ XC I L 14 m K (rep K m s0 D) ∧ DS I 6 D ∧
  MK I m K ∧ MC I 70 m (rep K m s0 D) ∧ I 62 18 = nI D.length ∧ (∀ j, j < D.length → MCo I 71 (24 * j) m (rep K m s0 (D.take j))) ∧ ∀ q, q < 3 → KP I m K s0 q (kp q)
def IC (I : zi) (L : zl) : Prop := ∃ m K s0 D kp, ICs I L m K s0 D kp
def Inv (I : zi) (L : zl) : Prop := IA I L ∧ IR I ∧ IT I ∧ IC I L
/-- two calls, one of each, answer alike -/
def same (v1 v2 : Option Value) : Prop := ∃ x : Int32, v1 = some (.int x) ∧ v2 = some (.int x)
def sameL (v1 v2 : Option Value) : Prop := ∃ x : Int64, v1 = some (.long x) ∧ v2 = some (.long x)
/-- a cell of cubes and deeds: what IC reads -/
def cubeCell (k j : Nat) : Prop := k = 6 ∨ k = 7 ∨ (9 ≤ k ∧ k ≤ 18) ∨ (56 ≤ k ∧ k ≤ 61) ∨ (k = 62 ∧ (j = 14 ∨ j = 18)) ∨ (69 ≤ k ∧ k ≤ 74)
theorem MCo_eq {I I' : zi} {a o m : Nat} {s : Cs} (h : MCo I a o m s) (hI : ∀ j, I' a j = I a j) : MCo I' a o m s := by
  obtain ⟨s', h1, h2, h3, h4, h5⟩ := h
  exact ⟨s', h1, by rw [hI]; exact h2, by rw [hI]; exact h3, by rw [hI]; exact h4, fun i hi => by rw [hI, hI, hI]; exact h5 i hi⟩
theorem DS_eq {I I' : zi} {k : Nat} {D : List Nat} (h : DS I k D) (h1 : I' k 1 = I k 1) (h2 : ∀ j, I' (k + 1) j = I (k + 1) j) : DS I' k D := ⟨h.1, by rw [h1]; exact h.2.1, fun j hj => by rw [h2]; exact h.2.2 j hj⟩
theorem KP_eq {I I' : zi} {m : Nat} {K : Nat → Nat} {s0 : Cs} {q : Nat} {D : Option (List Nat)} (hq : q < 3) (h : KP I m K s0 q D) (hI : ∀ k j, cubeCell k j → I' k j = I k j) : KP I' m K s0 q D := by
  have c1 : ∀ j, I' (56 + 2 * q) j = I (56 + 2 * q) j := fun j => hI _ _ (by unfold cubeCell; omega)
  have c2 : ∀ j, I' (56 + 2 * q + 1) j = I (56 + 2 * q + 1) j := fun j => hI _ _ (by unfold cubeCell; omega)
  have c3 : ∀ j, I' 74 j = I 74 j := fun j => hI _ _ (by unfold cubeCell; omega)
  have c4 : ∀ j, I' 72 j = I 72 j := fun j => hI _ _ (by unfold cubeCell; omega)
  have c5 : ∀ j, I' 73 j = I 73 j := fun j => hI _ _ (by unfold cubeCell; omega)
  cases D with
  | none => exact ⟨by rw [c1]; exact h.1, by rw [c3]; exact h.2⟩
  | some D =>
    obtain ⟨h1, h2, h3, h4, h5⟩ := h
    exact ⟨DS_eq h1 (c1 1) c2, h2, by rw [c3]; exact h3, MCo_eq h4 c4, fun j hj => MCo_eq (h5 j hj) c5⟩
theorem IC_eq {I I' : zi} {L L' : zl} (h : IC I L) (hI : ∀ k j, cubeCell k j → I' k j = I k j) (hL : ∀ k, (k = 9 ∨ k = 14) → L' k 5 = L k 5) : IC I' L' := by
  obtain ⟨m, K, s0, D, kp, h1, h2, h3, h4, h5, h6, h7, h8, h9, h10, h11, h12, h13⟩ := h
  have g : ∀ k j, cubeCell k j → I' k j = I k j := hI
  refine ⟨m, K, s0, D, kp, h1, h2, h3, h4, h5, XC_eq h6 (fun k' j a b _ => g _ _ (by unfold cubeCell; omega)) (hL 9 (Or.inl rfl)), XC_eq h7 (fun k' j a b _ => g _ _ (by unfold cubeCell; omega)) (hL 14 (Or.inr rfl)), DS_eq h8 (g _ _ (by unfold cubeCell; omega)) (fun j => g _ _ (by unfold cubeCell; omega)), ?_, MC_eq h10 (fun j => g _ _ (by unfold cubeCell; omega)), by rw [g 62 18 (by unfold cubeCell; omega)]; exact h11, fun j hj => MCo_eq (h12 j hj) (fun j => g _ _ (by unfold cubeCell; omega)), fun q hq => KP_eq hq (h13 q hq) hI⟩
  obtain ⟨K', e, k1, k2, k3⟩ := h9
  exact ⟨K', e, by rw [g 62 14 (by unfold cubeCell; omega)]; exact k1, k2, fun i hi => by rw [g 69 i (by unfold cubeCell; omega)]; exact k3 i hi⟩
