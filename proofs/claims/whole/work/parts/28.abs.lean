/-! ONE CUBE FOR BOTH: corners, goals, last ways, broken links (bits), the step's number, hops -/
abbrev Cs : Type := (Nat → Nat) × (Nat → Nat) × (Nat → Nat) × Int32 × Nat × Nat
def eqm (m : Nat) (f g : Nat → Nat) : Prop := ∀ i, i < m → f i = g i
theorem eqm.rf {m : Nat} {f : Nat → Nat} : eqm m f f := fun _ _ => rfl
theorem eqm.sy {m : Nat} {f g : Nat → Nat} (h : eqm m f g) : eqm m g f := fun i hi => (h i hi).symm
theorem eqm.tr {m : Nat} {f g e : Nat → Nat} (h : eqm m f g) (h2 : eqm m g e) : eqm m f e := fun i hi => (h i hi).trans (h2 i hi)
theorem eqm.le {m j : Nat} {f g : Nat → Nat} (h : eqm m f g) (hj : j ≤ m) : eqm j f g := fun i hi => h i (by omega)
theorem arcs_congr {C C' v v' : Nat → Nat} {B : Nat → Bool} : ∀ {i : Nat}, eqm i C C' → eqm i v v' → arcs C v B i = arcs C' v' B i
  | 0, _, _ => rfl
  | i + 1, hC, hv => by
    have h1 := arcs_congr (B := B) (hC.le (Nat.le_succ i)) (hv.le (Nat.le_succ i))
    have e1 := hC i (Nat.lt_succ_self i)
    have e2 := hv i (Nat.lt_succ_self i)
    funext c w
    simp only [arcs, goes1, h1, e1, e2]
theorem goes_congr {C C' v v' : Nat → Nat} {B : Nat → Bool} {m i : Nat} (hC : eqm m C C') (hv : eqm m v v') (hi : i < m) : goes C v B i = goes C' v' B i := by
  unfold goes goes1
  rw [arcs_congr (hC.le (Nat.le_of_lt hi)) (hv.le (Nat.le_of_lt hi)), hC i hi, hv i hi]
theorem cnt_congr {C C' v v' : Nat → Nat} {B : Nat → Bool} : ∀ {i : Nat}, eqm i C C' → eqm i v v' → cnt C v B i = cnt C' v' B i
  | 0, _, _ => rfl
  | i + 1, hC, hv => by rw [cnt, cnt, cnt_congr (hC.le (Nat.le_succ i)) (hv.le (Nat.le_succ i)), goes_congr hC hv (Nat.lt_succ_self i)]
theorem gm_congr {C C' v v' : Nat → Nat} {B : Nat → Bool} : ∀ {i : Nat}, eqm i C C' → eqm i v v' → gm C v B i = gm C' v' B i
  | 0, _, _ => rfl
  | i + 1, hC, hv => by rw [gm, gm, gm_congr (hC.le (Nat.le_succ i)) (hv.le (Nat.le_succ i)), goes_congr hC hv (Nat.lt_succ_self i)]
theorem cntl_congr {C C' v v' : Nat → Nat} {B : Nat → Bool} {l : Nat} : ∀ {i : Nat}, eqm i C C' → eqm i v v' → cntl C v B l i = cntl C' v' B l i
  | 0, _, _ => rfl
  | i + 1, hC, hv => by rw [cntl, cntl, cntl_congr (hC.le (Nat.le_succ i)) (hv.le (Nat.le_succ i)), goes_congr hC hv (Nat.lt_succ_self i), hC i (Nat.lt_succ_self i), hv i (Nat.lt_succ_self i)]
/-- all wishes of a cube -/
def wvs (K : Nat → Nat) (s : Cs) : Nat → Nat := wv K s.1 s.2.1 s.2.2.1 s.2.2.2.2.1 (bt s.2.2.2.1)
/-- a step -/
def stp (K : Nat → Nat) (m : Nat) (s : Cs) : Cs := (fun i => if i < m then C1 s.1 (wvs K s) (bt s.2.2.2.1) i else s.1 i, s.2.1, fun i => if i < m then W1 s.1 s.2.2.1 (wvs K s) (bt s.2.2.2.1) i else s.2.2.1 i, s.2.2.2.1, s.2.2.2.2.1 + 1, s.2.2.2.2.2 + cnt s.1 (wvs K s) (bt s.2.2.2.1) m)
/-- alike, as far as the messages go -/
def eqs (m : Nat) (s s' : Cs) : Prop := eqm m s.1 s'.1 ∧ eqm m s.2.1 s'.2.1 ∧ eqm m s.2.2.1 s'.2.2.1 ∧ s.2.2.2 = s'.2.2.2
theorem eqs.rf {m : Nat} {s : Cs} : eqs m s s := ⟨eqm.rf, eqm.rf, eqm.rf, rfl⟩
theorem eqs.sy {m : Nat} {s s' : Cs} (h : eqs m s s') : eqs m s' s := ⟨h.1.sy, h.2.1.sy, h.2.2.1.sy, h.2.2.2.symm⟩
theorem eqs.tr {m : Nat} {s s' s2 : Cs} (h : eqs m s s') (h2 : eqs m s' s2) : eqs m s s2 := ⟨h.1.tr h2.1, h.2.1.tr h2.2.1, h.2.2.1.tr h2.2.2.1, h.2.2.2.trans h2.2.2.2⟩
theorem wvs_congr {K K' : Nat → Nat} {m : Nat} {s s' : Cs} (hK : eqm m K K') (h : eqs m s s') : eqm m (wvs K s) (wvs K' s') := by
  obtain ⟨h1, h2, h3, h4⟩ := h
  intro i hi
  unfold wvs wv
  rw [hK i hi, h1 i hi, h2 i hi, h3 i hi, h4]
theorem stp_congr {K K' : Nat → Nat} {m : Nat} {s s' : Cs} (hK : eqm m K K') (h : eqs m s s') : eqs m (stp K m s) (stp K' m s') := by
  have hw := wvs_congr hK h
  obtain ⟨h1, h2, h3, h4⟩ := h
  have e1 : s.2.2.2.1 = s'.2.2.2.1 := by rw [h4]
  refine ⟨fun i hi => ?_, h2, fun i hi => ?_, ?_⟩
  · show (if i < m then C1 s.1 (wvs K s) (bt s.2.2.2.1) i else s.1 i) = (if i < m then C1 s'.1 (wvs K' s') (bt s'.2.2.2.1) i else s'.1 i)
    rw [if_pos hi, if_pos hi, e1]
    unfold C1
    rw [goes_congr h1 hw hi, h1 i hi, hw i hi]
  · show (if i < m then W1 s.1 s.2.2.1 (wvs K s) (bt s.2.2.2.1) i else s.2.2.1 i) = (if i < m then W1 s'.1 s'.2.2.1 (wvs K' s') (bt s'.2.2.2.1) i else s'.2.2.1 i)
    rw [if_pos hi, if_pos hi, e1]
    unfold W1
    rw [goes_congr h1 hw hi, h3 i hi, hw i hi]
  · show (s.2.2.2.1, s.2.2.2.2.1 + 1, s.2.2.2.2.2 + cnt s.1 (wvs K s) (bt s.2.2.2.1) m) = (s'.2.2.2.1, s'.2.2.2.2.1 + 1, s'.2.2.2.2.2 + cnt s'.1 (wvs K' s') (bt s'.2.2.2.1) m)
    rw [cnt_congr h1 hw, h4]
/-- numbers as they are -/
def okc (m : Nat) (K : Nat → Nat) (s : Cs) : Prop := ∀ i, i < m → K i < 6 ∧ s.1 i < 16 ∧ s.2.1 i < 16 ∧ s.2.2.1 i ≤ 4
theorem stp_ok {m : Nat} {K : Nat → Nat} {s : Cs} (h : okc m K s) : okc m K (stp K m s) := by
  intro i hi
  obtain ⟨h1, h2, h3, h4⟩ := h i hi
  have hv : wvs K s i ≤ 4 := wish_le _ _ _ _ _ _
  refine ⟨h1, ?_, h3, ?_⟩
  · show (if i < m then C1 s.1 (wvs K s) (bt s.2.2.2.1) i else s.1 i) < 16
    rw [if_pos hi]
    exact C1_lt h2 hv
  · show (if i < m then W1 s.1 s.2.2.1 (wvs K s) (bt s.2.2.2.1) i else s.2.2.1 i) ≤ 4
    rw [if_pos hi]
    exact W1_le h4 hv
/-- the class's cube k is s -/
def XC (I : zi) (L : zl) (k m : Nat) (K : Nat → Nat) (s : Cs) : Prop := ∃ (K' : Nat → Nat) (s' : Cs), eqm m K' K ∧ eqs m s' s ∧ Qc I L k m K' s'.1 s'.2.1 s'.2.2.1 (bt s'.2.2.2.1) s'.2.2.2.2.1 s'.2.2.2.2.2
/-- the check's array a is s; its kinds -/
def MC (I : zi) (a m : Nat) (s : Cs) : Prop := ∃ s' : Cs, eqs m s' s ∧ Mc I a s'.1 s'.2.1 s'.2.2.1 s'.2.2.2.1 s'.2.2.2.2.1 s'.2.2.2.2.2
def MK (I : zi) (m : Nat) (K : Nat → Nat) : Prop := ∃ K', eqm m K' K ∧ Mk I K' m
section
variable {n d : Nat} {I : zi} {L : zl} {Q : zq} {K : Nat → Nat} {s : Cs} {k m a : Nat}
theorem XC_eq {I' : zi} {L' : zl} (h : XC I L k m K s) (hI : ∀ k' j, k ≤ k' → k' ≤ k + 4 → (k' ≠ k ∨ (j = 4 ∨ j = 6 ∨ j = 7)) → I' k' j = I k' j) (hL : L' k 5 = L k 5) : XC I' L' k m K s := by
  obtain ⟨K', s', h1, h2, ⟨m1, m2⟩, hB, ht, hh, hc⟩ := h
  refine ⟨K', s', h1, h2, ⟨by rw [hI k 4 (by omega) (by omega) (by omega)]; exact m1, m2⟩, by rw [hL]; exact hB, by rw [hI k 6 (by omega) (by omega) (by omega)]; exact ht, by rw [hI k 7 (by omega) (by omega) (by omega)]; exact hh, fun i hi => ?_⟩
  rw [hI (k + 1) i (by omega) (by omega) (Or.inl (by omega)), hI (k + 2) i (by omega) (by omega) (Or.inl (by omega)), hI (k + 3) i (by omega) (by omega) (Or.inl (by omega)), hI (k + 4) i (by omega) (by omega) (Or.inl (by omega))]
  exact hc i hi
theorem MC_eq {I' : zi} (h : MC I a m s) (hI : ∀ j, I' a j = I a j) : MC I' a m s := by
  obtain ⟨s', h1, h2⟩ := h
  exact ⟨s', h1, Mc_eq h2 hI⟩
theorem MK_eq {I' : zi} (h : MK I m K) (h1 : ∀ j, I' 62 j = I 62 j) (h2 : ∀ j, I' 69 j = I 69 j) : MK I' m K := by
  obtain ⟨K', e, h⟩ := h
  exact ⟨K', e, Mk_eq h h1 h2⟩
/-- the class steps -/
theorem t_Q_advance (hz : Qz k) (hx : XC I L k m K s) (ht : s.2.2.2.2.1 < 2 ^ 31) (hQ : ∀ I', XC I' L k m K (stp K m s) → (∀ k' j, k' ≠ k + 2 → k' ≠ k + 4 → (k' ≠ k ∨ (j ≠ 9 ∧ j ≠ 6 ∧ j ≠ 7)) → I' k' j = I k' j) → I' k 9 = nI (gm s.1 (wvs K s) (bt s.2.2.2.1) m) → Q none I' L) : zV n (d + 3) 42 0 [.ref k, .null, .null, .null, .null] [] I L Q := by
  obtain ⟨K', s', e1, e2, hq⟩ := hx
  have e3 := wvs_congr e1 e2
  have e4 := e2.2.2.2
  refine s_Q_advance hz hq (by rw [e4]; exact ht) (fun I' hS => ?_)
  obtain ⟨h1, h2, h3⟩ := hS
  refine hQ I' ⟨K', stp K' m s', e1, stp_congr e1 e2, h1⟩ h2 ?_
  rw [h3]
  show nI (gm s'.1 (wvs K' s') (bt s'.2.2.2.1) m) = _
  rw [gm_congr e2.1 e3, e4]
/-- the check steps -/
theorem t_M_steps (hx : MC I a m s) (hK : MK I m K) (ha : Ma a) (ha2 : a ≠ 62 ∧ a ≠ 69 ∧ a ≠ 76 ∧ a ≠ 77) (ht : s.2.2.2.2.1 < 2 ^ 31) (hQ : ∀ I', MC I' a m (stp K m s) → (∀ k j, k ≠ a → k ≠ 76 → k ≠ 77 → I' k j = I k j) → (∀ l, l < 32 → I' 77 l = I 77 l + nI (cntl s.1 (wvs K s) (bt s.2.2.2.1) l m)) → Q (some (.int (nI (cnt s.1 (wvs K s) (bt s.2.2.2.1) m)))) I' L) :
    zV n (d + 4) 165 0 [.ref 62, .ref a, .null, .null, .null, .null, .null, .null, .null, .null] [] I L Q := by
  obtain ⟨s', e2, hM⟩ := hx
  obtain ⟨K', e1, hK⟩ := hK
  have e3 := wvs_congr e1 e2
  have e4 := e2.2.2.2
  refine s_M_steps hM hK ha ha2 (by rw [e4]; exact ht) (fun I' hS => ?_)
  obtain ⟨h1, h2, h3⟩ := hS
  have r := hQ I' ⟨stp K' m s', stp_congr e1 e2, h1⟩ h2 (fun l hl => by rw [h3 l hl, ← cntl_congr e2.1 e3, ← e4]; rfl)
  have ec : cnt s.1 (wvs K s) (bt s.2.2.2.1) m = cnt s'.1 (wvs K' s') (bt s'.2.2.2.1) m := by rw [← cnt_congr e2.1 e3, ← e4]
  rw [ec] at r
  exact r
end
