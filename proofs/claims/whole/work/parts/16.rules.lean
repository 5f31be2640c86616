/-! one rewriting row an instruction -/
section
variable {n d mi pc pc' : Nat} {lo lo' st st' : List Value} {I I' : zi} {L L' : zl} {Q : zq} {M : zM}
theorem r_nx {ins : Instr} {len : Nat} (hM : zProg[mi]? = some M) (hd : decode M.2.1 pc = .ok (ins, len)) (h : zexec M ins len pc lo st (zSH (.inl n), I, L) = some (.inl (pc', lo', st', (zSH (.inl n), I', L')))) : zV n d mi pc lo st I L Q ↔ zV n d mi pc' lo' st' I' L' Q := zV_nx (zso_of hM hd h)
def zshP (k : Nat) : Bool := match zSHt[k - 1]? with
  | some (.inr (.inr (ci, rs))) => decide (ci < 5) && (decide (rs.length = (zFK.getD ci []).length) && (List.range rs.length).all fun j => decide ((zFK.getD ci []).getD j 2 = 2 → rs.getD j none = some (zref k j)))
  | some (.inr (.inl (_, rs))) => (List.range rs.length).all fun j => decide (rs.getD j none = some (zref k j))
  | _ => true
theorem zsh_ok : (List.range 83).all zshP = true := by decide +kernel
theorem zsh_at {k : Nat} : zshP k = true := by
  by_cases hk : k < 83
  · exact List.all_eq_true.mp zsh_ok k (List.mem_range.mpr hk)
  · unfold zshP
    rw [List.getElem?_eq_none (by show 82 ≤ k - 1; omega)]
theorem zobj_is {k ci : Nat} (h : zobj k = ci) (hc : ci < 5) : ∃ rs, (zSH (.inl n))[k]? = some (.inr (.inr (ci, rs))) ∧ rs.length = (zFK.getD ci []).length ∧ ∀ j, j < rs.length → (zFK.getD ci []).getD j 2 = 2 → rs.getD j none = some (zref k j) := by
  have hk : k ≠ 0 := by
    intro e
    subst e
    have : zobj 0 = 99 := by decide +kernel
    omega
  obtain ⟨rs, hrs⟩ := zobj_at (n := n) h hc hk
  refine ⟨rs, hrs, ?_⟩
  have hz := zsh_at (k := k)
  unfold zshP at hz
  have h2 : zSHt[k - 1]? = some (.inr (.inr (ci, rs))) := by
    cases k with
    | zero => exact absurd rfl hk
    | succ k => exact hrs
  rw [h2] at hz
  simp only [Bool.and_eq_true, decide_eq_true_eq, List.all_eq_true, List.mem_range] at hz
  exact ⟨hz.2.1, hz.2.2⟩
theorem r_gf0 {idx ci j fin pp k : Nat} (hM : zProg[mi]? = some M) (hd : decode M.2.1 pc = .ok (.getfield idx, 3)) (hl : zFL.lookup (zky M idx) = some (ci, j, 0, fin, pp)) (hc : ci < 5 ∧ j < (zFK.getD ci []).length) (hk : zobj k = ci) : zV n d mi pc lo (.ref k :: st) I L Q ↔ zV n d mi (pc + 3) lo (.int (I k j) :: st) I L Q := by
  obtain ⟨rs, h1, h2, h3⟩ := zobj_is (n := n) hk hc.1
  refine r_nx hM hd ?_
  simp only [zexec, zgetf, hl, h1, h2, hc.2, and_self, if_true, znx]
theorem r_gf1 {idx ci j fin pp k : Nat} (hM : zProg[mi]? = some M) (hd : decode M.2.1 pc = .ok (.getfield idx, 3)) (hl : zFL.lookup (zky M idx) = some (ci, j, 1, fin, pp)) (hc : ci < 5 ∧ j < (zFK.getD ci []).length) (hk : zobj k = ci) : zV n d mi pc lo (.ref k :: st) I L Q ↔ zV n d mi (pc + 3) lo (.long (L k j) :: st) I L Q := by
  obtain ⟨rs, h1, h2, h3⟩ := zobj_is (n := n) hk hc.1
  refine r_nx hM hd ?_
  simp only [zexec, zgetf, hl, h1, h2, hc.2, and_self, if_true, znx]
theorem r_gf2 {idx ci j fin pp k : Nat} (hM : zProg[mi]? = some M) (hd : decode M.2.1 pc = .ok (.getfield idx, 3)) (hl : zFL.lookup (zky M idx) = some (ci, j, 2, fin, pp)) (hc : ci < 5 ∧ j < (zFK.getD ci []).length ∧ (zFK.getD ci []).getD j 2 = 2) (hk : zobj k = ci) : zV n d mi pc lo (.ref k :: st) I L Q ↔ zV n d mi (pc + 3) lo (.ref (zref k j) :: st) I L Q := by
  obtain ⟨rs, h1, h2, h3⟩ := zobj_is (n := n) hk hc.1
  have h4 := h3 j (by rw [h2]; exact hc.2.1) hc.2.2
  refine r_nx hM hd ?_
  simp only [zexec, zgetf, hl, h1, h2, hc.2.1, and_self, if_true, h4, znx]
theorem r_pf0 {idx ci j pp k : Nat} {x : Int32} (hM : zProg[mi]? = some M) (hd : decode M.2.1 pc = .ok (.putfield idx, 3)) (hl : zFL.lookup (zky M idx) = some (ci, j, 0, 0, pp)) (hc : ci < 5 ∧ j < (zFK.getD ci []).length) (hk : zobj k = ci) : zV n d mi pc lo (.int x :: .ref k :: st) I L Q ↔ zV n d mi (pc + 3) lo st (zup I k j x) L Q := by
  obtain ⟨rs, h1, h2, h3⟩ := zobj_is (n := n) hk hc.1
  refine r_nx hM hd ?_
  simp only [zexec, zputf, hl, h1, h2, hc.2, and_self, true_or, if_true, znx]
theorem r_pf1 {idx ci j pp k : Nat} {x : Int64} (hM : zProg[mi]? = some M) (hd : decode M.2.1 pc = .ok (.putfield idx, 3)) (hl : zFL.lookup (zky M idx) = some (ci, j, 1, 0, pp)) (hc : ci < 5 ∧ j < (zFK.getD ci []).length) (hk : zobj k = ci) : zV n d mi pc lo (.long x :: .ref k :: st) I L Q ↔ zV n d mi (pc + 3) lo st I (zup L k j x) Q := by
  obtain ⟨rs, h1, h2, h3⟩ := zobj_is (n := n) hk hc.1
  refine r_nx hM hd ?_
  simp only [zexec, zputf, hl, h1, h2, hc.2, and_self, true_or, if_true, znx]
theorem r_ald {k : Nat} {i : Int32} (hM : zProg[mi]? = some M) (hd : decode M.2.1 pc = .ok (.iaload, 1)) (hk : zint k = true) : zV n d mi pc lo (.int i :: .ref k :: st) I L Q ↔ (zin i (zlen k) = true ∧ zV n d mi (pc + 1) lo (.int (I k i.toNatClampNeg) :: st) I L Q) := by
  have h1 := zint_at (n := n) hk
  by_cases hi : zin i (zlen k) = true
  · rw [r_nx (pc' := pc + 1) (lo' := lo) (st' := .int (I k i.toNatClampNeg) :: st) (I' := I) (L' := L) hM hd (by simp only [zexec, zald, h1, hi, if_true, znx])]
    exact ⟨fun h => ⟨hi, h⟩, fun h => h.2⟩
  · exact ⟨fun h => absurd h (zV_no (zso_of hM hd (by simp only [zexec, zald, h1, hi, if_true, Bool.false_eq_true, if_false]))), fun h => absurd h.1 hi⟩
theorem r_ald0 {i : Int32} (hM : zProg[mi]? = some M) (hd : decode M.2.1 pc = .ok (.iaload, 1)) : zV n d mi pc lo (.int i :: .ref 0 :: st) I L Q ↔ (zin i n = true ∧ zV n d mi (pc + 1) lo (.int (I 0 i.toNatClampNeg) :: st) I L Q) := by
  have h1 : (zSH (.inl n))[0]? = some (.inl n) := rfl
  by_cases hi : zin i n = true
  · rw [r_nx (pc' := pc + 1) (lo' := lo) (st' := .int (I 0 i.toNatClampNeg) :: st) (I' := I) (L' := L) hM hd (by simp only [zexec, zald, h1, hi, if_true, znx])]
    exact ⟨fun h => ⟨hi, h⟩, fun h => h.2⟩
  · exact ⟨fun h => absurd h (zV_no (zso_of hM hd (by simp only [zexec, zald, h1, hi, if_true, Bool.false_eq_true, if_false]))), fun h => absurd h.1 hi⟩
def zwr (k : Nat) : Bool := zint k && decide (3 ≤ k)
theorem r_ast {k : Nat} {i x : Int32} (hM : zProg[mi]? = some M) (hd : decode M.2.1 pc = .ok (.iastore, 1)) (hw : zwr k = true) : zV n d mi pc lo (.int x :: .int i :: .ref k :: st) I L Q ↔ (zin i (zlen k) = true ∧ zV n d mi (pc + 1) lo st (zup I k i.toNatClampNeg x) L Q) := by
  unfold zwr at hw
  simp only [Bool.and_eq_true, decide_eq_true_eq] at hw
  obtain ⟨hk, h3⟩ := hw
  have h1 := zint_at (n := n) hk
  by_cases hi : zin i (zlen k) = true
  · rw [r_nx (pc' := pc + 1) (lo' := lo) (st' := st) (I' := zup I k i.toNatClampNeg x) (L' := L) hM hd (by simp only [zexec, zast, h1, hi, h3, and_self, if_true, znx])]
    exact ⟨fun h => ⟨hi, h⟩, fun h => h.2⟩
  · exact ⟨fun h => absurd h (zV_no (zso_of hM hd (by simp only [zexec, zast, h1, hi, h3, if_true, Bool.false_eq_true, false_and, if_false]))), fun h => absurd h.1 hi⟩
theorem zra_at {k : Nat} (h : zra k = true) : ∃ t rs, (zSH (.inl n))[k]? = some (.inr (.inl (t, rs))) ∧ rs.length = zlen k ∧ ∀ j, j < rs.length → rs.getD j none = some (zref k j) := by
  have hz := zsh_at (k := k)
  unfold zshP at hz
  unfold zra at h
  split at h
  · next k0 t0 hs =>
    obtain ⟨t0, rs⟩ := t0
    rw [hs] at hz
    simp only [List.all_eq_true, List.mem_range, decide_eq_true_eq] at hz
    exact ⟨t0, rs, hs, by unfold zlen; rw [hs], hz⟩
  · cases h
theorem r_aald {k : Nat} {i : Int32} (hM : zProg[mi]? = some M) (hd : decode M.2.1 pc = .ok (.aaload, 1)) (hk : zra k = true) : zV n d mi pc lo (.int i :: .ref k :: st) I L Q ↔ (zin i (zlen k) = true ∧ zV n d mi (pc + 1) lo (.ref (zref k i.toNatClampNeg) :: st) I L Q) := by
  obtain ⟨t, rs, h1, h2, h3⟩ := zra_at (n := n) hk
  rw [← h2]
  by_cases hi : zin i rs.length = true
  · have hj : i.toNatClampNeg < rs.length := by
      have := zin_in hi
      exact Nat.not_le.mp fun q => this (Or.inr q)
    have h4 := h3 _ hj
    rw [r_nx (pc' := pc + 1) (lo' := lo) (st' := .ref (zref k i.toNatClampNeg) :: st) (I' := I) (L' := L) hM hd (by simp only [zexec, zaald, h1, hi, h4, if_true, znx])]
    exact ⟨fun h => ⟨hi, h⟩, fun h => h.2⟩
  · exact ⟨fun h => absurd h (zV_no (zso_of hM hd (by simp only [zexec, zaald, h1, hi, if_true, Bool.false_eq_true, if_false]))), fun h => absurd h.1 hi⟩
theorem r_alen {k : Nat} (hM : zProg[mi]? = some M) (hd : decode M.2.1 pc = .ok (.arraylength, 1)) (hk : zint k = true) : zV n d mi pc lo (.ref k :: st) I L Q ↔ zV n d mi (pc + 1) lo (.int (nI (zlen k)) :: st) I L Q := by
  have h1 := zint_at (n := n) hk
  exact r_nx hM hd (by simp only [zexec, zalen, h1, if_true, znx]; rfl)
theorem r_alenq {k : Nat} (hM : zProg[mi]? = some M) (hd : decode M.2.1 pc = .ok (.arraylength, 1)) (hk : zra k = true) : zV n d mi pc lo (.ref k :: st) I L Q ↔ zV n d mi (pc + 1) lo (.int (nI (zlen k)) :: st) I L Q := by
  obtain ⟨t, rs, h1, h2, h3⟩ := zra_at (n := n) hk
  exact r_nx hM hd (by simp only [zexec, zalen, h1, h2, if_true, znx]; rfl)
theorem r_gs {idx k pp : Nat} (hM : zProg[mi]? = some M) (hd : decode M.2.1 pc = .ok (.getstatic idx, 3)) (hl : zSL.lookup (zky M idx) = some (k, pp)) : zV n d mi pc lo st I L Q ↔ zV n d mi (pc + 3) lo (.ref k :: st) I L Q := r_nx hM hd (by simp only [zexec, hl, if_true, znx])
theorem r_ki {idx pp : Nat} {x : Int32} (hM : zProg[mi]? = some M) (hd : decode M.2.1 pc = .ok (.ldc idx, 2)) (hl : zKI.lookup (zky M idx) = some (x, pp)) : zV n d mi pc lo st I L Q ↔ zV n d mi (pc + 2) lo (.int x :: st) I L Q := r_nx hM hd (by simp only [zexec, hl, if_true, znx])
theorem r_kiw {idx pp : Nat} {x : Int32} (hM : zProg[mi]? = some M) (hd : decode M.2.1 pc = .ok (.ldc_w idx, 3)) (hl : zKI.lookup (zky M idx) = some (x, pp)) : zV n d mi pc lo st I L Q ↔ zV n d mi (pc + 3) lo (.int x :: st) I L Q := r_nx hM hd (by simp only [zexec, hl, if_true, znx])
theorem r_kl {idx pp : Nat} {x : Int64} (hM : zProg[mi]? = some M) (hd : decode M.2.1 pc = .ok (.ldc2_w idx, 3)) (hl : zKL.lookup (zky M idx) = some (x, pp)) : zV n d mi pc lo st I L Q ↔ zV n d mi (pc + 3) lo (.long x :: st) I L Q := r_nx hM hd (by simp only [zexec, hl, if_true, znx])
theorem r_div {x y : Int32} (hM : zProg[mi]? = some M) (hd : decode M.2.1 pc = .ok (.idiv, 1)) (hy : ¬ y = 0) : zV n d mi pc lo (.int y :: .int x :: st) I L Q ↔ zV n d mi (pc + 1) lo (.int (x / y) :: st) I L Q := r_nx hM hd (by simp only [zexec, ziiD, hy, if_true, if_false, znx])
theorem r_rem {x y : Int32} (hM : zProg[mi]? = some M) (hd : decode M.2.1 pc = .ok (.irem, 1)) (hy : ¬ y = 0) : zV n d mi pc lo (.int y :: .int x :: st) I L Q ↔ zV n d mi (pc + 1) lo (.int (x - x / y * y) :: st) I L Q := r_nx hM hd (by simp only [zexec, ziiD, hy, if_true, if_false, znx])
theorem r_ldiv {x y : Int64} (hM : zProg[mi]? = some M) (hd : decode M.2.1 pc = .ok (.ldiv, 1)) (hy : ¬ y = 0) : zV n d mi pc lo (.long y :: .long x :: st) I L Q ↔ zV n d mi (pc + 1) lo (.long (x / y) :: st) I L Q := r_nx hM hd (by simp only [zexec, zllD, hy, if_true, if_false, znx])
theorem r_lrem {x y : Int64} (hM : zProg[mi]? = some M) (hd : decode M.2.1 pc = .ok (.lrem, 1)) (hy : ¬ y = 0) : zV n d mi pc lo (.long y :: .long x :: st) I L Q ↔ zV n d mi (pc + 1) lo (.long (x - x / y * y) :: st) I L Q := r_nx hM hd (by simp only [zexec, zllD, hy, if_true, if_false, znx])
theorem r_bra {ins : Instr} {b : Bool} {st1 : List Value} {t : Nat} (hM : zProg[mi]? = some M) (hd : decode M.2.1 pc = .ok (ins, 3)) {off : Int} (hx : zexec M ins 3 pc lo st (zSH (.inl n), I, L) = zbr b pc off lo st1 (zSH (.inl n), I, L)) (ht : (pc : Int) + off = (t : Int)) {c : Prop} [Decidable c] (hb : b = decide c) : zV n d mi pc lo st I L Q ↔ (if c then zV n d mi t lo st1 I L Q else zV n d mi (pc + 3) lo st1 I L Q) := by
  have h0 : ¬ (pc : Int) + off < 0 := by omega
  have h1 : ((pc : Int) + off).toNat = t := by omega
  by_cases hc : c
  · rw [if_pos hc]
    exact r_nx hM hd (by rw [hx, zbr, if_neg h0, hb, decide_eq_true hc, h1]; rfl)
  · rw [if_neg hc]
    exact r_nx hM hd (by rw [hx, zbr, if_neg h0, hb, decide_eq_false hc]; rfl)
theorem r_goto {off : Int} {t : Nat} (hM : zProg[mi]? = some M) (hd : decode M.2.1 pc = .ok (.goto off, 3)) (ht : (pc : Int) + off = (t : Int)) : zV n d mi pc lo st I L Q ↔ zV n d mi t lo st I L Q := by
  have h0 : ¬ (pc : Int) + off < 0 := by omega
  have h1 : ((pc : Int) + off).toNat = t := by omega
  exact r_nx hM hd (by simp only [zexec, zjp, if_true, if_neg h0, h1, znx])
theorem r_jp {ins : Instr} {len : Nat} {st1 : List Value} {off : Int} {t : Nat} (hM : zProg[mi]? = some M) (hd : decode M.2.1 pc = .ok (ins, len)) (hx : zexec M ins len pc lo st (zSH (.inl n), I, L) = zjp pc off lo st1 (zSH (.inl n), I, L)) (ht : (pc : Int) + off = (t : Int)) : zV n d mi pc lo st I L Q ↔ zV n d mi t lo st1 I L Q := by
  have h0 : ¬ (pc : Int) + off < 0 := by omega
  have h1 : ((pc : Int) + off).toNat = t := by omega
  exact r_nx hM hd (by rw [hx, zjp, if_neg h0, h1]; rfl)
theorem r_re {ins : Instr} {len : Nat} {v : Option Value} (hM : zProg[mi]? = some M) (hd : decode M.2.1 pc = .ok (ins, len)) (hx : zexec M ins len pc lo st (zSH (.inl n), I, L) = some (.inr (.inr v))) : zV n d mi pc lo st I L Q ↔ Q v I L := zV_ret (zso_of hM hd hx)
theorem r_rez {x : Int32} (hM : zProg[mi]? = some M) (hd : decode M.2.1 pc = .ok (.ireturn, 1)) (hr : M.2.2.2.1 = some .boolean) : zV n d mi pc lo [.int x] I L Q ↔ ((x = 0 ∨ x = 1) ∧ Q (some (.int x)) I L) := by
  by_cases hx : x = 0 ∨ x = 1
  · rw [r_re (v := some (.int x)) hM hd (by simp only [zexec, zret, hr, hx, if_true])]
    exact ⟨fun h => ⟨hx, h⟩, fun h => h.2⟩
  · exact ⟨fun h => absurd h (zV_no (zso_of hM hd (by simp only [zexec, zret, hr, hx, if_true, if_false]))), fun h => absurd h.1 hx⟩
theorem r_cs {idx mi' t mx : Nat} {ps : Nat × Nat × Nat × Nat} {M' : zM} {as rest lo1 : List Value} (hM : zProg[mi]? = some M) (hd : decode M.2.1 pc = .ok (.invokestatic idx, 3)) (hl : zML.lookup (zky M idx) = some (t, mi', ps)) (ht : t = 1 ∨ t = 5) (hM' : zProg[mi']? = some M') (hn : M'.2.2.2.2.2.2 = as.length) (hst : st = as.reverse ++ rest) (hc : zcat rest ≤ 8) (hmx : M'.2.2.1 = mx) (hz : (zplace as).length ≤ mx) (he : zent mx as = lo1) :
    zV n (d + 1) mi pc lo st I L Q ↔ zV n d mi' 0 lo1 [] I L (fun v I' L' => zV n (d + 1) mi (pc + 3) lo (zpush v rest) I' L' Q) := by
  have hm : zmax mi' = mx := by unfold zmax; rw [hM']; exact hmx
  have h1 : as.length = as.reverse.length := List.length_reverse.symm
  refine zV_call (as := as) (zso_of hM hd ?_) (by rw [hm]; exact hz) (by rw [hm]; exact he)
  have e1 : st.take M'.2.2.2.2.2.2 = as.reverse := by rw [hst, hn, h1, List.take_left]
  have e2 : st.drop M'.2.2.2.2.2.2 = rest := by rw [hst, hn, h1, List.drop_left]
  have e3 : M'.2.2.2.2.2.2 ≤ st.length := by rw [hst, hn, List.length_append, List.length_reverse]; omega
  rcases ht with rfl | rfl <;> simp only [zexec, zinv, hl, hM', e1, e2, e3, hc, and_self, if_true, List.reverse_reverse]
theorem r_cv {idx mi' mx ci k : Nat} {ps : Nat × Nat × Nat × Nat} {M' : zM} {as rest lo1 : List Value} (hM : zProg[mi]? = some M) (hd : decode M.2.1 pc = .ok (.invokevirtual idx, 3)) (hl : zML.lookup (zky M idx) = some (0, mi', ps)) (hM' : zProg[mi']? = some M') (hn : M'.2.2.2.2.2.2 = as.length) (hst : st = as.reverse ++ .ref k :: rest) (hc : zcat rest ≤ 8) (hmx : M'.2.2.1 = mx) (hz : (zplace (.ref k :: as)).length ≤ mx) (he : zent mx (.ref k :: as) = lo1) (hcl : zCN[ci]? = some M'.1.cls) (hci : ci < 5) (hk : zobj k = ci) :
    zV n (d + 1) mi pc lo st I L Q ↔ zV n d mi' 0 lo1 [] I L (fun v I' L' => zV n (d + 1) mi (pc + 3) lo (zpush v rest) I' L' Q) := by
  have hm : zmax mi' = mx := by unfold zmax; rw [hM']; exact hmx
  have h1 : as.length = as.reverse.length := List.length_reverse.symm
  obtain ⟨rs, hrs, -, -⟩ := zobj_is (n := n) hk hci
  refine zV_call (as := .ref k :: as) (zso_of hM hd ?_) (by rw [hm]; exact hz) (by rw [hm]; exact he)
  have e1 : st.take M'.2.2.2.2.2.2 = as.reverse := by rw [hst, hn, h1, List.take_left]
  have e2 : st.drop M'.2.2.2.2.2.2 = .ref k :: rest := by rw [hst, hn, h1, List.drop_left]
  simp only [zexec, zinv, hl, hM', e1, e2, hrs, hc, hcl, hci, and_self, if_true, List.reverse_reverse]
theorem r_mx {idx : Nat} {mi' : Nat} {ps : Nat × Nat × Nat × Nat} {x y : Int32} (hM : zProg[mi]? = some M) (hd : decode M.2.1 pc = .ok (.invokestatic idx, 3)) (hl : zML.lookup (zky M idx) = some (7, mi', ps)) (hc : zcat st ≤ 8) : zV n d mi pc lo (.int y :: .int x :: st) I L Q ↔ zV n d mi (pc + 3) lo (.int (if x < y then y else x) :: st) I L Q := r_nx hM hd (by simp only [zexec, zinv, hl, hc, and_self, if_true, znx])
theorem r_mn {idx : Nat} {mi' : Nat} {ps : Nat × Nat × Nat × Nat} {x y : Int32} (hM : zProg[mi]? = some M) (hd : decode M.2.1 pc = .ok (.invokestatic idx, 3)) (hl : zML.lookup (zky M idx) = some (8, mi', ps)) (hc : zcat st ≤ 8) : zV n d mi pc lo (.int y :: .int x :: st) I L Q ↔ zV n d mi (pc + 3) lo (.int (if y < x then y else x) :: st) I L Q := r_nx hM hd (by simp only [zexec, zinv, hl, hc, and_self, if_true, znx])
end
section
variable {n d mi pc pc' : Nat} {lo lo' st st' : List Value} {I I' : zi} {L L' : zl} {Q : zq} {M : zM}
theorem r_ts {df lw hi v off : Int} {offs : Array Int} {len t : Nat} {x : Int32} (hM : zProg[mi]? = some M) (hd : decode M.2.1 pc = .ok (.tableswitch df lw hi offs, len)) (hv : x.toInt = v) (h1 : ¬ (v < lw ∨ hi < v)) (ho : offs[(v - lw).toNat]? = some off) (ht : (pc : Int) + off = (t : Int)) : zV n d mi pc lo (.int x :: st) I L Q ↔ zV n d mi t lo st I L Q := by
  subst hv
  refine r_jp (st1 := st) (off := off) hM hd ?_ ht
  simp only [zexec, h1, if_false, ho]
theorem r_td {df lw hi : Int} {offs : Array Int} {len t : Nat} {x : Int32} (hM : zProg[mi]? = some M) (hd : decode M.2.1 pc = .ok (.tableswitch df lw hi offs, len)) (h1 : x.toInt < lw ∨ hi < x.toInt) (ht : (pc : Int) + df = (t : Int)) : zV n d mi pc lo (.int x :: st) I L Q ↔ zV n d mi t lo st I L Q := by
  refine r_jp (st1 := st) (off := df) hM hd ?_ ht
  simp only [zexec, h1, if_true]
theorem r_ls {df off : Int} {ps : Array (Int × Int)} {len t : Nat} {x : Int32} (hM : zProg[mi]? = some M) (hd : decode M.2.1 pc = .ok (.lookupswitch df ps, len)) (h1 : (ps.toList.zip (ps.toList.drop 1)).all (fun (a, next) => a.1 < next.1) = true) (ho : Op.lookupswitch.offset ps.toList df x.toInt = off) (ht : (pc : Int) + off = (t : Int)) : zV n d mi pc lo (.int x :: st) I L Q ↔ zV n d mi t lo st I L Q := by
  refine r_jp (st1 := st) (off := off) hM hd ?_ ht
  rw [← ho]
  exact if_pos h1
theorem r_cp {idx mi' k q : Nat} {ps : Nat × Nat × Nat × Nat} {sp dp nn : Int32} (hM : zProg[mi]? = some M) (hd : decode M.2.1 pc = .ok (.invokestatic idx, 3)) (hl : zML.lookup (zky M idx) = some (4, mi', ps)) (hc : zcat st ≤ 8) (hk : zwr k = true) (hq : zwr q = true) : zV n d mi pc lo (.int nn :: .int dp :: .ref q :: .int sp :: .ref k :: st) I L Q ↔ ((¬ sp < 0 ∧ ¬ dp < 0 ∧ ¬ nn < 0 ∧ sp.toNatClampNeg + nn.toNatClampNeg ≤ zlen k ∧ dp.toNatClampNeg + nn.toNatClampNeg ≤ zlen q) ∧ zV n d mi (pc + 3) lo st (zcpy I k sp.toNatClampNeg q dp.toNatClampNeg nn.toNatClampNeg) L Q) := by
  unfold zwr at hk hq
  simp only [Bool.and_eq_true, decide_eq_true_eq] at hk hq
  have h1 := zint_at (n := n) hk.1
  have h2 := zint_at (n := n) hq.1
  by_cases hz : ¬ sp < 0 ∧ ¬ dp < 0 ∧ ¬ nn < 0 ∧ sp.toNatClampNeg + nn.toNatClampNeg ≤ zlen k ∧ dp.toNatClampNeg + nn.toNatClampNeg ≤ zlen q
  · obtain ⟨z1, z2, z3, z4, z5⟩ := hz
    rw [r_nx (pc' := pc + 3) (lo' := lo) (st' := st) (I' := zcpy I k sp.toNatClampNeg q dp.toNatClampNeg nn.toNatClampNeg) (L' := L) hM hd (by simp only [zexec, zinv, hl, h1, h2, z1, z2, z3, z4, z5, hk.2, hq.2, hc, not_false_eq_true, and_self, if_true, znx])]
    exact ⟨fun h => ⟨⟨z1, z2, z3, z4, z5⟩, h⟩, fun h => h.2⟩
  · refine ⟨fun h => absurd h (zV_no (zso_of hM hd ?_)), fun h => absurd h.1 hz⟩
    simp only [zexec, zinv, hl, h1, h2, if_true]
    refine if_neg (fun g => hz ⟨g.2.1, g.2.2.1, g.2.2.2.1, g.2.2.2.2.1, g.2.2.2.2.2.1⟩)
end
-- the methods
abbrev zM4 : zM := (⟨"CubeHops$Strip", "renew", "(II)V"⟩, prog_4_method_4_code, 4, none, 2, 155, 2)
theorem hM4 : zProg[4]? = some zM4 := rfl
abbrev zM10 : zM := (⟨"CubeHops$Strip", "isMissing", "()Z"⟩, prog_4_method_2_code, 1, (some .boolean), 2, 227, 0)
theorem hM10 : zProg[10]? = some zM10 := rfl
abbrev zM11 : zM := (⟨"CubeHops$Strip", "has", "(I)Z"⟩, prog_4_method_5_code, 2, (some .boolean), 2, 231, 1)
theorem hM11 : zProg[11]? = some zM11 := rfl
abbrev zM12 : zM := (⟨"CubeHops$Strip", "set", "(II)I"⟩, prog_4_method_8_code, 4, (some .int), 2, 235, 2)
theorem hM12 : zProg[12]? = some zM12 := rfl
abbrev zM13 : zM := (⟨"CubeHops$Strip", "get", "(I)I"⟩, prog_4_method_7_code, 2, (some .int), 2, 239, 1)
theorem hM13 : zProg[13]? = some zM13 := rfl
abbrev zM17 : zM := (⟨"CubeHops$Strip", "drop", "()V"⟩, prog_4_method_3_code, 1, none, 2, 257, 0)
theorem hM17 : zProg[17]? = some zM17 := rfl
abbrev zM19 : zM := (⟨"CubeHops$Strip", "hasMany", "(II)Z"⟩, prog_4_method_6_code, 3, (some .boolean), 2, 265, 2)
theorem hM19 : zProg[19]? = some zM19 := rfl
abbrev zM20 : zM := (⟨"CubeHops$Strip", "takePart", "(LCubeHops$Strip;III)V"⟩, prog_4_method_12_code, 5, none, 2, 269, 4)
theorem hM20 : zProg[20]? = some zM20 := rfl
abbrev zM36 : zM := (⟨"CubeHops$Web", "arcsOf", "(I)J"⟩, prog_5_method_6_code, 3, (some .long), 5, 334, 1)
theorem hM36 : zProg[36]? = some zM36 := rfl
abbrev zM37 : zM := (⟨"CubeHops$Web", "wayOf", "(I)I"⟩, prog_5_method_2_code, 1, (some .int), 5, 337, 1)
theorem hM37 : zProg[37]? = some zM37 := rfl
abbrev zM38 : zM := (⟨"CubeHops$Web", "lowerEnd", "(I)I"⟩, prog_5_method_3_code, 3, (some .int), 5, 340, 1)
theorem hM38 : zProg[38]? = some zM38 := rfl
abbrev zM39 : zM := (⟨"CubeHops$Web", "arc", "(II)J"⟩, prog_5_method_5_code, 2, (some .long), 5, 343, 2)
theorem hM39 : zProg[39]? = some zM39 := rfl
abbrev zM61 : zM := (⟨"CubeHops$Strip", "append", "(I)V"⟩, prog_4_method_9_code, 2, none, 2, 436, 1)
theorem hM61 : zProg[61]? = some zM61 := rfl
abbrev zM71 : zM := (⟨"CubeHops$Strip", "shorten", "(I)V"⟩, prog_4_method_10_code, 2, none, 2, 476, 1)
theorem hM71 : zProg[71]? = some zM71 := rfl
abbrev zM73 : zM := (⟨"CubeHops$Strip", "take", "(LCubeHops$Strip;)V"⟩, prog_4_method_11_code, 3, none, 2, 484, 1)
theorem hM73 : zProg[73]? = some zM73 := rfl
abbrev zM84 : zM := (⟨"CubeHops$Web", "linkAt", "(II)I"⟩, prog_5_method_4_code, 3, (some .int), 5, 529, 2)
theorem hM84 : zProg[84]? = some zM84 := rfl
abbrev zM86 : zM := (⟨"CubeHops$Web", "distance", "(JII)I"⟩, prog_5_method_8_code, 6, (some .int), 5, 537, 3)
theorem hM86 : zProg[86]? = some zM86 := rfl
abbrev zM87 : zM := (⟨"CubeHops$Web", "spread", "(JI)I"⟩, prog_5_method_7_code, 7, (some .int), 5, 540, 2)
theorem hM87 : zProg[87]? = some zM87 := rfl
abbrev zM90 : zM := (⟨"CubeHops$Parting", "fewest", "(JII)I"⟩, prog_3_method_2_code, 6, (some .int), 1, 555, 3)
theorem hM90 : zProg[90]? = some zM90 := rfl
abbrev zM91 : zM := (⟨"CubeHops$Parting", "findsWay", "(JII)Z"⟩, prog_3_method_3_code, 11, (some .boolean), 1, 559, 3)
theorem hM91 : zProg[91]? = some zM91 := rfl
abbrev zM92 : zM := (⟨"CubeHops$Parting", "useWay", "(II)V"⟩, prog_3_method_4_code, 7, none, 1, 564, 2)
theorem hM92 : zProg[92]? = some zM92 := rfl
abbrev zM93 : zM := (⟨"CubeHops$Parting", "use", "(III)V"⟩, prog_3_method_5_code, 4, none, 1, 568, 3)
theorem hM93 : zProg[93]? = some zM93 := rfl
abbrev zM104 : zM := (⟨"CubeHops$Web", "snapTurn", "(JIIIII)I"⟩, prog_5_method_9_code, 12, (some .int), 5, 616, 6)
theorem hM104 : zProg[104]? = some zM104 := rfl
abbrev zM105 : zM := (⟨"CubeHops$Web", "mendTurn", "(JIIIII)I"⟩, prog_5_method_10_code, 12, (some .int), 5, 620, 6)
theorem hM105 : zProg[105]? = some zM105 := rfl
abbrev zM123 : zM := (⟨"CubeHops$Strip", "digested", "(J)J"⟩, prog_4_method_13_code, 6, (some .long), 2, 703, 1)
theorem hM123 : zProg[123]? = some zM123 := rfl
abbrev zM27 : zM := (⟨"CubeHops$Cube", "clear", "()V"⟩, prog_2_method_2_code, 1, none, 0, 299, 0)
theorem hM27 : zProg[27]? = some zM27 := rfl
abbrev zM30 : zM := (⟨"CubeHops$Cube", "add", "(III)V"⟩, prog_2_method_3_code, 4, none, 0, 311, 3)
theorem hM30 : zProg[30]? = some zM30 := rfl
abbrev zM32 : zM := (⟨"CubeHops$Cube", "take", "(LCubeHops$Cube;)V"⟩, prog_2_method_4_code, 3, none, 0, 319, 1)
theorem hM32 : zProg[32]? = some zM32 := rfl
abbrev zM34 : zM := (⟨"CubeHops$Cube", "obey", "(I)V"⟩, prog_2_method_23_code, 3, none, 0, 327, 1)
theorem hM34 : zProg[34]? = some zM34 := rfl
abbrev zM35 : zM := (⟨"CubeHops$Cube", "turnOverLink", "(I)V"⟩, prog_2_method_8_code, 2, none, 0, 331, 1)
theorem hM35 : zProg[35]? = some zM35 := rfl
abbrev zM40 : zM := (⟨"CubeHops$Cube", "setGoal", "(II)V"⟩, prog_2_method_9_code, 3, none, 0, 347, 2)
theorem hM40 : zProg[40]? = some zM40 := rfl
abbrev zM41 : zM := (⟨"CubeHops$Cube", "hasMessage", "(I)Z"⟩, prog_2_method_5_code, 2, (some .boolean), 0, 351, 1)
theorem hM41 : zProg[41]? = some zM41 := rfl
abbrev zM42 : zM := (⟨"CubeHops$Cube", "advance", "()V"⟩, prog_2_method_21_code, 5, none, 0, 355, 0)
theorem hM42 : zProg[42]? = some zM42 := rfl
abbrev zM43 : zM := (⟨"CubeHops$Cube", "wishAs", "(III)I"⟩, prog_2_method_16_code, 6, (some .int), 0, 359, 3)
theorem hM43 : zProg[43]? = some zM43 := rfl
abbrev zM44 : zM := (⟨"CubeHops$Cube", "highestWay", "(I)I"⟩, prog_2_method_20_code, 2, (some .int), 0, 362, 1)
theorem hM44 : zProg[44]? = some zM44 := rfl
abbrev zM45 : zM := (⟨"CubeHops$Cube", "lowestBit", "(I)I"⟩, prog_2_method_19_code, 2, (some .int), 0, 365, 1)
theorem hM45 : zProg[45]? = some zM45 := rfl
abbrev zM46 : zM := (⟨"CubeHops$Cube", "dodgingWay", "(I)I"⟩, prog_2_method_17_code, 4, (some .int), 0, 369, 1)
theorem hM46 : zProg[46]? = some zM46 := rfl
abbrev zM47 : zM := (⟨"CubeHops$Cube", "wholeWays", "(I)I"⟩, prog_2_method_18_code, 4, (some .int), 0, 373, 1)
theorem hM47 : zProg[47]? = some zM47 := rfl
abbrev zM50 : zM := (⟨"CubeHops$Cube", "fact", "(II)I"⟩, prog_2_method_13_code, 3, (some .int), 0, 389, 2)
theorem hM50 : zProg[50]? = some zM50 := rfl
abbrev zM51 : zM := (⟨"CubeHops$Cube", "wish", "(I)I"⟩, prog_2_method_15_code, 2, (some .int), 0, 393, 1)
theorem hM51 : zProg[51]? = some zM51 := rfl
abbrev zM52 : zM := (⟨"CubeHops$Cube", "toldWay", "(I)I"⟩, prog_2_method_14_code, 1, (some .int), 0, 396, 1)
theorem hM52 : zProg[52]? = some zM52 := rfl
abbrev zM58 : zM := (⟨"CubeHops$Cube", "isBroken", "(I)Z"⟩, prog_2_method_6_code, 2, (some .boolean), 0, 424, 1)
theorem hM58 : zProg[58]? = some zM58 := rfl
abbrev zM65 : zM := (⟨"CubeHops$Cube", "howManyBroken", "()I"⟩, prog_2_method_7_code, 1, (some .int), 0, 451, 0)
theorem hM65 : zProg[65]? = some zM65 := rfl
abbrev zM77 : zM := (⟨"CubeHops$Cube", "isThere", "(I)Z"⟩, prog_2_method_10_code, 2, (some .boolean), 0, 501, 1)
theorem hM77 : zProg[77]? = some zM77 := rfl
abbrev zM78 : zM := (⟨"CubeHops$Cube", "wentJustNow", "(I)Z"⟩, prog_2_method_11_code, 2, (some .boolean), 0, 505, 1)
theorem hM78 : zProg[78]? = some zM78 := rfl
abbrev zM80 : zM := (⟨"CubeHops$Cube", "stepsTillAllThere", "()I"⟩, prog_2_method_22_code, 4, (some .int), 0, 513, 0)
theorem hM80 : zProg[80]? = some zM80 := rfl
abbrev zM81 : zM := (⟨"CubeHops$Cube", "thereBits", "()I"⟩, prog_2_method_12_code, 3, (some .int), 0, 517, 0)
theorem hM81 : zProg[81]? = some zM81 := rfl
abbrev zM5 : zM := (⟨"CubeHops", "row", "(II)I"⟩, prog_1_method_2_code, 3, (some .int), 3, 208, 2)
theorem hM5 : zProg[5]? = some zM5 := rfl
abbrev zM6 : zM := (⟨"CubeHops", "isRow", "(I)Z"⟩, prog_1_method_49_code, 1, (some .boolean), 3, 211, 1)
theorem hM6 : zProg[6]? = some zM6 := rfl
abbrev zM7 : zM := (⟨"CubeHops", "found", "(I)I"⟩, prog_1_method_44_code, 2, (some .int), 3, 215, 1)
theorem hM7 : zProg[7]? = some zM7 := rfl
abbrev zM8 : zM := (⟨"CubeHops", "lay", "(III)I"⟩, prog_1_method_3_code, 5, (some .int), 3, 219, 3)
theorem hM8 : zProg[8]? = some zM8 := rfl
abbrev zM9 : zM := (⟨"CubeHops", "refusePlace", "(LCubeHops$Strip;I)I"⟩, prog_1_method_45_code, 3, (some .int), 3, 223, 2)
theorem hM9 : zProg[9]? = some zM9 := rfl
abbrev zM14 : zM := (⟨"CubeHops", "tell", "(II)I"⟩, prog_1_method_46_code, 3, (some .int), 3, 244, 2)
theorem hM14 : zProg[14]? = some zM14 := rfl
abbrev zM15 : zM := (⟨"CubeHops", "at", "(II)I"⟩, prog_1_method_4_code, 4, (some .int), 3, 248, 2)
theorem hM15 : zProg[15]? = some zM15 := rfl
abbrev zM16 : zM := (⟨"CubeHops", "tear", "(I)I"⟩, prog_1_method_5_code, 2, (some .int), 3, 253, 1)
theorem hM16 : zProg[16]? = some zM16 := rfl
abbrev zM18 : zM := (⟨"CubeHops", "copy", "(IIIII)I"⟩, prog_1_method_6_code, 6, (some .int), 3, 261, 5)
theorem hM18 : zProg[18]? = some zM18 := rfl
abbrev zM21 : zM := (⟨"CubeHops", "mean", "(I)I"⟩, prog_1_method_7_code, 6, (some .int), 3, 277, 1)
theorem hM21 : zProg[21]? = some zM21 := rfl
abbrev zM22 : zM := (⟨"CubeHops", "text", "(II)I"⟩, prog_1_method_8_code, 3, (some .int), 3, 281, 2)
theorem hM22 : zProg[22]? = some zM22 := rfl
abbrev zM23 : zM := (⟨"CubeHops", "isText", "(I)Z"⟩, prog_1_method_50_code, 1, (some .boolean), 3, 284, 1)
theorem hM23 : zProg[23]? = some zM23 := rfl
abbrev zM24 : zM := (⟨"CubeHops", "put", "(III)I"⟩, prog_1_method_9_code, 5, (some .int), 3, 288, 3)
theorem hM24 : zProg[24]? = some zM24 := rfl
abbrev zM25 : zM := (⟨"CubeHops", "fault", "(I)I"⟩, prog_1_method_10_code, 2, (some .int), 3, 292, 1)
theorem hM25 : zProg[25]? = some zM25 := rfl
abbrev zM26 : zM := (⟨"CubeHops", "readCube", "(LCubeHops$Strip;LCubeHops$Cube;)I"⟩, prog_1_method_54_code, 5, (some .int), 3, 295, 2)
theorem hM26 : zProg[26]? = some zM26 := rfl
abbrev zM28 : zM := (⟨"CubeHops", "kindOfLetter", "(I)I"⟩, prog_1_method_55_code, 2, (some .int), 3, 302, 1)
theorem hM28 : zProg[28]? = some zM28 := rfl
abbrev zM29 : zM := (⟨"CubeHops", "isCorner", "(I)Z"⟩, prog_1_method_51_code, 1, (some .boolean), 3, 307, 1)
theorem hM29 : zProg[29]? = some zM29 := rfl
abbrev zM31 : zM := (⟨"CubeHops", "cube", "(I)I"⟩, prog_1_method_11_code, 3, (some .int), 3, 315, 1)
theorem hM31 : zProg[31]? = some zM31 := rfl
abbrev zM33 : zM := (⟨"CubeHops", "replay", "()V"⟩, prog_1_method_60_code, 2, none, 3, 323, 0)
theorem hM33 : zProg[33]? = some zM33 := rfl
abbrev zM49 : zM := (⟨"CubeHops", "message", "(II)I"⟩, prog_1_method_12_code, 3, (some .int), 3, 384, 2)
theorem hM49 : zProg[49]? = some zM49 := rfl
abbrev zM53 : zM := (⟨"CubeHops", "mark", "(II)I"⟩, prog_1_method_13_code, 3, (some .int), 3, 400, 2)
theorem hM53 : zProg[53]? = some zM53 := rfl
abbrev zM54 : zM := (⟨"CubeHops", "isOf", "(II)Z"⟩, prog_1_method_53_code, 2, (some .boolean), 3, 403, 2)
theorem hM54 : zProg[54]? = some zM54 := rfl
abbrev zM55 : zM := (⟨"CubeHops", "lazyWishes", "(I)I"⟩, prog_1_method_65_code, 4, (some .int), 3, 409, 1)
theorem hM55 : zProg[55]? = some zM55 := rfl
abbrev zM56 : zM := (⟨"CubeHops", "link", "(I)I"⟩, prog_1_method_14_code, 4, (some .int), 3, 415, 1)
theorem hM56 : zProg[56]? = some zM56 := rfl
abbrev zM57 : zM := (⟨"CubeHops", "isLink", "(I)Z"⟩, prog_1_method_52_code, 1, (some .boolean), 3, 418, 1)
theorem hM57 : zProg[57]? = some zM57 := rfl
abbrev zM59 : zM := (⟨"CubeHops", "step", "()I"⟩, prog_1_method_15_code, 2, (some .int), 3, 428, 0)
theorem hM59 : zProg[59]? = some zM59 := rfl
abbrev zM60 : zM := (⟨"CubeHops", "perform", "(I)V"⟩, prog_1_method_59_code, 2, none, 3, 432, 1)
theorem hM60 : zProg[60]? = some zM60 := rfl
abbrev zM62 : zM := (⟨"CubeHops", "snap", "(I)I"⟩, prog_1_method_16_code, 2, (some .int), 3, 440, 1)
theorem hM62 : zProg[62]? = some zM62 := rfl
abbrev zM63 : zM := (⟨"CubeHops", "turnOver", "(I)I"⟩, prog_1_method_61_code, 2, (some .int), 3, 444, 1)
theorem hM63 : zProg[63]? = some zM63 := rfl
abbrev zM64 : zM := (⟨"CubeHops", "linkDeed", "(I)I"⟩, prog_1_method_56_code, 1, (some .int), 3, 447, 1)
theorem hM64 : zProg[64]? = some zM64 := rfl
abbrev zM67 : zM := (⟨"CubeHops", "mend", "(I)I"⟩, prog_1_method_17_code, 2, (some .int), 3, 461, 1)
theorem hM67 : zProg[67]? = some zM67 := rfl
abbrev zM68 : zM := (⟨"CubeHops", "aim", "(II)I"⟩, prog_1_method_18_code, 4, (some .int), 3, 465, 2)
theorem hM68 : zProg[68]? = some zM68 := rfl
abbrev zM69 : zM := (⟨"CubeHops", "aimDeed", "(II)I"⟩, prog_1_method_57_code, 2, (some .int), 3, 468, 2)
theorem hM69 : zProg[69]? = some zM69 := rfl
abbrev zM70 : zM := (⟨"CubeHops", "undo", "(I)I"⟩, prog_1_method_19_code, 3, (some .int), 3, 472, 1)
theorem hM70 : zProg[70]? = some zM70 := rfl
abbrev zM72 : zM := (⟨"CubeHops", "keep", "(I)I"⟩, prog_1_method_20_code, 2, (some .int), 3, 480, 1)
theorem hM72 : zProg[72]? = some zM72 := rfl
abbrev zM74 : zM := (⟨"CubeHops", "on", "(I)I"⟩, prog_1_method_21_code, 2, (some .int), 3, 488, 1)
theorem hM74 : zProg[74]? = some zM74 := rfl
abbrev zM75 : zM := (⟨"CubeHops", "later", "(II)I"⟩, prog_1_method_22_code, 4, (some .int), 3, 492, 2)
theorem hM75 : zProg[75]? = some zM75 := rfl
abbrev zM76 : zM := (⟨"CubeHops", "arrives", "(I)I"⟩, prog_1_method_23_code, 4, (some .int), 3, 497, 1)
theorem hM76 : zProg[76]? = some zM76 := rfl
abbrev zM79 : zM := (⟨"CubeHops", "all", "()I"⟩, prog_1_method_24_code, 2, (some .int), 3, 509, 0)
theorem hM79 : zProg[79]? = some zM79 := rfl
abbrev zM82 : zM := (⟨"CubeHops", "tight", "(I)I"⟩, prog_1_method_25_code, 4, (some .int), 3, 522, 1)
theorem hM82 : zProg[82]? = some zM82 := rfl
abbrev zM83 : zM := (⟨"CubeHops", "countUses", "(I)V"⟩, prog_1_method_66_code, 4, none, 3, 526, 1)
theorem hM83 : zProg[83]? = some zM83 := rfl
abbrev zM85 : zM := (⟨"CubeHops", "far", "(II)I"⟩, prog_1_method_26_code, 4, (some .int), 3, 533, 2)
theorem hM85 : zProg[85]? = some zM85 := rfl
abbrev zM88 : zM := (⟨"CubeHops", "reach", "(I)I"⟩, prog_1_method_27_code, 6, (some .int), 3, 546, 1)
theorem hM88 : zProg[88]? = some zM88 := rfl
abbrev zM89 : zM := (⟨"CubeHops", "parts", "(II)I"⟩, prog_1_method_28_code, 3, (some .int), 3, 551, 2)
theorem hM89 : zProg[89]? = some zM89 := rfl
abbrev zM94 : zM := (⟨"CubeHops", "hurts", "()I"⟩, prog_1_method_29_code, 5, (some .int), 3, 573, 0)
theorem hM94 : zProg[94]? = some zM94 := rfl
abbrev zM95 : zM := (⟨"CubeHops", "goals", "(II)I"⟩, prog_1_method_30_code, 6, (some .int), 3, 579, 2)
theorem hM95 : zProg[95]? = some zM95 := rfl
abbrev zM96 : zM := (⟨"CubeHops", "refuseSights", "(II)I"⟩, prog_1_method_68_code, 5, (some .int), 3, 583, 2)
theorem hM96 : zProg[96]? = some zM96 := rfl
abbrev zM97 : zM := (⟨"CubeHops", "asideFits", "(ILCubeHops$Strip;)Z"⟩, prog_1_method_69_code, 4, (some .boolean), 3, 588, 2)
theorem hM97 : zProg[97]? = some zM97 := rfl
abbrev zM98 : zM := (⟨"CubeHops", "kinds", "(II)I"⟩, prog_1_method_31_code, 4, (some .int), 3, 592, 2)
theorem hM98 : zProg[98]? = some zM98 := rfl
abbrev zM99 : zM := (⟨"CubeHops", "fittingKinds", "(ILCubeHops$Strip;)I"⟩, prog_1_method_70_code, 5, (some .int), 3, 596, 2)
theorem hM99 : zProg[99]? = some zM99 := rfl
abbrev zM100 : zM := (⟨"CubeHops", "test", "(II)I"⟩, prog_1_method_32_code, 9, (some .int), 3, 600, 2)
theorem hM100 : zProg[100]? = some zM100 := rfl
abbrev zM101 : zM := (⟨"CubeHops", "lookAhead", "(II)V"⟩, prog_1_method_71_code, 5, none, 3, 604, 2)
theorem hM101 : zProg[101]? = some zM101 := rfl
abbrev zM102 : zM := (⟨"CubeHops", "greatestPart", "(II)I"⟩, prog_1_method_72_code, 7, (some .int), 3, 608, 2)
theorem hM102 : zProg[102]? = some zM102 := rfl
abbrev zM103 : zM := (⟨"CubeHops", "duel", "(III)I"⟩, prog_1_method_33_code, 4, (some .int), 3, 613, 3)
theorem hM103 : zProg[103]? = some zM103 := rfl
abbrev zM106 : zM := (⟨"CubeHops", "odds", "(III)I"⟩, prog_1_method_34_code, 10, (some .int), 3, 629, 3)
theorem hM106 : zProg[106]? = some zM106 := rfl
abbrev zM107 : zM := (⟨"CubeHops", "wholeOnLowWay", "(II)I"⟩, prog_1_method_67_code, 6, (some .int), 3, 633, 2)
theorem hM107 : zProg[107]? = some zM107 := rfl
abbrev zM108 : zM := (⟨"CubeHops", "tellFraction", "(JJ)I"⟩, prog_1_method_47_code, 7, (some .int), 3, 638, 2)
theorem hM108 : zProg[108]? = some zM108 := rfl
abbrev zM109 : zM := (⟨"CubeHops", "greatestDivisor", "(JJ)J"⟩, prog_1_method_48_code, 11, (some .long), 3, 641, 2)
theorem hM109 : zProg[109]? = some zM109 := rfl
abbrev zM110 : zM := (⟨"CubeHops", "mid", "(III)I"⟩, prog_1_method_35_code, 4, (some .int), 3, 646, 3)
theorem hM110 : zProg[110]? = some zM110 := rfl
abbrev zM111 : zM := (⟨"CubeHops", "lots", "(II)I"⟩, prog_1_method_36_code, 6, (some .int), 3, 650, 2)
theorem hM111 : zProg[111]? = some zM111 := rfl
abbrev zM112 : zM := (⟨"CubeHops", "lotDeed", "(I)I"⟩, prog_1_method_58_code, 3, (some .int), 3, 657, 1)
theorem hM112 : zProg[112]? = some zM112 := rfl
abbrev zM113 : zM := (⟨"CubeHops", "asked", "()I"⟩, prog_1_method_37_code, 1, (some .int), 3, 661, 0)
theorem hM113 : zProg[113]? = some zM113 := rfl
abbrev zM114 : zM := (⟨"CubeHops", "upper", "()J"⟩, prog_1_method_38_code, 1, (some .long), 3, 665, 0)
theorem hM114 : zProg[114]? = some zM114 := rfl
abbrev zM115 : zM := (⟨"CubeHops", "lower", "()J"⟩, prog_1_method_39_code, 1, (some .long), 3, 669, 0)
theorem hM115 : zProg[115]? = some zM115 := rfl
abbrev zM116 : zM := (⟨"CubeHops", "count", "(I)I"⟩, prog_1_method_40_code, 2, (some .int), 3, 673, 1)
theorem hM116 : zProg[116]? = some zM116 := rfl
abbrev zM117 : zM := (⟨"CubeHops", "tally", "(I)I"⟩, prog_1_method_62_code, 2, (some .int), 3, 677, 1)
theorem hM117 : zProg[117]? = some zM117 := rfl
abbrev zM118 : zM := (⟨"CubeHops", "present", "([LCubeHops$Strip;)I"⟩, prog_1_method_63_code, 3, (some .int), 3, 681, 1)
theorem hM118 : zProg[118]? = some zM118 := rfl
abbrev zM119 : zM := (⟨"CubeHops", "howManyAre", "(I)I"⟩, prog_1_method_64_code, 4, (some .int), 3, 685, 1)
theorem hM119 : zProg[119]? = some zM119 := rfl
abbrev zM120 : zM := (⟨"CubeHops", "finding", "()I"⟩, prog_1_method_41_code, 1, (some .int), 3, 689, 0)
theorem hM120 : zProg[120]? = some zM120 := rfl
abbrev zM121 : zM := (⟨"CubeHops", "findings", "(I)I"⟩, prog_1_method_42_code, 2, (some .int), 3, 693, 1)
theorem hM121 : zProg[121]? = some zM121 := rfl
abbrev zM122 : zM := (⟨"CubeHops", "digest", "()J"⟩, prog_1_method_43_code, 5, (some .long), 3, 697, 0)
theorem hM122 : zProg[122]? = some zM122 := rfl
abbrev zM125 : zM := (⟨"CubeHopsModel", "row", "(II)I"⟩, prog_7_method_9_code, 4, (some .int), 4, 808, 2)
theorem hM125 : zProg[125]? = some zM125 := rfl
abbrev zM126 : zM := (⟨"CubeHopsModel", "in", "(III)Z"⟩, prog_7_method_2_code, 3, (some .boolean), 4, 811, 3)
theorem hM126 : zProg[126]? = some zM126 := rfl
abbrev zM127 : zM := (⟨"CubeHopsModel", "finds", "(I)I"⟩, prog_7_method_5_code, 2, (some .int), 4, 815, 1)
theorem hM127 : zProg[127]? = some zM127 := rfl
abbrev zM128 : zM := (⟨"CubeHopsModel", "lay", "(III)I"⟩, prog_7_method_11_code, 6, (some .int), 4, 819, 3)
theorem hM128 : zProg[128]? = some zM128 := rfl
abbrev zM129 : zM := (⟨"CubeHopsModel", "wrongAt", "(II)I"⟩, prog_7_method_10_code, 3, (some .int), 4, 823, 2)
theorem hM129 : zProg[129]? = some zM129 := rfl
abbrev zM130 : zM := (⟨"CubeHopsModel", "tells", "(I)I"⟩, prog_7_method_6_code, 2, (some .int), 4, 827, 1)
theorem hM130 : zProg[130]? = some zM130 := rfl
abbrev zM131 : zM := (⟨"CubeHopsModel", "at", "(II)I"⟩, prog_7_method_12_code, 4, (some .int), 4, 831, 2)
theorem hM131 : zProg[131]? = some zM131 := rfl
abbrev zM132 : zM := (⟨"CubeHopsModel", "tear", "(I)I"⟩, prog_7_method_13_code, 2, (some .int), 4, 835, 1)
theorem hM132 : zProg[132]? = some zM132 := rfl
abbrev zM133 : zM := (⟨"CubeHopsModel", "copy", "(IIIII)I"⟩, prog_7_method_15_code, 9, (some .int), 4, 839, 5)
theorem hM133 : zProg[133]? = some zM133 := rfl
abbrev zM134 : zM := (⟨"CubeHopsModel", "isPart", "(III)Z"⟩, prog_7_method_14_code, 3, (some .boolean), 4, 842, 3)
theorem hM134 : zProg[134]? = some zM134 := rfl
abbrev zM135 : zM := (⟨"CubeHopsModel", "mean", "(I)I"⟩, prog_7_method_16_code, 5, (some .int), 4, 846, 1)
theorem hM135 : zProg[135]? = some zM135 := rfl
abbrev zM136 : zM := (⟨"CubeHopsModel", "text", "(II)I"⟩, prog_7_method_17_code, 4, (some .int), 4, 850, 2)
theorem hM136 : zProg[136]? = some zM136 := rfl
abbrev zM137 : zM := (⟨"CubeHopsModel", "put", "(III)I"⟩, prog_7_method_18_code, 5, (some .int), 4, 854, 3)
theorem hM137 : zProg[137]? = some zM137 := rfl
abbrev zM138 : zM := (⟨"CubeHopsModel", "fault", "(I)I"⟩, prog_7_method_25_code, 2, (some .int), 4, 858, 1)
theorem hM138 : zProg[138]? = some zM138 := rfl
abbrev zM139 : zM := (⟨"CubeHopsModel", "read", "(I)I"⟩, prog_7_method_24_code, 2, (some .int), 4, 862, 1)
theorem hM139 : zProg[139]? = some zM139 := rfl
abbrev zM140 : zM := (⟨"CubeHopsModel", "skip", "()V"⟩, prog_7_method_20_code, 1, none, 4, 866, 0)
theorem hM140 : zProg[140]? = some zM140 := rfl
abbrev zM141 : zM := (⟨"CubeHopsModel", "letterAt", "(I)I"⟩, prog_7_method_19_code, 2, (some .int), 4, 870, 1)
theorem hM141 : zProg[141]? = some zM141 := rfl
abbrev zM142 : zM := (⟨"CubeHopsModel", "isMessageItem", "()Z"⟩, prog_7_method_23_code, 4, (some .boolean), 4, 874, 0)
theorem hM142 : zProg[142]? = some zM142 := rfl
abbrev zM143 : zM := (⟨"CubeHopsModel", "sortBy", "(I)I"⟩, prog_7_method_21_code, 1, (some .int), 4, 877, 1)
theorem hM143 : zProg[143]? = some zM143 := rfl
abbrev zM144 : zM := (⟨"CubeHopsModel", "cornerThere", "()I"⟩, prog_7_method_22_code, 2, (some .int), 4, 881, 0)
theorem hM144 : zProg[144]? = some zM144 := rfl
abbrev zM145 : zM := (⟨"CubeHopsModel", "cube", "(I)I"⟩, prog_7_method_26_code, 3, (some .int), 4, 885, 1)
theorem hM145 : zProg[145]? = some zM145 := rfl
abbrev zM146 : zM := (⟨"CubeHopsModel", "message", "(II)I"⟩, prog_7_method_35_code, 3, (some .int), 4, 889, 2)
theorem hM146 : zProg[146]? = some zM146 := rfl
abbrev zM147 : zM := (⟨"CubeHopsModel", "isOne", "(I)Z"⟩, prog_7_method_8_code, 2, (some .boolean), 4, 893, 1)
theorem hM147 : zProg[147]? = some zM147 := rfl
abbrev zM148 : zM := (⟨"CubeHopsModel", "messageTells", "(II)I"⟩, prog_7_method_34_code, 3, (some .int), 4, 897, 2)
theorem hM148 : zProg[148]? = some zM148 := rfl
abbrev zM149 : zM := (⟨"CubeHopsModel", "wishOf", "([III)I"⟩, prog_7_method_33_code, 4, (some .int), 4, 900, 3)
theorem hM149 : zProg[149]? = some zM149 := rfl
abbrev zM150 : zM := (⟨"CubeHopsModel", "highest", "(I)I"⟩, prog_7_method_30_code, 2, (some .int), 4, 903, 1)
theorem hM150 : zProg[150]? = some zM150 := rfl
abbrev zM151 : zM := (⟨"CubeHopsModel", "has", "(II)Z"⟩, prog_7_method_3_code, 2, (some .boolean), 4, 906, 2)
theorem hM151 : zProg[151]? = some zM151 := rfl
abbrev zM152 : zM := (⟨"CubeHopsModel", "lowest", "(I)I"⟩, prog_7_method_29_code, 2, (some .int), 4, 909, 1)
theorem hM152 : zProg[152]? = some zM152 := rfl
abbrev zM153 : zM := (⟨"CubeHopsModel", "dodges", "(III)I"⟩, prog_7_method_32_code, 5, (some .int), 4, 912, 3)
theorem hM153 : zProg[153]? = some zM153 := rfl
abbrev zM154 : zM := (⟨"CubeHopsModel", "wholeOnes", "(II)I"⟩, prog_7_method_31_code, 4, (some .int), 4, 915, 2)
theorem hM154 : zProg[154]? = some zM154 := rfl
abbrev zM155 : zM := (⟨"CubeHopsModel", "linkAt", "(II)I"⟩, prog_7_method_28_code, 2, (some .int), 4, 918, 2)
theorem hM155 : zProg[155]? = some zM155 := rfl
abbrev zM156 : zM := (⟨"CubeHopsModel", "bits", "(I)I"⟩, prog_7_method_4_code, 3, (some .int), 4, 921, 1)
theorem hM156 : zProg[156]? = some zM156 := rfl
abbrev zM157 : zM := (⟨"CubeHopsModel", "mark", "(II)I"⟩, prog_7_method_37_code, 4, (some .int), 4, 925, 2)
theorem hM157 : zProg[157]? = some zM157 := rfl
abbrev zM158 : zM := (⟨"CubeHopsModel", "is", "(II)Z"⟩, prog_7_method_27_code, 2, (some .boolean), 4, 928, 2)
theorem hM158 : zProg[158]? = some zM158 := rfl
abbrev zM159 : zM := (⟨"CubeHopsModel", "asNumber", "(I)I"⟩, prog_7_method_36_code, 1, (some .int), 4, 931, 1)
theorem hM159 : zProg[159]? = some zM159 := rfl
abbrev zM160 : zM := (⟨"CubeHopsModel", "link", "(I)I"⟩, prog_7_method_39_code, 3, (some .int), 4, 935, 1)
theorem hM160 : zProg[160]? = some zM160 := rfl
abbrev zM161 : zM := (⟨"CubeHopsModel", "lowerOf", "(I)I"⟩, prog_7_method_38_code, 3, (some .int), 4, 938, 1)
theorem hM161 : zProg[161]? = some zM161 := rfl
abbrev zM162 : zM := (⟨"CubeHopsModel", "step", "()I"⟩, prog_7_method_42_code, 1, (some .int), 4, 942, 0)
theorem hM162 : zProg[162]? = some zM162 := rfl
abbrev zM163 : zM := (⟨"CubeHopsModel", "note", "()V"⟩, prog_7_method_40_code, 1, none, 4, 946, 0)
theorem hM163 : zProg[163]? = some zM163 := rfl
abbrev zM164 : zM := (⟨"CubeHopsModel", "bring", "([II[III)V"⟩, prog_7_method_7_code, 6, none, 4, 949, 5)
theorem hM164 : zProg[164]? = some zM164 := rfl
abbrev zM165 : zM := (⟨"CubeHopsModel", "steps", "([I)I"⟩, prog_7_method_41_code, 10, (some .int), 4, 953, 1)
theorem hM165 : zProg[165]? = some zM165 := rfl
abbrev zM166 : zM := (⟨"CubeHopsModel", "snap", "(I)I"⟩, prog_7_method_43_code, 2, (some .int), 4, 957, 1)
theorem hM166 : zProg[166]? = some zM166 := rfl
abbrev zM167 : zM := (⟨"CubeHopsModel", "mend", "(I)I"⟩, prog_7_method_44_code, 2, (some .int), 4, 961, 1)
theorem hM167 : zProg[167]? = some zM167 := rfl
abbrev zM168 : zM := (⟨"CubeHopsModel", "aim", "(II)I"⟩, prog_7_method_45_code, 4, (some .int), 4, 965, 2)
theorem hM168 : zProg[168]? = some zM168 := rfl
abbrev zM169 : zM := (⟨"CubeHopsModel", "undo", "(I)I"⟩, prog_7_method_46_code, 3, (some .int), 4, 969, 1)
theorem hM169 : zProg[169]? = some zM169 := rfl
abbrev zM170 : zM := (⟨"CubeHopsModel", "keep", "(I)I"⟩, prog_7_method_47_code, 2, (some .int), 4, 973, 1)
theorem hM170 : zProg[170]? = some zM170 := rfl
abbrev zM171 : zM := (⟨"CubeHopsModel", "on", "(I)I"⟩, prog_7_method_48_code, 2, (some .int), 4, 977, 1)
theorem hM171 : zProg[171]? = some zM171 := rfl
abbrev zM172 : zM := (⟨"CubeHopsModel", "later", "(II)I"⟩, prog_7_method_50_code, 5, (some .int), 4, 981, 2)
theorem hM172 : zProg[172]? = some zM172 := rfl
abbrev zM173 : zM := (⟨"CubeHopsModel", "begin", "()V"⟩, prog_7_method_49_code, 2, none, 4, 985, 0)
theorem hM173 : zProg[173]? = some zM173 := rfl
abbrev zM174 : zM := (⟨"CubeHopsModel", "arrives", "(I)I"⟩, prog_7_method_52_code, 5, (some .int), 4, 989, 1)
theorem hM174 : zProg[174]? = some zM174 := rfl
abbrev zM175 : zM := (⟨"CubeHopsModel", "isThere", "([II)Z"⟩, prog_7_method_51_code, 2, (some .boolean), 4, 992, 2)
theorem hM175 : zProg[175]? = some zM175 := rfl
abbrev zM176 : zM := (⟨"CubeHopsModel", "all", "()I"⟩, prog_7_method_55_code, 2, (some .int), 4, 996, 0)
theorem hM176 : zProg[176]? = some zM176 := rfl
abbrev zM177 : zM := (⟨"CubeHopsModel", "allOf", "()I"⟩, prog_7_method_54_code, 3, (some .int), 4, 1000, 0)
theorem hM177 : zProg[177]? = some zM177 := rfl
abbrev zM178 : zM := (⟨"CubeHopsModel", "offOnes", "()I"⟩, prog_7_method_53_code, 2, (some .int), 4, 1004, 0)
theorem hM178 : zProg[178]? = some zM178 := rfl
abbrev zM179 : zM := (⟨"CubeHopsModel", "tight", "(I)I"⟩, prog_7_method_56_code, 4, (some .int), 4, 1008, 1)
theorem hM179 : zProg[179]? = some zM179 := rfl
abbrev zM180 : zM := (⟨"CubeHopsModel", "far", "(II)I"⟩, prog_7_method_58_code, 3, (some .int), 4, 1012, 2)
theorem hM180 : zProg[180]? = some zM180 := rfl
abbrev zM181 : zM := (⟨"CubeHopsModel", "layAway", "(II)V"⟩, prog_7_method_57_code, 8, none, 4, 1016, 2)
theorem hM181 : zProg[181]? = some zM181 := rfl
abbrev zM182 : zM := (⟨"CubeHopsModel", "reach", "(I)I"⟩, prog_7_method_59_code, 5, (some .int), 4, 1020, 1)
theorem hM182 : zProg[182]? = some zM182 := rfl
abbrev zM183 : zM := (⟨"CubeHopsModel", "parts", "(II)I"⟩, prog_7_method_61_code, 4, (some .int), 4, 1024, 2)
theorem hM183 : zProg[183]? = some zM183 := rfl
abbrev zM184 : zM := (⟨"CubeHopsModel", "isMore", "(II)Z"⟩, prog_7_method_60_code, 10, (some .boolean), 4, 1028, 2)
theorem hM184 : zProg[184]? = some zM184 := rfl
abbrev zM185 : zM := (⟨"CubeHopsModel", "hurts", "()I"⟩, prog_7_method_62_code, 7, (some .int), 4, 1032, 0)
theorem hM185 : zProg[185]? = some zM185 := rfl
abbrev zM186 : zM := (⟨"CubeHopsModel", "goals", "(II)I"⟩, prog_7_method_65_code, 6, (some .int), 4, 1036, 2)
theorem hM186 : zProg[186]? = some zM186 := rfl
abbrev zM187 : zM := (⟨"CubeHopsModel", "wrongRow", "(II)I"⟩, prog_7_method_63_code, 4, (some .int), 4, 1040, 2)
theorem hM187 : zProg[187]? = some zM187 := rfl
abbrev zM188 : zM := (⟨"CubeHopsModel", "isSeen", "(II)Z"⟩, prog_7_method_64_code, 5, (some .boolean), 4, 1044, 2)
theorem hM188 : zProg[188]? = some zM188 := rfl
abbrev zM189 : zM := (⟨"CubeHopsModel", "kinds", "(II)I"⟩, prog_7_method_67_code, 4, (some .int), 4, 1048, 2)
theorem hM189 : zProg[189]? = some zM189 := rfl
abbrev zM190 : zM := (⟨"CubeHopsModel", "kindsBy", "(II)I"⟩, prog_7_method_66_code, 6, (some .int), 4, 1052, 2)
theorem hM190 : zProg[190]? = some zM190 := rfl
abbrev zM191 : zM := (⟨"CubeHopsModel", "test", "(II)I"⟩, prog_7_method_69_code, 12, (some .int), 4, 1056, 2)
theorem hM191 : zProg[191]? = some zM191 := rfl
abbrev zM192 : zM := (⟨"CubeHopsModel", "laySeen", "(I)V"⟩, prog_7_method_68_code, 5, none, 4, 1060, 1)
theorem hM192 : zProg[192]? = some zM192 := rfl
abbrev zM193 : zM := (⟨"CubeHopsModel", "duel", "(III)I"⟩, prog_7_method_73_code, 8, (some .int), 4, 1064, 3)
theorem hM193 : zProg[193]? = some zM193 := rfl
abbrev zM194 : zM := (⟨"CubeHopsModel", "farBy", "(III)I"⟩, prog_7_method_70_code, 4, (some .int), 4, 1068, 3)
theorem hM194 : zProg[194]? = some zM194 := rfl
abbrev zM195 : zM := (⟨"CubeHopsModel", "farthest", "(III)I"⟩, prog_7_method_71_code, 7, (some .int), 4, 1072, 3)
theorem hM195 : zProg[195]? = some zM195 := rfl
abbrev zM196 : zM := (⟨"CubeHopsModel", "nearest", "(IIII)I"⟩, prog_7_method_72_code, 9, (some .int), 4, 1076, 4)
theorem hM196 : zProg[196]? = some zM196 := rfl
abbrev zM197 : zM := (⟨"CubeHopsModel", "odds", "(III)I"⟩, prog_7_method_75_code, 10, (some .int), 4, 1080, 3)
theorem hM197 : zProg[197]? = some zM197 := rfl
abbrev zM198 : zM := (⟨"CubeHopsModel", "told", "(JJ)I"⟩, prog_7_method_74_code, 11, (some .int), 4, 1085, 2)
theorem hM198 : zProg[198]? = some zM198 := rfl
abbrev zM199 : zM := (⟨"CubeHopsModel", "mid", "(III)I"⟩, prog_7_method_76_code, 7, (some .int), 4, 1089, 3)
theorem hM199 : zProg[199]? = some zM199 := rfl
abbrev zM200 : zM := (⟨"CubeHopsModel", "lots", "(II)I"⟩, prog_7_method_78_code, 6, (some .int), 4, 1093, 2)
theorem hM200 : zProg[200]? = some zM200 := rfl
abbrev zM201 : zM := (⟨"CubeHopsModel", "lot", "(I)V"⟩, prog_7_method_77_code, 2, none, 4, 1100, 1)
theorem hM201 : zProg[201]? = some zM201 := rfl
abbrev zM202 : zM := (⟨"CubeHopsModel", "asked", "()I"⟩, prog_7_method_79_code, 1, (some .int), 4, 1104, 0)
theorem hM202 : zProg[202]? = some zM202 := rfl
abbrev zM203 : zM := (⟨"CubeHopsModel", "upper", "()J"⟩, prog_7_method_80_code, 1, (some .long), 4, 1108, 0)
theorem hM203 : zProg[203]? = some zM203 := rfl
abbrev zM204 : zM := (⟨"CubeHopsModel", "lower", "()J"⟩, prog_7_method_81_code, 1, (some .long), 4, 1112, 0)
theorem hM204 : zProg[204]? = some zM204 := rfl
abbrev zM205 : zM := (⟨"CubeHopsModel", "count", "(I)I"⟩, prog_7_method_85_code, 2, (some .int), 4, 1116, 1)
theorem hM205 : zProg[205]? = some zM205 := rfl
abbrev zM206 : zM := (⟨"CubeHopsModel", "thereOnes", "()I"⟩, prog_7_method_84_code, 3, (some .int), 4, 1120, 0)
theorem hM206 : zProg[206]? = some zM206 := rfl
abbrev zM207 : zM := (⟨"CubeHopsModel", "thereOf", "([I)I"⟩, prog_7_method_82_code, 6, (some .int), 4, 1123, 1)
theorem hM207 : zProg[207]? = some zM207 := rfl
abbrev zM208 : zM := (⟨"CubeHopsModel", "kindMany", "(I)I"⟩, prog_7_method_83_code, 4, (some .int), 4, 1127, 1)
theorem hM208 : zProg[208]? = some zM208 := rfl
abbrev zM209 : zM := (⟨"CubeHopsModel", "finding", "()I"⟩, prog_7_method_86_code, 1, (some .int), 4, 1131, 0)
theorem hM209 : zProg[209]? = some zM209 := rfl
abbrev zM210 : zM := (⟨"CubeHopsModel", "findings", "(I)I"⟩, prog_7_method_87_code, 2, (some .int), 4, 1135, 1)
theorem hM210 : zProg[210]? = some zM210 := rfl
abbrev zM211 : zM := (⟨"CubeHopsModel", "digest", "()J"⟩, prog_7_method_88_code, 5, (some .long), 4, 1139, 0)
theorem hM211 : zProg[211]? = some zM211 := rfl
abbrev zM48 : zM := (⟨"java/lang/Integer", "bitCount", "(I)I"⟩, prog_8_method_49_code, 1, (some .int), 7, 377, 1)
theorem hM48 : zProg[48]? = some zM48 := rfl
abbrev zM66 : zM := (⟨"java/lang/Long", "bitCount", "(J)I"⟩, prog_9_method_50_code, 2, (some .int), 8, 454, 1)
theorem hM66 : zProg[66]? = some zM66 := rfl
abbrev zM212 : zM := (⟨"CubeHopsLaw", "law", "([I)Z"⟩, code, 4, (some .boolean), 6, 0, 1)
theorem hM212 : zProg[212]? = some zM212 := rfl
