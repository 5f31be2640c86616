/-! one rewriting row an instruction -/
section
variable {n d mi pc pc' : Nat} {lo lo' st st' : List Value} {I I' : zi} {L L' : zl} {Q : zq} {M : zM}
theorem r_nx {ins : Instr} {len : Nat} (hM : zProg[mi]? = some M) (hd : decode M.2.1 pc = .ok (ins, len)) (h : zexec M ins len pc lo st (zSH (.inl n), I, L) = some (.inl (pc', lo', st', (zSH (.inl n), I', L')))) : zV n d mi pc lo st I L Q ↔ zV n d mi pc' lo' st' I' L' Q := zV_nx (zso_of hM hd h)
def zshP (k : Nat) : Bool := match zSHt[k - 1]? with
  | some (.inr (.inr (ci, rs))) => decide (ci < 5) && (decide (rs.length = (zFK.getD ci []).length) && (List.range rs.length).all fun j => decide ((zFK.getD ci []).getD j 2 = 2 → rs.getD j none = some (zref k j)))
  | some (.inr (.inl (_, rs))) => (List.range rs.length).all fun j => decide (rs.getD j none = some (zref k j))
  | _ => true
theorem zsh_ok : (List.range 83).all zshP = true := by decide +kernel
theorem zsh_at {k : Nat} : zshP k = true := by
  by_cases hk : k < 83
  · exact List.all_eq_true.mp zsh_ok k (List.mem_range.mpr hk)
  · unfold zshP
    rw [List.getElem?_eq_none (by show 82 ≤ k - 1; omega)]
theorem zobj_is {k ci : Nat} (h : zobj k = ci) (hc : ci < 5) : ∃ rs, (zSH (.inl n))[k]? = some (.inr (.inr (ci, rs))) ∧ rs.length = (zFK.getD ci []).length ∧ ∀ j, j < rs.length → (zFK.getD ci []).getD j 2 = 2 → rs.getD j none = some (zref k j) := by
  have hk : k ≠ 0 := by
    intro e
    subst e
    have : zobj 0 = 99 := by decide +kernel
    omega
  obtain ⟨rs, hrs⟩ := zobj_at (n := n) h hc hk
  refine ⟨rs, hrs, ?_⟩
  have hz := zsh_at (k := k)
  unfold zshP at hz
  have h2 : zSHt[k - 1]? = some (.inr (.inr (ci, rs))) := by
    cases k with
    | zero => exact absurd rfl hk
    | succ k => exact hrs
  rw [h2] at hz
  simp only [Bool.and_eq_true, decide_eq_true_eq, List.all_eq_true, List.mem_range] at hz
  exact ⟨hz.2.1, hz.2.2⟩
theorem r_gf0 {idx ci j fin pp k : Nat} (hM : zProg[mi]? = some M) (hd : decode M.2.1 pc = .ok (.getfield idx, 3)) (hl : zFL.lookup (zky M idx) = some (ci, j, 0, fin, pp)) (hc : ci < 5 ∧ j < (zFK.getD ci []).length) (hk : zobj k = ci) : zV n d mi pc lo (.ref k :: st) I L Q ↔ zV n d mi (pc + 3) lo (.int (I k j) :: st) I L Q := by
  obtain ⟨rs, h1, h2, h3⟩ := zobj_is (n := n) hk hc.1
  refine r_nx hM hd ?_
  simp only [zexec, zgetf, hl, h1, h2, hc.2, and_self, if_true, znx]
theorem r_gf1 {idx ci j fin pp k : Nat} (hM : zProg[mi]? = some M) (hd : decode M.2.1 pc = .ok (.getfield idx, 3)) (hl : zFL.lookup (zky M idx) = some (ci, j, 1, fin, pp)) (hc : ci < 5 ∧ j < (zFK.getD ci []).length) (hk : zobj k = ci) : zV n d mi pc lo (.ref k :: st) I L Q ↔ zV n d mi (pc + 3) lo (.long (L k j) :: st) I L Q := by
  obtain ⟨rs, h1, h2, h3⟩ := zobj_is (n := n) hk hc.1
  refine r_nx hM hd ?_
  simp only [zexec, zgetf, hl, h1, h2, hc.2, and_self, if_true, znx]
theorem r_gf2 {idx ci j fin pp k : Nat} (hM : zProg[mi]? = some M) (hd : decode M.2.1 pc = .ok (.getfield idx, 3)) (hl : zFL.lookup (zky M idx) = some (ci, j, 2, fin, pp)) (hc : ci < 5 ∧ j < (zFK.getD ci []).length ∧ (zFK.getD ci []).getD j 2 = 2) (hk : zobj k = ci) : zV n d mi pc lo (.ref k :: st) I L Q ↔ zV n d mi (pc + 3) lo (.ref (zref k j) :: st) I L Q := by
  obtain ⟨rs, h1, h2, h3⟩ := zobj_is (n := n) hk hc.1
  have h4 := h3 j (by rw [h2]; exact hc.2.1) hc.2.2
  refine r_nx hM hd ?_
  simp only [zexec, zgetf, hl, h1, h2, hc.2.1, and_self, if_true, h4, znx]
theorem r_pf0 {idx ci j pp k : Nat} {x : Int32} (hM : zProg[mi]? = some M) (hd : decode M.2.1 pc = .ok (.putfield idx, 3)) (hl : zFL.lookup (zky M idx) = some (ci, j, 0, 0, pp)) (hc : ci < 5 ∧ j < (zFK.getD ci []).length) (hk : zobj k = ci) : zV n d mi pc lo (.int x :: .ref k :: st) I L Q ↔ zV n d mi (pc + 3) lo st (zup I k j x) L Q := by
  obtain ⟨rs, h1, h2, h3⟩ := zobj_is (n := n) hk hc.1
  refine r_nx hM hd ?_
  simp only [zexec, zputf, hl, h1, h2, hc.2, and_self, true_or, if_true, znx]
theorem r_pf1 {idx ci j pp k : Nat} {x : Int64} (hM : zProg[mi]? = some M) (hd : decode M.2.1 pc = .ok (.putfield idx, 3)) (hl : zFL.lookup (zky M idx) = some (ci, j, 1, 0, pp)) (hc : ci < 5 ∧ j < (zFK.getD ci []).length) (hk : zobj k = ci) : zV n d mi pc lo (.long x :: .ref k :: st) I L Q ↔ zV n d mi (pc + 3) lo st I (zup L k j x) Q := by
  obtain ⟨rs, h1, h2, h3⟩ := zobj_is (n := n) hk hc.1
  refine r_nx hM hd ?_
  simp only [zexec, zputf, hl, h1, h2, hc.2, and_self, true_or, if_true, znx]
theorem r_ald {k : Nat} {i : Int32} (hM : zProg[mi]? = some M) (hd : decode M.2.1 pc = .ok (.iaload, 1)) (hk : zint k = true) : zV n d mi pc lo (.int i :: .ref k :: st) I L Q ↔ (zin i (zlen k) = true ∧ zV n d mi (pc + 1) lo (.int (I k i.toNatClampNeg) :: st) I L Q) := by
  have h1 := zint_at (n := n) hk
  by_cases hi : zin i (zlen k) = true
  · rw [r_nx (pc' := pc + 1) (lo' := lo) (st' := .int (I k i.toNatClampNeg) :: st) (I' := I) (L' := L) hM hd (by simp only [zexec, zald, h1, hi, if_true, znx])]
    exact ⟨fun h => ⟨hi, h⟩, fun h => h.2⟩
  · exact ⟨fun h => absurd h (zV_no (zso_of hM hd (by simp only [zexec, zald, h1, hi, if_true, Bool.false_eq_true, if_false]))), fun h => absurd h.1 hi⟩
theorem r_ald0 {i : Int32} (hM : zProg[mi]? = some M) (hd : decode M.2.1 pc = .ok (.iaload, 1)) : zV n d mi pc lo (.int i :: .ref 0 :: st) I L Q ↔ (zin i n = true ∧ zV n d mi (pc + 1) lo (.int (I 0 i.toNatClampNeg) :: st) I L Q) := by
  have h1 : (zSH (.inl n))[0]? = some (.inl n) := rfl
  by_cases hi : zin i n = true
  · rw [r_nx (pc' := pc + 1) (lo' := lo) (st' := .int (I 0 i.toNatClampNeg) :: st) (I' := I) (L' := L) hM hd (by simp only [zexec, zald, h1, hi, if_true, znx])]
    exact ⟨fun h => ⟨hi, h⟩, fun h => h.2⟩
  · exact ⟨fun h => absurd h (zV_no (zso_of hM hd (by simp only [zexec, zald, h1, hi, if_true, Bool.false_eq_true, if_false]))), fun h => absurd h.1 hi⟩
def zwr (k : Nat) : Bool := zint k && decide (3 ≤ k)
theorem r_ast {k : Nat} {i x : Int32} (hM : zProg[mi]? = some M) (hd : decode M.2.1 pc = .ok (.iastore, 1)) (hw : zwr k = true) : zV n d mi pc lo (.int x :: .int i :: .ref k :: st) I L Q ↔ (zin i (zlen k) = true ∧ zV n d mi (pc + 1) lo st (zup I k i.toNatClampNeg x) L Q) := by
  unfold zwr at hw
  simp only [Bool.and_eq_true, decide_eq_true_eq] at hw
  obtain ⟨hk, h3⟩ := hw
  have h1 := zint_at (n := n) hk
  by_cases hi : zin i (zlen k) = true
  · rw [r_nx (pc' := pc + 1) (lo' := lo) (st' := st) (I' := zup I k i.toNatClampNeg x) (L' := L) hM hd (by simp only [zexec, zast, h1, hi, h3, and_self, if_true, znx])]
    exact ⟨fun h => ⟨hi, h⟩, fun h => h.2⟩
  · exact ⟨fun h => absurd h (zV_no (zso_of hM hd (by simp only [zexec, zast, h1, hi, h3, if_true, Bool.false_eq_true, false_and, if_false]))), fun h => absurd h.1 hi⟩
theorem zra_at {k : Nat} (h : zra k = true) : ∃ t rs, (zSH (.inl n))[k]? = some (.inr (.inl (t, rs))) ∧ rs.length = zlen k ∧ ∀ j, j < rs.length → rs.getD j none = some (zref k j) := by
  have hz := zsh_at (k := k)
  unfold zshP at hz
  unfold zra at h
  split at h
  · next k0 t0 hs =>
    obtain ⟨t0, rs⟩ := t0
    rw [hs] at hz
    simp only [List.all_eq_true, List.mem_range, decide_eq_true_eq] at hz
    exact ⟨t0, rs, hs, by unfold zlen; rw [hs], hz⟩
  · cases h
theorem r_aald {k : Nat} {i : Int32} (hM : zProg[mi]? = some M) (hd : decode M.2.1 pc = .ok (.aaload, 1)) (hk : zra k = true) : zV n d mi pc lo (.int i :: .ref k :: st) I L Q ↔ (zin i (zlen k) = true ∧ zV n d mi (pc + 1) lo (.ref (zref k i.toNatClampNeg) :: st) I L Q) := by
  obtain ⟨t, rs, h1, h2, h3⟩ := zra_at (n := n) hk
  rw [← h2]
  by_cases hi : zin i rs.length = true
  · have hj : i.toNatClampNeg < rs.length := by
      have := zin_in hi
      exact Nat.not_le.mp fun q => this (Or.inr q)
    have h4 := h3 _ hj
    rw [r_nx (pc' := pc + 1) (lo' := lo) (st' := .ref (zref k i.toNatClampNeg) :: st) (I' := I) (L' := L) hM hd (by simp only [zexec, zaald, h1, hi, h4, if_true, znx])]
    exact ⟨fun h => ⟨hi, h⟩, fun h => h.2⟩
  · exact ⟨fun h => absurd h (zV_no (zso_of hM hd (by simp only [zexec, zaald, h1, hi, if_true, Bool.false_eq_true, if_false]))), fun h => absurd h.1 hi⟩
theorem r_alen {k : Nat} (hM : zProg[mi]? = some M) (hd : decode M.2.1 pc = .ok (.arraylength, 1)) (hk : zint k = true) : zV n d mi pc lo (.ref k :: st) I L Q ↔ zV n d mi (pc + 1) lo (.int (nI (zlen k)) :: st) I L Q := by
  have h1 := zint_at (n := n) hk
  exact r_nx hM hd (by simp only [zexec, zalen, h1, if_true, znx]; rfl)
theorem r_alenq {k : Nat} (hM : zProg[mi]? = some M) (hd : decode M.2.1 pc = .ok (.arraylength, 1)) (hk : zra k = true) : zV n d mi pc lo (.ref k :: st) I L Q ↔ zV n d mi (pc + 1) lo (.int (nI (zlen k)) :: st) I L Q := by
  obtain ⟨t, rs, h1, h2, h3⟩ := zra_at (n := n) hk
  exact r_nx hM hd (by simp only [zexec, zalen, h1, h2, if_true, znx]; rfl)
theorem r_gs {idx k pp : Nat} (hM : zProg[mi]? = some M) (hd : decode M.2.1 pc = .ok (.getstatic idx, 3)) (hl : zSL.lookup (zky M idx) = some (k, pp)) : zV n d mi pc lo st I L Q ↔ zV n d mi (pc + 3) lo (.ref k :: st) I L Q := r_nx hM hd (by simp only [zexec, hl, if_true, znx])
theorem r_ki {idx pp : Nat} {x : Int32} (hM : zProg[mi]? = some M) (hd : decode M.2.1 pc = .ok (.ldc idx, 2)) (hl : zKI.lookup (zky M idx) = some (x, pp)) : zV n d mi pc lo st I L Q ↔ zV n d mi (pc + 2) lo (.int x :: st) I L Q := r_nx hM hd (by simp only [zexec, hl, if_true, znx])
theorem r_kiw {idx pp : Nat} {x : Int32} (hM : zProg[mi]? = some M) (hd : decode M.2.1 pc = .ok (.ldc_w idx, 3)) (hl : zKI.lookup (zky M idx) = some (x, pp)) : zV n d mi pc lo st I L Q ↔ zV n d mi (pc + 3) lo (.int x :: st) I L Q := r_nx hM hd (by simp only [zexec, hl, if_true, znx])
theorem r_kl {idx pp : Nat} {x : Int64} (hM : zProg[mi]? = some M) (hd : decode M.2.1 pc = .ok (.ldc2_w idx, 3)) (hl : zKL.lookup (zky M idx) = some (x, pp)) : zV n d mi pc lo st I L Q ↔ zV n d mi (pc + 3) lo (.long x :: st) I L Q := r_nx hM hd (by simp only [zexec, hl, if_true, znx])
theorem r_div {x y : Int32} (hM : zProg[mi]? = some M) (hd : decode M.2.1 pc = .ok (.idiv, 1)) (hy : ¬ y = 0) : zV n d mi pc lo (.int y :: .int x :: st) I L Q ↔ zV n d mi (pc + 1) lo (.int (x / y) :: st) I L Q := r_nx hM hd (by simp only [zexec, ziiD, hy, if_true, if_false, znx])
theorem r_rem {x y : Int32} (hM : zProg[mi]? = some M) (hd : decode M.2.1 pc = .ok (.irem, 1)) (hy : ¬ y = 0) : zV n d mi pc lo (.int y :: .int x :: st) I L Q ↔ zV n d mi (pc + 1) lo (.int (x - x / y * y) :: st) I L Q := r_nx hM hd (by simp only [zexec, ziiD, hy, if_true, if_false, znx])
theorem r_ldiv {x y : Int64} (hM : zProg[mi]? = some M) (hd : decode M.2.1 pc = .ok (.ldiv, 1)) (hy : ¬ y = 0) : zV n d mi pc lo (.long y :: .long x :: st) I L Q ↔ zV n d mi (pc + 1) lo (.long (x / y) :: st) I L Q := r_nx hM hd (by simp only [zexec, zllD, hy, if_true, if_false, znx])
theorem r_lrem {x y : Int64} (hM : zProg[mi]? = some M) (hd : decode M.2.1 pc = .ok (.lrem, 1)) (hy : ¬ y = 0) : zV n d mi pc lo (.long y :: .long x :: st) I L Q ↔ zV n d mi (pc + 1) lo (.long (x - x / y * y) :: st) I L Q := r_nx hM hd (by simp only [zexec, zllD, hy, if_true, if_false, znx])
theorem r_bra {ins : Instr} {b : Bool} {st1 : List Value} {t : Nat} (hM : zProg[mi]? = some M) (hd : decode M.2.1 pc = .ok (ins, 3)) {off : Int} (hx : zexec M ins 3 pc lo st (zSH (.inl n), I, L) = zbr b pc off lo st1 (zSH (.inl n), I, L)) (ht : (pc : Int) + off = (t : Int)) {c : Prop} [Decidable c] (hb : b = decide c) : zV n d mi pc lo st I L Q ↔ (if c then zV n d mi t lo st1 I L Q else zV n d mi (pc + 3) lo st1 I L Q) := by
  have h0 : ¬ (pc : Int) + off < 0 := by omega
  have h1 : ((pc : Int) + off).toNat = t := by omega
  by_cases hc : c
  · rw [if_pos hc]
    exact r_nx hM hd (by rw [hx, zbr, if_neg h0, hb, decide_eq_true hc, h1]; rfl)
  · rw [if_neg hc]
    exact r_nx hM hd (by rw [hx, zbr, if_neg h0, hb, decide_eq_false hc]; rfl)
theorem r_goto {off : Int} {t : Nat} (hM : zProg[mi]? = some M) (hd : decode M.2.1 pc = .ok (.goto off, 3)) (ht : (pc : Int) + off = (t : Int)) : zV n d mi pc lo st I L Q ↔ zV n d mi t lo st I L Q := by
  have h0 : ¬ (pc : Int) + off < 0 := by omega
  have h1 : ((pc : Int) + off).toNat = t := by omega
  exact r_nx hM hd (by simp only [zexec, zjp, if_true, if_neg h0, h1, znx])
theorem r_jp {ins : Instr} {len : Nat} {st1 : List Value} {off : Int} {t : Nat} (hM : zProg[mi]? = some M) (hd : decode M.2.1 pc = .ok (ins, len)) (hx : zexec M ins len pc lo st (zSH (.inl n), I, L) = zjp pc off lo st1 (zSH (.inl n), I, L)) (ht : (pc : Int) + off = (t : Int)) : zV n d mi pc lo st I L Q ↔ zV n d mi t lo st1 I L Q := by
  have h0 : ¬ (pc : Int) + off < 0 := by omega
  have h1 : ((pc : Int) + off).toNat = t := by omega
  exact r_nx hM hd (by rw [hx, zjp, if_neg h0, h1]; rfl)
theorem r_re {ins : Instr} {len : Nat} {v : Option Value} (hM : zProg[mi]? = some M) (hd : decode M.2.1 pc = .ok (ins, len)) (hx : zexec M ins len pc lo st (zSH (.inl n), I, L) = some (.inr (.inr v))) : zV n d mi pc lo st I L Q ↔ Q v I L := zV_ret (zso_of hM hd hx)
theorem r_rez {x : Int32} (hM : zProg[mi]? = some M) (hd : decode M.2.1 pc = .ok (.ireturn, 1)) (hr : M.2.2.2.1 = some .boolean) : zV n d mi pc lo [.int x] I L Q ↔ ((x = 0 ∨ x = 1) ∧ Q (some (.int x)) I L) := by
  by_cases hx : x = 0 ∨ x = 1
  · rw [r_re (v := some (.int x)) hM hd (by simp only [zexec, zret, hr, hx, if_true])]
    exact ⟨fun h => ⟨hx, h⟩, fun h => h.2⟩
  · exact ⟨fun h => absurd h (zV_no (zso_of hM hd (by simp only [zexec, zret, hr, hx, if_true, if_false]))), fun h => absurd h.1 hx⟩
theorem r_cs {idx mi' t mx : Nat} {ps : Nat × Nat × Nat × Nat} {M' : zM} {as rest lo1 : List Value} (hM : zProg[mi]? = some M) (hd : decode M.2.1 pc = .ok (.invokestatic idx, 3)) (hl : zML.lookup (zky M idx) = some (t, mi', ps)) (ht : t = 1 ∨ t = 5) (hM' : zProg[mi']? = some M') (hn : M'.2.2.2.2.2.2 = as.length) (hst : st = as.reverse ++ rest) (hc : zcat rest ≤ 8) (hmx : M'.2.2.1 = mx) (hz : (zplace as).length ≤ mx) (he : zent mx as = lo1) :
    zV n (d + 1) mi pc lo st I L Q ↔ zV n d mi' 0 lo1 [] I L (fun v I' L' => zV n (d + 1) mi (pc + 3) lo (zpush v rest) I' L' Q) := by
  have hm : zmax mi' = mx := by unfold zmax; rw [hM']; exact hmx
  have h1 : as.length = as.reverse.length := List.length_reverse.symm
  refine zV_call (as := as) (zso_of hM hd ?_) (by rw [hm]; exact hz) (by rw [hm]; exact he)
  have e1 : st.take M'.2.2.2.2.2.2 = as.reverse := by rw [hst, hn, h1, List.take_left]
  have e2 : st.drop M'.2.2.2.2.2.2 = rest := by rw [hst, hn, h1, List.drop_left]
  have e3 : M'.2.2.2.2.2.2 ≤ st.length := by rw [hst, hn, List.length_append, List.length_reverse]; omega
  rcases ht with rfl | rfl <;> simp only [zexec, zinv, hl, hM', e1, e2, e3, hc, and_self, if_true, List.reverse_reverse]
theorem r_cv {idx mi' mx ci k : Nat} {ps : Nat × Nat × Nat × Nat} {M' : zM} {as rest lo1 : List Value} (hM : zProg[mi]? = some M) (hd : decode M.2.1 pc = .ok (.invokevirtual idx, 3)) (hl : zML.lookup (zky M idx) = some (0, mi', ps)) (hM' : zProg[mi']? = some M') (hn : M'.2.2.2.2.2.2 = as.length) (hst : st = as.reverse ++ .ref k :: rest) (hc : zcat rest ≤ 8) (hmx : M'.2.2.1 = mx) (hz : (zplace (.ref k :: as)).length ≤ mx) (he : zent mx (.ref k :: as) = lo1) (hcl : zCN[ci]? = some M'.1.cls) (hci : ci < 5) (hk : zobj k = ci) :
    zV n (d + 1) mi pc lo st I L Q ↔ zV n d mi' 0 lo1 [] I L (fun v I' L' => zV n (d + 1) mi (pc + 3) lo (zpush v rest) I' L' Q) := by
  have hm : zmax mi' = mx := by unfold zmax; rw [hM']; exact hmx
  have h1 : as.length = as.reverse.length := List.length_reverse.symm
  obtain ⟨rs, hrs, -, -⟩ := zobj_is (n := n) hk hci
  refine zV_call (as := .ref k :: as) (zso_of hM hd ?_) (by rw [hm]; exact hz) (by rw [hm]; exact he)
  have e1 : st.take M'.2.2.2.2.2.2 = as.reverse := by rw [hst, hn, h1, List.take_left]
  have e2 : st.drop M'.2.2.2.2.2.2 = .ref k :: rest := by rw [hst, hn, h1, List.drop_left]
  simp only [zexec, zinv, hl, hM', e1, e2, hrs, hc, hcl, hci, and_self, if_true, List.reverse_reverse]
theorem r_mx {idx : Nat} {mi' : Nat} {ps : Nat × Nat × Nat × Nat} {x y : Int32} (hM : zProg[mi]? = some M) (hd : decode M.2.1 pc = .ok (.invokestatic idx, 3)) (hl : zML.lookup (zky M idx) = some (7, mi', ps)) (hc : zcat st ≤ 8) : zV n d mi pc lo (.int y :: .int x :: st) I L Q ↔ zV n d mi (pc + 3) lo (.int (if x < y then y else x) :: st) I L Q := r_nx hM hd (by simp only [zexec, zinv, hl, hc, and_self, if_true, znx])
theorem r_mn {idx : Nat} {mi' : Nat} {ps : Nat × Nat × Nat × Nat} {x y : Int32} (hM : zProg[mi]? = some M) (hd : decode M.2.1 pc = .ok (.invokestatic idx, 3)) (hl : zML.lookup (zky M idx) = some (8, mi', ps)) (hc : zcat st ≤ 8) : zV n d mi pc lo (.int y :: .int x :: st) I L Q ↔ zV n d mi (pc + 3) lo (.int (if y < x then y else x) :: st) I L Q := r_nx hM hd (by simp only [zexec, zinv, hl, hc, and_self, if_true, znx])
end
