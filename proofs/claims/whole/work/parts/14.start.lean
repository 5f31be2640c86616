-- ===== end of PART A; then your names; then what follows =====
/-! THE CLAIM OUT OF ONE WALK OF THE LAW'S BODY. Your part is whole_start (and what it stands on); all else here is the same for every law, but numbers. -/
def R_law : String := "CubeHopsLaw"
def lw_P (b : Addr) (xs : List Int32) (args : Array Value) (s : State) : Prop := args = #[.ref b] ∧ s.IntsAt b xs ∧ xs.length ≤ 3072 ∧ (Jvm.Cond.and given_1 narrow_1).before args s = true
def lw_Q (_ : Array Value) (s : State) (o : Outcome) (t : State) : Prop := o = .returned (some (.int 1)) ∧ Framed s o t [] 600000 7302250
def lw_Z (below : List Frame) (a : Array Value) (s : State) : State → Prop := fun t => ∃ o, t.status = .running ∧ Ended t below o ∧ lw_Q a s o t
/-- the law's own end, with 1 on the stack, nothing written that was there before, its room as the claim has it -/
theorem lw_ret {p : Program} {l : Launch} {e : Env} {s : State} {m : MethodId} {below : List Frame} {meth : Method} {c : Code} {b : Nat} (hx : p.tables.exec = Jvm.exec) (hb : c.code = code) (hr : meth.sig.returnType = ret) (hlocks : meth.locks = false) {pc : Nat} {H : Heap} {ls : Array Slot} (hdg : decode code pc = .ok (.ireturn, 1)) : W p l e room_1 s m #[Value.ref b] below meth c H [] 600000 7302250 (lw_Z below #[Value.ref b] s) (F0 m pc ls [.int 1]) := by
  intro T hT X
  obtain ⟨fs, hret, hrun, hended, hW, hframe⟩ := X.leave (v := some (.int 1)) (hlocks := hlocks) (fun h => by rw [hr] at h; cases h)
  have hmeth' : T.vm.method? m = some meth := X.method'
  refine ⟨T.setFrames fs, ?_, .returned (some (.int 1)), hrun, hended, rfl, ⟨_, rfl⟩, hW, hframe⟩
  jvm_step X.here [X.here.top, hx, hb, hdg, hmeth', hr, ret, narrow_b1]
  (try refine ⟨rfl, ?_⟩); (try refine ⟨rfl, ?_⟩)
  first | (intro acts; rw [hret _ acts rfl rfl rfl]) | rw [hret _ _ rfl rfl rfl]
  exact Steps.refl _
/-- what holds at the law's entry: the machine, the code, the tables' words (any of lw_tbl by 'hts w (by decide +kernel)'), the script of L ints xs at the cell b, what the Statement gives of the start (any of its parts by flat_of_before) -/
def lw_At (p : Program) (s : State) (m : MethodId) (meth : Method) (c : Code) (b L : Nat) (xs : Nat → Int32) : Prop :=
  p.tables.exec = Jvm.exec ∧ c.code = code ∧ meth.sig.returnType = ret ∧ c.maxLocals = 4 ∧ s.vm.findClass R_law = some m.cls ∧ (∀ w ∈ lw_tbl, w.before #[Value.ref b] s = true) ∧ va_X b L xs s s.heap ∧ b < s.heap.size ∧ meth.locks = false ∧ (Jvm.Cond.and given_1 narrow_1).before #[Value.ref b] s = true
/-- the law's start, in small: the script hidden -/
def zS0 : zS := ([.inr (.inr (99, [])), .inl 6, .inl 4], fun k j => if k = 1 then zKL6 j else if k = 2 then zLE4 j else 0, fun _ _ => 0)
/-- all cells, once both objects are made -/
def zSHt : List zE := [
  .inl 6,
  .inl 4,
  .inr (.inr (3, [some 4, some 5, some 6, some 8, some 9, some 14, some 19, some 24, some 27, some 28, some 35, none, none, none, none])),
  .inr (.inl (0, [some 36, some 38, some 40, some 42, some 44, some 46])),
  .inr (.inl (0, [some 48, some 50, some 52, some 54])),
  .inr (.inr (2, [some 7, none])),
  .inl 40,
  .inr (.inl (0, [some 56, some 58, some 60])),
  .inr (.inr (0, [some 10, some 11, some 12, some 13, none, none, none, none, none, none])),
  .inl 7,
  .inl 7,
  .inl 7,
  .inl 7,
  .inr (.inr (0, [some 15, some 16, some 17, some 18, none, none, none, none, none, none])),
  .inl 7,
  .inl 7,
  .inl 7,
  .inl 7,
  .inr (.inr (0, [some 20, some 21, some 22, some 23, none, none, none, none, none, none])),
  .inl 7,
  .inl 7,
  .inl 7,
  .inl 7,
  .inr (.inr (1, [some 25, some 26, none])),
  .inl 16,
  .inl 16,
  .inl 32,
  .inr (.inl (1, [some 29, some 30, some 31, some 32, some 33, some 34])),
  .inl 20,
  .inl 20,
  .inl 20,
  .inl 20,
  .inl 20,
  .inl 20,
  .inl 6,
  .inr (.inr (2, [some 37, none])),
  .inl 40,
  .inr (.inr (2, [some 39, none])),
  .inl 40,
  .inr (.inr (2, [some 41, none])),
  .inl 40,
  .inr (.inr (2, [some 43, none])),
  .inl 40,
  .inr (.inr (2, [some 45, none])),
  .inl 40,
  .inr (.inr (2, [some 47, none])),
  .inl 40,
  .inr (.inr (2, [some 49, none])),
  .inl 60,
  .inr (.inr (2, [some 51, none])),
  .inl 60,
  .inr (.inr (2, [some 53, none])),
  .inl 60,
  .inr (.inr (2, [some 55, none])),
  .inl 60,
  .inr (.inr (2, [some 57, none])),
  .inl 40,
  .inr (.inr (2, [some 59, none])),
  .inl 40,
  .inr (.inr (2, [some 61, none])),
  .inl 40,
  .inr (.inr (4, [some 63, some 64, some 65, some 66, none, some 67, none, none, none, none, none, none, none, some 68, none, some 69, some 70, some 71, none, some 72, some 73, some 74, some 75, some 76, some 77, some 78, some 79, some 80, some 81, some 82, none])),
  .inl 6,
  .inl 240,
  .inl 4,
  .inl 240,
  .inl 6,
  .inl 21,
  .inl 7,
  .inl 24,
  .inl 960,
  .inl 72,
  .inl 2880,
  .inl 3,
  .inl 24,
  .inl 7,
  .inl 32,
  .inl 16,
  .inl 16,
  .inl 32,
  .inl 16,
  .inl 120]
def zSH (x : zE) : List zE := x :: zSHt
/-- what the first ints are, where they are not free -/
def zI1 (k j : Nat) : Int32 := if k = 62 then 0 else if (k = 63 ∧ j < 6) ∨ (k = 65 ∧ j < 4) ∨ (k = 74 ∧ j < 3) then -1 else if (j = 1 ∧ 36 ≤ k ∧ k ≤ 61 ∧ k % 2 = 0) then -1 else 0
def zL1 (k j : Nat) : Int64 := if (k = 3 ∧ j = 14) ∨ (k = 62 ∧ j = 8) then 1 else 0
def zok1 : Bool := match zgo 4000 30 212 18 0 [.ref 0, .null, .null, .null] [] zS0 with
  | some (lo, st, S) => decide (lo = [.ref 0, .ref 3, .ref 62, .int 0]) && (decide (st = []) && (decide (S.1 = zSH (.inr (.inr (99, [])))) && ((List.range 80).all (fun k => (List.range 32).all fun j => decide (S.2.1 (k + 3) j = zI1 (k + 3) j)) && ((List.range 80).all (fun k => (List.range 16).all fun j => decide (S.2.2 (k + 3) j = zL1 (k + 3) j))))))
  | none => false
set_option maxRecDepth 100000 in
theorem zok1_ok : zok1 = true := by decide +kernel
/-- what the law's own loop starts with -/
def zInit (I : Nat → Nat → Int32) (L : Nat → Nat → Int64) : Prop := ∀ k j, 3 ≤ k → k < 83 → (j < 32 → I k j = zI1 k j) ∧ (j < 16 → L k j = zL1 k j)
def zLaw : Prop := ∀ (n : Nat) (xs : Nat → Int32) (I : Nat → Nat → Int32) (L : Nat → Nat → Int64), n ≤ 3072 → (∀ j, I 0 j = xs j) → (∀ j, j < 6 → I 1 j = zKL6 j) → (∀ j, j < 4 → I 2 j = zLE4 j) → zInit I L → zW 30 212 18 [.ref 0, .ref 3, .ref 62, .int 0] [] (zSH (.inl n), I, L) (fun v S' => v = some (.int 1) ∧ S'.1 = zSH (.inl n))
set_option maxRecDepth 100000 in
set_option maxHeartbeats 4000000 in
theorem zstart (zlaw : zLaw) {p : Program} {e : Env} {s : State} {m : MethodId} {below : List Frame} {meth : Method} {c : Code} (l : Launch) {b L : Nat} {xs : Nat → Int32} (hL : L ≤ 3072) (C0 : lw_At p s m meth c b L xs) : W p l e room_1 s m #[Value.ref b] below meth c s.heap [] 0 0 (lw_Z below #[Value.ref b] s) (entryFrame m ([Value.ref b] : List Value).toArray 4) := by
  obtain ⟨hx, hb, hr, hml, hown, hts, hX, hbl, hlocks, hgv⟩ := id C0
  have hs := flat_of_before _ hgv
  have htz : ∀ w ∈ zWs, w.before #[Value.ref b] s = true := fun w hw => hts w (List.mem_filter.mp hw).1
  have hA : ∀ a : Nat, a < s.heap.size → ¬ (fun q : Nat => s.heap.size ≤ q) a := fun a h => Nat.not_le.mpr h
  obtain ⟨t1, ht1, hT1⟩ := va_Tof (tm := .static "CubeHops" "KIND_LETTERS" "[I") (ty := .int) (N := 6) (f := fun j => .int (zKL6 j)) (A := fun q : Nat => s.heap.size ≤ q) (by decide) (hs _ (by decide +kernel)) (va_eqt (hs _ (by decide +kernel)))
    (fun j hj => by
      rcases (show j = 0 ∨ j = 1 ∨ j = 2 ∨ j = 3 ∨ j = 4 ∨ j = 5 by omega) with rfl | rfl | rfl | rfl | rfl | rfl <;> exact va_eqt (hs _ (by decide +kernel))) hA
  obtain ⟨t2, ht2, hT2⟩ := va_Tof (tm := .static "CubeHops$Web" "LOWER_ENDS" "[I") (ty := .int) (N := 4) (f := fun j => .int (zLE4 j)) (A := fun q : Nat => s.heap.size ≤ q) (by decide) (hs _ (by decide +kernel)) (va_eqt (hs _ (by decide +kernel)))
    (fun j hj => by
      rcases (show j = 0 ∨ j = 1 ∨ j = 2 ∨ j = 3 by omega) with rfl | rfl | rfl | rfl <;> exact va_eqt (hs _ (by decide +kernel))) hA
  have hZ1 := va_Zref (A := fun q : Nat => s.heap.size ≤ q) (hts (.laysStatic "CubeHops" "KIND_LETTERS" "[I") (by decide +kernel)) (hts (.initialized "CubeHops") (by decide +kernel)) ht1 hA
  have hZ2 := va_Zref (A := fun q : Nat => s.heap.size ≤ q) (hts (.laysStatic "CubeHops$Web" "LOWER_ENDS" "[I") (by decide +kernel)) (hts (.initialized "CubeHops$Web") (by decide +kernel)) ht2 hA
  obtain ⟨scr, x1, x2, x3, x4, x5⟩ := hX
  have hT0 : va_T .int b L (fun j => .int (xs j)) (fun q : Nat => s.heap.size ≤ q) s s.heap := ⟨scr, x1, x2, x3, by omega, by rw [x4], x5, hA b hbl⟩
  obtain ⟨cI, kI, compI, i1, i2, i3⟩ := Cond.arrayClass_spec (htz _ zmem_arr.1)
  obtain ⟨compQ, cQ, kQ, q1, q2, q3, q4, q5⟩ := Cond.arrayOver_spec (hts _ zmem_over.1)
  have hao : zAOA s := hts _ zmem_over.2
  obtain ⟨compG, cG, kG, g1, g2, g3, g4, g5⟩ := zaoa_spec hao
  obtain ⟨ty0, n0, -, -, -, -, m0, -, -⟩ := zcl_0
  obtain ⟨ty1, n1, -, -, -, -, m1, -, -⟩ := zcl_1
  obtain ⟨ty2, n2, -, -, -, -, m2, -, -⟩ := zcl_2
  obtain ⟨ty3, n3, -, -, -, -, m3, -, -⟩ := zcl_3
  obtain ⟨ty4, n4, -, -, -, -, m4, -, -⟩ := zcl_4
  obtain ⟨c0, iS0, hK0⟩ := u_known htz n0 (htz _ m0)
  obtain ⟨c1, iS1, hK1⟩ := u_known htz n1 (htz _ m1)
  obtain ⟨c2, iS2, hK2⟩ := u_known htz n2 (htz _ m2)
  obtain ⟨c3, iS3, hK3⟩ := u_known htz n3 (htz _ m3)
  obtain ⟨c4, iS4, hK4⟩ := u_known htz n4 (htz _ m4)
  obtain ⟨D, hKc⟩ : ∃ D : va_G, ∀ (k : Nat) (q : vw_C), vwCl[k]? = some q → u_Kn s q.1 q.2.1 q.2.2 (D.1 k) (D.2 k) := by
    refine ⟨(fun k => if k = 0 then c0 else if k = 1 then c1 else if k = 2 then c2 else if k = 3 then c3 else c4, fun k => if k = 0 then iS0 else if k = 1 then iS1 else if k = 2 then iS2 else if k = 3 then iS3 else iS4), ?_⟩
    intro k q hq
    match k, hq with
    | 0, hq => cases hq; exact hK0
    | 1, hq => cases hq; exact hK1
    | 2, hq => cases hq; exact hK2
    | 3, hq => cases hq; exact hK3
    | 4, hq => cases hq; exact hK4
    | k + 5, hq => simp [vwCl] at hq
  obtain ⟨Z, hZ⟩ : ∃ Z : zZ, Z = (D, (cI, cQ, cG), (s.heap.size, b, t1, t2), L, xs) := ⟨_, rfl⟩
  have hK : va_K Z.1 vwCl (ztys Z) s := by
    subst hZ
    refine ⟨hKc, fun k q hq => ?_⟩
    match k, hq with
    | 0, hq => cases hq; exact ⟨fun n z => ⟨fun k h => (by cases h), kI, i2, compI, i3⟩, i1⟩
    | 1, hq => cases hq; exact ⟨fun n z => ⟨fun k h => (by cases h), kQ, q3, compQ, q4⟩, kQ, compQ, q3, q4, q1, q5⟩
    | 2, hq => cases hq; exact ⟨fun n z => ⟨fun k h => (by cases h), kG, g3, compG, g4⟩, g5⟩
    | k + 3, hq => simp [ztys] at hq
  have hU : zU Z s := by
    subst hZ
    refine ⟨hK, hT0, hT1, hT2, hZ1, hZ2, Nat.le_refl _, va_AO.of (hts _ zmem_over.1), hao, fun w hw => ?_, hL⟩
    have hm := List.mem_filter.mp hw
    cases w <;> first | exact va_Nw.of rfl (hts _ hm.1) | (simp at hm; done)
  have hadr : zcv Z (.ref 0) = .ref b := by subst hZ; rfl
  have hM : zProg[212]? = some (⟨"CubeHopsLaw", "law", "([I)Z"⟩, code, 4, some .boolean, 6, 0, 1) := rfl
  have hC : zC Z (⟨"CubeHopsLaw", "law", "([I)Z"⟩, code, 4, some .boolean, 6, 0, 1) p room_1 s m #[Value.ref b] meth c 30 := by
    refine ⟨hx, hb, hml, hown, htz, fun g => ?_, hU, by decide, by decide, by decide, by decide⟩
    exact absurd g (by decide)
  have hl := lv_entry ([.ref b]) (n := 4) (Nat.le_of_ble_eq_true rfl)
  rw [lg_entry_eq]
  generalize (lg_sl ([.ref b]) ++ List.replicate (4 - (lg_sl ([.ref b])).length) Slot.unset).toArray = ls at hl ⊢
  have hl2 : zL Z ls 4 (zent 4 [.ref 0]) := zL_ent (by rw [List.map_cons, hadr]; exact hl) (by decide)
  have hok := zok1_ok
  unfold zok1 at hok
  split at hok
  rotate_left
  · cases hok
  next lo1 st1 S1 hgo =>
  obtain ⟨Sh1, I1, L1⟩ := S1
  simp only [Bool.and_eq_true, decide_eq_true_eq, List.all_eq_true, List.mem_range] at hok
  obtain ⟨rfl, rfl, rfl, hI, hLl⟩ := hok
  have hz0 : zc zS0 = 3 := rfl
  have hz1 : zs zS0 = 10 := rfl
  have hzc : ∀ x : zE, ((zSH x).length = 83) := fun x => rfl
  have hzs : ∀ x : zE, ((zSH x).map zsz).sum = zsz x + 5776 := fun x => congrArg (zsz x + ·) (by decide +kernel : (zSHt.map zsz).sum = 5776)
  refine zgo_sound (Z := Z) (st := []) (mc := 80) (ms := 5766) 4000 hgo hM hC ⟨⟨?_, ?_, ?_⟩, va_S.rf, hl2⟩ ?_ ?_ (by decide) (by decide) ?_
  · intro k x h3 hk
    have := (List.getElem?_eq_some_iff.mp hk).1
    simp only [zS0, List.length_cons, List.length_nil] at this
    omega
  · subst hZ
    rfl
  · subst hZ
    exact ⟨Nat.le_refl _, Or.inr rfl, rfl, rfl, fun j _ => rfl, fun j _ => rfl⟩
  · show 0 + (zSH _).length = 80 + zc zS0
    rw [hzc, hz0]
  · show 0 + ((zSH _).map zsz).sum = 5766 + zs zS0
    rw [hzs, hz1]
    rfl
  · intro ls1 H1 locs1 hT1
    obtain ⟨⟨hP1, hs1, h01⟩, hS1, hL1⟩ := hT1
    obtain ⟨I2, hI2⟩ : ∃ I2 : Nat → Nat → Int32, I2 = fun k j => if k = 0 then xs j else I1 k j := ⟨_, rfl⟩
    have hI2k : ∀ k j, k ≠ 0 → I2 k j = I1 k j := fun k j g => by rw [hI2]; exact if_neg g
    have hT2 : zT Z s (⟨"CubeHopsLaw", "law", "([I)Z"⟩, code, 4, some .boolean, 6, 0, 1) (zSH (.inl L), I2, L1) H1 locs1 ls1 [.ref 0, .ref 3, .ref 62, .int 0] := by
      refine ⟨⟨fun k x h3 hk => ?_, hs1, ?_⟩, hS1, hL1⟩
      · have hk2 : (zSH (.inr (.inr (99, []))))[k]? = some x := by
          match k, h3, hk with
          | k + 1, h3, hk => exact hk
        rw [zcell_congr (S := (zSH (.inr (.inr (99, []))), I1, L1)) (S' := (zSH (.inl L), I2, L1)) (fun j => hI2k k j (by omega)) (fun j => rfl)]
        exact hP1 k x h3 hk2
      · obtain ⟨a1, -, a3, a4, a5, a6⟩ := h01
        refine ⟨Nat.le_of_ble_eq_true rfl, Or.inl ⟨?_, fun j hj => ?_⟩, rfl, rfl, fun j hj => by rw [← a5 j hj]; exact hI2k 1 j (by decide), fun j hj => by rw [← a6 j hj]; exact hI2k 2 j (by decide)⟩
        · subst hZ
          rfl
        · subst hZ
          rw [hI2]
          rfl
    obtain ⟨-, -, -, -, a5, a6⟩ := h01
    obtain ⟨f, v, S', hrun, rfl, hcS⟩ := zlaw L xs I2 L1 hL (fun j => by rw [hI2]; rfl) (fun j hj => by rw [← a5 j hj]; exact hI2k 1 j (by decide)) (fun j hj => by rw [← a6 j hj]; exact hI2k 2 j (by decide)) (fun k j h3 hk => ⟨fun hj => by
        have := hI (k - 3) (by omega) j hj
        rw [show k - 3 + 3 = k by omega] at this
        rw [← this]
        exact hI2k k j (by omega), fun hj => by
        have := hLl (k - 3) (by omega) j hj
        rw [show k - 3 + 3 = k by omega] at this
        exact this⟩)
    refine zsound (Z := Z) (st := []) (mc := 80) (ms := 5766) f hrun hM hC hT2 ?_ ?_ (by decide) (by decide) ?_
    · show 80 + S'.1.length = 80 + (zSH _).length
      rw [hcS]
    · show 5766 + (S'.1.map zsz).sum = 5766 + ((zSH _).map zsz).sum
      rw [hcS]
    · intro pc ls2 H2 locs2 hrt hS2 hH2
      rcases hrt with ⟨x, hxv, hdr, -⟩ | ⟨x, hxv, -⟩ | ⟨hxv, -⟩
      · cases hxv
        refine va_forget (fun q hq => ?_) ?_
        · have h9 := hS2.2.2 q hq
          subst hZ
          exact h9
        · refine W.widen (k := 600000) (n := 7302250) (by omega) (by omega) ?_
          exact lw_ret hx hb hr hlocks hdr
      · cases hxv
      · cases hxv
