section ZSOUND
variable {p : Program} {l : Launch} {e : Env} {R : Room} {s : State} {m : MethodId} {args : Array Value} {below : List Frame} {meth : Method} {c : Code} {H : Heap} {locs : List Loc} {cells slots : Nat} {Q : State → Prop} {Z : zZ} {M : zM} {d : Nat} {ls : Array Slot}
/-- what stands fast while a method runs -/
def zC (Z : zZ) (M : zM) (p : Program) (R : Room) (s : State) (m : MethodId) (args : Array Value) (meth : Method) (c : Code) (d : Nat) : Prop :=
  p.tables.exec = Jvm.exec ∧ c.code = M.2.1 ∧ c.maxLocals = M.2.2.1 ∧ s.vm.findClass M.1.cls = some m.cls ∧ (∀ w ∈ zWs, w.before args s = true) ∧ (M.1.name = "<init>" → meth.name = "<init>") ∧ zU Z s ∧ d + 1 ≤ R.frames ∧ 64 * (d + 1) ≤ R.locals ∧ zCN[M.2.2.2.2.1]? = some M.1.cls ∧ M.2.2.2.2.1 < 10
/-- and what goes with the state -/
def zT (Z : zZ) (s : State) (M : zM) (S : zS) (H : Heap) (locs : List Loc) (ls : Array Slot) (lo : List Value) : Prop := zH Z S H ∧ va_S (zA Z) s.heap H locs ∧ zL Z ls M.2.2.1 lo
theorem zkey {M : zM} {own own' : String} {idx : Nat} (h : zCN[M.2.2.2.2.1]? = some own) (h2 : zCN[zky M idx / 1000]? = some own') : own' = own ∧ zky M idx % 1000 = idx := by
  unfold zky at h2 ⊢
  by_cases hi : idx < 1000
  · rw [if_pos hi] at h2 ⊢
    rw [show (1000 * M.2.2.2.2.1 + idx) / 1000 = M.2.2.2.2.1 by omega] at h2
    exact ⟨Option.some.inj (h2.symm.trans h), by omega⟩
  · rw [if_neg hi] at h2
    have e : zCN[999999 / 1000]? = none := by decide +kernel
    rw [e] at h2
    cases h2
theorem zP1 {D : va_G} {cl : List vw_C} {x : Nat × va_E} {H : Heap} (h : va_at D cl x H) : va_P D cl [x] H := fun k q hq => by
  have hz : k < 1 := (List.getElem?_eq_some_iff.mp hq).1
  rw [show k = 0 by omega] at hq
  cases hq
  exact h
theorem zcell_congr {Z : zZ} {S S' : zS} {k : Nat} (h1 : ∀ j, S'.2.1 k j = S.2.1 k j) (h2 : ∀ j, S'.2.2 k j = S.2.2 k j) (e : zE) : zcell Z S' k e = zcell Z S k e := by
  unfold zcell
  split
  · rw [show S'.2.1 k = S.2.1 k from funext h1]
  · rfl
  · congr 2
    apply List.map_congr_left
    intro j _
    unfold zfv
    rw [h1, h2]
theorem zmap_set {n j : Nat} {f g : Nat → Value} {v : Value} (hv : g j = v) (ho : ∀ i, i ≠ j → g i = f i) : ((List.range n).map f).set j v = (List.range n).map g := by
  apply List.ext_getElem?
  intro i
  by_cases hi : i < n
  · by_cases e : j = i
    · subst e
      rw [List.getElem?_set_self (by simpa using hi), List.getElem?_map, List.getElem?_range hi, ← hv]
      rfl
    · rw [List.getElem?_set_ne e, List.getElem?_map, List.getElem?_map, List.getElem?_range hi]
      simp only [Option.map_some]
      rw [ho i (fun q => e q.symm)]
  · rw [List.getElem?_eq_none (by simp; omega), List.getElem?_eq_none (by simp; omega)]
theorem zI0_k3 {Z : zZ} {S : zS} {k : Nat} {x : (Nat × List (Option Nat)) ⊕ (Nat × List (Option Nat))} (h : zI0 Z S) (he : S.1[k]? = some (.inr x)) (hx : x ≠ .inr (99, [])) : 3 ≤ k := by
  obtain ⟨-, h0, h1, h2, -⟩ := h
  rcases Nat.lt_or_ge k 3 with hk | hk
  · rcases (show k = 0 ∨ k = 1 ∨ k = 2 by omega) with rfl | rfl | rfl
    · rcases h0 with ⟨h0, -⟩ | h0
      · rw [h0] at he; cases he
      · rw [h0] at he; cases he; exact absurd rfl hx
    · rw [h1] at he; cases he
    · rw [h2] at he; cases he
  · exact hk
theorem zI0_ci {ci : Nat} {rs : List (Option Nat)} (h : ci < 5) : (Sum.inr (ci, rs) : (Nat × List (Option Nat)) ⊕ (Nat × List (Option Nat))) ≠ .inr (99, []) := by
  intro e
  cases e
  omega
theorem zI0_of {Z : zZ} {S S' : zS} (h : zI0 Z S) (hl : S.1.length ≤ S'.1.length) (h1 : ∀ k, k < 3 → S'.1[k]? = S.1[k]?) (h2 : ∀ k j, k < 3 → S'.2.1 k j = S.2.1 k j) : zI0 Z S' := by
  obtain ⟨a, b0, b1, b2, c1, c2⟩ := h
  refine ⟨Nat.le_trans a hl, ?_, by rw [h1 1 (by omega)]; exact b1, by rw [h1 2 (by omega)]; exact b2, fun j hj => by rw [h2 1 j (by omega)]; exact c1 j hj, fun j hj => by rw [h2 2 j (by omega)]; exact c2 j hj⟩
  rcases b0 with ⟨b0, c0⟩ | b0
  · exact Or.inl ⟨by rw [h1 0 (by omega)]; exact b0, fun j hj => by rw [h2 0 j (by omega)]; exact c0 j hj⟩
  · exact Or.inr (by rw [h1 0 (by omega)]; exact b0)
theorem zfl_use {M : zM} {own : String} {idx ci j t fin pp : Nat} (h : zFL.lookup (zky M idx) = some (ci, j, t, fin, pp)) (ho : zCN[M.2.2.2.2.1]? = some own) :
    ∃ q : vw_C, vwCl[ci]? = some q ∧ j < q.2.2 ∧ Cond.fieldLink own idx q.1 (q.2.1 j).2.1 (q.2.1 j).2.2.1 ∈ zWs ∧ (q.2.1 j).1 = q.1 ∧ (q.2.1 j).2.2.2 = decide (fin = 1) ∧ (fin = 0 ∨ fin = 1) ∧ ci < 5 ∧ (zFK.getD ci []).getD j 2 = t ∧ parseFieldDescriptor (q.2.1 j).2.2.1 = some (if t = 0 then .int else if t = 1 then .long else ((parseFieldDescriptor (q.2.1 j).2.2.1).getD .int)) ∧ (t = 0 ∨ t = 1 ∨ (t = 2 ∧ ((parseFieldDescriptor (q.2.1 j).2.2.1).getD .int).isReference = true)) := by
  have hf := zall zfl_ok h
  unfold zflP at hf
  dsimp only at hf
  split at hf
  · next own' q h1 h2 =>
    obtain ⟨e1, e2⟩ := zkey ho h1
    rw [e1, e2] at hf
    simp only [Bool.and_eq_true, decide_eq_true_eq] at hf
    obtain ⟨g1, g2, g3, g4, g5, g6, g7, g8, g9⟩ := hf
    exact ⟨q, h2, g1, zat_mem g2, g3, g4, g5, g6, g7, g8, g9⟩
  · cases hf
theorem zput1 {cc : ByteArray} {pc : Nat} {rest : List Value} {D : va_G} {cl : List vw_C} {A : Nat → Prop} {a : Nat} {tys : List (ClassId × FieldType)} {H0 : Heap} (hexec : p.tables.exec = Jvm.exec) (hb : c.code = cc) {own ref C : String} {T : u_T} {N ci index : Nat} {Ts : List Cond} (hts : ∀ w ∈ Ts, w.before args s = true) (hin : ∀ w ∈ u_ws C T N, w ∈ Ts) (ty0 : Nat → FieldType) (hty : ∀ k, k < N → parseFieldDescriptor (T k).2.2.1 = some (ty0 k)) (hnm : ∀ a, a < N → ∀ b, b < N → a ≠ b → (T a).2.1 ≠ (T b).2.1) (hown : s.vm.findClass own = some m.cls) (hK : va_K D cl tys s) (hS0 : va_S A H0 H locs) (haA : A a) {fs : List Value} (he : va_at D cl (a, .inr (ci, fs)) H) (hc : cl[ci]? = some (C, T, N)) (k : Nat) (hk : k < N) (hlink : (Cond.fieldLink own index ref (T k).2.1 (T k).2.2.1).before args s = true) (hsame : ∀ x, s.fieldFound? (T k).1 (T k).2.1 (T k).2.2.1 = some x → s.fieldFound? ref (T k).2.1 (T k).2.2.1 = some x) (hfin : (T k).2.2.2 = false ∨ ((T k).2.2.2 = true ∧ meth.name = "<init>" ∧ (T k).1 = own)) {ty : FieldType} {v : Value} (hd : parseFieldDescriptor (T k).2.2.1 = some ty) (hn : narrow ty v = v) (hfit : fits ty v = true) (hl : k < fs.length)
    (hdg : decode cc pc = .ok (.putfield index, 3)) (kk : ∀ (H1 : Heap) (locs1 : List Loc), va_at D cl (a, .inr (ci, fs.set k v)) H1 → H1.size = H.size → (∀ q : Nat, q ≠ a → H1[q]? = H[q]?) → va_S A H0 H1 locs1 → W p l e R s m args below meth c H1 locs1 cells slots Q (F0 m (pc + 3) ls rest)) : W p l e R s m args below meth c H locs cells slots Q (F0 m pc ls (v :: .ref a :: rest)) := by
  have hap := va_apart (own := own) hts hin ty0 hty hnm hK hc
  obtain ⟨r, h1, cell, q1, q2, q3, q4⟩ := he
  have hr : r = (C, T, N) := Option.some.inj (h1.symm.trans hc)
  subst hr
  obtain ⟨hS, hfc, kC, hkC, hkind⟩ := hK.1 ci _ hc
  obtain ⟨cf, kf, fi, f, hi, hsl⟩ := hS k hk
  have hlay := hts _ (hin _ (u_in_lay hk))
  unfold u_lay at hlay
  have hst := (u_facts hfc hkC (u_lays hts hin hk) hi).1
  rcases hfin with hfin | ⟨hfin, hin2, hdecl⟩
  · rw [if_neg (by rw [hfin]; decide)] at hlay
    have h6 := u_store hfc hkC hkind hlay hi hd hn hfit
    refine W.putK hexec hb (f := f) ⟨hown, hlink, ⟨_, _, _, hsame _ hi⟩, hst⟩ (by rw [q2]; exact h6) q1 q3 (by rw [hsl]; exact k2_hasslot (q4 k hk)) rfl rfl hdg fun H' e1 e2 e3 => ?_
    rw [hsl] at e1 ⊢
    exact kk H' _ ⟨_, hc, t_OB.to (V := updV (vp_V fs) k v) ⟨_, e1, q2, q3, t_set q4 hap hk v⟩ (fun j _ => vp_updV_set hl v j)⟩ e2 e3 (hS0.put e2 e3 haA)
  · rw [if_pos hfin] at hlay
    have hcf : m.cls = cf := by
      obtain ⟨_, _, c', _, _, _, -, -, hf', -, -, -, hown2, -⟩ := Cond.laysFinal_spec hlay
      have e1 : c' = cf := by have := hi.symm.trans hf'; simp at this; exact this.1.symm
      rw [hdecl] at hown2
      rw [← e1]; exact Option.some.inj (hown.symm.trans hown2)
    have h6 := u_fits hfc hkC hkind (Or.inr hlay) hi hd hn hfit
    refine W.putFinK hexec hb hown hlink (hsame _ hi) hst hcf hin2 (by rw [q2]; exact h6) q1 q3 (by rw [hsl]; exact k2_hasslot (q4 k hk)) rfl rfl hdg fun H' e1 e2 e3 => ?_
    rw [hsl] at e1 ⊢
    exact kk H' _ ⟨_, hc, t_OB.to (V := updV (vp_V fs) k v) ⟨_, e1, q2, q3, t_set q4 hap hk v⟩ (fun j _ => vp_updV_set hl v j)⟩ e2 e3 (hS0.put e2 e3 haA)
/-- the next state's world, behind a write at a cell -/
theorem zT_put {S S' : zS} {H' : Heap} {locs' : List Loc} {k : Nat} {x x' : zE} {lo lo' : List Value} {ls' : Array Slot} (hT : zT Z s M S H locs ls lo) (h3 : 3 ≤ k) (he : S.1[k]? = some x) (h1 : S'.1 = S.1.set k x') (hI : ∀ (k' j : Nat), k' ≠ k → S'.2.1 k' j = S.2.1 k' j) (hL : ∀ (k' j : Nat), k' ≠ k → S'.2.2 k' j = S.2.2 k' j)
    (ha : va_at Z.1 vwCl (zadr Z k, zcell Z S' k x') H') (hz : H'.size = H.size) (oq : ∀ q : Nat, q ≠ zadr Z k → H'[q]? = H[q]?) (hS : va_S (zA Z) s.heap H' locs') (hl : zL Z ls' M.2.2.1 lo') : zT Z s M S' H' locs' ls' lo' := by
  obtain ⟨⟨hP, hs, h0⟩, -, -⟩ := hT
  refine ⟨⟨zP_set hP h3 he h1 (fun k' y hk => zcell_congr (fun j => hI k' j hk) (fun j => hL k' j hk) y) ha oq, by rw [hz, h1, List.length_set]; exact hs, zI0_of h0 (by rw [h1, List.length_set]; exact Nat.le_refl _) (fun k' hk => by rw [h1, List.getElem?_set_ne (by omega)]) (fun k' j hk => hI k' j (by omega))⟩, hS, hl⟩
theorem zT_push {S S' : zS} {H' : Heap} {x' : zE} {lo lo' : List Value} {ls' : Array Slot} (hT : zT Z s M S H locs ls lo) (h1 : S'.1 = S.1 ++ [x']) (hI : ∀ (k' j : Nat), k' < S.1.length → S'.2.1 k' j = S.2.1 k' j) (hL : ∀ (k' j : Nat), k' < S.1.length → S'.2.2 k' j = S.2.2 k' j)
    (ha : va_at Z.1 vwCl (H.size, zcell Z S' S.1.length x') H') (hz : H'.size = H.size + 1) (oq : ∀ q : Nat, q < H.size → H'[q]? = H[q]?) (hl : zL Z ls' M.2.2.1 lo') : zT Z s M S' H' locs ls' lo' := by
  obtain ⟨⟨hP, hs, h0⟩, hS, -⟩ := hT
  have h3 : 3 ≤ S.1.length := h0.1
  have e : zadr Z S.1.length = H.size := by rw [zadr3 h3, hs]
  refine ⟨⟨zP_push hP h1 (fun k' y hk => zcell_congr (fun j => hI k' j hk) (fun j => hL k' j hk) y) (by rw [e]; exact ha) oq, by rw [hz, h1, List.length_append, hs]; simp only [List.length_cons, List.length_nil]; omega, zI0_of h0 (by rw [h1, List.length_append]; omega) (fun k' hk => by rw [h1, List.getElem?_append_left (by omega)]) (fun k' j hk => hI k' j (by omega))⟩, ⟨by rw [hz]; exact Nat.le_trans hS.1 (by omega), fun q h4 h5 => by rw [oq q (Nat.lt_of_lt_of_le h4 hS.1)]; exact hS.2.1 q h4 h5, hS.2.2⟩, hl⟩
theorem zA_adr {k : Nat} (h : 3 ≤ k) : zA Z (zadr Z k) := by
  unfold zA
  rw [zadr3 h]
  omega
end ZSOUND
