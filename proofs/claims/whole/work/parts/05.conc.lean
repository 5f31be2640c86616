/-! what a state of the machine in small says of the machine's own -/
abbrev zZ : Type := va_G × (ClassId × ClassId × ClassId) × (Nat × Nat × Nat × Nat) × Nat × (Nat → Int32)
def zadr (Z : zZ) (k : Nat) : Nat := if k = 0 then Z.2.2.1.2.1 else if k = 1 then Z.2.2.1.2.2.1 else if k = 2 then Z.2.2.1.2.2.2 else Z.2.2.1.1 + (k - 3)
def zcv (Z : zZ) : Value → Value
  | .ref k => .ref (zadr Z k)
  | v => v
theorem zcv_cat (Z : zZ) (v : Value) : (zcv Z v).category = v.category := by cases v <;> rfl
def zA (Z : zZ) : Nat → Prop := fun q => Z.2.2.1.1 ≤ q
def zfv (Z : zZ) (S : zS) (k ci : Nat) (rs : List (Option Nat)) (j : Nat) : Value := match (zFK.getD ci []).getD j 2 with
  | 0 => .int (S.2.1 k j)
  | 1 => .long (S.2.2 k j)
  | _ => va_rf ((rs.getD j none).map (zadr Z))
def zcell (Z : zZ) (S : zS) (k : Nat) (e : zE) : va_E := match e with
  | .inl n => .inl (Z.2.1.1, n, .inl (S.2.1 k))
  | .inr (.inl (t, rs)) => .inl (if t = 0 then Z.2.1.2.1 else Z.2.1.2.2, rs.length, .inr (.inr (.inr (.inr (fun i => (rs.getD i none).map (zadr Z))))))
  | .inr (.inr (ci, rs)) => .inr (ci, (List.range rs.length).map (zfv Z S k ci rs))
def zP (Z : zZ) (S : zS) (H : Heap) : Prop := ∀ (k : Nat) (e : zE), 3 ≤ k → S.1[k]? = some e → va_at Z.1 vwCl (zadr Z k, zcell Z S k e) H
theorem zadr3 {Z : zZ} {k : Nat} (h : 3 ≤ k) : zadr Z k = Z.2.2.1.1 + (k - 3) := by
  unfold zadr
  rw [if_neg (by omega), if_neg (by omega), if_neg (by omega)]
theorem zadr_ne {Z : zZ} {k k' : Nat} (h : 3 ≤ k) (h' : 3 ≤ k') (hn : k' ≠ k) : zadr Z k' ≠ zadr Z k := by
  rw [zadr3 h, zadr3 h']; omega
theorem zP_set {Z : zZ} {S S' : zS} {H H' : Heap} {k : Nat} {e e' : zE} (hP : zP Z S H) (h3 : 3 ≤ k) (he : S.1[k]? = some e) (h1 : S'.1 = S.1.set k e') (ho : ∀ (k' : Nat) (e : zE), k' ≠ k → zcell Z S' k' e = zcell Z S k' e)
    (ha : va_at Z.1 vwCl (zadr Z k, zcell Z S' k e') H') (oq : ∀ q : Nat, q ≠ zadr Z k → H'[q]? = H[q]?) : zP Z S' H' := by
  intro k' x h3' hx
  rw [h1] at hx
  by_cases hk : k' = k
  · subst hk
    have hl := (List.getElem?_eq_some_iff.mp he).1
    rw [List.getElem?_set_self hl] at hx
    cases hx
    exact ha
  · rw [List.getElem?_set_ne (fun q => hk q.symm)] at hx
    rw [ho k' x hk]
    exact (hP k' x h3' hx).kept (oq _ (zadr_ne h3 h3' hk))
theorem zP_push {Z : zZ} {S S' : zS} {H H' : Heap} {e' : zE} (hP : zP Z S H) (h1 : S'.1 = S.1 ++ [e']) (ho : ∀ (k' : Nat) (e : zE), k' < S.1.length → zcell Z S' k' e = zcell Z S k' e)
    (ha : va_at Z.1 vwCl (zadr Z S.1.length, zcell Z S' S.1.length e') H') (oq : ∀ q : Nat, q < H.size → H'[q]? = H[q]?) : zP Z S' H' := by
  intro k' x h3' hx
  rw [h1] at hx
  by_cases hk : k' < S.1.length
  · rw [List.getElem?_append_left hk] at hx
    rw [ho k' x hk]
    exact (hP k' x h3' hx).kept (oq _ (hP k' x h3' hx).lt)
  · have hl := (List.getElem?_eq_some_iff.mp hx).1
    simp only [List.length_append, List.length_cons, List.length_nil] at hl
    have e : k' = S.1.length := by omega
    subst e
    rw [List.getElem?_append_right (Nat.le_refl _), Nat.sub_self] at hx
    cases hx
    exact ha
/-- the constants of the tables -/
def zKL6 (j : Nat) : Int32 := ([108, 104, 122, 100, 112, 115] : List Int32).getD j 0
def zLE4 (j : Nat) : Int32 := ([21845, 13107, 3855, 255] : List Int32).getD j 0
/-- cells 0, 1, 2; the script may be hidden (an object of no class) -/
def zI0 (Z : zZ) (S : zS) : Prop := 3 ≤ S.1.length ∧ ((S.1[0]? = some (.inl Z.2.2.2.1) ∧ ∀ j, j < Z.2.2.2.1 → S.2.1 0 j = Z.2.2.2.2 j) ∨ S.1[0]? = some (.inr (.inr (99, [])))) ∧ S.1[1]? = some (.inl 6) ∧ S.1[2]? = some (.inl 4) ∧ (∀ j, j < 6 → S.2.1 1 j = zKL6 j) ∧ (∀ j, j < 4 → S.2.1 2 j = zLE4 j)
def zH (Z : zZ) (S : zS) (H : Heap) : Prop := zP Z S H ∧ H.size = Z.2.2.1.1 + (S.1.length - 3) ∧ zI0 Z S
def ztys (Z : zZ) : List (ClassId × FieldType) := [(Z.2.1.1, .int), (Z.2.1.2.1, .object "CubeHops$Strip"), (Z.2.1.2.2, .array .int)]
def zAOA (U : State) : Prop := (Cond.arrayOver (.array .int)).before #[] U = true
def zU (Z : zZ) (U : State) : Prop := va_K Z.1 vwCl (ztys Z) U ∧ va_T .int (zadr Z 0) Z.2.2.2.1 (fun j => .int (Z.2.2.2.2 j)) (zA Z) U U.heap ∧ va_T .int (zadr Z 1) 6 (fun j => .int (zKL6 j)) (zA Z) U U.heap ∧ va_T .int (zadr Z 2) 4 (fun j => .int (zLE4 j)) (zA Z) U U.heap ∧
  va_Z "CubeHops" "KIND_LETTERS" "[I" (.ref (zadr Z 1)) (zA Z) U U.heap ∧ va_Z "CubeHops$Web" "LOWER_ENDS" "[I" (.ref (zadr Z 2)) (zA Z) U U.heap ∧ Z.2.2.1.1 ≤ U.heap.size ∧ va_AO "CubeHops$Strip" U ∧ zAOA U ∧ (∀ w ∈ zNests, va_Nw w U) ∧ Z.2.2.2.1 ≤ 3072
theorem zaoa_spec {U : State} (h : zAOA U) : ∃ comp c k, U.vm.findClass (FieldType.array .int).toString = some comp ∧ (U.vm.classes.findIdx? fun (x : Class) => match x.kind with | .array component _ => component == comp | _ => false) = some c ∧ U.vm.classes[c]? = some k ∧ k.kind = .array comp (.array .int) ∧ U.vm.findClass ("[" ++ (FieldType.array .int).toString) = some c := by
  unfold zAOA Cond.before at h
  simp only [Cond.holds, Cond.value, beq_iff_eq] at h
  cases hc : U.vm.findClass (FieldType.array .int).toString with
  | none => simp [hc] at h
  | some comp =>
    simp only [hc, Option.bind_some, Option.bind_eq_some_iff, Option.map_eq_some_iff] at h
    obtain ⟨c, hi, k, hk, hb⟩ := h
    obtain ⟨hlt, hp, -⟩ := Array.findIdx?_eq_some_iff_getElem.mp hi
    have hkk : U.vm.classes[c] = k := (Array.getElem?_eq_some_iff.mp hk).2
    rw [hkk] at hp
    cases hkind : k.kind with
    | array component ty =>
      rw [hkind] at hb hp
      simp at hb hp
      exact ⟨comp, c, k, rfl, hi, hk, by rw [hkind, hp, hb.1], hb.2⟩
    | _ => rw [hkind] at hb; simp at hb
theorem zaoa_moved {u U : State} (hvm : u.vm.Alike U.vm) (h : zAOA u) : zAOA U := by
  obtain ⟨comp, c, k, h1, h2, h3, h4, h5⟩ := zaoa_spec h
  obtain ⟨k', hk', he⟩ := hvm.2.2 _ _ h3
  have hi : (U.vm.classes.findIdx? fun (x : Class) => match x.kind with | .array component _ => component == comp | _ => false) = some c := by
    refine (va_idx_bare U.vm comp).symm.trans ?_
    first | rw [hvm.bare_eq] | rw [← hvm.bare_eq]
    exact (va_idx_bare u.vm comp).trans h2
  have hkind : k'.kind = .array comp (.array .int) := by rw [he]; exact h4
  have f1 : U.vm.findClass (FieldType.array .int).toString = some comp := by rw [hvm.findClass]; exact h1
  have f2 : U.vm.findClass ("[" ++ (FieldType.array .int).toString) = some c := by rw [hvm.findClass]; exact h5
  unfold zAOA Cond.before Cond.holds
  simp only [Cond.value]
  rw [f1, Option.bind_some]
  refine (congrArg (fun o : Option Nat => (o.bind (fun c => (U.vm.classes[c]?).map fun (k : Class) => match k.kind with | .array _ ty => decide (ty = FieldType.array .int) && decide (U.vm.findClass ("[" ++ (FieldType.array .int).toString) = some c) | _ => false) == some true)) hi).trans ?_
  simp [hk', hkind, f2]
theorem zU_moved {Z : zZ} {s U : State} (h : zU Z s) (hW : s.WarmedH U.vm) {H : Heap} {locs : List Loc} (hS : va_S (zA Z) s.heap H locs) (hU : U.heap = H) : zU Z U := by
  obtain ⟨h1, h2, h3, h4, h5, h6, h7, h8, h9, h10, h11⟩ := h
  have kp : ∀ a : Nat, a < s.heap.size → ¬ zA Z a → U.heap[a]? = s.heap[a]? := fun a g1 g2 => by rw [hU]; exact hS.2.1 a g1 g2
  refine ⟨va_K.moved hW.alike h1, va_T.moved hW.alike (h2.kept kp), va_T.moved hW.alike (h3.kept kp), va_T.moved hW.alike (h4.kept kp), va_Z.moved hW.alike (h5.kept kp), va_Z.moved hW.alike (h6.kept kp), by rw [hU]; exact Nat.le_trans h7 hS.1, va_AO.moved hW.alike h8, zaoa_moved hW.alike h9, fun w hw => ?_, h11⟩
  have hz := h10 w hw
  have hm := (List.mem_filter.mp hw).2
  cases w <;> first | exact va_Nw.warmM hW hz | (simp at hm; done)
def zas (Z : zZ) (lo : List Value) : List (Nat × Value) := (List.range lo.length).filterMap (fun i => match (lo[i]? : Option Value) with
  | some Value.null => none
  | some v => some (i, zcv Z v)
  | none => none)
theorem zas_mem {Z : zZ} {lo : List Value} {q : Nat × Value} : q ∈ zas Z lo ↔ ∃ v, lo[q.1]? = some v ∧ v ≠ .null ∧ q.2 = zcv Z v := by
  unfold zas
  rw [List.mem_filterMap]
  constructor
  · rintro ⟨i, hi, h⟩
    split at h
    · cases h
    · next v hv hne =>
      cases h
      exact ⟨v, hne, fun e => hv e, rfl⟩
    · cases h
  · rintro ⟨v, h1, h2, h3⟩
    refine ⟨q.1, List.mem_range.mpr (List.getElem?_eq_some_iff.mp h1).1, ?_⟩
    rw [h1]
    obtain ⟨a, b⟩ := q
    cases v <;> first | exact absurd rfl h2 | (subst h3; rfl)
def zL (Z : zZ) (ls : Array Slot) (n : Nat) (lo : List Value) : Prop := lo.length = n ∧ lv_has ls n (zas Z lo)
theorem zL_at {Z : zZ} {ls : Array Slot} {n i : Nat} {lo : List Value} {v : Value} (h : zL Z ls n lo) (hv : lo[i]? = some v) (hn : v ≠ .null) : ls[i]? = some (.val (zcv Z v)) := h.2.2.2 (i, zcv Z v) (zas_mem.mpr ⟨v, hv, hn, rfl⟩)
theorem zcl_len (lo : List Value) (i : Nat) : (zcl lo i).length = lo.length := by
  cases i with
  | zero => rfl
  | succ j => simp only [zcl]; split <;> simp
theorem zcl_get {lo : List Value} {i j : Nat} {v : Value} (h : (zcl lo i)[j]? = some v) (hn : v ≠ .null) : lo[j]? = some v ∧ (j + 1 = i → ¬ v.category = 2) := by
  cases i with
  | zero => exact ⟨h, fun e => by omega⟩
  | succ k =>
    simp only [zcl] at h
    split at h
    · next hc =>
      by_cases hk : k = j
      · subst hk
        have hl := (List.getElem?_eq_some_iff.mp h).1
        rw [List.length_set] at hl
        rw [List.getElem?_set_self hl] at h
        cases h
        exact absurd rfl hn
      · rw [List.getElem?_set_ne hk] at h
        exact ⟨h, fun e => by omega⟩
    · next hc =>
      refine ⟨h, fun e => ?_⟩
      have : k = j := by omega
      subst this
      rw [List.getD_eq_getElem?_getD, h] at hc
      exact hc
theorem zL_st1 {Z : zZ} {ls ls' : Array Slot} {n i : Nat} {lo : List Value} {v : Value} (h : zL Z ls n lo) (h2 : lv_has ls' n ((i, zcv Z v) :: (zas Z lo).filter (fun q => !(q.1 == i) && !(q.1 + 1 == i && q.2.category == 2)))) : zL Z ls' n (zst1 lo i v) := by
  refine ⟨by unfold zst1; rw [List.length_set, zcl_len]; exact h.1, h2.1, h2.2.1, fun q hq => ?_⟩
  obtain ⟨w, h3, h4, h5⟩ := zas_mem.mp hq
  obtain ⟨a, b⟩ := q
  dsimp only at h3 h5
  subst h5
  unfold zst1 at h3
  by_cases e : i = a
  · subst e
    have hl := (List.getElem?_eq_some_iff.mp h3).1
    rw [List.length_set] at hl
    rw [List.getElem?_set_self hl] at h3
    cases h3
    exact h2.2.2 _ List.mem_cons_self
  · rw [List.getElem?_set_ne e] at h3
    obtain ⟨g1, g2⟩ := zcl_get h3 h4
    refine h2.2.2 _ (List.mem_cons_of_mem _ (List.mem_filter.mpr ⟨zas_mem.mpr ⟨w, g1, h4, rfl⟩, ?_⟩))
    have e' : ¬ a = i := fun q => e q.symm
    simp only [zcv_cat, Bool.and_eq_true, Bool.not_eq_true', beq_eq_false_iff_ne, ne_eq, Bool.and_eq_false_iff]
    refine ⟨e', ?_⟩
    by_cases e2 : a + 1 = i
    · exact Or.inr (g2 e2)
    · exact Or.inl e2
theorem zL_st2 {Z : zZ} {ls ls' : Array Slot} {n i : Nat} {lo : List Value} {v : Value} (h : zL Z ls n lo) (h2 : lv_has ls' n ((i, zcv Z v) :: (zas Z lo).filter (fun q => !(q.1 == i) && (!(q.1 == i + 1) && !(q.1 + 1 == i && q.2.category == 2))))) : zL Z ls' n (zst2 lo i v) := by
  refine ⟨by unfold zst2; rw [List.length_set, List.length_set, zcl_len]; exact h.1, h2.1, h2.2.1, fun q hq => ?_⟩
  obtain ⟨w, h3, h4, h5⟩ := zas_mem.mp hq
  obtain ⟨a, b⟩ := q
  dsimp only at h3 h5
  subst h5
  unfold zst2 at h3
  by_cases e1 : i + 1 = a
  · subst e1
    have hl := (List.getElem?_eq_some_iff.mp h3).1
    rw [List.length_set] at hl
    rw [List.getElem?_set_self hl] at h3
    cases h3
    exact absurd rfl h4
  rw [List.getElem?_set_ne e1] at h3
  by_cases e : i = a
  · subst e
    have hl := (List.getElem?_eq_some_iff.mp h3).1
    rw [List.length_set] at hl
    rw [List.getElem?_set_self hl] at h3
    cases h3
    exact h2.2.2 _ List.mem_cons_self
  · rw [List.getElem?_set_ne e] at h3
    obtain ⟨g1, g2⟩ := zcl_get h3 h4
    refine h2.2.2 _ (List.mem_cons_of_mem _ (List.mem_filter.mpr ⟨zas_mem.mpr ⟨w, g1, h4, rfl⟩, ?_⟩))
    have e' : ¬ a = i := fun q => e q.symm
    have e1' : ¬ a = i + 1 := fun q => e1 q.symm
    simp only [zcv_cat, Bool.and_eq_true, Bool.not_eq_true', beq_eq_false_iff_ne, ne_eq, Bool.and_eq_false_iff]
    refine ⟨e', e1', ?_⟩
    by_cases e2 : a + 1 = i
    · exact Or.inr (g2 e2)
    · exact Or.inl e2
theorem zplace_args (Z : zZ) : ∀ (as : List Value) (o i : Nat) (v : Value), (zplace as)[i]? = some v → v ≠ .null → (o + i, zcv Z v) ∈ lv_args o (as.map (zcv Z))
  | [], o, i, v, h, _ => by simp [zplace] at h
  | a :: as, o, i, v, h, hn => by
    unfold zplace at h
    rw [List.map_cons]
    unfold lv_args
    by_cases hc : a.category = 2
    · rw [if_pos hc] at h
      rw [zcv_cat, if_pos hc]
      match i, h with
      | 0, h => cases h; exact List.mem_cons_self
      | 1, h => cases h; exact absurd rfl hn
      | i + 2, h =>
        have := zplace_args Z as (o + 2) i v h hn
        rw [show o + (i + 2) = o + 2 + i by omega]
        exact List.mem_cons_of_mem _ this
    · rw [if_neg hc] at h
      rw [zcv_cat, if_neg hc]
      match i, h with
      | 0, h => cases h; exact List.mem_cons_self
      | i + 1, h =>
        have := zplace_args Z as (o + 1) i v h hn
        rw [show o + (i + 1) = o + 1 + i by omega]
        exact List.mem_cons_of_mem _ this
theorem zplace_len (Z : zZ) : ∀ as : List Value, (lg_sl (as.map (zcv Z))).length = (zplace as).length
  | [] => rfl
  | a :: as => by
    have ih := zplace_len Z as
    unfold lg_sl at ih ⊢
    rw [List.map_cons, List.flatMap_cons, List.length_append, ih, zcv_cat]
    rw [zplace]
    by_cases hc : a.category = 2
    · rw [if_pos hc, if_pos hc]; simp only [List.length_cons, List.length_nil]; omega
    · rw [if_neg hc, if_neg hc]; simp only [List.length_cons, List.length_nil]; omega
theorem zL_ent {Z : zZ} {n : Nat} {as : List Value} {ls : Array Slot} (h : lv_has ls n (lv_args 0 (as.map (zcv Z)))) (hl : (zplace as).length ≤ n) : zL Z ls n (zent n as) := by
  refine ⟨by unfold zent; simp; omega, h.1, h.2.1, fun q hq => ?_⟩
  obtain ⟨w, h3, h4, h5⟩ := zas_mem.mp hq
  obtain ⟨a, b⟩ := q
  dsimp only at h3 h5
  subst h5
  unfold zent at h3
  by_cases ha : a < (zplace as).length
  · rw [List.getElem?_append_left ha] at h3
    have := zplace_args Z as 0 a w h3 h4
    rw [Nat.zero_add] at this
    exact h.2.2 _ this
  · rw [List.getElem?_append_right (by omega), List.getElem?_replicate] at h3
    split at h3
    · cases h3; exact absurd rfl h4
    · cases h3
