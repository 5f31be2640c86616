/-! what the tables of part 02 rest on: the Statement's words, by their places -/
theorem zlookup_mem {α : Type} : ∀ {l : List (Nat × α)} {k : Nat} {v : α}, l.lookup k = some v → (k, v) ∈ l
  | [], _, _, h => by cases h
  | (a, b) :: l, k, v, h => by
    unfold List.lookup at h
    split at h
    · next e =>
      cases h
      have := eq_of_beq e
      subst this
      exact List.mem_cons_self
    · exact List.mem_cons_of_mem _ (zlookup_mem h)
theorem zall {α : Type} {l : List (Nat × α)} {P : Nat × α → Bool} (h : l.all P = true) {k : Nat} {v : α} (hk : l.lookup k = some v) : P (k, v) = true := List.all_eq_true.mp h _ (zlookup_mem hk)
/-- the words that hold on at every later state -/
def zWs : List Jvm.Cond := lw_tbl.filter goodWord
def zat (p : Nat) (w : Jvm.Cond) : Bool := decide (lw_tbl[p]? = some w) && goodWord w
theorem zat_mem {p : Nat} {w : Jvm.Cond} (h : zat p w = true) : w ∈ zWs := by
  obtain ⟨h1, h2⟩ := Bool.and_eq_true_iff.mp h
  exact List.mem_filter.mpr ⟨List.mem_of_getElem? (of_decide_eq_true h1), h2⟩
theorem zWs_in {w : Jvm.Cond} (h : w ∈ lw_tbl) (hg : goodWord w = true) : w ∈ zWs := List.mem_filter.mpr ⟨h, hg⟩
theorem zWs_good : GoodIn zWs zWs := fun w h => ⟨h, good_of_word (List.mem_filter.mp h).2⟩
/-- the words that need a way of their own -/
def zNests : List Jvm.Cond := lw_tbl.filter fun w => match w with
  | .methodLinkNest .. => true
  | _ => false
def zmlP (x : Nat × Nat × Nat × Nat × Nat × Nat × Nat) : Bool := match x with
  | (key, t, mi, p1, p2, p3, p4) => (match zCN[key / 1000]? with
    | none => false
    | some own => (match t with
      | 3 => zat p1 (.methodLink own (key % 1000) Lib.objectInit)
      | 4 => zat p1 (.methodLink own (key % 1000) arraycopyName)
      | 7 => zat p1 (.methodLink own (key % 1000) Lib.Math.max.name)
      | 8 => zat p1 (.methodLink own (key % 1000) Lib.Math.min.name)
      | _ => (match zProg[mi]? with
        | none => false
        | some M => decide (mi < 212) && (zat p4 (.initialized M.1.cls) && (match t with
          | 0 => zat p1 (.methodLink own (key % 1000) M.1) && (zat p2 (.instanceMethod M.1) && zat p3 (.selects M.1.cls M.1 M.1))
          | 1 => zat p1 (.methodLink own (key % 1000) M.1) && zat p2 (.static M.1)
          | 5 => decide (lw_tbl[p1]? = some (.methodLinkNest own (key % 1000) M.1 "CubeHops")) && zat p2 (.static M.1)
          | 2 => zat p1 (.methodLink own (key % 1000) M.1) && (zat p2 (.instanceMethod M.1) && (decide (M.1.name = "<init>") && decide (M.2.2.2.1 = none)))
          | 6 => decide (lw_tbl[p1]? = some (.methodLinkNest own (key % 1000) M.1 "CubeHops")) && (zat p2 (.instanceMethod M.1) && (decide (M.1.name = "<init>") && decide (M.2.2.2.1 = none)))
          | _ => false)))))
set_option maxRecDepth 100000 in
theorem zml_ok : zML.all zmlP = true := by decide +kernel
def zprP (M : zM) : Bool := Jvm.plainName M.1.cls && (decide (M.1.cls ≠ "java/lang/invoke/MethodHandle" ∧ M.1.cls ≠ "java/lang/invoke/VarHandle" ∧ (parseMethodDescriptor M.1.desc).map (fun d => d.parameters.length) = some M.2.2.2.2.2.2) && (decide (M.2.2.1 ≤ 20) && decide (zCN[M.2.2.2.2.1]? = some M.1.cls ∧ M.2.2.2.2.1 < 10)))
set_option maxRecDepth 100000 in
theorem zpr_ok : (zProg.take 212).all zprP = true := by decide +kernel
theorem zpr_at {mi : Nat} {M : zM} (h : zProg[mi]? = some M) (hm : mi < 212) : zprP M = true := by
  refine List.all_eq_true.mp zpr_ok M (List.mem_of_getElem? (i := mi) ?_)
  rw [List.getElem?_take_of_lt hm]
  exact h
def zco (M : zM) : Jvm.Cond := .code M.1 M.2.1 M.2.2.1 M.2.2.2.1
theorem zco_of {l : List zM} {ps : List Nat} (h : l.map zco = ps.filterMap (fun i => lw_tbl[i]?)) : ∀ M ∈ l, zco M ∈ zWs := by
  intro M hM
  have h1 : zco M ∈ ps.filterMap (fun i => lw_tbl[i]?) := by rw [← h]; exact List.mem_map_of_mem hM
  obtain ⟨i, -, hi⟩ := List.mem_filterMap.mp h1
  exact zWs_in (List.mem_of_getElem? hi) rfl
set_option maxRecDepth 100000 in
theorem zco_0 : ∀ M ∈ zProg_0, zco M ∈ zWs := zco_of (ps := [65, 74, 92, 138, 155, 208, 211, 215, 219, 223, 227, 231, 235, 239, 244, 248, 253, 257, 261, 265, 269, 277, 281, 284]) rfl
set_option maxRecDepth 100000 in
theorem zco_1 : ∀ M ∈ zProg_1, zco M ∈ zWs := zco_of (ps := [288, 292, 295, 299, 302, 307, 311, 315, 319, 323, 327, 331, 334, 337, 340, 343, 347, 351, 355, 359, 362, 365, 369, 373]) rfl
set_option maxRecDepth 100000 in
theorem zco_2 : ∀ M ∈ zProg_2, zco M ∈ zWs := zco_of (ps := [377, 384, 389, 393, 396, 400, 403, 409, 415, 418, 424, 428, 432, 436, 440, 444, 447, 451, 454, 461, 465, 468, 472, 476]) rfl
set_option maxRecDepth 100000 in
theorem zco_3 : ∀ M ∈ zProg_3, zco M ∈ zWs := zco_of (ps := [480, 484, 488, 492, 497, 501, 505, 509, 513, 517, 522, 526, 529, 533, 537, 540, 546, 551, 555, 559, 564, 568, 573, 579]) rfl
set_option maxRecDepth 100000 in
theorem zco_4 : ∀ M ∈ zProg_4, zco M ∈ zWs := zco_of (ps := [583, 588, 592, 596, 600, 604, 608, 613, 616, 620, 629, 633, 638, 641, 646, 650, 657, 661, 665, 669, 673, 677, 681, 685]) rfl
set_option maxRecDepth 100000 in
theorem zco_5 : ∀ M ∈ zProg_5, zco M ∈ zWs := zco_of (ps := [689, 693, 697, 703, 709, 808, 811, 815, 819, 823, 827, 831, 835, 839, 842, 846, 850, 854, 858, 862, 866, 870, 874, 877]) rfl
set_option maxRecDepth 100000 in
theorem zco_6 : ∀ M ∈ zProg_6, zco M ∈ zWs := zco_of (ps := [881, 885, 889, 893, 897, 900, 903, 906, 909, 912, 915, 918, 921, 925, 928, 931, 935, 938, 942, 946, 949, 953, 957, 961]) rfl
set_option maxRecDepth 100000 in
theorem zco_7 : ∀ M ∈ zProg_7, zco M ∈ zWs := zco_of (ps := [965, 969, 973, 977, 981, 985, 989, 992, 996, 1000, 1004, 1008, 1012, 1016, 1020, 1024, 1028, 1032, 1036, 1040, 1044, 1048, 1052, 1056]) rfl
set_option maxRecDepth 100000 in
theorem zco_8 : ∀ M ∈ (zProg_8.take 20), zco M ∈ zWs := zco_of (ps := [1060, 1064, 1068, 1072, 1076, 1080, 1085, 1089, 1093, 1100, 1104, 1108, 1112, 1116, 1120, 1123, 1127, 1131, 1135, 1139]) rfl
set_option maxRecDepth 100000 in
theorem zco_ok {mi : Nat} {M : zM} (h : zProg[mi]? = some M) (hm : mi < 212) : zco M ∈ zWs := by
  have h1 : M ∈ zProg.take 212 := by
    refine List.mem_of_getElem? (i := mi) ?_
    rw [List.getElem?_take_of_lt hm]
    exact h
  have e : zProg.take 212 = (zProg_0 ++ (zProg_1 ++ (zProg_2 ++ (zProg_3 ++ (zProg_4 ++ (zProg_5 ++ (zProg_6 ++ (zProg_7 ++ (zProg_8.take 20))))))))) := rfl
  rw [e] at h1
  simp only [List.mem_append] at h1
  rcases h1 with h1 | h1 | h1 | h1 | h1 | h1 | h1 | h1 | h1
  · exact zco_0 M h1
  · exact zco_1 M h1
  · exact zco_2 M h1
  · exact zco_3 M h1
  · exact zco_4 M h1
  · exact zco_5 M h1
  · exact zco_6 M h1
  · exact zco_7 M h1
  · exact zco_8 M h1
def zflP (x : Nat × Nat × Nat × Nat × Nat × Nat) : Bool := match x with
  | (key, ci, j, t, fin, p) => (match zCN[key / 1000]?, vwCl[ci]? with
    | some own, some q => decide (j < q.2.2) && (zat p (.fieldLink own (key % 1000) q.1 (q.2.1 j).2.1 (q.2.1 j).2.2.1) && (decide ((q.2.1 j).1 = q.1) && (decide ((q.2.1 j).2.2.2 = decide (fin = 1)) && (decide (fin = 0 ∨ fin = 1) && (decide (ci < 5) && decide ((zFK.getD ci []).getD j 2 = t ∧ parseFieldDescriptor (q.2.1 j).2.2.1 = some (if t = 0 then .int else if t = 1 then .long else ((parseFieldDescriptor (q.2.1 j).2.2.1).getD .int)) ∧ (t = 0 ∨ t = 1 ∨ (t = 2 ∧ ((parseFieldDescriptor (q.2.1 j).2.2.1).getD .int).isReference = true))))))))
    | _, _ => false)
set_option maxRecDepth 100000 in
theorem zfl_ok : zFL.all zflP = true := by decide +kernel
def zdv (t : Nat) : Value := if t = 0 then .int 0 else if t = 1 then .long 0 else .null
def zClP (ci : Nat) (q : vw_C) : Prop := ∃ ty : Nat → FieldType, (∀ w ∈ u_ws q.1 q.2.1 q.2.2, w ∈ zWs) ∧ (∀ k, k < q.2.2 → parseFieldDescriptor (q.2.1 k).2.2.1 = some (ty k)) ∧ (∀ a, a < q.2.2 → ∀ b, b < q.2.2 → a ≠ b → (q.2.1 a).2.1 ≠ (q.2.1 b).2.1) ∧ (zFK.getD ci []).length = q.2.2 ∧ (∀ j, j < q.2.2 → defaultValue (ty j) = zdv ((zFK.getD ci []).getD j 2)) ∧ Cond.instantiable q.1 q.2.2 ∈ zWs ∧ Cond.initialized q.1 ∈ zWs ∧ zCN[ci]? = some q.1
set_option maxRecDepth 100000 in
theorem zcl_0 : zClP 0 (RX0, TX0, 10) := ⟨tyX0, by decide +kernel, tyX0_ok, nmX0, by decide +kernel, by decide +kernel, by decide +kernel, by decide +kernel, by decide +kernel⟩
set_option maxRecDepth 100000 in
theorem zcl_1 : zClP 1 (RX1, TX1, 3) := ⟨tyX1, by decide +kernel, tyX1_ok, nmX1, by decide +kernel, by decide +kernel, by decide +kernel, by decide +kernel, by decide +kernel⟩
set_option maxRecDepth 100000 in
theorem zcl_2 : zClP 2 (RX2, TX2, 2) := ⟨tyX2, by decide +kernel, tyX2_ok, nmX2, by decide +kernel, by decide +kernel, by decide +kernel, by decide +kernel, by decide +kernel⟩
set_option maxRecDepth 100000 in
theorem zcl_3 : zClP 3 (RX4, TX4, 15) := ⟨tyX4, by decide +kernel, tyX4_ok, nmX4, by decide +kernel, by decide +kernel, by decide +kernel, by decide +kernel, by decide +kernel⟩
set_option maxRecDepth 100000 in
theorem zcl_4 : zClP 4 (RX5, TX5, 31) := ⟨tyX5, by decide +kernel, tyX5_ok, nmX5, by decide +kernel, by decide +kernel, by decide +kernel, by decide +kernel, by decide +kernel⟩
theorem zcl_ok {ci : Nat} {q : vw_C} (h : vwCl[ci]? = some q) : zClP ci q := by
  match ci, h with
  | 0, h => cases h; exact zcl_0
  | 1, h => cases h; exact zcl_1
  | 2, h => cases h; exact zcl_2
  | 3, h => cases h; exact zcl_3
  | 4, h => cases h; exact zcl_4
  | k + 5, h => simp [vwCl] at h
def zslP (x : Nat × Nat × Nat) : Bool := match x with
  | (key, k, p) => (match zCN[key / 1000]? with
    | some own => (if k = 1 then zat p (.fieldLink own (key % 1000) "CubeHops" "KIND_LETTERS" "[I") else decide (k = 2) && zat p (.fieldLink own (key % 1000) "CubeHops$Web" "LOWER_ENDS" "[I"))
    | none => false)
set_option maxRecDepth 100000 in
theorem zsl_ok : zSL.all zslP = true := by decide +kernel
def znlP (x : Nat × Nat × Nat) : Bool := match x with
  | (key, ci, p) => (match zCN[key / 1000]? with
    | some own => (if ci = 9 then zat p (.classLink own (key % 1000) "[[I") else (match vwCl[ci]? with
      | some q => zat p (.classLink own (key % 1000) q.1)
      | none => false))
    | none => false)
set_option maxRecDepth 100000 in
theorem znl_ok : zNL.all znlP = true := by decide +kernel
def zkiP (x : Nat × Int32 × Nat) : Bool := match x with
  | (key, v, p) => (match zCN[key / 1000]? with
    | some own => zat p (.constant own (key % 1000) v)
    | none => false)
set_option maxRecDepth 100000 in
theorem zki_ok : zKI.all zkiP = true := by decide +kernel
def zklP (x : Nat × Int64 × Nat) : Bool := match x with
  | (key, v, p) => (match zCN[key / 1000]? with
    | some own => zat p (.constantLong own (key % 1000) v)
    | none => false)
set_option maxRecDepth 100000 in
theorem zkl_ok : zKL.all zklP = true := by decide +kernel
set_option maxRecDepth 100000 in
theorem zmem_arr : Cond.arrayClass .int ∈ zWs ∧ Cond.native arraycopyName ∈ zWs ∧ Cond.static arraycopyName ∈ zWs ∧ Cond.initialized "java/lang/System" ∈ zWs ∧ Cond.instanceMethod Lib.objectInit ∈ zWs ∧ Cond.code Lib.objectInit ⟨#[0xb1]⟩ 1 none ∈ zWs ∧
  Cond.static Lib.Math.max.name ∈ zWs ∧ Cond.static Lib.Math.min.name ∈ zWs ∧ Cond.initialized "java/lang/Math" ∈ zWs ∧ Cond.code Lib.Math.max.name Lib.Math.max.code 2 (some .int) ∈ zWs ∧ Cond.code Lib.Math.min.name Lib.Math.min.code 2 (some .int) ∈ zWs := by decide +kernel
set_option maxRecDepth 100000 in
theorem zmem_over : Cond.arrayOver (.object "CubeHops$Strip") ∈ lw_tbl ∧ Cond.arrayOver (.array .int) ∈ lw_tbl := by decide +kernel
