/-! THE MACHINE IN SMALL: what the bytecode of this claim does, as a function. A cell is an array of ints (its length), an array of references (0: strips, 1: rows of ints), or an object (its class, its references); ints and longs stand in two functions (cell, place). Cells 0, 1, 2: the script, KIND_LETTERS, LOWER_ENDS: nobody writes them. -/
abbrev zE : Type := Nat ⊕ ((Nat × List (Option Nat)) ⊕ (Nat × List (Option Nat)))
abbrev zS : Type := List zE × ((Nat → Nat → Int32) × (Nat → Nat → Int64))
abbrev zR : Type := (Nat × List Value × List Value × zS) ⊕ ((Nat × List Value × Nat × List Value) ⊕ Option Value)
def zup {α : Type} (f : Nat → Nat → α) (k j : Nat) (v : α) : Nat → Nat → α := fun a b => if a = k ∧ b = j then v else f a b
def zclr {α : Type} (f : Nat → Nat → α) (k : Nat) (v : α) : Nat → Nat → α := fun a b => if a = k then v else f a b
def zcpy (f : Nat → Nat → Int32) (k sp q dp n : Nat) : Nat → Nat → Int32 := fun a b => if a = q ∧ dp ≤ b ∧ b < dp + n then f k (sp + (b - dp)) else f a b
def znx (pc : Nat) (lo st : List Value) (S : zS) : Option zR := some (.inl (pc, lo, st, S))
def zcl (lo : List Value) : Nat → List Value
  | 0 => lo
  | j + 1 => if (lo.getD j .null).category = 2 then lo.set j .null else lo
def zst1 (lo : List Value) (i : Nat) (v : Value) : List Value := (zcl lo i).set i v
def zst2 (lo : List Value) (i : Nat) (v : Value) : List Value := ((zcl lo i).set i v).set (i + 1) .null
def zplace : List Value → List Value
  | [] => []
  | v :: vs => if v.category = 2 then v :: .null :: zplace vs else v :: zplace vs
def zent (n : Nat) (as : List Value) : List Value := zplace as ++ List.replicate (n - (zplace as).length) .null
def zii (f : Int32 → Int32 → Int32) (pc : Nat) (lo : List Value) (S : zS) : List Value → Option zR
  | .int y :: .int x :: st => znx pc lo (.int (f x y) :: st) S
  | _ => none
def zll (f : Int64 → Int64 → Int64) (pc : Nat) (lo : List Value) (S : zS) : List Value → Option zR
  | .long y :: .long x :: st => znx pc lo (.long (f x y) :: st) S
  | _ => none
def ziiD (f : Int32 → Int32 → Int32) (pc : Nat) (lo : List Value) (S : zS) : List Value → Option zR
  | .int y :: .int x :: st => if y = 0 then none else znx pc lo (.int (f x y) :: st) S
  | _ => none
def zllD (f : Int64 → Int64 → Int64) (pc : Nat) (lo : List Value) (S : zS) : List Value → Option zR
  | .long y :: .long x :: st => if y = 0 then none else znx pc lo (.long (f x y) :: st) S
  | _ => none
def zli (f : Int64 → Int32 → Int64) (pc : Nat) (lo : List Value) (S : zS) : List Value → Option zR
  | .int y :: .long x :: st => znx pc lo (.long (f x y) :: st) S
  | _ => none
/-- a jump -/
def zjp (pc : Nat) (off : Int) (lo st : List Value) (S : zS) : Option zR := if (pc : Int) + off < 0 then none else znx ((pc : Int) + off).toNat lo st S
def zbr (c : Bool) (pc : Nat) (off : Int) (lo st : List Value) (S : zS) : Option zR := if (pc : Int) + off < 0 then none else if c then znx ((pc : Int) + off).toNat lo st S else znx (pc + 3) lo st S
def zcmp (c : Jvm.ClassFile.Cond) (x y : Int32) : Bool := match c with
  | .eq => decide (x = y)
  | .ne => !decide (x = y)
  | .lt => decide (x < y)
  | .ge => decide (y ≤ x)
  | .gt => decide (y < x)
  | .le => decide (x ≤ y)
def zld (i pc : Nat) (t : Nat) (lo st : List Value) (S : zS) : Option zR := match lo[i]?, t with
  | some (.int x), 0 => znx pc lo (.int x :: st) S
  | some (.long x), 1 => znx pc lo (.long x :: st) S
  | some (.ref x), 2 => znx pc lo (.ref x :: st) S
  | _, _ => none
def zso (i pc : Nat) (t : Nat) (lo : List Value) (S : zS) (st : List Value) : Option zR := if i + 1 < lo.length ∨ (i < lo.length ∧ ¬ t = 1) then (match st, t with
  | .int x :: st, 0 => znx pc (zst1 lo i (.int x)) st S
  | .ref x :: st, 2 => znx pc (zst1 lo i (.ref x)) st S
  | .long x :: st, 1 => znx pc (zst2 lo i (.long x)) st S
  | _, _ => none) else none
def zky (M : zM) (idx : Nat) : Nat := if idx < 1000 then 1000 * M.2.2.2.2.1 + idx else 999999
def zgetf (M : zM) (idx pc : Nat) (lo : List Value) (S : zS) (st : List Value) : Option zR := match zFL.lookup (zky M idx), st with
  | some (ci, j, t, _, _), .ref k :: st => (match S.1[k]? with
    | some (.inr (.inr (ci', rs))) => if ci' = ci ∧ j < rs.length then (match t with
        | 0 => znx pc lo (.int (S.2.1 k j) :: st) S
        | 1 => znx pc lo (.long (S.2.2 k j) :: st) S
        | _ => (match rs.getD j none with
          | some a => znx pc lo (.ref a :: st) S
          | none => none)) else none
    | _ => none)
  | _, _ => none
def zputf (M : zM) (idx pc : Nat) (lo : List Value) (S : zS) (st : List Value) : Option zR := match zFL.lookup (zky M idx), st with
  | some (ci, j, t, fin, _), v :: .ref k :: st => (match S.1[k]? with
    | some (.inr (.inr (ci', rs))) => if ci' = ci ∧ j < rs.length ∧ (fin = 0 ∨ (M.1.name = "<init>" ∧ zCN[M.2.2.2.2.1]? = zCN[ci]?)) then (match t, v with
        | 0, .int x => znx pc lo st (S.1, zup S.2.1 k j x, S.2.2)
        | 1, .long x => znx pc lo st (S.1, S.2.1, zup S.2.2 k j x)
        | 2, .ref a => znx pc lo st (S.1.set k (.inr (.inr (ci, rs.set j (some a)))), S.2)
        | _, _ => none) else none
    | _ => none)
  | _, _ => none
/-- within 0 .. n - 1 -/
def zin (i : Int32) (n : Nat) : Bool := !(decide (i < 0) || decide (n ≤ i.toNatClampNeg))
def zald (pc : Nat) (lo : List Value) (S : zS) : List Value → Option zR
  | .int i :: .ref k :: st => (match S.1[k]? with
    | some (.inl n) => if zin i n then znx pc lo (.int (S.2.1 k i.toNatClampNeg) :: st) S else none
    | _ => none)
  | _ => none
def zast (pc : Nat) (lo : List Value) (S : zS) : List Value → Option zR
  | .int x :: .int i :: .ref k :: st => (match S.1[k]? with
    | some (.inl n) => if zin i n ∧ 3 ≤ k then znx pc lo st (S.1, zup S.2.1 k i.toNatClampNeg x, S.2.2) else none
    | _ => none)
  | _ => none
def zaald (pc : Nat) (lo : List Value) (S : zS) : List Value → Option zR
  | .int i :: .ref k :: st => (match S.1[k]? with
    | some (.inr (.inl (_, rs))) => if zin i rs.length then (match rs.getD i.toNatClampNeg none with
        | some a => znx pc lo (.ref a :: st) S
        | none => none) else none
    | _ => none)
  | _ => none
def zaast (pc : Nat) (lo : List Value) (S : zS) : List Value → Option zR
  | .ref v :: .int i :: .ref k :: st => (match S.1[k]?, S.1[v]? with
    | some (.inr (.inl (0, rs))), some (.inr (.inr (2, _))) => if zin i rs.length then znx pc lo st (S.1.set k (.inr (.inl (0, rs.set i.toNatClampNeg (some v)))), S.2) else none
    | _, _ => none)
  | _ => none
def zalen (pc : Nat) (lo : List Value) (S : zS) : List Value → Option zR
  | .ref k :: st => (match S.1[k]? with
    | some (.inl n) => znx pc lo (.int (Int32.ofNat n) :: st) S
    | some (.inr (.inl (_, rs))) => znx pc lo (.int (Int32.ofNat rs.length) :: st) S
    | _ => none)
  | _ => none
def znew (M : zM) (idx pc : Nat) (lo st : List Value) (S : zS) : Option zR := match zNL.lookup (zky M idx) with
  | some (ci, _) => (match zFK[ci]? with
    | some fk => znx pc lo (.ref S.1.length :: st) (S.1 ++ [.inr (.inr (ci, List.replicate fk.length none))], zclr S.2.1 S.1.length 0, zclr S.2.2 S.1.length 0)
    | none => none)
  | none => none
def znewa (pc : Nat) (lo : List Value) (S : zS) : List Value → Option zR
  | .int n :: st => if n < 0 ∨ 100000 < n.toNatClampNeg then none else znx pc lo (.ref S.1.length :: st) (S.1 ++ [.inl n.toNatClampNeg], zclr S.2.1 S.1.length 0, S.2.2)
  | _ => none
def zanew (M : zM) (idx pc : Nat) (lo : List Value) (S : zS) : List Value → Option zR
  | .int n :: st => (match zNL.lookup (zky M idx) with
    | some (2, _) => if n < 0 ∨ 100000 < n.toNatClampNeg then none else znx pc lo (.ref S.1.length :: st) (S.1 ++ [.inr (.inl (0, List.replicate n.toNatClampNeg none))], S.2)
    | _ => none)
  | _ => none
def zclrs (f : Nat → Nat → Int32) (k n : Nat) : Nat → Nat → Int32 := fun a b => if k ≤ a ∧ a < k + n then 0 else f a b
def zmnew (M : zM) (idx pc : Nat) (lo : List Value) (S : zS) : List Value → Option zR
  | .int c :: .int n :: st => (match zNL.lookup (zky M idx) with
    | some (9, _) => if n < 0 ∨ 1000 < n.toNatClampNeg ∨ c < 0 ∨ 1000 < c.toNatClampNeg then none else
        znx pc lo (.ref S.1.length :: st) (S.1 ++ ([.inr (.inl (1, (List.range n.toNatClampNeg).map fun i => some (S.1.length + 1 + i)))] ++ List.replicate n.toNatClampNeg (.inl c.toNatClampNeg)), zclrs S.2.1 (S.1.length + 1) n.toNatClampNeg, S.2.2)
    | _ => none)
  | _ => none
def zcat (st : List Value) : Nat := (st.map fun v => v.category).sum
/-- a call: its arguments off the stack, the receiver's class looked at -/
def zinv (M : zM) (idx kd pc : Nat) (lo : List Value) (S : zS) (st : List Value) : Option zR := match zML.lookup (zky M idx) with
  | some (t, mi, _) => (match t with
    | 3 => (match st with
      | .ref _ :: st => if kd = 2 ∧ zcat st ≤ 8 then znx pc lo st S else none
      | _ => none)
    | 4 => (match st with
      | .int n :: .int dp :: .ref q :: .int sp :: .ref k :: st => (match S.1[k]?, S.1[q]? with
        | some (.inl n0), some (.inl n1) => if kd = 1 ∧ ¬ sp < 0 ∧ ¬ dp < 0 ∧ ¬ n < 0 ∧ sp.toNatClampNeg + n.toNatClampNeg ≤ n0 ∧ dp.toNatClampNeg + n.toNatClampNeg ≤ n1 ∧ 3 ≤ k ∧ 3 ≤ q ∧ zcat st ≤ 8
            then znx pc lo st (S.1, zcpy S.2.1 k sp.toNatClampNeg q dp.toNatClampNeg n.toNatClampNeg, S.2.2) else none
        | _, _ => none)
      | _ => none)
    | 7 => (match st with
      | .int y :: .int x :: st => if kd = 1 ∧ zcat st ≤ 8 then znx pc lo (.int (if x < y then y else x) :: st) S else none
      | _ => none)
    | 8 => (match st with
      | .int y :: .int x :: st => if kd = 1 ∧ zcat st ≤ 8 then znx pc lo (.int (if y < x then y else x) :: st) S else none
      | _ => none)
    | _ => (match zProg[mi]? with
      | some M' => (match t with
        | 0 => (match st.drop M'.2.2.2.2.2.2 with
          | .ref k :: rest => (match S.1[k]? with
            | some (.inr (.inr (ci, _))) => if kd = 0 ∧ zCN[ci]? = some M'.1.cls ∧ ci < 5 ∧ zcat rest ≤ 8 then some (.inr (.inl (mi, .ref k :: (st.take M'.2.2.2.2.2.2).reverse, pc, rest))) else none
            | _ => none)
          | _ => none)
        | 1 => if kd = 1 ∧ zcat (st.drop M'.2.2.2.2.2.2) ≤ 8 ∧ M'.2.2.2.2.2.2 ≤ st.length then some (.inr (.inl (mi, (st.take M'.2.2.2.2.2.2).reverse, pc, st.drop M'.2.2.2.2.2.2))) else none
        | 5 => if kd = 1 ∧ zcat (st.drop M'.2.2.2.2.2.2) ≤ 8 ∧ M'.2.2.2.2.2.2 ≤ st.length then some (.inr (.inl (mi, (st.take M'.2.2.2.2.2.2).reverse, pc, st.drop M'.2.2.2.2.2.2))) else none
        | 2 => (match st.drop M'.2.2.2.2.2.2 with
          | .ref k :: rest => if kd = 2 ∧ zcat rest ≤ 8 then some (.inr (.inl (mi, .ref k :: (st.take M'.2.2.2.2.2.2).reverse, pc, rest))) else none
          | _ => none)
        | 6 => (match st.drop M'.2.2.2.2.2.2 with
          | .ref k :: rest => if kd = 2 ∧ zcat rest ≤ 8 then some (.inr (.inl (mi, .ref k :: (st.take M'.2.2.2.2.2.2).reverse, pc, rest))) else none
          | _ => none)
        | _ => none)
      | none => none))
  | none => none
def zret (M : zM) (t : Nat) (st : List Value) : Option zR := match t, st, M.2.2.2.1 with
  | 0, [.int x], some .int => some (.inr (.inr (some (.int x))))
  | 0, [.int x], some .boolean => if x = 0 ∨ x = 1 then some (.inr (.inr (some (.int x)))) else none
  | 1, [.long x], some .long => some (.inr (.inr (some (.long x))))
  | 2, [], none => some (.inr (.inr none))
  | _, _, _ => none
def zexec (M : zM) (ins : Instr) (len pc : Nat) (lo st : List Value) (S : zS) : Option zR := match ins with
  | .iconst i => if len = 1 then znx (pc + 1) lo (.int (Int32.ofInt i) :: st) S else none
  | .bipush i => if len = 2 then znx (pc + 2) lo (.int (Int8.ofInt i).toInt32 :: st) S else none
  | .sipush i => if len = 3 then znx (pc + 3) lo (.int (Int16.ofInt i).toInt32 :: st) S else none
  | .lconst i => if len = 1 then znx (pc + 1) lo (.long (Int64.ofNat i.val) :: st) S else none
  | .ldc idx => if len = 2 then (match zKI.lookup (zky M idx) with
    | some (x, _) => znx (pc + 2) lo (.int x :: st) S
    | none => none) else none
  | .ldc_w idx => if len = 3 then (match zKI.lookup (zky M idx) with
    | some (x, _) => znx (pc + 3) lo (.int x :: st) S
    | none => none) else none
  | .ldc2_w idx => if len = 3 then (match zKL.lookup (zky M idx) with
    | some (x, _) => znx (pc + 3) lo (.long x :: st) S
    | none => none) else none
  | .iload_n i => if len = 1 then zld i.val (pc + 1) 0 lo st S else none
  | .lload_n i => if len = 1 then zld i.val (pc + 1) 1 lo st S else none
  | .aload_n i => if len = 1 then zld i.val (pc + 1) 2 lo st S else none
  | .iload i => if len = 2 then zld i (pc + 2) 0 lo st S else none
  | .lload i => if len = 2 then zld i (pc + 2) 1 lo st S else none
  | .aload i => if len = 2 then zld i (pc + 2) 2 lo st S else none
  | .istore_n i => if len = 1 then zso i.val (pc + 1) 0 lo S st else none
  | .lstore_n i => if len = 1 then zso i.val (pc + 1) 1 lo S st else none
  | .astore_n i => if len = 1 then zso i.val (pc + 1) 2 lo S st else none
  | .istore i => if len = 2 then zso i (pc + 2) 0 lo S st else none
  | .lstore i => if len = 2 then zso i (pc + 2) 1 lo S st else none
  | .astore i => if len = 2 then zso i (pc + 2) 2 lo S st else none
  | .iinc i n => if len = 3 then (match lo[i]? with
    | some (.int x) => znx (pc + 3) (zst1 lo i (.int (x + Int32.ofInt n))) st S
    | _ => none) else none
  | .iadd => if len = 1 then zii (fun x y => x + y) (pc + 1) lo S st else none
  | .isub => if len = 1 then zii (fun x y => x - y) (pc + 1) lo S st else none
  | .imul => if len = 1 then zii (fun x y => x * y) (pc + 1) lo S st else none
  | .iand => if len = 1 then zii (fun x y => x &&& y) (pc + 1) lo S st else none
  | .ior => if len = 1 then zii (fun x y => x ||| y) (pc + 1) lo S st else none
  | .ixor => if len = 1 then zii (fun x y => x ^^^ y) (pc + 1) lo S st else none
  | .ishl => if len = 1 then zii (fun x y => x <<< (y &&& 31)) (pc + 1) lo S st else none
  | .ishr => if len = 1 then zii (fun x y => x >>> (y &&& 31)) (pc + 1) lo S st else none
  | .iushr => if len = 1 then zii (fun x y => (x.toUInt32 >>> (y.toUInt32 &&& Int32.toUInt32 31)).toInt32) (pc + 1) lo S st else none
  | .idiv => if len = 1 then ziiD (fun x y => x / y) (pc + 1) lo S st else none
  | .irem => if len = 1 then ziiD (fun x y => x - x / y * y) (pc + 1) lo S st else none
  | .ladd => if len = 1 then zll (fun x y => x + y) (pc + 1) lo S st else none
  | .lsub => if len = 1 then zll (fun x y => x - y) (pc + 1) lo S st else none
  | .lmul => if len = 1 then zll (fun x y => x * y) (pc + 1) lo S st else none
  | .land => if len = 1 then zll (fun x y => x &&& y) (pc + 1) lo S st else none
  | .lor => if len = 1 then zll (fun x y => x ||| y) (pc + 1) lo S st else none
  | .lxor => if len = 1 then zll (fun x y => x ^^^ y) (pc + 1) lo S st else none
  | .ldiv => if len = 1 then zllD (fun x y => x / y) (pc + 1) lo S st else none
  | .lrem => if len = 1 then zllD (fun x y => x - x / y * y) (pc + 1) lo S st else none
  | .lushr => if len = 1 then zli (fun x y => (x.toUInt64 >>> (y.toInt64.toUInt64 &&& Int64.toUInt64 63)).toInt64) (pc + 1) lo S st else none
  | .lshl => if len = 1 then zli (fun x y => x <<< (y.toInt64 &&& 63)) (pc + 1) lo S st else none
  | .i2l => if len = 1 then (match st with
    | .int x :: st => znx (pc + 1) lo (.long x.toInt64 :: st) S
    | _ => none) else none
  | .l2i => if len = 1 then (match st with
    | .long x :: st => znx (pc + 1) lo (.int x.toInt32 :: st) S
    | _ => none) else none
  | .i2b => if len = 1 then (match st with
    | .int x :: st => znx (pc + 1) lo (.int x.toInt8.toInt32 :: st) S
    | _ => none) else none
  | .lcmp => if len = 1 then (match st with
    | .long y :: .long x :: st => znx (pc + 1) lo (.int (lg_cmp x y) :: st) S
    | _ => none) else none
  | .dup => if len = 1 then (match st with
    | v :: st => if v.category = 1 then znx (pc + 1) lo (v :: v :: st) S else none
    | _ => none) else none
  | .dup2 => if len = 1 then (match st with
    | v :: st => if v.category = 2 then znx (pc + 1) lo (v :: v :: st) S else (match st with
      | w :: st => if w.category = 1 then znx (pc + 1) lo (v :: w :: v :: w :: st) S else none
      | _ => none)
    | _ => none) else none
  | .pop => if len = 1 then (match st with
    | v :: st => if v.category = 1 then znx (pc + 1) lo st S else none
    | _ => none) else none
  | .goto off => if len = 3 then zjp pc off lo st S else none
  | .ifCond cnd off => if len = 3 then (match st with
    | .int x :: st => zbr (zcmp cnd x 0) pc off lo st S
    | _ => none) else none
  | .if_icmp cnd off => if len = 3 then (match st with
    | .int y :: .int x :: st => zbr (zcmp cnd x y) pc off lo st S
    | _ => none) else none
  | .tableswitch df lw hi offs => (match st with
    | .int x :: st => if x.toInt < lw ∨ hi < x.toInt then zjp pc df lo st S else (match offs[(x.toInt - lw).toNat]? with
      | some off => zjp pc off lo st S
      | none => none)
    | _ => none)
  | .lookupswitch df ps => (match st with
    | .int x :: st => if (ps.toList.zip (ps.toList.drop 1)).all (fun (a, next) => a.1 < next.1) = true then zjp pc (Op.lookupswitch.offset ps.toList df x.toInt) lo st S else none
    | _ => none)
  | .getfield idx => if len = 3 then zgetf M idx (pc + 3) lo S st else none
  | .putfield idx => if len = 3 then zputf M idx (pc + 3) lo S st else none
  | .getstatic idx => if len = 3 then (match zSL.lookup (zky M idx) with
    | some (k, _) => znx (pc + 3) lo (.ref k :: st) S
    | none => none) else none
  | .iaload => if len = 1 then zald (pc + 1) lo S st else none
  | .iastore => if len = 1 then zast (pc + 1) lo S st else none
  | .aaload => if len = 1 then zaald (pc + 1) lo S st else none
  | .aastore => if len = 1 then zaast (pc + 1) lo S st else none
  | .arraylength => if len = 1 then zalen (pc + 1) lo S st else none
  | .new idx => if len = 3 then znew M idx (pc + 3) lo st S else none
  | .newarray .int => if len = 2 then znewa (pc + 2) lo S st else none
  | .anewarray idx => if len = 3 then zanew M idx (pc + 3) lo S st else none
  | .multianewarray idx 2 => if len = 4 then zmnew M idx (pc + 4) lo S st else none
  | .invokevirtual idx => if len = 3 then zinv M idx 0 (pc + 3) lo S st else none
  | .invokestatic idx => if len = 3 then zinv M idx 1 (pc + 3) lo S st else none
  | .invokespecial idx => if len = 3 then zinv M idx 2 (pc + 3) lo S st else none
  | .ireturn => if len = 1 then zret M 0 st else none
  | .lreturn => if len = 1 then zret M 1 st else none
  | .return_ => if len = 1 then zret M 2 st else none
  | _ => none
def zstep (mi pc : Nat) (lo st : List Value) (S : zS) : Option zR := match zProg[mi]? with
  | some M => (match decode M.2.1 pc with
    | .ok (ins, len) => zexec M ins len pc lo st S
    | .error _ => none)
  | none => none
def zc (S : zS) : Nat := S.1.length
def zsz (e : zE) : Nat := match e with
  | .inl n => n
  | .inr (.inl (_, rs)) => rs.length
  | .inr (.inr (_, rs)) => rs.length
def zs (S : zS) : Nat := (S.1.map zsz).sum
/-- cells don't go away -/
def zle (S S' : zS) : Bool := decide (zc S ≤ zc S') && decide (zs S ≤ zs S')
def zmax (mi : Nat) : Nat := match zProg[mi]? with
  | some M => M.2.2.1
  | none => 0
def zrun : Nat → Nat → Nat → Nat → List Value → List Value → zS → Option (Option Value × zS)
  | 0, _, _, _, _, _, _ => none
  | f + 1, d, mi, pc, lo, st, S => match zstep mi pc lo st S with
    | none => none
    | some (.inl (pc', lo', st', S')) => if zle S S' then zrun f d mi pc' lo' st' S' else none
    | some (.inr (.inr v)) => some (v, S)
    | some (.inr (.inl (mi', as, pc', rest))) => (match d with
      | 0 => none
      | d' + 1 => if (zplace as).length ≤ zmax mi' then (match zrun f d' mi' 0 (zent (zmax mi') as) [] S with
        | none => none
        | some (v, S') => zrun f (d' + 1) mi pc' lo (v.toList ++ rest) S') else none)
/-- the machine, from a place of a method on, comes to the method's end, with Q -/
def zW (d mi pc : Nat) (lo st : List Value) (S : zS) (Q : Option Value → zS → Prop) : Prop := ∃ f v S', zrun f d mi pc lo st S = some (v, S') ∧ Q v S'
theorem zrun_up {f : Nat} : ∀ {d mi pc : Nat} {lo st : List Value} {S : zS} {r : Option Value × zS}, zrun f d mi pc lo st S = some r → zrun (f + 1) d mi pc lo st S = some r := by
  induction f with
  | zero => intro d mi pc lo st S r h; cases h
  | succ f ih =>
    intro d mi pc lo st S r h
    rw [zrun] at h ⊢
    split at h
    · cases h
    · split at h
      · next hz =>
        rw [if_pos hz]
        exact ih h
      · cases h
    · exact h
    · split at h
      · cases h
      · split at h
        · next hz =>
          split at h
          · cases h
          · next hc =>
            rw [if_pos hz, ih hc]
            exact ih h
        · cases h
theorem zrun_le {f g : Nat} (hfg : f ≤ g) {d mi pc : Nat} {lo st : List Value} {S : zS} {r : Option Value × zS} (h : zrun f d mi pc lo st S = some r) : zrun g d mi pc lo st S = some r := by
  induction hfg with
  | refl => exact h
  | step _ ih => exact zrun_up ih
theorem zrun_d {f : Nat} : ∀ {d mi pc : Nat} {lo st : List Value} {S : zS} {r : Option Value × zS}, zrun f d mi pc lo st S = some r → zrun f (d + 1) mi pc lo st S = some r := by
  induction f with
  | zero => intro d mi pc lo st S r h; cases h
  | succ f ih =>
    intro d mi pc lo st S r h
    rw [zrun] at h ⊢
    split at h
    · cases h
    · split at h
      · next hz =>
        rw [if_pos hz]
        exact ih h
      · cases h
    · exact h
    · split at h
      · cases h
      · split at h
        · next hz =>
          split at h
          · cases h
          · next hc =>
            rw [if_pos hz, ih hc]
            exact ih h
        · cases h
theorem zW_next {d mi pc pc' : Nat} {lo lo' st st' : List Value} {S S' : zS} {Q : Option Value → zS → Prop} (h : zstep mi pc lo st S = some (.inl (pc', lo', st', S'))) (hz : zle S S' = true) : zW d mi pc lo st S Q ↔ zW d mi pc' lo' st' S' Q := by
  constructor
  · rintro ⟨f, v, S2, hr, hq⟩
    cases f with
    | zero => cases hr
    | succ f =>
      rw [zrun, h] at hr
      dsimp only at hr
      rw [if_pos hz] at hr
      exact ⟨f, v, S2, hr, hq⟩
  · rintro ⟨f, v, S2, hr, hq⟩
    refine ⟨f + 1, v, S2, ?_, hq⟩
    rw [zrun, h]
    dsimp only
    rw [if_pos hz]
    exact hr
theorem zW_ret {d mi pc : Nat} {lo st : List Value} {S : zS} {v : Option Value} {Q : Option Value → zS → Prop} (h : zstep mi pc lo st S = some (.inr (.inr v))) : zW d mi pc lo st S Q ↔ Q v S := by
  constructor
  · rintro ⟨f, v', S2, hr, hq⟩
    cases f with
    | zero => cases hr
    | succ f =>
      rw [zrun, h] at hr
      cases hr
      exact hq
  · intro hq
    refine ⟨1, v, S, ?_, hq⟩
    rw [zrun, h]
theorem zW_call {d mi pc mi' pc' : Nat} {lo st as rest : List Value} {S : zS} {Q : Option Value → zS → Prop} (h : zstep mi pc lo st S = some (.inr (.inl (mi', as, pc', rest)))) (hz : (zplace as).length ≤ zmax mi') :
    zW (d + 1) mi pc lo st S Q ↔ zW d mi' 0 (zent (zmax mi') as) [] S (fun v S' => zW (d + 1) mi pc' lo (v.toList ++ rest) S' Q) := by
  constructor
  · rintro ⟨f, v', S2, hr, hq⟩
    cases f with
    | zero => cases hr
    | succ f =>
      rw [zrun, h] at hr
      dsimp only at hr
      rw [if_pos hz] at hr
      split at hr
      · cases hr
      · next hc => exact ⟨f, _, _, hc, f, v', S2, hr, hq⟩
  · rintro ⟨f, v, S1, hc, g, v', S2, hr, hq⟩
    refine ⟨max f g + 1, v', S2, ?_, hq⟩
    rw [zrun, h]
    dsimp only
    rw [if_pos hz, zrun_le (Nat.le_max_left f g) hc]
    exact zrun_le (Nat.le_max_right f g) hr
theorem zW_mono {d mi pc : Nat} {lo st : List Value} {S : zS} {Q Q' : Option Value → zS → Prop} (h : zW d mi pc lo st S Q) (hq : ∀ v S', Q v S' → Q' v S') : zW d mi pc lo st S Q' := by
  obtain ⟨f, v, S', hr, h2⟩ := h
  exact ⟨f, v, S', hr, hq v S' h2⟩
theorem zW_d {d mi pc : Nat} {lo st : List Value} {S : zS} {Q : Option Value → zS → Prop} (h : zW d mi pc lo st S Q) : zW (d + 1) mi pc lo st S Q := by
  obtain ⟨f, v, S', hr, h2⟩ := h
  exact ⟨f, v, S', zrun_d hr, h2⟩
theorem zle_same {S S' : zS} (h : S'.1 = S.1) : zle S S' = true := by
  unfold zle zc zs
  rw [h]
  simp
