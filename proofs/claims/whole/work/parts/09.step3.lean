section ZMNEW
/-- a new array, by itself -/
theorem zw_new {E : CtlPost} {e : Env} {d : Bool} {acts : List Action} {u : State} {cA comp : ClassId} {k : Class} {ty : FieldType} {n : Nat} {v : Value} {Q : Addr → Pre}
    (hk : u.vm.classes[cA]? = some k) (hkind : k.kind = .array comp ty) (hlim : ¬ n > e.platform.arrayLengthLimit) (hby : ¬ n * componentBytes ty > e.platform.maxHeapBytes)
    (hce : u.heap.size < e.platform.maxCells) (hsl : u.slotsUsed + n ≤ e.platform.maxSlots) (hfit : fits ty v = true)
    (hq : ∀ acts', Q u.heap.size d acts' (u.pushCell (arrV cA n fun _ => v))) : wp (Jvm.newArray cA n v) Q E e d acts u := by
  have hms : ¬ n > e.platform.maxSlots := by omega
  simp only [Jvm.newArray, Jvm.arrayFits, wp_bind', W.ask, W.ite, hlim, if_false, wp_pure', W.theClass, W.alloc, W.stop]
  refine ⟨k, hk, ?_⟩
  rw [hkind]
  simp only [wp_bind', W.ask, W.ite, hby, hms, if_false, wp_pure', W.alloc, W.stop]
  refine ⟨hce, by rw [Array.size_replicate]; exact hsl, fun i w hw => ?_, ?_⟩
  · rw [Array.getElem?_replicate] at hw
    split at hw
    · cases hw
      simp [State.fitsSlot, State.slotType?, hk, hkind, hfit]
    · cases hw
  · rw [arrV_new]
    exact hq _
theorem zw_one {E : CtlPost} {e : Env} {d : Bool} {acts : List Action} {u : State} {cI comp : ClassId} {k : Class} {n : Int32} {Q : Addr → Pre}
    (hk : u.vm.classes[cI]? = some k) (hkind : k.kind = .array comp .int) (hn : ¬ n < 0) (hlim : ¬ n.toNatClampNeg > e.platform.arrayLengthLimit) (hby : ¬ n.toNatClampNeg * 4 > e.platform.maxHeapBytes)
    (hce : u.heap.size < e.platform.maxCells) (hsl : u.slotsUsed + n.toNatClampNeg ≤ e.platform.maxSlots)
    (hq : ∀ acts', Q u.heap.size d acts' (u.pushCell (arrV cI n.toNatClampNeg fun _ => .int 0))) : wp (Op.multianewarray.make cI [n]) Q E e d acts u := by
  simp only [Op.multianewarray.make, wp_bind', W.ite, hn, if_false, wp_pure', W.theClass]
  refine ⟨k, hk, ?_⟩
  rw [hkind]
  exact zw_new hk hkind hlim hby hce hsl rfl hq
theorem zpc_lt (v : State) (x : Cell) {q : Nat} (h : q < v.heap.size) : (v.pushCell x).heap[q]? = v.heap[q]? := by
  rw [State.heap_pushCell, Array.getElem?_push, if_neg (Nat.ne_of_lt h)]
theorem zsc_ne (v : State) (x : Cell) {a q : Nat} (h : a ≠ q) : (v.setCell a x).heap[q]? = v.heap[q]? := heapAt_setCell_ne x h
theorem zsc_self (v : State) (x : Cell) {a : Nat} (h : a < v.heap.size) : (v.setCell a x).heap[a]? = some x := heapAt_setCell_self x h
def zgrow (u : State) (cA cI : ClassId) (N K : Nat) : Nat → State
  | 0 => u.pushCell (arrV cA N fun _ => .null)
  | i + 1 => ((zgrow u cA cI N K i).pushCell (arrV cI K fun _ => .int 0)).setCell u.heap.size (arrV cA N fun j => if j < i + 1 then .ref (u.heap.size + 1 + j) else .null)
theorem zgrow_top (u : State) (f : JFrame) (cA cI : ClassId) (N K i : Nat) : zgrow (u.setTop f) cA cI N K i = (zgrow u cA cI N K i).setTop f := by
  induction i with
  | zero => rfl
  | succ i ih => unfold zgrow; rw [ih]; rfl
theorem zgrow_isSome (u : State) (cA cI : ClassId) (N K i : Nat) : (zgrow u cA cI N K i).topJava? = u.topJava? := by
  induction i with
  | zero => rfl
  | succ i ih => rw [← ih]; rfl
theorem zgrow_ok (u : State) (cA cI : ClassId) (N K i : Nat) : (zgrow u cA cI N K i).heap.size = u.heap.size + 1 + i ∧ (zgrow u cA cI N K i).heap[u.heap.size]? = some (arrV cA N fun j => if j < i then .ref (u.heap.size + 1 + j) else .null) ∧
    (∀ j : Nat, j < i → (zgrow u cA cI N K i).heap[u.heap.size + 1 + j]? = some (arrV cI K fun _ => .int 0)) ∧ (∀ q : Nat, q < u.heap.size → (zgrow u cA cI N K i).heap[q]? = u.heap[q]?) ∧ (zgrow u cA cI N K i).vm = u.vm ∧ (zgrow u cA cI N K i).slotsUsed = u.slotsUsed + N + i * K := by
  induction i with
  | zero =>
    unfold zgrow
    refine ⟨by rw [State.heap_pushCell, Array.size_push], ?_, fun j hj => absurd hj (Nat.not_lt_zero _), fun q hq => zpc_lt _ _ hq, rfl, ?_⟩
    · rw [State.heap_pushCell, Array.getElem?_push_size]
      simp
    · rw [State.slotsUsed_pushCell, arrV_size]
      omega
  | succ i ih =>
    obtain ⟨h1, h2, h3, h4, h5, h6⟩ := ih
    unfold zgrow
    generalize zgrow u cA cI N K i = v at h1 h2 h3 h4 h5 h6
    have hz : (v.pushCell (arrV cI K fun _ => .int 0)).heap.size = u.heap.size + 1 + (i + 1) := by
      rw [State.heap_pushCell, Array.size_push, h1]
      omega
    refine ⟨by rw [size_setCell, hz], zsc_self _ _ (by rw [hz]; omega), fun j hj => ?_, fun q hq => ?_, h5, ?_⟩
    · rw [zsc_ne _ _ (by omega)]
      by_cases g : j = i
      · subst g
        rw [State.heap_pushCell, ← h1, Array.getElem?_push_size]
      · rw [zpc_lt _ _ (by rw [h1]; omega)]
        exact h3 j (by omega)
    · rw [zsc_ne _ _ (by omega), zpc_lt _ _ (by rw [h1]; omega)]
      exact h4 q hq
    · rw [State.slotsUsed_setCell, State.slotsUsed_pushCell, arrV_size, h6, Nat.add_mul]
      omega
theorem zgrow_step (u : State) (cA cI : ClassId) (N K i : Nat) : zgrow u cA cI N K (i + 1) = ((zgrow u cA cI N K i).pushCell (arrV cI K fun _ => .int 0)).setCell u.heap.size ((arrV cA N fun j => if j < i then .ref (u.heap.size + 1 + j) else .null).setSlot i (.ref (u.heap.size + 1 + i))) := by
  rw [arrV_store]
  show State.setCell _ _ _ = State.setCell _ _ _
  congr 2
  funext j
  unfold updV
  by_cases g : j = i
  · subst g
    simp
  · rw [if_neg g]
    by_cases g2 : j < i
    · simp only [if_pos g2, if_pos (show j < i + 1 by omega)]
    · simp only [if_neg g2, if_neg (show ¬ j < i + 1 by omega)]
theorem zw_two {E : CtlPost} {e : Env} {d : Bool} {acts : List Action} {u : State} {cA cI cx : ClassId} {kA kI : Class} {n c : Int32} {Q : Addr → Pre}
    (hkA : u.vm.classes[cA]? = some kA) (hA : kA.kind = .array cI (.array .int)) (hkI : u.vm.classes[cI]? = some kI) (hI : kI.kind = .array cx .int) (hn : ¬ n < 0) (hc : ¬ c < 0)
    (hl1 : ¬ n.toNatClampNeg > e.platform.arrayLengthLimit) (hb1 : ¬ n.toNatClampNeg * 4 > e.platform.maxHeapBytes) (hl2 : ¬ c.toNatClampNeg > e.platform.arrayLengthLimit) (hb2 : ¬ c.toNatClampNeg * 4 > e.platform.maxHeapBytes)
    (hce : u.heap.size + (1 + n.toNatClampNeg) ≤ e.platform.maxCells) (hsl : u.slotsUsed + (n.toNatClampNeg + n.toNatClampNeg * c.toNatClampNeg) ≤ e.platform.maxSlots)
    (hq : ∀ d' acts', Q u.heap.size d' acts' (zgrow u cA cI n.toNatClampNeg c.toNatClampNeg n.toNatClampNeg)) : wp (Op.multianewarray.make cA [n, c]) Q E e d acts u := by
  have loop : ∀ (k i : Nat) (d : Bool) (acts : List Action) (Q' : PUnit → Pre), i + k = n.toNatClampNeg → (∀ d' acts', Q' PUnit.unit d' acts' (zgrow u cA cI n.toNatClampNeg c.toNatClampNeg n.toNatClampNeg)) →
      wp (forIn (List.range' i k) PUnit.unit fun i _ => do
        let a ← Op.multianewarray.make cI [c]
        Jvm.writeLoc u.heap.size i (.ref a)
        Pure.pure (ForInStep.yield PUnit.unit)) Q' E e d acts (zgrow u cA cI n.toNatClampNeg c.toNatClampNeg i) := by
    intro k
    induction k with
    | zero =>
      intro i d acts Q' hi hQ
      have : i = n.toNatClampNeg := by omega
      subst this
      simp only [List.range'_zero, List.forIn_nil, wp_pure']
      exact hQ _ _
    | succ k ih =>
      intro i d acts Q' hi hQ
      obtain ⟨h1, h2, h3, h4, h5, h6⟩ := zgrow_ok u cA cI n.toNatClampNeg c.toNatClampNeg i
      have hm : (i + 1) * c.toNatClampNeg ≤ n.toNatClampNeg * c.toNatClampNeg := Nat.mul_le_mul_right _ (by omega)
      rw [Nat.add_mul] at hm
      simp only [List.range'_succ, List.forIn_cons, wp_bind']
      refine zw_one (by rw [h5]; exact hkI) hI hc hl2 hb2 (by rw [h1]; omega) (by rw [h6]; omega) fun acts' => ?_
      rw [wp_bind']
      refine (W.writeLoc _ _ _ _).mpr ?_
      simp only [wp_pure']
      refine ⟨_, (zpc_lt _ _ (by rw [h1]; omega)).trans h2, (fun g => by cases g), (by rw [arrV_size]; omega), ?_, ?_⟩
      · have : (zgrow u cA cI n.toNatClampNeg c.toNatClampNeg i).vm.classes[cA]? = some kA := by rw [h5]; exact hkA
        simp [State.fitsSlot, State.slotType?, arrV, this, hA, fits]
      · rw [h1, ← zgrow_step]
        exact ih (i + 1) _ _ _ (by omega) hQ
  rw [Op.multianewarray.make]
  simp only [wp_bind', W.ite, hn, if_false, wp_pure', W.theClass]
  refine ⟨kA, hkA, ?_⟩
  rw [hA]
  simp only [wp_bind']
  refine zw_new hkA hA hl1 hb1 (by omega) (by omega) rfl fun acts' => ?_
  have hfd : List.find? (fun x : Int32 => decide (x < 0)) [c] = none := by simp [hc]
  have hl := fun (Q' : PUnit → Pre) hQ => loop n.toNatClampNeg 0 d acts' Q' (by omega) hQ
  simp only [hfd, ite_self, Std.Legacy.Range.forIn_eq_forIn_range', wp_bind', wp_pure', Std.Legacy.Range.size, Nat.sub_zero, Nat.add_sub_cancel, Nat.div_one]
  exact hl _ hq
theorem zw_sem {E : CtlPost} {e : Env} {d : Bool} {acts : List Action} {T : State} {f : JFrame} {index : Nat} {vm1 : Vm} {cA cI cx : ClassId} {kA kI : Class} {n c : Int32} {rest : List Value} {Q : Unit → Pre} (hs : T.topJava?.isSome)
    (hg : (Jvm.resolveClass f.method.cls index).Gives e.toSetting T.vm (.ok cA) vm1) (hsz : vm1.classes.size ≤ T.vm.classes.size)
    (hkA : vm1.classes[cA]? = some kA) (hA : kA.kind = .array cI (.array .int)) (hkI : vm1.classes[cI]? = some kI) (hI : kI.kind = .array cx .int) (hst : f.stack = .int c :: .int n :: rest) (hn : ¬ n < 0) (hc : ¬ c < 0)
    (hl1 : ¬ n.toNatClampNeg > e.platform.arrayLengthLimit) (hb1 : ¬ n.toNatClampNeg * 4 > e.platform.maxHeapBytes) (hl2 : ¬ c.toNatClampNeg > e.platform.arrayLengthLimit) (hb2 : ¬ c.toNatClampNeg * 4 > e.platform.maxHeapBytes)
    (hce : T.heap.size + (1 + n.toNatClampNeg) ≤ e.platform.maxCells) (hsl : T.slotsUsed + (n.toNatClampNeg + n.toNatClampNeg * c.toNatClampNeg) ≤ e.platform.maxSlots)
    (hq : ∀ acts', Q () true acts' ((zgrow (T.setVm vm1) cA cI n.toNatClampNeg c.toNatClampNeg n.toNatClampNeg).setTop { f with stack := .ref T.heap.size :: rest })) : wp (Op.multianewarray.sem index 2) Q E e d acts (T.setTop f) := by
  unfold Op.multianewarray.sem
  rw [wp_bind', W.resolveClassAt_links (t := T.setTop f) (State.method?_setTop f hs) hg hsz, wp_bind']
  refine (Op.popN_top (s := T.setVm vm1) (f := f) (args := [.int n, .int c]) (rest := rest) hs (by rw [hst]; rfl)).mpr ?_
  simp only [List.mapM_cons, List.mapM_nil, wp_bind', wp_pure']
  refine zw_two (u := (T.setVm vm1).setTop { f with stack := rest }) hkA hA hkI hI hn hc hl1 hb1 hl2 hb2 hce hsl fun d' acts' => ?_
  rw [wp_bind']
  refine (W.mark _).mpr ((W.pushRef _).mpr ⟨{ f with stack := rest }, ?_, ?_⟩)
  · rw [zgrow_top]
    exact State.topJava?_setTop' _ (by rw [zgrow_isSome]; exact hs)
  · rw [zgrow_top, State.setTop_setTop]
    exact hq _
theorem zgrow_stand {p : Program} {l : Launch} {e : Env} {R : Room} {s : State} {m : MethodId} {args : Array Value} {below : List Frame} {meth : Method} {c : Code} {T : State} {locs : List Loc} {cells slots : Nat} (X : Stand p l e R s m args below meth c T locs cells slots) (cA cI : ClassId) (N K i : Nat) :
    Stand p l e R s m args below meth c (zgrow T cA cI N K i) (locs ++ (List.range i).map fun j => (⟨T.heap.size, j⟩ : Loc)) (cells + 1 + i) (slots + N + i * K) := by
  induction i with
  | zero =>
    have Y := X.pushed (arrV cA N fun _ => .null)
    rw [arrV_size] at Y
    rw [show zgrow T cA cI N K 0 = T.pushCell (arrV cA N fun _ => .null) from rfl]
    simpa using Y
  | succ i ih =>
    obtain ⟨h1, h2, h3, h4, h5, h6⟩ := zgrow_ok T cA cI N K i
    have Y := (ih.pushed (arrV cI K fun _ => .int 0)).stored (a := T.heap.size) ((zpc_lt _ _ (by rw [h1]; omega)).trans h2) i (.ref (T.heap.size + 1 + i))
    rw [← zgrow_step, arrV_size, List.append_assoc] at Y
    rw [List.range_succ, List.map_append, Nat.add_mul, Nat.one_mul, ← Nat.add_assoc, ← Nat.add_assoc]
    exact Y
variable {p : Program} {l : Launch} {e : Env} {R : Room} {s : State} {m : MethodId} {args : Array Value} {below : List Frame} {meth : Method} {c : Code} {H : Heap} {locs : List Loc} {cells slots : Nat} {Q : State → Prop}
theorem zw_w {cc : ByteArray} (hexec : p.tables.exec = Jvm.exec) (hb : c.code = cc) {own : String} {index : Nat} (hown : s.vm.findClass own = some m.cls) (hclink : (Cond.classLink own index "[[I").before args s = true)
    {cA cI cx : ClassId} {kA kI : Class} (hfA : s.vm.findClass "[[I" = some cA) (hkA : s.vm.classes[cA]? = some kA) (hA : kA.kind = .array cI (.array .int)) (hkI : s.vm.classes[cI]? = some kI) (hI : kI.kind = .array cx .int)
    {g : JFrame} (hg : g.method = m) (hdg : decode cc g.pc = .ok (.multianewarray index 2, 4)) {n k : Int32} {rest : List Value} (hst : g.stack = .int k :: .int n :: rest) (hn : ¬ n < 0) (hk : ¬ k < 0) (hn2 : n.toNatClampNeg ≤ 1000) (hk2 : k.toNatClampNeg ≤ 1000)
    (hcells : cells + (1 + n.toNatClampNeg) ≤ R.cells) (hslots : slots + (n.toNatClampNeg + n.toNatClampNeg * k.toNatClampNeg) ≤ R.slots)
    (kk : ∀ H' : Heap, H'.size = H.size + 1 + n.toNatClampNeg → H'[H.size]? = some (arrV cA n.toNatClampNeg fun j => if j < n.toNatClampNeg then .ref (H.size + 1 + j) else .null) → (∀ j : Nat, j < n.toNatClampNeg → H'[H.size + 1 + j]? = some (arrV cI k.toNatClampNeg fun _ => .int 0)) → (∀ q : Nat, q < H.size → H'[q]? = H[q]?) →
      W p l e R s m args below meth c H' (locs ++ (List.range n.toNatClampNeg).map fun j => (⟨H.size, j⟩ : Loc)) (cells + 1 + n.toNatClampNeg) (slots + n.toNatClampNeg + n.toNatClampNeg * k.toNatClampNeg) Q { g with pc := g.pc + 4, stack := .ref H.size :: rest }) :
    W p l e R s m args below meth c H locs cells slots Q g := by
  intro T hT X
  subst hT; subst hb; subst hg
  have hpl : e.platform.magicAccessors = ({} : Platform).magicAccessors := by rw [X.admits.platform]
  obtain ⟨cc', hfcc, hcl⟩ := Cond.classLink_spec hown hclink e.platform hpl
  cases hfA.symm.trans hfcc
  obtain ⟨hg₁, hwarm₁, hready₁⟩ := State.classEntry (e := e) X.warmed hcl
  generalize T.vm.noted g.method.cls index (.cls cA) = vm₁ at hg₁ hwarm₁ hready₁
  have hal : s.vm.Alike vm₁ := hwarm₁.alike
  obtain ⟨kA₁, hkA₁, heA⟩ := hal.2.2 _ _ hkA
  obtain ⟨kI₁, hkI₁, heI⟩ := hal.2.2 _ _ hkI
  have hA₁ : kA₁.kind = .array cI (.array .int) := by rw [heA]; exact hA
  have hI₁ : kI₁.kind = .array cx .int := by rw [heI]; exact hI
  have hsz : vm₁.classes.size ≤ T.vm.classes.size := by no_record
  have hl : ∀ z : Nat, z ≤ 1000 → ¬ z > e.platform.arrayLengthLimit := fun z hz => by rw [Launch.admits_arrayLengthLimit X.admits]; omega
  have hh : ∀ z : Nat, z ≤ 1000 → ¬ z * 4 > e.platform.maxHeapBytes := fun z hz => by rw [Launch.admits_maxHeapBytes X.admits]; omega
  obtain ⟨hr1, hr2⟩ := X.roomAbove hcells hslots
  obtain ⟨z1, z2, z3, z4, -, -⟩ := zgrow_ok (T.setVm vm₁) cA cI n.toNatClampNeg k.toNatClampNeg n.toNatClampNeg
  obtain ⟨t', a1, b1⟩ := kk _ z1 z2 z3 z4 _ rfl (zgrow_stand (X.noted hwarm₁) cA cI n.toNatClampNeg k.toNatClampNeg n.toNatClampNeg)
  refine ⟨t', ?_, b1⟩
  jvm_step X.here [hexec, hdg]
  refine zw_sem X.here.top hg₁ hsz hkA₁ hA₁ hkI₁ hI₁ hst hn hk (hl _ hn2) (hh _ hn2) (hl _ hk2) (hh _ hk2) hr1 hr2 fun acts' acts => ?_
  have htop : (zgrow (T.setVm vm₁) cA cI n.toNatClampNeg k.toNatClampNeg n.toNatClampNeg).topJava?.isSome := by rw [zgrow_isSome]; exact X.here.top
  generalize zgrow (T.setVm vm₁) cA cI n.toNatClampNeg k.toNatClampNeg n.toNatClampNeg = u at a1 htop
  show Steps p.tables e below ((u.setTop { g with stack := .ref T.heap.size :: rest }).modifyTopJava fun f => { f with pc := f.pc + 4 }) t'
  rw [State.modifyTopJava_setTop]
  exact a1
end ZMNEW
section ZMNEW2
variable {p : Program} {l : Launch} {e : Env} {R : Room} {s : State} {m : MethodId} {args : Array Value} {below : List Frame} {meth : Method} {c : Code} {H : Heap} {locs : List Loc} {cells slots : Nat} {Q : State → Prop} {Z : zZ} {M : zM} {d : Nat} {ls : Array Slot}
variable {len pc pc' : Nat} {lo lo' st st' : List Value} {S S' : zS}
def zhp (H : Heap) (x y : Cell) : Nat → Heap
  | 0 => H.push x
  | i + 1 => (zhp H x y i).push y
theorem zhp_ok (H : Heap) (x y : Cell) (i : Nat) : (zhp H x y i).size = H.size + 1 + i ∧ (zhp H x y i)[H.size]? = some x ∧ (∀ j : Nat, j < i → (zhp H x y i)[H.size + 1 + j]? = some y) ∧ (∀ q : Nat, q < H.size → (zhp H x y i)[q]? = H[q]?) := by
  induction i with
  | zero =>
    unfold zhp
    exact ⟨Array.size_push _, Array.getElem?_push_size, fun j hj => absurd hj (Nat.not_lt_zero _), fun q hq => by rw [Array.getElem?_push, if_neg (Nat.ne_of_lt hq)]⟩
  | succ i ih =>
    obtain ⟨h1, h2, h3, h4⟩ := ih
    unfold zhp
    generalize zhp H x y i = v at h1 h2 h3 h4
    refine ⟨by rw [Array.size_push, h1]; rfl, ?_, fun j hj => ?_, fun q hq => ?_⟩
    · rw [Array.getElem?_push, if_neg (by rw [h1]; omega)]
      exact h2
    · by_cases g : j = i
      · subst g
        rw [← h1, Array.getElem?_push_size]
      · rw [Array.getElem?_push, if_neg (by rw [h1]; omega)]
        exact h3 j (by omega)
    · rw [Array.getElem?_push, if_neg (by rw [h1]; omega)]
      exact h4 q hq
theorem zhp_eq {H H' : Heap} {x y : Cell} {i : Nat} (h1 : H'.size = H.size + 1 + i) (h2 : H'[H.size]? = some x) (h3 : ∀ j : Nat, j < i → H'[H.size + 1 + j]? = some y) (h4 : ∀ q : Nat, q < H.size → H'[q]? = H[q]?) : H' = zhp H x y i := by
  obtain ⟨g1, g2, g3, g4⟩ := zhp_ok H x y i
  apply Array.ext_getElem?
  intro q
  rcases Nat.lt_trichotomy q H.size with h | h | h
  · rw [h4 q h, g4 q h]
  · subst h
    rw [h2, g2]
  · by_cases hq : q < H.size + 1 + i
    · have e := h3 (q - (H.size + 1)) (by omega)
      have e' := g3 (q - (H.size + 1)) (by omega)
      rw [show H.size + 1 + (q - (H.size + 1)) = q by omega] at e e'
      rw [e, e']
    · rw [Array.getElem?_eq_none (by rw [h1]; omega), Array.getElem?_eq_none (by rw [g1]; omega)]
def zrs (L n : Nat) : List (Option Nat) := (List.range n).map fun i => some (L + 1 + i)
def zSi (S : zS) (n k i : Nat) : zS := (S.1 ++ ([.inr (.inl (1, zrs S.1.length n))] ++ List.replicate i (.inl k)), zclrs S.2.1 (S.1.length + 1) i, S.2.2)
theorem zSi_len (S : zS) (n k i : Nat) : (zSi S n k i).1.length = S.1.length + 1 + i := by
  simp [zSi]
  omega
theorem zT_mnew (hT : zT Z s M S H locs ls lo) (n k i : Nat) : zT Z s M (zSi S n k i) (zhp H (arrV Z.2.1.2.2 n fun j => if j < n then .ref (H.size + 1 + j) else .null) (arrV Z.2.1.1 k fun _ => .int 0) i) locs ls lo := by
  induction i with
  | zero =>
    refine zT_push (x' := .inr (.inl (1, zrs S.1.length n))) hT (by simp [zSi]) (fun k' j g => ?_) (fun _ _ _ => rfl) ?_ (Array.size_push _) (fun q hq => by unfold zhp; rw [Array.getElem?_push, if_neg (Nat.ne_of_lt hq)]) hT.2.2
    · show zclrs S.2.1 _ 0 k' j = _
      unfold zclrs
      rw [if_neg (by omega)]
    · show (zhp H _ _ 0)[H.size]? = some (vp_cell Z.2.1.2.2 ((zrs S.1.length n).length, .inr (.inr (.inr (.inr (fun i => ((zrs S.1.length n).getD i none).map (zadr Z)))))))
      unfold zhp
      rw [Array.getElem?_push_size, vp_cell_q, show (zrs S.1.length n).length = n by simp [zrs]]
      congr 2
      funext j
      by_cases g : j < n
      · have h3 : 3 ≤ S.1.length := hT.1.2.2.1
        rw [if_pos g, List.getD_eq_getElem?_getD]
        simp only [zrs, List.getElem?_map, List.getElem?_range g, Option.map_some, Option.getD_some]
        show _ = Value.ref (zadr Z (S.1.length + 1 + j))
        rw [zadr3 (by omega), hT.1.2.1]
        exact congrArg Value.ref (show Z.2.2.1.1 + (S.1.length - 3) + 1 + j = Z.2.2.1.1 + (S.1.length + 1 + j - 3) by omega)
      · rw [if_neg g, List.getD_eq_getElem?_getD, List.getElem?_eq_none (by simp [zrs]; omega)]
        rfl
  | succ i ih =>
    have hl := zSi_len S n k i
    refine zT_push (x' := .inl k) ih ?_ (fun k' j g => ?_) (fun _ _ _ => rfl) ?_ (Array.size_push _) (fun q hq => ?_) ih.2.2
    · simp [zSi, List.replicate_succ']
    · rw [hl] at g
      show zclrs S.2.1 _ (i + 1) k' j = zclrs S.2.1 _ i k' j
      unfold zclrs
      by_cases g1 : S.1.length + 1 ≤ k' ∧ k' < S.1.length + 1 + i
      · rw [if_pos g1, if_pos (by omega)]
      · rw [if_neg g1, if_neg (by omega)]
    · show (Array.push _ _)[_]? = some (vp_cell Z.2.1.1 (k, .inl (zclrs S.2.1 (S.1.length + 1) (i + 1) (zSi S n k i).1.length)))
      rw [Array.getElem?_push_size, vp_cell_i, hl]
      congr 2
      funext j
      unfold zclrs
      rw [if_pos (by omega)]
    · show (Array.push _ _)[q]? = _
      rw [Array.getElem?_push, if_neg (Nat.ne_of_lt hq)]
theorem zn_mnew {idx : Nat} (hd : decode M.2.1 pc = .ok (.multianewarray idx 2, 4)) (h : zmnew M idx (pc + 4) lo S st = some (.inl (pc', lo', st', S'))) (hC : zC Z M p R s m args meth c d) (hT : zT Z s M S H locs ls lo) (hc : cells + (zc S' - zc S) ≤ R.cells) (hs : slots + (zs S' - zs S) ≤ R.slots)
    (kk : ∀ (H' : Heap) (locs' : List Loc) (ls' : Array Slot), zT Z s M S' H' locs' ls' lo' → W p l e R s m args below meth c H' locs' (cells + (zc S' - zc S)) (slots + (zs S' - zs S)) Q (F0 m pc' ls' (st'.map (zcv Z)))): W p l e R s m args below meth c H locs cells slots Q (F0 m pc ls (st.map (zcv Z))) := by
  obtain ⟨hx, hb, hml, hown, hts, hnm, hU, hRf, hRl, hcn, hcn2⟩ := hC
  unfold zmnew at h
  split at h
  · next k n st0 =>
    split at h
    · next pp hlk =>
      split at h
      · cases h
      · next hn =>
        obtain ⟨rfl, rfl, rfl, rfl⟩ := znx_inj h
        have hn1 : ¬ n < 0 := fun g => hn (Or.inl g)
        have hn2 : n.toNatClampNeg ≤ 1000 := Nat.le_of_not_lt fun g => hn (Or.inr (Or.inl g))
        have hk1 : ¬ k < 0 := fun g => hn (Or.inr (Or.inr (Or.inl g)))
        have hk2 : k.toNatClampNeg ≤ 1000 := Nat.le_of_not_lt fun g => hn (Or.inr (Or.inr (Or.inr g)))
        have hcl : Cond.classLink _ idx "[[I" ∈ zWs := znl_use hlk hcn
        obtain ⟨comp, cA, kA, f1, -, f3, f4, f5⟩ := zaoa_spec hU.2.2.2.2.2.2.2.2.1
        obtain ⟨hAr, hNm⟩ := hU.1.2 0 _ rfl
        have hcI : comp = Z.2.1.1 := Option.some.inj (f1.symm.trans hNm)
        subst hcI
        have hcA : cA = Z.2.1.2.2 := Option.some.inj (f5.symm.trans (hU.1.2 2 _ rfl).2)
        subst hcA
        obtain ⟨-, kI, hkI, cx, hI⟩ := hAr 0 (fun _ => .int 0)
        have hS : (S.1 ++ ([.inr (.inl (1, (List.range n.toNatClampNeg).map fun i => some (S.1.length + 1 + i)))] ++ List.replicate n.toNatClampNeg (.inl k.toNatClampNeg)), zclrs S.2.1 (S.1.length + 1) n.toNatClampNeg, S.2.2) = zSi S n.toNatClampNeg k.toNatClampNeg n.toNatClampNeg := rfl
        rw [hS] at hc hs kk
        have hzc : zc (zSi S n.toNatClampNeg k.toNatClampNeg n.toNatClampNeg) - zc S = 1 + n.toNatClampNeg := by
          unfold zc
          rw [zSi_len]
          omega
        have hzs : zs (zSi S n.toNatClampNeg k.toNatClampNeg n.toNatClampNeg) - zs S = n.toNatClampNeg + n.toNatClampNeg * k.toNatClampNeg := by
          simp [zs, zsz, zSi, zrs]
        rw [hzc] at hc kk
        rw [hzs] at hs kk
        refine zw_w (n := n) (k := k) hx hb hown (hts _ hcl) f5 f3 f4 hkI hI rfl hd rfl hn1 hk1 hn2 hk2 hc hs fun H' z1 z2 z3 z4 => ?_
        have e := zhp_eq z1 z2 z3 z4
        have hadr : zcv Z (.ref S.1.length) = .ref H.size := by
          show Value.ref (zadr Z S.1.length) = _
          rw [zadr3 hT.1.2.2.1, hT.1.2.1]
        obtain ⟨t1, t2, t3⟩ := zT_mnew hT n.toNatClampNeg k.toNatClampNeg n.toNatClampNeg
        rw [← e] at t1 t2
        have K := kk H' (locs ++ (List.range n.toNatClampNeg).map fun j => (⟨H.size, j⟩ : Loc)) ls ⟨t1, ⟨t2.1, t2.2.1, fun q hq => by
          rcases List.mem_append.mp hq with h | h
          · exact t2.2.2 q h
          · obtain ⟨z, -, hz⟩ := List.mem_map.mp h
            rw [← hz]
            show zA Z H.size
            unfold zA
            rw [hT.1.2.1]
            omega⟩, t3⟩
        rw [List.map_cons, hadr, ← Nat.add_assoc, ← Nat.add_assoc] at K
        exact K
    · cases h
  · cases h
end ZMNEW2
section ZSTEP3
variable {p : Program} {l : Launch} {e : Env} {R : Room} {s : State} {m : MethodId} {args : Array Value} {below : List Frame} {meth : Method} {c : Code} {H : Heap} {locs : List Loc} {cells slots : Nat} {Q : State → Prop} {Z : zZ} {M : zM} {d : Nat} {ls : Array Slot}
variable {len pc pc' : Nat} {lo lo' st st' : List Value} {S S' : zS}

theorem zcat_map (Z : zZ) (st : List Value) : ((st.map (zcv Z)).map fun v => v.category).sum = zcat st := by
  unfold zcat
  rw [List.map_map]
  congr 1
  apply List.map_congr_left
  intro v _
  exact zcv_cat Z v
theorem zcopy {cc : ByteArray} {pc : Nat} {rest : List Value} {A : Nat → Prop} {a a0 : Nat} {H0 : Heap} (hexec : p.tables.exec = Jvm.exec) (hb : c.code = cc) (hml : c.maxLocals = ls.size) {own : String} {index : Nat} (hown : s.vm.findClass own = some m.cls) (hlink : (Cond.methodLink own index arraycopyName).before args s = true) (hnat : (Cond.native arraycopyName).before args s = true) (hstat : (Cond.static arraycopyName).before args s = true) (hini : (Cond.initialized "java/lang/System").before args s = true)
    (hS : va_S A H0 H locs) (haA : A a) {c0 : ClassId} (harr : ArrOfT s c0 .int) {n0 n1 : Nat} {f g : Nat → Int32} (hc0 : H[a0]? = some (vp_cell c0 (n0, .inl f))) (hc1 : H[a]? = some (vp_cell c0 (n1, .inl g)))
    {sp dp n : Int32} (h1 : ¬ sp < 0) (h2 : ¬ dp < 0) (h3 : ¬ n < 0) (h4 : sp.toNatClampNeg + n.toNatClampNeg ≤ n0) (h5 : dp.toNatClampNeg + n.toNatClampNeg ≤ n1)
    (hframes : 1 ≤ R.frames) (hlocals : (rest.map fun v => v.category).sum + (nativeFrameWords "java/lang/System" "arraycopy" 5 + 11) ≤ R.locals) (hdg : decode cc pc = .ok (.invokestatic index, 3))
    (kk : ∀ (H1 : Heap) (locs1 : List Loc), H1[a]? = some (vp_cell c0 (n1, .inl (va_cpy f g sp.toNatClampNeg dp.toNatClampNeg n.toNatClampNeg))) → H1.size = H.size → (∀ q : Nat, q ≠ a → H1[q]? = H[q]?) → va_S A H0 H1 locs1 → W p l e R s m args below meth c H1 locs1 cells slots Q (F0 m (pc + 3) ls rest)) : W p l e R s m args below meth c H locs cells slots Q (F0 m pc ls (.int n :: .int dp :: .ref a :: .int sp :: .ref a0 :: rest)) := by
  have nn : ∀ z : Int32, ¬ z < 0 → z.toInt = (z.toNatClampNeg : Int) := by
    intro z hz
    have hz0 : (0 : Int) ≤ z.toInt := by
      have := Int32.not_lt.mp hz
      simpa using Int32.le_iff_toInt_le.mp this
    show z.toInt = ((z.toInt.toNat : Nat) : Int)
    omega
  intro T hT X
  obtain ⟨-, k0, hk0, cm0, hkk0⟩ := harr n0 (fun j => .int (f j))
  obtain ⟨-, k1, hk1, cm1, hkk1⟩ := harr n1 (fun j => .int (g j))
  obtain ⟨vm', X', step⟩ := X.arraycopy hexec hown hlink hnat hstat hini (src := a0) (dst := a) (cs := vp_cell c0 (n0, .inl f)) (cd := vp_cell c0 (n1, .inl g)) (srcPos := sp) (destPos := dp) (n := n) (by rw [hT]; exact hc0) (by rw [hT]; exact hc1)
    (fun _ h => by cases h) (fun _ h => by cases h) (fun h => by cases h) (fun h => by cases h) hk0 hk1 hkk0 hkk1 (by simp [refKind]) h1 h2 h3
    (by rw [nn sp h1, nn n h3]; show ¬ _ > ((arrV c0 n0 (fun j => .int (f j))).slots.size : Int); rw [arrV_size]; omega)
    (by rw [nn dp h2, nn n h3]; show ¬ _ > ((arrV c0 n1 (fun j => .int (g j))).slots.size : Int); rw [arrV_size]; omega)
    (fun vm₁ _ i hi => by
      have e : (vp_cell c0 (n0, .inl f)).slots.getD (sp.toNatClampNeg + i) .null = .int (f (sp.toNatClampNeg + i)) := by
        show (arrV c0 n0 (fun j => .int (f j))).slots.getD _ _ = _
        rw [Array.getD_eq_getD_getElem?, arrV_read _ _ (by omega)]
        rfl
      refine ⟨?_, ?_⟩
      · rw [e]
        rfl
      · rw [e]
        exact trivial)
    (g := F0 m pc ls (.int n :: .int dp :: .ref a :: .int sp :: .ref a0 :: rest)) rfl (by rw [hml]) (rest := rest) rfl (by rw [hb]; exact hdg) hframes (by show 2 * 0 + _ + _ ≤ _; omega)
  have e1 : copied (vp_cell c0 (n0, .inl f)) (vp_cell c0 (n1, .inl g)) sp dp n = vp_cell c0 (n1, .inl (va_cpy f g sp.toNatClampNeg dp.toNatClampNeg n.toNatClampNeg)) := va_copied (fun z => .int z) c0 c0 f g h4
  rw [e1] at X' step
  have hl : a < H.size := (Array.getElem?_eq_some_iff.mp hc1).1
  have hheap : ((T.setVm vm').setCell a (vp_cell c0 (n1, .inl (va_cpy f g sp.toNatClampNeg dp.toNatClampNeg n.toNatClampNeg)))).heap = H.setIfInBounds a (vp_cell c0 (n1, .inl (va_cpy f g sp.toNatClampNeg dp.toNatClampNeg n.toNatClampNeg))) := by rw [← hT]; rfl
  have oq : ∀ q : Nat, q ≠ a → (H.setIfInBounds a (vp_cell c0 (n1, .inl (va_cpy f g sp.toNatClampNeg dp.toNatClampNeg n.toNatClampNeg))))[q]? = H[q]? := fun q hq => by simp [Array.getElem?_setIfInBounds, Ne.symm hq]
  obtain ⟨t, a1, b1⟩ := kk _ _ (show (H.setIfInBounds a _)[a]? = some _ by simp [Array.getElem?_setIfInBounds, hl]) (by simp) oq ⟨by simp; exact hS.1, fun q g1 g2 => by
      rw [oq q (fun e => g2 (by rw [e]; exact haA))]
      exact hS.2.1 q g1 g2, fun q hq => by
      rcases List.mem_append.mp hq with h | h
      · exact hS.2.2 q h
      · obtain ⟨z, -, hz⟩ := List.mem_map.mp h
        rw [← hz]
        exact haA⟩ _ hheap X'
  exact ⟨t, step t a1, b1⟩
theorem zml_own {idx t mi p1 p2 p3 p4 : Nat} {own : String} (h : zML.lookup (zky M idx) = some (t, mi, p1, p2, p3, p4)) (ho : zCN[M.2.2.2.2.1]? = some own) : zmlP (zky M idx, t, mi, p1, p2, p3, p4) = true ∧ zCN[zky M idx / 1000]? = some own ∧ zky M idx % 1000 = idx := by
  have hf := zall zml_ok h
  refine ⟨hf, ?_⟩
  unfold zmlP at hf
  dsimp only at hf
  cases h1 : zCN[zky M idx / 1000]? with
  | none => rw [h1] at hf; cases hf
  | some own' =>
    obtain ⟨e1, e2⟩ := zkey ho h1
    exact ⟨by rw [e1], e2⟩
theorem zn_inv {ins : Instr} {idx kd : Nat} (hi : (kd = 0 ∧ ins = .invokevirtual idx) ∨ (kd = 1 ∧ ins = .invokestatic idx) ∨ (kd = 2 ∧ ins = .invokespecial idx)) (hd : decode M.2.1 pc = .ok (ins, 3)) (h : zinv M idx kd (pc + 3) lo S st = some (.inl (pc', lo', st', S'))) (hC : zC Z M p R s m args meth c d) (hT : zT Z s M S H locs ls lo) (hc : cells + (zc S' - zc S) ≤ R.cells) (hs : slots + (zs S' - zs S) ≤ R.slots)
    (kk : ∀ (H' : Heap) (locs' : List Loc) (ls' : Array Slot), zT Z s M S' H' locs' ls' lo' → W p l e R s m args below meth c H' locs' (cells + (zc S' - zc S)) (slots + (zs S' - zs S)) Q (F0 m pc' ls' (st'.map (zcv Z)))): W p l e R s m args below meth c H locs cells slots Q (F0 m pc ls (st.map (zcv Z))) := by
  obtain ⟨hx, hb, hml, hown, hts, hnm, hU, hRf, hRl, hcn, hcn2⟩ := hC
  have hsz : ls.size = M.2.2.1 := hT.2.2.2.1
  unfold zinv at h
  split at h
  · next t mi ps hlk =>
    obtain ⟨p1, p2, p3, p4⟩ := ps
    obtain ⟨hf, ho, hidx⟩ := zml_own hlk hcn
    unfold zmlP at hf
    dsimp only at hf
    rw [ho, hidx] at hf
    dsimp only at hf
    split at h
    · split at h
      · next k st0 =>
        split at h
        · next hcd =>
          obtain ⟨rfl, hcat⟩ := hcd
          obtain ⟨rfl, rfl, rfl, rfl⟩ := znx_inj h
          rcases hi with ⟨g, -⟩ | ⟨g, -⟩ | ⟨-, rfl⟩
          · cases g
          · cases g
          refine W.objInit hx hb hown (hts _ (zat_mem hf)) (hts _ zmem_arr.2.2.2.2.1) (hts _ zmem_arr.2.2.2.2.2.1) rfl (hsz.trans hml.symm) rfl hd (by omega) ?_ (zk0 hT kk hT.2.2)
          show 2 * 0 + ((st'.map (zcv Z)).map fun v => v.category).sum + 12 ≤ R.locals
          rw [zcat_map]
          omega
        · cases h
      · cases h
    · split at h
      · next n dp q sp k st0 =>
        split at h
        · next n0 n1 he0 he1 =>
          split at h
          · next hcd =>
            obtain ⟨rfl, g1, g2, g3, g4, g5, g6, g7, hcat⟩ := hcd
            obtain ⟨rfl, rfl, rfl, rfl⟩ := znx_inj h
            rcases hi with ⟨g, -⟩ | ⟨-, rfl⟩ | ⟨g, -⟩
            · cases g
            · refine zcopy hx hb (hml.trans hsz.symm) hown (hts _ (zat_mem hf)) (hts _ zmem_arr.2.1) (hts _ zmem_arr.2.2.1) (hts _ zmem_arr.2.2.2.1) hT.2.1 (zA_adr g7) (hU.1.2 0 _ rfl).1 (hT.1.1 k _ g6 he0) (hT.1.1 q _ g7 he1) g1 g2 g3 g4 g5 (by omega) ?_ hd (fun H1 locs1 e1 z1 oq hS1 => ?_)
              · rw [zcat_map]
                have : nativeFrameWords "java/lang/System" "arraycopy" 5 = 7 := by decide +kernel
                omega
              · refine zk1 (S := S) (S' := (S.1, zcpy S.2.1 k sp.toNatClampNeg q dp.toNatClampNeg n.toNatClampNeg, S.2.2)) ⟨rfl, rfl⟩ kk (zT_put hT g7 he1 (zset_self he1) (fun k' j' g => if_neg (fun g2 => g g2.1)) (fun _ _ _ => rfl) ?_ z1 oq hS1 hT.2.2)
                show H1[zadr Z q]? = some (vp_cell Z.2.1.1 (n1, .inl (zcpy S.2.1 k sp.toNatClampNeg q dp.toNatClampNeg n.toNatClampNeg q)))
                rw [e1]
                congr 4
                funext j
                simp [va_cpy, zcpy]
            · cases g
          · cases h
        · cases h
      · cases h
    · split at h
      · next y x st0 =>
        split at h
        · next hcd =>
          obtain ⟨rfl, hcat⟩ := hcd
          obtain ⟨rfl, rfl, rfl, rfl⟩ := znx_inj h
          rcases hi with ⟨g, -⟩ | ⟨-, rfl⟩ | ⟨g, -⟩
          · cases g
          · refine va_mmax hx hb (hml.trans hsz.symm) hown (hts _ (zat_mem hf)) (hts _ zmem_arr.2.2.2.2.2.2.1) (hts _ zmem_arr.2.2.2.2.2.2.2.2.1) (hts _ zmem_arr.2.2.2.2.2.2.2.2.2.1) (by omega) ?_ (by omega) (by omega) hd (zk0 hT kk hT.2.2)
            rw [zcat_map]
            omega
          · cases g
        · cases h
      · cases h
    · split at h
      · next y x st0 =>
        split at h
        · next hcd =>
          obtain ⟨rfl, hcat⟩ := hcd
          obtain ⟨rfl, rfl, rfl, rfl⟩ := znx_inj h
          rcases hi with ⟨g, -⟩ | ⟨-, rfl⟩ | ⟨g, -⟩
          · cases g
          · refine va_mmin hx hb (hml.trans hsz.symm) hown (hts _ (zat_mem hf)) (hts _ zmem_arr.2.2.2.2.2.2.2.1) (hts _ zmem_arr.2.2.2.2.2.2.2.2.1) (hts _ zmem_arr.2.2.2.2.2.2.2.2.2.2) (by omega) ?_ (by omega) (by omega) hd (zk0 hT kk hT.2.2)
            rw [zcat_map]
            omega
          · cases g
        · cases h
      · cases h
    · split at h
      · split at h
        · split at h
          · split at h
            · split at h <;> cases h
            · cases h
          · cases h
        · split at h <;> cases h
        · split at h <;> cases h
        · split at h
          · split at h <;> cases h
          · cases h
        · split at h
          · split at h <;> cases h
          · cases h
        · cases h
      · cases h
  · cases h
end ZSTEP3
