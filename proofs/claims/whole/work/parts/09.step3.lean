section ZSTEP3
variable {p : Program} {l : Launch} {e : Env} {R : Room} {s : State} {m : MethodId} {args : Array Value} {below : List Frame} {meth : Method} {c : Code} {H : Heap} {locs : List Loc} {cells slots : Nat} {Q : State → Prop} {Z : zZ} {M : zM} {d : Nat} {ls : Array Slot}
variable {len pc pc' : Nat} {lo lo' st st' : List Value} {S S' : zS}

theorem zcat_map (Z : zZ) (st : List Value) : ((st.map (zcv Z)).map fun v => v.category).sum = zcat st := by
  unfold zcat
  rw [List.map_map]
  congr 1
  apply List.map_congr_left
  intro v _
  exact zcv_cat Z v
theorem zcopy {cc : ByteArray} {pc : Nat} {rest : List Value} {A : Nat → Prop} {a a0 : Nat} {H0 : Heap} (hexec : p.tables.exec = Jvm.exec) (hb : c.code = cc) (hml : c.maxLocals = ls.size) {own : String} {index : Nat} (hown : s.vm.findClass own = some m.cls) (hlink : (Cond.methodLink own index arraycopyName).before args s = true) (hnat : (Cond.native arraycopyName).before args s = true) (hstat : (Cond.static arraycopyName).before args s = true) (hini : (Cond.initialized "java/lang/System").before args s = true)
    (hS : va_S A H0 H locs) (haA : A a) {c0 : ClassId} (harr : ArrOfT s c0 .int) {n0 n1 : Nat} {f g : Nat → Int32} (hc0 : H[a0]? = some (vp_cell c0 (n0, .inl f))) (hc1 : H[a]? = some (vp_cell c0 (n1, .inl g)))
    {sp dp n : Int32} (h1 : ¬ sp < 0) (h2 : ¬ dp < 0) (h3 : ¬ n < 0) (h4 : sp.toNatClampNeg + n.toNatClampNeg ≤ n0) (h5 : dp.toNatClampNeg + n.toNatClampNeg ≤ n1)
    (hframes : 1 ≤ R.frames) (hlocals : (rest.map fun v => v.category).sum + (nativeFrameWords "java/lang/System" "arraycopy" 5 + 11) ≤ R.locals) (hdg : decode cc pc = .ok (.invokestatic index, 3))
    (kk : ∀ (H1 : Heap) (locs1 : List Loc), H1[a]? = some (vp_cell c0 (n1, .inl (va_cpy f g sp.toNatClampNeg dp.toNatClampNeg n.toNatClampNeg))) → H1.size = H.size → (∀ q : Nat, q ≠ a → H1[q]? = H[q]?) → va_S A H0 H1 locs1 → W p l e R s m args below meth c H1 locs1 cells slots Q (F0 m (pc + 3) ls rest)) : W p l e R s m args below meth c H locs cells slots Q (F0 m pc ls (.int n :: .int dp :: .ref a :: .int sp :: .ref a0 :: rest)) := by
  have nn : ∀ z : Int32, ¬ z < 0 → z.toInt = (z.toNatClampNeg : Int) := by
    intro z hz
    have hz0 : (0 : Int) ≤ z.toInt := by
      have := Int32.not_lt.mp hz
      simpa using Int32.le_iff_toInt_le.mp this
    show z.toInt = ((z.toInt.toNat : Nat) : Int)
    omega
  intro T hT X
  obtain ⟨-, k0, hk0, cm0, hkk0⟩ := harr n0 (fun j => .int (f j))
  obtain ⟨-, k1, hk1, cm1, hkk1⟩ := harr n1 (fun j => .int (g j))
  obtain ⟨vm', X', step⟩ := X.arraycopy hexec hown hlink hnat hstat hini (src := a0) (dst := a) (cs := vp_cell c0 (n0, .inl f)) (cd := vp_cell c0 (n1, .inl g)) (srcPos := sp) (destPos := dp) (n := n) (by rw [hT]; exact hc0) (by rw [hT]; exact hc1)
    (fun _ h => by cases h) (fun _ h => by cases h) (fun h => by cases h) (fun h => by cases h) hk0 hk1 hkk0 hkk1 (by simp [refKind]) h1 h2 h3
    (by rw [nn sp h1, nn n h3]; show ¬ _ > ((arrV c0 n0 (fun j => .int (f j))).slots.size : Int); rw [arrV_size]; omega)
    (by rw [nn dp h2, nn n h3]; show ¬ _ > ((arrV c0 n1 (fun j => .int (g j))).slots.size : Int); rw [arrV_size]; omega)
    (fun vm₁ _ i hi => by
      have e : (vp_cell c0 (n0, .inl f)).slots.getD (sp.toNatClampNeg + i) .null = .int (f (sp.toNatClampNeg + i)) := by
        show (arrV c0 n0 (fun j => .int (f j))).slots.getD _ _ = _
        rw [Array.getD_eq_getD_getElem?, arrV_read _ _ (by omega)]
        rfl
      refine ⟨?_, ?_⟩
      · rw [e]
        rfl
      · rw [e]
        exact trivial)
    (g := F0 m pc ls (.int n :: .int dp :: .ref a :: .int sp :: .ref a0 :: rest)) rfl (by rw [hml]) (rest := rest) rfl (by rw [hb]; exact hdg) hframes (by show 2 * 0 + _ + _ ≤ _; omega)
  have e1 : copied (vp_cell c0 (n0, .inl f)) (vp_cell c0 (n1, .inl g)) sp dp n = vp_cell c0 (n1, .inl (va_cpy f g sp.toNatClampNeg dp.toNatClampNeg n.toNatClampNeg)) := va_copied (fun z => .int z) c0 c0 f g h4
  rw [e1] at X' step
  have hl : a < H.size := (Array.getElem?_eq_some_iff.mp hc1).1
  have hheap : ((T.setVm vm').setCell a (vp_cell c0 (n1, .inl (va_cpy f g sp.toNatClampNeg dp.toNatClampNeg n.toNatClampNeg)))).heap = H.setIfInBounds a (vp_cell c0 (n1, .inl (va_cpy f g sp.toNatClampNeg dp.toNatClampNeg n.toNatClampNeg))) := by rw [← hT]; rfl
  have oq : ∀ q : Nat, q ≠ a → (H.setIfInBounds a (vp_cell c0 (n1, .inl (va_cpy f g sp.toNatClampNeg dp.toNatClampNeg n.toNatClampNeg))))[q]? = H[q]? := fun q hq => by simp [Array.getElem?_setIfInBounds, Ne.symm hq]
  obtain ⟨t, a1, b1⟩ := kk _ _ (show (H.setIfInBounds a _)[a]? = some _ by simp [Array.getElem?_setIfInBounds, hl]) (by simp) oq ⟨by simp; exact hS.1, fun q g1 g2 => by
      rw [oq q (fun e => g2 (by rw [e]; exact haA))]
      exact hS.2.1 q g1 g2, fun q hq => by
      rcases List.mem_append.mp hq with h | h
      · exact hS.2.2 q h
      · obtain ⟨z, -, hz⟩ := List.mem_map.mp h
        rw [← hz]
        exact haA⟩ _ hheap X'
  exact ⟨t, step t a1, b1⟩
theorem zn_mnew {idx : Nat} (hd : decode M.2.1 pc = .ok (.multianewarray idx 2, 4)) (h : zmnew M idx (pc + 4) lo S st = some (.inl (pc', lo', st', S'))) (hC : zC Z M p R s m args meth c d) (hT : zT Z s M S H locs ls lo) (hc : cells + (zc S' - zc S) ≤ R.cells) (hs : slots + (zs S' - zs S) ≤ R.slots)
    (kk : ∀ (H' : Heap) (locs' : List Loc) (ls' : Array Slot), zT Z s M S' H' locs' ls' lo' → W p l e R s m args below meth c H' locs' (cells + (zc S' - zc S)) (slots + (zs S' - zs S)) Q (F0 m pc' ls' (st'.map (zcv Z)))): W p l e R s m args below meth c H locs cells slots Q (F0 m pc ls (st.map (zcv Z))) := by
  sorry
theorem zml_own {idx t mi p1 p2 p3 p4 : Nat} {own : String} (h : zML.lookup (zky M idx) = some (t, mi, p1, p2, p3, p4)) (ho : zCN[M.2.2.2.2.1]? = some own) : zmlP (zky M idx, t, mi, p1, p2, p3, p4) = true ∧ zCN[zky M idx / 1000]? = some own ∧ zky M idx % 1000 = idx := by
  have hf := zall zml_ok h
  refine ⟨hf, ?_⟩
  unfold zmlP at hf
  dsimp only at hf
  cases h1 : zCN[zky M idx / 1000]? with
  | none => rw [h1] at hf; cases hf
  | some own' =>
    obtain ⟨e1, e2⟩ := zkey ho h1
    exact ⟨by rw [e1], e2⟩
theorem zn_inv {ins : Instr} {idx kd : Nat} (hi : (kd = 0 ∧ ins = .invokevirtual idx) ∨ (kd = 1 ∧ ins = .invokestatic idx) ∨ (kd = 2 ∧ ins = .invokespecial idx)) (hd : decode M.2.1 pc = .ok (ins, 3)) (h : zinv M idx kd (pc + 3) lo S st = some (.inl (pc', lo', st', S'))) (hC : zC Z M p R s m args meth c d) (hT : zT Z s M S H locs ls lo) (hc : cells + (zc S' - zc S) ≤ R.cells) (hs : slots + (zs S' - zs S) ≤ R.slots)
    (kk : ∀ (H' : Heap) (locs' : List Loc) (ls' : Array Slot), zT Z s M S' H' locs' ls' lo' → W p l e R s m args below meth c H' locs' (cells + (zc S' - zc S)) (slots + (zs S' - zs S)) Q (F0 m pc' ls' (st'.map (zcv Z)))): W p l e R s m args below meth c H locs cells slots Q (F0 m pc ls (st.map (zcv Z))) := by
  obtain ⟨hx, hb, hml, hown, hts, hnm, hU, hRf, hRl, hcn, hcn2⟩ := hC
  have hsz : ls.size = M.2.2.1 := hT.2.2.2.1
  unfold zinv at h
  split at h
  · next t mi ps hlk =>
    obtain ⟨p1, p2, p3, p4⟩ := ps
    obtain ⟨hf, ho, hidx⟩ := zml_own hlk hcn
    unfold zmlP at hf
    dsimp only at hf
    rw [ho, hidx] at hf
    dsimp only at hf
    split at h
    · split at h
      · next k st0 =>
        split at h
        · next hcd =>
          obtain ⟨rfl, hcat⟩ := hcd
          obtain ⟨rfl, rfl, rfl, rfl⟩ := znx_inj h
          rcases hi with ⟨g, -⟩ | ⟨g, -⟩ | ⟨-, rfl⟩
          · cases g
          · cases g
          refine W.objInit hx hb hown (hts _ (zat_mem hf)) (hts _ zmem_arr.2.2.2.2.1) (hts _ zmem_arr.2.2.2.2.2.1) rfl (hsz.trans hml.symm) rfl hd (by omega) ?_ (zk0 hT kk hT.2.2)
          show 2 * 0 + ((st'.map (zcv Z)).map fun v => v.category).sum + 12 ≤ R.locals
          rw [zcat_map]
          omega
        · cases h
      · cases h
    · split at h
      · next n dp q sp k st0 =>
        split at h
        · next n0 n1 he0 he1 =>
          split at h
          · next hcd =>
            obtain ⟨rfl, g1, g2, g3, g4, g5, g6, g7, hcat⟩ := hcd
            obtain ⟨rfl, rfl, rfl, rfl⟩ := znx_inj h
            rcases hi with ⟨g, -⟩ | ⟨-, rfl⟩ | ⟨g, -⟩
            · cases g
            · refine zcopy hx hb (hml.trans hsz.symm) hown (hts _ (zat_mem hf)) (hts _ zmem_arr.2.1) (hts _ zmem_arr.2.2.1) (hts _ zmem_arr.2.2.2.1) hT.2.1 (zA_adr g7) (hU.1.2 0 _ rfl).1 (hT.1.1 k _ g6 he0) (hT.1.1 q _ g7 he1) g1 g2 g3 g4 g5 (by omega) ?_ hd (fun H1 locs1 e1 z1 oq hS1 => ?_)
              · rw [zcat_map]
                have : nativeFrameWords "java/lang/System" "arraycopy" 5 = 7 := by decide +kernel
                omega
              · refine zk1 (S := S) (S' := (S.1, zcpy S.2.1 k sp.toNatClampNeg q dp.toNatClampNeg n.toNatClampNeg, S.2.2)) ⟨rfl, rfl⟩ kk (zT_put hT g7 he1 (zset_self he1) (fun k' j' g => if_neg (fun g2 => g g2.1)) (fun _ _ _ => rfl) ?_ z1 oq hS1 hT.2.2)
                show H1[zadr Z q]? = some (vp_cell Z.2.1.1 (n1, .inl (zcpy S.2.1 k sp.toNatClampNeg q dp.toNatClampNeg n.toNatClampNeg q)))
                rw [e1]
                congr 4
                funext j
                simp [va_cpy, zcpy]
            · cases g
          · cases h
        · cases h
      · cases h
    · split at h
      · next y x st0 =>
        split at h
        · next hcd =>
          obtain ⟨rfl, hcat⟩ := hcd
          obtain ⟨rfl, rfl, rfl, rfl⟩ := znx_inj h
          rcases hi with ⟨g, -⟩ | ⟨-, rfl⟩ | ⟨g, -⟩
          · cases g
          · refine va_mmax hx hb (hml.trans hsz.symm) hown (hts _ (zat_mem hf)) (hts _ zmem_arr.2.2.2.2.2.2.1) (hts _ zmem_arr.2.2.2.2.2.2.2.2.1) (hts _ zmem_arr.2.2.2.2.2.2.2.2.2.1) (by omega) ?_ (by omega) (by omega) hd (zk0 hT kk hT.2.2)
            rw [zcat_map]
            omega
          · cases g
        · cases h
      · cases h
    · split at h
      · next y x st0 =>
        split at h
        · next hcd =>
          obtain ⟨rfl, hcat⟩ := hcd
          obtain ⟨rfl, rfl, rfl, rfl⟩ := znx_inj h
          rcases hi with ⟨g, -⟩ | ⟨-, rfl⟩ | ⟨g, -⟩
          · cases g
          · refine va_mmin hx hb (hml.trans hsz.symm) hown (hts _ (zat_mem hf)) (hts _ zmem_arr.2.2.2.2.2.2.2.1) (hts _ zmem_arr.2.2.2.2.2.2.2.2.1) (hts _ zmem_arr.2.2.2.2.2.2.2.2.2.2) (by omega) ?_ (by omega) (by omega) hd (zk0 hT kk hT.2.2)
            rw [zcat_map]
            omega
          · cases g
        · cases h
      · cases h
    · split at h
      · split at h
        · split at h
          · split at h
            · split at h <;> cases h
            · cases h
          · cases h
        · split at h <;> cases h
        · split at h <;> cases h
        · split at h
          · split at h <;> cases h
          · cases h
        · split at h
          · split at h <;> cases h
          · cases h
        · cases h
      · cases h
  · cases h
end ZSTEP3
