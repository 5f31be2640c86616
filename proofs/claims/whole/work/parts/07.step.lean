section ZSTEP
variable {p : Program} {l : Launch} {e : Env} {R : Room} {s : State} {m : MethodId} {args : Array Value} {below : List Frame} {meth : Method} {c : Code} {H : Heap} {locs : List Loc} {cells slots : Nat} {Q : State → Prop} {Z : zZ} {M : zM} {d : Nat} {ls : Array Slot}
variable {len pc pc' : Nat} {lo lo' st st' : List Value} {S S' : zS}
def zsz_same (S S' : zS) : Prop := zc S' = zc S ∧ zs S' = zs S

theorem znx_inj {pc : Nat} {lo st : List Value} {S : zS} (h : znx pc lo st S = some (.inl (pc', lo', st', S'))) : pc' = pc ∧ lo' = lo ∧ st' = st ∧ S' = S := by
  unfold znx at h
  cases h
  exact ⟨rfl, rfl, rfl, rfl⟩
theorem zk0 {st1 : List Value} {ls' : Array Slot} (hT : zT Z s M S H locs ls lo) (kk : ∀ (H' : Heap) (locs' : List Loc) (ls' : Array Slot), zT Z s M S H' locs' ls' lo' → W p l e R s m args below meth c H' locs' (cells + (zc S - zc S)) (slots + (zs S - zs S)) Q (F0 m pc' ls' st1)) (hl : zL Z ls' M.2.2.1 lo') : W p l e R s m args below meth c H locs cells slots Q (F0 m pc' ls' st1) := by
  have h := kk H locs ls' ⟨hT.1, hT.2.1, hl⟩
  rwa [Nat.sub_self, Nat.sub_self, Nat.add_zero, Nat.add_zero] at h
theorem zk1 {S' : zS} {st1 : List Value} {H' : Heap} {locs' : List Loc} {ls' : Array Slot} (hl : zsz_same S S') (kk : ∀ (H' : Heap) (locs' : List Loc) (ls' : Array Slot), zT Z s M S' H' locs' ls' lo' → W p l e R s m args below meth c H' locs' (cells + (zc S' - zc S)) (slots + (zs S' - zs S)) Q (F0 m pc' ls' st1)) (hT : zT Z s M S' H' locs' ls' lo') : W p l e R s m args below meth c H' locs' cells slots Q (F0 m pc' ls' st1) := by
  have h := kk H' locs' ls' hT
  rwa [hl.1, hl.2, Nat.sub_self, Nat.sub_self, Nat.add_zero, Nat.add_zero] at h
theorem zin_in {i : Int32} {n : Nat} (h : zin i n = true) : vp_in i n := by
  unfold zin at h
  unfold vp_in
  simpa using h

theorem zn_ld {ins : Instr} {i pc1 t : Nat} (hd : decode M.2.1 pc = .ok (ins, len)) (hi : (t = 0 ∧ ((∃ k : Fin 4, ins = .iload_n k ∧ (k : Nat) = i ∧ len = 1 ∧ pc1 = pc + 1) ∨ (ins = .iload i ∧ len = 2 ∧ pc1 = pc + 2))) ∨ (t = 1 ∧ ((∃ k : Fin 4, ins = .lload_n k ∧ (k : Nat) = i ∧ len = 1 ∧ pc1 = pc + 1) ∨ (ins = .lload i ∧ len = 2 ∧ pc1 = pc + 2))) ∨ (t = 2 ∧ ((∃ k : Fin 4, ins = .aload_n k ∧ (k : Nat) = i ∧ len = 1 ∧ pc1 = pc + 1) ∨ (ins = .aload i ∧ len = 2 ∧ pc1 = pc + 2))))
    (h : zld i pc1 t lo st S = some (.inl (pc', lo', st', S'))) (hC : zC Z M p R s m args meth c d) (hT : zT Z s M S H locs ls lo) (hc : cells + (zc S' - zc S) ≤ R.cells) (hs : slots + (zs S' - zs S) ≤ R.slots)
    (kk : ∀ (H' : Heap) (locs' : List Loc) (ls' : Array Slot), zT Z s M S' H' locs' ls' lo' → W p l e R s m args below meth c H' locs' (cells + (zc S' - zc S)) (slots + (zs S' - zs S)) Q (F0 m pc' ls' (st'.map (zcv Z)))): W p l e R s m args below meth c H locs cells slots Q (F0 m pc ls (st.map (zcv Z))) := by
  obtain ⟨hx, hb, -⟩ := hC
  unfold zld at h
  split at h
  · next x hv =>
    obtain ⟨rfl, rfl, rfl, rfl⟩ := znx_inj h
    have hl := zL_at hT.2.2 hv (by simp)
    rcases hi with ⟨-, ⟨k, rfl, hk, rfl, rfl⟩ | ⟨rfl, rfl, rfl⟩⟩ | ⟨g, -⟩ | ⟨g, -⟩
    · exact lv_iload_n hx hb hd hk hl (zk0 hT kk hT.2.2)
    · exact lv_iload hx hb hd hl (zk0 hT kk hT.2.2)
    · cases g
    · cases g
  · next x hv =>
    obtain ⟨rfl, rfl, rfl, rfl⟩ := znx_inj h
    have hl := zL_at hT.2.2 hv (by simp)
    rcases hi with ⟨g, -⟩ | ⟨-, ⟨k, rfl, hk, rfl, rfl⟩ | ⟨rfl, rfl, rfl⟩⟩ | ⟨g, -⟩
    · cases g
    · exact lv_lload_n hx hb hd hk hl (zk0 hT kk hT.2.2)
    · exact lv_lload hx hb hd hl (zk0 hT kk hT.2.2)
    · cases g
  · next x hv =>
    obtain ⟨rfl, rfl, rfl, rfl⟩ := znx_inj h
    have hl := zL_at hT.2.2 hv (by simp)
    rcases hi with ⟨g, -⟩ | ⟨g, -⟩ | ⟨-, ⟨k, rfl, hk, rfl, rfl⟩ | ⟨rfl, rfl, rfl⟩⟩
    · cases g
    · cases g
    · exact lv_aload_n hx hb hd hk hl (zk0 hT kk hT.2.2)
    · exact lv_aload hx hb hd hl (zk0 hT kk hT.2.2)
  · cases h
theorem zn_so {ins : Instr} {i pc1 t : Nat} (hd : decode M.2.1 pc = .ok (ins, len)) (hi : (t = 0 ∧ ((∃ k : Fin 4, ins = .istore_n k ∧ (k : Nat) = i ∧ len = 1 ∧ pc1 = pc + 1) ∨ (ins = .istore i ∧ len = 2 ∧ pc1 = pc + 2))) ∨ (t = 1 ∧ ((∃ k : Fin 4, ins = .lstore_n k ∧ (k : Nat) = i ∧ len = 1 ∧ pc1 = pc + 1) ∨ (ins = .lstore i ∧ len = 2 ∧ pc1 = pc + 2))) ∨ (t = 2 ∧ ((∃ k : Fin 4, ins = .astore_n k ∧ (k : Nat) = i ∧ len = 1 ∧ pc1 = pc + 1) ∨ (ins = .astore i ∧ len = 2 ∧ pc1 = pc + 2))))
    (h : zso i pc1 t lo S st = some (.inl (pc', lo', st', S'))) (hC : zC Z M p R s m args meth c d) (hT : zT Z s M S H locs ls lo) (hc : cells + (zc S' - zc S) ≤ R.cells) (hs : slots + (zs S' - zs S) ≤ R.slots)
    (kk : ∀ (H' : Heap) (locs' : List Loc) (ls' : Array Slot), zT Z s M S' H' locs' ls' lo' → W p l e R s m args below meth c H' locs' (cells + (zc S' - zc S)) (slots + (zs S' - zs S)) Q (F0 m pc' ls' (st'.map (zcv Z)))): W p l e R s m args below meth c H locs cells slots Q (F0 m pc ls (st.map (zcv Z))) := by
  obtain ⟨hx, hb, -⟩ := hC
  have hL := hT.2.2
  unfold zso at h
  split at h
  · next hin =>
    split at h
    · next x st0 =>
      obtain ⟨rfl, rfl, rfl, rfl⟩ := znx_inj h
      have hlt : i < M.2.2.1 := by rw [← hL.1]; omega
      rcases hi with ⟨-, ⟨k, rfl, hk, rfl, rfl⟩ | ⟨rfl, rfl, rfl⟩⟩ | ⟨g, -⟩ | ⟨g, -⟩
      · exact lv_istore_n hx hb hd hk hL.2 hlt rfl (fun ls' hl => zk0 hT kk (zL_st1 hL hl))
      · exact lv_istore hx hb hd hL.2 hlt rfl (fun ls' hl => zk0 hT kk (zL_st1 hL hl))
      · cases g
      · cases g
    · next x st0 =>
      obtain ⟨rfl, rfl, rfl, rfl⟩ := znx_inj h
      have hlt : i < M.2.2.1 := by rw [← hL.1]; omega
      rcases hi with ⟨g, -⟩ | ⟨g, -⟩ | ⟨-, ⟨k, rfl, hk, rfl, rfl⟩ | ⟨rfl, rfl, rfl⟩⟩
      · cases g
      · cases g
      · exact lv_astore_n hx hb hd hk hL.2 hlt rfl (fun ls' hl => zk0 hT kk (zL_st1 (v := .ref x) hL hl))
      · exact lv_astore hx hb hd hL.2 hlt rfl (fun ls' hl => zk0 hT kk (zL_st1 (v := .ref x) hL hl))
    · next x st0 =>
      obtain ⟨rfl, rfl, rfl, rfl⟩ := znx_inj h
      have hlt : i + 1 < M.2.2.1 := by rw [← hL.1]; omega
      rcases hi with ⟨g, -⟩ | ⟨-, ⟨k, rfl, hk, rfl, rfl⟩ | ⟨rfl, rfl, rfl⟩⟩ | ⟨g, -⟩
      · cases g
      · exact lv_lstore_n hx hb hd hk hL.2 hlt rfl (fun ls' hl => zk0 hT kk (zL_st2 hL hl))
      · exact lv_lstore hx hb hd hL.2 hlt rfl (fun ls' hl => zk0 hT kk (zL_st2 hL hl))
      · cases g
    · cases h
  · cases h
theorem zn_getf {idx : Nat} (hd : decode M.2.1 pc = .ok (.getfield idx, 3)) (h : zgetf M idx (pc + 3) lo S st = some (.inl (pc', lo', st', S'))) (hC : zC Z M p R s m args meth c d) (hT : zT Z s M S H locs ls lo) (hc : cells + (zc S' - zc S) ≤ R.cells) (hs : slots + (zs S' - zs S) ≤ R.slots)
    (kk : ∀ (H' : Heap) (locs' : List Loc) (ls' : Array Slot), zT Z s M S' H' locs' ls' lo' → W p l e R s m args below meth c H' locs' (cells + (zc S' - zc S)) (slots + (zs S' - zs S)) Q (F0 m pc' ls' (st'.map (zcv Z)))): W p l e R s m args below meth c H locs cells slots Q (F0 m pc ls (st.map (zcv Z))) := by
  obtain ⟨hx, hb, hml, hown, hts, hnm, hU, hRf, hRl, hcn, hcn2⟩ := hC
  unfold zgetf at h
  split at h
  · next ci j t fin pp k st0 hlk =>
    obtain ⟨q, hq, hj, hlink, hsame, -, -, hci, hkd, -, -⟩ := zfl_use hlk hcn
    obtain ⟨ty, hin, -, -, -⟩ := zcl_ok hq
    split at h
    · next ci' rs he =>
      split at h
      · next hcd =>
        obtain ⟨rfl, hjl⟩ := hcd
        have h3 := zI0_k3 hT.1.2.2 he (zI0_ci hci)
        have hat := hT.1.1 k _ h3 he
        have hfs : ((List.range rs.length).map (zfv Z S k ci' rs))[j]? = some (zfv Z S k ci' rs j) := by
          rw [List.getElem?_map, List.getElem?_range hjl]; rfl
        have key : ∀ v : Value, zfv Z S k ci' rs j = v → W p l e R s m args below meth c H locs cells slots Q (F0 m (pc + 3) ls (v :: st0.map (zcv Z))) → W p l e R s m args below meth c H locs cells slots Q (F0 m pc ls ((Value.ref k :: st0).map (zcv Z))) := by
          intro v hv hk
          refine va_get (D := Z.1) (cl := vwCl) (tys := ztys Z) (ws := [(zadr Z k, zcell Z S k (.inr (.inr (ci', rs))))]) (T := q.2.1) (N := q.2.2) (C := q.1) hx hb hts hin hown hU.1 (zP1 hat) 0 rfl hq j hj (hts _ hlink) (fun x hx => by rw [hsame] at hx; exact hx) (by rw [hfs, hv]) hd hk
        unfold zfv at key
        rw [hkd] at key
        split at h
        · obtain ⟨rfl, rfl, rfl, rfl⟩ := znx_inj h
          exact key _ rfl (zk0 hT kk hT.2.2)
        · obtain ⟨rfl, rfl, rfl, rfl⟩ := znx_inj h
          exact key _ rfl (zk0 hT kk hT.2.2)
        · next t0 t1 =>
          split at h
          · next a ha =>
            obtain ⟨rfl, rfl, rfl, rfl⟩ := znx_inj h
            rw [ha] at key
            refine key (.ref (zadr Z a)) ?_ (zk0 hT kk hT.2.2)
            split
            · exact absurd rfl t0
            · exact absurd rfl t1
            · rfl
          · cases h
      · cases h
    · cases h
  · cases h
theorem zn_putf {idx : Nat} (hd : decode M.2.1 pc = .ok (.putfield idx, 3)) (h : zputf M idx (pc + 3) lo S st = some (.inl (pc', lo', st', S'))) (hC : zC Z M p R s m args meth c d) (hT : zT Z s M S H locs ls lo) (hc : cells + (zc S' - zc S) ≤ R.cells) (hs : slots + (zs S' - zs S) ≤ R.slots)
    (kk : ∀ (H' : Heap) (locs' : List Loc) (ls' : Array Slot), zT Z s M S' H' locs' ls' lo' → W p l e R s m args below meth c H' locs' (cells + (zc S' - zc S)) (slots + (zs S' - zs S)) Q (F0 m pc' ls' (st'.map (zcv Z)))): W p l e R s m args below meth c H locs cells slots Q (F0 m pc ls (st.map (zcv Z))) := by
  obtain ⟨hx, hb, hml, hown, hts, hnm, hU, hRf, hRl, hcn, hcn2⟩ := hC
  unfold zputf at h
  split at h
  · next ci j t fin pp v k st0 hlk =>
    obtain ⟨q, hq, hj, hlink, hsame, hfin, hf01, hci, hkd, hpd, ht3⟩ := zfl_use hlk hcn
    obtain ⟨ty, hin, hty, hnmX, -, -, -, -, hcq⟩ := zcl_ok hq
    split at h
    · next ci' rs he =>
      split at h
      · next hcd =>
        obtain ⟨rfl, hjl, hfi⟩ := hcd
        have h3 := zI0_k3 hT.1.2.2 he (zI0_ci hci)
        have hat := hT.1.1 k _ h3 he
        have hfi2 : (q.2.1 j).2.2.2 = false ∨ ((q.2.1 j).2.2.2 = true ∧ meth.name = "<init>" ∧ (q.2.1 j).1 = M.1.cls) := by
          rcases hfi with rfl | ⟨g1, g2⟩
          · exact Or.inl (by rw [hfin]; rfl)
          · rcases hf01 with rfl | rfl
            · exact Or.inl (by rw [hfin]; rfl)
            · refine Or.inr ⟨by rw [hfin]; rfl, hnm g1, ?_⟩
              rw [hcn, hcq] at g2
              rw [hsame]
              exact (Option.some.inj g2).symm
        have key : ∀ (v : Value) (ty1 : FieldType), parseFieldDescriptor (q.2.1 j).2.2.1 = some ty1 → narrow ty1 v = v → fits ty1 v = true → (∀ (H1 : Heap) (locs1 : List Loc), va_at Z.1 vwCl (zadr Z k, .inr (ci', ((List.range rs.length).map (zfv Z S k ci' rs)).set j v)) H1 → H1.size = H.size → (∀ q : Nat, q ≠ zadr Z k → H1[q]? = H[q]?) → va_S (zA Z) s.heap H1 locs1 → W p l e R s m args below meth c H1 locs1 cells slots Q (F0 m (pc + 3) ls (st0.map (zcv Z)))) → W p l e R s m args below meth c H locs cells slots Q (F0 m pc ls (v :: .ref (zadr Z k) :: st0.map (zcv Z))) := by
          intro v ty1 g1 g2 g3 hk
          exact zput1 (D := Z.1) (cl := vwCl) (tys := ztys Z) (T := q.2.1) (N := q.2.2) (C := q.1) hx hb hts hin ty hty hnmX hown hU.1 hT.2.1 (zA_adr h3) hat hq j hj (hts _ hlink) (fun x hx => by rw [hsame] at hx; exact hx) hfi2 g1 g2 g3 (by simpa using hjl) hd hk
        have hne : ∀ k' j' : Nat, k' ≠ k → ¬ (k' = k ∧ j' = j) := fun k' j' g g2 => g g2.1
        have hset : S.1 = S.1.set k (.inr (.inr (ci', rs))) := by
          apply List.ext_getElem?
          intro i
          by_cases g : k = i
          · subst g
            rw [List.getElem?_set_self (List.getElem?_eq_some_iff.mp he).1, he]
          · rw [List.getElem?_set_ne g]
        split at h
        · next x =>
          obtain ⟨rfl, rfl, rfl, rfl⟩ := znx_inj h
          refine key (.int x) .int hpd rfl rfl (fun H1 locs1 g1 g2 g3 g4 => zk1 (S := S) (S' := (S.1, zup S.2.1 k j x, S.2.2)) ⟨rfl, rfl⟩ kk (zT_put hT h3 he hset (fun k' j' g => if_neg (hne k' j' g)) (fun _ _ _ => rfl) ?_ g2 g3 g4 hT.2.2))
          rw [zmap_set (g := zfv Z (S.1, zup S.2.1 k j x, S.2.2) k ci' rs)] at g1
          · exact g1
          · unfold zfv; rw [hkd]; simp [zup]
          · intro i hi; unfold zfv zup; simp [hi]
        · next x =>
          obtain ⟨rfl, rfl, rfl, rfl⟩ := znx_inj h
          refine key (.long x) .long hpd rfl rfl (fun H1 locs1 g1 g2 g3 g4 => zk1 (S := S) (S' := (S.1, S.2.1, zup S.2.2 k j x)) ⟨rfl, rfl⟩ kk (zT_put hT h3 he hset (fun _ _ _ => rfl) (fun k' j' g => if_neg (hne k' j' g)) ?_ g2 g3 g4 hT.2.2))
          rw [zmap_set (g := zfv Z (S.1, S.2.1, zup S.2.2 k j x) k ci' rs)] at g1
          · exact g1
          · unfold zfv; rw [hkd]; simp [zup]
          · intro i hi; unfold zfv zup; simp [hi]
        · next a =>
          obtain ⟨rfl, rfl, rfl, rfl⟩ := znx_inj h
          have hpd2 : parseFieldDescriptor (q.2.1 j).2.2.1 = some ((parseFieldDescriptor (q.2.1 j).2.2.1).getD .int) := hpd
          have hir : ((parseFieldDescriptor (q.2.1 j).2.2.1).getD .int).isReference = true := by
            rcases ht3 with g | g | g
            · cases g
            · cases g
            · exact g.2
          generalize (parseFieldDescriptor (q.2.1 j).2.2.1).getD .int = ty1 at hpd2 hir
          have hnr : narrow ty1 (.ref (zadr Z a)) = .ref (zadr Z a) := by cases ty1 <;> rfl
          have hft : fits ty1 (.ref (zadr Z a)) = true := by cases ty1 <;> first | rfl | (simp [FieldType.isReference] at hir; done)
          have hsm : zsz_same S (S.1.set k (.inr (.inr (ci', rs.set j (some a)))), S.2) := by
            refine ⟨by simp [zc], ?_⟩
            unfold zs
            dsimp only
            rw [List.map_set]
            congr 1
            apply List.ext_getElem?
            intro i
            by_cases g : k = i
            · subst g
              have hl := (List.getElem?_eq_some_iff.mp he).1
              rw [List.getElem?_set_self (by simpa using hl), List.getElem?_map, he]
              simp [zsz]
            · rw [List.getElem?_set_ne g]
          refine key (.ref (zadr Z a)) ty1 hpd2 hnr hft (fun H1 locs1 g1 g2 g3 g4 => zk1 (S := S) hsm kk (zT_put hT h3 he rfl (fun _ _ _ => rfl) (fun _ _ _ => rfl) ?_ g2 g3 g4 hT.2.2))
          rw [zmap_set (g := zfv Z (S.1.set k (.inr (.inr (ci', rs.set j (some a)))), S.2) k ci' (rs.set j (some a)))] at g1
          · show va_at Z.1 vwCl (zadr Z k, .inr (ci', (List.range (rs.set j (some a)).length).map (zfv Z (S.1.set k (.inr (.inr (ci', rs.set j (some a)))), S.2) k ci' (rs.set j (some a))))) H1
            rw [List.length_set]
            exact g1
          · unfold zfv; rw [hkd]; simp [va_rf, hjl]
          · intro i hi; unfold zfv; simp [List.getElem?_set_ne (fun q => hi q.symm)]
        · cases h
      · cases h
    · cases h
  · cases h
end ZSTEP
