section ZMAIN
variable {p : Program} {l : Launch} {e : Env} {R : Room} {s : State} {m : MethodId} {args : Array Value} {below : List Frame} {meth : Method} {c : Code} {H : Heap} {locs : List Loc} {cells slots : Nat} {Q : State → Prop} {Z : zZ} {M : zM} {d : Nat} {ls : Array Slot}
variable {len pc pc' : Nat} {lo lo' st st' : List Value} {S S' : zS}

theorem zkl_use {idx pp : Nat} {v : Int64} {own : String} (h : zKL.lookup (zky M idx) = some (v, pp)) (ho : zCN[M.2.2.2.2.1]? = some own) : Cond.constantLong own idx v ∈ zWs := by
  have hf := zall zkl_ok h
  unfold zklP at hf
  dsimp only at hf
  split at hf
  · next own' h1 =>
    obtain ⟨e1, e2⟩ := zkey ho h1
    rw [e1, e2] at hf
    exact zat_mem hf
  · cases hf
theorem zki_use {idx pp : Nat} {v : Int32} {own : String} (h : zKI.lookup (zky M idx) = some (v, pp)) (ho : zCN[M.2.2.2.2.1]? = some own) : Cond.constant own idx v ∈ zWs := by
  have hf := zall zki_ok h
  unfold zkiP at hf
  dsimp only at hf
  split at hf
  · next own' h1 =>
    obtain ⟨e1, e2⟩ := zkey ho h1
    rw [e1, e2] at hf
    exact zat_mem hf
  · cases hf
theorem zn_gets {idx : Nat} (hd : decode M.2.1 pc = .ok (.getstatic idx, 3)) {k pp : Nat} (hlk : zSL.lookup (zky M idx) = some (k, pp)) (hC : zC Z M p R s m args meth c d) (hT : zT Z s M S H locs ls lo) (K : W p l e R s m args below meth c H locs cells slots Q (F0 m (pc + 3) ls (.ref (zadr Z k) :: st.map (zcv Z)))) : W p l e R s m args below meth c H locs cells slots Q (F0 m pc ls (st.map (zcv Z))) := by
  obtain ⟨hx, hb, hml, hown, hts, hnm, hU, hRf, hRl, hcn, hcn2⟩ := hC
  have hf := zall zsl_ok hlk
  unfold zslP at hf
  dsimp only at hf
  split at hf
  · next own' h1 =>
    obtain ⟨e1, e2⟩ := zkey hcn h1
    rw [e1, e2] at hf
    split at hf
    · next hk =>
      subst hk
      exact va_gets hx hb hU.2.2.2.2.1 hT.2.1 hown (hts _ (zat_mem hf)) (fun x h => h) hd K
    · simp only [Bool.and_eq_true, decide_eq_true_eq] at hf
      obtain ⟨rfl, hf⟩ := hf
      exact va_gets hx hb hU.2.2.2.2.2.1 hT.2.1 hown (hts _ (zat_mem hf)) (fun x h => h) hd K
  · cases hf
theorem zn_br {ins : Instr} {x : Int32} {cnd : Jvm.ClassFile.Cond} {off : Int} (hd : decode M.2.1 pc = .ok (.ifCond cnd off, 3)) (h : zbr (zcmp cnd x 0) pc off lo st S = some (.inl (pc', lo', st', S'))) (hC : zC Z M p R s m args meth c d) (hT : zT Z s M S H locs ls lo) (hc : cells + (zc S' - zc S) ≤ R.cells) (hs : slots + (zs S' - zs S) ≤ R.slots)
    (kk : ∀ (H' : Heap) (locs' : List Loc) (ls' : Array Slot), zT Z s M S' H' locs' ls' lo' → W p l e R s m args below meth c H' locs' (cells + (zc S' - zc S)) (slots + (zs S' - zs S)) Q (F0 m pc' ls' (st'.map (zcv Z)))) : W p l e R s m args below meth c H locs cells slots Q (F0 m pc ls (.int x :: st.map (zcv Z))) := by
  obtain ⟨hx, hb, -⟩ := hC
  unfold zbr at h
  split at h
  · cases h
  · next hneg =>
    have ht : (pc : Int) + off = ((((pc : Int) + off).toNat : Nat) : Int) := by omega
    split at h
    · next hcc =>
      obtain ⟨rfl, rfl, rfl, rfl⟩ := znx_inj h
      have K := zk0 hT kk hT.2.2
      cases cnd
      · exact lv_if_eq hx hb hd ht (fun _ => K) (fun g => absurd g (by simpa [zcmp] using hcc))
      · exact lv_if_ne hx hb hd ht (fun _ => K) (fun g => absurd g (by simpa [zcmp] using hcc))
      · exact lv_if_lt hx hb hd ht (fun _ => K) (fun g => absurd g (by simpa [zcmp] using hcc))
      · exact lv_if_ge hx hb hd ht (fun _ => K) (fun g => absurd g (by simpa [zcmp] using hcc))
      · exact lv_if_gt hx hb hd ht (fun _ => K) (fun g => absurd g (by simpa [zcmp] using hcc))
      · exact lv_if_le hx hb hd ht (fun _ => K) (fun g => absurd g (by simpa [zcmp] using hcc))
    · next hcc =>
      obtain ⟨rfl, rfl, rfl, rfl⟩ := znx_inj h
      have K := zk0 hT kk hT.2.2
      cases cnd
      · exact lv_if_eq hx hb hd ht (fun g => absurd g (by simpa [zcmp] using hcc)) (fun _ => K)
      · exact lv_if_ne hx hb hd ht (fun g => absurd g (by simpa [zcmp] using hcc)) (fun _ => K)
      · exact lv_if_lt hx hb hd ht (fun g => absurd g (by simpa [zcmp] using hcc)) (fun _ => K)
      · exact lv_if_ge hx hb hd ht (fun g => absurd g (by simpa [zcmp] using hcc)) (fun _ => K)
      · exact lv_if_gt hx hb hd ht (fun g => absurd g (by simpa [zcmp] using hcc)) (fun _ => K)
      · exact lv_if_le hx hb hd ht (fun g => absurd g (by simpa [zcmp] using hcc)) (fun _ => K)
theorem zn_bri {x y : Int32} {cnd : Jvm.ClassFile.Cond} {off : Int} (hd : decode M.2.1 pc = .ok (.if_icmp cnd off, 3)) (h : zbr (zcmp cnd x y) pc off lo st S = some (.inl (pc', lo', st', S'))) (hC : zC Z M p R s m args meth c d) (hT : zT Z s M S H locs ls lo) (hc : cells + (zc S' - zc S) ≤ R.cells) (hs : slots + (zs S' - zs S) ≤ R.slots)
    (kk : ∀ (H' : Heap) (locs' : List Loc) (ls' : Array Slot), zT Z s M S' H' locs' ls' lo' → W p l e R s m args below meth c H' locs' (cells + (zc S' - zc S)) (slots + (zs S' - zs S)) Q (F0 m pc' ls' (st'.map (zcv Z)))) : W p l e R s m args below meth c H locs cells slots Q (F0 m pc ls (.int y :: .int x :: st.map (zcv Z))) := by
  obtain ⟨hx, hb, -⟩ := hC
  unfold zbr at h
  split at h
  · cases h
  · next hneg =>
    have ht : (pc : Int) + off = ((((pc : Int) + off).toNat : Nat) : Int) := by omega
    split at h
    · next hcc =>
      obtain ⟨rfl, rfl, rfl, rfl⟩ := znx_inj h
      have K := zk0 hT kk hT.2.2
      cases cnd
      · exact lv_icmp_eq hx hb hd ht (fun _ => K) (fun g => absurd g (by simpa [zcmp] using hcc))
      · exact lv_icmp_ne hx hb hd ht (fun _ => K) (fun g => absurd g (by simpa [zcmp] using hcc))
      · exact lv_icmp_lt hx hb hd ht (fun _ => K) (fun g => absurd g (by simpa [zcmp] using hcc))
      · exact lv_icmp_ge hx hb hd ht (fun _ => K) (fun g => absurd g (by simpa [zcmp] using hcc))
      · exact lv_icmp_gt hx hb hd ht (fun _ => K) (fun g => absurd g (by simpa [zcmp] using hcc))
      · exact lv_icmp_le hx hb hd ht (fun _ => K) (fun g => absurd g (by simpa [zcmp] using hcc))
    · next hcc =>
      obtain ⟨rfl, rfl, rfl, rfl⟩ := znx_inj h
      have K := zk0 hT kk hT.2.2
      cases cnd
      · exact lv_icmp_eq hx hb hd ht (fun g => absurd g (by simpa [zcmp] using hcc)) (fun _ => K)
      · exact lv_icmp_ne hx hb hd ht (fun g => absurd g (by simpa [zcmp] using hcc)) (fun _ => K)
      · exact lv_icmp_lt hx hb hd ht (fun g => absurd g (by simpa [zcmp] using hcc)) (fun _ => K)
      · exact lv_icmp_ge hx hb hd ht (fun g => absurd g (by simpa [zcmp] using hcc)) (fun _ => K)
      · exact lv_icmp_gt hx hb hd ht (fun g => absurd g (by simpa [zcmp] using hcc)) (fun _ => K)
      · exact lv_icmp_le hx hb hd ht (fun g => absurd g (by simpa [zcmp] using hcc)) (fun _ => K)
theorem zn_jp {off : Int} (h : zjp pc off lo st S = some (.inl (pc', lo', st', S'))) (hT : zT Z s M S H locs ls lo) (kk : ∀ (H' : Heap) (locs' : List Loc) (ls' : Array Slot), zT Z s M S' H' locs' ls' lo' → W p l e R s m args below meth c H' locs' (cells + (zc S' - zc S)) (slots + (zs S' - zs S)) Q (F0 m pc' ls' (st'.map (zcv Z)))) : ∃ tgt : Nat, (pc : Int) + off = (tgt : Int) ∧ W p l e R s m args below meth c H locs cells slots Q (F0 m tgt ls (st.map (zcv Z))) := by
  unfold zjp at h
  split at h
  · cases h
  · next hneg =>
    obtain ⟨rfl, rfl, rfl, rfl⟩ := znx_inj h
    exact ⟨_, by omega, zk0 hT kk hT.2.2⟩

set_option maxHeartbeats 4000000 in
theorem zexec_next {ins : Instr} (hd : decode M.2.1 pc = .ok (ins, len)) (h : zexec M ins len pc lo st S = some (.inl (pc', lo', st', S'))) (hC : zC Z M p R s m args meth c d) (hT : zT Z s M S H locs ls lo) (hc : cells + (zc S' - zc S) ≤ R.cells) (hs : slots + (zs S' - zs S) ≤ R.slots)
    (kk : ∀ (H' : Heap) (locs' : List Loc) (ls' : Array Slot), zT Z s M S' H' locs' ls' lo' → W p l e R s m args below meth c H' locs' (cells + (zc S' - zc S)) (slots + (zs S' - zs S)) Q (F0 m pc' ls' (st'.map (zcv Z)))): W p l e R s m args below meth c H locs cells slots Q (F0 m pc ls (st.map (zcv Z))) := by
  obtain ⟨hx, hb, hml, hown, hts, hnm, hU, hRf, hRl, hcn, hcn2⟩ := id hC
  cases ins with
  | iconst i =>
    simp only [zexec] at h
    split at h
    · next hl =>
      subst hl
      obtain ⟨rfl, rfl, rfl, rfl⟩ := znx_inj h
      exact lv_iconst hx hb hd rfl (zk0 hT kk hT.2.2)
    · cases h
  | bipush i =>
    simp only [zexec] at h
    split at h
    · next hl =>
      subst hl
      obtain ⟨rfl, rfl, rfl, rfl⟩ := znx_inj h
      exact lv_bipush hx hb hd rfl (zk0 hT kk hT.2.2)
    · cases h
  | sipush i =>
    simp only [zexec] at h
    split at h
    · next hl =>
      subst hl
      obtain ⟨rfl, rfl, rfl, rfl⟩ := znx_inj h
      exact lv_sipush hx hb hd rfl (zk0 hT kk hT.2.2)
    · cases h
  | lconst i =>
    simp only [zexec] at h
    split at h
    · next hl =>
      subst hl
      obtain ⟨rfl, rfl, rfl, rfl⟩ := znx_inj h
      exact lv_lconst hx hb hd rfl (zk0 hT kk hT.2.2)
    · cases h
  | ldc idx =>
    simp only [zexec] at h
    split at h
    · next hl =>
      subst hl
      split at h
      · next x pp hlk =>
        obtain ⟨rfl, rfl, rfl, rfl⟩ := znx_inj h
        exact lv_ldc hx hb hown (hts _ (zki_use hlk hcn)) hd (zk0 hT kk hT.2.2)
      · cases h
    · cases h
  | ldc_w idx =>
    simp only [zexec] at h
    split at h
    · next hl =>
      subst hl
      split at h
      · next x pp hlk =>
        obtain ⟨rfl, rfl, rfl, rfl⟩ := znx_inj h
        exact lv_ldcw hx hb hown (hts _ (zki_use hlk hcn)) hd (zk0 hT kk hT.2.2)
      · cases h
    · cases h
  | ldc2_w idx =>
    simp only [zexec] at h
    split at h
    · next hl =>
      subst hl
      split at h
      · next x pp hlk =>
        obtain ⟨rfl, rfl, rfl, rfl⟩ := znx_inj h
        exact lv_ldc2 hx hb hown (hts _ (zkl_use hlk hcn)) hd (zk0 hT kk hT.2.2)
      · cases h
    · cases h
  | iload_n i =>
    simp only [zexec] at h
    split at h
    · next hl =>
      subst hl
      exact zn_ld hd (Or.inl ⟨rfl, Or.inl ⟨_, rfl, rfl, rfl, rfl⟩⟩) h hC hT hc hs kk
    · cases h
  | iload i =>
    simp only [zexec] at h
    split at h
    · next hl =>
      subst hl
      exact zn_ld hd (Or.inl ⟨rfl, Or.inr ⟨rfl, rfl, rfl⟩⟩) h hC hT hc hs kk
    · cases h
  | istore_n i =>
    simp only [zexec] at h
    split at h
    · next hl =>
      subst hl
      exact zn_so hd (Or.inl ⟨rfl, Or.inl ⟨_, rfl, rfl, rfl, rfl⟩⟩) h hC hT hc hs kk
    · cases h
  | istore i =>
    simp only [zexec] at h
    split at h
    · next hl =>
      subst hl
      exact zn_so hd (Or.inl ⟨rfl, Or.inr ⟨rfl, rfl, rfl⟩⟩) h hC hT hc hs kk
    · cases h
  | lload_n i =>
    simp only [zexec] at h
    split at h
    · next hl =>
      subst hl
      exact zn_ld hd (Or.inr (Or.inl ⟨rfl, Or.inl ⟨_, rfl, rfl, rfl, rfl⟩⟩)) h hC hT hc hs kk
    · cases h
  | lload i =>
    simp only [zexec] at h
    split at h
    · next hl =>
      subst hl
      exact zn_ld hd (Or.inr (Or.inl ⟨rfl, Or.inr ⟨rfl, rfl, rfl⟩⟩)) h hC hT hc hs kk
    · cases h
  | lstore_n i =>
    simp only [zexec] at h
    split at h
    · next hl =>
      subst hl
      exact zn_so hd (Or.inr (Or.inl ⟨rfl, Or.inl ⟨_, rfl, rfl, rfl, rfl⟩⟩)) h hC hT hc hs kk
    · cases h
  | lstore i =>
    simp only [zexec] at h
    split at h
    · next hl =>
      subst hl
      exact zn_so hd (Or.inr (Or.inl ⟨rfl, Or.inr ⟨rfl, rfl, rfl⟩⟩)) h hC hT hc hs kk
    · cases h
  | aload_n i =>
    simp only [zexec] at h
    split at h
    · next hl =>
      subst hl
      exact zn_ld hd (Or.inr (Or.inr ⟨rfl, Or.inl ⟨_, rfl, rfl, rfl, rfl⟩⟩)) h hC hT hc hs kk
    · cases h
  | aload i =>
    simp only [zexec] at h
    split at h
    · next hl =>
      subst hl
      exact zn_ld hd (Or.inr (Or.inr ⟨rfl, Or.inr ⟨rfl, rfl, rfl⟩⟩)) h hC hT hc hs kk
    · cases h
  | astore_n i =>
    simp only [zexec] at h
    split at h
    · next hl =>
      subst hl
      exact zn_so hd (Or.inr (Or.inr ⟨rfl, Or.inl ⟨_, rfl, rfl, rfl, rfl⟩⟩)) h hC hT hc hs kk
    · cases h
  | astore i =>
    simp only [zexec] at h
    split at h
    · next hl =>
      subst hl
      exact zn_so hd (Or.inr (Or.inr ⟨rfl, Or.inr ⟨rfl, rfl, rfl⟩⟩)) h hC hT hc hs kk
    · cases h
  | iinc i n =>
    simp only [zexec] at h
    split at h
    · next hl =>
      subst hl
      split at h
      · next x hv =>
        obtain ⟨rfl, rfl, rfl, rfl⟩ := znx_inj h
        have hL := hT.2.2
        have hm : (i, Value.int x) ∈ zas Z lo := zas_mem.mpr ⟨.int x, hv, by simp, rfl⟩
        obtain ⟨q, hq⟩ := List.getElem?_of_mem hm
        exact lv_iinc hx hb hd hL.2 hq rfl (by rw [← hL.1]; exact (List.getElem?_eq_some_iff.mp hv).1) rfl (fun ls' hl => zk0 hT kk (zL_st1 hL hl))
      · cases h
    · cases h
  | iadd =>
    simp only [zexec] at h
    split at h
    · next hl =>
      subst hl
      unfold zii at h
      split at h
      · obtain ⟨rfl, rfl, rfl, rfl⟩ := znx_inj h
        exact lv_iadd hx hb hd (zk0 hT kk hT.2.2)
      · cases h
    · cases h
  | isub =>
    simp only [zexec] at h
    split at h
    · next hl =>
      subst hl
      unfold zii at h
      split at h
      · obtain ⟨rfl, rfl, rfl, rfl⟩ := znx_inj h
        exact lv_isub hx hb hd (zk0 hT kk hT.2.2)
      · cases h
    · cases h
  | imul =>
    simp only [zexec] at h
    split at h
    · next hl =>
      subst hl
      unfold zii at h
      split at h
      · obtain ⟨rfl, rfl, rfl, rfl⟩ := znx_inj h
        exact lv_imul hx hb hd (zk0 hT kk hT.2.2)
      · cases h
    · cases h
  | iand =>
    simp only [zexec] at h
    split at h
    · next hl =>
      subst hl
      unfold zii at h
      split at h
      · obtain ⟨rfl, rfl, rfl, rfl⟩ := znx_inj h
        exact lv_iand hx hb hd (zk0 hT kk hT.2.2)
      · cases h
    · cases h
  | ior =>
    simp only [zexec] at h
    split at h
    · next hl =>
      subst hl
      unfold zii at h
      split at h
      · obtain ⟨rfl, rfl, rfl, rfl⟩ := znx_inj h
        exact lv_ior hx hb hd (zk0 hT kk hT.2.2)
      · cases h
    · cases h
  | ixor =>
    simp only [zexec] at h
    split at h
    · next hl =>
      subst hl
      unfold zii at h
      split at h
      · obtain ⟨rfl, rfl, rfl, rfl⟩ := znx_inj h
        exact lv_ixor hx hb hd (zk0 hT kk hT.2.2)
      · cases h
    · cases h
  | ishl =>
    simp only [zexec] at h
    split at h
    · next hl =>
      subst hl
      unfold zii at h
      split at h
      · obtain ⟨rfl, rfl, rfl, rfl⟩ := znx_inj h
        exact lv_ishl hx hb hd (zk0 hT kk hT.2.2)
      · cases h
    · cases h
  | ishr =>
    simp only [zexec] at h
    split at h
    · next hl =>
      subst hl
      unfold zii at h
      split at h
      · obtain ⟨rfl, rfl, rfl, rfl⟩ := znx_inj h
        exact lv_ishr hx hb hd (zk0 hT kk hT.2.2)
      · cases h
    · cases h
  | iushr =>
    simp only [zexec] at h
    split at h
    · next hl =>
      subst hl
      unfold zii at h
      split at h
      · obtain ⟨rfl, rfl, rfl, rfl⟩ := znx_inj h
        exact lv_iushr hx hb hd rfl (zk0 hT kk hT.2.2)
      · cases h
    · cases h
  | ladd =>
    simp only [zexec] at h
    split at h
    · next hl =>
      subst hl
      unfold zll at h
      split at h
      · obtain ⟨rfl, rfl, rfl, rfl⟩ := znx_inj h
        exact lv_ladd hx hb hd (zk0 hT kk hT.2.2)
      · cases h
    · cases h
  | lsub =>
    simp only [zexec] at h
    split at h
    · next hl =>
      subst hl
      unfold zll at h
      split at h
      · obtain ⟨rfl, rfl, rfl, rfl⟩ := znx_inj h
        exact lv_lsub hx hb hd (zk0 hT kk hT.2.2)
      · cases h
    · cases h
  | lmul =>
    simp only [zexec] at h
    split at h
    · next hl =>
      subst hl
      unfold zll at h
      split at h
      · obtain ⟨rfl, rfl, rfl, rfl⟩ := znx_inj h
        exact lv_lmul hx hb hd (zk0 hT kk hT.2.2)
      · cases h
    · cases h
  | land =>
    simp only [zexec] at h
    split at h
    · next hl =>
      subst hl
      unfold zll at h
      split at h
      · obtain ⟨rfl, rfl, rfl, rfl⟩ := znx_inj h
        exact lv_land hx hb hd (zk0 hT kk hT.2.2)
      · cases h
    · cases h
  | lor =>
    simp only [zexec] at h
    split at h
    · next hl =>
      subst hl
      unfold zll at h
      split at h
      · obtain ⟨rfl, rfl, rfl, rfl⟩ := znx_inj h
        exact lv_lor hx hb hd (zk0 hT kk hT.2.2)
      · cases h
    · cases h
  | lxor =>
    simp only [zexec] at h
    split at h
    · next hl =>
      subst hl
      unfold zll at h
      split at h
      · obtain ⟨rfl, rfl, rfl, rfl⟩ := znx_inj h
        exact lv_lxor hx hb hd (zk0 hT kk hT.2.2)
      · cases h
    · cases h
  | idiv =>
    simp only [zexec] at h
    split at h
    · next hl =>
      subst hl
      unfold ziiD at h
      split at h
      · split at h
        · cases h
        · next hne =>
          obtain ⟨rfl, rfl, rfl, rfl⟩ := znx_inj h
          exact lv_idiv hx hb hd hne (zk0 hT kk hT.2.2)
      · cases h
    · cases h
  | irem =>
    simp only [zexec] at h
    split at h
    · next hl =>
      subst hl
      unfold ziiD at h
      split at h
      · split at h
        · cases h
        · next hne =>
          obtain ⟨rfl, rfl, rfl, rfl⟩ := znx_inj h
          exact lv_irem hx hb hd hne (zk0 hT kk hT.2.2)
      · cases h
    · cases h
  | ldiv =>
    simp only [zexec] at h
    split at h
    · next hl =>
      subst hl
      unfold zllD at h
      split at h
      · split at h
        · cases h
        · next hne =>
          obtain ⟨rfl, rfl, rfl, rfl⟩ := znx_inj h
          exact lv_ldiv hx hb hd hne (zk0 hT kk hT.2.2)
      · cases h
    · cases h
  | lrem =>
    simp only [zexec] at h
    split at h
    · next hl =>
      subst hl
      unfold zllD at h
      split at h
      · split at h
        · cases h
        · next hne =>
          obtain ⟨rfl, rfl, rfl, rfl⟩ := znx_inj h
          exact lv_lrem hx hb hd hne (zk0 hT kk hT.2.2)
      · cases h
    · cases h
  | lushr =>
    simp only [zexec] at h
    split at h
    · next hl =>
      subst hl
      unfold zli at h
      split at h
      · obtain ⟨rfl, rfl, rfl, rfl⟩ := znx_inj h
        exact lv_lushr hx hb hd rfl (zk0 hT kk hT.2.2)
      · cases h
    · cases h
  | lshl =>
    simp only [zexec] at h
    split at h
    · next hl =>
      subst hl
      unfold zli at h
      split at h
      · obtain ⟨rfl, rfl, rfl, rfl⟩ := znx_inj h
        exact lv_lshl hx hb hd rfl (zk0 hT kk hT.2.2)
      · cases h
    · cases h
  | i2l =>
    simp only [zexec] at h
    split at h
    · next hl =>
      subst hl
      split at h
      · obtain ⟨rfl, rfl, rfl, rfl⟩ := znx_inj h
        exact lv_i2l hx hb hd rfl (zk0 hT kk hT.2.2)
      · cases h
    · cases h
  | l2i =>
    simp only [zexec] at h
    split at h
    · next hl =>
      subst hl
      split at h
      · obtain ⟨rfl, rfl, rfl, rfl⟩ := znx_inj h
        exact lv_l2i hx hb hd rfl (zk0 hT kk hT.2.2)
      · cases h
    · cases h
  | i2b =>
    simp only [zexec] at h
    split at h
    · next hl =>
      subst hl
      split at h
      · obtain ⟨rfl, rfl, rfl, rfl⟩ := znx_inj h
        exact lv_i2b hx hb hd rfl (zk0 hT kk hT.2.2)
      · cases h
    · cases h
  | lcmp =>
    simp only [zexec] at h
    split at h
    · next hl =>
      subst hl
      split at h
      · obtain ⟨rfl, rfl, rfl, rfl⟩ := znx_inj h
        exact W.lcmp hx hb hd (zk0 hT kk hT.2.2)
      · cases h
    · cases h
  | dup =>
    simp only [zexec] at h
    split at h
    · next hl =>
      subst hl
      split at h
      · next v st0 =>
        split at h
        · next hv =>
          obtain ⟨rfl, rfl, rfl, rfl⟩ := znx_inj h
          exact lv_dup hx hb hd ((zcv_cat Z v).trans hv) (zk0 hT kk hT.2.2)
        · cases h
      · cases h
    · cases h
  | pop =>
    simp only [zexec] at h
    split at h
    · next hl =>
      subst hl
      split at h
      · next v st0 =>
        split at h
        · next hv =>
          obtain ⟨rfl, rfl, rfl, rfl⟩ := znx_inj h
          exact lv_pop hx hb hd ((zcv_cat Z v).trans hv) (zk0 hT kk hT.2.2)
        · cases h
      · cases h
    · cases h
  | dup2 =>
    simp only [zexec] at h
    split at h
    · next hl =>
      subst hl
      split at h
      · next v st0 =>
        split at h
        · next hv =>
          obtain ⟨rfl, rfl, rfl, rfl⟩ := znx_inj h
          exact lv_dup2_2 hx hb hd ((zcv_cat Z v).trans hv) (zk0 hT kk hT.2.2)
        · next hv =>
          split at h
          · next w st1 =>
            split at h
            · next hw =>
              obtain ⟨rfl, rfl, rfl, rfl⟩ := znx_inj h
              exact lv_dup2_11 hx hb hd ((zcv_cat Z v).trans (by rcases lv_cat v with g | g; exact g; exact absurd g hv)) ((zcv_cat Z w).trans hw) (zk0 hT kk hT.2.2)
            · cases h
          · cases h
      · cases h
    · cases h
  | goto off =>
    simp only [zexec] at h
    split at h
    · next hl =>
      subst hl
      obtain ⟨tgt, ht, K⟩ := zn_jp h hT kk
      exact lv_goto hx hb hd ht K
    · cases h
  | ifCond cnd off =>
    simp only [zexec] at h
    split at h
    · next hl =>
      subst hl
      split at h
      · next x st0 =>
        exact zn_br (ins := .nop) hd h hC hT hc hs kk
      · cases h
    · cases h
  | if_icmp cnd off =>
    simp only [zexec] at h
    split at h
    · next hl =>
      subst hl
      split at h
      · next y x st0 =>
        exact zn_bri hd h hC hT hc hs kk
      · cases h
    · cases h
  | tableswitch df lw hi offs =>
    simp only [zexec] at h
    split at h
    · next x st0 =>
      split at h
      · next hr =>
        obtain ⟨tgt, ht, K⟩ := zn_jp h hT kk
        exact lv_tableOut hx hb hd hr ht K
      · next hr =>
        split at h
        · next off ho =>
          obtain ⟨tgt, ht, K⟩ := zn_jp h hT kk
          exact lv_tableIn hx hb hd (fun g => hr (Or.inl g)) (fun g => hr (Or.inr g)) ho ht K
        · cases h
    · cases h
  | lookupswitch df ps =>
    simp only [zexec] at h
    split at h
    · next x st0 =>
      split at h
      · next hr =>
        obtain ⟨tgt, ht, K⟩ := zn_jp h hT kk
        exact lv_lookup hx hb hd hr rfl ht K
      · cases h
    · cases h
  | getfield idx =>
    simp only [zexec] at h
    split at h
    · next hl =>
      subst hl
      exact zn_getf hd h hC hT hc hs kk
    · cases h
  | putfield idx =>
    simp only [zexec] at h
    split at h
    · next hl =>
      subst hl
      exact zn_putf hd h hC hT hc hs kk
    · cases h
  | getstatic idx =>
    simp only [zexec] at h
    split at h
    · next hl =>
      subst hl
      split at h
      · next k pp hlk =>
        obtain ⟨rfl, rfl, rfl, rfl⟩ := znx_inj h
        exact zn_gets hd hlk hC hT (zk0 hT kk hT.2.2)
      · cases h
    · cases h
  | iaload =>
    simp only [zexec] at h
    split at h
    · next hl =>
      subst hl
      exact zn_ald hd h hC hT hc hs kk
    · cases h
  | iastore =>
    simp only [zexec] at h
    split at h
    · next hl =>
      subst hl
      exact zn_ast hd h hC hT hc hs kk
    · cases h
  | aaload =>
    simp only [zexec] at h
    split at h
    · next hl =>
      subst hl
      exact zn_aald hd h hC hT hc hs kk
    · cases h
  | aastore =>
    simp only [zexec] at h
    split at h
    · next hl =>
      subst hl
      exact zn_aast hd h hC hT hc hs kk
    · cases h
  | arraylength =>
    simp only [zexec] at h
    split at h
    · next hl =>
      subst hl
      exact zn_alen hd h hC hT hc hs kk
    · cases h
  | new idx =>
    simp only [zexec] at h
    split at h
    · next hl =>
      subst hl
      exact zn_new hd h hC hT hc hs kk
    · cases h
  | anewarray idx =>
    simp only [zexec] at h
    split at h
    · next hl =>
      subst hl
      exact zn_anew hd h hC hT hc hs kk
    · cases h
  | newarray ty =>
    cases ty with
    | int =>
      simp only [zexec] at h
      split at h
      · next hl =>
        subst hl
        exact zn_newa hd h hC hT hc hs kk
      · cases h
    | _ => cases h
  | multianewarray idx dm =>
    cases dm with
    | zero => cases h
    | succ n =>
      cases n with
      | zero => cases h
      | succ n =>
        cases n with
        | zero =>
          simp only [zexec] at h
          split at h
          · next hl =>
            subst hl
            exact zn_mnew hd h hC hT hc hs kk
          · cases h
        | succ n => simp [zexec] at h
  | invokevirtual idx =>
    simp only [zexec] at h
    split at h
    · next hl =>
      subst hl
      exact zn_inv (Or.inl ⟨rfl, rfl⟩) hd h hC hT hc hs kk
    · cases h
  | invokestatic idx =>
    simp only [zexec] at h
    split at h
    · next hl =>
      subst hl
      exact zn_inv (Or.inr (Or.inl ⟨rfl, rfl⟩)) hd h hC hT hc hs kk
    · cases h
  | invokespecial idx =>
    simp only [zexec] at h
    split at h
    · next hl =>
      subst hl
      exact zn_inv (Or.inr (Or.inr ⟨rfl, rfl⟩)) hd h hC hT hc hs kk
    · cases h
  | ireturn =>
    simp only [zexec] at h
    split at h
    · next hl =>
      subst hl
      unfold zret at h
      split at h <;> first | (cases h; done) | (split at h <;> cases h)
    · cases h
  | lreturn =>
    simp only [zexec] at h
    split at h
    · next hl =>
      subst hl
      unfold zret at h
      split at h <;> first | (cases h; done) | (split at h <;> cases h)
    · cases h
  | return_ =>
    simp only [zexec] at h
    split at h
    · next hl =>
      subst hl
      unfold zret at h
      split at h <;> first | (cases h; done) | (split at h <;> cases h)
    · cases h
  | _ => cases h
end ZMAIN
