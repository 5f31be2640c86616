section ZSTEP2
variable {p : Program} {l : Launch} {e : Env} {R : Room} {s : State} {m : MethodId} {args : Array Value} {below : List Frame} {meth : Method} {c : Code} {H : Heap} {locs : List Loc} {cells slots : Nat} {Q : State → Prop} {Z : zZ} {M : zM} {d : Nat} {ls : Array Slot}
variable {len pc pc' : Nat} {lo lo' st st' : List Value} {S S' : zS}

theorem zset_self {k : Nat} {x : zE} (he : S.1[k]? = some x) : S.1 = S.1.set k x := by
  apply List.ext_getElem?
  intro i
  by_cases g : k = i
  · subst g
    rw [List.getElem?_set_self (List.getElem?_eq_some_iff.mp he).1, he]
  · rw [List.getElem?_set_ne g]
theorem z3 {k : Nat} (h : k < 3) : k = 0 ∨ k = 1 ∨ k = 2 := by omega
theorem zrep_none (n q : Nat) : (List.replicate n (none : Option Nat)).getD q none = none := by
  rw [List.getD_eq_getElem?_getD, List.getElem?_replicate]
  split <;> rfl
theorem zn_ald (hd : decode M.2.1 pc = .ok (.iaload, 1)) (h : zald (pc + 1) lo S st = some (.inl (pc', lo', st', S'))) (hC : zC Z M p R s m args meth c d) (hT : zT Z s M S H locs ls lo) (hc : cells + (zc S' - zc S) ≤ R.cells) (hs : slots + (zs S' - zs S) ≤ R.slots)
    (kk : ∀ (H' : Heap) (locs' : List Loc) (ls' : Array Slot), zT Z s M S' H' locs' ls' lo' → W p l e R s m args below meth c H' locs' (cells + (zc S' - zc S)) (slots + (zs S' - zs S)) Q (F0 m pc' ls' (st'.map (zcv Z)))): W p l e R s m args below meth c H locs cells slots Q (F0 m pc ls (st.map (zcv Z))) := by
  obtain ⟨hx, hb, hml, hown, hts, hnm, hU, hRf, hRl, hcn, hcn2⟩ := hC
  unfold zald at h
  split at h
  · next i k st0 =>
    split at h
    · next n he =>
      split at h
      · next hin =>
        have hin := zin_in hin
        obtain ⟨rfl, rfl, rfl, rfl⟩ := znx_inj h
        have K := zk0 hT kk hT.2.2
        have hlt : i.toNatClampNeg < n := Nat.not_le.mp fun q => hin (Or.inr q)
        rcases Nat.lt_or_ge k 3 with hk | hk
        · obtain ⟨-, b0, b1, b2, c1, c2⟩ := hT.1.2.2
          rcases z3 hk with rfl | rfl | rfl
          · rcases b0 with ⟨b0, c0⟩ | b0
            rotate_left
            · rw [b0] at he; cases he
            rw [b0] at he
            cases he
            exact va_ti hx hb hU.2.1 hT.2.1 hin (v := .int (S'.2.1 0 i.toNatClampNeg)) (by rw [c0 _ hlt]) hd K
          · rw [b1] at he
            cases he
            exact va_ti hx hb hU.2.2.1 hT.2.1 hin (v := .int (S'.2.1 1 i.toNatClampNeg)) (by rw [c1 _ hlt]) hd K
          · rw [b2] at he
            cases he
            exact va_ti hx hb hU.2.2.2.1 hT.2.1 hin (v := .int (S'.2.1 2 i.toNatClampNeg)) (by rw [c2 _ hlt]) hd K
        · exact va_iald (D := Z.1) (cl := vwCl) (tys := ztys Z) (ws := [(zadr Z k, zcell Z S' k (.inl n))]) hx hb hU.1 (zP1 (hT.1.1 k _ hk he)) 0 0 rfl rfl hin hd K
      · cases h
    · cases h
  · cases h
theorem zn_ast (hd : decode M.2.1 pc = .ok (.iastore, 1)) (h : zast (pc + 1) lo S st = some (.inl (pc', lo', st', S'))) (hC : zC Z M p R s m args meth c d) (hT : zT Z s M S H locs ls lo) (hc : cells + (zc S' - zc S) ≤ R.cells) (hs : slots + (zs S' - zs S) ≤ R.slots)
    (kk : ∀ (H' : Heap) (locs' : List Loc) (ls' : Array Slot), zT Z s M S' H' locs' ls' lo' → W p l e R s m args below meth c H' locs' (cells + (zc S' - zc S)) (slots + (zs S' - zs S)) Q (F0 m pc' ls' (st'.map (zcv Z)))): W p l e R s m args below meth c H locs cells slots Q (F0 m pc ls (st.map (zcv Z))) := by
  obtain ⟨hx, hb, hml, hown, hts, hnm, hU, hRf, hRl, hcn, hcn2⟩ := hC
  unfold zast at h
  split at h
  · next x i k st0 =>
    split at h
    · next n he =>
      split at h
      · next hin =>
        obtain ⟨hin, h3⟩ := hin
        have hin := zin_in hin
        obtain ⟨rfl, rfl, rfl, rfl⟩ := znx_inj h
        have hat : H[zadr Z k]? = some (vp_cell Z.2.1.1 (n, .inl (S.2.1 k))) := hT.1.1 k _ h3 he
        refine W.iast hx hb hat ((hU.1.2 0 _ rfl).1 n (fun j => .int (S.2.1 k j))) (fun q => by cases q) (by show ¬ (i < 0 ∨ (arrV _ _ _).slots.size ≤ _); rw [arrV_size]; exact hin) rfl rfl hd fun H1 e1 z1 oq => ?_
        refine zk1 (S := S) (S' := (S.1, zup S.2.1 k i.toNatClampNeg x, S.2.2)) ⟨rfl, rfl⟩ kk (zT_put hT h3 he (zset_self he) (fun k' j' g => if_neg (fun g2 => g g2.1)) (fun _ _ _ => rfl) ?_ z1 oq (hT.2.1.put z1 oq (zA_adr h3)) hT.2.2)
        show H1[zadr Z k]? = some (vp_cell _ _)
        rw [e1]
        rw [vp_cell_i, arrV_store]
        show _ = some (vp_cell Z.2.1.1 (n, .inl (zup S.2.1 k i.toNatClampNeg x k)))
        rw [vp_cell_i]
        congr 2
        funext q
        by_cases hq : q = i.toNatClampNeg
        · subst hq
          simp [updV, zup]
        · simp [updV, zup, hq]
      · cases h
    · cases h
  · cases h
theorem zn_aald (hd : decode M.2.1 pc = .ok (.aaload, 1)) (h : zaald (pc + 1) lo S st = some (.inl (pc', lo', st', S'))) (hC : zC Z M p R s m args meth c d) (hT : zT Z s M S H locs ls lo) (hc : cells + (zc S' - zc S) ≤ R.cells) (hs : slots + (zs S' - zs S) ≤ R.slots)
    (kk : ∀ (H' : Heap) (locs' : List Loc) (ls' : Array Slot), zT Z s M S' H' locs' ls' lo' → W p l e R s m args below meth c H' locs' (cells + (zc S' - zc S)) (slots + (zs S' - zs S)) Q (F0 m pc' ls' (st'.map (zcv Z)))): W p l e R s m args below meth c H locs cells slots Q (F0 m pc ls (st.map (zcv Z))) := by
  obtain ⟨hx, hb, hml, hown, hts, hnm, hU, hRf, hRl, hcn, hcn2⟩ := hC
  unfold zaald at h
  split at h
  · next i k st0 =>
    split at h
    · next t rs he =>
      split at h
      · next hin =>
        have hin := zin_in hin
        split at h
        · next a ha =>
          obtain ⟨rfl, rfl, rfl, rfl⟩ := znx_inj h
          have K := zk0 hT kk hT.2.2
          have h3 := zI0_k3 hT.1.2.2 he (by simp)
          have hlt : i.toNatClampNeg < rs.length := Nat.not_le.mp fun q => hin (Or.inr q)
          have hat : H[zadr Z k]? = some (vp_cell (if t = 0 then Z.2.1.2.1 else Z.2.1.2.2) (rs.length, .inr (.inr (.inr (.inr (fun i => (rs.getD i none).map (zadr Z))))))) := hT.1.1 k _ h3 he
          rw [vp_cell_q] at hat
          have hrd : (arrV (if t = 0 then Z.2.1.2.1 else Z.2.1.2.2) rs.length (fun j => va_rf ((rs.getD j none).map (zadr Z)))).slots[i.toNatClampNeg]? = some (.ref (zadr Z a)) := by
            rw [arrV_read _ _ hlt, ha]; rfl
          by_cases ht : t = 0
          · rw [if_pos ht] at hat hrd
            exact W.aald (v := .ref (zadr Z a)) (ty := .object "CubeHops$Strip") hx hb hat ((hU.1.2 1 _ rfl).1 _ _) rfl (fun q => by cases q) (by rw [arrV_size]; exact hin) hrd rfl rfl hd K
          · rw [if_neg ht] at hat hrd
            exact W.aald (v := .ref (zadr Z a)) (ty := .array .int) hx hb hat ((hU.1.2 2 _ rfl).1 _ _) rfl (fun q => by cases q) (by rw [arrV_size]; exact hin) hrd rfl rfl hd K
        · cases h
      · cases h
    · cases h
  · cases h
theorem zn_aast (hd : decode M.2.1 pc = .ok (.aastore, 1)) (h : zaast (pc + 1) lo S st = some (.inl (pc', lo', st', S'))) (hC : zC Z M p R s m args meth c d) (hT : zT Z s M S H locs ls lo) (hc : cells + (zc S' - zc S) ≤ R.cells) (hs : slots + (zs S' - zs S) ≤ R.slots)
    (kk : ∀ (H' : Heap) (locs' : List Loc) (ls' : Array Slot), zT Z s M S' H' locs' ls' lo' → W p l e R s m args below meth c H' locs' (cells + (zc S' - zc S)) (slots + (zs S' - zs S)) Q (F0 m pc' ls' (st'.map (zcv Z)))): W p l e R s m args below meth c H locs cells slots Q (F0 m pc ls (st.map (zcv Z))) := by
  obtain ⟨hx, hb, hml, hown, hts, hnm, hU, hRf, hRl, hcn, hcn2⟩ := hC
  unfold zaast at h
  split at h
  · next v i k st0 =>
    split at h
    · next rs vs he hv =>
      split at h
      · next hin =>
        have hin := zin_in hin
        obtain ⟨rfl, rfl, rfl, rfl⟩ := znx_inj h
        have h3 := zI0_k3 hT.1.2.2 he (by simp)
        have h3v := zI0_k3 hT.1.2.2 hv (zI0_ci (by decide))
        have hlt : i.toNatClampNeg < rs.length := Nat.not_le.mp fun q => hin (Or.inr q)
        have h0 : ¬ i < 0 := fun q => hin (Or.inl q)
        have hat : H[zadr Z k]? = some (vp_cell Z.2.1.2.1 (rs.length, .inr (.inr (.inr (.inr (fun i => (rs.getD i none).map (zadr Z))))))) := hT.1.1 k _ h3 he
        obtain ⟨r', hr', cellV, g1, g2, g3, -⟩ := hT.1.1 v _ h3v hv
        have hcls := (hU.1.1 2 (RX2, TX2, 2) rfl).2
        obtain ⟨kA, comp, k1, k2, k3, -⟩ := (hU.1.2 1 _ rfl).2
        have hcomp : comp = Z.1.1 2 := Option.some.inj (k3.symm.trans hcls.1)
        subst hcomp
        obtain ⟨kC, hkC, -⟩ := hcls.2
        have hsm : zsz_same S (S.1.set k (.inr (.inl (0, rs.set i.toNatClampNeg (some v)))), S.2) := by
          refine ⟨by simp [zc], ?_⟩
          unfold zs
          dsimp only
          rw [List.map_set]
          congr 1
          apply List.ext_getElem?
          intro i
          by_cases g : k = i
          · subst g
            have hl := (List.getElem?_eq_some_iff.mp he).1
            rw [List.getElem?_set_self (by simpa using hl), List.getElem?_map, he]
            simp [zsz]
          · rw [List.getElem?_set_ne g]
        refine W.aast hx hb hat (fun q h => by cases h) (fun h => by cases h) k1 k2 rfl hkC ⟨h0, by show _ < (arrV _ _ _).slots.size; rw [arrV_size]; exact hlt⟩ g1 (fun q h => by rw [g3] at h; cases h) (by rw [g2]; exact hkC) (by rw [g2]; exact va_assign hcls) rfl rfl hd fun H1 e1 z1 oq => ?_
        refine zk1 (S := S) hsm kk (zT_put hT h3 he rfl (fun _ _ _ => rfl) (fun _ _ _ => rfl) ?_ z1 oq (hT.2.1.put z1 oq (zA_adr h3)) hT.2.2)
        show H1[zadr Z k]? = some (vp_cell Z.2.1.2.1 ((rs.set i.toNatClampNeg (some v)).length, .inr (.inr (.inr (.inr (fun j => ((rs.set i.toNatClampNeg (some v)).getD j none).map (zadr Z)))))))
        rw [e1, vp_cell_q, vp_cell_q, arrV_store, List.length_set]
        congr 2
        funext q
        by_cases hq : q = i.toNatClampNeg
        · subst hq
          simp [updV, va_rf, hlt]
        · simp [updV, hq, List.getElem?_set_ne (fun g => hq g.symm)]
      · cases h
    · cases h
  · cases h
theorem zn_alen (hd : decode M.2.1 pc = .ok (.arraylength, 1)) (h : zalen (pc + 1) lo S st = some (.inl (pc', lo', st', S'))) (hC : zC Z M p R s m args meth c d) (hT : zT Z s M S H locs ls lo) (hc : cells + (zc S' - zc S) ≤ R.cells) (hs : slots + (zs S' - zs S) ≤ R.slots)
    (kk : ∀ (H' : Heap) (locs' : List Loc) (ls' : Array Slot), zT Z s M S' H' locs' ls' lo' → W p l e R s m args below meth c H' locs' (cells + (zc S' - zc S)) (slots + (zs S' - zs S)) Q (F0 m pc' ls' (st'.map (zcv Z)))): W p l e R s m args below meth c H locs cells slots Q (F0 m pc ls (st.map (zcv Z))) := by
  obtain ⟨hx, hb, hml, hown, hts, hnm, hU, hRf, hRl, hcn, hcn2⟩ := hC
  unfold zalen at h
  split at h
  · next k st0 =>
    split at h
    · next n he =>
      obtain ⟨rfl, rfl, rfl, rfl⟩ := znx_inj h
      have K := zk0 hT kk hT.2.2
      rcases Nat.lt_or_ge k 3 with hk | hk
      · obtain ⟨-, b0, b1, b2, c1, c2⟩ := hT.1.2.2
        rcases z3 hk with rfl | rfl | rfl
        · rcases b0 with ⟨b0, c0⟩ | b0
          rotate_left
          · rw [b0] at he; cases he
          rw [b0] at he
          cases he
          exact va_tlen hx hb hU.2.1 hT.2.1 rfl hd K
        · rw [b1] at he
          cases he
          exact va_tlen hx hb hU.2.2.1 hT.2.1 rfl hd K
        · rw [b2] at he
          cases he
          exact va_tlen hx hb hU.2.2.2.1 hT.2.1 rfl hd K
      · exact va_alen (D := Z.1) (cl := vwCl) (tys := ztys Z) (ws := [(zadr Z k, zcell Z S' k (.inl n))]) hx hb hU.1 (zP1 (hT.1.1 k _ hk he)) 0 0 rfl rfl rfl hd K
    · next t rs he =>
      obtain ⟨rfl, rfl, rfl, rfl⟩ := znx_inj h
      have K := zk0 hT kk hT.2.2
      have h3 := zI0_k3 hT.1.2.2 he (by simp)
      have hP := zP1 (hT.1.1 k _ h3 he)
      by_cases ht : t = 0
      · exact va_alen (D := Z.1) (cl := vwCl) (tys := ztys Z) (ws := [(zadr Z k, zcell Z S' k (.inr (.inl (t, rs))))]) hx hb hU.1 hP 0 1 rfl (by subst ht; rfl) rfl hd K
      · exact va_alen (D := Z.1) (cl := vwCl) (tys := ztys Z) (ws := [(zadr Z k, zcell Z S' k (.inr (.inl (t, rs))))]) hx hb hU.1 hP 0 2 rfl (by rw [if_neg ht]; rfl) rfl hd K
    · cases h
  · cases h
theorem znl_use {idx ci pp : Nat} {own : String} (h : zNL.lookup (zky M idx) = some (ci, pp)) (ho : zCN[M.2.2.2.2.1]? = some own) : if ci = 9 then Cond.classLink own idx "[[I" ∈ zWs else ∃ q, vwCl[ci]? = some q ∧ Cond.classLink own idx q.1 ∈ zWs := by
  have hf := zall znl_ok h
  unfold znlP at hf
  dsimp only at hf
  split at hf
  · next own' h1 =>
    obtain ⟨e1, e2⟩ := zkey ho h1
    rw [e1, e2] at hf
    split at hf
    · next h9 =>
      rw [if_pos h9]
      exact zat_mem hf
    · next h9 =>
      rw [if_neg h9]
      split at hf
      · next q hq => exact ⟨q, hq, zat_mem hf⟩
      · cases hf
  · cases hf
theorem zn_new {idx : Nat} (hd : decode M.2.1 pc = .ok (.new idx, 3)) (h : znew M idx (pc + 3) lo st S = some (.inl (pc', lo', st', S'))) (hC : zC Z M p R s m args meth c d) (hT : zT Z s M S H locs ls lo) (hc : cells + (zc S' - zc S) ≤ R.cells) (hs : slots + (zs S' - zs S) ≤ R.slots)
    (kk : ∀ (H' : Heap) (locs' : List Loc) (ls' : Array Slot), zT Z s M S' H' locs' ls' lo' → W p l e R s m args below meth c H' locs' (cells + (zc S' - zc S)) (slots + (zs S' - zs S)) Q (F0 m pc' ls' (st'.map (zcv Z)))): W p l e R s m args below meth c H locs cells slots Q (F0 m pc ls (st.map (zcv Z))) := by
  obtain ⟨hx, hb, hml, hown, hts, hnm, hU, hRf, hRl, hcn, hcn2⟩ := hC
  unfold znew at h
  split at h
  · next ci pp hlk =>
    have hn := znl_use hlk hcn
    split at h
    · next fk hfk =>
      obtain ⟨rfl, rfl, rfl, rfl⟩ := znx_inj h
      have h9 : ¬ ci = 9 := by
        intro g
        subst g
        cases hfk
      rw [if_neg h9] at hn
      obtain ⟨q, hq, hcl⟩ := hn
      obtain ⟨ty, hin, hty, hnmX, hfl, hdv, hinst, hini, hcq⟩ := zcl_ok hq
      have hfg : zFK.getD ci [] = fk := by rw [List.getD_eq_getElem?_getD, hfk]; rfl
      rw [hfg] at hfl hdv
      have hKn := hU.1.1 ci _ hq
      have hzc : zc (S.1 ++ [.inr (.inr (ci, List.replicate fk.length none))], zclr S.2.1 S.1.length 0, zclr S.2.2 S.1.length 0) - zc S = 1 := by simp [zc]
      have hzs : zs (S.1 ++ [.inr (.inr (ci, List.replicate fk.length none))], zclr S.2.1 S.1.length 0, zclr S.2.2 S.1.length 0) - zs S = q.2.2 := by simp [zs, zsz, hfl]
      rw [hzc] at hc kk
      rw [hzs] at hs kk
      refine W.newcK (C := q.1) (n := q.2.2) hx hb hown (hts _ hcl) (hts _ hinst) (hts _ hini) rfl hd hc hs hKn.2.1 rfl fun H1 kC hkC e1 z1 o1 => ?_
      have hadr : zcv Z (.ref S.1.length) = .ref H.size := by
        show Value.ref (zadr Z S.1.length) = _
        rw [zadr3 hT.1.2.2.1, hT.1.2.1]
      have K := kk H1 locs ls (zT_push hT rfl (fun k' j' g => if_neg (by omega)) (fun k' j' g => if_neg (by omega)) ?_ z1 o1 hT.2.2)
      · rw [List.map_cons, hadr] at K
        exact K
      · refine ⟨_, hq, (u_born ty hts hin hKn hkC e1 hty).to (fun j hj => ?_)⟩
        unfold vp_V
        rw [List.getD_eq_getElem?_getD, List.getElem?_map, List.getElem?_range (by simpa [hfl] using hj)]
        rw [hdv j hj]
        show _ = zfv Z _ _ _ _ _
        unfold zfv zdv
        rw [hfg, zrep_none]
        generalize fk.getD j 2 = t
        match t with
        | 0 => simp [zclr]
        | 1 => simp [zclr]
        | t + 2 => simp [va_rf]
    · cases h
  · cases h
theorem zn_newa (hd : decode M.2.1 pc = .ok (.newarray .int, 2)) (h : znewa (pc + 2) lo S st = some (.inl (pc', lo', st', S'))) (hC : zC Z M p R s m args meth c d) (hT : zT Z s M S H locs ls lo) (hc : cells + (zc S' - zc S) ≤ R.cells) (hs : slots + (zs S' - zs S) ≤ R.slots)
    (kk : ∀ (H' : Heap) (locs' : List Loc) (ls' : Array Slot), zT Z s M S' H' locs' ls' lo' → W p l e R s m args below meth c H' locs' (cells + (zc S' - zc S)) (slots + (zs S' - zs S)) Q (F0 m pc' ls' (st'.map (zcv Z)))): W p l e R s m args below meth c H locs cells slots Q (F0 m pc ls (st.map (zcv Z))) := by
  obtain ⟨hx, hb, hml, hown, hts, hnm, hU, hRf, hRl, hcn, hcn2⟩ := hC
  unfold znewa at h
  split at h
  · next n st0 =>
    split at h
    · cases h
    · next hn =>
      obtain ⟨rfl, rfl, rfl, rfl⟩ := znx_inj h
      have hn1 : ¬ n < 0 := fun g => hn (Or.inl g)
      have hn2 : n.toNatClampNeg ≤ 100000 := Nat.le_of_not_lt fun g => hn (Or.inr g)
      have hzc : zc (S.1 ++ [.inl n.toNatClampNeg], zclr S.2.1 S.1.length 0, S.2.2) - zc S = 1 := by simp [zc]
      have hzs : zs (S.1 ++ [.inl n.toNatClampNeg], zclr S.2.1 S.1.length 0, S.2.2) - zs S = n.toNatClampNeg := by simp [zs, zsz]
      rw [hzc] at hc kk
      rw [hzs] at hs kk
      refine va_newaK (atype := .int) hx hb (hts _ zmem_arr.1) rfl hd rfl hn1 rfl (by show n.toNatClampNeg * 4 ≤ _; omega) hc hs rfl fun H1 cA e1 z1 o1 hAr hNm => ?_
      have hcA : cA = Z.2.1.1 := Option.some.inj (hNm.symm.trans (hU.1.2 0 _ rfl).2)
      subst hcA
      have hadr : zcv Z (.ref S.1.length) = .ref H.size := by
        show Value.ref (zadr Z S.1.length) = _
        rw [zadr3 hT.1.2.2.1, hT.1.2.1]
      have K := kk H1 locs ls (zT_push hT rfl (fun k' j' g => if_neg (by omega)) (fun _ _ _ => rfl) ?_ z1 o1 hT.2.2)
      · rw [List.map_cons, hadr] at K
        exact K
      · show H1[H.size]? = some (vp_cell Z.2.1.1 (n.toNatClampNeg, .inl (zclr S.2.1 S.1.length 0 S.1.length)))
        rw [e1, vp_cell_i]
        congr 2
        funext q
        simp [zclr, defaultValue, newarray.typeOf]
  · cases h
theorem zn_anew {idx : Nat} (hd : decode M.2.1 pc = .ok (.anewarray idx, 3)) (h : zanew M idx (pc + 3) lo S st = some (.inl (pc', lo', st', S'))) (hC : zC Z M p R s m args meth c d) (hT : zT Z s M S H locs ls lo) (hc : cells + (zc S' - zc S) ≤ R.cells) (hs : slots + (zs S' - zs S) ≤ R.slots)
    (kk : ∀ (H' : Heap) (locs' : List Loc) (ls' : Array Slot), zT Z s M S' H' locs' ls' lo' → W p l e R s m args below meth c H' locs' (cells + (zc S' - zc S)) (slots + (zs S' - zs S)) Q (F0 m pc' ls' (st'.map (zcv Z)))): W p l e R s m args below meth c H locs cells slots Q (F0 m pc ls (st.map (zcv Z))) := by
  obtain ⟨hx, hb, hml, hown, hts, hnm, hU, hRf, hRl, hcn, hcn2⟩ := hC
  unfold zanew at h
  split at h
  · next n st0 =>
    split at h
    · next pp hlk =>
      split at h
      · cases h
      · next hn =>
        obtain ⟨rfl, rfl, rfl, rfl⟩ := znx_inj h
        obtain ⟨q, hq, hcl⟩ := znl_use hlk hcn
        cases hq
        have hn1 : ¬ n < 0 := fun g => hn (Or.inl g)
        have hn2 : n.toNatClampNeg ≤ 100000 := Nat.le_of_not_lt fun g => hn (Or.inr g)
        have hzc : zc (S.1 ++ [.inr (.inl (0, List.replicate n.toNatClampNeg none))], S.2) - zc S = 1 := by simp [zc]
        have hzs : zs (S.1 ++ [.inr (.inl (0, List.replicate n.toNatClampNeg none))], S.2) - zs S = n.toNatClampNeg := by simp [zs, zsz]
        rw [hzc] at hc kk
        rw [hzs] at hs kk
        refine W.anew (C := "CubeHops$Strip") hx hb hown (hts _ hcl) (va_AO.use hU.2.2.2.2.2.2.2.1) rfl hd rfl hn1 (by omega) hc hs fun cA kA comp f1 f2 f3 f4 => ?_
        generalize hH1 : H.push ({ cls := cA, slots := Array.replicate n.toNatClampNeg .null, vm := .none } : Cell) = H1
        have z1 : H1.size = H.size + 1 := by rw [← hH1, Array.size_push]
        have e1 : H1[H.size]? = some (arrV cA n.toNatClampNeg (fun _ => .null)) := by rw [← hH1, Array.getElem?_push_size, ← arrV_new]
        have o1 : ∀ q : Nat, q < H.size → H1[q]? = H[q]? := fun q hq => by rw [← hH1, Array.getElem?_push, if_neg (Nat.ne_of_lt hq)]
        have hcA : cA = Z.2.1.2.1 := by
          obtain ⟨_, _, -, -, -, g4⟩ := (hU.1.2 1 _ rfl).2
          exact Option.some.inj (f1.symm.trans g4)
        subst hcA
        have hadr : zcv Z (.ref S.1.length) = .ref H.size := by
          show Value.ref (zadr Z S.1.length) = _
          rw [zadr3 hT.1.2.2.1, hT.1.2.1]
        have K := kk H1 locs ls (zT_push hT rfl (fun _ _ _ => rfl) (fun _ _ _ => rfl) ?_ z1 o1 hT.2.2)
        · rw [List.map_cons, hadr] at K
          exact K
        · show H1[H.size]? = some (vp_cell Z.2.1.2.1 ((List.replicate n.toNatClampNeg none).length, .inr (.inr (.inr (.inr (fun j => ((List.replicate n.toNatClampNeg none).getD j none).map (zadr Z)))))))
          rw [e1, vp_cell_q, List.length_replicate]
          congr 2
          funext q
          rw [zrep_none]
          rfl
    · cases h
  · cases h
end ZSTEP2
