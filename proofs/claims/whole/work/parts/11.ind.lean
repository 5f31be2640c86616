section ZIND
variable {p : Program} {l : Launch} {e : Env} {R : Room} {s : State} {m : MethodId} {args : Array Value} {below : List Frame} {meth : Method} {c : Code} {H : Heap} {locs : List Loc} {cells slots : Nat} {Q : State → Prop} {Z : zZ} {M : zM} {d : Nat} {ls : Array Slot}
variable {len pc pc' : Nat} {lo lo' st st' : List Value} {S S' : zS}

def zPc (Z : zZ) (as : List Value) (S : zS) : Array Value → State → Prop := va_Pc (as.map (zcv Z)) (fun U => zH Z S U.heap ∧ zU Z U)
def zQc (Z : zZ) (v : Option Value) (S' : zS) : Array Value → State → Outcome → State → Prop := fun _ st o t => o = .returned (v.map (zcv Z)) ∧ zH Z S' t.heap ∧ va_F (zA Z) st t
theorem zblind (Z : zZ) (as : List Value) (S : zS) : FrameBlind (zPc Z as S) := fun a U g mk h => ⟨h.1, h.2.1, zU_moved (locs := []) h.2.2 (State.WarmedH.refl U) va_S.rf rfl⟩
theorem zpre (hU : zU Z s) (hT : zT Z s M S H locs ls lo) (as : List Value) : PreS s H (zPc Z as S) (as.map (zcv Z)) :=
  ⟨zblind Z as S, fun U hh hW => ⟨rfl, by rw [hh]; exact hT.1, zU_moved hU hW hT.2.1 hh⟩⟩
theorem zfin {rest st0 : List Value} {v : Option Value} {a : Array Value} {mc ms : Nat} (hr : va_Run p l e R s m args below meth c H locs cells slots mc ms (F0 m pc ls st0) (rest.map (zcv Z)) (zQc Z v S' a) (zA Z)) (hT : zT Z s M S H locs ls lo)
    (kk : ∀ (H' : Heap) (locs' : List Loc), zT Z s M S' H' locs' ls lo → W p l e R s m args below meth c H' locs' (cells + mc) (slots + ms) Q (F0 m (pc + 3) ls ((v.toList ++ rest).map (zcv Z)))) : W p l e R s m args below meth c H locs cells slots Q (F0 m pc ls st0) := by
  intro T hTh X
  obtain ⟨v', st₀, t, T', L, h0, X', hL, e1, e2, ⟨hv, hH, hF⟩, stp⟩ := hr T hTh X
  cases hv
  have hS := hT.2.1
  obtain ⟨t2, a1, b1⟩ := kk t.heap (locs ++ L) ⟨hH, ⟨Nat.le_trans hS.1 (by rw [← h0]; exact hF.1), fun q h1 h2 => by
      rw [hF.2 q (by rw [h0]; exact Nat.lt_of_lt_of_le h1 hS.1) h2, h0]
      exact hS.2.1 q h1 h2, fun q hq => by
      rcases List.mem_append.mp hq with h | h
      · exact hS.2.2 q h
      · exact hL q h⟩, hT.2.2⟩ T' e1 X'
  refine ⟨t2, stp t2 ?_, b1⟩
  rw [List.map_append] at a1
  cases v with
  | none => exact a1
  | some v => exact a1
theorem zcall_inv {ins : Instr} {idx kd : Nat} (hd : decode M.2.1 pc = .ok (ins, 3)) {mi' : Nat} {as rest : List Value} (hi : (kd = 0 ∧ ins = .invokevirtual idx) ∨ (kd = 1 ∧ ins = .invokestatic idx) ∨ (kd = 2 ∧ ins = .invokespecial idx)) (h : zinv M idx kd (pc + 3) lo S st = some (.inr (.inl (mi', as, pc', rest)))) (hC : zC Z M p R s m args meth c d) (hT : zT Z s M S H locs ls lo) {M' : zM} (hM' : zProg[mi']? = some M') {v : Option Value} {rm : Room} {mc ms : Nat} (hMet : mi' < 212 → Met l M'.1 (zco M' :: zWs) rm (zPc Z as S) (zQc Z v S') mc ms (zA Z))
    (hrc : rm.cells = mc) (hrs : rm.slots = ms) (hrf : rm.frames + 1 ≤ R.frames) (hrl : mi' < 212 → 8 + (M'.2.2.1 + 11) + rm.locals ≤ R.locals) (hf : cells + mc ≤ R.cells ∧ slots + ms ≤ R.slots) (kk : ∀ (H' : Heap) (locs' : List Loc), zT Z s M S' H' locs' ls lo → W p l e R s m args below meth c H' locs' (cells + mc) (slots + ms) Q (F0 m pc' ls ((v.toList ++ rest).map (zcv Z)))) : W p l e R s m args below meth c H locs cells slots Q (F0 m pc ls (st.map (zcv Z))) := by
  obtain ⟨hx, hb, hml, hown, hts, hnm, hU, hRf, hRl, hcn, hcn2⟩ := hC
  have hsz : ls.size = M.2.2.1 := hT.2.2.2.1
  unfold zinv at h
  split at h
  · next t mi ps hlk =>
    obtain ⟨p1, p2, p3, p4⟩ := ps
    obtain ⟨hfo, ho, hidx⟩ := zml_own hlk hcn
    unfold zmlP at hfo
    dsimp only at hfo
    rw [ho, hidx] at hfo
    dsimp only at hfo
    split at h
    · split at h
      · split at h <;> cases h
      · cases h
    · split at h
      · split at h
        · split at h <;> cases h
        · cases h
      · cases h
    · split at h
      · split at h <;> cases h
      · cases h
    · split at h
      · split at h <;> cases h
      · cases h
    · next n3 n4 n7 n8 =>
      split at h
      · next M2 hM2 =>
        have fix : CallFix p m c M.2.1 M.2.2.1 s args zWs M.1.cls := ⟨hx, hb, hml, hown, hts⟩
        split at hfo
        · exact absurd rfl n3
        · exact absurd rfl n4
        · exact absurd rfl n7
        · exact absurd rfl n8
        rw [hM2] at hfo
        dsimp only at hfo
        simp only [Bool.and_eq_true, decide_eq_true_eq] at hfo
        obtain ⟨hlt, hini, hfo⟩ := hfo
        have hpr := zpr_at hM2 hlt
        unfold zprP at hpr
        simp only [Bool.and_eq_true, decide_eq_true_eq] at hpr
        obtain ⟨-, hmh, -, -⟩ := hpr
        have hG : GoodIn zWs (zco M2 :: zWs) := fun w hw => by
          rcases List.mem_cons.mp hw with rfl | hw
          · exact zWs_good _ (zco_ok hM2 hlt)
          · exact zWs_good w hw
        have CB : ∀ (y : MethodName), (Cond.methodLink M.1.cls idx M2.1).before args s = true → rm.frames + 1 ≤ R.frames ∧ 8 + (M2.2.2.1 + 11) + rm.locals ≤ R.locals → CallB R s args M.1.cls idx M2.1 M2.2.1 M2.2.2.1 M2.2.2.2.1 (zco M2 :: zWs) rm mc ms M2.2.2.2.2.2.2 := fun _ hl hR => callB_of M2.2.2.2.2.2.2 hts hG rfl hrc hrs (hts _ (zat_mem hini)) hl hmh hR
        split at h
        · split at h
          · next k rest0 hdrop =>
            split at h
            · next ci rs he =>
              split at h
              · next hcd =>
                obtain ⟨rfl, hcls, hci, hcat⟩ := hcd
                cases h
                cases hM'.symm.trans hM2
                simp only [Bool.and_eq_true] at hfo
                have hn : M'.2.2.2.2.2.2 < st.length := by
                  rcases Nat.lt_or_ge M'.2.2.2.2.2.2 st.length with g | g
                  · exact g
                  · rw [List.drop_eq_nil_of_le g] at hdrop; cases hdrop
                have hst : st.map (zcv Z) = (((st.take M'.2.2.2.2.2.2).reverse).map (zcv Z)).reverse ++ .ref (zadr Z k) :: rest.map (zcv Z) := by
                  rw [← List.map_reverse, List.reverse_reverse, show Value.ref (zadr Z k) :: rest.map (zcv Z) = (Value.ref k :: rest).map (zcv Z) from rfl, ← hdrop, ← List.map_append, List.take_append_drop]
                have h3 := zI0_k3 hT.1.2.2 he (zI0_ci hci)
                obtain ⟨q, hq⟩ : ∃ q, vwCl[ci]? = some q := by
                  match ci, hci with
                  | 0, _ => exact ⟨_, rfl⟩
                  | 1, _ => exact ⟨_, rfl⟩
                  | 2, _ => exact ⟨_, rfl⟩
                  | 3, _ => exact ⟨_, rfl⟩
                  | 4, _ => exact ⟨_, rfl⟩
                obtain ⟨_, -, -, -, -, -, -, -, hcq⟩ := zcl_ok hq
                have hqc : q.1 = M'.1.cls := Option.some.inj (hcq.symm.trans hcls)
                have hrcv := va_recv hU.1 (zP1 (hT.1.1 k _ h3 he)) (q0 := 0) hq rfl
                rw [hqc] at hrcv
                rcases hi with ⟨-, rfl⟩ | ⟨g, -⟩ | ⟨g, -⟩
                · have hp := zpre hU hT (.ref k :: (st.take M'.2.2.2.2.2.2).reverse)
                  exact zfin (a := (Value.ref (zadr Z k) :: ((st.take M'.2.2.2.2.2.2).reverse).map (zcv Z)).toArray) (va_runV (C := M'.1.cls) (g := F0 m pc ls (st.map (zcv Z))) fix (hMet hlt) ⟨CB M'.1 (hts _ (zat_mem hfo.1)) ⟨hrf, hrl hlt⟩, hts _ (zat_mem hfo.2.1), hts _ (zat_mem hfo.2.2)⟩ ⟨hp.1, hrcv, hp.2⟩ rfl (by simp; omega) hsz hst (by show 2 * 0 + _ ≤ 8; rw [zcat_map]; omega) hd hf) hT kk
                · cases g
                · cases g
              · cases h
            · cases h
          · cases h
        · split at h
          · next hcd =>
            obtain ⟨rfl, hcat, hn⟩ := hcd
            cases h
            cases hM'.symm.trans hM2
            simp only [Bool.and_eq_true] at hfo
            have hst : st.map (zcv Z) = (((st.take M'.2.2.2.2.2.2).reverse).map (zcv Z)).reverse ++ (st.drop M'.2.2.2.2.2.2).map (zcv Z) := by
              rw [← List.map_reverse, List.reverse_reverse, ← List.map_append, List.take_append_drop]
            rcases hi with ⟨g, -⟩ | ⟨-, rfl⟩ | ⟨g, -⟩
            · cases g
            · exact zfin (a := (((st.take M'.2.2.2.2.2.2).reverse).map (zcv Z)).toArray) (va_runS (g := F0 m pc ls (st.map (zcv Z))) fix (hMet hlt) ⟨CB M'.1 (hts _ (zat_mem hfo.1)) ⟨hrf, hrl hlt⟩, hts _ (zat_mem hfo.2)⟩ (zpre hU hT _) rfl (by simp; omega) hsz hst (by show 2 * 0 + _ ≤ 8; rw [zcat_map]; omega) hd hf) hT kk
            · cases g
          · cases h
        · split at h
          · next hcd =>
            obtain ⟨rfl, hcat, hn⟩ := hcd
            cases h
            cases hM'.symm.trans hM2
            simp only [Bool.and_eq_true, decide_eq_true_eq] at hfo
            have hst : st.map (zcv Z) = (((st.take M'.2.2.2.2.2.2).reverse).map (zcv Z)).reverse ++ (st.drop M'.2.2.2.2.2.2).map (zcv Z) := by
              rw [← List.map_reverse, List.reverse_reverse, ← List.map_append, List.take_append_drop]
            have hnw : va_Nw (.methodLinkNest M.1.cls idx M'.1 "CubeHops") s := hU.2.2.2.2.2.2.2.2.2.1 _ (List.mem_filter.mpr ⟨List.mem_of_getElem? hfo.1, rfl⟩)
            rcases hi with ⟨g, -⟩ | ⟨-, rfl⟩ | ⟨g, -⟩
            · cases g
            · exact zfin (a := (((st.take M'.2.2.2.2.2.2).reverse).map (zcv Z)).toArray) (va_runSN (g := F0 m pc ls (st.map (zcv Z))) (host := "CubeHops") fix (hMet hlt) ⟨va_cnB M'.2.2.2.2.2.2 hts hG rfl hrc hrs hnw (hts _ (zat_mem hini)) hmh ⟨hrf, hrl hlt⟩, hts _ (zat_mem hfo.2), trivial⟩ (zpre hU hT _) rfl (by simp; omega) hsz hst (by show 2 * 0 + _ ≤ 8; rw [zcat_map]; omega) hd hf) hT kk
            · cases g
          · cases h
        · split at h
          · next k rest0 hdrop =>
            split at h
            · next hcd =>
              obtain ⟨rfl, hcat⟩ := hcd
              cases h
              cases hM'.symm.trans hM2
              simp only [Bool.and_eq_true, decide_eq_true_eq] at hfo
              have hn : M'.2.2.2.2.2.2 < st.length := by
                rcases Nat.lt_or_ge M'.2.2.2.2.2.2 st.length with g | g
                · exact g
                · rw [List.drop_eq_nil_of_le g] at hdrop; cases hdrop
              have hst : st.map (zcv Z) = (((st.take M'.2.2.2.2.2.2).reverse).map (zcv Z)).reverse ++ .ref (zadr Z k) :: rest.map (zcv Z) := by
                rw [← List.map_reverse, List.reverse_reverse, show Value.ref (zadr Z k) :: rest.map (zcv Z) = (Value.ref k :: rest).map (zcv Z) from rfl, ← hdrop, ← List.map_append, List.take_append_drop]
              have CB2 := CB M'.1 (hts _ (zat_mem hfo.1)) ⟨hrf, hrl hlt⟩
              rw [hfo.2.2.2] at CB2
              rcases hi with ⟨g, -⟩ | ⟨g, -⟩ | ⟨-, rfl⟩
              · cases g
              · cases g
              · exact zfin (a := (Value.ref (zadr Z k) :: ((st.take M'.2.2.2.2.2.2).reverse).map (zcv Z)).toArray) (va_runI (g := F0 m pc ls (st.map (zcv Z))) fix (hMet hlt) ⟨CB2, hfo.2.2.1, hts _ (zat_mem hfo.2.1)⟩ (zpre hU hT (.ref k :: (st.take M'.2.2.2.2.2.2).reverse)) rfl (by simp; omega) hsz hst (by show 2 * 0 + _ ≤ 8; rw [zcat_map]; omega) hd hf) hT kk
            · cases h
          · cases h
        · split at h
          · next k rest0 hdrop =>
            split at h
            · next hcd =>
              obtain ⟨rfl, hcat⟩ := hcd
              cases h
              cases hM'.symm.trans hM2
              simp only [Bool.and_eq_true, decide_eq_true_eq] at hfo
              have hn : M'.2.2.2.2.2.2 < st.length := by
                rcases Nat.lt_or_ge M'.2.2.2.2.2.2 st.length with g | g
                · exact g
                · rw [List.drop_eq_nil_of_le g] at hdrop; cases hdrop
              have hst : st.map (zcv Z) = (((st.take M'.2.2.2.2.2.2).reverse).map (zcv Z)).reverse ++ .ref (zadr Z k) :: rest.map (zcv Z) := by
                rw [← List.map_reverse, List.reverse_reverse, show Value.ref (zadr Z k) :: rest.map (zcv Z) = (Value.ref k :: rest).map (zcv Z) from rfl, ← hdrop, ← List.map_append, List.take_append_drop]
              have hnw : va_Nw (.methodLinkNest M.1.cls idx M'.1 "CubeHops") s := hU.2.2.2.2.2.2.2.2.2.1 _ (List.mem_filter.mpr ⟨List.mem_of_getElem? hfo.1, rfl⟩)
              have hret : M'.2.2.2.1 = none := hfo.2.2.2
              have hw : zco M' :: zWs = Cond.code M'.1 M'.2.1 M'.2.2.1 none :: zWs := by unfold zco; rw [hret]
              rcases hi with ⟨g, -⟩ | ⟨g, -⟩ | ⟨-, rfl⟩
              · cases g
              · cases g
              · exact zfin (a := (Value.ref (zadr Z k) :: ((st.take M'.2.2.2.2.2.2).reverse).map (zcv Z)).toArray) (va_runIN (g := F0 m pc ls (st.map (zcv Z))) (host := "CubeHops") fix (hMet hlt) ⟨va_cnB M'.2.2.2.2.2.2 hts hG hw hrc hrs hnw (hts _ (zat_mem hini)) hmh ⟨hrf, hrl hlt⟩, hfo.2.2.1, hts _ (zat_mem hfo.2.1)⟩ (zpre hU hT (.ref k :: (st.take M'.2.2.2.2.2.2).reverse)) rfl (by simp; omega) hsz hst (by show 2 * 0 + _ ≤ 8; rw [zcat_map]; omega) hd hf) hT kk
            · cases h
          · cases h
        · cases h
      · cases h
  · cases h
def zNC (r : Option zR) : Prop := ∀ x, r ≠ some (.inr x)
theorem zNC_none : zNC none := fun x h => by cases h
theorem zNC_nx {pc : Nat} {lo st : List Value} {S : zS} : zNC (znx pc lo st S) := fun x h => by unfold znx at h; cases h
theorem zNC_zii {f : Int32 → Int32 → Int32} {pc : Nat} {lo st : List Value} {S : zS} : zNC (zii f pc lo S st) := by
  unfold zii
  repeat' split
  all_goals first | exact zNC_none | exact zNC_nx
theorem zNC_zll {f : Int64 → Int64 → Int64} {pc : Nat} {lo st : List Value} {S : zS} : zNC (zll f pc lo S st) := by
  unfold zll
  repeat' split
  all_goals first | exact zNC_none | exact zNC_nx
theorem zNC_ziiD {f : Int32 → Int32 → Int32} {pc : Nat} {lo st : List Value} {S : zS} : zNC (ziiD f pc lo S st) := by
  unfold ziiD
  repeat' split
  all_goals first | exact zNC_none | exact zNC_nx
theorem zNC_zllD {f : Int64 → Int64 → Int64} {pc : Nat} {lo st : List Value} {S : zS} : zNC (zllD f pc lo S st) := by
  unfold zllD
  repeat' split
  all_goals first | exact zNC_none | exact zNC_nx
theorem zNC_zli {f : Int64 → Int32 → Int64} {pc : Nat} {lo st : List Value} {S : zS} : zNC (zli f pc lo S st) := by
  unfold zli
  repeat' split
  all_goals first | exact zNC_none | exact zNC_nx
theorem zNC_zjp {pc : Nat} {off : Int} {lo st : List Value} {S : zS} : zNC (zjp pc off lo st S) := by
  unfold zjp
  repeat' split
  all_goals first | exact zNC_none | exact zNC_nx
theorem zNC_zbr {b : Bool} {pc : Nat} {off : Int} {lo st : List Value} {S : zS} : zNC (zbr b pc off lo st S) := by
  unfold zbr
  repeat' split
  all_goals first | exact zNC_none | exact zNC_nx
theorem zNC_zld {i pc t : Nat} {lo st : List Value} {S : zS} : zNC (zld i pc t lo st S) := by
  unfold zld
  repeat' split
  all_goals first | exact zNC_none | exact zNC_nx
theorem zNC_zso {i pc t : Nat} {lo st : List Value} {S : zS} : zNC (zso i pc t lo S st) := by
  unfold zso
  repeat' split
  all_goals first | exact zNC_none | exact zNC_nx
theorem zNC_zgetf {i pc : Nat} {lo st : List Value} {S : zS} : zNC (zgetf M i pc lo S st) := by
  unfold zgetf
  repeat' split
  all_goals first | exact zNC_none | exact zNC_nx
theorem zNC_zputf {i pc : Nat} {lo st : List Value} {S : zS} : zNC (zputf M i pc lo S st) := by
  unfold zputf
  repeat' split
  all_goals first | exact zNC_none | exact zNC_nx
theorem zNC_zald {pc : Nat} {lo st : List Value} {S : zS} : zNC (zald pc lo S st) := by
  unfold zald
  repeat' split
  all_goals first | exact zNC_none | exact zNC_nx
theorem zNC_zast {pc : Nat} {lo st : List Value} {S : zS} : zNC (zast pc lo S st) := by
  unfold zast
  repeat' split
  all_goals first | exact zNC_none | exact zNC_nx
theorem zNC_zaald {pc : Nat} {lo st : List Value} {S : zS} : zNC (zaald pc lo S st) := by
  unfold zaald
  repeat' split
  all_goals first | exact zNC_none | exact zNC_nx
theorem zNC_zaast {pc : Nat} {lo st : List Value} {S : zS} : zNC (zaast pc lo S st) := by
  unfold zaast
  repeat' split
  all_goals first | exact zNC_none | exact zNC_nx
theorem zNC_zalen {pc : Nat} {lo st : List Value} {S : zS} : zNC (zalen pc lo S st) := by
  unfold zalen
  repeat' split
  all_goals first | exact zNC_none | exact zNC_nx
theorem zNC_znew {i pc : Nat} {lo st : List Value} {S : zS} : zNC (znew M i pc lo st S) := by
  unfold znew
  repeat' split
  all_goals first | exact zNC_none | exact zNC_nx
theorem zNC_znewa {pc : Nat} {lo st : List Value} {S : zS} : zNC (znewa pc lo S st) := by
  unfold znewa
  repeat' split
  all_goals first | exact zNC_none | exact zNC_nx
theorem zNC_zanew {i pc : Nat} {lo st : List Value} {S : zS} : zNC (zanew M i pc lo S st) := by
  unfold zanew
  repeat' split
  all_goals first | exact zNC_none | exact zNC_nx
theorem zNC_zmnew {i pc : Nat} {lo st : List Value} {S : zS} : zNC (zmnew M i pc lo S st) := by
  unfold zmnew
  repeat' split
  all_goals first | exact zNC_none | exact zNC_nx
theorem zNC_zret {i : Nat} {st : List Value} (x : Nat × List Value × Nat × List Value) : zret M i st ≠ some (.inr (.inl x)) := by
  unfold zret
  repeat' split
  all_goals (intro h; cases h)
theorem zNR_zinv {i kd pc : Nat} {lo st : List Value} {S : zS} (x : Option Value) : zinv M i kd pc lo S st ≠ some (.inr (.inr x)) := by
  unfold zinv
  repeat' split
  all_goals (intro h; first | (cases h; done) | exact absurd h (zNC_nx _))
theorem zexec_call {ins : Instr} (hd : decode M.2.1 pc = .ok (ins, len)) {mi' : Nat} {as rest : List Value} (h : zexec M ins len pc lo st S = some (.inr (.inl (mi', as, pc', rest)))) (hC : zC Z M p R s m args meth c d) (hT : zT Z s M S H locs ls lo) {M' : zM} (hM' : zProg[mi']? = some M') {v : Option Value} {rm : Room} {mc ms : Nat} (hMet : mi' < 212 → Met l M'.1 (zco M' :: zWs) rm (zPc Z as S) (zQc Z v S') mc ms (zA Z))
    (hrc : rm.cells = mc) (hrs : rm.slots = ms) (hrf : rm.frames + 1 ≤ R.frames) (hrl : mi' < 212 → 8 + (M'.2.2.1 + 11) + rm.locals ≤ R.locals) (hf : cells + mc ≤ R.cells ∧ slots + ms ≤ R.slots) (kk : ∀ (H' : Heap) (locs' : List Loc), zT Z s M S' H' locs' ls lo → W p l e R s m args below meth c H' locs' (cells + mc) (slots + ms) Q (F0 m pc' ls ((v.toList ++ rest).map (zcv Z)))) : W p l e R s m args below meth c H locs cells slots Q (F0 m pc ls (st.map (zcv Z))) := by
  cases ins
  case newarray ty =>
    cases ty <;> first | (cases h; done) | (simp only [zexec] at h; split at h; exact absurd h (zNC_znewa _); cases h)
  case multianewarray idx dm =>
    cases dm with
    | zero => cases h
    | succ n =>
      cases n with
      | zero => cases h
      | succ n =>
        cases n with
        | zero => simp only [zexec] at h; split at h; exact absurd h (zNC_zmnew _); cases h
        | succ n => simp [zexec] at h
  all_goals simp only [zexec] at h
  case invokevirtual idx =>
    split at h
    · next hl =>
      subst hl
      exact zcall_inv hd (Or.inl ⟨rfl, rfl⟩) h hC hT hM' hMet hrc hrs hrf hrl hf kk
    · cases h
  case invokestatic idx =>
    split at h
    · next hl =>
      subst hl
      exact zcall_inv hd (Or.inr (Or.inl ⟨rfl, rfl⟩)) h hC hT hM' hMet hrc hrs hrf hrl hf kk
    · cases h
  case invokespecial idx =>
    split at h
    · next hl =>
      subst hl
      exact zcall_inv hd (Or.inr (Or.inr ⟨rfl, rfl⟩)) h hC hT hM' hMet hrc hrs hrf hrl hf kk
    · cases h
  all_goals first
    | (cases h; done)
    | (exact absurd h (zNC_zjp _))
    | (repeat' split at h) <;> first | (cases h; done) | exact absurd h (zNC_none _) | exact absurd h (zNC_nx _) | exact absurd h (zNC_zii _) | exact absurd h (zNC_zll _) | exact absurd h (zNC_ziiD _) | exact absurd h (zNC_zllD _) | exact absurd h (zNC_zli _) | exact absurd h (zNC_zjp _) | exact absurd h (zNC_zbr _) | exact absurd h (zNC_zld _) | exact absurd h (zNC_zso _) | exact absurd h (zNC_zgetf _) | exact absurd h (zNC_zputf _) | exact absurd h (zNC_zald _) | exact absurd h (zNC_zast _) | exact absurd h (zNC_zaald _) | exact absurd h (zNC_zaast _) | exact absurd h (zNC_zalen _) | exact absurd h (zNC_znew _) | exact absurd h (zNC_znewa _) | exact absurd h (zNC_zanew _) | exact absurd h (zNC_zmnew _) | exact absurd h (zNC_zret _)
/-- where a method ends -/
def zRt (M : zM) (pc : Nat) (v : Option Value) : Prop := (∃ x : Int32, v = some (.int x) ∧ decode M.2.1 pc = .ok (.ireturn, 1) ∧ (M.2.2.2.1 = some .int ∨ (M.2.2.2.1 = some .boolean ∧ (x = 0 ∨ x = 1)))) ∨ (∃ x : Int64, v = some (.long x) ∧ decode M.2.1 pc = .ok (.lreturn, 1) ∧ M.2.2.2.1 = some .long) ∨ (v = none ∧ decode M.2.1 pc = .ok (.return_, 1) ∧ M.2.2.2.1 = none)
theorem zexec_ret {ins : Instr} (hd : decode M.2.1 pc = .ok (ins, len)) {v : Option Value} (h : zexec M ins len pc lo st S = some (.inr (.inr v))) : zRt M pc v ∧ st = v.toList := by
  cases ins
  case newarray ty =>
    cases ty <;> first | (cases h; done) | (simp only [zexec] at h; split at h; exact absurd h (zNC_znewa _); cases h)
  case multianewarray idx dm =>
    cases dm with
    | zero => cases h
    | succ n =>
      cases n with
      | zero => cases h
      | succ n =>
        cases n with
        | zero => simp only [zexec] at h; split at h; exact absurd h (zNC_zmnew _); cases h
        | succ n => simp [zexec] at h
  all_goals simp only [zexec] at h
  case ireturn =>
    split at h
    · next hl =>
      subst hl
      unfold zret at h
      split at h
      · next hr => cases h; exact ⟨Or.inl ⟨_, rfl, hd, Or.inl hr⟩, rfl⟩
      · next hr =>
        split at h
        · next h01 => cases h; exact ⟨Or.inl ⟨_, rfl, hd, Or.inr ⟨hr, h01⟩⟩, rfl⟩
        · cases h
      all_goals first | (cases h; done) | (next g _ => cases g)
    · cases h
  case lreturn =>
    split at h
    · next hl =>
      subst hl
      unfold zret at h
      split at h
      all_goals first | (exfalso; omega) | (cases h; done) | (next hr => cases h; exact ⟨Or.inr (Or.inl ⟨_, rfl, hd, hr⟩), rfl⟩)
    · cases h
  case return_ =>
    split at h
    · next hl =>
      subst hl
      unfold zret at h
      split at h
      all_goals first | (exfalso; omega) | (cases h; done) | (next hr => cases h; exact ⟨Or.inr (Or.inr ⟨rfl, hd, hr⟩), rfl⟩)
    · cases h
  case invokevirtual idx =>
    split at h
    · exact absurd h (zNR_zinv _)
    · cases h
  case invokestatic idx =>
    split at h
    · exact absurd h (zNR_zinv _)
    · cases h
  case invokespecial idx =>
    split at h
    · exact absurd h (zNR_zinv _)
    · cases h
  all_goals first
    | (cases h; done)
    | (exact absurd h (zNC_zjp _))
    | (repeat' split at h) <;> first | (cases h; done) | exact absurd h (zNC_none _) | exact absurd h (zNC_nx _) | exact absurd h (zNC_zii _) | exact absurd h (zNC_zll _) | exact absurd h (zNC_ziiD _) | exact absurd h (zNC_zllD _) | exact absurd h (zNC_zli _) | exact absurd h (zNC_zjp _) | exact absurd h (zNC_zbr _) | exact absurd h (zNC_zld _) | exact absurd h (zNC_zso _) | exact absurd h (zNC_zgetf _) | exact absurd h (zNC_zputf _) | exact absurd h (zNC_zald _) | exact absurd h (zNC_zast _) | exact absurd h (zNC_zaald _) | exact absurd h (zNC_zaast _) | exact absurd h (zNC_zalen _) | exact absurd h (zNC_znew _) | exact absurd h (zNC_znewa _) | exact absurd h (zNC_zanew _) | exact absurd h (zNC_zmnew _)
end ZIND
