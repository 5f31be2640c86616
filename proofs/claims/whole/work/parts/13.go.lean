section ZGO
variable {l : Launch} {Z : zZ}
/-- the contract of a method, out of its run in small -/
theorem zmet {f d' mi' : Nat} {as : List Value} {S S1 : zS} {v1 : Option Value} {M' : zM} (hM' : zProg[mi']? = some M') (hlt : mi' < 212) (hpl : (zplace as).length ≤ M'.2.2.1) (hcall : zrun f d' mi' 0 (zent M'.2.2.1 as) [] S = some (v1, S1)) (h1 : zc S ≤ zc S1 ∧ zs S ≤ zs S1) : Met l M'.1 (zco M' :: zWs) (zRm d' (zc S1 - zc S) (zs S1 - zs S)) (zPc Z as S) (zQc Z v1 S1) (zc S1 - zc S) (zs S1 - zs S) (zA Z) := by
  have hpr := zpr_at hM' hlt
  unfold zprP at hpr
  simp only [Bool.and_eq_true, decide_eq_true_eq] at hpr
  obtain ⟨hpn, hmh, hml20, hcn, hcn2⟩ := hpr
  refine Met.ofW (cc := M'.2.1) (maxL := M'.2.2.1) (ret := M'.2.2.2.1) hpn rfl ?_
  intro p' e' s' m' args' below' meth' c' s₁ B hml hv
  obtain ⟨hargs, hH, hU⟩ := hv
  subst hargs
  have hts' : ∀ w ∈ zco M' :: zWs, w.before ((as.map (zcv Z)).toArray) s' = true := atoms_spec (ws := zco M' :: zWs) B.pre
  have hC' : zC Z M' p' (headSpec (zco M' :: zWs) (zRm d' (zc S1 - zc S) (zs S1 - zs S))).room s' m' ((as.map (zcv Z)).toArray) meth' c' d' := by
    refine ⟨B.exec, B.bytes, hml, findClass_of_methodNamed B.named, fun w hw => hts' w (List.mem_cons_of_mem _ hw), fun g => (name_of_methodNamed B.named B.method).1.trans g, hU, Nat.le_refl _, Nat.le_refl _, hcn, hcn2⟩
  have hlk : meth'.locks = false := B.notSynchronized
  have hrt := B.returns
  have hl := lv_entry (as.map (zcv Z)) (n := M'.2.2.1) (by rw [zplace_len]; exact hpl)
  rw [lg_entry_eq]
  generalize (lg_sl (as.map (zcv Z)) ++ List.replicate (M'.2.2.1 - (lg_sl (as.map (zcv Z))).length) Slot.unset).toArray = ls' at hl ⊢
  refine zsound f (cells := 0) (slots := 0) (mc := zc S1 - zc S) (ms := zs S1 - zs S) (Q := MQ below' (zQc Z v1 S1) ((as.map (zcv Z)).toArray) s' (zc S1 - zc S) (zs S1 - zs S) (zA Z)) (st := []) hcall hM' hC' ⟨hH, va_S.rf, zL_ent hl hpl⟩ (by omega) (by omega) (Nat.le_refl _) (Nat.le_refl _) ?_
  intro pc2 ls2 H2 locs2 hr hS2 hH2
  rcases hr with ⟨x, rfl, hdr, hty⟩ | ⟨x, rfl, hdr, hty⟩ | ⟨rfl, hdr, hty⟩
  · rcases hty with hty | ⟨hty, h01⟩
    · exact W.iret B.exec B.bytes (hrt.trans hty) (fun t ht hW => ⟨rfl, by rw [ht]; exact hH2, hS2.F ht⟩) hS2.2.2 hdr
    · exact W.zret B.exec B.bytes (hrt.trans hty) (by rcases h01 with rfl | rfl <;> rfl) (fun t ht hW => ⟨rfl, by rw [ht]; exact hH2, hS2.F ht⟩) hS2.2.2 hdr
  · exact W.lret B.exec B.bytes (hrt.trans hty) (fun t ht hW => ⟨rfl, by rw [ht]; exact hH2, hS2.F ht⟩) hS2.2.2 hdr
  · exact W.vret B.exec B.bytes (hrt.trans hty) (fun t ht hW => ⟨rfl, by rw [ht]; exact hH2, hS2.F ht⟩) hS2.2.2 hdr
/-- a run within one frame, up to a place -/
def zgo : Nat → Nat → Nat → Nat → Nat → List Value → List Value → zS → Option (List Value × List Value × zS)
  | 0, _, _, _, _, _, _, _ => none
  | f + 1, d, mi, tgt, pc, lo, st, S => if pc = tgt then some (lo, st, S) else match zstep mi pc lo st S with
    | some (.inl (pc', lo', st', S')) => if zle S S' then zgo f d mi tgt pc' lo' st' S' else none
    | some (.inr (.inl (mi', as, pc', rest))) => (match d with
      | 0 => none
      | d' + 1 => if (zplace as).length ≤ zmax mi' then (match zrun f d' mi' 0 (zent (zmax mi') as) [] S with
        | none => none
        | some (v, S') => zgo f (d' + 1) mi tgt pc' lo (v.toList ++ rest) S') else none)
    | _ => none
theorem zgo_mono {f : Nat} : ∀ {d mi tgt pc : Nat} {lo st : List Value} {S : zS} {r : List Value × List Value × zS}, zgo f d mi tgt pc lo st S = some r → zc S ≤ zc r.2.2 ∧ zs S ≤ zs r.2.2 := by
  induction f with
  | zero => intro d mi tgt pc lo st S r h; cases h
  | succ f ih =>
    intro d mi tgt pc lo st S r h
    rw [zgo] at h
    split at h
    · cases h
      exact ⟨Nat.le_refl _, Nat.le_refl _⟩
    · split at h
      · split at h
        · next hz =>
          have h1 := ih h
          unfold zle at hz
          simp only [Bool.and_eq_true, decide_eq_true_eq] at hz
          exact ⟨Nat.le_trans hz.1 h1.1, Nat.le_trans hz.2 h1.2⟩
        · cases h
      · split at h
        · cases h
        · split at h
          · split at h
            · cases h
            · next hc =>
              have h1 := zrun_mono hc
              have h2 := ih h
              exact ⟨Nat.le_trans h1.1 h2.1, Nat.le_trans h1.2 h2.2⟩
          · cases h
      · cases h
theorem zgo_sound (f : Nat) : ∀ {d mi : Nat} {M : zM} {tgt pc : Nat} {lo st : List Value} {S : zS} {lo' st' : List Value} {S' : zS}, zgo f d mi tgt pc lo st S = some (lo', st', S') → zProg[mi]? = some M →
    ∀ {p : Program} {e : Env} {R : Room} {s : State} {m : MethodId} {args : Array Value} {below : List Frame} {meth : Method} {c : Code} {H : Heap} {locs : List Loc} {cells slots : Nat} {Q : State → Prop} {ls : Array Slot} {mc ms : Nat}, zC Z M p R s m args meth c d → zT Z s M S H locs ls lo → cells + zc S' = mc + zc S → slots + zs S' = ms + zs S → mc ≤ R.cells → ms ≤ R.slots →
    (∀ (ls : Array Slot) (H : Heap) (locs : List Loc), zT Z s M S' H locs ls lo' → W p l e R s m args below meth c H locs mc ms Q (F0 m tgt ls (st'.map (zcv Z)))) →
    W p l e R s m args below meth c H locs cells slots Q (F0 m pc ls (st.map (zcv Z))) := by
  induction f with
  | zero => intro d mi M tgt pc lo st S lo' st' S' h; cases h
  | succ f ih =>
    intro d mi M tgt pc lo st S lo' st' S' h hM p e R s m args below meth c H locs cells slots Q ls mc ms hC hT hcc hss hRc hRs kr
    have hmono := zgo_mono h
    rw [zgo] at h
    split at h
    · next hpc =>
      cases h
      subst hpc
      have e1 : cells = mc := by omega
      have e2 : slots = ms := by omega
      subst e1
      subst e2
      exact kr ls H locs hT
    · split at h
      · next pc1 lo1 st1 S1 hst =>
        split at h
        · next hz =>
          obtain ⟨ins, len, hd, hx⟩ := zstep_at hM hst
          have h1 := zgo_mono h
          unfold zle at hz
          simp only [Bool.and_eq_true, decide_eq_true_eq] at hz
          dsimp only at h1
          refine zexec_next hd hx hC hT (by omega) (by omega) (fun H' locs' ls' hT' => ?_)
          exact ih h hM hC hT' (by omega) (by omega) hRc hRs kr
        · cases h
      · next mi' as pc1 rest hst =>
        split at h
        · cases h
        · next d' =>
          split at h
          · next hpl =>
            split at h
            · cases h
            · next v1 S1 hcall =>
              obtain ⟨ins, len, hd, hx⟩ := zstep_at hM hst
              have h1 := zrun_mono hcall
              have h2 := zgo_mono h
              dsimp only at h1 h2
              cases hM' : zProg[mi']? with
              | none =>
                cases f with
                | zero => cases hcall
                | succ f =>
                  rw [zrun] at hcall
                  unfold zstep at hcall
                  rw [hM'] at hcall
                  cases hcall
              | some M' =>
                have hmx : zmax mi' = M'.2.2.1 := by unfold zmax; rw [hM']
                rw [hmx] at hpl hcall
                have hRf := hC.2.2.2.2.2.2.2.1
                have hRl := hC.2.2.2.2.2.2.2.2.1
                refine zexec_call (v := v1) (S' := S1) (mc := zc S1 - zc S) (ms := zs S1 - zs S) (rm := zRm d' (zc S1 - zc S) (zs S1 - zs S)) hd hx hC hT hM' (fun hlt => zmet hM' hlt hpl hcall h1) rfl rfl (by show d' + 1 + 1 ≤ _; omega) ?_ ⟨by omega, by omega⟩ (fun H' locs' hT' => ?_)
                · intro hlt
                  have hpr := zpr_at hM' hlt
                  unfold zprP at hpr
                  simp only [Bool.and_eq_true, decide_eq_true_eq] at hpr
                  obtain ⟨-, -, hml20, -, -⟩ := hpr
                  show 8 + (M'.2.2.1 + 11) + 64 * (d' + 1) ≤ R.locals
                  omega
                · exact ih h hM hC hT' (by omega) (by omega) hRc hRs kr
          · cases h
      · cases h
end ZGO
