section ZFIN
variable {l : Launch} {Z : zZ}
theorem zrun_mono {f : Nat} : ∀ {d mi pc : Nat} {lo st : List Value} {S : zS} {r : Option Value × zS}, zrun f d mi pc lo st S = some r → zc S ≤ zc r.2 ∧ zs S ≤ zs r.2 := by
  induction f with
  | zero => intro d mi pc lo st S r h; cases h
  | succ f ih =>
    intro d mi pc lo st S r h
    rw [zrun] at h
    split at h
    · cases h
    · split at h
      · next hz =>
        have h1 := ih h
        unfold zle at hz
        simp only [Bool.and_eq_true, decide_eq_true_eq] at hz
        exact ⟨Nat.le_trans hz.1 h1.1, Nat.le_trans hz.2 h1.2⟩
      · cases h
    · cases h
      exact ⟨Nat.le_refl _, Nat.le_refl _⟩
    · split at h
      · cases h
      · split at h
        · split at h
          · cases h
          · next hc =>
            have h1 := ih hc
            have h2 := ih h
            exact ⟨Nat.le_trans h1.1 h2.1, Nat.le_trans h1.2 h2.2⟩
        · cases h
def zRm (d mc ms : Nat) : Room := { frames := d + 1, cells := mc, slots := ms, locals := 64 * (d + 1) }
theorem zstep_at {mi pc : Nat} {lo st : List Value} {S : zS} {r : zR} {M : zM} (hM : zProg[mi]? = some M) (h : zstep mi pc lo st S = some r) : ∃ ins len, decode M.2.1 pc = .ok (ins, len) ∧ zexec M ins len pc lo st S = some r := by
  unfold zstep at h
  rw [hM] at h
  dsimp only at h
  split at h
  · next ins len hd => exact ⟨ins, len, hd, h⟩
  · cases h
/-- THE MACHINE FOLLOWS: what the machine in small comes to, the machine comes to -/
theorem zsound (f : Nat) : ∀ {d mi : Nat} {M : zM} {pc : Nat} {lo st : List Value} {S : zS} {v : Option Value} {S' : zS}, zrun f d mi pc lo st S = some (v, S') → zProg[mi]? = some M →
    ∀ {p : Program} {e : Env} {R : Room} {s : State} {m : MethodId} {args : Array Value} {below : List Frame} {meth : Method} {c : Code} {H : Heap} {locs : List Loc} {cells slots : Nat} {Q : State → Prop} {ls : Array Slot} {mc ms : Nat}, zC Z M p R s m args meth c d → zT Z s M S H locs ls lo → cells + zc S' = mc + zc S → slots + zs S' = ms + zs S → mc ≤ R.cells → ms ≤ R.slots →
    (∀ (pc : Nat) (ls : Array Slot) (H : Heap) (locs : List Loc), zRt M pc v → va_S (zA Z) s.heap H locs → zH Z S' H → W p l e R s m args below meth c H locs mc ms Q (F0 m pc ls v.toList)) →
    W p l e R s m args below meth c H locs cells slots Q (F0 m pc ls (st.map (zcv Z))) := by
  induction f with
  | zero => intro d mi M pc lo st S v S' h; cases h
  | succ f ih =>
    intro d mi M pc lo st S v S' h hM p e R s m args below meth c H locs cells slots Q ls mc ms hC hT hcc hss hRc hRs kr
    have hmono := zrun_mono h
    rw [zrun] at h
    split at h
    · cases h
    · next pc1 lo1 st1 S1 hst =>
      split at h
      · next hz =>
        obtain ⟨ins, len, hd, hx⟩ := zstep_at hM hst
        have h1 := zrun_mono h
        unfold zle at hz
        simp only [Bool.and_eq_true, decide_eq_true_eq] at hz
        dsimp only at h1
        refine zexec_next hd hx hC hT (by omega) (by omega) (fun H' locs' ls' hT' => ?_)
        exact ih h hM hC hT' (by omega) (by omega) hRc hRs kr
      · cases h
    · next v1 hst =>
      cases h
      obtain ⟨ins, len, hd, hx⟩ := zstep_at hM hst
      obtain ⟨hr, rfl⟩ := zexec_ret hd hx
      have e1 : cells = mc := by omega
      have e2 : slots = ms := by omega
      subst e1
      subst e2
      have K := kr pc ls H locs hr hT.2.1 hT.1
      have e3 : v.toList.map (zcv Z) = v.toList := by
        rcases hr with ⟨x, rfl, -⟩ | ⟨x, rfl, -⟩ | ⟨rfl, -⟩ <;> rfl
      rw [e3]
      exact K
    · next mi' as pc1 rest hst =>
      split at h
      · cases h
      · next d' =>
        split at h
        · next hpl =>
          split at h
          · cases h
          · next v1 S1 hcall =>
            obtain ⟨ins, len, hd, hx⟩ := zstep_at hM hst
            have h1 := zrun_mono hcall
            have h2 := zrun_mono h
            dsimp only at h1 h2
            cases hM' : zProg[mi']? with
            | none =>
              cases f with
              | zero => cases hcall
              | succ f =>
                rw [zrun] at hcall
                unfold zstep at hcall
                rw [hM'] at hcall
                cases hcall
            | some M' =>
              have hmx : zmax mi' = M'.2.2.1 := by unfold zmax; rw [hM']
              rw [hmx] at hpl hcall
              have hRf := hC.2.2.2.2.2.2.2.1
              have hRl := hC.2.2.2.2.2.2.2.2.1
              refine zexec_call (v := v1) (S' := S1) (mc := zc S1 - zc S) (ms := zs S1 - zs S) (rm := zRm d' (zc S1 - zc S) (zs S1 - zs S)) hd hx hC hT hM' (fun hlt => ?_) rfl rfl (by show d' + 1 + 1 ≤ _; omega) ?_ ⟨by omega, by omega⟩ (fun H' locs' hT' => ?_)
              · have hpr := zpr_at hM' hlt
                unfold zprP at hpr
                simp only [Bool.and_eq_true, decide_eq_true_eq] at hpr
                obtain ⟨hpn, hmh, hml20, hcn, hcn2⟩ := hpr
                refine Met.ofW (cc := M'.2.1) (maxL := M'.2.2.1) (ret := M'.2.2.2.1) hpn rfl ?_
                intro p' e' s' m' args' below' meth' c' s₁ B hml hv
                obtain ⟨hargs, hH, hU⟩ := hv
                subst hargs
                have hts' : ∀ w ∈ zco M' :: zWs, w.before ((as.map (zcv Z)).toArray) s' = true := atoms_spec (ws := zco M' :: zWs) B.pre
                have hC' : zC Z M' p' (headSpec (zco M' :: zWs) (zRm d' (zc S1 - zc S) (zs S1 - zs S))).room s' m' ((as.map (zcv Z)).toArray) meth' c' d' := by
                  refine ⟨B.exec, B.bytes, hml, findClass_of_methodNamed B.named, fun w hw => hts' w (List.mem_cons_of_mem _ hw), fun g => (name_of_methodNamed B.named B.method).1.trans g, hU, Nat.le_refl _, Nat.le_refl _, hcn, hcn2⟩
                have hlk : meth'.locks = false := B.notSynchronized
                have hrt := B.returns
                have hl := lv_entry (as.map (zcv Z)) (n := M'.2.2.1) (by rw [zplace_len]; exact hpl)
                rw [lg_entry_eq]
                generalize (lg_sl (as.map (zcv Z)) ++ List.replicate (M'.2.2.1 - (lg_sl (as.map (zcv Z))).length) Slot.unset).toArray = ls' at hl ⊢
                refine ih (cells := 0) (slots := 0) (mc := zc S1 - zc S) (ms := zs S1 - zs S) (Q := MQ below' (zQc Z v1 S1) ((as.map (zcv Z)).toArray) s' (zc S1 - zc S) (zs S1 - zs S) (zA Z)) (st := []) hcall hM' hC' ⟨hH, va_S.rf, zL_ent hl hpl⟩ (by omega) (by omega) (Nat.le_refl _) (Nat.le_refl _) ?_
                intro pc2 ls2 H2 locs2 hr hS2 hH2
                rcases hr with ⟨x, rfl, hdr, hty⟩ | ⟨x, rfl, hdr, hty⟩ | ⟨rfl, hdr, hty⟩
                · rcases hty with hty | ⟨hty, h01⟩
                  · exact W.iret B.exec B.bytes (hrt.trans hty) (fun t ht hW => ⟨rfl, by rw [ht]; exact hH2, hS2.F ht⟩) hS2.2.2 hdr
                  · exact W.zret B.exec B.bytes (hrt.trans hty) (by rcases h01 with rfl | rfl <;> rfl) (fun t ht hW => ⟨rfl, by rw [ht]; exact hH2, hS2.F ht⟩) hS2.2.2 hdr
                · exact W.lret B.exec B.bytes (hrt.trans hty) (fun t ht hW => ⟨rfl, by rw [ht]; exact hH2, hS2.F ht⟩) hS2.2.2 hdr
                · exact W.vret B.exec B.bytes (hrt.trans hty) (fun t ht hW => ⟨rfl, by rw [ht]; exact hH2, hS2.F ht⟩) hS2.2.2 hdr
              · intro hlt
                have hpr := zpr_at hM' hlt
                unfold zprP at hpr
                simp only [Bool.and_eq_true, decide_eq_true_eq] at hpr
                obtain ⟨-, -, hml20, -, -⟩ := hpr
                show 8 + (M'.2.2.1 + 11) + 64 * (d' + 1) ≤ R.locals
                omega
              · exact ih h hM hC hT' (by omega) (by omega) hRc hRs kr
        · cases h
end ZFIN
