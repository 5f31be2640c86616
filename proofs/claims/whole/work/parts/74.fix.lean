/-! THE FIRST THREE CELLS STAY: the script, the class's two tables -/
def zF (S : zS) (o : Option zR) : Prop := match o with
  | some (.inl (_, _, _, S')) => ∀ k, k < 3 → ∀ j, S'.2.1 k j = S.2.1 k j
  | _ => True
theorem zF_nx {S : zS} {pc : Nat} {lo st : List Value} : zF S (znx pc lo st S) := fun _ _ _ => rfl
theorem zF_no {S : zS} : zF S none := trivial
theorem zF_ite {S : zS} {c : Prop} [Decidable c] {a b : Option zR} (h1 : c → zF S a) (h2 : zF S b) : zF S (if c then a else b) := by
  split
  · next h => exact h1 h
  · exact h2
theorem zF_jp {S : zS} {pc : Nat} {off : Int} {lo st : List Value} : zF S (zjp pc off lo st S) := by
  unfold zjp
  split
  · exact zF_no
  · exact zF_nx
theorem zF_br {S : zS} {c : Bool} {pc : Nat} {off : Int} {lo st : List Value} : zF S (zbr c pc off lo st S) := by
  unfold zbr
  split
  · exact zF_no
  · split
    · exact zF_nx
    · exact zF_nx
theorem zF_ld {S : zS} {i pc t : Nat} {lo st : List Value} : zF S (zld i pc t lo st S) := by
  unfold zld
  split <;> first | exact zF_nx | exact zF_no
theorem zF_so {S : zS} {i pc t : Nat} {lo st : List Value} : zF S (zso i pc t lo S st) := by
  unfold zso
  split
  · split <;> first | exact zF_nx | exact zF_no
  · exact zF_no
theorem zF_ii {S : zS} {f : Int32 → Int32 → Int32} {pc : Nat} {lo st : List Value} : zF S (zii f pc lo S st) := by
  unfold zii
  split <;> first | exact zF_nx | exact zF_no
theorem zF_ll {S : zS} {f : Int64 → Int64 → Int64} {pc : Nat} {lo st : List Value} : zF S (zll f pc lo S st) := by
  unfold zll
  split <;> first | exact zF_nx | exact zF_no
theorem zF_li {S : zS} {f : Int64 → Int32 → Int64} {pc : Nat} {lo st : List Value} : zF S (zli f pc lo S st) := by
  unfold zli
  split <;> first | exact zF_nx | exact zF_no
theorem zF_iiD {S : zS} {f : Int32 → Int32 → Int32} {pc : Nat} {lo st : List Value} : zF S (ziiD f pc lo S st) := by
  unfold ziiD
  split
  · split <;> first | exact zF_nx | exact zF_no
  · exact zF_no
theorem zF_llD {S : zS} {f : Int64 → Int64 → Int64} {pc : Nat} {lo st : List Value} : zF S (zllD f pc lo S st) := by
  unfold zllD
  split
  · split <;> first | exact zF_nx | exact zF_no
  · exact zF_no
theorem zF_getf {S : zS} {M : zM} {idx pc : Nat} {lo st : List Value} : zF S (zgetf M idx pc lo S st) := by
  unfold zgetf
  repeat' split
  all_goals first | exact zF_nx | exact zF_no
theorem zF_ald {S : zS} {pc : Nat} {lo st : List Value} : zF S (zald pc lo S st) := by
  unfold zald
  repeat' split
  all_goals first | exact zF_nx | exact zF_no
theorem zF_aald {S : zS} {pc : Nat} {lo st : List Value} : zF S (zaald pc lo S st) := by
  unfold zaald
  repeat' split
  all_goals first | exact zF_nx | exact zF_no
theorem zF_alen {S : zS} {pc : Nat} {lo st : List Value} : zF S (zalen pc lo S st) := by
  unfold zalen
  repeat' split
  all_goals first | exact zF_nx | exact zF_no
theorem zF_aast {S : zS} {pc : Nat} {lo st : List Value} : zF S (zaast pc lo S st) := by
  unfold zaast
  repeat' split
  all_goals first | exact zF_no | exact fun _ _ _ => rfl
theorem zF_ast {S : zS} {pc : Nat} {lo st : List Value} : zF S (zast pc lo S st) := by
  unfold zast
  split
  · split
    · split
      · next h =>
        have h3 := h.2
        intro k hk j
        exact zup_ne (Nat.ne_of_lt (Nat.lt_of_lt_of_le hk h3))
      · exact zF_no
    · exact zF_no
  · exact zF_no
theorem zSH_obj {n k : Nat} {x : (Nat × List (Option Nat)) ⊕ (Nat × List (Option Nat))} (h : (zSH (.inl n))[k]? = some (.inr x)) : 3 ≤ k := by
  rcases (show k = 0 ∨ k = 1 ∨ k = 2 ∨ 3 ≤ k by omega) with rfl | rfl | rfl | g
  · cases h
  · cases h
  · cases h
  · exact g
theorem zF_putf {S : zS} {n : Nat} (hS : S.1 = zSH (.inl n)) {M : zM} {idx pc : Nat} {lo st : List Value} : zF S (zputf M idx pc lo S st) := by
  unfold zputf
  split
  · split
    · next hk =>
      rw [hS] at hk
      have hk3 := zSH_obj hk
      split
      · split
        · intro k' hk' j'
          exact zup_ne (Nat.ne_of_lt (Nat.lt_of_lt_of_le hk' hk3))
        · exact fun _ _ _ => rfl
        · exact fun _ _ _ => rfl
        · exact zF_no
      · exact zF_no
    · exact zF_no
  · exact zF_no
theorem zF_new {S : zS} (hL : 3 ≤ S.1.length) {M : zM} {idx pc : Nat} {lo st : List Value} : zF S (znew M idx pc lo st S) := by
  unfold znew
  split
  · split
    · exact fun k hk j => if_neg (by omega)
    · exact zF_no
  · exact zF_no
theorem zF_newa {S : zS} (hL : 3 ≤ S.1.length) {pc : Nat} {lo st : List Value} : zF S (znewa pc lo S st) := by
  unfold znewa
  split
  · split
    · exact zF_no
    · exact fun k hk j => if_neg (by omega)
  · exact zF_no
theorem zF_anew {S : zS} {M : zM} {idx pc : Nat} {lo st : List Value} : zF S (zanew M idx pc lo S st) := by
  unfold zanew
  repeat' split
  all_goals first | exact zF_no | exact fun _ _ _ => rfl
theorem zF_mnew {S : zS} (hL : 3 ≤ S.1.length) {M : zM} {idx pc : Nat} {lo st : List Value} : zF S (zmnew M idx pc lo S st) := by
  unfold zmnew
  split
  · split
    · split
      · exact zF_no
      · exact fun k hk j => if_neg (by omega)
    · exact zF_no
  · exact zF_no
theorem zF_ret {S : zS} {M : zM} {t : Nat} {st : List Value} : zF S (zret M t st) := by
  unfold zret
  repeat' split
  all_goals exact trivial
theorem zF_inv {S : zS} {M : zM} {idx kd pc : Nat} {lo st : List Value} : zF S (zinv M idx kd pc lo S st) := by
  unfold zinv
  split
  · split
    · repeat' split
      all_goals first | exact zF_nx | exact zF_no
    · split
      · split
        · split
          · next h =>
            have h3 := h.2.2.2.2.2.2.2.1
            intro k hk j
            exact zcpy_ne (Nat.ne_of_lt (Nat.lt_of_lt_of_le hk h3))
          · exact zF_no
        · exact zF_no
      · exact zF_no
    · repeat' split
      all_goals first | exact zF_nx | exact zF_no
    · repeat' split
      all_goals first | exact zF_nx | exact zF_no
    · repeat' split
      all_goals exact trivial
  · exact zF_no
theorem zF_exec {S : zS} {n : Nat} (hS : S.1 = zSH (.inl n)) {M : zM} {ins : Instr} {len pc : Nat} {lo st : List Value} : zF S (zexec M ins len pc lo st S) := by
  have hL : 3 ≤ S.1.length := by
    rw [hS]
    show 3 ≤ zSHt.length + 1
    decide
  unfold zexec
  repeat' split
  all_goals first | exact zF_no | exact zF_nx | exact zF_ld | exact zF_so | exact zF_ii | exact zF_ll | exact zF_li | exact zF_iiD | exact zF_llD | exact zF_jp | exact zF_br | exact zF_getf | exact zF_putf hS | exact zF_ald | exact zF_ast | exact zF_aald | exact zF_aast | exact zF_alen | exact zF_new hL | exact zF_newa hL | exact zF_anew | exact zF_mnew hL | exact zF_inv | exact zF_ret
theorem zF_step {S : zS} {n : Nat} (hS : S.1 = zSH (.inl n)) {mi pc : Nat} {lo st : List Value} : zF S (zstep mi pc lo st S) := by
  unfold zstep
  repeat' split
  all_goals first | exact zF_exec hS | exact zF_no
theorem zrun2_fix {n f : Nat} : ∀ {d mi pc : Nat} {lo st : List Value} {I : zi} {L : zl} {v : Option Value} {I' : zi} {L' : zl}, zrun2 n f d mi pc lo st I L = some (v, I', L') → ∀ k, k < 3 → ∀ j, I' k j = I k j := by
  induction f with
  | zero => intro d mi pc lo st I L v I' L' h; cases h
  | succ f ih =>
    intro d mi pc lo st I L v I' L' h
    rw [zrun2] at h
    split at h
    · cases h
    · next pc1 lo1 st1 S1 hst =>
      split at h
      · next hS =>
        have hF := zF_step (S := (zSH (.inl n), I, L)) (n := n) rfl (mi := mi) (pc := pc) (lo := lo) (st := st)
        rw [hst] at hF
        have hF : ∀ k, k < 3 → ∀ j, S1.2.1 k j = I k j := hF
        exact fun k hk j => (ih h k hk j).trans (hF k hk j)
      · cases h
    · next hst =>
      cases h
      exact fun _ _ _ => rfl
    · next hst =>
      split at h
      · cases h
      · split at h
        · next hz =>
          split at h
          · cases h
          · next hc => exact fun k hk j => (ih h k hk j).trans (ih hc k hk j)
        · cases h
theorem zV_fix {n d mi pc : Nat} {lo st : List Value} {I : zi} {L : zl} {Q : zq} (h : zV n d mi pc lo st I L Q) : zV n d mi pc lo st I L (fun v I' L' => Q v I' L' ∧ ∀ k, k < 3 → ∀ j, I' k j = I k j) := by
  obtain ⟨f, v, I', L', h1, h2⟩ := h
  exact ⟨f, v, I', L', h1, h2, zrun2_fix h1⟩
theorem zV_mono {n d mi pc : Nat} {lo st : List Value} {I : zi} {L : zl} {Q Q' : zq} (h : zV n d mi pc lo st I L Q) (hq : ∀ v I' L', Q v I' L' → Q' v I' L') : zV n d mi pc lo st I L Q' := by
  obtain ⟨f, v, I', L', h1, h2⟩ := h
  exact ⟨f, v, I', L', h1, hq v I' L' h2⟩
theorem same_of {n d mi pc : Nat} {lo st : List Value} {I : zi} {L : zl} {v1 : Option Value} {P : zi → zl → Prop} (h : zV n d mi pc lo st I L (fun v2 I2 L2 => same v1 v2 ∧ P I2 L2)) : ∃ x : Int32, v1 = some (.int x) := by
  obtain ⟨f, v, I', L', h1, ⟨x, e1, e2⟩, h3⟩ := h
  exact ⟨x, e1⟩
theorem sameL_of {n d mi pc : Nat} {lo st : List Value} {I : zi} {L : zl} {v1 : Option Value} {P : zi → zl → Prop} (h : zV n d mi pc lo st I L (fun v2 I2 L2 => sameL v1 v2 ∧ P I2 L2)) : ∃ x : Int64, v1 = some (.long x) := by
  obtain ⟨f, v, I', L', h1, ⟨x, e1, e2⟩, h3⟩ := h
  exact ⟨x, e1⟩
theorem nI_4 (p : Nat) : nI p + 4 = nI (p + 4) := nI_add p 4
theorem nI_5 (p : Nat) : nI p + 5 = nI (p + 5) := nI_add p 5
theorem nI_6 (p : Nat) : nI p + 6 = nI (p + 6) := nI_add p 6
