/-! RUNS OVER THE FIXED HEAP: cells as zSH has them, ints and longs alone change -/
abbrev zi : Type := Nat → Nat → Int32
abbrev zl : Type := Nat → Nat → Int64
def zrun2 (n : Nat) : Nat → Nat → Nat → Nat → List Value → List Value → zi → zl → Option (Option Value × zi × zl)
  | 0, _, _, _, _, _, _, _ => none
  | f + 1, d, mi, pc, lo, st, I, L => match zstep mi pc lo st (zSH (.inl n), I, L) with
    | none => none
    | some (.inl (pc', lo', st', S')) => if S'.1 = zSH (.inl n) then zrun2 n f d mi pc' lo' st' S'.2.1 S'.2.2 else none
    | some (.inr (.inr v)) => some (v, I, L)
    | some (.inr (.inl (mi', as, pc', rest))) => (match d with
      | 0 => none
      | d' + 1 => if (zplace as).length ≤ zmax mi' then (match zrun2 n f d' mi' 0 (zent (zmax mi') as) [] I L with
        | none => none
        | some (v, I', L') => zrun2 n f (d' + 1) mi pc' lo (v.toList ++ rest) I' L') else none)
theorem zrun2_run {n f : Nat} : ∀ {d mi pc : Nat} {lo st : List Value} {I : zi} {L : zl} {v : Option Value} {I' : zi} {L' : zl}, zrun2 n f d mi pc lo st I L = some (v, I', L') → zrun f d mi pc lo st (zSH (.inl n), I, L) = some (v, (zSH (.inl n), I', L')) := by
  induction f with
  | zero => intro d mi pc lo st I L v I' L' h; cases h
  | succ f ih =>
    intro d mi pc lo st I L v I' L' h
    rw [zrun2] at h
    rw [zrun]
    split at h
    · cases h
    · next pc1 lo1 st1 S1 hst =>
      split at h
      · next hS =>
        obtain ⟨a, b, c⟩ := S1
        dsimp only at hS h
        subst hS
        rw [hst]
        dsimp only
        rw [if_pos (show zle (zSH (.inl n), I, L) (zSH (.inl n), b, c) = true from zle_same rfl)]
        exact ih h
      · cases h
    · next hst =>
      rw [hst]
      cases h
      rfl
    · next hst =>
      rw [hst]
      dsimp only
      split at h
      · cases h
      · split at h
        · next hz =>
          dsimp only
          rw [if_pos hz]
          split at h
          · cases h
          · next hc =>
            rw [ih hc]
            exact ih h
        · cases h
theorem zrun2_up {n f : Nat} : ∀ {d mi pc : Nat} {lo st : List Value} {I : zi} {L : zl} {r : Option Value × zi × zl}, zrun2 n f d mi pc lo st I L = some r → zrun2 n (f + 1) d mi pc lo st I L = some r := by
  induction f with
  | zero => intro d mi pc lo st I L r h; cases h
  | succ f ih =>
    intro d mi pc lo st I L r h
    rw [zrun2] at h ⊢
    split at h
    · cases h
    · split at h
      · next hz =>
        rw [if_pos hz]
        exact ih h
      · cases h
    · exact h
    · split at h
      · cases h
      · split at h
        · next hz =>
          split at h
          · cases h
          · next hc =>
            rw [if_pos hz, ih hc]
            exact ih h
        · cases h
theorem zrun2_le {n f g : Nat} (hfg : f ≤ g) {d mi pc : Nat} {lo st : List Value} {I : zi} {L : zl} {r : Option Value × zi × zl} (h : zrun2 n f d mi pc lo st I L = some r) : zrun2 n g d mi pc lo st I L = some r := by
  induction hfg with
  | refl => exact h
  | step _ ih => exact zrun2_up ih
abbrev zq : Type := Option Value → zi → zl → Prop
def zV (n d mi pc : Nat) (lo st : List Value) (I : zi) (L : zl) (Q : zq) : Prop := ∃ f v I' L', zrun2 n f d mi pc lo st I L = some (v, I', L') ∧ Q v I' L'
theorem zV_W {n d mi pc : Nat} {lo st : List Value} {I : zi} {L : zl} {Q : zq} (h : zV n d mi pc lo st I L Q) : zW d mi pc lo st (zSH (.inl n), I, L) (fun v S' => Q v S'.2.1 S'.2.2 ∧ S'.1 = zSH (.inl n)) := by
  obtain ⟨f, v, I', L', h1, h2⟩ := h
  exact ⟨f, v, _, zrun2_run h1, h2, rfl⟩
section
variable {n d mi pc pc' : Nat} {lo lo' st st' : List Value} {I I' : zi} {L L' : zl} {Q : zq} {M : zM}
theorem zV_nx (h : zstep mi pc lo st (zSH (.inl n), I, L) = some (.inl (pc', lo', st', (zSH (.inl n), I', L')))) : zV n d mi pc lo st I L Q ↔ zV n d mi pc' lo' st' I' L' Q := by
  constructor
  · rintro ⟨f, v, I2, L2, hr, hq⟩
    cases f with
    | zero => cases hr
    | succ f =>
      rw [zrun2, h] at hr
      dsimp only at hr
      rw [if_pos rfl] at hr
      exact ⟨f, v, I2, L2, hr, hq⟩
  · rintro ⟨f, v, I2, L2, hr, hq⟩
    refine ⟨f + 1, v, I2, L2, ?_, hq⟩
    rw [zrun2, h]
    dsimp only
    rw [if_pos rfl]
    exact hr
theorem zV_no (h : zstep mi pc lo st (zSH (.inl n), I, L) = none) : ¬ zV n d mi pc lo st I L Q := by
  rintro ⟨f, v, I2, L2, hr, hq⟩
  cases f with
  | zero => cases hr
  | succ f =>
    rw [zrun2, h] at hr
    cases hr
theorem zV_ret {v : Option Value} (h : zstep mi pc lo st (zSH (.inl n), I, L) = some (.inr (.inr v))) : zV n d mi pc lo st I L Q ↔ Q v I L := by
  constructor
  · rintro ⟨f, v', I2, L2, hr, hq⟩
    cases f with
    | zero => cases hr
    | succ f =>
      rw [zrun2, h] at hr
      cases hr
      exact hq
  · intro hq
    refine ⟨1, v, I, L, ?_, hq⟩
    rw [zrun2, h]
def zpush : Option Value → List Value → List Value
  | none, st => st
  | some v, st => v :: st
theorem zpush_some {v : Value} {st : List Value} : zpush (some v) st = v :: st := rfl
theorem zpush_none {st : List Value} : zpush none st = st := rfl
theorem zV_call {mi' : Nat} {as rest lo1 : List Value} (h : zstep mi pc lo st (zSH (.inl n), I, L) = some (.inr (.inl (mi', as, pc', rest)))) (hz : (zplace as).length ≤ zmax mi') (hl : zent (zmax mi') as = lo1) :
    zV n (d + 1) mi pc lo st I L Q ↔ zV n d mi' 0 lo1 [] I L (fun v I' L' => zV n (d + 1) mi pc' lo (zpush v rest) I' L' Q) := by
  have hp : ∀ v : Option Value, v.toList ++ rest = zpush v rest := fun v => by cases v <;> rfl
  subst hl
  constructor
  · rintro ⟨f, v', I2, L2, hr, hq⟩
    cases f with
    | zero => cases hr
    | succ f =>
      rw [zrun2, h] at hr
      dsimp only at hr
      rw [if_pos hz] at hr
      split at hr
      · cases hr
      · next hc =>
        rw [hp] at hr
        exact ⟨f, _, _, _, hc, f, v', I2, L2, hr, hq⟩
  · rintro ⟨f, v, I1, L1, hc, g, v', I2, L2, hr, hq⟩
    refine ⟨max f g + 1, v', I2, L2, ?_, hq⟩
    rw [zrun2, h]
    dsimp only
    rw [if_pos hz, zrun2_le (Nat.le_max_left f g) hc]
    dsimp only
    rw [hp]
    exact zrun2_le (Nat.le_max_right f g) hr
theorem zso_of {ins : Instr} {len : Nat} {r : Option zR} {S : zS} (hM : zProg[mi]? = some M) (hd : decode M.2.1 pc = .ok (ins, len)) (h : zexec M ins len pc lo st S = r) : zstep mi pc lo st S = r := by
  unfold zstep
  rw [hM]
  dsimp only
  rw [hd]
  exact h
/-- the heap's shape, by functions -/
def zobj (k : Nat) : Nat := match zSHt[k - 1]? with
  | some (.inr (.inr (ci, _))) => ci
  | _ => 99
def zint (k : Nat) : Bool := match k, zSHt[k - 1]? with
  | _ + 1, some (.inl _) => true
  | _, _ => false
def zra (k : Nat) : Bool := match k, zSHt[k - 1]? with
  | _ + 1, some (.inr (.inl _)) => true
  | _, _ => false
def zlen (k : Nat) : Nat := match zSHt[k - 1]? with
  | some (.inl n) => n
  | some (.inr (.inl (_, rs))) => rs.length
  | _ => 0
def zref (k j : Nat) : Nat := match zSHt[k - 1]? with
  | some (.inr (.inl (_, rs))) => (rs.getD j none).getD 0
  | some (.inr (.inr (_, rs))) => (rs.getD j none).getD 0
  | _ => 0
theorem zobj_at {k ci : Nat} (h : zobj k = ci) (hc : ci < 5) (hk : k ≠ 0) : ∃ rs, (zSH (.inl n))[k]? = some (.inr (.inr (ci, rs))) := by
  unfold zobj at h
  split at h
  · next ci' rs hs =>
    subst h
    refine ⟨rs, ?_⟩
    cases k with
    | zero => exact absurd rfl hk
    | succ k => exact hs
  · omega
theorem zint_at {k : Nat} (h : zint k = true) : (zSH (.inl n))[k]? = some (.inl (zlen k)) := by
  unfold zint at h
  split at h
  · next k0 n0 hs =>
    unfold zlen
    rw [hs]
    exact hs
  · cases h
end
