/-! What a run comes to, without counting its steps. -/
theorem zrun_up {E : zEnv} : ∀ (f : Nat) (Sc : zSc) (y : Nat) (q : zSt) (o : zO), zrun E f Sc y q = some o → zrun E (f + 1) Sc y q = some o := by
  intro f
  induction f with
  | zero => intro Sc y q o h; cases h
  | succ f ih =>
    intro Sc y q o h
    rw [zrun] at h ⊢
    cases hs : zstep E Sc y q with
    | none => rw [hs] at h; cases h
    | some r =>
      rw [hs] at h
      rcases r with q' | v | ⟨y', as, q1⟩ | x
      · exact ih _ _ _ _ h
      · exact h
      · dsimp only at h ⊢
        cases hr : zrun E f none y' (zent E y' as q1.2.2.2.1) with
        | none => rw [hr] at h; cases h
        | some o1 =>
          rw [hr] at h
          rw [ih _ _ _ _ hr]
          obtain ⟨v | x, w', mc, ms⟩ := o1
          · exact ih _ _ _ _ h
          · dsimp only at h ⊢
            cases hf : zfind (E.H y) q.1 x with
            | none => rw [hf] at h; exact h
            | some hi =>
              obtain ⟨hp, i⟩ := hi
              rw [hf] at h
              exact ih _ _ _ _ h
      · exact h
theorem zrun_le {E : zEnv} {f g : Nat} (hfg : f ≤ g) {Sc : zSc} {y : Nat} {q : zSt} {o : zO} (h : zrun E f Sc y q = some o) : zrun E g Sc y q = some o := by
  induction hfg with
  | refl => exact h
  | step _ ih => exact zrun_up _ _ _ _ _ ih
theorem zrun_one {E : zEnv} {f g : Nat} {Sc : zSc} {y : Nat} {q : zSt} {o o' : zO} (h : zrun E f Sc y q = some o) (h' : zrun E g Sc y q = some o') : o = o' :=
  Option.some.inj ((zrun_le (Nat.le_max_left f g) h).symm.trans (zrun_le (Nat.le_max_right f g) h'))
noncomputable def zval (E : zEnv) (Sc : zSc) (y : Nat) (q : zSt) : Option zO := @dite _ (∃ o f, zrun E f Sc y q = some o) (Classical.propDecidable _) (fun h => some (Classical.choose h)) (fun _ => none)
theorem zval_iff {E : zEnv} {Sc : zSc} {y : Nat} {q : zSt} {o : zO} : zval E Sc y q = some o ↔ ∃ f, zrun E f Sc y q = some o := by
  unfold zval
  by_cases h : ∃ o f, zrun E f Sc y q = some o
  · rw [dif_pos h]
    obtain ⟨f, hf⟩ := Classical.choose_spec h
    constructor
    · intro e
      exact ⟨f, by rw [hf]; exact e⟩
    · rintro ⟨g, hg⟩
      exact congrArg some (zrun_one hf hg)
  · rw [dif_neg h]
    constructor
    · intro e; cases e
    · rintro ⟨g, hg⟩
      exact absurd ⟨o, g, hg⟩ h
/-- a method called at values in a world -/
noncomputable def zm (E : zEnv) (y : Nat) (as : List Value) (w : zW) : Option zO := zval E none y (zent E y as w)
/-- what comes behind a call -/
noncomputable def zAft (E : zEnv) (Sc : zSc) (y pc : Nat) (ls : zL) (st : List Value) (ca sl : Nat) : Option zO → Option zO
  | none => none
  | some (.inl v, w', mc, ms) => zval E Sc y (pc + 3, ls, v.toList ++ st, w', ca + mc, sl + ms)
  | some (.inr x, w', mc, ms) => match zfind (E.H y) pc x with
    | some (h, i) => zval E Sc y (h, zcut i ls, [], w', ca + mc, sl + ms)
    | none => if zcov (E.H y) pc = true then none else some (.inr x, w', ca + mc, sl + ms)
theorem zval_go {E : zEnv} {Sc : zSc} {y : Nat} {q q' : zSt} (h : zstep E Sc y q = some (.inl q')) : zval E Sc y q = zval E Sc y q' := by
  apply Option.ext
  intro o
  rw [zval_iff, zval_iff]
  constructor
  · rintro ⟨f, hf⟩
    cases f with
    | zero => cases hf
    | succ f => rw [zrun, h] at hf; exact ⟨f, hf⟩
  · rintro ⟨f, hf⟩
    exact ⟨f + 1, by rw [zrun, h]; exact hf⟩
theorem zval_ret {E : zEnv} {Sc : zSc} {y : Nat} {q : zSt} {v : Option Value} (h : zstep E Sc y q = some (.inr (.inl v))) : zval E Sc y q = some (.inl v, q.2.2.2) := zval_iff.mpr ⟨1, by rw [zrun, h]⟩
theorem zval_thr {E : zEnv} {Sc : zSc} {y x : Nat} {q : zSt} (h : zstep E Sc y q = some (.inr (.inr (.inr x)))) : zval E Sc y q = some (.inr x, q.2.2.2.1, q.2.2.2.2.1 + 1, q.2.2.2.2.2 + 6) := zval_iff.mpr ⟨1, by rw [zrun, h]⟩
theorem zval_call {E : zEnv} {Sc : zSc} {y y' : Nat} {pc : Nat} {ls : zL} {st rest : List Value} {w : zW} {ca sl : Nat} {as : List Value} (h : zstep E Sc y (pc, ls, st, w, ca, sl) = some (.inr (.inr (.inl (y', as, (pc + 3, ls, rest, w, ca, sl)))))) :
    zval E Sc y (pc, ls, st, w, ca, sl) = zAft E Sc y pc ls rest ca sl (zm E y' as w) := by
  apply Option.ext
  intro o
  rw [zval_iff]
  constructor
  · rintro ⟨f, hf⟩
    cases f with
    | zero => cases hf
    | succ f =>
      rw [zrun, h] at hf
      dsimp only at hf
      cases hr : zrun E f none y' (zent E y' as w) with
      | none => rw [hr] at hf; cases hf
      | some o1 =>
        rw [hr] at hf
        have h1 : zm E y' as w = some o1 := zval_iff.mpr ⟨f, hr⟩
        rw [h1]
        obtain ⟨v | x, w', mc, ms⟩ := o1
        · exact zval_iff.mpr ⟨f, hf⟩
        · dsimp only [zAft] at hf ⊢
          cases hz : zfind (E.H y) pc x with
          | none => rw [hz] at hf; exact hf
          | some hi =>
            obtain ⟨hp, i⟩ := hi
            rw [hz] at hf
            exact zval_iff.mpr ⟨f, hf⟩
  · intro hf
    cases h1 : zm E y' as w with
    | none => rw [h1] at hf; cases hf
    | some o1 =>
      rw [h1] at hf
      obtain ⟨f1, hr⟩ := zval_iff.mp h1
      obtain ⟨v | x, w', mc, ms⟩ := o1
      · obtain ⟨f2, h2⟩ := zval_iff.mp hf
        refine ⟨max f1 f2 + 1, ?_⟩
        rw [zrun, h]
        dsimp only
        rw [zrun_le (Nat.le_max_left f1 f2) hr]
        exact zrun_le (Nat.le_max_right f1 f2) h2
      · dsimp only [zAft] at hf
        cases hz : zfind (E.H y) pc x with
        | none =>
          rw [hz] at hf
          refine ⟨f1 + 1, ?_⟩
          rw [zrun, h]
          dsimp only
          rw [hr]
          dsimp only
          rw [hz]
          exact hf
        | some hi =>
          obtain ⟨hp, i⟩ := hi
          rw [hz] at hf
          obtain ⟨f2, h2⟩ := zval_iff.mp hf
          refine ⟨max f1 f2 + 1, ?_⟩
          rw [zrun, h]
          dsimp only
          rw [zrun_le (Nat.le_max_left f1 f2) hr]
          dsimp only
          rw [hz]
          exact zrun_le (Nat.le_max_right f1 f2) h2
