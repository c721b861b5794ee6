/-! A step never loses a cell. -/
def zle (w : zW) (ca sl : Nat) (w' : zW) (ca' sl' : Nat) : Prop := w.length ≤ w'.length ∧ ca ≤ ca' ∧ sl ≤ sl'
theorem zle.rf {w : zW} {ca sl : Nat} : zle w ca sl w ca sl := ⟨Nat.le_refl _, Nat.le_refl _, Nat.le_refl _⟩
theorem zle.tr {w w' w'' : zW} {ca sl ca' sl' ca'' sl'' : Nat} (h : zle w ca sl w' ca' sl') (g : zle w' ca' sl' w'' ca'' sl'') : zle w ca sl w'' ca'' sl'' := ⟨Nat.le_trans h.1 g.1, Nat.le_trans h.2.1 g.2.1, Nat.le_trans h.2.2 g.2.2⟩
abbrev zleQ (w : zW) (ca sl : Nat) (q : zSt) : Prop := zle w ca sl q.2.2.2.1 q.2.2.2.2.1 q.2.2.2.2.2
theorem zle.set {w : zW} {ca sl a : Nat} {e : va_E} : zle w ca sl (w.set a e) ca sl := ⟨by rw [List.length_set]; exact Nat.le_refl _, Nat.le_refl _, Nat.le_refl _⟩
theorem zle.push {w : zW} {ca sl n : Nat} {e : va_E} : zle w ca sl (w ++ [e]) (ca + 1) (sl + n) := ⟨by simp, Nat.le_succ _, Nat.le_add_right _ _⟩
section zMo
variable {E : zEnv} {own pc n : Nat} {ls : zL} {st : List Value} {w : zW} {ca sl : Nat} {q' : zSt} {Sc : zSc}
theorem zget_le (h : zget E own pc ls w ca sl n st = some q') : zleQ w ca sl q' := by
  obtain ⟨_, _, _, _, _, _, _, _, _, _, rfl⟩ := zget_of h
  exact zle.rf
theorem zputf_le {mk : Bool} (h : zputf E own pc ls w ca sl mk n st = some q') : zleQ w ca sl q' := by
  obtain ⟨_, _, _, _, _, _, _, _, _, _, _, _, rfl⟩ := zputf_of h
  exact zle.set
theorem zaldI_le (h : zaldI pc ls w ca sl Sc st = some q') : zleQ w ca sl q' := by
  unfold zaldI at h
  repeat' (split at h)
  all_goals first | (cases h; exact zle.rf) | cases h
theorem zaldL_le (h : zaldL pc ls w ca sl st = some q') : zleQ w ca sl q' := by
  unfold zaldL at h
  repeat' (split at h)
  all_goals first | (cases h; exact zle.rf) | cases h
theorem zaldZ_le (h : zaldZ pc ls w ca sl st = some q') : zleQ w ca sl q' := by
  unfold zaldZ at h
  repeat' (split at h)
  all_goals first | (cases h; exact zle.rf) | cases h
theorem zastI_le (h : zastI pc ls w ca sl st = some q') : zleQ w ca sl q' := by
  unfold zastI at h
  repeat' (split at h)
  all_goals first | (cases h; exact zle.set) | cases h
theorem zastL_le (h : zastL pc ls w ca sl st = some q') : zleQ w ca sl q' := by
  unfold zastL at h
  repeat' (split at h)
  all_goals first | (cases h; exact zle.set) | cases h
theorem zastZ_le (h : zastZ pc ls w ca sl st = some q') : zleQ w ca sl q' := by
  unfold zastZ at h
  repeat' (split at h)
  all_goals first | (cases h; exact zle.set) | cases h
theorem zalen_le (h : zalen pc ls w ca sl Sc st = some q') : zleQ w ca sl q' := by
  unfold zalen at h
  repeat' (split at h)
  all_goals first | (cases h; exact zle.rf) | cases h
theorem znew_le (h : znew E own pc ls w ca sl n st = some q') : zleQ w ca sl q' := by
  unfold znew at h
  repeat' (split at h)
  all_goals first | (cases h; exact zle.push) | cases h
theorem znewa_le {t : Nat} {z : Nat → vp_A} (h : znewa pc ls w ca sl t z st = some q') : zleQ w ca sl q' := by
  obtain ⟨_, _, _, _, _, _, rfl⟩ := znewa_of h
  exact zle.push
theorem znat_le {k : Nat} (h : znat pc ls w ca sl k st = some q') : zleQ w ca sl q' := by
  match k, h with
  | 0, h =>
    change znat0 pc ls w ca sl st = some q' at h
    unfold znat0 at h
    repeat' (split at h)
    all_goals first | (cases h; exact zle.rf) | cases h
  | 1, h =>
    change znat1 pc ls w ca sl st = some q' at h
    unfold znat1 at h
    repeat' (split at h)
    all_goals first | (cases h; exact zle.rf) | cases h
  | 2, h =>
    change znat2 pc ls w ca sl st = some q' at h
    unfold znat2 at h
    repeat' (split at h)
    all_goals first | (cases h; exact zle.rf) | cases h
  | 3, h =>
    change znat3 pc ls w ca sl st = some q' at h
    unfold znat3 at h
    repeat' (split at h)
    all_goals first | (cases h; exact zle.rf) | cases h
  | 4, h =>
    change znat4 pc ls w ca sl st = some q' at h
    unfold znat4 at h
    repeat' (split at h)
    all_goals first | (cases h; exact zle.set) | cases h
  | k + 5, h => cases h
theorem zinl {o : Option zSt} {q' : zSt} (h : o.map (Sum.inl : zSt → zN) = some (.inl q')) : o = some q' := by
  cases o with
  | none => cases h
  | some a => cases h; rfl
theorem zconst {α : Type} {o : Option α} {f : α → zN} {r : zN} (h : o.map f = some r) : ∃ v, o = some v ∧ f v = r := by
  cases o with
  | none => cases h
  | some a => exact ⟨a, rfl, Option.some.inj h⟩
theorem zcall_not {kd y n : Nat} (h : zcall E kd y n pc ls st w ca sl = some (.inl q')) : False := by
  unfold zcall at h
  split at h
  · split at h
    · cases h
    · cases h
  · cases h
/-- a step that goes on, by its kinds -/
theorem zstep_le {y : Nat} (h : zstep E Sc y (pc, ls, st, w, ca, sl) = some (.inl q')) : zleQ w ca sl q' := by
  unfold zstep at h
  dsimp only at h
  split at h
  · split at h
    · cases h
    · cases h
  · split at h
    · cases h
    · split at h
      · cases h; exact zle.rf
      · split at h
        · exact zget_le (zinl h)
        · exact zputf_le (zinl h)
        · exact zaldI_le (zinl h)
        · exact zaldL_le (zinl h)
        · exact zaldZ_le (zinl h)
        · exact zastI_le (zinl h)
        · exact zastL_le (zinl h)
        · exact zastZ_le (zinl h)
        · exact zalen_le (zinl h)
        · exact znew_le (zinl h)
        · have h1 := zinl h
          split at h1
          · exact znewa_le h1
          · exact znewa_le h1
          · exact znewa_le h1
          · cases h1
        · obtain ⟨v, -, e9⟩ := zconst h
          cases e9; exact zle.rf
        · obtain ⟨v, -, e9⟩ := zconst h
          cases e9; exact zle.rf
        · repeat' (split at h)
          all_goals cases h
        · repeat' (split at h)
          all_goals cases h
        · repeat' (split at h)
          all_goals cases h
        · repeat' (split at h)
          all_goals cases h
        · split at h
          · split at h
            · exact znat_le (zinl h)
            · cases h
          · exact (zcall_not h).elim
        · split at h
          · split at h
            · exact znat_le (zinl h)
            · cases h
          · exact (zcall_not h).elim
        · exact (zcall_not h).elim
        · cases h
theorem zstep_call {y : Nat} {y' : Nat} {as : List Value} {q1 : zSt} (h : zstep E Sc y (pc, ls, st, w, ca, sl) = some (.inr (.inr (.inl (y', as, q1))))) :
    ∃ kd n, kd < 3 ∧ E.X y pc = none ∧ zcall E kd y n pc ls st w ca sl = some (.inr (.inr (.inl (y', as, q1)))) ∧ ∃ tg, E.T y pc = some ((if kd = 0 then Instr.invokestatic n else if kd = 1 then Instr.invokevirtual n else Instr.invokespecial n), tg) := by
  unfold zstep at h
  dsimp only at h
  split at h
  · split at h
    · cases h
    · cases h
  · rename_i hX
    split at h
    · cases h
    · rename_i i tg hT
      split at h
      · cases h
      · split at h
        all_goals first
          | (obtain ⟨v, -, e9⟩ := zconst h; cases e9; done)
          | (exact ⟨1, _, by decide, hX, h, tg, hT⟩)
          | (split at h
             · split at h
               · obtain ⟨v, -, e9⟩ := zconst h; cases e9
               · cases h
             · first
               | exact ⟨0, _, by decide, hX, h, tg, hT⟩
               | exact ⟨2, _, by decide, hX, h, tg, hT⟩)
          | ((repeat' (split at h)) <;> cases h)
theorem zstep_ret {y : Nat} {v : Option Value} (h : zstep E Sc y (pc, ls, st, w, ca, sl) = some (.inr (.inl v))) : E.X y pc = none ∧ zfitR (zRet (E.D y)) v = true ∧ st = v.toList ∧
    ∃ tg, (E.T y pc = some (.ireturn, tg) ∧ ∃ x, v = some (.int x)) ∨ (E.T y pc = some (.lreturn, tg) ∧ ∃ x, v = some (.long x)) ∨ (E.T y pc = some (.areturn, tg) ∧ ∃ x, v = some (.ref x)) ∨ (E.T y pc = some (.return_, tg) ∧ v = none) := by
  unfold zstep at h
  dsimp only at h
  split at h
  · split at h
    · cases h
    · cases h
  · rename_i hX
    split at h
    · cases h
    · rename_i i tg hT
      split at h
      · cases h
      · split at h
        all_goals first
          | (obtain ⟨v9, -, e9⟩ := zconst h; cases e9; done)
          | (unfold zcall at h; (repeat' (split at h)) <;> cases h; done)
          | (split at h
             · split at h
               · rename_i hf
                 cases h
                 first
                 | exact ⟨hX, hf, rfl, tg, Or.inl ⟨hT, _, rfl⟩⟩
                 | exact ⟨hX, hf, rfl, tg, Or.inr (Or.inl ⟨hT, _, rfl⟩)⟩
                 | exact ⟨hX, hf, rfl, tg, Or.inr (Or.inr (Or.inl ⟨hT, _, rfl⟩))⟩
                 | exact ⟨hX, hf, rfl, tg, Or.inr (Or.inr (Or.inr ⟨hT, rfl⟩))⟩
               · cases h
             · cases h)
          | (split at h
             · split at h
               · obtain ⟨v9, -, e9⟩ := zconst h; cases e9
               · cases h
             · unfold zcall at h; (repeat' (split at h)) <;> cases h)
          | cases h
theorem zstep_thr {y x : Nat} (h : zstep E Sc y (pc, ls, st, w, ca, sl) = some (.inr (.inr (.inr x)))) : E.X y pc = some x ∧ 6 ≤ zFr (E.D y) ∧ zwt st + 82 ≤ zLo (E.D y) := by
  unfold zstep at h
  dsimp only at h
  split at h
  · rename_i hX
    split at h
    · rename_i hg
      cases h
      exact ⟨hX, hg⟩
    · cases h
  · split at h
    · cases h
    · split at h
      · cases h
      · split at h
        all_goals first
          | (obtain ⟨v9, -, e9⟩ := zconst h; cases e9; done)
          | (unfold zcall at h; (repeat' (split at h)) <;> cases h; done)
          | (split at h
             · split at h
               · obtain ⟨v9, -, e9⟩ := zconst h; cases e9
               · cases h
             · unfold zcall at h; (repeat' (split at h)) <;> cases h)
          | ((repeat' (split at h)) <;> cases h)
theorem zcall_of {kd y n : Nat} {r : zN} (h : zcall E kd y n pc ls st w ca sl = some r) : ∃ y', E.M (zOwn (E.D y)) n = some y' ∧ (zKd (E.D y') = kd ∧ zFr (E.D y') + 1 ≤ zFr (E.D y) ∧ zwt (st.drop (zAr (E.D y'))) + (zMax (E.D y') + 11) + zLo (E.D y') ≤ zLo (E.D y) ∧ zAr (E.D y') ≤ st.length ∧ (zargs (st.take (zAr (E.D y'))).reverse).length ≤ zMax (E.D y') ∧ zscL w.length ls = true ∧ zscS w.length st = true ∧ zrecv E y' (st.take (zAr (E.D y'))).reverse w = true) ∧
    r = .inr (.inr (.inl (y', (st.take (zAr (E.D y'))).reverse, (pc + 3, ls, st.drop (zAr (E.D y')), w, ca, sl)))) := by
  unfold zcall at h
  split at h
  · rename_i y' hM
    split at h
    · rename_i hg
      exact ⟨y', hM, hg, (Option.some.inj h).symm⟩
    · cases h
  · cases h
end zMo
