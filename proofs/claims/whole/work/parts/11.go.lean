/-! A run never loses a cell; a step that goes on does so on the machine. -/
theorem zrun_mono {E : zEnv} : ∀ (f : Nat) (Sc : zSc) (y : Nat) (q : zSt) (o : zO), zrun E f Sc y q = some o → zle q.2.2.2.1 q.2.2.2.2.1 q.2.2.2.2.2 o.2.1 o.2.2.1 o.2.2.2 := by
  intro f
  induction f with
  | zero => intro Sc y q o h; cases h
  | succ f ih =>
    intro Sc y q o h
    obtain ⟨pc, ls, st, w, ca, sl⟩ := q
    unfold zrun at h
    cases hs : zstep E Sc y (pc, ls, st, w, ca, sl) with
    | none => rw [hs] at h; cases h
    | some r =>
      rw [hs] at h
      rcases r with q' | v | ⟨y', as, q1⟩ | x
      · exact (zstep_le hs).tr (ih _ _ _ _ h)
      · cases h; exact zle.rf
      · obtain ⟨kd, n, -, -, hc, -⟩ := zstep_call hs
        obtain ⟨y2, -, -, e9⟩ := zcall_of hc
        cases e9
        dsimp only at h
        cases hr : zrun E f none y' (zent E y' (st.take (zAr (E.D y'))).reverse w) with
        | none => rw [hr] at h; cases h
        | some o1 =>
          rw [hr] at h
          have h1 := ih _ _ _ _ hr
          obtain ⟨v | x, w', mc, ms⟩ := o1
          · have h2 := ih _ _ _ _ h
            exact zle.tr (⟨h1.1, Nat.le_add_right _ _, Nat.le_add_right _ _⟩ : zle w ca sl w' (ca + mc) (sl + ms)) h2
          · dsimp only at h
            cases hf : zfind (E.H y) pc x with
            | some hi =>
              obtain ⟨hp, i⟩ := hi
              rw [hf] at h
              have h2 := ih _ _ _ _ h
              exact zle.tr (⟨h1.1, Nat.le_add_right _ _, Nat.le_add_right _ _⟩ : zle w ca sl w' (ca + mc) (sl + ms)) h2
            | none =>
              rw [hf] at h
              dsimp only at h
              split at h
              · cases h
              · cases h
                exact ⟨h1.1, Nat.le_add_right _ _, Nat.le_add_right _ _⟩
      · cases h
        exact ⟨Nat.le_refl _, Nat.le_succ _, Nat.le_add_right _ _⟩
section zGs
variable {p : Program} {l : Launch} {e : Env} {R : Room} {s : State} {m : MethodId} {args : Array Value} {below : List Frame} {meth : Method} {c : Code} {H : Heap} {locs : List Loc} {Q : State → Prop}
variable {E : zEnv} {Cd : Nat → ByteArray} {Ow : Nat → String} {cl : List vw_C} {GW : List Cond} {D : va_G} {ct : Nat → ClassId} {A : Nat → Prop}
variable {y pc : Nat} {ls : zL} {st : List Value} {w : zW} {ca sl b : Nat} {ad : Nat → Nat} {ls0 : Array Slot} {q' : zSt} {Sc : zSc}
theorem zgo_sound (ok1 : okT E Cd) (ok2 : okF E Ow cl GW) (ok3 : okC E Ow cl GW) (ok4 : okNew E Ow cl GW) (ok5 : okK E Ow GW) (ok6 : okN E Ow GW)
    (hx : p.tables.exec = Jvm.exec) (hb : c.code = Cd y) (hml : c.maxLocals = zMax (E.D y)) (hown : s.vm.findClass (Ow (zOwn (E.D y))) = some m.cls) (hmk : zKd (E.D y) = 2 → meth.name = "<init>") (hG : zG GW s) (hK : va_K D cl (zty ct) s) (hSs : zSs Sc b A s) (hA : ∀ q, s.heap.size ≤ q → A q)
    (hfr : zFr (E.D y) ≤ R.frames) (hlo : zLo (E.D y) ≤ R.locals)
    (hr : zRel D cl ct A s.heap (zMax (E.D y)) ad b ls0 H locs ls w) (h : zstep E Sc y (pc, ls, st, w, ca, sl) = some (.inl q')) (hc : q'.2.2.2.2.1 ≤ R.cells) (hs : q'.2.2.2.2.2 ≤ R.slots) (k : zGo p l e R s m args below meth c Q D cl ct A (zMax (E.D y)) ad b w q') :
    W p l e R s m args below meth c H locs ca sl Q (F0 m pc ls0 (st.map (xV ad b))) := by
  unfold zstep at h
  dsimp only at h
  split at h
  · split at h
    · cases h
    · cases h
  · split at h
    · cases h
    · rename_i i tg hT
      obtain ⟨n, hd, hn, hj⟩ := ok1 _ _ _ _ hT
      split at h
      · rename_i pc' ls' st' hP
        cases h
        exact zP_sound hx hb hd hn hj hr.1 hP (fun ls1 hl1 => k ad ls1 H locs (fun _ _ => rfl) ⟨hl1, hr.2⟩)
      · split at h
        · obtain rfl := zlen_of hn rfl
          exact zget_sound hx hb hown hG hK ok2 ok3 hd hr (zinl h) k
        · obtain rfl := zlen_of hn rfl
          exact zputf_sound hx hb hown (fun q => hmk (by simpa using q)) hG hK ok2 ok3 hd hr (zinl h) k
        · obtain rfl := zlen_of hn rfl
          exact zaldI_sound hx hb hK hSs hd hr (zinl h) k
        · obtain rfl := zlen_of hn rfl
          exact zaldL_sound hx hb hK hd hr (zinl h) k
        · obtain rfl := zlen_of hn rfl
          exact zaldZ_sound hx hb hK hd hr (zinl h) k
        · obtain rfl := zlen_of hn rfl
          exact zastI_sound hx hb hK hd hr (zinl h) k
        · obtain rfl := zlen_of hn rfl
          exact zastL_sound hx hb hK hd hr (zinl h) k
        · obtain rfl := zlen_of hn rfl
          exact zastZ_sound hx hb hK hd hr (zinl h) k
        · obtain rfl := zlen_of hn rfl
          exact zalen_sound hx hb hK hSs hd hr (zinl h) k
        · obtain rfl := zlen_of hn rfl
          exact znew_sound hx hb hown hG hK ok4 ok3 hA hd hr (zinl h) hc hs k
        · obtain rfl := zlen_of hn rfl
          have h1 := zinl h
          split at h1
          · exact znewaI_sound hx hb hG ok5.2.2.1 hK hA hd hr h1 hc hs k
          · exact znewaL_sound hx hb hG ok5.2.2.2.1 hK hA hd hr h1 hc hs k
          · exact znewaZ_sound hx hb hG ok5.2.2.2.2 hK hA hd hr h1 hc hs k
          · cases h1
        · obtain rfl := zlen_of hn rfl
          obtain ⟨v, hv, e9⟩ := zconst h
          cases e9
          exact lv_ldc2 hx hb hown (hG _ (ok5.1 _ _ _ hv) args) hd (k ad ls0 H locs (fun _ _ => rfl) hr)
        · obtain rfl := zlen_of hn rfl
          obtain ⟨v, hv, e9⟩ := zconst h
          cases e9
          exact lv_ldc hx hb hown (hG _ (ok5.2.1 _ _ _ hv) args) hd (k ad ls0 H locs (fun _ _ => rfl) hr)
        · repeat' (split at h)
          all_goals cases h
        · repeat' (split at h)
          all_goals cases h
        · repeat' (split at h)
          all_goals cases h
        · repeat' (split at h)
          all_goals cases h
        · obtain rfl := zlen_of hn rfl
          split at h
          · rename_i kk hN
            split at h
            · rename_i hg
              have hg1 : 1 ≤ zFr (E.D y) ∧ zwt st + 40 ≤ zLo (E.D y) := by simpa [zroom] using hg.1
              exact znat1_sound hx hb hml hown hG (ok6 _ _ _ hN) hg.2 (Nat.le_trans hg1.1 hfr) (Nat.le_trans hg1.2 hlo) hK hd hr (zinl h) hc hs k
            · cases h
          · exact (zcall_not h).elim
        · obtain rfl := zlen_of hn rfl
          split at h
          · rename_i kk hN
            split at h
            · rename_i hg
              have hg1 : 1 ≤ zFr (E.D y) ∧ zwt st + 40 ≤ zLo (E.D y) := by simpa [zroom] using hg.1
              obtain ⟨-, rfl⟩ := hg
              exact znat0_sound hx hb hml hown hG (ok6 _ _ _ hN) (Nat.le_trans hg1.1 hfr) (Nat.le_trans hg1.2 hlo) hd hr (zinl h) k
            · cases h
          · exact (zcall_not h).elim
        · exact (zcall_not h).elim
        · cases h
end zGs
