/-! Each instruction that looks at no cell does on the machine what zP says. -/
theorem zlen_of {i : Instr} {n k : Nat} (hn : zlen i = some n ∨ zlen i = none) (hk : zlen i = some k) : n = k := by
  rcases hn with h | h
  · rw [hk] at h; exact (Option.some.inj h).symm
  · rw [hk] at h; cases h
theorem zite {P : Nat → Prop} {c : Bool} {a b : Nat} (h : P (if c = true then a else b)) : (c = true → P a) ∧ (c = false → P b) := by
  cases c
  · exact ⟨fun q => (by cases q), fun _ => h⟩
  · exact ⟨fun _ => h, fun q => (by cases q)⟩
theorem zi1_of {f : Int32 → Value} {pc : Nat} {ls : zL} {st : List Value} {r : Nat × zL × List Value} (h : zi1 f pc ls st = some r) : ∃ x st0, st = .int x :: st0 ∧ r = (pc + 1, ls, f x :: st0) := by
  unfold zi1 at h; split at h
  · exact ⟨_, _, rfl, (Option.some.inj h).symm⟩
  · cases h
theorem zl1_of {f : Int64 → Value} {pc : Nat} {ls : zL} {st : List Value} {r : Nat × zL × List Value} (h : zl1 f pc ls st = some r) : ∃ x st0, st = .long x :: st0 ∧ r = (pc + 1, ls, f x :: st0) := by
  unfold zl1 at h; split at h
  · exact ⟨_, _, rfl, (Option.some.inj h).symm⟩
  · cases h
theorem zi2_of {f : Int32 → Int32 → Int32} {pc : Nat} {ls : zL} {st : List Value} {r : Nat × zL × List Value} (h : zi2 f pc ls st = some r) : ∃ x y st0, st = .int y :: .int x :: st0 ∧ r = (pc + 1, ls, .int (f x y) :: st0) := by
  unfold zi2 at h; split at h
  · exact ⟨_, _, _, rfl, (Option.some.inj h).symm⟩
  · cases h
theorem zdiv_of {f : Int32 → Int32 → Int32} {pc : Nat} {ls : zL} {st : List Value} {r : Nat × zL × List Value} (h : zdiv f pc ls st = some r) : ∃ x y st0, st = .int y :: .int x :: st0 ∧ ¬ y = 0 ∧ r = (pc + 1, ls, .int (f x y) :: st0) := by
  unfold zdiv at h; split at h
  · split at h
    · cases h
    · rename_i hz
      exact ⟨_, _, _, rfl, hz, (Option.some.inj h).symm⟩
  · cases h
theorem zl2_of {f : Int64 → Int64 → Value} {pc : Nat} {ls : zL} {st : List Value} {r : Nat × zL × List Value} (h : zl2 f pc ls st = some r) : ∃ x y st0, st = .long y :: .long x :: st0 ∧ r = (pc + 1, ls, f x y :: st0) := by
  unfold zl2 at h; split at h
  · exact ⟨_, _, _, rfl, (Option.some.inj h).symm⟩
  · cases h
theorem zls_of {f : Int64 → Int32 → Int64} {pc : Nat} {ls : zL} {st : List Value} {r : Nat × zL × List Value} (h : zls f pc ls st = some r) : ∃ x y st0, st = .int y :: .long x :: st0 ∧ r = (pc + 1, ls, .long (f x y) :: st0) := by
  unfold zls at h; split at h
  · exact ⟨_, _, _, rfl, (Option.some.inj h).symm⟩
  · cases h
theorem zb1_of {f : Int32 → Bool} {tg pc : Nat} {ls : zL} {st : List Value} {r : Nat × zL × List Value} (h : zb1 f tg pc ls st = some r) : ∃ x st0, st = .int x :: st0 ∧ r = (if f x = true then tg else pc + 3, ls, st0) := by
  unfold zb1 at h; split at h
  · exact ⟨_, _, rfl, (Option.some.inj h).symm⟩
  · cases h
theorem zb2_of {f : Int32 → Int32 → Bool} {tg pc : Nat} {ls : zL} {st : List Value} {r : Nat × zL × List Value} (h : zb2 f tg pc ls st = some r) : ∃ x y st0, st = .int y :: .int x :: st0 ∧ r = (if f x y = true then tg else pc + 3, ls, st0) := by
  unfold zb2 at h; split at h
  · exact ⟨_, _, _, rfl, (Option.some.inj h).symm⟩
  · cases h
theorem zldI_of {i n pc : Nat} {ls : zL} {st : List Value} {r : Nat × zL × List Value} (h : zldI i n pc ls st = some r) : ∃ x, ls[i]? = some (some (.int x)) ∧ r = (pc + n, ls, .int x :: st) := by
  unfold zldI at h; split at h
  · rename_i x hx
    exact ⟨x, hx, (Option.some.inj h).symm⟩
  · cases h
theorem zldL_of {i n pc : Nat} {ls : zL} {st : List Value} {r : Nat × zL × List Value} (h : zldL i n pc ls st = some r) : ∃ x, ls[i]? = some (some (.long x)) ∧ r = (pc + n, ls, .long x :: st) := by
  unfold zldL at h; split at h
  · rename_i x hx
    exact ⟨x, hx, (Option.some.inj h).symm⟩
  · cases h
theorem zldA_of (ad : Nat → Nat) (b : Nat) {i n pc : Nat} {ls : zL} {st : List Value} {r : Nat × zL × List Value} (h : zldA i n pc ls st = some r) : ∃ v x, ls[i]? = some (some v) ∧ xV ad b v = .ref x ∧ r = (pc + n, ls, v :: st) := by
  unfold zldA at h; split at h
  · rename_i x hx
    exact ⟨_, _, hx, rfl, (Option.some.inj h).symm⟩
  · rename_i x hx
    exact ⟨_, _, hx, rfl, (Option.some.inj h).symm⟩
  · cases h
theorem zstI_of {i n pc : Nat} {ls : zL} {st : List Value} {r : Nat × zL × List Value} (h : zstI i n pc ls st = some r) : ∃ x st0, st = .int x :: st0 ∧ i < ls.length ∧ r = (pc + n, zput1 i (.int x) ls, st0) := by
  unfold zstI at h; split at h
  · split at h
    · rename_i hi
      exact ⟨_, _, rfl, hi, (Option.some.inj h).symm⟩
    · cases h
  · cases h
theorem zstA_of {i n pc : Nat} {ls : zL} {st : List Value} {r : Nat × zL × List Value} (h : zstA i n pc ls st = some r) : ∃ x st0, st = .ref x :: st0 ∧ i < ls.length ∧ r = (pc + n, zput1 i (.ref x) ls, st0) := by
  unfold zstA at h; split at h
  · split at h
    · rename_i hi
      exact ⟨_, _, rfl, hi, (Option.some.inj h).symm⟩
    · cases h
  · cases h
theorem zstL_of {i n pc : Nat} {ls : zL} {st : List Value} {r : Nat × zL × List Value} (h : zstL i n pc ls st = some r) : ∃ x st0, st = .long x :: st0 ∧ i + 1 < ls.length ∧ r = (pc + n, zput2 i (.long x) ls, st0) := by
  unfold zstL at h; split at h
  · split at h
    · rename_i hi
      exact ⟨_, _, rfl, hi, (Option.some.inj h).symm⟩
    · cases h
  · cases h
theorem zinc_of {i : Nat} {n : Int} {pc : Nat} {ls : zL} {st : List Value} {r : Nat × zL × List Value} (h : zinc i n pc ls st = some r) : ∃ x, ls[i]? = some (some (.int x)) ∧ r = (pc + 3, zput1 i (.int (x + Int32.ofInt n)) ls, st) := by
  unfold zinc at h; split at h
  · rename_i x hx
    exact ⟨x, hx, (Option.some.inj h).symm⟩
  · cases h
theorem zdup_of {pc : Nat} {ls : zL} {st : List Value} {r : Nat × zL × List Value} (h : zdup pc ls st = some r) : ∃ v st0, st = v :: st0 ∧ v.category = 1 ∧ r = (pc + 1, ls, v :: v :: st0) := by
  unfold zdup at h; split at h
  · split at h
    · rename_i hc
      exact ⟨_, _, rfl, hc, (Option.some.inj h).symm⟩
    · cases h
  · cases h
theorem zpop_of {pc : Nat} {ls : zL} {st : List Value} {r : Nat × zL × List Value} (h : zpop pc ls st = some r) : ∃ v st0, st = v :: st0 ∧ v.category = 1 ∧ r = (pc + 1, ls, st0) := by
  unfold zpop at h; split at h
  · split at h
    · rename_i hc
      exact ⟨_, _, rfl, hc, (Option.some.inj h).symm⟩
    · cases h
  · cases h
theorem zpop2_of {pc : Nat} {ls : zL} {st : List Value} {r : Nat × zL × List Value} (h : zpop2 pc ls st = some r) : ∃ v st0, st = v :: st0 ∧ v.category = 2 ∧ r = (pc + 1, ls, st0) := by
  unfold zpop2 at h; split at h
  · split at h
    · rename_i hc
      exact ⟨_, _, rfl, hc, (Option.some.inj h).symm⟩
    · cases h
  · cases h
theorem zdup2_of {pc : Nat} {ls : zL} {st : List Value} {r : Nat × zL × List Value} (h : zdup2 pc ls st = some r) : ∃ v u st0, st = v :: u :: st0 ∧ (v.category = 1 ∧ u.category = 1) ∧ r = (pc + 1, ls, v :: u :: v :: u :: st0) := by
  unfold zdup2 at h; split at h
  · split at h
    · rename_i hc
      exact ⟨_, _, _, rfl, hc, (Option.some.inj h).symm⟩
    · cases h
  · cases h
theorem zdupx1_of {pc : Nat} {ls : zL} {st : List Value} {r : Nat × zL × List Value} (h : zdupx1 pc ls st = some r) : ∃ v u st0, st = v :: u :: st0 ∧ (v.category = 1 ∧ u.category = 1) ∧ r = (pc + 1, ls, v :: u :: v :: st0) := by
  unfold zdupx1 at h; split at h
  · split at h
    · rename_i hc
      exact ⟨_, _, _, rfl, hc, (Option.some.inj h).symm⟩
    · cases h
  · cases h
theorem zdupx2_of {pc : Nat} {ls : zL} {st : List Value} {r : Nat × zL × List Value} (h : zdupx2 pc ls st = some r) : ∃ v u t st0, st = v :: u :: t :: st0 ∧ (v.category = 1 ∧ u.category = 1 ∧ t.category = 1) ∧ r = (pc + 1, ls, v :: u :: t :: v :: st0) := by
  unfold zdupx2 at h; split at h
  · split at h
    · rename_i hc
      exact ⟨_, _, _, _, rfl, hc, (Option.some.inj h).symm⟩
    · cases h
  · cases h
set_option maxHeartbeats 4000000 in
theorem zP_sound {p : Program} {l : Launch} {e : Env} {R : Room} {s : State} {m : MethodId} {args : Array Value} {below : List Frame} {meth : Method} {c : Code} {H : Heap} {locs : List Loc} {cells slots : Nat} {Q : State → Prop} {cc : ByteArray} (hx : p.tables.exec = Jvm.exec) (hb : c.code = cc) {i : Instr} {tg pc n : Nat} {ls : zL} {st : List Value} {pc' : Nat} {ls' : zL} {st' : List Value} {ad : Nat → Nat} {b nL : Nat} {ls0 : Array Slot}
    (hd : decode cc pc = .ok (i, n)) (hn : zlen i = some n ∨ zlen i = none) (hj : ∀ o, zoff i = some o → (pc : Int) + o = (tg : Int)) (hl : xL ad b nL ls0 ls) (h : zP i tg pc ls st = some (pc', ls', st'))
    (k : ∀ ls1, xL ad b nL ls1 ls' → W p l e R s m args below meth c H locs cells slots Q (F0 m pc' ls1 (st'.map (xV ad b)))) : W p l e R s m args below meth c H locs cells slots Q (F0 m pc ls0 (st.map (xV ad b))) := by
  cases i with
  | iconst n0 =>
    obtain rfl := zlen_of hn rfl
    cases h
    exact lv_iconst hx hb hd rfl (k ls0 hl)
  | bipush n0 =>
    obtain rfl := zlen_of hn rfl
    cases h
    exact lv_bipush hx hb hd rfl (k ls0 hl)
  | sipush n0 =>
    obtain rfl := zlen_of hn rfl
    cases h
    exact lv_sipush hx hb hd rfl (k ls0 hl)
  | lconst n0 =>
    obtain rfl := zlen_of hn rfl
    cases h
    exact lv_lconst hx hb hd rfl (k ls0 hl)
  | iload_n j =>
    obtain rfl := zlen_of hn rfl
    obtain ⟨x, hi, e9⟩ := zldI_of h
    cases e9
    exact lv_iload_n hx hb hd rfl (hl.2.2.2 _ _ hi) (k ls0 hl)
  | iload j =>
    obtain rfl := zlen_of hn rfl
    obtain ⟨x, hi, e9⟩ := zldI_of h
    cases e9
    exact lv_iload hx hb hd (hl.2.2.2 _ _ hi) (k ls0 hl)
  | lload_n j =>
    obtain rfl := zlen_of hn rfl
    obtain ⟨x, hi, e9⟩ := zldL_of h
    cases e9
    exact lv_lload_n hx hb hd rfl (hl.2.2.2 _ _ hi) (k ls0 hl)
  | lload j =>
    obtain rfl := zlen_of hn rfl
    obtain ⟨x, hi, e9⟩ := zldL_of h
    cases e9
    exact lv_lload hx hb hd (hl.2.2.2 _ _ hi) (k ls0 hl)
  | aload_n j =>
    obtain rfl := zlen_of hn rfl
    obtain ⟨v, x, hi, hv, e9⟩ := zldA_of ad b h
    cases e9
    have h1 := hl.2.2.2 _ _ hi
    have h2 := k ls0 hl
    rw [List.map_cons, hv] at h2
    rw [hv] at h1
    exact lv_aload_n hx hb hd rfl h1 h2
  | aload j =>
    obtain rfl := zlen_of hn rfl
    obtain ⟨v, x, hi, hv, e9⟩ := zldA_of ad b h
    cases e9
    have h1 := hl.2.2.2 _ _ hi
    have h2 := k ls0 hl
    rw [List.map_cons, hv] at h2
    rw [hv] at h1
    exact lv_aload hx hb hd h1 h2
  | istore_n j =>
    obtain rfl := zlen_of hn rfl
    obtain ⟨x, st0, rfl, hi, e9⟩ := zstI_of h
    cases e9
    exact lv_istore_n hx hb hd rfl (xlist_has hl) (by rw [← hl.1]; exact hi) rfl (fun ls1 h1 => k ls1 (xL_put1 hl hi h1))
  | istore j =>
    obtain rfl := zlen_of hn rfl
    obtain ⟨x, st0, rfl, hi, e9⟩ := zstI_of h
    cases e9
    exact lv_istore hx hb hd (xlist_has hl) (by rw [← hl.1]; exact hi) rfl (fun ls1 h1 => k ls1 (xL_put1 hl hi h1))
  | astore_n j =>
    obtain rfl := zlen_of hn rfl
    obtain ⟨x, st0, rfl, hi, e9⟩ := zstA_of h
    cases e9
    exact lv_astore_n hx hb hd rfl (xlist_has hl) (by rw [← hl.1]; exact hi) rfl (fun ls1 h1 => k ls1 (xL_put1 hl hi h1))
  | astore j =>
    obtain rfl := zlen_of hn rfl
    obtain ⟨x, st0, rfl, hi, e9⟩ := zstA_of h
    cases e9
    exact lv_astore hx hb hd (xlist_has hl) (by rw [← hl.1]; exact hi) rfl (fun ls1 h1 => k ls1 (xL_put1 hl hi h1))
  | lstore_n j =>
    obtain rfl := zlen_of hn rfl
    obtain ⟨x, st0, rfl, hi, e9⟩ := zstL_of h
    cases e9
    exact lv_lstore_n hx hb hd rfl (xlist_has hl) (by rw [← hl.1]; exact hi) rfl (fun ls1 h1 => k ls1 (xL_put2 hl hi h1))
  | lstore j =>
    obtain rfl := zlen_of hn rfl
    obtain ⟨x, st0, rfl, hi, e9⟩ := zstL_of h
    cases e9
    exact lv_lstore hx hb hd (xlist_has hl) (by rw [← hl.1]; exact hi) rfl (fun ls1 h1 => k ls1 (xL_put2 hl hi h1))
  | iinc j n0 =>
    obtain rfl := zlen_of hn rfl
    obtain ⟨x, hi, e9⟩ := zinc_of h
    cases e9
    have hlt := (List.getElem?_eq_some_iff.mp hi).1
    obtain ⟨q, hq⟩ := List.getElem?_of_mem (xlist_in (ad := ad) (b := b) hi)
    exact lv_iinc hx hb hd (xlist_has hl) hq rfl (by rw [← hl.1]; exact hlt) rfl (fun ls1 h1 => k ls1 (xL_put1 hl hlt h1))
  | iadd =>
    obtain rfl := zlen_of hn rfl
    obtain ⟨x, y, st0, rfl, e9⟩ := zi2_of h
    cases e9
    exact lv_iadd hx hb hd (k ls0 hl)
  | isub =>
    obtain rfl := zlen_of hn rfl
    obtain ⟨x, y, st0, rfl, e9⟩ := zi2_of h
    cases e9
    exact lv_isub hx hb hd (k ls0 hl)
  | imul =>
    obtain rfl := zlen_of hn rfl
    obtain ⟨x, y, st0, rfl, e9⟩ := zi2_of h
    cases e9
    exact lv_imul hx hb hd (k ls0 hl)
  | iand =>
    obtain rfl := zlen_of hn rfl
    obtain ⟨x, y, st0, rfl, e9⟩ := zi2_of h
    cases e9
    exact lv_iand hx hb hd (k ls0 hl)
  | ior =>
    obtain rfl := zlen_of hn rfl
    obtain ⟨x, y, st0, rfl, e9⟩ := zi2_of h
    cases e9
    exact lv_ior hx hb hd (k ls0 hl)
  | ixor =>
    obtain rfl := zlen_of hn rfl
    obtain ⟨x, y, st0, rfl, e9⟩ := zi2_of h
    cases e9
    exact lv_ixor hx hb hd (k ls0 hl)
  | ishl =>
    obtain rfl := zlen_of hn rfl
    obtain ⟨x, y, st0, rfl, e9⟩ := zi2_of h
    cases e9
    exact lv_ishl hx hb hd (k ls0 hl)
  | ishr =>
    obtain rfl := zlen_of hn rfl
    obtain ⟨x, y, st0, rfl, e9⟩ := zi2_of h
    cases e9
    exact lv_ishr hx hb hd (k ls0 hl)
  | idiv =>
    obtain rfl := zlen_of hn rfl
    obtain ⟨x, y, st0, rfl, hz, e9⟩ := zdiv_of h
    cases e9
    exact lv_idiv hx hb hd hz (k ls0 hl)
  | irem =>
    obtain rfl := zlen_of hn rfl
    obtain ⟨x, y, st0, rfl, hz, e9⟩ := zdiv_of h
    cases e9
    exact lv_irem hx hb hd hz (k ls0 hl)
  | ladd =>
    obtain rfl := zlen_of hn rfl
    obtain ⟨x, y, st0, rfl, e9⟩ := zl2_of h
    cases e9
    exact lv_ladd hx hb hd (k ls0 hl)
  | lsub =>
    obtain rfl := zlen_of hn rfl
    obtain ⟨x, y, st0, rfl, e9⟩ := zl2_of h
    cases e9
    exact lv_lsub hx hb hd (k ls0 hl)
  | lmul =>
    obtain rfl := zlen_of hn rfl
    obtain ⟨x, y, st0, rfl, e9⟩ := zl2_of h
    cases e9
    exact lv_lmul hx hb hd (k ls0 hl)
  | land =>
    obtain rfl := zlen_of hn rfl
    obtain ⟨x, y, st0, rfl, e9⟩ := zl2_of h
    cases e9
    exact lv_land hx hb hd (k ls0 hl)
  | lor =>
    obtain rfl := zlen_of hn rfl
    obtain ⟨x, y, st0, rfl, e9⟩ := zl2_of h
    cases e9
    exact lv_lor hx hb hd (k ls0 hl)
  | lxor =>
    obtain rfl := zlen_of hn rfl
    obtain ⟨x, y, st0, rfl, e9⟩ := zl2_of h
    cases e9
    exact lv_lxor hx hb hd (k ls0 hl)
  | lcmp =>
    obtain rfl := zlen_of hn rfl
    obtain ⟨x, y, st0, rfl, e9⟩ := zl2_of h
    cases e9
    exact W.lcmp hx hb hd (k ls0 hl)
  | lshl =>
    obtain rfl := zlen_of hn rfl
    obtain ⟨x, y, st0, rfl, e9⟩ := zls_of h
    cases e9
    exact lv_lshl hx hb hd rfl (k ls0 hl)
  | lshr =>
    obtain rfl := zlen_of hn rfl
    obtain ⟨x, y, st0, rfl, e9⟩ := zls_of h
    cases e9
    exact lv_lshr hx hb hd rfl (k ls0 hl)
  | lushr =>
    obtain rfl := zlen_of hn rfl
    obtain ⟨x, y, st0, rfl, e9⟩ := zls_of h
    cases e9
    exact lv_lushr hx hb hd rfl (k ls0 hl)
  | i2l =>
    obtain rfl := zlen_of hn rfl
    obtain ⟨x, st0, rfl, e9⟩ := zi1_of h
    cases e9
    exact lv_i2l hx hb hd rfl (k ls0 hl)
  | l2i =>
    obtain rfl := zlen_of hn rfl
    obtain ⟨x, st0, rfl, e9⟩ := zl1_of h
    cases e9
    exact lv_l2i hx hb hd rfl (k ls0 hl)
  | ifCond cnd off =>
    obtain rfl := zlen_of hn rfl
    cases cnd with
    | eq =>
      obtain ⟨x, st0, rfl, e9⟩ := zb1_of h
      cases e9
      have hk := zite (P := fun z => W p l e R s m args below meth c H locs cells slots Q (F0 m z ls0 _)) (k ls0 hl)
      exact lv_if_eq (tgt := tg) hx hb hd (hj _ rfl) (fun hc => hk.1 (decide_eq_true hc)) (fun hc => hk.2 (decide_eq_false hc))
    | ne =>
      obtain ⟨x, st0, rfl, e9⟩ := zb1_of h
      cases e9
      have hk := zite (P := fun z => W p l e R s m args below meth c H locs cells slots Q (F0 m z ls0 _)) (k ls0 hl)
      exact lv_if_ne (tgt := tg) hx hb hd (hj _ rfl) (fun hc => hk.1 (decide_eq_true hc)) (fun hc => hk.2 (decide_eq_false (fun q => q hc)))
    | lt =>
      obtain ⟨x, st0, rfl, e9⟩ := zb1_of h
      cases e9
      have hk := zite (P := fun z => W p l e R s m args below meth c H locs cells slots Q (F0 m z ls0 _)) (k ls0 hl)
      exact lv_if_lt (tgt := tg) hx hb hd (hj _ rfl) (fun hc => hk.1 (decide_eq_true hc)) (fun hc => hk.2 (decide_eq_false hc))
    | ge =>
      obtain ⟨x, st0, rfl, e9⟩ := zb1_of h
      cases e9
      have hk := zite (P := fun z => W p l e R s m args below meth c H locs cells slots Q (F0 m z ls0 _)) (k ls0 hl)
      exact lv_if_ge (tgt := tg) hx hb hd (hj _ rfl) (fun hc => hk.1 (decide_eq_true hc)) (fun hc => hk.2 (decide_eq_false hc))
    | gt =>
      obtain ⟨x, st0, rfl, e9⟩ := zb1_of h
      cases e9
      have hk := zite (P := fun z => W p l e R s m args below meth c H locs cells slots Q (F0 m z ls0 _)) (k ls0 hl)
      exact lv_if_gt (tgt := tg) hx hb hd (hj _ rfl) (fun hc => hk.1 (decide_eq_true hc)) (fun hc => hk.2 (decide_eq_false hc))
    | le =>
      obtain ⟨x, st0, rfl, e9⟩ := zb1_of h
      cases e9
      have hk := zite (P := fun z => W p l e R s m args below meth c H locs cells slots Q (F0 m z ls0 _)) (k ls0 hl)
      exact lv_if_le (tgt := tg) hx hb hd (hj _ rfl) (fun hc => hk.1 (decide_eq_true hc)) (fun hc => hk.2 (decide_eq_false hc))
  | if_icmp cnd off =>
    obtain rfl := zlen_of hn rfl
    cases cnd with
    | eq =>
      obtain ⟨x, y, st0, rfl, e9⟩ := zb2_of h
      cases e9
      have hk := zite (P := fun z => W p l e R s m args below meth c H locs cells slots Q (F0 m z ls0 _)) (k ls0 hl)
      exact lv_icmp_eq (tgt := tg) hx hb hd (hj _ rfl) (fun hc => hk.1 (decide_eq_true hc)) (fun hc => hk.2 (decide_eq_false hc))
    | ne =>
      obtain ⟨x, y, st0, rfl, e9⟩ := zb2_of h
      cases e9
      have hk := zite (P := fun z => W p l e R s m args below meth c H locs cells slots Q (F0 m z ls0 _)) (k ls0 hl)
      exact lv_icmp_ne (tgt := tg) hx hb hd (hj _ rfl) (fun hc => hk.1 (decide_eq_true hc)) (fun hc => hk.2 (decide_eq_false (fun q => q hc)))
    | lt =>
      obtain ⟨x, y, st0, rfl, e9⟩ := zb2_of h
      cases e9
      have hk := zite (P := fun z => W p l e R s m args below meth c H locs cells slots Q (F0 m z ls0 _)) (k ls0 hl)
      exact lv_icmp_lt (tgt := tg) hx hb hd (hj _ rfl) (fun hc => hk.1 (decide_eq_true hc)) (fun hc => hk.2 (decide_eq_false hc))
    | ge =>
      obtain ⟨x, y, st0, rfl, e9⟩ := zb2_of h
      cases e9
      have hk := zite (P := fun z => W p l e R s m args below meth c H locs cells slots Q (F0 m z ls0 _)) (k ls0 hl)
      exact lv_icmp_ge (tgt := tg) hx hb hd (hj _ rfl) (fun hc => hk.1 (decide_eq_true hc)) (fun hc => hk.2 (decide_eq_false hc))
    | gt =>
      obtain ⟨x, y, st0, rfl, e9⟩ := zb2_of h
      cases e9
      have hk := zite (P := fun z => W p l e R s m args below meth c H locs cells slots Q (F0 m z ls0 _)) (k ls0 hl)
      exact lv_icmp_gt (tgt := tg) hx hb hd (hj _ rfl) (fun hc => hk.1 (decide_eq_true hc)) (fun hc => hk.2 (decide_eq_false hc))
    | le =>
      obtain ⟨x, y, st0, rfl, e9⟩ := zb2_of h
      cases e9
      have hk := zite (P := fun z => W p l e R s m args below meth c H locs cells slots Q (F0 m z ls0 _)) (k ls0 hl)
      exact lv_icmp_le (tgt := tg) hx hb hd (hj _ rfl) (fun hc => hk.1 (decide_eq_true hc)) (fun hc => hk.2 (decide_eq_false hc))
  | goto off =>
    obtain rfl := zlen_of hn rfl
    cases h
    exact lv_goto (tgt := tg) hx hb hd (hj _ rfl) (k ls0 hl)
  | dup =>
    obtain rfl := zlen_of hn rfl
    obtain ⟨v, st0, rfl, hc, e9⟩ := zdup_of h
    cases e9
    exact lv_dup hx hb hd (by rw [xV_cat]; exact hc) (k ls0 hl)
  | pop =>
    obtain rfl := zlen_of hn rfl
    obtain ⟨v, st0, rfl, hc, e9⟩ := zpop_of h
    cases e9
    exact lv_pop hx hb hd (va := xV ad b v) (by rw [xV_cat]; exact hc) (k ls0 hl)
  | pop2 =>
    obtain rfl := zlen_of hn rfl
    obtain ⟨v, st0, rfl, hc, e9⟩ := zpop2_of h
    cases e9
    exact lv_pop2_2 hx hb hd (va := xV ad b v) (by rw [xV_cat]; exact hc) (k ls0 hl)
  | dup2 =>
    obtain rfl := zlen_of hn rfl
    obtain ⟨v, u, st0, rfl, hc, e9⟩ := zdup2_of h
    cases e9
    exact lv_dup2_11 hx hb hd (by rw [xV_cat]; exact hc.1) (by rw [xV_cat]; exact hc.2) (k ls0 hl)
  | dup_x1 =>
    obtain rfl := zlen_of hn rfl
    obtain ⟨v, u, st0, rfl, hc, e9⟩ := zdupx1_of h
    cases e9
    exact lv_dup_x1 hx hb hd (by rw [xV_cat]; exact hc.1) (by rw [xV_cat]; exact hc.2) (k ls0 hl)
  | dup_x2 =>
    obtain rfl := zlen_of hn rfl
    obtain ⟨v, u, t, st0, rfl, hc, e9⟩ := zdupx2_of h
    cases e9
    exact lv_dup_x2 hx hb hd (by rw [xV_cat]; exact hc.1) (by rw [xV_cat]; exact hc.2.1) (by rw [xV_cat]; exact hc.2.2) (k ls0 hl)
  | tableswitch d lo hi offs =>
    change zsw d lo hi offs pc ls st = _ at h
    unfold zsw at h
    split at h
    · rename_i x st0
      split at h
      · rename_i hr
        split at h
        · rename_i hz
          cases h
          exact lv_tableOut hx hb hd hr (by rw [Int.toNat_of_nonneg hz]) (k ls0 hl)
        · cases h
      · rename_i hr
        split at h
        · rename_i off ho
          split at h
          · rename_i hz
            cases h
            exact lv_tableIn hx hb hd (fun q => hr (Or.inl q)) (fun q => hr (Or.inr q)) ho (by rw [Int.toNat_of_nonneg hz]) (k ls0 hl)
          · cases h
        · cases h
    · cases h
  | _ => cases h
