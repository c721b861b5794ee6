/-! What the abstract things are on the machine: ad gives a place's address, b is the script's. -/
def xV (ad : Nat → Nat) (b : Nat) : Value → Value
  | .ref k => .ref (ad k)
  | .retAddr _ => .ref b
  | v => v
def xE (ad : Nat → Nat) (b : Nat) (ct : Nat → ClassId) : va_E → va_E
  | .inl (t, a) => .inl (ct t, a)
  | .inr (ci, fs) => .inr (ci, fs.map (xV ad b))
def xW (ad : Nat → Nat) (b : Nat) (ct : Nat → ClassId) (w : zW) : va_W := w.mapIdx fun k e => (ad k, xE ad b ct e)
theorem xW_at {ad : Nat → Nat} {b : Nat} {ct : Nat → ClassId} {w : zW} {k : Nat} {e : va_E} (h : w[k]? = some e) : (xW ad b ct w)[k]? = some (ad k, xE ad b ct e) := by
  unfold xW
  rw [List.getElem?_mapIdx, h]
  rfl
theorem xW_back {ad : Nat → Nat} {b : Nat} {ct : Nat → ClassId} {w : zW} {k : Nat} {q : Nat × va_E} (h : (xW ad b ct w)[k]? = some q) : ∃ e, w[k]? = some e ∧ q = (ad k, xE ad b ct e) := by
  unfold xW at h
  rw [List.getElem?_mapIdx] at h
  cases hw : w[k]? with
  | none => rw [hw] at h; cases h
  | some e => rw [hw] at h; exact ⟨e, rfl, (Option.some.inj h).symm⟩
theorem xW_len {ad : Nat → Nat} {b : Nat} {ct : Nat → ClassId} {w : zW} : (xW ad b ct w).length = w.length := by simp [xW]
theorem xW_set {ad : Nat → Nat} {b : Nat} {ct : Nat → ClassId} {w : zW} {k : Nat} {e : va_E} : (xW ad b ct w).set k (ad k, xE ad b ct e) = xW ad b ct (w.set k e) := by
  apply List.ext_getElem?
  intro i
  by_cases hi : i = k
  · subst hi
    by_cases hl : i < w.length
    · rw [List.getElem?_set_self (by rw [xW_len]; exact hl), xW_at (List.getElem?_set_self hl)]
    · rw [List.getElem?_eq_none (by rw [List.length_set, xW_len]; omega), List.getElem?_eq_none (by rw [xW_len, List.length_set]; omega)]
  · rw [List.getElem?_set_ne (Ne.symm hi)]
    unfold xW
    rw [List.getElem?_mapIdx, List.getElem?_mapIdx, List.getElem?_set_ne (Ne.symm hi)]
theorem xV_same {ad ad' : Nat → Nat} {b n : Nat} (hs : ∀ k, k < n → ad' k = ad k) {v : Value} (h : zref n v = true) : xV ad' b v = xV ad b v := by
  cases v with
  | ref k => simp only [zref, decide_eq_true_eq] at h; simp only [xV, hs k h]
  | _ => first | rfl | cases h
theorem xS_same {ad ad' : Nat → Nat} {b n : Nat} (hs : ∀ k, k < n → ad' k = ad k) {st : List Value} (h : zscS n st = true) : st.map (xV ad' b) = st.map (xV ad b) := by
  apply List.map_congr_left
  intro v hv
  exact xV_same hs (List.all_eq_true.mp h v hv)
theorem xE_same {ad ad' : Nat → Nat} {b n : Nat} {ct : Nat → ClassId} (hs : ∀ k, k < n → ad' k = ad k) {w : zW} (h : zscW n w = true) {k : Nat} {e : va_E} (hk : w[k]? = some e) : xE ad' b ct e = xE ad b ct e := by
  have h1 := List.all_eq_true.mp h e (List.mem_of_getElem? hk)
  cases e with
  | inl a => rfl
  | inr o =>
    show Sum.inr (o.1, o.2.map (xV ad' b)) = Sum.inr (o.1, o.2.map (xV ad b))
    rw [xS_same hs (show zscS n o.2 = true from h1)]
theorem xW_push {ad : Nat → Nat} {b q : Nat} {ct : Nat → ClassId} {w : zW} {e : va_E} (h : zscW w.length w = true) :
    xW ad b ct w ++ [(q, xE (va_up ad w.length q) b ct e)] = xW (va_up ad w.length q) b ct (w ++ [e]) := by
  have hs : ∀ k, k < w.length → va_up ad w.length q k = ad k := fun k hk => va_up_ne _ _ (Nat.ne_of_lt hk)
  apply List.ext_getElem?
  intro i
  by_cases hl : i < w.length
  · rw [List.getElem?_append_left (by rw [xW_len]; exact hl)]
    have h1 : w[i]? = some w[i] := List.getElem?_eq_getElem hl
    rw [xW_at h1, xW_at (show (w ++ [e])[i]? = some w[i] by rw [List.getElem?_append_left hl]; exact h1), xE_same hs h h1, hs i hl]
  · by_cases hi : i = w.length
    · subst hi
      rw [List.getElem?_append_right (by rw [xW_len]; exact Nat.le_refl _), xW_len, Nat.sub_self, xW_at (show (w ++ [e])[w.length]? = some e by simp)]
      simp [va_up_self]
    · rw [List.getElem?_eq_none (by simp [xW_len]; omega), List.getElem?_eq_none (by simp [xW_len]; omega)]
/-- the slots that are known hold what they should -/
def xL (ad : Nat → Nat) (b nL : Nat) (ls0 : Array Slot) (ls : zL) : Prop := ls.length = nL ∧ ls0.size = nL ∧ lv_wf ls0 ∧ ∀ (i : Nat) (v : Value), ls[i]? = some (some v) → ls0[i]? = some (.val (xV ad b v))
theorem xL_same {ad ad' : Nat → Nat} {b n nL : Nat} {ls0 : Array Slot} {ls : zL} (hs : ∀ k, k < n → ad' k = ad k) (h : zscL n ls = true) (hl : xL ad b nL ls0 ls) : xL ad' b nL ls0 ls := by
  refine ⟨hl.1, hl.2.1, hl.2.2.1, fun i v hv => ?_⟩
  have h1 := List.all_eq_true.mp h (some v) (List.mem_of_getElem? hv)
  rw [xV_same hs h1]
  exact hl.2.2.2 i v hv
/-- the known slots as the kit's list has them -/
def xlist (ad : Nat → Nat) (b : Nat) (ls : zL) : List (Nat × Value) := (List.range ls.length).filterMap fun i => match ls[i]? with
  | some (some v) => some (i, xV ad b v)
  | _ => none
theorem xlist_in {ad : Nat → Nat} {b i : Nat} {ls : zL} {v : Value} (h : ls[i]? = some (some v)) : (i, xV ad b v) ∈ xlist ad b ls := by
  refine List.mem_filterMap.mpr ⟨i, List.mem_range.mpr (List.getElem?_eq_some_iff.mp h).1, ?_⟩
  rw [h]
theorem xlist_has {ad : Nat → Nat} {b nL : Nat} {ls0 : Array Slot} {ls : zL} (h : xL ad b nL ls0 ls) : lv_has ls0 nL (xlist ad b ls) := by
  refine ⟨h.2.1, h.2.2.1, fun q hq => ?_⟩
  obtain ⟨i, -, hi⟩ := List.mem_filterMap.mp hq
  cases hl : ls[i]? with
  | none => rw [hl] at hi; cases hi
  | some o =>
    cases o with
    | none => rw [hl] at hi; cases hi
    | some v =>
      rw [hl] at hi
      cases hi
      exact h.2.2.2 i v hl
theorem zclr_len {i : Nat} {ls : zL} : (zclr i ls).length = ls.length := by
  unfold zclr
  split
  · rfl
  · split
    · split
      · exact List.length_set
      · rfl
    · rfl
theorem zclr_at {i j : Nat} {ls : zL} {v : Value} (h : (zclr i ls)[j]? = some (some v)) : ls[j]? = some (some v) ∧ ¬ (j + 1 = i ∧ v.category = 2) := by
  unfold zclr at h
  split at h
  · exact ⟨h, fun q => by omega⟩
  · rename_i k
    split at h
    · rename_i u hu
      split at h
      · by_cases hjk : j = k
        · subst hjk
          rw [List.getElem?_set_self (List.getElem?_eq_some_iff.mp hu).1] at h
          cases h
        · rw [List.getElem?_set_ne (Ne.symm hjk)] at h
          exact ⟨h, fun q => hjk (by omega)⟩
      · rename_i hc
        refine ⟨h, fun q => hc ?_⟩
        have e1 : j = k := by omega
        subst e1
        rw [hu] at h
        cases h
        exact q.2
    · rename_i hno
      refine ⟨h, fun q => ?_⟩
      have e1 : j = k := by omega
      subst e1
      exact hno v h
theorem xL_put1 {ad : Nat → Nat} {b nL i : Nat} {ls0 ls0' : Array Slot} {ls : zL} {v : Value} (hl : xL ad b nL ls0 ls) (hi : i < ls.length)
    (h : lv_has ls0' nL ((i, xV ad b v) :: (xlist ad b ls).filter (fun q => !(q.1 == i) && !(q.1 + 1 == i && q.2.category == 2)))) : xL ad b nL ls0' (zput1 i v ls) := by
  refine ⟨by rw [zput1, List.length_set, zclr_len]; exact hl.1, h.1, h.2.1, fun j u hu => ?_⟩
  unfold zput1 at hu
  by_cases hj : j = i
  · subst hj
    rw [List.getElem?_set_self (by rw [zclr_len]; exact hi)] at hu
    cases hu
    exact h.2.2 _ List.mem_cons_self
  · rw [List.getElem?_set_ne (Ne.symm hj)] at hu
    obtain ⟨h1, h2⟩ := zclr_at hu
    refine h.2.2 (j, xV ad b u) (List.mem_cons_of_mem _ (List.mem_filter.mpr ⟨xlist_in h1, ?_⟩))
    simp only [Bool.and_eq_true, Bool.not_eq_true', beq_eq_false_iff_ne, ne_eq, Bool.and_eq_false_iff]
    refine ⟨hj, ?_⟩
    by_cases h3 : j + 1 = i
    · refine Or.inr (fun h4 => h2 ⟨h3, ?_⟩)
      cases u <;> first | exact h4 | rfl
    · exact Or.inl h3
theorem xV_cat (ad : Nat → Nat) (b : Nat) (v : Value) : (xV ad b v).category = v.category := by cases v <;> rfl
theorem xL_put2 {ad : Nat → Nat} {b nL i : Nat} {ls0 ls0' : Array Slot} {ls : zL} {v : Value} (hl : xL ad b nL ls0 ls) (hi : i + 1 < ls.length)
    (h : lv_has ls0' nL ((i, xV ad b v) :: (xlist ad b ls).filter (fun q => !(q.1 == i) && (!(q.1 == i + 1) && !(q.1 + 1 == i && q.2.category == 2))))) : xL ad b nL ls0' (zput2 i v ls) := by
  refine ⟨by rw [zput2, List.length_set, List.length_set, zclr_len]; exact hl.1, h.1, h.2.1, fun j u hu => ?_⟩
  unfold zput2 at hu
  by_cases hj1 : j = i + 1
  · subst hj1
    rw [List.getElem?_set_self (by rw [List.length_set, zclr_len]; exact hi)] at hu
    cases hu
  rw [List.getElem?_set_ne (Ne.symm hj1)] at hu
  by_cases hj : j = i
  · subst hj
    rw [List.getElem?_set_self (by rw [zclr_len]; omega)] at hu
    cases hu
    exact h.2.2 _ List.mem_cons_self
  · rw [List.getElem?_set_ne (Ne.symm hj)] at hu
    obtain ⟨h1, h2⟩ := zclr_at hu
    refine h.2.2 (j, xV ad b u) (List.mem_cons_of_mem _ (List.mem_filter.mpr ⟨xlist_in h1, ?_⟩))
    simp only [Bool.and_eq_true, Bool.not_eq_true', beq_eq_false_iff_ne, ne_eq, Bool.and_eq_false_iff]
    refine ⟨hj, hj1, ?_⟩
    by_cases h3 : j + 1 = i
    · exact Or.inr (fun h4 => h2 ⟨h3, by rw [xV_cat] at h4; exact h4⟩)
    · exact Or.inl h3
theorem xL_cut {ad : Nat → Nat} {b nL i : Nat} {ls0 ls0' : Array Slot} {ls : zL} {v : Value} (hl : xL ad b nL ls0 ls)
    (h : lv_has ls0' nL ((i, v) :: (xlist ad b ls).filter (fun q => !(q.1 == i) && !(q.1 + 1 == i && q.2.category == 2)))) : xL ad b nL ls0' (zcut i ls) := by
  refine ⟨by rw [zcut, List.length_set, zclr_len]; exact hl.1, h.1, h.2.1, fun j u hu => ?_⟩
  unfold zcut at hu
  by_cases hj : j = i
  · subst hj
    by_cases hi : j < (zclr j ls).length
    · rw [List.getElem?_set_self hi] at hu
      cases hu
    · rw [List.getElem?_eq_none (by rw [List.length_set]; omega)] at hu
      cases hu
  · rw [List.getElem?_set_ne (Ne.symm hj)] at hu
    obtain ⟨h1, h2⟩ := zclr_at hu
    refine h.2.2 (j, xV ad b u) (List.mem_cons_of_mem _ (List.mem_filter.mpr ⟨xlist_in h1, ?_⟩))
    simp only [Bool.and_eq_true, Bool.not_eq_true', beq_eq_false_iff_ne, ne_eq, Bool.and_eq_false_iff]
    refine ⟨hj, ?_⟩
    by_cases h3 : j + 1 = i
    · exact Or.inr (fun h4 => h2 ⟨h3, by rw [xV_cat] at h4; exact h4⟩)
    · exact Or.inl h3
theorem zargs_in (ad : Nat → Nat) (b : Nat) : ∀ (as : List Value) (j i : Nat) (v : Value), (zargs as)[i]? = some (some v) → (j + i, xV ad b v) ∈ lv_args j (as.map (xV ad b))
  | [], j, i, v, h => by simp [zargs] at h
  | a :: as, j, i, v, h => by
    show _ ∈ (j, xV ad b a) :: lv_args (if (xV ad b a).category = 2 then j + 2 else j + 1) (as.map (xV ad b))
    rw [xV_cat]
    unfold zargs at h
    by_cases hc : a.category = 2
    · rw [if_pos hc] at h ⊢
      match i, h with
      | 0, h => cases h; exact List.mem_cons_self
      | 1, h => cases h
      | i + 2, h =>
        refine List.mem_cons_of_mem _ ?_
        have := zargs_in ad b as (j + 2) i v h
        rwa [show j + 2 + i = j + (i + 2) by omega] at this
    · rw [if_neg hc] at h ⊢
      match i, h with
      | 0, h => cases h; exact List.mem_cons_self
      | i + 1, h =>
        refine List.mem_cons_of_mem _ ?_
        have := zargs_in ad b as (j + 1) i v h
        rwa [show j + 1 + i = j + (i + 1) by omega] at this
theorem zargs_len (ad : Nat → Nat) (b : Nat) : ∀ (as : List Value), (lg_sl (as.map (xV ad b))).length = (zargs as).length
  | [] => rfl
  | a :: as => by
    have h := zargs_len ad b as
    unfold zargs
    by_cases hc : a.category = 2
    · rw [if_pos hc]
      cases a <;> simp_all [lg_sl, xV, Value.category]
    · rw [if_neg hc]
      cases a <;> simp_all [lg_sl, xV, Value.category]
theorem xL_entry {ad : Nat → Nat} {b nL : Nat} {as : List Value} (h : (zargs as).length ≤ nL) :
    xL ad b nL ((lg_sl (as.map (xV ad b)) ++ List.replicate (nL - (lg_sl (as.map (xV ad b))).length) Slot.unset).toArray) (zargs as ++ List.replicate (nL - (zargs as).length) none) := by
  have h1 := lv_entry (as.map (xV ad b)) (n := nL) (by rw [zargs_len]; exact h)
  refine ⟨by simp; omega, h1.1, h1.2.1, fun i v hv => ?_⟩
  by_cases hi : i < (zargs as).length
  · rw [List.getElem?_append_left hi] at hv
    have h2 := zargs_in ad b as 0 i v hv
    rw [Nat.zero_add] at h2
    exact h1.2.2 _ h2
  · rw [List.getElem?_append_right (by omega)] at hv
    rw [List.getElem?_replicate] at hv
    split at hv
    · cases hv
    · cases hv
