/-! Calls, and the whole. -/
section zMn
variable {E : zEnv} {Nm : Nat → MethodName} {Cd : Nat → ByteArray} {Ow : Nat → String} {Xn : Nat → String} {Hh : Nat → List (Nat × Nat × Nat × Nat)} {cl : List vw_C} {GW : List Cond} {SL : List (String × Nat × String)} {D : va_G} {ct : Nat → ClassId}
/-- what is to be shown of a run of f steps -/
def zSound (E : zEnv) (Cd : Nat → ByteArray) (Ow : Nat → String) (Xn : Nat → String) (Hh : Nat → List (Nat × Nat × Nat × Nat)) (cl : List vw_C) (GW : List Cond) (SL : List (String × Nat × String)) (D : va_G) (ct : Nat → ClassId) (f : Nat) : Prop :=
  ∀ (Sc : zSc) (y : Nat) (q : zSt) (o : zO), zrun E f Sc y q = some o → ∀ (p : Program) (l : Launch) (e : Env) (R : Room) (s : State) (m : MethodId) (args : Array Value) (below : List Frame) (meth : Method) (c : Code) (A : Nat → Prop) (b : Nat) (ad0 : Nat → Nat) (n0 : Nat),
    l.stackTraces = false → zCx E Cd Ow Xn Hh cl GW SL D ct Sc y p s m meth c A b → ∀ (ad : Nat → Nat) (ls0 : Array Slot) (H : Heap) (locs : List Loc), (∀ k, k < n0 → ad k = ad0 k) → n0 ≤ q.2.2.2.1.length → zRel D cl ct A s.heap (zMax (E.D y)) ad b ls0 H locs q.2.1 q.2.2.2.1 →
    o.2.2.1 ≤ R.cells → o.2.2.2 ≤ R.slots → zFr (E.D y) ≤ R.frames → zLo (E.D y) ≤ R.locals →
    W p l e R s m args below meth c H locs q.2.2.2.2.1 q.2.2.2.2.2 (vx_MQ below (zQc D cl ct A b ad0 n0 o) (zXc Xn D cl ct A b ad0 n0 o) args s o.2.2.1 o.2.2.2 A) (F0 m q.1 ls0 (q.2.2.1.map (xV ad b)))
variable {p : Program} {l : Launch} {e : Env} {R : Room} {s : State} {m : MethodId} {args : Array Value} {below : List Frame} {meth : Method} {c : Code} {A : Nat → Prop} {b : Nat}
variable {Sc : zSc} {y pc : Nat} {ls : zL} {st : List Value} {w : zW} {ca sl : Nat} {ad : Nat → Nat} {ls0 : Array Slot} {H : Heap} {locs : List Loc}
theorem zrecv_of {y' : Nat} {as : List Value} (ok3 : okC E Ow cl GW) (hK : va_K D cl (zty ct) s) (hP : va_P D cl (xW ad b ct w) H) (h : zrecv E y' as w = true) (hk : zKd (E.D y') ≠ 0) :
    ∃ a as' cell, as.map (xV ad b) = .ref a :: as' ∧ H[a]? = some cell ∧ cell.vm.isStatics = false ∧ s.vm.findClass (Ow (zOwn (E.D y'))) = some cell.cls := by
  unfold zrecv at h
  rw [if_pos hk] at h
  split at h
  · rename_i a as0
    split at h
    · rename_i o ho
      have ho1 : o.1 = zOwn (E.D y') := by simpa using h
      obtain ⟨ci, fs⟩ := o
      dsimp only at ho1
      obtain ⟨r, hr1, -⟩ := hP a _ (xW_at ho)
      obtain ⟨cell, c1, c2, c3⟩ := va_recv hK hP hr1 (xW_at ho)
      obtain ⟨C, T, N⟩ := r
      have hC := (ok3 _ _ _ _ hr1).2.1
      refine ⟨ad a, as0.map (xV ad b), cell, rfl, c1, c2, ?_⟩
      rw [← ho1, ← hC]
      exact c3
    · cases h
  · cases h
/-- a call: the callee runs to its end; what comes then -/
theorem zcall_sound {f : Nat} (ih : zSound E Cd Ow Xn Hh cl GW SL D ct f) (hgw : ∀ x ∈ GW, zgood x = true) (ok1 : okT E Cd) (ok3 : okC E Ow cl GW) (okm : okM E Nm Cd Ow Hh GW) {y' : Nat} {as : List Value} {q1 : zSt} {o1 : zO} {Q : State → Prop}
    (hl : l.stackTraces = false) (Cx : zCx E Cd Ow Xn Hh cl GW SL D ct Sc y p s m meth c A b) (hr : zRel D cl ct A s.heap (zMax (E.D y)) ad b ls0 H locs ls w) (hs : zstep E Sc y (pc, ls, st, w, ca, sl) = some (.inr (.inr (.inl (y', as, q1)))))
    (hrun : zrun E f none y' (zent E y' as q1.2.2.2.1) = some o1) (hc : ca + o1.2.2.1 ≤ R.cells) (hsl : sl + o1.2.2.2 ≤ R.slots) (hfr : zFr (E.D y) ≤ R.frames) (hlo : zLo (E.D y) ≤ R.locals)
    (kr : ∀ (v : Option Value) (ad1 : Nat → Nat) (H1 : Heap) (locs1 : List Loc), o1.1 = .inl v → (∀ k, k < w.length → ad1 k = ad k) → zRel D cl ct A s.heap (zMax (E.D y)) ad1 b ls0 H1 locs1 ls o1.2.1 → W p l e R s m args below meth c H1 locs1 (ca + o1.2.2.1) (sl + o1.2.2.2) Q (F0 m (pc + 3) ls0 ((v.toList ++ q1.2.2.1).map (xV ad1 b))))
    (kx : ∀ (x : Nat) (ad1 : Nat → Nat) (H1 : Heap) (locs1 : List Loc) (q9 : Addr) (ce : Cell), o1.1 = .inr x → (∀ k, k < w.length → ad1 k = ad k) → zRel D cl ct A s.heap (zMax (E.D y)) ad1 b ls0 H1 locs1 ls o1.2.1 → H1[q9]? = some ce → ce.vm = .none → s.vm.findClass (Xn x) = some ce.cls →
      vx_W p l e R s m args below meth c H1 locs1 (ca + o1.2.2.1) (sl + o1.2.2.2) Q (F0 m pc ls0 (q1.2.2.1.map (xV ad b))) q9) :
    W p l e R s m args below meth c H locs ca sl Q (F0 m pc ls0 (st.map (xV ad b))) := by
  obtain ⟨hx, hb, hml, hown, hret, hlocks, hG, hK, hmk, hexc, hSs, hA, hstat⟩ := Cx
  obtain ⟨kd, n, hk3, hX, hcl0, tg, hT⟩ := zstep_call hs
  obtain ⟨y2, hM, ⟨hkd, hf1, hlo1, har, hargs, hscL, hscS, hrcv⟩, e9⟩ := zcall_of hcl0
  cases e9
  obtain ⟨hlink, mok⟩ := okm _ _ _ hM
  obtain ⟨mk, methk, ck, hnamed, hmethM, hck, hcb, hcm, hcx, hcr, hclk, hsig⟩ := zcode hG mok
  obtain ⟨hl0, hP, hD, hS⟩ := id hr
  obtain ⟨n9, hd, hn9, -⟩ := ok1 _ _ _ _ hT
  have hdg : decode c.code pc = .ok ((if kd = 0 then Instr.invokestatic n else if kd = 1 then Instr.invokevirtual n else Instr.invokespecial n), 3) := by
    rw [hb, hd]
    have : n9 = 3 := by
      refine zlen_of hn9 ?_
      split
      · rfl
      · split
        · rfl
        · rfl
    rw [this]
  generalize has : (st.take (zAr (E.D y'))).reverse = as at hs hrun hargs hrcv ⊢
  generalize hrest : st.drop (zAr (E.D y')) = rest at kr kx hlo1 hs
  have hst : st = as.reverse ++ rest := by rw [← has, ← hrest, List.reverse_reverse, List.take_append_drop]
  have hscR : zscS w.length rest = true := by
    rw [hst] at hscS
    unfold zscS at hscS ⊢
    rw [List.all_append, Bool.and_eq_true] at hscS
    exact hscS.2
  intro T hT X
  obtain ⟨vm', X1, st1⟩ := zedge X hx hown hlink hG mok hkd hk3 (g := F0 m pc ls0 (st.map (xV ad b))) rfl (as := as.map (xV ad b)) (rest := rest.map (xV ad b)) (by show st.map (xV ad b) = _; rw [hst, List.map_append, List.map_reverse]) (by rw [List.length_map, ← has]; simp; omega)
    (fun h0 => by rw [hT]; exact zrecv_of ok3 hK hP hrcv (by rw [hkd]; exact h0)) hdg hnamed hmethM hsig
  have hW1 : s.WarmedH vm' := X1.warmed
  obtain ⟨Y0, hin⟩ := X1.into (g := F0 m pc ls0 (rest.map (xV ad b))) rfl (hl0.2.1.trans hml.symm) hdg (as.map (xV ad b)).toArray (R' := { frames := zFr (E.D y'), cells := o1.2.2.1, slots := o1.2.2.2, locals := zLo (E.D y') })
    (mk := mk) (methk := methk) (ck := ck) (by show vm'.method? mk = _; rw [hW1.alike.method?]; exact hmethM) hck hclk
    (State.WarmedH.plainAt hW1 (fun k hk => by obtain ⟨kC, hkC, hnC⟩ := className_of_methodNamed hnamed; cases hkC.symm.trans hk; rw [hnC]; exact mok.1))
    (by show zFr (E.D y') + 1 ≤ _; omega) (by show 2 * 0 + ((rest.map (xV ad b)).map fun v => v.category).sum + (ck.maxLocals + 11) + zLo (E.D y') ≤ _; rw [zwt_map, hcm]; omega) hc hsl
  have hFA : ∀ q, va_A (xW ad b ct w) H.size q → A q := by
    intro q hq
    rcases hq with ⟨k, e1, hk⟩ | hq
    · exact hD.2 k _ hk
    · exact hA q (Nat.le_trans hS.1 hq)
  have Cx' : zCx E Cd Ow Xn Hh cl GW SL D ct none y' p ((T.setVm vm').calling (F0 m pc ls0 (rest.map (xV ad b))) mk (as.map (xV ad b)).toArray) mk methk ck (va_A (xW ad b ct w) H.size) b := by
    refine ⟨hx, hcb, hcm, ?_, hcr, hclk, zG.warm hgw (show s.WarmedH ((T.setVm vm').calling _ mk _).vm from hW1) hG, va_K.moved (show s.vm.Alike ((T.setVm vm').calling _ mk _).vm from hW1.alike) hK, ?_, hcx, trivial, ?_, ?_⟩
    · show vm'.findClass _ = _
      rw [hW1.alike.findClass, ← mok.2.2.1]
      exact findClass_of_methodNamed hnamed
    · intro h2
      rw [(name_of_methodNamed hnamed hmethM).1]
      exact (mok.2.2.2.2.2.2.2.2 h2).1
    · intro q hq
      refine Or.inr ?_
      have : ((T.setVm vm').calling (F0 m pc ls0 (rest.map (xV ad b))) mk (as.map (xV ad b)).toArray).heap = H := hT
      rw [this] at hq
      exact hq
    · have h9 : ((T.setVm vm').calling (F0 m pc ls0 (rest.map (xV ad b))) mk (as.map (xV ad b)).toArray).heap = H := hT
      rw [h9]
      exact hstat.move hS (show s.WarmedH ((T.setVm vm').calling _ mk _).vm from hW1) hFA
  have K := ih none y' _ o1 hrun p l e { frames := zFr (E.D y'), cells := o1.2.2.1, slots := o1.2.2.2, locals := zLo (E.D y') } _ mk (as.map (xV ad b)).toArray (.java (F0 m pc ls0 (rest.map (xV ad b))) :: below) methk ck _ b ad w.length hl Cx' ad
    ((lg_sl (as.map (xV ad b)) ++ List.replicate (zMax (E.D y') - (lg_sl (as.map (xV ad b))).length) Slot.unset).toArray) H [] (fun _ _ => rfl) (Nat.le_refl _)
    ⟨xL_entry hargs, hP, hD.self, by rw [show ((T.setVm vm').calling (F0 m pc ls0 (rest.map (xV ad b))) mk (as.map (xV ad b)).toArray).heap = H from hT]; exact va_S.rf⟩ (Nat.le_refl _) (Nat.le_refl _) (Nat.le_refl _) (Nat.le_refl _)
  obtain ⟨t, hst1, oc, hrun1, hend, hQ⟩ := K _ (by show T.heap = H; exact hT) Y0
  have hgo : ∀ target, Steps p.tables e below t target → Steps p.tables e below (T.setTop (F0 m pc ls0 (st.map (xV ad b)))) target := by
    intro target htg
    refine st1 target (fun acts => ?_)
    have h1 := hin acts
    have e6 : entryFrame mk (as.map (xV ad b)).toArray ck.maxLocals = F0 mk 0 ((lg_sl (as.map (xV ad b)) ++ List.replicate (zMax (E.D y') - (lg_sl (as.map (xV ad b))).length) Slot.unset).toArray) [] := by rw [lg_entry_eq, hcm]
    rw [show ({ F0 m pc ls0 (st.map (xV ad b)) with stack := rest.map (xV ad b) } : JFrame) = F0 m pc ls0 (rest.map (xV ad b)) from rfl, h1]
    exact Eq.mp (congrArg (fun fr => Steps p.tables e below (State.setTop _ fr) target) e6.symm) ((zsteps_weaken (mid := [.java (F0 m pc ls0 (rest.map (xV ad b)))]) hst1).trans htg)
  rcases hQ with ⟨hqc, L, hfe, hL⟩ | ⟨q9, rfl, En, ce, L, hxc, hce, hcv, hcls, hW2, hsame, hL⟩
  · obtain ⟨v | x, w', mc, ms⟩ := o1
    · obtain ⟨ad1, hag, rfl, hP1, hD1, hF1⟩ := hqc
      obtain ⟨-, hW2, hsame⟩ := hfe
      obtain ⟨T2, X2, hW3, -, ht⟩ := X1.outOf (g := F0 m pc ls0 (rest.map (xV ad b))) rfl hdg hend hW2 hsame
      have hh : T2.heap = t.heap := by rw [ht]; rfl
      obtain ⟨k1, k2, k3⟩ := vx_keep (A1 := va_A (xW ad b ct w) H.size) (free := va_A (xW ad b ct w) H.size) (show ((T.setVm vm').calling (F0 m pc ls0 (rest.map (xV ad b))) mk (as.map (xV ad b)).toArray).heap = H from hT) hh hS (fun q _ h9 => hFA q h9) hFA hL hF1
      have K2 := kr v ad1 T2.heap (locs ++ L) rfl hag ⟨xL_same hag hscL hl0, by rw [hh]; exact hP1, va_D.weaken hD1 (fun k q _ h9 => hFA _ h9), k3⟩
      obtain ⟨t2, a1, b1⟩ := K2 T2 rfl X2
      refine ⟨t2, hgo t2 ?_, b1⟩
      rw [ht]
      have e5 : (v.toList ++ rest).map (xV ad1 b) = (v.map (xV ad1 b)).toList ++ rest.map (xV ad b) := by
        rw [List.map_append, xS_same hag hscR]
        cases v <;> rfl
      rw [e5] at a1
      exact a1
    · exact hqc.elim
  · obtain ⟨v | x, w', mc, ms⟩ := o1
    · exact hxc.elim
    · obtain ⟨rfl, ad1, hag, hP1, hD1, hF1⟩ := hxc
      obtain ⟨T2, X2, hW3, -, ht⟩ := X1.outOfThrown (g := F0 m pc ls0 (rest.map (xV ad b))) rfl hend hW2 hsame
      have hh : T2.heap = t.heap := by rw [ht]; rfl
      obtain ⟨k1, k2, k3⟩ := vx_keep (A1 := va_A (xW ad b ct w) H.size) (free := va_A (xW ad b ct w) H.size) (show ((T.setVm vm').calling (F0 m pc ls0 (rest.map (xV ad b))) mk (as.map (xV ad b)).toArray).heap = H from hT) hh hS (fun q _ h9 => hFA q h9) hFA hL hF1
      have hcl2 : s.vm.findClass (Xn x) = some ce.cls := by
        have h9 : vm'.findClass (Xn x) = some ce.cls := hcls
        rw [hW1.alike.findClass] at h9
        exact h9
      have K2 := kx x ad1 T2.heap (locs ++ L) q9 ce rfl hag ⟨xL_same hag hscL hl0, by rw [hh]; exact hP1, va_D.weaken hD1 (fun k q _ h9 => hFA _ h9), k3⟩ (by rw [hh]; exact hce) hcv hcl2
      obtain ⟨t2, a1, b1⟩ := K2 T2 rfl X2
      refine ⟨t2, hgo t2 ?_, b1⟩
      rw [ht]
      exact a1
theorem zx_table {xs : List ExceptionTableEntry} {hh : List (Nat × Nat × Nat × Nat)} (h : xs.map (fun x => (x.startPc, x.endPc, x.handlerPc, x.catchType)) = hh) {j : Nat} {r : Nat × Nat × Nat × Nat} (hj : hh[j]? = some r) : ∃ x, xs[j]? = some x ∧ r = (x.startPc, x.endPc, x.handlerPc, x.catchType) := by
  rw [← h, List.getElem?_map] at hj
  cases hx : xs[j]? with
  | none => rw [hx] at hj; cases hj
  | some x => rw [hx] at hj; exact ⟨x, rfl, (Option.some.inj hj).symm⟩
theorem zx_split {α : Type} {xs : List α} {j : Nat} {x : α} (h : xs[j]? = some x) : xs = xs.take j ++ x :: xs.drop (j + 1) := by
  obtain ⟨hl, he⟩ := List.getElem?_eq_some_iff.mp h
  rw [← he, ← List.drop_eq_getElem_cons hl, List.take_append_drop]
theorem z_sound (hgw : ∀ x ∈ GW, zgood x = true) (ok1 : okT E Cd) (ok2 : okF E Ow cl GW) (ok3 : okC E Ow cl GW) (ok4 : okNew E Ow cl GW) (ok5 : okK E Ow GW) (ok6 : okN E Ow GW) (okm : okM E Nm Cd Ow Hh GW) (okx : okX E Cd Ow Xn Hh GW SL) (okh : okH E Cd Ow Xn Hh GW) :
    ∀ f, zSound E Cd Ow Xn Hh cl GW SL D ct f := by
  intro f
  induction f with
  | zero => intro Sc y q o h; cases h
  | succ f ih =>
    intro Sc y q o h p l e R s m args below meth c A b ad0 n0 hl Cx ad ls0 H locs had hn0 hr hc hsl hfr hlo
    obtain ⟨pc, ls, st, w, ca, sl⟩ := q
    unfold zrun at h
    cases hs : zstep E Sc y (pc, ls, st, w, ca, sl) with
    | none => rw [hs] at h; cases h
    | some r =>
      rw [hs] at h
      rcases r with q' | v | ⟨y', as, q1⟩ | x
      · have hm := zrun_mono _ _ _ _ _ h
        obtain ⟨hx, hb, hml, hown, hret, hlocks, hG, hK, hmk, hexc, hSs, hA, hstat⟩ := id Cx
        refine zgo_sound ok1 ok2 ok3 ok4 ok5 ok6 hx hb hml hown hmk hG hK hSs hA hfr hlo hr hs (Nat.le_trans hm.2.1 hc) (Nat.le_trans hm.2.2 hsl) (fun ad' ls1 H1 locs1 hsm hr1 => ?_)
        exact ih _ _ _ _ h p l e R s m args below meth c A b ad0 n0 hl Cx ad' ls1 H1 locs1 (fun k hk => (hsm k (Nat.lt_of_lt_of_le hk hn0)).trans (had k hk)) (Nat.le_trans hn0 (zstep_le hs).1) hr1 hc hsl hfr hlo
      · cases h
        exact zret_sound ok1 Cx had hr hs
      · dsimp only at h
        cases hrun : zrun E f none y' (zent E y' as q1.2.2.2.1) with
        | none => rw [hrun] at h; cases h
        | some o1 =>
          rw [hrun] at h
          obtain ⟨kd, n, -, -, hcl0, -⟩ := zstep_call hs
          obtain ⟨y2, -, -, e9⟩ := zcall_of hcl0
          obtain ⟨eq1, eq2⟩ : q1.2.2.2 = (w, ca, sl) ∧ (q1.1 = pc + 3 ∧ q1.2.1 = ls) := by cases e9; exact ⟨rfl, rfl, rfl⟩
          have m1 := zrun_mono _ _ _ _ _ hrun
          have hw1 : w.length ≤ o1.2.1.length := by
            have h9 := m1.1
            rw [eq1] at h9
            exact h9
          have hca1 : q1.2.2.2.2.1 = ca := by rw [eq1]
          have hsl1 : q1.2.2.2.2.2 = sl := by rw [eq1]
          have fin : ca + o1.2.2.1 ≤ R.cells ∧ sl + o1.2.2.2 ≤ R.slots := by
            obtain ⟨v | x, w', mc, ms⟩ := o1
            · have h2 := zrun_mono _ _ _ _ _ h
              rw [← hca1, ← hsl1]
              exact ⟨Nat.le_trans h2.2.1 hc, Nat.le_trans h2.2.2 hsl⟩
            · dsimp only at h
              cases hf : zfind (E.H y) pc x with
              | some hi =>
                obtain ⟨hp, i⟩ := hi
                rw [hf] at h
                have h2 := zrun_mono _ _ _ _ _ h
                rw [← hca1, ← hsl1]
                exact ⟨Nat.le_trans h2.2.1 hc, Nat.le_trans h2.2.2 hsl⟩
              | none =>
                rw [hf] at h
                dsimp only at h
                split at h
                · cases h
                · cases h
                  rw [← hca1, ← hsl1]
                  exact ⟨hc, hsl⟩
          refine zcall_sound ih hgw ok1 ok3 okm hl Cx hr hs hrun fin.1 fin.2 hfr hlo (fun v ad1 H1 locs1 ho hag hr1 => ?_) (fun x ad1 H1 locs1 q9 ce ho hag hr1 hce hcv hcls => ?_)
          · obtain ⟨o11, w', mc, ms⟩ := o1
            dsimp only at ho
            subst ho
            have K := ih _ _ _ _ h p l e R s m args below meth c A b ad0 n0 hl Cx ad1 ls0 H1 locs1 (fun k hk => (hag k (Nat.lt_of_lt_of_le hk hn0)).trans (had k hk)) (Nat.le_trans hn0 hw1) (by rw [eq2.2]; exact hr1) hc hsl hfr hlo
            dsimp only at K
            rw [eq2.1, hca1, hsl1] at K
            exact K
          · obtain ⟨o11, w', mc, ms⟩ := o1
            dsimp only at ho
            subst ho
            dsimp only at h
            obtain ⟨hx, hb, hml, hown, hret, hlocks, hG, hK, hmk, hexc, hSs, hA, hstat⟩ := id Cx
            cases hf : zfind (E.H y) pc x with
            | none =>
              rw [hf] at h
              dsimp only at h
              split at h
              · cases h
              · rename_i hcov
                cases h
                rw [hca1, hsl1]
                refine vx_out (mc := ca + mc) (ms := sl + ms) ?_ hlocks hce hcv hcls (fun t ht hal => ⟨rfl, ad1, fun k hk => (hag k (Nat.lt_of_lt_of_le hk hn0)).trans (had k hk), by rw [ht]; exact hr1.2.1, hr1.2.2.1, hr1.2.2.2.F ht⟩) hr1.2.2.2.2.2 (Nat.le_refl _) (Nat.le_refl _)
                intro xe hxe
                obtain ⟨j, hj⟩ := List.getElem?_of_mem hxe
                have h1 : (Hh y)[j]? = some (xe.startPc, xe.endPc, xe.handlerPc, xe.catchType) := by rw [← hexc, List.getElem?_map, hj]; rfl
                have hjl : j < (E.H y).length := by rw [← (okh.2 y).1]; exact (List.getElem?_eq_some_iff.mp h1).1
                obtain ⟨⟨a9, b9, x9, h9, i9⟩, hE'⟩ : ∃ r, (E.H y)[j]? = some r := ⟨_, List.getElem?_eq_getElem hjl⟩
                obtain ⟨hp, cp, g1, -⟩ := (okh.2 y).2 _ _ _ _ _ _ hE'
                cases h1.symm.trans g1
                have g2 : ¬ (xe.startPc ≤ pc ∧ pc < xe.endPc) := by
                  intro g
                  apply hcov
                  exact List.any_eq_true.mpr ⟨_, List.mem_of_getElem? hE', by simpa using g⟩
                simp only [covers, Bool.and_eq_false_iff, decide_eq_false_iff_not]
                rcases Nat.lt_or_ge pc xe.startPc with g | g
                · exact Or.inl (by omega)
                · exact Or.inr (fun g3 => g2 ⟨g, g3⟩)
            | some hi =>
              obtain ⟨hh, i⟩ := hi
              rw [hf] at h
              dsimp only at h
              obtain ⟨j, a9, b9, hE, ga, gb, gpre⟩ := zfind_of _ _ _ _ _ hf
              obtain ⟨hp, cp, g1, hcp, hx3, hlk, hil, hdec⟩ := (okh.2 y).2 _ _ _ _ _ _ hE
              obtain ⟨xe, hxe, exe⟩ := zx_table hexc g1
              have K : ∀ ls1, xL ad1 b (zMax (E.D y)) ls1 (zcut i ls) → W p l e R s m args below meth c H1 locs1 (ca + mc) (sl + ms) (vx_MQ below (zQc D cl ct A b ad0 n0 o) (zXc Xn D cl ct A b ad0 n0 o) args s o.2.2.1 o.2.2.2 A) (F0 m hh ls1 []) := by
                intro ls1 hl1
                have K0 := ih _ _ _ _ h p l e R s m args below meth c A b ad0 n0 hl Cx ad1 ls1 H1 locs1 (fun k hk => (hag k (Nat.lt_of_lt_of_le hk hn0)).trans (had k hk)) (Nat.le_trans hn0 hw1) (by rw [eq2.2]; exact ⟨hl1, hr1.2⟩) hc hsl hfr hlo
                dsimp only at K0
                rw [hca1, hsl1] at K0
                exact K0
              have KH : W p l e R s m args below meth c H1 locs1 (ca + mc) (sl + ms) (vx_MQ below (zQc D cl ct A b ad0 n0 o) (zXc Xn D cl ct A b ad0 n0 o) args s o.2.2.1 o.2.2.2 A) (F0 m hp ls0 [.ref q9]) := by
                rcases hdec with ⟨i', hi', hd9, e9⟩ | ⟨hd9, e9⟩
                · rw [e9] at K
                  exact lv_astore_n hx hb hd9 hi' (xlist_has hr1.1) hil rfl (fun ls1 h1 => K ls1 (xL_cut hr1.1 h1))
                · rw [e9] at K
                  exact lv_astore hx hb hd9 (xlist_has hr1.1) hil rfl (fun ls1 h1 => K ls1 (xL_cut hr1.1 h1))
              intro T hT X
              have hpl : e.platform.magicAccessors = ({} : Platform).magicAccessors := by rw [X.admits.platform]
              have hcov : covers xe pc = true := by
                cases exe
                simp only [covers, Bool.and_eq_true, decide_eq_true_eq]
                exact ⟨ga, gb⟩
              have hcpx : xe.catchType = cp := by cases exe; rfl
              have hend : zcE e.platform s m.cls (F0 m pc ls0 (q1.2.2.1.map (xV ad b))).pc ce.cls true xe := by
                obtain ⟨c3, c4, hc3, hc4, hasg⟩ := Cond.castable_spec (hG _ (okh.1 x hx3) args)
                cases Option.some.inj (hc3.symm.trans hcls)
                obtain ⟨c5, hc5, hcl5⟩ := Cond.classLink_spec hown (hG _ hlk args) e.platform hpl
                cases Option.some.inj (hc4.symm.trans hc5)
                exact ⟨hcov, by rw [hcpx]; exact hcp, _, by rw [hcpx]; exact hcl5, hasg⟩
              have hpre : ∀ z ∈ c.exceptionTable.toList.take j, covers z pc = false ∨ zcE e.platform s m.cls (F0 m pc ls0 (q1.2.2.1.map (xV ad b))).pc ce.cls false z := by
                intro z hz
                by_cases hzc : covers z pc = true
                · right
                  obtain ⟨j', hj'⟩ := List.getElem?_of_mem hz
                  have hjlt : j' < j := by
                    have h1 := (List.getElem?_eq_some_iff.mp hj').1
                    rw [List.length_take] at h1
                    omega
                  rw [List.getElem?_take_of_lt hjlt] at hj'
                  have h1 : (Hh y)[j']? = some (z.startPc, z.endPc, z.handlerPc, z.catchType) := by rw [← hexc, List.getElem?_map, hj']; rfl
                  have hjl : j' < (E.H y).length := by rw [← (okh.2 y).1]; exact (List.getElem?_eq_some_iff.mp h1).1
                  obtain ⟨⟨a8, b8, x8, h8, i8⟩, hE8'⟩ : ∃ r, (E.H y)[j']? = some r := ⟨_, List.getElem?_eq_getElem hjl⟩
                  obtain ⟨hp8, cp8, g8, hcp8, hx8, hlk8, -⟩ := (okh.2 y).2 _ _ _ _ _ _ hE8'
                  cases h1.symm.trans g8
                  have hne := gpre j' hjlt _ hE8'
                  simp only [covers, Bool.and_eq_true, decide_eq_true_eq] at hzc
                  have hxx : x ≠ x8 := fun e8 => hne ⟨hzc.1, hzc.2, e8.symm⟩
                  obtain ⟨c3, c4, h3, h4, h5⟩ := hstat.2.2.2 x x8 hx3 hx8 hxx
                  cases Option.some.inj (h3.symm.trans hcls)
                  obtain ⟨c5, hc5, hcl5⟩ := Cond.classLink_spec hown (hG _ hlk8 args) e.platform hpl
                  cases Option.some.inj (h4.symm.trans hc5)
                  exact ⟨by simp only [covers, Bool.and_eq_true, decide_eq_true_eq]; exact hzc, hcp8, _, hcl5, h5⟩
                · left
                  simpa using hzc
              obtain ⟨vm', X', st'⟩ := zc_catch X q9 (g := F0 m pc ls0 (q1.2.2.1.map (xV ad b))) rfl (by rw [hT]; exact hce) hcv (by obtain ⟨k9, h9, -⟩ := Vm.findClass_spec hcls; exact ⟨k9, h9⟩) _ xe _ (zx_split hxe) hpre hend
              obtain ⟨t2, a1, b1⟩ := KH (T.setVm vm') hT X'
              refine ⟨t2, st' t2 ?_, b1⟩
              have e7 : xe.handlerPc = hp := by cases exe; rfl
              rw [e7]
              exact a1
      · cases h
        exact zthr_sound okx hl Cx had hr hs hc hsl hfr hlo
end zMn
