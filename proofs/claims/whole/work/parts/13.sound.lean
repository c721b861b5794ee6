/-! THE INTERPRETER IS TRUE OF THE MACHINE: what a run says, the machine does. -/
def zStat (Xn : Nat → String) (SL : List (String × Nat × String)) (A : Nat → Prop) (s : State) (H : Heap) : Prop :=
  vx_Zq Bundle.tN "UNASSIGNED_STACK" Bundle.steD A s H ∧ vx_Zq Bundle.tN "SUPPRESSED_SENTINEL" Bundle.listD A s H ∧ (∀ r ∈ SL, ∃ a, vk_R r.1 r.2.1 r.2.2 a s) ∧ ∀ x x', x < 3 → x' < 3 → x ≠ x' → va_Nc (Xn x) (Xn x') s
theorem zStat.move {Xn : Nat → String} {SL : List (String × Nat × String)} {A B : Nat → Prop} {s U : State} {H : Heap} {locs : List Loc} (h : zStat Xn SL A s s.heap) (hS : va_S A s.heap H locs) (hW : s.WarmedH U.vm) (hAB : ∀ q, B q → A q) : zStat Xn SL B U H :=
  ⟨vx_Zq.narrow (vx_Zq.moved hW.alike (vx_Zq.kept h.1 hS.2.1)) hAB, vx_Zq.narrow (vx_Zq.moved hW.alike (vx_Zq.kept h.2.1 hS.2.1)) hAB, fun r hr => by obtain ⟨a, ha⟩ := h.2.2.1 r hr; exact ⟨a, vk_R.warm hW ha⟩, fun x x' h1 h2 h3 => va_Nc.moved hW.alike (h.2.2.2 x x' h1 h2 h3)⟩
def zNames : List String := ["java/lang/RuntimeException", "java/lang/Exception"]
def okX (E : zEnv) (Cd : Nat → ByteArray) (Ow : Nat → String) (Xn : Nat → String) (Hh : Nat → List (Nat × Nat × Nat × Nat)) (GW : List Cond) (SL : List (String × Nat × String)) : Prop := ∀ y pc x, E.X y pc = some x → Hh y = [] ∧ Bundle.fit (Xn x) = true ∧ ∃ ik is ic tx,
  decode (Cd y) pc = .ok (.new ik, 3) ∧ decode (Cd y) (pc + 3) = .ok (.dup, 1) ∧ decode (Cd y) (pc + 4) = .ok (.ldc is, 2) ∧ decode (Cd y) (pc + 6) = .ok (.invokespecial ic, 3) ∧ decode (Cd y) (pc + 9) = .ok (.athrow, 1) ∧
  Cond.classLink (Ow (zOwn (E.D y))) ik (Xn x) ∈ GW ∧ Cond.initialized (Xn x) ∈ GW ∧ (∀ w ∈ vx_atS (Ow (zOwn (E.D y))) ic (Xn x) zNames, w ∈ GW) ∧
  (∀ w ∈ Cond.classLink (Ow (zOwn (E.D y))) ik (Xn x) :: Cond.initialized (Xn x) :: vx_atS (Ow (zOwn (E.D y))) ic (Xn x) zNames, vx_ot w = true) ∧ (Ow (zOwn (E.D y)), is, tx) ∈ SL
def okH (E : zEnv) (Cd : Nat → ByteArray) (Ow : Nat → String) (Xn : Nat → String) (Hh : Nat → List (Nat × Nat × Nat × Nat)) (GW : List Cond) : Prop := (∀ x, x < 3 → Cond.castable (Xn x) (Xn x) ∈ GW) ∧ ∀ y, (Hh y).length = (E.H y).length ∧
  ∀ (j a b x h i : Nat), (E.H y)[j]? = some (a, b, x, h, i) → ∃ hp cp : Nat, (Hh y)[j]? = some (a, b, hp, cp) ∧ cp ≠ 0 ∧ x < 3 ∧ Cond.classLink (Ow (zOwn (E.D y))) cp (Xn x) ∈ GW ∧ i < zMax (E.D y) ∧
    ((∃ i' : Fin 4, (i' : Nat) = i ∧ decode (Cd y) hp = .ok (.astore_n i', 1) ∧ h = hp + 1) ∨ (decode (Cd y) hp = .ok (.astore i, 2) ∧ h = hp + 2))
theorem zfind_of : ∀ (hs : List (Nat × Nat × Nat × Nat × Nat)) (pc x h i : Nat), zfind hs pc x = some (h, i) → ∃ j a b : Nat, hs[j]? = some (a, b, x, h, i) ∧ a ≤ pc ∧ pc < b ∧ ∀ j' : Nat, j' < j → ∀ e : Nat × Nat × Nat × Nat × Nat, hs[j']? = some e → ¬ (e.1 ≤ pc ∧ pc < e.2.1 ∧ e.2.2.1 = x)
  | [], pc, x, h, i, hf => by cases hf
  | (a, b, k, h0, i0) :: hs, pc, x, h, i, hf => by
    unfold zfind at hf
    split at hf
    · rename_i hg
      obtain ⟨g1, g2, rfl⟩ := hg
      cases hf
      exact ⟨0, a, b, rfl, g1, g2, fun j' hj => absurd hj (Nat.not_lt_zero _)⟩
    · rename_i hg
      obtain ⟨j, a', b', h1, h2, h3, h4⟩ := zfind_of hs pc x h i hf
      refine ⟨j + 1, a', b', h1, h2, h3, fun j' hj e he => ?_⟩
      match j', hj, he with
      | 0, _, he => cases he; exact hg
      | j' + 1, hj, he => exact h4 j' (by omega) e he
def zCx (E : zEnv) (Cd : Nat → ByteArray) (Ow : Nat → String) (Xn : Nat → String) (Hh : Nat → List (Nat × Nat × Nat × Nat)) (cl : List vw_C) (GW : List Cond) (SL : List (String × Nat × String)) (D : va_G) (ct : Nat → ClassId) (Sc : zSc) (y : Nat) (p : Program) (s : State) (m : MethodId) (meth : Method) (c : Code) (A : Nat → Prop) (b : Nat) : Prop :=
  p.tables.exec = Jvm.exec ∧ c.code = Cd y ∧ c.maxLocals = zMax (E.D y) ∧ s.vm.findClass (Ow (zOwn (E.D y))) = some m.cls ∧ meth.sig.returnType = zRet (E.D y) ∧ meth.locks = false ∧ zG GW s ∧ va_K D cl (zty ct) s ∧ (zKd (E.D y) = 2 → meth.name = "<init>") ∧
  c.exceptionTable.toList.map (fun x => (x.startPc, x.endPc, x.handlerPc, x.catchType)) = Hh y ∧ zSs Sc b A s ∧ (∀ q, s.heap.size ≤ q → A q) ∧ zStat Xn SL A s s.heap
def zQc (D : va_G) (cl : List vw_C) (ct : Nat → ClassId) (A : Nat → Prop) (b : Nat) (ad0 : Nat → Nat) (n0 : Nat) (o : zO) : Array Value → State → Outcome → State → Prop := fun _ st oc t => match o.1 with
  | .inl v => ∃ ad' : Nat → Nat, (∀ k, k < n0 → ad' k = ad0 k) ∧ oc = .returned (v.map (xV ad' b)) ∧ va_P D cl (xW ad' b ct o.2.1) t.heap ∧ va_D A (xW ad' b ct o.2.1) ∧ va_F A st t
  | .inr _ => False
def zXc (Xn : Nat → String) (D : va_G) (cl : List vw_C) (ct : Nat → ClassId) (A : Nat → Prop) (b : Nat) (ad0 : Nat → Nat) (n0 : Nat) (o : zO) : String → State → State → Prop := fun En st t => match o.1 with
  | .inl _ => False
  | .inr x => En = Xn x ∧ ∃ ad' : Nat → Nat, (∀ k, k < n0 → ad' k = ad0 k) ∧ va_P D cl (xW ad' b ct o.2.1) t.heap ∧ va_D A (xW ad' b ct o.2.1) ∧ va_F A st t
section zSn
variable {E : zEnv} {Nm : Nat → MethodName} {Cd : Nat → ByteArray} {Ow : Nat → String} {Xn : Nat → String} {Hh : Nat → List (Nat × Nat × Nat × Nat)} {cl : List vw_C} {GW : List Cond} {SL : List (String × Nat × String)} {D : va_G} {ct : Nat → ClassId}
variable {p : Program} {l : Launch} {e : Env} {R : Room} {s : State} {m : MethodId} {args : Array Value} {below : List Frame} {meth : Method} {c : Code} {A : Nat → Prop} {b : Nat} {ad0 : Nat → Nat} {n0 : Nat}
variable {Sc : zSc} {y pc : Nat} {ls : zL} {st : List Value} {w : zW} {ca sl : Nat} {ad : Nat → Nat} {ls0 : Array Slot} {H : Heap} {locs : List Loc}
theorem zret_sound (ok1 : okT E Cd) {v : Option Value} (Cx : zCx E Cd Ow Xn Hh cl GW SL D ct Sc y p s m meth c A b) (had : ∀ k, k < n0 → ad k = ad0 k) (hr : zRel D cl ct A s.heap (zMax (E.D y)) ad b ls0 H locs ls w) (hs : zstep E Sc y (pc, ls, st, w, ca, sl) = some (.inr (.inl v))) :
    W p l e R s m args below meth c H locs ca sl (vx_MQ below (zQc D cl ct A b ad0 n0 (.inl v, w, ca, sl)) (zXc Xn D cl ct A b ad0 n0 (.inl v, w, ca, sl)) args s ca sl A) (F0 m pc ls0 (st.map (xV ad b))) := by
  obtain ⟨hx, hb, hml, hown, hret, hlocks, hG, hK, hmk, hexc, hSs, hA, hstat⟩ := Cx
  obtain ⟨hX, hfit, rfl, tg, hcase⟩ := zstep_ret hs
  have hq : ∀ t : State, t.heap = H → s.WarmedH t.vm → zQc D cl ct A b ad0 n0 (.inl v, w, ca, sl) args s (.returned (v.map (xV ad b))) t :=
    fun t ht hW => ⟨ad, had, rfl, by rw [ht]; exact hr.2.1, hr.2.2.1, hr.2.2.2.F ht⟩
  have hf : ∀ z ∈ locs, A z.base := hr.2.2.2.2.2
  rcases hcase with ⟨hT, x, rfl⟩ | ⟨hT, x, rfl⟩ | ⟨hT, x, rfl⟩ | ⟨hT, rfl⟩
  · obtain ⟨n, hd, hn, -⟩ := ok1 _ _ _ _ hT
    obtain rfl := zlen_of hn rfl
    cases hR : zRet (E.D y) with
    | none => rw [hR] at hfit; cases hfit
    | some ty =>
      rw [hR] at hfit hret
      exact vx_ret (W.zret hx hb hret (zfit_ok (ad := ad) (b := b) hfit).1 hq hf hd hlocks)
  · obtain ⟨n, hd, hn, -⟩ := ok1 _ _ _ _ hT
    obtain rfl := zlen_of hn rfl
    cases hR : zRet (E.D y) with
    | none => rw [hR] at hfit; cases hfit
    | some ty =>
      rw [hR] at hfit hret
      cases ty with
      | long => exact vx_ret (W.lret hx hb hret hq hf hd hlocks)
      | _ => cases hfit
  · obtain ⟨n, hd, hn, -⟩ := ok1 _ _ _ _ hT
    obtain rfl := zlen_of hn rfl
    cases hR : zRet (E.D y) with
    | none => rw [hR] at hfit; cases hfit
    | some ty =>
      rw [hR] at hfit hret
      cases ty with
      | object C => exact vx_ret (W.aret (v := .ref (ad x)) hx hb hret (Or.inl ⟨C, rfl⟩) (Or.inr ⟨_, rfl⟩) hq hf hd hlocks)
      | array t => exact vx_ret (W.aret (v := .ref (ad x)) hx hb hret (Or.inr ⟨t, rfl⟩) (Or.inr ⟨_, rfl⟩) hq hf hd hlocks)
      | _ => cases hfit
  · obtain ⟨n, hd, hn, -⟩ := ok1 _ _ _ _ hT
    obtain rfl := zlen_of hn rfl
    cases hR : zRet (E.D y) with
    | some ty => rw [hR] at hfit; cases hfit
    | none =>
      rw [hR] at hret
      exact vx_ret (W.vret hx hb hret hq hf hd hlocks)
theorem zthr_sound (okx : okX E Cd Ow Xn Hh GW SL) {x : Nat} (hl : l.stackTraces = false) (Cx : zCx E Cd Ow Xn Hh cl GW SL D ct Sc y p s m meth c A b) (had : ∀ k, k < n0 → ad k = ad0 k) (hr : zRel D cl ct A s.heap (zMax (E.D y)) ad b ls0 H locs ls w) (hs : zstep E Sc y (pc, ls, st, w, ca, sl) = some (.inr (.inr (.inr x))))
    (hc : ca + 1 ≤ R.cells) (hsl : sl + 6 ≤ R.slots) (hfr : zFr (E.D y) ≤ R.frames) (hlo : zLo (E.D y) ≤ R.locals) :
    W p l e R s m args below meth c H locs ca sl (vx_MQ below (zQc D cl ct A b ad0 n0 (.inr x, w, ca + 1, sl + 6)) (zXc Xn D cl ct A b ad0 n0 (.inr x, w, ca + 1, sl + 6)) args s (ca + 1) (sl + 6) A) (F0 m pc ls0 (st.map (xV ad b))) := by
  obtain ⟨hx, hb, hml, hown, hret, hlocks, hG, hK, hmk, hexc, hSs, hA, hstat⟩ := Cx
  obtain ⟨hX, hf6, hw82⟩ := zstep_thr hs
  obtain ⟨hh, hfit, ik, is, ic, tx, d0, d3, d4, d6, d9, w1, w2, w3, w4, hSL⟩ := okx _ _ _ hX
  obtain ⟨sa, hsa⟩ := hstat.2.2.1 _ hSL
  have hexc' : c.exceptionTable.toList = [] := by
    rw [hh] at hexc
    exact List.map_eq_nil_iff.mp hexc
  refine vx_throwS (names := zNames) (text := tx) (sa := sa) hx hb hl hown hfit (by decide +kernel) (hG _ w1 args) (hG _ w2 args) hsa (fun w9 h9 => hG _ (w3 w9 h9) args) w4 hstat.1 hstat.2.1 hr.2.2.2 (hr.1.2.1.trans hml.symm) d0 d3 d4 d6 d9 (by rw [hexc']; intro z hz; cases hz)
    (show 2 + 3 < R.frames by omega) ?_ hc hsl hlocks (fun t hal hz hk => ?_) hr.2.2.2.2.2 (Nat.le_refl _) (Nat.le_refl _)
  · rw [zwt_map]
    show zwt st + (13 * (2 + 1) + 43) ≤ R.locals
    omega
  · refine ⟨rfl, ad, had, va_P.kept hr.2.1 (fun k q hq => hk q.1 (hr.2.1 k q hq).lt), hr.2.2.1, Nat.le_trans hr.2.2.2.1 hz, fun q h1 h2 => ?_⟩
    rw [hk q (Nat.lt_of_lt_of_le h1 hr.2.2.2.1)]
    exact hr.2.2.2.2.1 q h1 h2
end zSn
