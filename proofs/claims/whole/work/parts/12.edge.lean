/-! Calls: what the tables must say of methods, throws and handlers; from a call to the callee's first frame. -/
def zcw (E : zEnv) (Nm : Nat → MethodName) (Cd : Nat → ByteArray) (Hh : Nat → List (Nat × Nat × Nat × Nat)) (y : Nat) : Cond := if Hh y = [] then .code (Nm y) (Cd y) (zMax (E.D y)) (zRet (E.D y)) else .codeWith (Nm y) (Cd y) (zMax (E.D y)) (zRet (E.D y)) (Hh y)
def zMok (E : zEnv) (Nm : Nat → MethodName) (Cd : Nat → ByteArray) (Ow : Nat → String) (Hh : Nat → List (Nat × Nat × Nat × Nat)) (GW : List Cond) (y : Nat) : Prop :=
  plainName (Nm y).cls = true ∧ ((Nm y).cls ≠ "java/lang/invoke/MethodHandle" ∧ (Nm y).cls ≠ "java/lang/invoke/VarHandle") ∧ (Nm y).cls = Ow (zOwn (E.D y)) ∧ zcw E Nm Cd Hh y ∈ GW ∧ Cond.initialized (Nm y).cls ∈ GW ∧
  (parseMethodDescriptor (Nm y).desc).map (fun d => d.parameters.length) = some (zAr (E.D y) - (if zKd (E.D y) = 0 then 0 else 1)) ∧
  (zKd (E.D y) = 0 → Cond.static (Nm y) ∈ GW) ∧ (zKd (E.D y) = 1 → Cond.instanceMethod (Nm y) ∈ GW ∧ Cond.selects (Ow (zOwn (E.D y))) (Nm y) (Nm y) ∈ GW) ∧
  (zKd (E.D y) = 2 → (Nm y).name = "<init>" ∧ Cond.instanceMethod (Nm y) ∈ GW ∧ Hh y = [] ∧ zRet (E.D y) = none)
def okM (E : zEnv) (Nm : Nat → MethodName) (Cd : Nat → ByteArray) (Ow : Nat → String) (Hh : Nat → List (Nat × Nat × Nat × Nat)) (GW : List Cond) : Prop := ∀ own n y, E.M own n = some y → (Cond.methodLink (Ow own) n (Nm y) ∈ GW ∨ ∃ h, Cond.methodLinkNest (Ow own) n (Nm y) h ∈ GW) ∧ zMok E Nm Cd Ow Hh GW y
theorem zcode {E : zEnv} {Nm : Nat → MethodName} {Cd : Nat → ByteArray} {Ow : Nat → String} {Hh : Nat → List (Nat × Nat × Nat × Nat)} {GW : List Cond} {y : Nat} {s : State} (hG : zG GW s) (mok : zMok E Nm Cd Ow Hh GW y) :
    ∃ mk meth c, s.methodNamed? (Nm y) = some mk ∧ s.vm.method? mk = some meth ∧ meth.code = some c ∧ c.code = Cd y ∧ c.maxLocals = zMax (E.D y) ∧ c.exceptionTable.toList.map (fun x => (x.startPc, x.endPc, x.handlerPc, x.catchType)) = Hh y ∧ meth.sig.returnType = zRet (E.D y) ∧ meth.locks = false ∧ parseMethodDescriptor (Nm y).desc = some meth.sig := by
  have h := hG _ mok.2.2.2.1 #[]
  unfold zcw at h
  split at h
  · rename_i hh
    obtain ⟨mk, hn⟩ := Cond.code_named h
    obtain ⟨meth, c, h1, h2, h3, h4, h5, h6, h7, h8⟩ := Cond.code_spec hn h
    refine ⟨mk, meth, c, hn, h1, h2, h3, h4, ?_, h5, h6, h8⟩
    rw [hh]
    have : c.exceptionTable = #[] := by simpa using h7
    rw [this]
    rfl
  · obtain ⟨mk, meth, c, hn, h1, h2, h3, h4, h5, h6, h7, h8⟩ := Cond.codeWith_spec h
    exact ⟨mk, meth, c, hn, h1, h2, h3, h4, h5, h6, h7, h8⟩
theorem zsteps_weaken {tb : Tables} {e : Env} {mid below : List Frame} {a b : State} (h : Steps tb e (mid ++ below) a b) : Steps tb e below a b := by
  obtain ⟨n, hn, w⟩ := h
  exact ⟨n, hn, fun k hk => (w k hk).weaken⟩
theorem zedge {p : Program} {l : Launch} {e : Env} {R : Room} {s : State} {m : MethodId} {args : Array Value} {below : List Frame} {meth : Method} {c : Code} {T : State} {locs : List Loc} {cells slots : Nat}
    (X : Stand p l e R s m args below meth c T locs cells slots) (hx : p.tables.exec = Jvm.exec) {E : zEnv} {Nm : Nat → MethodName} {Cd : Nat → ByteArray} {Ow : Nat → String} {Hh : Nat → List (Nat × Nat × Nat × Nat)} {GW : List Cond} {own : String} {y kd n : Nat}
    (hown : s.vm.findClass own = some m.cls) (hlink : Cond.methodLink own n (Nm y) ∈ GW ∨ ∃ h, Cond.methodLinkNest own n (Nm y) h ∈ GW) (hG : zG GW s) (mok : zMok E Nm Cd Ow Hh GW y) (hkd : zKd (E.D y) = kd) (hk3 : kd < 3)
    {g : JFrame} (hg : g.method = m) {as rest : List Value} (hstack : g.stack = as.reverse ++ rest) (hlen : as.length = zAr (E.D y))
    (hrecv : kd ≠ 0 → ∃ a as' cell, as = .ref a :: as' ∧ T.heap[a]? = some cell ∧ cell.vm.isStatics = false ∧ s.vm.findClass (Ow (zOwn (E.D y))) = some cell.cls)
    (hdg : decode c.code g.pc = .ok ((if kd = 0 then Instr.invokestatic n else if kd = 1 then Instr.invokevirtual n else Instr.invokespecial n), 3))
    {mk : MethodId} {methM : Method} (hnamed : s.methodNamed? (Nm y) = some mk) (hmethM : s.vm.method? mk = some methM) (hsig : parseMethodDescriptor (Nm y).desc = some methM.sig) :
    ∃ vm', Stand p l e R s m args below meth c (T.setVm vm') locs cells slots ∧
      ∀ target, (∀ acts, Steps p.tables e below (doInvoke e ((T.setVm vm').setTop { g with stack := rest }) acts mk as.toArray).1 target) → Steps p.tables e below (T.setTop g) target := by
  obtain ⟨hpn, hy, hcls, hcw, hin, hpar, k0, k1, k2⟩ := mok
  obtain ⟨kP, hkP, -⟩ := className_of_methodNamed hnamed
  have hinitP : kP.init = .initialized := Cond.initialized_spec (findClass_of_methodNamed hnamed) hkP (hG _ hin args)
  have hpar' : methM.sig.parameters.length = zAr (E.D y) - (if zKd (E.D y) = 0 then 0 else 1) := by
    rw [hsig] at hpar
    exact Option.some.inj hpar
  match kd, hk3, hkd, hrecv, hdg with
  | 0, _, hkd, _, hdg =>
    have hst : methM.isStatic = true := Cond.static_spec hnamed hmethM (hG _ (k0 hkd) args)
    rw [if_pos hkd, Nat.sub_zero] at hpar'
    rcases hlink with hl | ⟨ho, hl⟩
    · exact X.invokestatic hx hown (hG _ hl args) hnamed hmethM hst hkP hinitP hy (g := g) hg (argsL := as) (rest := rest) (hlen.trans hpar'.symm) hstack hdg
    · exact X.invokestaticNest hx hown (hG _ hl args) hnamed hmethM hst hkP hinitP hy (g := g) hg (argsL := as) (rest := rest) (hlen.trans hpar'.symm) hstack hdg
  | 1, _, hkd, hrecv, hdg =>
    obtain ⟨a, as', cell, rfl, hcell, hobj, hfc⟩ := hrecv (by decide)
    rw [if_neg (by rw [hkd]; decide)] at hpar'
    have hlen' : as'.length = methM.sig.parameters.length := by
      rw [hpar', ← hlen]; simp
    obtain ⟨hi1, hi2⟩ := k1 hkd
    obtain ⟨mk2, meth2, hn2, hm2, hstM, habM⟩ := Cond.instanceMethod_spec (hG _ hi1 args)
    cases hnamed.symm.trans hn2
    cases hmethM.symm.trans hm2
    obtain ⟨c2, r2, m2, q1, q2, q3, q4, kQ, hkQ, hkQi⟩ := Cond.selects_spec (hG _ hi2 args)
    cases hfc.symm.trans q1
    cases (State.methodFound?_of_named hnamed hy).symm.trans q2
    cases hnamed.symm.trans q3
    have hselP : selectMethod e.platform s.vm cell.cls mk = .method mk := by rw [Launch.admits_selectMethod X.admits]; exact q4
    have hstk : g.stack = as'.reverse ++ .ref a :: rest := by rw [hstack, List.reverse_cons, List.append_assoc]; rfl
    rcases hlink with hl | ⟨ho, hl⟩
    · exact X.invokevirtual hx hown (hG _ hl args) hnamed hmethM hstM hkQ hkQi hy (a := a) (cell := cell) hcell (fun z h => by rw [h] at hobj; cases hobj) hselP hmethM habM hkQ hkQi (g := g) hg (argsL := as') (rest := rest) hlen' hstk hdg
    · exact X.invokevirtualNest hx hown (hG _ hl args) hnamed hmethM hstM hkQ hkQi hy (a := a) (cell := cell) hcell (fun z h => by rw [h] at hobj; cases hobj) hselP hmethM habM hkQ hkQi (g := g) hg (argsL := as') (rest := rest) hlen' hstk hdg
  | 2, _, hkd, hrecv, hdg =>
    obtain ⟨a, as', cell, rfl, hcell, hobj, hfc⟩ := hrecv (by decide)
    rw [if_neg (by rw [hkd]; decide)] at hpar'
    have hlen' : ∀ sig, parseMethodDescriptor (Nm y).desc = some sig → as'.length = sig.parameters.length := by
      intro sig h9
      rw [hsig] at h9
      cases h9
      rw [hpar', ← hlen]; simp
    obtain ⟨hi1, hi2, hh, hre⟩ := k2 hkd
    have hcode : (Cond.code (Nm y) (Cd y) (zMax (E.D y)) none).before args s = true := by
      have h9 := hG _ hcw args
      unfold zcw at h9
      rw [if_pos hh, hre] at h9
      exact h9
    have hpl : e.platform.magicAccessors = ({} : Platform).magicAccessors := by rw [X.admits.platform]
    have hstk : g.stack = as'.reverse ++ .ref a :: rest := by rw [hstack, List.reverse_cons, List.append_assoc]; rfl
    subst hg
    rcases hlink with hl | ⟨ho, hl⟩
    · obtain ⟨mk2, meth2, cM, kP2, vm₁, hn2, -, -, -, -, -, -, -, hW₁, st₁⟩ := Steps.initColdArgs (e := e) X.here hx X.warmed hpl hown hi1 hy (hG _ hl args) (hG _ hi2 args) hcode (f := g) rfl hlen' hstk hdg
      cases hnamed.symm.trans hn2
      exact ⟨vm₁, X.noted hW₁, st₁⟩
    · obtain ⟨mk2, meth2, cM, kP2, vm₁, hn2, -, -, -, -, -, -, -, hW₁, st₁⟩ := Steps.initColdArgsNest (e := e) X.here hx X.warmed hpl hown hi1 hy (hG _ hl args) (hG _ hi2 args) hcode (f := g) rfl hlen' hstk hdg
      cases hnamed.symm.trans hn2
      exact ⟨vm₁, X.noted hW₁, st₁⟩
