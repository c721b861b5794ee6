/-! A thrown thing that the caller's own table catches: rows ahead are passed, the entry's name may be looked up now for the first time. -/
def zcS (e : Env) (s : State) (f : JFrame) (a : Addr) (es : List ExceptionTableEntry) (pc : Nat) (vm' : Vm) : Prop :=
  ∀ (Q : Handler → Pre) (X : CtlPost) (d : Bool) (acts : List Action), wp (findHandler.go f a es) Q X e d acts s ↔ Q (.found pc) d acts (s.setVm vm')
theorem zc_seen {e : Env} {s : State} {f : JFrame} {a : Addr} {x : ExceptionTableEntry} {c : ClassId} {cell : Cell} (hx : covers x f.pc = true) (h0 : x.catchType ≠ 0)
    (hl : s.vm.ClassLinks e.platform f.method.cls x.catchType c) (hcell : s.heap[a]? = some cell) (hobj : ∀ k, cell.vm ≠ .statics k)
    (hk : ∃ k, s.vm.classes[cell.cls]? = some k) (hc : ∃ k, s.vm.classes[c]? = some k) (t : List ExceptionTableEntry) {Q : Handler → Pre} {X : CtlPost} {d : Bool} {acts : List Action} :
    wp (findHandler.go f a (x :: t)) Q X e d acts s ↔ (if s.vm.assignable cell.cls c = true then Q (.found x.handlerPc) d acts (s.setVm (s.vm.noted f.method.cls x.catchType (.cls c)))
      else wp (findHandler.go f a t) Q X e d acts (s.setVm (s.vm.noted f.method.cls x.catchType (.cls c)))) := by
  simp only [covers] at hx
  obtain ⟨ha, ht⟩ := (resolveClass_links e.toSetting hl).op (op := VmOp.resolveClass f.method.cls x.catchType) rfl
  have hal : s.vm.Alike (s.vm.noted f.method.cls x.catchType (.cls c)) := (Vm.Alike.refl s.vm).noted _ _ _
  obtain ⟨k1, hk1⟩ := hk
  obtain ⟨k2, hk2⟩ := hc
  obtain ⟨k1', hk1', -⟩ := hal.2.2 _ _ hk1
  obtain ⟨k2', hk2', -⟩ := hal.2.2 _ _ hk2
  by_cases hf : s.vm.assignable cell.cls c = true
  · have hf' : (s.vm.noted f.method.cls x.catchType (.cls c)).assignable cell.cls c = true := by rw [hal.assignable]; exact hf
    rw [if_pos hf]
    simp [findHandler.go, hx, h0, ha, ht, hcell, hobj, hk1', hk2', hf', VmOp.dirties, VmOp.acts]
  · have hf' : (s.vm.noted f.method.cls x.catchType (.cls c)).assignable cell.cls c = false := by rw [hal.assignable]; simpa using hf
    rw [if_neg hf]
    simp [findHandler.go, hx, h0, ha, ht, hcell, hobj, hk1', hk2', hf', VmOp.dirties, VmOp.acts]
/-- an entry of the table, said of the start: it doesn't lie over pc; or it names what the thrown thing isn't (b = false), or is (b = true) -/
def zcE (pl : Platform) (s : State) (d : ClassId) (pc : Nat) (th : ClassId) (b : Bool) (x : ExceptionTableEntry) : Prop :=
  covers x pc = true ∧ x.catchType ≠ 0 ∧ ∃ c, s.vm.ClassLinks pl d x.catchType c ∧ s.vm.assignable th c = b
theorem zc_go {e : Env} {s : State} {f : JFrame} {a : Addr} {cell : Cell} (hobj : ∀ k, cell.vm ≠ .statics k) (hk0 : ∃ k, s.vm.classes[cell.cls]? = some k) (x : ExceptionTableEntry) (rest : List ExceptionTableEntry)
    (hend : zcE e.platform s f.method.cls f.pc cell.cls true x) : ∀ (pre : List ExceptionTableEntry) (S : State), s.WarmedH S.vm → S.heap[a]? = some cell →
      (∀ y ∈ pre, covers y f.pc = false ∨ zcE e.platform s f.method.cls f.pc cell.cls false y) → ∃ vm', s.WarmedH vm' ∧ zcS e S f a (pre ++ x :: rest) x.handlerPc vm' := by
  obtain ⟨k0, hk0⟩ := hk0
  have one : ∀ (y : ExceptionTableEntry) (b : Bool) (S : State), s.WarmedH S.vm → zcE e.platform s f.method.cls f.pc cell.cls b y → ∃ c, S.vm.ClassLinks e.platform f.method.cls y.catchType c ∧ s.WarmedH (S.vm.noted f.method.cls y.catchType (.cls c)) ∧ (∃ k, S.vm.classes[cell.cls]? = some k) ∧ (∃ k, S.vm.classes[c]? = some k) ∧ S.vm.assignable cell.cls c = b := by
    intro y b S hW hy
    obtain ⟨-, -, c, hl, hb⟩ := hy
    obtain ⟨dk, _, _, kt, hd, _, _, _, _, hkt, _, hopen⟩ := hl.here
    obtain ⟨k0', hk0', -⟩ := hW.alike.2.2 _ _ hk0
    obtain ⟨kt', hkt', -⟩ := hW.alike.2.2 _ _ hkt
    exact ⟨c, hW.classLinks hl, hW.noted hd hopen (State.rightAt_cls hl), ⟨k0', hk0'⟩, ⟨kt', hkt'⟩, by rw [hW.alike.assignable]; exact hb⟩
  intro pre
  induction pre with
  | nil =>
    intro S hW hcell _
    obtain ⟨c, hl, hW', hk, hc, hb⟩ := one x true S hW hend
    exact ⟨_, hW', fun Q X d acts => by rw [List.nil_append, zc_seen hend.1 hend.2.1 hl hcell hobj hk hc rest, if_pos hb]⟩
  | cons y ys ih =>
    intro S hW hcell hp
    rcases hp y List.mem_cons_self with h | h
    · obtain ⟨vm', h1, h2⟩ := ih S hW hcell (fun z hz => hp z (List.mem_cons_of_mem _ hz))
      exact ⟨vm', h1, fun Q X d acts => by rw [List.cons_append, W.findHandler_go_skip h]; exact h2 Q X d acts⟩
    · obtain ⟨c, hl, hW', hk, hc, hb⟩ := one y false S hW h
      obtain ⟨vm', h1, h2⟩ := ih (S.setVm (S.vm.noted f.method.cls y.catchType (.cls c))) hW' hcell (fun z hz => hp z (List.mem_cons_of_mem _ hz))
      exact ⟨vm', h1, fun Q X d acts => by
        rw [List.cons_append, zc_seen h.1 h.2.1 hl hcell hobj hk hc _, if_neg (by rw [hb]; decide)]
        exact h2 Q X d acts⟩
theorem zc_step {e : Env} {s : State} {a : Addr} {f : JFrame} {r : List Frame} {pc : Nat} {vm' : Vm} (hfind : ∀ (Q : Handler → Pre) (X : CtlPost) (d : Bool) (acts : List Action), wp (findHandler f a) Q X e d acts s ↔ Q (.found pc) d acts (s.setVm vm')) :
    (stepThrowing e s a (.java f :: r)).Is ((s.setVm vm').setFrames (.java { f with pc := pc, stack := [.ref a] } :: r)) [] := by
  simp only [stepThrowing, searchFrame, vmDo]
  generalize hr : Sem.go _ e false [] s = res
  obtain ⟨as, rfl, ha⟩ := Sem.eq_ok_of hr (a := Handler.found pc) (s' := s.setVm vm') (acts' := []) (by simp [hfind _ _ _ _])
  exact ⟨rfl, ha⟩
/-- from the thrown thing over the frame g to the handler -/
theorem zc_catch {p : Program} {l : Launch} {e : Env} {R : Room} {s : State} {m : MethodId} {args : Array Value} {below : List Frame} {meth : Method} {c : Code} {T : State} {locs : List Loc} {cells slots : Nat}
    (X : Stand p l e R s m args below meth c T locs cells slots) (a : Addr) {g : JFrame} (hg : g.method = m) {cell : Cell} (hcell : T.heap[a]? = some cell) (hobj : cell.vm = .none) (hk0 : ∃ k, s.vm.classes[cell.cls]? = some k)
    (pre : List ExceptionTableEntry) (x : ExceptionTableEntry) (rest : List ExceptionTableEntry) (hsplit : c.exceptionTable.toList = pre ++ x :: rest)
    (hp : ∀ y ∈ pre, covers y g.pc = false ∨ zcE e.platform s m.cls g.pc cell.cls false y) (hend : zcE e.platform s m.cls g.pc cell.cls true x) :
    ∃ vm', Stand p l e R s m args below meth c (T.setVm vm') locs cells slots ∧
      ∀ target, Steps p.tables e below ((T.setVm vm').setTop { g with pc := x.handlerPc, stack := [.ref a] }) target → Steps p.tables e below ((T.setTop g).pushFrame (.throwing a)) target := by
  subst hg
  obtain ⟨vm', hW', hf⟩ := zc_go (e := e) (s := s) (f := g) (a := a) (cell := cell) (fun k => by rw [hobj]; exact fun h => by cases h) hk0 x rest hend pre ((T.setTop g).pushFrame (.throwing a)) X.warmed hcell hp
  refine ⟨vm', X.noted hW', fun target hrest => ?_⟩
  have h := X.here
  obtain ⟨hgo, hw⟩ := h.throwing a
  refine Steps.head hgo hw ?_
  rw [stepThread_throwing (frames_entered h.top _), (zc_step (s := (T.setTop g).pushFrame (.throwing a)) (vm' := vm') (pc := x.handlerPc) (fun Q X9 d acts => by rw [W.findHandler_eq (s := (T.setTop g).pushFrame (.throwing a)) (f := g) X.method' X.code, hsplit]; exact hf Q X9 d acts)).1]
  obtain ⟨g₀, hg0⟩ := Option.isSome_iff_exists.mp h.top
  obtain ⟨r, hr⟩ := State.topJava?_eq_some.mp hg0
  have hr' : (T.setVm vm').frames = .java g₀ :: r := hr
  rw [State.setTop_of_frames _ hr'] at hrest
  have e1 : ∀ (u : State) (F G : List Frame), ((u.setFrames F).setVm vm').setFrames G = (u.setVm vm').setFrames G := fun u F G => by
    have h1 : (u.setFrames F).setVm vm' = (u.setVm vm').setFrames F := rfl
    rw [h1, State.setFrames_setFrames]
  rw [hr, List.tail_cons, State.pushFrame, e1, State.setTop_of_frames _ hr, e1]
  exact hrest
