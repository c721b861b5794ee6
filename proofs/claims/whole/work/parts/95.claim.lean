/-! THE CLAIM OUT OF ONE WALK OF THE LAW'S BODY. Your part is whole_start (and what it stands on); all else here is the same for every law, but numbers. -/
def R_law : String := "ShaftLoomLaw"
def lw_P (b : Addr) (xs : List Int32) (args : Array Value) (s : State) : Prop := args = #[.ref b] ∧ s.IntsAt b xs ∧ xs.length ≤ 2560 ∧ (Jvm.Cond.and given_1 narrow_1).before args s = true
def lw_Q (_ : Array Value) (s : State) (o : Outcome) (t : State) : Prop := o = .returned (some (.int 1)) ∧ Framed s o t [] 1074 14517
def lw_Z (below : List Frame) (a : Array Value) (s : State) : State → Prop := fun t => ∃ o, t.status = .running ∧ Ended t below o ∧ lw_Q a s o t
/-- what holds at the law's entry: the machine, the code, the tables' words (any of lw_tbl by 'hts w (by decide +kernel)'), the script of L ints xs at the cell b, what the Statement gives of the start (any of its parts by flat_of_before) -/
def lw_At (p : Program) (s : State) (m : MethodId) (meth : Method) (c : Code) (b L : Nat) (xs : Nat → Int32) : Prop :=
  p.tables.exec = Jvm.exec ∧ c.code = code ∧ meth.sig.returnType = ret ∧ c.maxLocals = 7 ∧ s.vm.findClass R_law = some m.cls ∧ (∀ w ∈ lw_tbl, w.before #[Value.ref b] s = true) ∧ va_X b L xs s s.heap ∧ b < s.heap.size ∧ meth.locks = false ∧ (Jvm.Cond.and given_1 narrow_1).before #[Value.ref b] s = true ∧ c.exceptionTable.isEmpty = true
theorem lw_arr {s : State} {ty : FieldType} (h : (Cond.arrayClass ty).before #[] s = true) : ∃ cA, s.vm.findClass ("[" ++ ty.toString) = some cA ∧ ArrOfT s cA ty := by
  obtain ⟨c, k, comp, h1, h2, h3⟩ := Cond.arrayClass_spec h
  exact ⟨c, h1, fun n z => ⟨fun k h => (by cases h), k, h2, comp, h3⟩⟩
theorem lw_K {s : State} (hG : zG GW s) : ∃ (D : va_G) (ct : Nat → ClassId), va_K D cl0 (zty ct) s := by
  have h : ∀ k : Nat, ∃ (cC : ClassId) (iS : Nat → Nat), ∀ q : vw_C, cl0[k]? = some q → u_Kn s q.1 q.2.1 q.2.2 cC iS := by
    intro k
    cases hq : cl0[k]? with
    | none => exact ⟨(0 : Nat), fun _ => 0, fun q h => by cases h⟩
    | some q =>
      obtain ⟨C, T, N⟩ := q
      obtain ⟨hws, -, -, -, -, -, -, -, hin, -⟩ := okC0 k C T N hq
      obtain ⟨cC, iS, hK⟩ := u_known (ws := GW) (args := #[]) (C := C) (T := T) (N := N) (n := N) (fun w hw => hG w hw #[]) hws (hG _ hin #[])
      exact ⟨cC, iS, fun q h => by cases h; exact hK⟩
  obtain ⟨-, -, ha, hb, hc⟩ := okK0
  obtain ⟨c0, a1, a2⟩ := lw_arr (hG _ ha #[])
  obtain ⟨c1, b1, b2⟩ := lw_arr (hG _ hb #[])
  obtain ⟨c2, d1, d2⟩ := lw_arr (hG _ hc #[])
  refine ⟨(fun k => (h k).choose, fun k => (h k).choose_spec.choose), fun k => if k = 0 then c0 else if k = 1 then c1 else c2, fun k q hq => (h k).choose_spec.choose_spec q hq, ?_⟩
  intro k q hq
  match k, hq with
  | 0, hq => cases hq; exact ⟨a2, a1⟩
  | 1, hq => cases hq; exact ⟨b2, b1⟩
  | 2, hq => cases hq; exact ⟨d2, d1⟩
  | k + 3, hq => simp [zty] at hq
theorem lw_s1 : ∀ r ∈ SL, Cond.stringRef r.1 r.2.1 r.2.2 ∈ lw_tbl := by decide +kernel
theorem lw_s2 : ∀ r ∈ SL, Cond.exactly (.string r.1 r.2.1) "java/lang/String" ∈ flatC (Jvm.Cond.and given_1 narrow_1) := by decide +kernel
theorem lw_s3 : ∀ x, x < 3 → ∀ x', x' < 3 → x ≠ x' → Cond.not (.castable (Xn x) (Xn x')) ∈ flatC (Jvm.Cond.and given_1 narrow_1) := by decide +kernel
theorem lw_stat {s : State} {b : Nat} {A : Nat → Prop} (hts : ∀ w ∈ lw_tbl, w.before #[Value.ref b] s = true) (hgv : (Jvm.Cond.and given_1 narrow_1).before #[Value.ref b] s = true) (hA : ∀ a : Nat, a < s.heap.size → ¬ A a) : zStat Xn SL A s s.heap := by
  have hs := flat_of_before _ hgv
  refine ⟨vx_Zqof (hts _ (by decide +kernel)) (hts _ (by decide +kernel)) (hs _ (by decide +kernel)) hA, vx_Zqof (hts _ (by decide +kernel)) (hts _ (by decide +kernel)) (hs _ (by decide +kernel)) hA, ?_, ?_⟩
  · intro r hr
    obtain ⟨a, _, _, _, h3, _⟩ := Cond.exactly_spec (hs _ (lw_s2 r hr))
    exact ⟨a, vk_R.of (hts _ (lw_s1 r hr)) h3⟩
  · intro x x' hx hx' hne
    exact va_Nc.of (hs _ (lw_s3 x hx x' hx' hne))
theorem lw_done {D : va_G} {ct : Nat → ClassId} {below : List Frame} {s t : State} {b : Nat} {args : Array Value} {w : zW} {mc ms : Nat} {ad : Nat → Nat} (hmc : mc ≤ 1074) (hms : ms ≤ 14517) (h : vx_MQ below (zQc D cl0 ct (fun q => s.heap.size ≤ q) b ad 0 (.inl (some (.int (Int32.ofNat 1))), w, mc, ms)) (zXc Xn D cl0 ct (fun q => s.heap.size ≤ q) b ad 0 (.inl (some (.int (Int32.ofNat 1))), w, mc, ms)) args s mc ms (fun q => s.heap.size ≤ q) t) : lw_Z below args s t := by
  obtain ⟨oc, h1, h2, h3⟩ := h
  refine ⟨oc, h1, h2, ?_⟩
  rcases h3 with ⟨hq, L, hF, hL⟩ | ⟨q, -, E, ce, L, hx, -⟩
  · obtain ⟨ad', -, rfl, -, -, -⟩ := hq
    exact ⟨rfl, ⟨_, rfl⟩, hF.2.1, (State.sameButNew.drop_fresh (L := []) (J := L) hF.2.2 hL).mono hmc hms⟩
  · exact hx.elim
/-- from the entry, for every script of at most 2560 ints, the law comes to its end with true -/
theorem whole_start {p : Program} {e : Env} {s : State} {m : MethodId} {below : List Frame} {meth : Method} {c : Code} (l : Launch) (hst : l.stackTraces = false) {b L : Nat} {xs : Nat → Int32} (hL : L ≤ 2560) (C0 : lw_At p s m meth c b L xs) : W p l e room_1 s m #[Value.ref b] below meth c s.heap [] 0 0 (lw_Z below #[Value.ref b] s) (entryFrame m ([Value.ref b] : List Value).toArray 7) := by
  obtain ⟨hx, hb, hr, hml, hown, hts, hX, hbl, hlocks, hgv, hexc⟩ := C0
  have hG : zG GW s := fun w hw a => zword (GW_good w hw) (State.WarmedH.refl s) (hts w (List.mem_filter.mp hw).1)
  obtain ⟨D, ct, hK⟩ := lw_K hG
  obtain ⟨w, mc, ms, hmc, hms, he⟩ := law_all (L := L) (b := 0) (f := xs) hL
  obtain ⟨f, hf⟩ := zval_iff.mp he
  have hA : ∀ a : Nat, a < s.heap.size → ¬ (fun q : Nat => s.heap.size ≤ q) a := fun a h => Nat.not_le.mpr h
  have hexc' : c.exceptionTable.toList.map (fun x => (x.startPc, x.endPc, x.handlerPc, x.catchType)) = Hh 109 := by
    rw [Array.isEmpty_iff.mp hexc]
    rfl
  have Cx : zCx E0 Cd Ow Xn Hh cl0 GW SL D ct (some (L, xs)) 109 p s m meth c (fun q : Nat => s.heap.size ≤ q) b := ⟨hx, hb, hml, hown, hr, hlocks, hG, hK, fun h => absurd h (by decide +kernel), hexc', ⟨hX, hbl, hA b hbl⟩, fun _ h => h, lw_stat hts hgv hA⟩
  have K := sound0 D ct f (some (L, xs)) 109 _ _ hf p l e room_1 s m #[Value.ref b] below meth c (fun q : Nat => s.heap.size ≤ q) b (fun _ => 0) 0 hst Cx (fun _ => 0) _ s.heap [] (fun _ _ => rfl) (Nat.zero_le _) ⟨xL_entry (as := [.retAddr 0]) (nL := 7) (Nat.le_of_ble_eq_true rfl), fun k q h => by simp [xW] at h, ⟨fun i j p q h => by simp [xW] at h, fun k q h => by simp [xW] at h⟩, va_S.rf⟩ (show mc ≤ 1074 by omega) (show ms ≤ 14517 by omega) (by decide +kernel) (by decide +kernel)
  rw [lg_entry_eq]
  intro T hT X
  obtain ⟨t, h1, h2⟩ := K T hT X
  exact ⟨t, h1, lw_done (by omega) (by omega) h2⟩
set_option maxHeartbeats 4000000 in
theorem lw_walk (l : Launch) (hst : l.stackTraces = false) (b : Addr) (xs : List Int32) : MetFree l x (headSpec (Jvm.Cond.code x code maxLocals ret :: tables_1) room_1) (lw_P b xs) (fun _ _ _ _ _ => True) lw_Q := by
  refine MetFree.of_bodyS (code := code) (maxLocals := maxLocals) (ret := ret) (by decide) ?_ ?_
  · intro args s m h hn
    obtain ⟨meth, c, h1, h2, h3, h4, h5, h6, -, -⟩ := Cond.code_spec hn (atoms_spec (ws := Jvm.Cond.code x code maxLocals ret :: tables_1) h _ List.mem_cons_self)
    exact ⟨meth, c, h1, h2, h3, h4, h5, h6⟩
  · intro p e s m args below meth c s₁ B hml0 hP _
    obtain ⟨rfl, hx, hbd, hgv⟩ := hP
    obtain ⟨scr, harrAt, hlist, hof, hsmall⟩ := hx
    obtain ⟨hcb, hkn, -, -⟩ := State.arrayAt?_spec harrAt
    have hown : s.vm.findClass R_law = some m.cls := findClass_of_methodNamed B.named
    have hts0 : ∀ c ∈ (Jvm.Cond.code x code maxLocals ret :: tables_1), c.before #[Value.ref b] s = true := atoms_spec (ws := Jvm.Cond.code x code maxLocals ret :: tables_1) B.pre
    have hts : ∀ w ∈ lw_tbl, w.before #[Value.ref b] s = true := k2_hts_sels lw_privs (fun w hw => hts0 w (List.mem_cons_of_mem _ hw)) lw_privs_ok
    have hml : c.maxLocals = 7 := B.maxLocals_eq (hts0 _ List.mem_cons_self)
    have X₀ : Stand p l e room_1 s m #[Value.ref b] below meth c s₁ [] 0 0 := Stand.of_body B
    have hh0 : s₁.heap = s.heap := by rw [B.state]; rfl
    have hsz : scr.slots.size = xs.length := by rw [← Array.length_toList, hlist, List.length_map]
    have hval : ∀ j : Nat, j < xs.length → scr.slots[j]? = some (.int (xs.getD j 0)) := fun j hj => by
      rw [← Array.getElem?_toList, hlist]
      simp [hj]
    have hbl : b < s.heap.size := (Array.getElem?_eq_some_iff.mp hcb).1
    have hX : va_X b xs.length (fun j => xs.getD j 0) s s.heap := ⟨scr, hcb, hof, hkn, hsz, hval⟩
    have K : W p l e room_1 s m #[Value.ref b] below meth c s₁.heap [] 0 0 (lw_Z below #[Value.ref b] s) (entryFrame m ([Value.ref b] : List Value).toArray 7) := by
      rw [hh0]
      exact whole_start l hst hbd ⟨B.exec, B.bytes, B.returns, hml, hown, hts, hX, hbl, B.notSynchronized, hgv, B.noHandlers (hts0 _ List.mem_cons_self)⟩
    obtain ⟨t, a1, o, b1, b2, b3⟩ := K s₁ rfl X₀
    exact ⟨t, o, a1, b1, b2, b3⟩
theorem lw_pre_spec {args : Array Value} {s : State} (h : (Jvm.Cond.and given_1 narrow_1).before args s = true) (hr : rest_1_c.before args s = true) : ∃ (b : Addr) (xs : List Int32), lw_P b xs args s := by
  have hs := flat_of_before _ h
  have hq := flat_of_before _ hr
  have hc : (Cond.count 1).before args s = true := hs _ (by decide +kernel)
  have harr : (Cond.arrayOf (.arg 0) .int).before args s = true := hs _ (by decide +kernel)
  have hle : (Cond.le (.length (.arg 0)) (.int 2560)).before args s = true := hs _ (by decide +kernel)
  have hlen : (Cond.isInt (.length (.arg 0))).before args s = true := hq _ (by decide +kernel)
  have hall : (Cond.all (.arg 0) (.isInt (.elem (.arg 0) (.index 0)))).before args s = true := hq _ (by decide +kernel)
  obtain ⟨b, xs, hb, hx⟩ := State.ints_of_pre rfl harr hlen hall
  have hsm : xs.length < 2 ^ 31 := hx.choose_spec.2.2.2
  have hev : (Term.length (.arg 0)).eval args s none [] s = some (.int xs.length.toInt32) := hx.length_eval hb
  have hv := Cond.le_ints hev (show (Term.int 2560).eval args s none [] s = some (.int 2560) from rfl)
  have hd : xs.length.toInt32 ≤ 2560 := by
    simpa [Cond.before, Cond.holds, hv] using hle
  have hN : xs.length ≤ 2560 := (Int32.ofNat_le_ofNat hsm (by decide)).mp (show Int32.ofNat xs.length ≤ Int32.ofNat 2560 from hd)
  exact ⟨b, xs, Cond.one_arg hc (show args[0]? = some (.ref b) from hb), hx, hN, h⟩
theorem lw_comes (l : Launch) (hst : l.stackTraces = false) : Comes l x (Jvm.Cond.code x code maxLocals ret :: tables_1) room_1 (fun tb e args s => Calls_1 tb e args s ∧ rest_1 tb e args s ∧ Pre_1 tb e args s)
    (fun _ _ args s o t => lw_Q args s o t) := by
  intro p e ha hc hk s m args below hf hfit hheap happ hpre
  obtain ⟨b, xs, hP⟩ := lw_pre_spec hpre.2.2 hpre.2.1
  obtain ⟨k, o, h1, h2, h3, hQ⟩ := lw_walk l hst b xs p e ha hc hk s m args below hf ((Spec.applies_iff_loose hf).mp happ).1 hP trivial
  exact ⟨k, o, h1, h2, h3, hQ⟩
theorem lw_frame {s t : State} {o : Outcome} {args : Array Value} (h : Framed s o t [] 1074 14517) :
    Framed s o t (fieldLocs frame_1_writes args s ++ arrayLocs frame_1_arrays args s ++ staticLocs frame_1_statics s) 1074 14517 := h
theorem lw_limb (L : Cond) (hL : ∀ (args : Array Value) (s t : State), L.after args s (.returned (some (.int 1))) t = true) :
    ArmFor flags0 classFile x code maxLocals ret World_1 tables_1 room_1 Calls_1 rest_1 Pre_1
      (fun tb e a s o t => postC L tb e a s o t ∧ Framed s o t (fieldLocs frame_1_writes a s ++ arrayLocs frame_1_arrays a s ++ staticLocs frame_1_statics s) 1074 14517) := by
  intro l hfl _ _ p e ha hc hk s m args below hf hfit hheap happ hpre
  have hst : l.stackTraces = false := by unfold Launch.stackTraces; rw [hfl]; decide +kernel
  obtain ⟨k, o, h1, h2, h3, rfl, hF⟩ := lw_comes l hst p e ha hc hk s m args below hf hfit hheap happ hpre
  exact ⟨k, _, h1, h2, h3, hL args s _, lw_frame hF⟩
theorem i_vc : Claimed_1_1 ∧ Claimed_1_2 := ⟨lw_limb limb_1_1 (fun args s t => by simp [limb_1_1, Cond.after, Cond.holds, Cond.value]), lw_limb limb_1_2 (fun args s t => Cond.after_iff.mpr (by
  first | (rw [show limb_1_2 = Cond.eq .result (.int 1) from rfl, Cond.eq_ints (x := 1) (y := 1) rfl rfl]; simp; done) | (simp [limb_1_2, Cond.value, Term.eval]; done)))⟩
