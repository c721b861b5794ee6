/-! What the tables must say of the words, and the instructions that look at cells. -/
def zgood : Cond → Bool
  | .fieldLinkNest .. => true
  | .methodLinkNest .. => true
  | .castable .. => true
  | .declares _ => true
  | w => goodWord w
theorem zword {w : Cond} {a a' : Array Value} {s U : State} (hg : zgood w = true) (hW : s.WarmedH U.vm) (h : w.before a s = true) : w.before a' U = true := by
  cases w with
  | fieldLinkNest o i r n d h9 => exact va_Nw.use rfl (va_Nw.warmF hW (va_Nw.of rfl h))
  | methodLinkNest o i x h9 => exact va_Nw.use rfl (va_Nw.warmM hW (va_Nw.of rfl h))
  | declares x => exact va_Nw.use rfl (va_Nw.warmD hW (va_Nw.of rfl h))
  | castable C T =>
    obtain ⟨c, t, h1, h2, h3⟩ := Cond.castable_spec h
    simp [Cond.before, Cond.holds, Cond.value, hW.alike.findClass, hW.alike.assignable, h1, h2, h3]
  | _ => exact word_at hW (good_of_word hg) h
/-- the words that every method may use, at any state that comes later -/
def zG (GW : List Cond) (U : State) : Prop := ∀ w ∈ GW, ∀ a : Array Value, w.before a U = true
theorem zG.warm {GW : List Cond} (hg : ∀ w ∈ GW, zgood w = true) {s U : State} (hW : s.WarmedH U.vm) (h : zG GW s) : zG GW U := fun w hw a => zword (hg w hw) hW (h w hw #[])
def zty (ct : Nat → ClassId) : List (ClassId × FieldType) := [(ct 0, .int), (ct 1, .long), (ct 2, .boolean)]
def okT (E : zEnv) (Cd : Nat → ByteArray) : Prop := ∀ y pc i tg, E.T y pc = some (i, tg) → ∃ n, decode (Cd y) pc = .ok (i, n) ∧ (zlen i = some n ∨ zlen i = none) ∧ ∀ o, zoff i = some o → (pc : Int) + o = (tg : Int)
def okF (E : zEnv) (Ow : Nat → String) (cl : List vw_C) (GW : List Cond) : Prop := ∀ own n ci k, E.F own n = some (ci, k) → ∃ C T N, cl[ci]? = some (C, T, N) ∧ k < N ∧
  (Cond.fieldLink (Ow own) n (T k).1 (T k).2.1 (T k).2.2.1 ∈ GW ∨ (own ≠ ci ∧ ∃ h, Cond.fieldLinkNest (Ow own) n (T k).1 (T k).2.1 (T k).2.2.1 h ∈ GW))
def okC (E : zEnv) (Ow : Nat → String) (cl : List vw_C) (GW : List Cond) : Prop := ∀ ci C T N, cl[ci]? = some (C, T, N) → (∀ w ∈ u_ws C T N, w ∈ GW) ∧ C = Ow ci ∧ (∀ k, k < N → (T k).1 = C) ∧
  (∃ ty : Nat → FieldType, (∀ k, k < N → parseFieldDescriptor (T k).2.2.1 = some (ty k)) ∧ (∀ k, k < N → (E.K ci).2.1.getD k .byte = ty k) ∧ ∀ j, j < N → defaultValue (ty j) = vp_V (E.K ci).1 j) ∧
  (∀ a, a < N → ∀ b, b < N → a ≠ b → (T a).2.1 ≠ (T b).2.1) ∧ (E.K ci).1.length = N ∧ (∀ k, k < N → (E.K ci).2.2.getD k true = (T k).2.2.2) ∧ (∀ v ∈ (E.K ci).1, zrf v = true) ∧ Cond.instantiable C N ∈ GW ∧ Cond.initialized C ∈ GW
def okNew (E : zEnv) (Ow : Nat → String) (cl : List vw_C) (GW : List Cond) : Prop := ∀ own n ci, E.C own n = some ci → ∃ C T N, cl[ci]? = some (C, T, N) ∧ Cond.classLink (Ow own) n C ∈ GW
def okK (E : zEnv) (Ow : Nat → String) (GW : List Cond) : Prop := (∀ own n v, E.J own n = some v → Cond.constantLong (Ow own) n v ∈ GW) ∧ (∀ own n v, E.I own n = some v → Cond.constant (Ow own) n v ∈ GW) ∧
  Cond.arrayClass .int ∈ GW ∧ Cond.arrayClass .long ∈ GW ∧ Cond.arrayClass .boolean ∈ GW
def zNatW (o : String) (n k : Nat) : List Cond := match k with
  | 0 => [.methodLink o n objectInit, .instanceMethod objectInit, .code objectInit ⟨#[0xb1]⟩ 1 none]
  | 1 => [.methodLink o n Lib.Math.max.name, .static Lib.Math.max.name, .initialized "java/lang/Math", .code Lib.Math.max.name Lib.Math.max.code 2 (some .int)]
  | 2 => [.methodLink o n Lib.Math.min.name, .static Lib.Math.min.name, .initialized "java/lang/Math", .code Lib.Math.min.name Lib.Math.min.code 2 (some .int)]
  | 3 => [.methodLink o n Lib.Math.abs.name, .static Lib.Math.abs.name, .initialized "java/lang/Math", .code Lib.Math.abs.name Lib.Math.abs.code 1 (some .int)]
  | 4 => [.methodLink o n arraycopyName, .native arraycopyName, .static arraycopyName, .initialized "java/lang/System"]
  | _ => []
def okN (E : zEnv) (Ow : Nat → String) (GW : List Cond) : Prop := ∀ own n k, E.N own n = some k → ∀ w ∈ zNatW (Ow own) n k, w ∈ GW
def zSs (Sc : zSc) (b : Nat) (A : Nat → Prop) (s : State) : Prop := match Sc with
  | none => True
  | some (L, xs) => va_X b L xs s s.heap ∧ b < s.heap.size ∧ ¬ A b
def zRel (D : va_G) (cl : List vw_C) (ct : Nat → ClassId) (A : Nat → Prop) (H0 : Heap) (nL : Nat) (ad : Nat → Nat) (b : Nat) (ls0 : Array Slot) (H : Heap) (locs : List Loc) (ls : zL) (w : zW) : Prop :=
  xL ad b nL ls0 ls ∧ va_P D cl (xW ad b ct w) H ∧ va_D A (xW ad b ct w) ∧ va_S A H0 H locs
theorem zref0 {ad : Nat → Nat} {b : Nat} {v : Value} (h : zrf v = true) : xV ad b v = v := by
  cases v with
  | ref k => simp [zrf] at h
  | retAddr k => simp [zrf] at h
  | _ => rfl
theorem zfit_ok {ad : Nat → Nat} {b : Nat} {ty : FieldType} {v : Value} (h : zfit ty v = true) : narrow ty (xV ad b v) = xV ad b v ∧ fits ty (xV ad b v) = true := by
  cases ty <;> cases v <;> simp only [zfit, Bool.false_eq_true] at h <;> first
    | exact ⟨rfl, rfl⟩
    | (simp only [Bool.or_eq_true, beq_iff_eq] at h
       rcases h with h | h
       · subst h; exact ⟨(show narrow .boolean (.int 0) = .int 0 by decide), (show fits .boolean (.int 0) = true by decide)⟩
       · subst h; exact ⟨(show narrow .boolean (.int 1) = .int 1 by decide), (show fits .boolean (.int 1) = true by decide)⟩)
section zHs
variable {p : Program} {l : Launch} {e : Env} {R : Room} {s : State} {m : MethodId} {args : Array Value} {below : List Frame} {meth : Method} {c : Code} {H : Heap} {locs : List Loc} {Q : State → Prop}
variable {E : zEnv} {Cd : Nat → ByteArray} {Ow : Nat → String} {cl : List vw_C} {GW : List Cond} {D : va_G} {ct : Nat → ClassId} {A : Nat → Prop} {cc : ByteArray}
variable {own pc n : Nat} {ls : zL} {st : List Value} {w : zW} {ca sl nL b : Nat} {ad : Nat → Nat} {ls0 : Array Slot} {q' : zSt}
/-- what goes on behind a step -/
abbrev zGo (p : Program) (l : Launch) (e : Env) (R : Room) (s : State) (m : MethodId) (args : Array Value) (below : List Frame) (meth : Method) (c : Code) (Q : State → Prop) (D : va_G) (cl : List vw_C) (ct : Nat → ClassId) (A : Nat → Prop) (nL : Nat) (ad : Nat → Nat) (b : Nat) (w : zW) (q' : zSt) : Prop :=
  ∀ (ad' : Nat → Nat) (ls1 : Array Slot) (H1 : Heap) (locs1 : List Loc), (∀ j, j < w.length → ad' j = ad j) → zRel D cl ct A s.heap nL ad' b ls1 H1 locs1 q'.2.1 q'.2.2.2.1 →
    W p l e R s m args below meth c H1 locs1 q'.2.2.2.2.1 q'.2.2.2.2.2 Q (F0 m q'.1 ls1 (q'.2.2.1.map (xV ad' b)))
theorem zget_of (h : zget E own pc ls w ca sl n st = some q') : ∃ a st0 ci k fs v, st = .ref a :: st0 ∧ E.F own n = some (ci, k) ∧ w[a]? = some (.inr (ci, fs)) ∧ fs[k]? = some v ∧ q' = (pc + 3, ls, v :: st0, w, ca, sl) := by
  unfold zget at h
  split at h
  · split at h
    · rename_i ci k hF
      split at h
      · rename_i cj fs hw
        split at h
        · rename_i hc
          subst hc
          split at h
          · rename_i v hv
            exact ⟨_, _, _, _, _, _, rfl, hF, hw, hv, (Option.some.inj h).symm⟩
          · cases h
        · cases h
      · cases h
    · cases h
  · cases h
theorem zget_sound (hx : p.tables.exec = Jvm.exec) (hb : c.code = cc) (hown : s.vm.findClass (Ow own) = some m.cls) (hG : zG GW s) (hK : va_K D cl (zty ct) s) (okf : okF E Ow cl GW) (okc : okC E Ow cl GW)
    (hd : decode cc pc = .ok (.getfield n, 3)) (hr : zRel D cl ct A s.heap nL ad b ls0 H locs ls w) (h : zget E own pc ls w ca sl n st = some q') (k : zGo p l e R s m args below meth c Q D cl ct A nL ad b w q') :
    W p l e R s m args below meth c H locs ca sl Q (F0 m pc ls0 (st.map (xV ad b))) := by
  obtain ⟨a, st0, ci, j, fs, v, rfl, hF, hw, hv, rfl⟩ := zget_of h
  obtain ⟨C, T, N, hc, hj, hlk⟩ := okf _ _ _ _ hF
  obtain ⟨hws, -⟩ := okc _ _ _ _ hc
  have hk := k ad ls0 H locs (fun _ _ => rfl) hr
  have hv' : (fs.map (xV ad b))[j]? = some (xV ad b v) := by rw [List.getElem?_map, hv]; rfl
  rcases hlk with hlk | ⟨hne, ho, hlk⟩
  · exact va_get (D := D) (ci := ci) (v := xV ad b v) (C := C) (T := T) (N := N) hx hb (fun w9 h9 => hG w9 (hws w9 h9) args) (fun w9 h9 => h9) hown hK hr.2.1 a (xW_at hw) hc j hj (hG _ hlk args) (fun _ h9 => h9) hv' hd hk
  · exact va_getN (D := D) (ci := ci) (v := xV ad b v) (C := C) (T := T) (N := N) hx hb (fun w9 h9 => hG w9 (hws w9 h9) args) (fun w9 h9 => h9) hown hK hr.2.1 a (xW_at hw) hc j hj (hG _ hlk args) (fun _ h9 => h9) hv' hd hk
theorem zputf_of {mk : Bool} (h : zputf E own pc ls w ca sl mk n st = some q') : ∃ v a st0 ci k fs, st = v :: .ref a :: st0 ∧ E.F own n = some (ci, k) ∧ w[a]? = some (.inr (ci, fs)) ∧ k < fs.length ∧ zfit ((E.K ci).2.1.getD k .byte) v = true ∧
    ((E.K ci).2.2.getD k true = true → mk = true ∧ own = ci) ∧ q' = (pc + 3, ls, st0, w.set a (.inr (ci, fs.set k v)), ca, sl) := by
  unfold zputf at h
  split at h
  · split at h
    · rename_i ci k hF
      split at h
      · rename_i cj fs hw
        split at h
        · rename_i hc
          obtain ⟨rfl, h1, h2, h3⟩ := hc
          exact ⟨_, _, _, _, _, _, rfl, hF, hw, h1, h2, h3, (Option.some.inj h).symm⟩
        · cases h
      · cases h
    · cases h
  · cases h
theorem xE_set {ci k : Nat} {fs : List Value} {v : Value} : xE ad b ct (.inr (ci, fs.set k v)) = .inr (ci, (fs.map (xV ad b)).set k (xV ad b v)) := by
  show Sum.inr (ci, (fs.set k v).map (xV ad b)) = _
  rw [List.map_set]
theorem zputf_sound {mk : Bool} (hx : p.tables.exec = Jvm.exec) (hb : c.code = cc) (hown : s.vm.findClass (Ow own) = some m.cls) (hmk : mk = true → meth.name = "<init>") (hG : zG GW s) (hK : va_K D cl (zty ct) s) (okf : okF E Ow cl GW) (okc : okC E Ow cl GW)
    (hd : decode cc pc = .ok (.putfield n, 3)) (hr : zRel D cl ct A s.heap nL ad b ls0 H locs ls w) (h : zputf E own pc ls w ca sl mk n st = some q') (k : zGo p l e R s m args below meth c Q D cl ct A nL ad b w q') :
    W p l e R s m args below meth c H locs ca sl Q (F0 m pc ls0 (st.map (xV ad b))) := by
  obtain ⟨v, a, st0, ci, j, fs, rfl, hF, hw, hjl, hfit, hfin, rfl⟩ := zputf_of h
  obtain ⟨C, T, N, hc, hj, hlk⟩ := okf _ _ _ _ hF
  obtain ⟨hws, hCo, hT1, ⟨ty, hty, htyK, -⟩, hnm, -, hfl, -⟩ := okc _ _ _ _ hc
  obtain ⟨hl, hP, hD, hS⟩ := hr
  rw [htyK j hj] at hfit
  obtain ⟨f1, f2⟩ := zfit_ok (ad := ad) (b := b) hfit
  have hjl' : j < (fs.map (xV ad b)).length := by rw [List.length_map]; exact hjl
  have go : ∀ (H1 : Heap) (locs1 : List Loc), va_P D cl ((xW ad b ct w).set a (ad a, .inr (ci, (fs.map (xV ad b)).set j (xV ad b v)))) H1 → va_D A ((xW ad b ct w).set a (ad a, .inr (ci, (fs.map (xV ad b)).set j (xV ad b v)))) → va_S A s.heap H1 locs1 →
      W p l e R s m args below meth c H1 locs1 ca sl Q (F0 m (pc + 3) ls0 (st0.map (xV ad b))) := by
    intro H1 locs1 g1 g2 g3
    rw [← xE_set (ct := ct), xW_set] at g1 g2
    exact k ad ls0 H1 locs1 (fun _ _ => rfl) ⟨hl, g1, g2, g3⟩
  by_cases hf : (T j).2.2.2 = true
  · obtain ⟨hm1, hoc⟩ := hfin (by rw [hfl j hj]; exact hf)
    subst hoc
    have hdecl : (T j).1 = Ow own := by rw [hT1 j hj, hCo]
    rcases hlk with hlk | ⟨hne, ho, hlk⟩
    · exact va_putF (D := D) (ci := own) (v := xV ad b v) (ty := ty j) (C := C) (T := T) (N := N) hx hb (fun w9 h9 => hG w9 (hws w9 h9) args) (fun w9 h9 => h9) ty hty hnm hown hK hP hD hS a (xW_at hw) hc j hj (hG _ hlk args) (fun _ h9 => h9) hf (hmk hm1) hdecl (hty j hj) f1 f2 hjl' hd go
    · exact absurd rfl hne
  · have hf0 : (T j).2.2.2 = false := by simpa using hf
    rcases hlk with hlk | ⟨hne, ho, hlk⟩
    · exact va_put (D := D) (ci := ci) (v := xV ad b v) (ty := ty j) (C := C) (T := T) (N := N) hx hb (fun w9 h9 => hG w9 (hws w9 h9) args) (fun w9 h9 => h9) ty hty hnm hown hK hP hD hS a (xW_at hw) hc j hj (hG _ hlk args) (fun _ h9 => h9) hf0 (hty j hj) f1 f2 hjl' hd go
    · exact va_putN (D := D) (ci := ci) (v := xV ad b v) (ty := ty j) (C := C) (T := T) (N := N) hx hb (fun w9 h9 => hG w9 (hws w9 h9) args) (fun w9 h9 => h9) ty hty hnm hown hK hP hD hS a (xW_at hw) hc j hj (hG _ hlk args) (fun _ h9 => h9) hf0 (hty j hj) f1 f2 hjl' hd go
end zHs
