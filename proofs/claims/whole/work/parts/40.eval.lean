/-! How a step reads: rules by which a method's body is read as a function. -/
theorem hT_of {Cd : Nat → ByteArray} {y pc n tg : Nat} {cc : ByteArray} {i : Instr} (hC : Cd y = cc) (hd : decode cc pc = .ok (i, n)) (hn : zlen i = some n ∨ zlen i = none) (ht : (pc : Int) + (zoff i).getD 0 = (tg : Int)) : zT0 Cd y pc = some (i, tg) := by
  unfold zT0
  rw [hC, hd]
  dsimp only
  rw [if_pos ⟨hn, by rw [ht]; exact Int.natCast_nonneg tg⟩, ht]
  rfl
def zs_body (E : zEnv) (Sc : zSc) (y pc : Nat) (ls : zL) (st : List Value) (w : zW) (ca sl : Nat) (i : Instr) : Option zN := match i with
          | .getfield n => (zget E (zOwn (E.D y)) pc ls w ca sl n st).map .inl
          | .putfield n => (zputf E (zOwn (E.D y)) pc ls w ca sl (decide (zKd (E.D y) = 2)) n st).map .inl
          | .iaload => (zaldI pc ls w ca sl Sc st).map .inl
          | .laload => (zaldL pc ls w ca sl st).map .inl
          | .baload => (zaldZ pc ls w ca sl st).map .inl
          | .iastore => (zastI pc ls w ca sl st).map .inl
          | .lastore => (zastL pc ls w ca sl st).map .inl
          | .bastore => (zastZ pc ls w ca sl st).map .inl
          | .arraylength => (zalen pc ls w ca sl Sc st).map .inl
          | .new n => (znew E (zOwn (E.D y)) pc ls w ca sl n st).map .inl
          | .newarray t => (match t with
            | .int => znewa pc ls w ca sl 0 (fun n => (n, .inl fun _ => 0)) st
            | .long => znewa pc ls w ca sl 1 (fun n => (n, .inr (.inl fun _ => 0))) st
            | .boolean => znewa pc ls w ca sl 2 (fun n => (n, .inl fun _ => 0)) st
            | _ => none).map .inl
          | .ldc2_w n => (E.J (zOwn (E.D y)) n).map fun v => .inl (pc + 3, ls, .long v :: st, w, ca, sl)
          | .ldc n => (E.I (zOwn (E.D y)) n).map fun v => .inl (pc + 2, ls, .int v :: st, w, ca, sl)
          | .ireturn => (match st with
            | [.int v] => if zfitR (zRet (E.D y)) (some (.int v)) = true then some (.inr (.inl (some (.int v)))) else none
            | _ => none)
          | .lreturn => (match st with
            | [.long v] => if zfitR (zRet (E.D y)) (some (.long v)) = true then some (.inr (.inl (some (.long v)))) else none
            | _ => none)
          | .areturn => (match st with
            | [.ref v] => if zfitR (zRet (E.D y)) (some (.ref v)) = true then some (.inr (.inl (some (.ref v)))) else none
            | _ => none)
          | .return_ => (match st with
            | [] => if zfitR (zRet (E.D y)) none = true then some (.inr (.inl none)) else none
            | _ => none)
          | .invokestatic n => (match E.N (zOwn (E.D y)) n with
            | some k => if zroom (E.D y) st = true ∧ k ≠ 0 then (znat pc ls w ca sl k st).map .inl else none
            | none => zcall E 0 y n pc ls st w ca sl)
          | .invokespecial n => (match E.N (zOwn (E.D y)) n with
            | some k => if zroom (E.D y) st = true ∧ k = 0 then (znat pc ls w ca sl k st).map .inl else none
            | none => zcall E 2 y n pc ls st w ca sl)
          | .invokevirtual n => zcall E 1 y n pc ls st w ca sl
          | _ => none
section zEv
variable {E : zEnv} {Sc : zSc} {y pc tg : Nat} {ls : zL} {st : List Value} {w : zW} {ca sl : Nat}
theorem zs_P {i : Instr} {pc' : Nat} {ls' : zL} {st' : List Value} (hX : E.X y pc = none) (hT : E.T y pc = some (i, tg)) (hP : zP i tg pc ls st = some (pc', ls', st')) : zstep E Sc y (pc, ls, st, w, ca, sl) = some (.inl (pc', ls', st', w, ca, sl)) := by
  unfold zstep
  dsimp only
  rw [hX]
  dsimp only
  rw [hT]
  dsimp only
  rw [hP]
theorem zv_P {i : Instr} {pc' : Nat} {ls' : zL} {st' : List Value} (hX : E.X y pc = none) (hT : E.T y pc = some (i, tg)) (hP : zP i tg pc ls st = some (pc', ls', st')) : zval E Sc y (pc, ls, st, w, ca, sl) = zval E Sc y (pc', ls', st', w, ca, sl) := zval_go (zs_P hX hT hP)
theorem zs_I {i : Instr} (hX : E.X y pc = none) (hT : E.T y pc = some (i, tg)) (hP : zP i tg pc ls st = none) : zstep E Sc y (pc, ls, st, w, ca, sl) = zs_body E Sc y pc ls st w ca sl i := by
  unfold zstep
  dsimp only
  rw [hX]
  dsimp only
  rw [hT]
  dsimp only
  rw [hP]
  rfl
theorem zv_get {n ci k a : Nat} {fs : List Value} {v : Value} (hX : E.X y pc = none) (hT : E.T y pc = some (.getfield n, tg)) (hF : E.F (zOwn (E.D y)) n = some (ci, k)) (hw : w[a]? = some (.inr (ci, fs))) (hv : fs[k]? = some v) :
    zval E Sc y (pc, ls, .ref a :: st, w, ca, sl) = zval E Sc y (pc + 3, ls, v :: st, w, ca, sl) := by
  refine zval_go ((zs_I hX hT rfl).trans ?_)
  dsimp only [zs_body, zget]
  rw [hF]
  dsimp only
  rw [hw]
  dsimp only
  rw [if_pos rfl, hv]
  rfl
theorem zv_put {n ci k a : Nat} {fs : List Value} {v : Value} (hX : E.X y pc = none) (hT : E.T y pc = some (.putfield n, tg)) (hF : E.F (zOwn (E.D y)) n = some (ci, k)) (hfin : (E.K ci).2.2.getD k true = true → decide (zKd (E.D y) = 2) = true ∧ zOwn (E.D y) = ci) (hw : w[a]? = some (.inr (ci, fs))) (hk : k < fs.length) (hf : zfit ((E.K ci).2.1.getD k .byte) v = true) :
    zval E Sc y (pc, ls, v :: .ref a :: st, w, ca, sl) = zval E Sc y (pc + 3, ls, st, w.set a (.inr (ci, fs.set k v)), ca, sl) := by
  refine zval_go ((zs_I hX hT rfl).trans ?_)
  dsimp only [zs_body, zputf]
  rw [hF]
  dsimp only
  rw [hw]
  dsimp only
  rw [if_pos ⟨rfl, hk, hf, hfin⟩]
  rfl
theorem zv_iald {a n : Nat} {f : Nat → Int32} {i : Int32} (hX : E.X y pc = none) (hT : E.T y pc = some (.iaload, tg)) (hw : w[a]? = some (.inl (0, n, .inl f))) (hi : ¬ (i < 0 ∨ n ≤ i.toNatClampNeg)) :
    zval E Sc y (pc, ls, .int i :: .ref a :: st, w, ca, sl) = zval E Sc y (pc + 1, ls, .int (f i.toNatClampNeg) :: st, w, ca, sl) := by
  refine zval_go ((zs_I hX hT rfl).trans ?_)
  dsimp only [zs_body, zaldI]
  rw [hw]
  exact congrArg (Option.map Sum.inl) (if_neg hi)
theorem zv_sald {L : Nat} {f : Nat → Int32} {i : Int32} {b : Nat} (hX : E.X y pc = none) (hT : E.T y pc = some (.iaload, tg)) (hi : ¬ (i < 0 ∨ L ≤ i.toNatClampNeg)) :
    zval E (some (L, f)) y (pc, ls, .int i :: .retAddr b :: st, w, ca, sl) = zval E (some (L, f)) y (pc + 1, ls, .int (f i.toNatClampNeg) :: st, w, ca, sl) := by
  refine zval_go ((zs_I hX hT rfl).trans ?_)
  dsimp only [zs_body, zaldI]
  rw [if_neg hi]
  rfl
theorem zv_lald {a n : Nat} {f : Nat → Int64} {i : Int32} (hX : E.X y pc = none) (hT : E.T y pc = some (.laload, tg)) (hw : w[a]? = some (.inl (1, n, .inr (.inl f)))) (hi : ¬ (i < 0 ∨ n ≤ i.toNatClampNeg)) :
    zval E Sc y (pc, ls, .int i :: .ref a :: st, w, ca, sl) = zval E Sc y (pc + 1, ls, .long (f i.toNatClampNeg) :: st, w, ca, sl) := by
  refine zval_go ((zs_I hX hT rfl).trans ?_)
  dsimp only [zs_body, zaldL]
  rw [hw]
  exact congrArg (Option.map Sum.inl) (if_neg hi)
theorem zv_zald {a n : Nat} {f : Nat → Int32} {i : Int32} (hX : E.X y pc = none) (hT : E.T y pc = some (.baload, tg)) (hw : w[a]? = some (.inl (2, n, .inl f))) (hi : ¬ (i < 0 ∨ n ≤ i.toNatClampNeg)) :
    zval E Sc y (pc, ls, .int i :: .ref a :: st, w, ca, sl) = zval E Sc y (pc + 1, ls, .int (f i.toNatClampNeg) :: st, w, ca, sl) := by
  refine zval_go ((zs_I hX hT rfl).trans ?_)
  dsimp only [zs_body, zaldZ]
  rw [hw]
  exact congrArg (Option.map Sum.inl) (if_neg hi)
theorem zv_iast {a n : Nat} {f : Nat → Int32} {i x : Int32} (hX : E.X y pc = none) (hT : E.T y pc = some (.iastore, tg)) (hw : w[a]? = some (.inl (0, n, .inl f))) (hi : ¬ (i < 0 ∨ n ≤ i.toNatClampNeg)) :
    zval E Sc y (pc, ls, .int x :: .int i :: .ref a :: st, w, ca, sl) = zval E Sc y (pc + 1, ls, st, w.set a (.inl (0, n, .inl (upd f i.toNatClampNeg x))), ca, sl) := by
  refine zval_go ((zs_I hX hT rfl).trans ?_)
  dsimp only [zs_body, zastI]
  rw [hw]
  exact congrArg (Option.map Sum.inl) (if_neg hi)
theorem zv_last {a n : Nat} {f : Nat → Int64} {i : Int32} {x : Int64} (hX : E.X y pc = none) (hT : E.T y pc = some (.lastore, tg)) (hw : w[a]? = some (.inl (1, n, .inr (.inl f)))) (hi : ¬ (i < 0 ∨ n ≤ i.toNatClampNeg)) :
    zval E Sc y (pc, ls, .long x :: .int i :: .ref a :: st, w, ca, sl) = zval E Sc y (pc + 1, ls, st, w.set a (.inl (1, n, .inr (.inl (vp_updL f i.toNatClampNeg x)))), ca, sl) := by
  refine zval_go ((zs_I hX hT rfl).trans ?_)
  dsimp only [zs_body, zastL]
  rw [hw]
  exact congrArg (Option.map Sum.inl) (if_neg hi)
theorem zv_zast {a n : Nat} {f : Nat → Int32} {i x : Int32} (hX : E.X y pc = none) (hT : E.T y pc = some (.bastore, tg)) (hw : w[a]? = some (.inl (2, n, .inl f))) (hi : ¬ (i < 0 ∨ n ≤ i.toNatClampNeg)) :
    zval E Sc y (pc, ls, .int x :: .int i :: .ref a :: st, w, ca, sl) = zval E Sc y (pc + 1, ls, st, w.set a (.inl (2, n, .inl (upd f i.toNatClampNeg (vp_nar .boolean x)))), ca, sl) := by
  refine zval_go ((zs_I hX hT rfl).trans ?_)
  dsimp only [zs_body, zastZ]
  rw [hw]
  exact congrArg (Option.map Sum.inl) (if_neg hi)
theorem zv_alen {a t : Nat} {x : vp_A} (hX : E.X y pc = none) (hT : E.T y pc = some (.arraylength, tg)) (hw : w[a]? = some (.inl (t, x))) (ht : t < 3) :
    zval E Sc y (pc, ls, .ref a :: st, w, ca, sl) = zval E Sc y (pc + 1, ls, .int (Int32.ofNat x.1) :: st, w, ca, sl) := by
  refine zval_go ((zs_I hX hT rfl).trans ?_)
  dsimp only [zs_body, zalen]
  rw [hw]
  dsimp only
  rw [if_pos ht]
  rfl
theorem zv_salen {L : Nat} {f : Nat → Int32} {b : Nat} (hX : E.X y pc = none) (hT : E.T y pc = some (.arraylength, tg)) :
    zval E (some (L, f)) y (pc, ls, .retAddr b :: st, w, ca, sl) = zval E (some (L, f)) y (pc + 1, ls, .int (Int32.ofNat L) :: st, w, ca, sl) := zval_go ((zs_I hX hT rfl).trans rfl)
theorem zv_new {n ci : Nat} (hX : E.X y pc = none) (hT : E.T y pc = some (.new n, tg)) (hC : E.C (zOwn (E.D y)) n = some ci) (h1 : zscL w.length ls = true) (h2 : zscS w.length st = true) (h3 : zscW w.length w = true) :
    zval E Sc y (pc, ls, st, w, ca, sl) = zval E Sc y (pc + 3, ls, .ref w.length :: st, w ++ [.inr (ci, (E.K ci).1)], ca + 1, sl + (E.K ci).1.length) := by
  refine zval_go ((zs_I hX hT rfl).trans ?_)
  dsimp only [zs_body, znew]
  rw [hC]
  dsimp only
  rw [if_pos ⟨h1, h2, h3⟩]
  rfl
theorem zv_newI {n : Int32} (hX : E.X y pc = none) (hT : E.T y pc = some (.newarray .int, tg)) (hn : ¬ (n < 0 ∨ 100000 ≤ n.toNatClampNeg)) (h1 : zscL w.length ls = true) (h2 : zscS w.length st = true) (h3 : zscW w.length w = true) :
    zval E Sc y (pc, ls, .int n :: st, w, ca, sl) = zval E Sc y (pc + 2, ls, .ref w.length :: st, w ++ [.inl (0, n.toNatClampNeg, .inl fun _ => 0)], ca + 1, sl + n.toNatClampNeg) := by
  refine zval_go ((zs_I hX hT rfl).trans ?_)
  dsimp only [zs_body, znewa]
  rw [if_neg hn, if_pos ⟨h1, h2, h3⟩]
  rfl
theorem zv_newL {n : Int32} (hX : E.X y pc = none) (hT : E.T y pc = some (.newarray .long, tg)) (hn : ¬ (n < 0 ∨ 100000 ≤ n.toNatClampNeg)) (h1 : zscL w.length ls = true) (h2 : zscS w.length st = true) (h3 : zscW w.length w = true) :
    zval E Sc y (pc, ls, .int n :: st, w, ca, sl) = zval E Sc y (pc + 2, ls, .ref w.length :: st, w ++ [.inl (1, n.toNatClampNeg, .inr (.inl fun _ => 0))], ca + 1, sl + n.toNatClampNeg) := by
  refine zval_go ((zs_I hX hT rfl).trans ?_)
  dsimp only [zs_body, znewa]
  rw [if_neg hn, if_pos ⟨h1, h2, h3⟩]
  rfl
theorem zv_newZ {n : Int32} (hX : E.X y pc = none) (hT : E.T y pc = some (.newarray .boolean, tg)) (hn : ¬ (n < 0 ∨ 100000 ≤ n.toNatClampNeg)) (h1 : zscL w.length ls = true) (h2 : zscS w.length st = true) (h3 : zscW w.length w = true) :
    zval E Sc y (pc, ls, .int n :: st, w, ca, sl) = zval E Sc y (pc + 2, ls, .ref w.length :: st, w ++ [.inl (2, n.toNatClampNeg, .inl fun _ => 0)], ca + 1, sl + n.toNatClampNeg) := by
  refine zval_go ((zs_I hX hT rfl).trans ?_)
  dsimp only [zs_body, znewa]
  rw [if_neg hn, if_pos ⟨h1, h2, h3⟩]
  rfl
theorem zv_ldc2 {n : Nat} {v : Int64} (hX : E.X y pc = none) (hT : E.T y pc = some (.ldc2_w n, tg)) (hJ : E.J (zOwn (E.D y)) n = some v) : zval E Sc y (pc, ls, st, w, ca, sl) = zval E Sc y (pc + 3, ls, .long v :: st, w, ca, sl) := by
  refine zval_go ((zs_I hX hT rfl).trans ?_)
  dsimp only [zs_body]
  rw [hJ]
  rfl
theorem zv_ireturn {v : Int32} (hX : E.X y pc = none) (hT : E.T y pc = some (.ireturn, tg)) (hf : zfitR (zRet (E.D y)) (some (.int v)) = true) : zval E Sc y (pc, ls, [.int v], w, ca, sl) = some (.inl (some (.int v)), w, ca, sl) :=
  zval_ret ((zs_I hX hT rfl).trans (if_pos hf))
theorem zv_areturn {v : Nat} (hX : E.X y pc = none) (hT : E.T y pc = some (.areturn, tg)) (hf : zfitR (zRet (E.D y)) (some (.ref v)) = true) : zval E Sc y (pc, ls, [.ref v], w, ca, sl) = some (.inl (some (.ref v)), w, ca, sl) :=
  zval_ret ((zs_I hX hT rfl).trans (if_pos hf))
theorem zv_return (hX : E.X y pc = none) (hT : E.T y pc = some (.return_, tg)) (hf : zfitR (zRet (E.D y)) none = true) : zval E Sc y (pc, ls, [], w, ca, sl) = some (.inl none, w, ca, sl) :=
  zval_ret ((zs_I hX hT rfl).trans (if_pos hf))
theorem zv_throw {x : Nat} (hX : E.X y pc = some x) (h6 : 6 ≤ zFr (E.D y)) (h8 : zwt st + 82 ≤ zLo (E.D y)) : zval E Sc y (pc, ls, st, w, ca, sl) = some (.inr x, w, ca + 1, sl + 6) := by
  refine zval_thr ?_
  unfold zstep
  dsimp only
  rw [hX]
  exact if_pos ⟨h6, h8⟩
theorem zv_nat {n k : Nat} {q' : zSt} (hX : E.X y pc = none) (hT : E.T y pc = some (.invokestatic n, tg)) (hN : E.N (zOwn (E.D y)) n = some k) (hk : k ≠ 0) (hr : zroom (E.D y) st = true) (h : znat pc ls w ca sl k st = some q') : zval E Sc y (pc, ls, st, w, ca, sl) = zval E Sc y q' := by
  refine zval_go ((zs_I hX hT rfl).trans ?_)
  dsimp only [zs_body]
  rw [hN]
  dsimp only
  rw [if_pos ⟨hr, hk⟩, h]
  rfl
theorem zv_obj {n a : Nat} (hX : E.X y pc = none) (hT : E.T y pc = some (.invokespecial n, tg)) (hN : E.N (zOwn (E.D y)) n = some 0) (hr : zroom (E.D y) (.ref a :: st) = true) : zval E Sc y (pc, ls, .ref a :: st, w, ca, sl) = zval E Sc y (pc + 3, ls, st, w, ca, sl) := by
  refine zval_go ((zs_I hX hT rfl).trans ?_)
  dsimp only [zs_body]
  rw [hN]
  dsimp only
  rw [if_pos ⟨hr, rfl⟩]
  rfl
theorem zs_call {kd n y' : Nat} (hM : E.M (zOwn (E.D y)) n = some y') (hg : zKd (E.D y') = kd ∧ zFr (E.D y') + 1 ≤ zFr (E.D y) ∧ zwt (st.drop (zAr (E.D y'))) + (zMax (E.D y') + 11) + zLo (E.D y') ≤ zLo (E.D y) ∧ zAr (E.D y') ≤ st.length ∧ (zargs (st.take (zAr (E.D y'))).reverse).length ≤ zMax (E.D y') ∧ zscL w.length ls = true ∧ zscS w.length st = true ∧ zrecv E y' (st.take (zAr (E.D y'))).reverse w = true) :
    zcall E kd y n pc ls st w ca sl = some (.inr (.inr (.inl (y', (st.take (zAr (E.D y'))).reverse, (pc + 3, ls, st.drop (zAr (E.D y')), w, ca, sl))))) := by
  unfold zcall
  rw [hM]
  exact if_pos hg
theorem zv_callS {n y' : Nat} (hX : E.X y pc = none) (hT : E.T y pc = some (.invokestatic n, tg)) (hN : E.N (zOwn (E.D y)) n = none) (hM : E.M (zOwn (E.D y)) n = some y') (hg : zKd (E.D y') = 0 ∧ zFr (E.D y') + 1 ≤ zFr (E.D y) ∧ zwt (st.drop (zAr (E.D y'))) + (zMax (E.D y') + 11) + zLo (E.D y') ≤ zLo (E.D y) ∧ zAr (E.D y') ≤ st.length ∧ (zargs (st.take (zAr (E.D y'))).reverse).length ≤ zMax (E.D y') ∧ zscL w.length ls = true ∧ zscS w.length st = true ∧ zrecv E y' (st.take (zAr (E.D y'))).reverse w = true) :
    zval E Sc y (pc, ls, st, w, ca, sl) = zAft E Sc y pc ls (st.drop (zAr (E.D y'))) ca sl (zm E y' (st.take (zAr (E.D y'))).reverse w) := by
  refine zval_call ((zs_I hX hT rfl).trans ?_)
  dsimp only [zs_body]
  rw [hN]
  exact zs_call hM hg
theorem zv_callI {n y' : Nat} (hX : E.X y pc = none) (hT : E.T y pc = some (.invokespecial n, tg)) (hN : E.N (zOwn (E.D y)) n = none) (hM : E.M (zOwn (E.D y)) n = some y') (hg : zKd (E.D y') = 2 ∧ zFr (E.D y') + 1 ≤ zFr (E.D y) ∧ zwt (st.drop (zAr (E.D y'))) + (zMax (E.D y') + 11) + zLo (E.D y') ≤ zLo (E.D y) ∧ zAr (E.D y') ≤ st.length ∧ (zargs (st.take (zAr (E.D y'))).reverse).length ≤ zMax (E.D y') ∧ zscL w.length ls = true ∧ zscS w.length st = true ∧ zrecv E y' (st.take (zAr (E.D y'))).reverse w = true) :
    zval E Sc y (pc, ls, st, w, ca, sl) = zAft E Sc y pc ls (st.drop (zAr (E.D y'))) ca sl (zm E y' (st.take (zAr (E.D y'))).reverse w) := by
  refine zval_call ((zs_I hX hT rfl).trans ?_)
  dsimp only [zs_body]
  rw [hN]
  exact zs_call hM hg
theorem zv_callV {n y' : Nat} (hX : E.X y pc = none) (hT : E.T y pc = some (.invokevirtual n, tg)) (hM : E.M (zOwn (E.D y)) n = some y') (hg : zKd (E.D y') = 1 ∧ zFr (E.D y') + 1 ≤ zFr (E.D y) ∧ zwt (st.drop (zAr (E.D y'))) + (zMax (E.D y') + 11) + zLo (E.D y') ≤ zLo (E.D y) ∧ zAr (E.D y') ≤ st.length ∧ (zargs (st.take (zAr (E.D y'))).reverse).length ≤ zMax (E.D y') ∧ zscL w.length ls = true ∧ zscS w.length st = true ∧ zrecv E y' (st.take (zAr (E.D y'))).reverse w = true) :
    zval E Sc y (pc, ls, st, w, ca, sl) = zAft E Sc y pc ls (st.drop (zAr (E.D y'))) ca sl (zm E y' (st.take (zAr (E.D y'))).reverse w) :=
  zval_call ((zs_I hX hT rfl).trans (zs_call hM hg))
end zEv
/-- no long lies here -/
def znl : Option Value → Bool
  | some v => !(v.category == 2)
  | none => true
theorem zclr_nl {i : Nat} {ls : zL} {o : Option Value} (ho : ls[i]? = some o) (h : znl o = true) : zclr (i + 1) ls = ls := by
  unfold zclr
  dsimp only
  rw [ho]
  cases o with
  | none => rfl
  | some v =>
    simp only [znl, Bool.not_eq_true', beq_eq_false_iff_ne] at h
    exact if_neg h
section zEw
variable {E : zEnv} {Sc : zSc} {y pc tg : Nat} {ls : zL} {st : List Value} {w : zW} {ca sl : Nat}
theorem zv_iconst {n : Int} {v : Int32} (hX : E.X y pc = none) (hT : E.T y pc = some (.iconst n, tg)) (hv : Int32.ofInt n = v) : zval E Sc y (pc, ls, st, w, ca, sl) = zval E Sc y (pc + 1, ls, .int v :: st, w, ca, sl) := by subst hv; exact zv_P hX hT rfl
theorem zv_bipush {n : Int} {v : Int32} (hX : E.X y pc = none) (hT : E.T y pc = some (.bipush n, tg)) (hv : (Int8.ofInt n).toInt32 = v) : zval E Sc y (pc, ls, st, w, ca, sl) = zval E Sc y (pc + 2, ls, .int v :: st, w, ca, sl) := by subst hv; exact zv_P hX hT rfl
theorem zv_sipush {n : Int} {v : Int32} (hX : E.X y pc = none) (hT : E.T y pc = some (.sipush n, tg)) (hv : (Int16.ofInt n).toInt32 = v) : zval E Sc y (pc, ls, st, w, ca, sl) = zval E Sc y (pc + 3, ls, .int v :: st, w, ca, sl) := by subst hv; exact zv_P hX hT rfl
theorem zv_lconst {n : Fin 2} {v : Int64} (hX : E.X y pc = none) (hT : E.T y pc = some (.lconst n, tg)) (hv : Int64.ofNat (n : Nat) = v) : zval E Sc y (pc, ls, st, w, ca, sl) = zval E Sc y (pc + 1, ls, .long v :: st, w, ca, sl) := by subst hv; exact zv_P hX hT rfl
theorem zv_stI {i n : Nat} {x : Int32} {ins : Instr} (hX : E.X y pc = none) (hT : E.T y pc = some (ins, tg)) (hP : zP ins tg pc ls (.int x :: st) = zstI i n pc ls (.int x :: st)) (hi : i < ls.length) (hz : zclr i ls = ls) : zval E Sc y (pc, ls, .int x :: st, w, ca, sl) = zval E Sc y (pc + n, ls.set i (some (.int x)), st, w, ca, sl) := by
  refine zv_P hX hT (hP.trans ?_)
  dsimp only [zstI]
  rw [if_pos hi]
  unfold zput1
  rw [hz]
theorem zv_stA {i n : Nat} {x : Nat} {ins : Instr} (hX : E.X y pc = none) (hT : E.T y pc = some (ins, tg)) (hP : zP ins tg pc ls (.ref x :: st) = zstA i n pc ls (.ref x :: st)) (hi : i < ls.length) (hz : zclr i ls = ls) : zval E Sc y (pc, ls, .ref x :: st, w, ca, sl) = zval E Sc y (pc + n, ls.set i (some (.ref x)), st, w, ca, sl) := by
  refine zv_P hX hT (hP.trans ?_)
  dsimp only [zstA]
  rw [if_pos hi]
  unfold zput1
  rw [hz]
theorem zv_stL {i n : Nat} {x : Int64} {ins : Instr} (hX : E.X y pc = none) (hT : E.T y pc = some (ins, tg)) (hP : zP ins tg pc ls (.long x :: st) = zstL i n pc ls (.long x :: st)) (hi : i + 1 < ls.length) (hz : zclr i ls = ls) : zval E Sc y (pc, ls, .long x :: st, w, ca, sl) = zval E Sc y (pc + n, (ls.set i (some (.long x))).set (i + 1) none, st, w, ca, sl) := by
  refine zv_P hX hT (hP.trans ?_)
  dsimp only [zstL]
  rw [if_pos hi]
  unfold zput2
  rw [hz]
theorem zv_inc {i : Nat} {k : Int} {x v : Int32} (hX : E.X y pc = none) (hT : E.T y pc = some (.iinc i k, tg)) (hl : ls[i]? = some (some (.int x))) (hv : Int32.ofInt k = v) (hz : zclr i ls = ls) : zval E Sc y (pc, ls, st, w, ca, sl) = zval E Sc y (pc + 3, ls.set i (some (.int (x + v))), st, w, ca, sl) := by
  subst hv
  refine zv_P hX hT ?_
  show zinc i k pc ls st = _
  unfold zinc
  rw [hl]
  dsimp only
  unfold zput1
  rw [hz]
theorem zv_ite {c : Bool} {P : Prop} {a b : Nat} (hd : c = true ↔ P) (inst : Decidable P) : zval E Sc y ((if c = true then a else b), ls, st, w, ca, sl) = @ite _ P inst (zval E Sc y (a, ls, st, w, ca, sl)) (zval E Sc y (b, ls, st, w, ca, sl)) := by
  by_cases h : P
  · rw [if_pos h, if_pos (hd.mpr h)]
  · rw [if_neg h, if_neg (fun q => h (hd.mp q))]
theorem zv_if_eq {o : Int} {x : Int32} (hX : E.X y pc = none) (hT : E.T y pc = some (.ifCond .eq o, tg)) : zval E Sc y (pc, ls, .int x :: st, w, ca, sl) = if x = 0 then zval E Sc y (tg, ls, st, w, ca, sl) else zval E Sc y (pc + 3, ls, st, w, ca, sl) :=
  (zv_P hX hT (show zP (.ifCond .eq o) tg pc ls (.int x :: st) = some ((if decide (x = 0) = true then tg else pc + 3), ls, st) from rfl)).trans (zv_ite decide_eq_true_iff _)
theorem zv_if_ne {o : Int} {x : Int32} (hX : E.X y pc = none) (hT : E.T y pc = some (.ifCond .ne o, tg)) : zval E Sc y (pc, ls, .int x :: st, w, ca, sl) = if ¬ x = 0 then zval E Sc y (tg, ls, st, w, ca, sl) else zval E Sc y (pc + 3, ls, st, w, ca, sl) :=
  (zv_P hX hT (show zP (.ifCond .ne o) tg pc ls (.int x :: st) = some ((if decide (¬ x = 0) = true then tg else pc + 3), ls, st) from rfl)).trans (zv_ite decide_eq_true_iff _)
theorem zv_if_lt {o : Int} {x : Int32} (hX : E.X y pc = none) (hT : E.T y pc = some (.ifCond .lt o, tg)) : zval E Sc y (pc, ls, .int x :: st, w, ca, sl) = if x < 0 then zval E Sc y (tg, ls, st, w, ca, sl) else zval E Sc y (pc + 3, ls, st, w, ca, sl) :=
  (zv_P hX hT (show zP (.ifCond .lt o) tg pc ls (.int x :: st) = some ((if decide (x < 0) = true then tg else pc + 3), ls, st) from rfl)).trans (zv_ite decide_eq_true_iff _)
theorem zv_if_ge {o : Int} {x : Int32} (hX : E.X y pc = none) (hT : E.T y pc = some (.ifCond .ge o, tg)) : zval E Sc y (pc, ls, .int x :: st, w, ca, sl) = if 0 ≤ x then zval E Sc y (tg, ls, st, w, ca, sl) else zval E Sc y (pc + 3, ls, st, w, ca, sl) :=
  (zv_P hX hT (show zP (.ifCond .ge o) tg pc ls (.int x :: st) = some ((if decide (0 ≤ x) = true then tg else pc + 3), ls, st) from rfl)).trans (zv_ite decide_eq_true_iff _)
theorem zv_if_gt {o : Int} {x : Int32} (hX : E.X y pc = none) (hT : E.T y pc = some (.ifCond .gt o, tg)) : zval E Sc y (pc, ls, .int x :: st, w, ca, sl) = if 0 < x then zval E Sc y (tg, ls, st, w, ca, sl) else zval E Sc y (pc + 3, ls, st, w, ca, sl) :=
  (zv_P hX hT (show zP (.ifCond .gt o) tg pc ls (.int x :: st) = some ((if decide (0 < x) = true then tg else pc + 3), ls, st) from rfl)).trans (zv_ite decide_eq_true_iff _)
theorem zv_if_le {o : Int} {x : Int32} (hX : E.X y pc = none) (hT : E.T y pc = some (.ifCond .le o, tg)) : zval E Sc y (pc, ls, .int x :: st, w, ca, sl) = if x ≤ 0 then zval E Sc y (tg, ls, st, w, ca, sl) else zval E Sc y (pc + 3, ls, st, w, ca, sl) :=
  (zv_P hX hT (show zP (.ifCond .le o) tg pc ls (.int x :: st) = some ((if decide (x ≤ 0) = true then tg else pc + 3), ls, st) from rfl)).trans (zv_ite decide_eq_true_iff _)
theorem zv_icmp_eq {o : Int} {x z : Int32} (hX : E.X y pc = none) (hT : E.T y pc = some (.if_icmp .eq o, tg)) : zval E Sc y (pc, ls, .int z :: .int x :: st, w, ca, sl) = if x = z then zval E Sc y (tg, ls, st, w, ca, sl) else zval E Sc y (pc + 3, ls, st, w, ca, sl) :=
  (zv_P hX hT (show zP (.if_icmp .eq o) tg pc ls (.int z :: .int x :: st) = some ((if decide (x = z) = true then tg else pc + 3), ls, st) from rfl)).trans (zv_ite decide_eq_true_iff _)
theorem zv_icmp_ne {o : Int} {x z : Int32} (hX : E.X y pc = none) (hT : E.T y pc = some (.if_icmp .ne o, tg)) : zval E Sc y (pc, ls, .int z :: .int x :: st, w, ca, sl) = if ¬ x = z then zval E Sc y (tg, ls, st, w, ca, sl) else zval E Sc y (pc + 3, ls, st, w, ca, sl) :=
  (zv_P hX hT (show zP (.if_icmp .ne o) tg pc ls (.int z :: .int x :: st) = some ((if decide (¬ x = z) = true then tg else pc + 3), ls, st) from rfl)).trans (zv_ite decide_eq_true_iff _)
theorem zv_icmp_lt {o : Int} {x z : Int32} (hX : E.X y pc = none) (hT : E.T y pc = some (.if_icmp .lt o, tg)) : zval E Sc y (pc, ls, .int z :: .int x :: st, w, ca, sl) = if x < z then zval E Sc y (tg, ls, st, w, ca, sl) else zval E Sc y (pc + 3, ls, st, w, ca, sl) :=
  (zv_P hX hT (show zP (.if_icmp .lt o) tg pc ls (.int z :: .int x :: st) = some ((if decide (x < z) = true then tg else pc + 3), ls, st) from rfl)).trans (zv_ite decide_eq_true_iff _)
theorem zv_icmp_ge {o : Int} {x z : Int32} (hX : E.X y pc = none) (hT : E.T y pc = some (.if_icmp .ge o, tg)) : zval E Sc y (pc, ls, .int z :: .int x :: st, w, ca, sl) = if z ≤ x then zval E Sc y (tg, ls, st, w, ca, sl) else zval E Sc y (pc + 3, ls, st, w, ca, sl) :=
  (zv_P hX hT (show zP (.if_icmp .ge o) tg pc ls (.int z :: .int x :: st) = some ((if decide (z ≤ x) = true then tg else pc + 3), ls, st) from rfl)).trans (zv_ite decide_eq_true_iff _)
theorem zv_icmp_gt {o : Int} {x z : Int32} (hX : E.X y pc = none) (hT : E.T y pc = some (.if_icmp .gt o, tg)) : zval E Sc y (pc, ls, .int z :: .int x :: st, w, ca, sl) = if z < x then zval E Sc y (tg, ls, st, w, ca, sl) else zval E Sc y (pc + 3, ls, st, w, ca, sl) :=
  (zv_P hX hT (show zP (.if_icmp .gt o) tg pc ls (.int z :: .int x :: st) = some ((if decide (z < x) = true then tg else pc + 3), ls, st) from rfl)).trans (zv_ite decide_eq_true_iff _)
theorem zv_icmp_le {o : Int} {x z : Int32} (hX : E.X y pc = none) (hT : E.T y pc = some (.if_icmp .le o, tg)) : zval E Sc y (pc, ls, .int z :: .int x :: st, w, ca, sl) = if x ≤ z then zval E Sc y (tg, ls, st, w, ca, sl) else zval E Sc y (pc + 3, ls, st, w, ca, sl) :=
  (zv_P hX hT (show zP (.if_icmp .le o) tg pc ls (.int z :: .int x :: st) = some ((if decide (x ≤ z) = true then tg else pc + 3), ls, st) from rfl)).trans (zv_ite decide_eq_true_iff _)
theorem zAft_v {v : Value} {w' : zW} {mc ms : Nat} : zAft E Sc y pc ls st ca sl (some (.inl (some v), w', mc, ms)) = zval E Sc y (pc + 3, ls, v :: st, w', ca + mc, sl + ms) := rfl
theorem zAft_n {w' : zW} {mc ms : Nat} : zAft E Sc y pc ls st ca sl (some (.inl none, w', mc, ms)) = zval E Sc y (pc + 3, ls, st, w', ca + mc, sl + ms) := rfl
theorem zAft_x {x : Nat} {w' : zW} {mc ms : Nat} (h : E.H y = []) : zAft E Sc y pc ls st ca sl (some (.inr x, w', mc, ms)) = some (.inr x, w', ca + mc, sl + ms) := by
  unfold zAft
  dsimp only
  rw [h]
  rfl
theorem zAft_h {x h i : Nat} {w' : zW} {mc ms : Nat} (hf : zfind (E.H y) pc x = some (h, i)) : zAft E Sc y pc ls st ca sl (some (.inr x, w', mc, ms)) = zval E Sc y (h, zcut i ls, [], w', ca + mc, sl + ms) := by
  unfold zAft
  dsimp only
  rw [hf]
end zEw
/-! The same rows at numbers that are written as naturals. -/
theorem zi_nat {i n : Nat} (hi : i < n) (hn : Nat.ble n 100000 = true) : (Int32.ofNat i).toNatClampNeg = i := by
  have := Nat.le_of_ble_eq_true hn
  exact Int32.toNatClampNeg_ofNat_of_lt (by omega)
theorem zi_nn {i : Nat} (hi : i < 2147483648) : ¬ Int32.ofNat i < 0 := by
  intro h
  have := (Int32.ofNat_lt_iff_lt (a := i) (b := 0) (by omega) (by omega)).mp h
  omega
theorem zi_ok {i n : Nat} (hi : i < n) (hn : Nat.ble n 100000 = true) : ¬ (Int32.ofNat i < 0 ∨ n ≤ (Int32.ofNat i).toNatClampNeg) := by
  rw [zi_nat hi hn]
  have := Nat.le_of_ble_eq_true hn
  rintro (h | h)
  · exact zi_nn (by omega) h
  · omega
section zEx
variable {E : zEnv} {Sc : zSc} {y pc tg : Nat} {ls : zL} {st : List Value} {w : zW} {ca sl : Nat}
theorem zw_iald {a n i : Nat} {f : Nat → Int32} (hX : E.X y pc = none) (hT : E.T y pc = some (.iaload, tg)) (hw : w[a]? = some (.inl (0, n, .inl f))) (hi : i < n) (hn : Nat.ble n 100000 = true) :
    zval E Sc y (pc, ls, .int (Int32.ofNat i) :: .ref a :: st, w, ca, sl) = zval E Sc y (pc + 1, ls, .int (f i) :: st, w, ca, sl) := by rw [zv_iald hX hT hw (zi_ok hi hn), zi_nat hi hn]
theorem zw_sald {L : Nat} {f : Nat → Int32} {i : Nat} {b : Nat} (hX : E.X y pc = none) (hT : E.T y pc = some (.iaload, tg)) (hi : i < L) (hL : L ≤ 2560) :
    zval E (some (L, f)) y (pc, ls, .int (Int32.ofNat i) :: .retAddr b :: st, w, ca, sl) = zval E (some (L, f)) y (pc + 1, ls, .int (f i) :: st, w, ca, sl) := by
  have hn : (Int32.ofNat i).toNatClampNeg = i := Int32.toNatClampNeg_ofNat_of_lt (by omega)
  have h0 : ¬ (Int32.ofNat i < 0 ∨ L ≤ (Int32.ofNat i).toNatClampNeg) := by
    rw [hn]
    rintro (h | h)
    · exact zi_nn (by omega) h
    · omega
  rw [zv_sald hX hT h0, hn]
theorem zw_lald {a n i : Nat} {f : Nat → Int64} (hX : E.X y pc = none) (hT : E.T y pc = some (.laload, tg)) (hw : w[a]? = some (.inl (1, n, .inr (.inl f)))) (hi : i < n) (hn : Nat.ble n 100000 = true) :
    zval E Sc y (pc, ls, .int (Int32.ofNat i) :: .ref a :: st, w, ca, sl) = zval E Sc y (pc + 1, ls, .long (f i) :: st, w, ca, sl) := by rw [zv_lald hX hT hw (zi_ok hi hn), zi_nat hi hn]
theorem zw_zald {a n i : Nat} {f : Nat → Int32} (hX : E.X y pc = none) (hT : E.T y pc = some (.baload, tg)) (hw : w[a]? = some (.inl (2, n, .inl f))) (hi : i < n) (hn : Nat.ble n 100000 = true) :
    zval E Sc y (pc, ls, .int (Int32.ofNat i) :: .ref a :: st, w, ca, sl) = zval E Sc y (pc + 1, ls, .int (f i) :: st, w, ca, sl) := by rw [zv_zald hX hT hw (zi_ok hi hn), zi_nat hi hn]
theorem zw_iast {a n i : Nat} {f : Nat → Int32} {x : Int32} (hX : E.X y pc = none) (hT : E.T y pc = some (.iastore, tg)) (hw : w[a]? = some (.inl (0, n, .inl f))) (hi : i < n) (hn : Nat.ble n 100000 = true) :
    zval E Sc y (pc, ls, .int x :: .int (Int32.ofNat i) :: .ref a :: st, w, ca, sl) = zval E Sc y (pc + 1, ls, st, w.set a (.inl (0, n, .inl (upd f i x))), ca, sl) := by rw [zv_iast hX hT hw (zi_ok hi hn), zi_nat hi hn]
theorem zw_last {a n i : Nat} {f : Nat → Int64} {x : Int64} (hX : E.X y pc = none) (hT : E.T y pc = some (.lastore, tg)) (hw : w[a]? = some (.inl (1, n, .inr (.inl f)))) (hi : i < n) (hn : Nat.ble n 100000 = true) :
    zval E Sc y (pc, ls, .long x :: .int (Int32.ofNat i) :: .ref a :: st, w, ca, sl) = zval E Sc y (pc + 1, ls, st, w.set a (.inl (1, n, .inr (.inl (vp_updL f i x)))), ca, sl) := by rw [zv_last hX hT hw (zi_ok hi hn), zi_nat hi hn]
theorem zw_zast {a n i : Nat} {f : Nat → Int32} {x : Int32} (hX : E.X y pc = none) (hT : E.T y pc = some (.bastore, tg)) (hw : w[a]? = some (.inl (2, n, .inl f))) (hi : i < n) (hn : Nat.ble n 100000 = true) :
    zval E Sc y (pc, ls, .int x :: .int (Int32.ofNat i) :: .ref a :: st, w, ca, sl) = zval E Sc y (pc + 1, ls, st, w.set a (.inl (2, n, .inl (upd f i (vp_nar .boolean x)))), ca, sl) := by rw [zv_zast hX hT hw (zi_ok hi hn), zi_nat hi hn]
theorem zw_newI {n : Nat} (hX : E.X y pc = none) (hT : E.T y pc = some (.newarray .int, tg)) (hn : Nat.ble n 99999 = true) (h1 : zscL w.length ls = true) (h2 : zscS w.length st = true) (h3 : zscW w.length w = true) :
    zval E Sc y (pc, ls, .int (Int32.ofNat n) :: st, w, ca, sl) = zval E Sc y (pc + 2, ls, .ref w.length :: st, w ++ [.inl (0, n, .inl fun _ => 0)], ca + 1, sl + n) := by
  have := Nat.le_of_ble_eq_true hn
  rw [zv_newI hX hT (zi_ok (n := 100000) (by omega) rfl) h1 h2 h3, zi_nat (n := 100000) (by omega) rfl]
theorem zw_newL {n : Nat} (hX : E.X y pc = none) (hT : E.T y pc = some (.newarray .long, tg)) (hn : Nat.ble n 99999 = true) (h1 : zscL w.length ls = true) (h2 : zscS w.length st = true) (h3 : zscW w.length w = true) :
    zval E Sc y (pc, ls, .int (Int32.ofNat n) :: st, w, ca, sl) = zval E Sc y (pc + 2, ls, .ref w.length :: st, w ++ [.inl (1, n, .inr (.inl fun _ => 0))], ca + 1, sl + n) := by
  have := Nat.le_of_ble_eq_true hn
  rw [zv_newL hX hT (zi_ok (n := 100000) (by omega) rfl) h1 h2 h3, zi_nat (n := 100000) (by omega) rfl]
theorem zw_newZ {n : Nat} (hX : E.X y pc = none) (hT : E.T y pc = some (.newarray .boolean, tg)) (hn : Nat.ble n 99999 = true) (h1 : zscL w.length ls = true) (h2 : zscS w.length st = true) (h3 : zscW w.length w = true) :
    zval E Sc y (pc, ls, .int (Int32.ofNat n) :: st, w, ca, sl) = zval E Sc y (pc + 2, ls, .ref w.length :: st, w ++ [.inl (2, n, .inl fun _ => 0)], ca + 1, sl + n) := by
  have := Nat.le_of_ble_eq_true hn
  rw [zv_newZ hX hT (zi_ok (n := 100000) (by omega) rfl) h1 h2 h3, zi_nat (n := 100000) (by omega) rfl]
end zEx
/-! Numbers. -/
theorem iN_add (a b : Nat) : Int32.ofNat a + Int32.ofNat b = Int32.ofNat (a + b) := (Int32.ofNat_add a b).symm
theorem iN_mul (a b : Nat) : Int32.ofNat a * Int32.ofNat b = Int32.ofNat (a * b) := (Int32.ofNat_mul a b).symm
theorem iN_sub {a b : Nat} (h : b ≤ a) : Int32.ofNat a - Int32.ofNat b = Int32.ofNat (a - b) := (Int32.ofNat_sub a b h).symm
theorem iN_dec {a : Nat} (h : 1 ≤ a) : Int32.ofNat a + (-1) = Int32.ofNat (a - 1) := by
  rw [← iN_sub h, Int32.sub_eq_add_neg]
  rfl
theorem iN_lt {a b : Nat} (ha : a < 2147483648) (hb : b < 2147483648) : (Int32.ofNat a < Int32.ofNat b) = (a < b) := propext (Int32.ofNat_lt_iff_lt ha hb)
theorem iN_le {a b : Nat} (ha : a < 2147483648) (hb : b < 2147483648) : (Int32.ofNat a ≤ Int32.ofNat b) = (a ≤ b) := propext (Int32.ofNat_le_iff_le ha hb)
theorem iN_inj {a b : Nat} (ha : a < 2147483648) (hb : b < 2147483648) (h : Int32.ofNat a = Int32.ofNat b) : a = b := by
  rw [← Int32.toNatClampNeg_ofNat_of_lt (n := a) ha, h, Int32.toNatClampNeg_ofNat_of_lt hb]
theorem iN_eq {a b : Nat} (ha : a < 2147483648) (hb : b < 2147483648) : (Int32.ofNat a = Int32.ofNat b) = (a = b) := propext ⟨iN_inj ha hb, fun h => by rw [h]⟩
theorem iN_of {x : Int32} (h : Int32.ofNat 0 ≤ x) : ∃ n, n < 2147483648 ∧ x = Int32.ofNat n := by
  refine ⟨x.toNatClampNeg, ?_, (Int32.ofNat_toNatClampNeg x h).symm⟩
  have := x.toInt_lt
  have : x.toNatClampNeg = x.toInt.toNat := rfl
  omega
/-- a truth as an int -/
def bI (b : Bool) : Int32 := Int32.ofNat b.toNat
theorem bI_t : bI true = Int32.ofNat 1 := rfl
theorem bI_f : bI false = Int32.ofNat 0 := rfl
theorem bI_0 {b : Bool} : (bI b = Int32.ofNat 0) = (b = false) := by cases b <;> decide
theorem bI_1 {b : Bool} : (bI b = Int32.ofNat 1) = (b = true) := by cases b <;> decide
theorem bI_ok {b : Bool} : (bI b == 0 || bI b == 1) = true := by cases b <;> decide
theorem bI_eq {a b : Bool} : (bI a = bI b) = (a = b) := by cases a <;> cases b <;> decide
theorem bI_nar {b : Bool} : vp_nar .boolean (bI b) = bI b := by cases b <;> decide
theorem nar_1 : vp_nar .boolean (Int32.ofNat 1) = bI true := by decide
theorem nar_0 : vp_nar .boolean (Int32.ofNat 0) = bI false := by decide
theorem bI_ite {c : Prop} [Decidable c] : (if c then Int32.ofNat 1 else Int32.ofNat 0) = bI (decide c) := by by_cases h : c <;> simp [h, bI]
/-! Cells behind a change. -/
theorem zset_eq {w : zW} {a : Nat} {c d : va_E} (h : w[a]? = some d) : (w.set a c)[a]? = some c := by
  rw [List.getElem?_set_self]
  exact (List.getElem?_eq_some_iff.mp h).1
theorem zset_ne {w : zW} {a b : Nat} {c : va_E} {r : Option va_E} (h : w[b]? = r) (hn : ¬ a = b) : (w.set a c)[b]? = r := by
  rw [List.getElem?_set_ne hn]
  exact h
theorem zset_id {w : zW} {a : Nat} {c : va_E} (h : w[a]? = some c) : w.set a c = w := by
  apply List.ext_getElem?
  intro i
  by_cases e : a = i
  · subst e
    rw [zset_eq h, h]
  · rw [zset_ne rfl e]
theorem zset_len {w : zW} {a n : Nat} {c : va_E} (h : w.length = n) : (w.set a c).length = n := by rw [List.length_set]; exact h
