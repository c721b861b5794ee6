/-! New rows; members of the library that are taken whole; constants. -/
section zHu
variable {p : Program} {l : Launch} {e : Env} {R : Room} {s : State} {m : MethodId} {args : Array Value} {below : List Frame} {meth : Method} {c : Code} {H : Heap} {locs : List Loc} {Q : State → Prop}
variable {E : zEnv} {Cd : Nat → ByteArray} {Ow : Nat → String} {cl : List vw_C} {GW : List Cond} {D : va_G} {ct : Nat → ClassId} {A : Nat → Prop} {cc : ByteArray}
variable {own pc n : Nat} {ls : zL} {st : List Value} {w : zW} {ca sl nL b : Nat} {ad : Nat → Nat} {ls0 : Array Slot} {q' : zSt} {Sc : zSc}
theorem zct_eq {cA : ClassId} {ty : FieldType} {j : Nat} (hK : va_K D cl (zty ct) s) (gK : va_K D cl (zty ct ++ [(cA, ty)]) s) (h1 : (zty ct)[j]? = some (ct j, ty)) (ho : ∀ C, ty ≠ .object C) : cA = ct j := by
  have q1 := (gK.2 3 (cA, ty) rfl).2
  have q2 := (hK.2 j (ct j, ty) h1).2
  cases ty with
  | object C => exact absurd rfl (ho C)
  | _ =>
    unfold va_RA at q1 q2
    exact Option.some.inj (q1.symm.trans q2)
theorem zwt_map {st : List Value} : ((st.map (xV ad b)).map fun v => v.category).sum = zwt st := by
  unfold zwt
  rw [List.map_map]
  congr 1
  exact List.map_congr_left (fun v _ => xV_cat ad b v)
theorem zwt_cons {v : Value} {st : List Value} : zwt (v :: st) = v.category + zwt st := by simp [zwt]
/-- Object's own making -/
theorem znat0_sound (hx : p.tables.exec = Jvm.exec) (hb : c.code = cc) (hml : c.maxLocals = nL) (hown : s.vm.findClass (Ow own) = some m.cls) (hG : zG GW s) (hw : ∀ x ∈ zNatW (Ow own) n 0, x ∈ GW) (hf : 1 ≤ R.frames) (hlo : zwt st + 40 ≤ R.locals)
    (hd : decode cc pc = .ok (.invokespecial n, 3)) (hr : zRel D cl ct A s.heap nL ad b ls0 H locs ls w) (h : znat pc ls w ca sl 0 st = some q') (k : zGo p l e R s m args below meth c Q D cl ct A nL ad b w q') :
    W p l e R s m args below meth c H locs ca sl Q (F0 m pc ls0 (st.map (xV ad b))) := by
  change znat0 pc ls w ca sl st = some q' at h
  unfold znat0 at h
  split at h
  · rename_i a st0
    cases h
    have hk := k ad ls0 H locs (fun _ _ => rfl) hr
    refine W.objInit hx hb hown (hG _ (hw _ (by simp [zNatW])) args) (hG _ (hw _ (by simp [zNatW])) args) (hG _ (hw _ (by simp [zNatW])) args) rfl (hr.1.2.1.trans hml.symm) rfl hd hf ?_ ?_
    · show 2 * 0 + ((st0.map (xV ad b)).map fun v => v.category).sum + 12 ≤ R.locals
      rw [zwt_map]
      rw [zwt_cons] at hlo
      omega
    · exact hk
  · cases h
theorem znat1_sound (hx : p.tables.exec = Jvm.exec) (hb : c.code = cc) (hml : c.maxLocals = nL) (hown : s.vm.findClass (Ow own) = some m.cls) (hG : zG GW s) {kk : Nat} (hw : ∀ x ∈ zNatW (Ow own) n kk, x ∈ GW) (hk0 : kk ≠ 0) (hf : 1 ≤ R.frames) (hlo : zwt st + 40 ≤ R.locals) (hK : va_K D cl (zty ct) s)
    (hd : decode cc pc = .ok (.invokestatic n, 3)) (hr : zRel D cl ct A s.heap nL ad b ls0 H locs ls w) (h : znat pc ls w ca sl kk st = some q') (hc : q'.2.2.2.2.1 ≤ R.cells) (hs : q'.2.2.2.2.2 ≤ R.slots) (k : zGo p l e R s m args below meth c Q D cl ct A nL ad b w q') :
    W p l e R s m args below meth c H locs ca sl Q (F0 m pc ls0 (st.map (xV ad b))) := by
  have hml' : c.maxLocals = ls0.size := hml.trans hr.1.2.1.symm
  match kk, hk0, hw, h with
  | 1, _, hw, h =>
    change znat1 pc ls w ca sl st = some q' at h
    unfold znat1 at h
    split at h
    · rename_i y x st0
      cases h
      have hk := k ad ls0 H locs (fun _ _ => rfl) hr
      rw [zwt_cons, zwt_cons] at hlo
      exact va_mmax hx hb hml' hown (hG _ (hw _ (by simp [zNatW])) args) (hG _ (hw _ (by simp [zNatW])) args) (hG _ (hw _ (by simp [zNatW])) args) (hG _ (hw _ (by simp [zNatW])) args) hf (by rw [zwt_map]; omega) hc hs hd hk
    · cases h
  | 2, _, hw, h =>
    change znat2 pc ls w ca sl st = some q' at h
    unfold znat2 at h
    split at h
    · rename_i y x st0
      cases h
      have hk := k ad ls0 H locs (fun _ _ => rfl) hr
      rw [zwt_cons, zwt_cons] at hlo
      exact va_mmin hx hb hml' hown (hG _ (hw _ (by simp [zNatW])) args) (hG _ (hw _ (by simp [zNatW])) args) (hG _ (hw _ (by simp [zNatW])) args) (hG _ (hw _ (by simp [zNatW])) args) hf (by rw [zwt_map]; omega) hc hs hd hk
    · cases h
  | 3, _, hw, h =>
    change znat3 pc ls w ca sl st = some q' at h
    unfold znat3 at h
    split at h
    · rename_i x st0
      cases h
      have hk := k ad ls0 H locs (fun _ _ => rfl) hr
      rw [zwt_cons] at hlo
      exact va_mabs hx hb hml' hown (hG _ (hw _ (by simp [zNatW])) args) (hG _ (hw _ (by simp [zNatW])) args) (hG _ (hw _ (by simp [zNatW])) args) (hG _ (hw _ (by simp [zNatW])) args) hf (by rw [zwt_map]; omega) hc hs hd hk
    · cases h
  | 4, _, hw, h =>
    change znat4 pc ls w ca sl st = some q' at h
    unfold znat4 at h
    split at h
    · split at h
      · rename_i h1 h2
        split at h
        · rename_i hz
          obtain ⟨z1, z2, z3, z4, z5⟩ := hz
          cases h
          rw [zwt_cons, zwt_cons, zwt_cons, zwt_cons, zwt_cons] at hlo
          exact va_copyi (ty := .int) hx hb hml' hown (hG _ (hw _ (by simp [zNatW])) args) (hG _ (hw _ (by simp [zNatW])) args) (hG _ (hw _ (by simp [zNatW])) args) (hG _ (hw _ (by simp [zNatW])) args) hK hr.2.1 hr.2.2.1 hr.2.2.2 _ _ 0 0 (xW_at h1) (xW_at h2) rfl rfl rfl z1 z2 z3 z4 z5 (fun _ _ => rfl) hf
            (by rw [zwt_map]; have : nativeFrameWords "java/lang/System" "arraycopy" 5 ≤ 20 := by decide
                omega) hd (zset_go hr.1 k)
        · cases h
      · cases h
    · cases h
  | k9 + 5, _, _, h => cases h
end zHu
