/-! New rows. -/
section zHv
variable {p : Program} {l : Launch} {e : Env} {R : Room} {s : State} {m : MethodId} {args : Array Value} {below : List Frame} {meth : Method} {c : Code} {H : Heap} {locs : List Loc} {Q : State → Prop}
variable {E : zEnv} {Cd : Nat → ByteArray} {Ow : Nat → String} {cl : List vw_C} {GW : List Cond} {D : va_G} {ct : Nat → ClassId} {A : Nat → Prop} {cc : ByteArray}
variable {own pc n : Nat} {ls : zL} {st : List Value} {w : zW} {ca sl nL b : Nat} {ad : Nat → Nat} {ls0 : Array Slot} {q' : zSt} {Sc : zSc}
set_option maxHeartbeats 100000 in
theorem znewaI_sound (hx : p.tables.exec = Jvm.exec) (hb : c.code = cc) (hG : zG GW s) (hW : Cond.arrayClass .int ∈ GW) (hK : va_K D cl (zty ct) s) (hA : ∀ q, s.heap.size ≤ q → A q)
    (hd : decode cc pc = .ok (.newarray .int, 2)) (hr : zRel D cl ct A s.heap nL ad b ls0 H locs ls w) (h : znewa pc ls w ca sl 0 (fun n => (n, .inl fun _ => 0)) st = some q') (hc : q'.2.2.2.2.1 ≤ R.cells) (hs : q'.2.2.2.2.2 ≤ R.slots) (k : zGo p l e R s m args below meth c Q D cl ct A nL ad b w q') :
    W p l e R s m args below meth c H locs ca sl Q (F0 m pc ls0 (st.map (xV ad b))) := by
  obtain ⟨j, st0, rfl, hj0, hj1, hsc, rfl⟩ := znewa_of h
  have hby : j.toNatClampNeg * componentBytes FieldType.int ≤ 536870912 := by
    rw [show componentBytes FieldType.int = 4 from rfl]
    omega
  refine va_newa (atype := .int) (ty := .int) (a0 := (j.toNatClampNeg, .inl fun _ => 0)) hx hb (hG _ hW args) rfl hK hr.2.1 hr.2.2.1 hr.2.2.2 hA (fun cA => by rw [vp_cell_i]; rfl) hj0 rfl hby hc hs hd (fun q cA H1 gK g1 g2 g3 => ?_)
  obtain rfl : cA = ct 0 := zct_eq hK gK rfl (fun C h9 => by cases h9)
  exact zpush_go hsc.1 hsc.2.1 hsc.2.2 hr.1 k g1 g2 g3
set_option maxHeartbeats 100000 in
theorem znewaL_sound (hx : p.tables.exec = Jvm.exec) (hb : c.code = cc) (hG : zG GW s) (hW : Cond.arrayClass .long ∈ GW) (hK : va_K D cl (zty ct) s) (hA : ∀ q, s.heap.size ≤ q → A q)
    (hd : decode cc pc = .ok (.newarray .long, 2)) (hr : zRel D cl ct A s.heap nL ad b ls0 H locs ls w) (h : znewa pc ls w ca sl 1 (fun n => (n, .inr (.inl fun _ => 0))) st = some q') (hc : q'.2.2.2.2.1 ≤ R.cells) (hs : q'.2.2.2.2.2 ≤ R.slots) (k : zGo p l e R s m args below meth c Q D cl ct A nL ad b w q') :
    W p l e R s m args below meth c H locs ca sl Q (F0 m pc ls0 (st.map (xV ad b))) := by
  obtain ⟨j, st0, rfl, hj0, hj1, hsc, rfl⟩ := znewa_of h
  have hby : j.toNatClampNeg * componentBytes FieldType.long ≤ 536870912 := by
    rw [show componentBytes FieldType.long = 8 from rfl]
    omega
  refine va_newa (atype := .long) (ty := .long) (a0 := (j.toNatClampNeg, .inr (.inl fun _ => 0))) hx hb (hG _ hW args) rfl hK hr.2.1 hr.2.2.1 hr.2.2.2 hA (fun cA => by rw [vp_cell_l]; rfl) hj0 rfl hby hc hs hd (fun q cA H1 gK g1 g2 g3 => ?_)
  obtain rfl : cA = ct 1 := zct_eq hK gK rfl (fun C h9 => by cases h9)
  exact zpush_go hsc.1 hsc.2.1 hsc.2.2 hr.1 k g1 g2 g3
set_option maxHeartbeats 100000 in
theorem znewaZ_sound (hx : p.tables.exec = Jvm.exec) (hb : c.code = cc) (hG : zG GW s) (hW : Cond.arrayClass .boolean ∈ GW) (hK : va_K D cl (zty ct) s) (hA : ∀ q, s.heap.size ≤ q → A q)
    (hd : decode cc pc = .ok (.newarray .boolean, 2)) (hr : zRel D cl ct A s.heap nL ad b ls0 H locs ls w) (h : znewa pc ls w ca sl 2 (fun n => (n, .inl fun _ => 0)) st = some q') (hc : q'.2.2.2.2.1 ≤ R.cells) (hs : q'.2.2.2.2.2 ≤ R.slots) (k : zGo p l e R s m args below meth c Q D cl ct A nL ad b w q') :
    W p l e R s m args below meth c H locs ca sl Q (F0 m pc ls0 (st.map (xV ad b))) := by
  obtain ⟨j, st0, rfl, hj0, hj1, hsc, rfl⟩ := znewa_of h
  have hby : j.toNatClampNeg * componentBytes FieldType.boolean ≤ 536870912 := by
    rw [show componentBytes FieldType.boolean = 1 from rfl]
    omega
  refine va_newa (atype := .boolean) (ty := .boolean) (a0 := (j.toNatClampNeg, .inl fun _ => 0)) hx hb (hG _ hW args) rfl hK hr.2.1 hr.2.2.1 hr.2.2.2 hA (fun cA => by rw [vp_cell_i]; rfl) hj0 rfl hby hc hs hd (fun q cA H1 gK g1 g2 g3 => ?_)
  obtain rfl : cA = ct 2 := zct_eq hK gK rfl (fun C h9 => by cases h9)
  exact zpush_go hsc.1 hsc.2.1 hsc.2.2 hr.1 k g1 g2 g3
end zHv
