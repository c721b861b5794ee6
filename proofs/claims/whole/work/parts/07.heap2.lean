/-! Rows, makings, members of the library. -/
section zHt
variable {p : Program} {l : Launch} {e : Env} {R : Room} {s : State} {m : MethodId} {args : Array Value} {below : List Frame} {meth : Method} {c : Code} {H : Heap} {locs : List Loc} {Q : State → Prop}
variable {E : zEnv} {Cd : Nat → ByteArray} {Ow : Nat → String} {cl : List vw_C} {GW : List Cond} {D : va_G} {ct : Nat → ClassId} {A : Nat → Prop} {cc : ByteArray}
variable {own pc n : Nat} {ls : zL} {st : List Value} {w : zW} {ca sl nL b : Nat} {ad : Nat → Nat} {ls0 : Array Slot} {q' : zSt} {Sc : zSc}
theorem zaldI_sound (hx : p.tables.exec = Jvm.exec) (hb : c.code = cc) (hK : va_K D cl (zty ct) s) (hSs : zSs Sc b A s)
    (hd : decode cc pc = .ok (.iaload, 1)) (hr : zRel D cl ct A s.heap nL ad b ls0 H locs ls w) (h : zaldI pc ls w ca sl Sc st = some q') (k : zGo p l e R s m args below meth c Q D cl ct A nL ad b w q') :
    W p l e R s m args below meth c H locs ca sl Q (F0 m pc ls0 (st.map (xV ad b))) := by
  unfold zaldI at h
  split at h
  · split at h
    · rename_i hw
      split at h
      · cases h
      · rename_i hin
        cases h
        exact va_iald hx hb hK hr.2.1 _ 0 (xW_at hw) rfl hin hd (k ad ls0 H locs (fun _ _ => rfl) hr)
    · cases h
  · split at h
    · split at h
      · cases h
      · rename_i hin
        cases h
        exact va_sld hx hb hSs.1 hSs.2.1 hSs.2.2 hr.2.2.2 hin hd (k ad ls0 H locs (fun _ _ => rfl) hr)
    · cases h
  · cases h
theorem zaldL_sound (hx : p.tables.exec = Jvm.exec) (hb : c.code = cc) (hK : va_K D cl (zty ct) s)
    (hd : decode cc pc = .ok (.laload, 1)) (hr : zRel D cl ct A s.heap nL ad b ls0 H locs ls w) (h : zaldL pc ls w ca sl st = some q') (k : zGo p l e R s m args below meth c Q D cl ct A nL ad b w q') :
    W p l e R s m args below meth c H locs ca sl Q (F0 m pc ls0 (st.map (xV ad b))) := by
  unfold zaldL at h
  split at h
  · split at h
    · rename_i hw
      split at h
      · cases h
      · rename_i hin
        cases h
        exact va_lald hx hb hK hr.2.1 _ 1 (xW_at hw) rfl hin hd (k ad ls0 H locs (fun _ _ => rfl) hr)
    · cases h
  · cases h
theorem zaldZ_sound (hx : p.tables.exec = Jvm.exec) (hb : c.code = cc) (hK : va_K D cl (zty ct) s)
    (hd : decode cc pc = .ok (.baload, 1)) (hr : zRel D cl ct A s.heap nL ad b ls0 H locs ls w) (h : zaldZ pc ls w ca sl st = some q') (k : zGo p l e R s m args below meth c Q D cl ct A nL ad b w q') :
    W p l e R s m args below meth c H locs ca sl Q (F0 m pc ls0 (st.map (xV ad b))) := by
  unfold zaldZ at h
  split at h
  · split at h
    · rename_i hw
      split at h
      · cases h
      · rename_i hin
        cases h
        exact va_zald hx hb hK hr.2.1 _ 2 (xW_at hw) rfl hin hd (k ad ls0 H locs (fun _ _ => rfl) hr)
    · cases h
  · cases h
theorem zset_go {a : Nat} {e9 : va_E} {st0 : List Value} {pc' : Nat} (hl : xL ad b nL ls0 ls) (k : zGo p l e R s m args below meth c Q D cl ct A nL ad b w (pc', ls, st0, w.set a e9, ca, sl)) :
    ∀ (H1 : Heap) (locs1 : List Loc), va_P D cl ((xW ad b ct w).set a (ad a, xE ad b ct e9)) H1 → va_D A ((xW ad b ct w).set a (ad a, xE ad b ct e9)) → va_S A s.heap H1 locs1 → W p l e R s m args below meth c H1 locs1 ca sl Q (F0 m pc' ls0 (st0.map (xV ad b))) := by
  intro H1 locs1 g1 g2 g3
  rw [xW_set] at g1 g2
  exact k ad ls0 H1 locs1 (fun _ _ => rfl) ⟨hl, g1, g2, g3⟩
theorem zastI_sound (hx : p.tables.exec = Jvm.exec) (hb : c.code = cc) (hK : va_K D cl (zty ct) s)
    (hd : decode cc pc = .ok (.iastore, 1)) (hr : zRel D cl ct A s.heap nL ad b ls0 H locs ls w) (h : zastI pc ls w ca sl st = some q') (k : zGo p l e R s m args below meth c Q D cl ct A nL ad b w q') :
    W p l e R s m args below meth c H locs ca sl Q (F0 m pc ls0 (st.map (xV ad b))) := by
  unfold zastI at h
  split at h
  · split at h
    · rename_i hw
      split at h
      · cases h
      · rename_i hin
        cases h
        exact va_iast hx hb hK hr.2.1 hr.2.2.1 hr.2.2.2 _ 0 (xW_at hw) rfl hin hd (zset_go hr.1 k)
    · cases h
  · cases h
theorem zastL_sound (hx : p.tables.exec = Jvm.exec) (hb : c.code = cc) (hK : va_K D cl (zty ct) s)
    (hd : decode cc pc = .ok (.lastore, 1)) (hr : zRel D cl ct A s.heap nL ad b ls0 H locs ls w) (h : zastL pc ls w ca sl st = some q') (k : zGo p l e R s m args below meth c Q D cl ct A nL ad b w q') :
    W p l e R s m args below meth c H locs ca sl Q (F0 m pc ls0 (st.map (xV ad b))) := by
  unfold zastL at h
  split at h
  · split at h
    · rename_i hw
      split at h
      · cases h
      · rename_i hin
        cases h
        exact va_last hx hb hK hr.2.1 hr.2.2.1 hr.2.2.2 _ 1 (xW_at hw) rfl hin hd (zset_go hr.1 k)
    · cases h
  · cases h
theorem zastZ_sound (hx : p.tables.exec = Jvm.exec) (hb : c.code = cc) (hK : va_K D cl (zty ct) s)
    (hd : decode cc pc = .ok (.bastore, 1)) (hr : zRel D cl ct A s.heap nL ad b ls0 H locs ls w) (h : zastZ pc ls w ca sl st = some q') (k : zGo p l e R s m args below meth c Q D cl ct A nL ad b w q') :
    W p l e R s m args below meth c H locs ca sl Q (F0 m pc ls0 (st.map (xV ad b))) := by
  unfold zastZ at h
  split at h
  · split at h
    · rename_i hw
      split at h
      · cases h
      · rename_i hin
        cases h
        exact va_zast hx hb hK hr.2.1 hr.2.2.1 hr.2.2.2 _ 2 (xW_at hw) rfl hin hd (zset_go hr.1 k)
    · cases h
  · cases h
theorem zalen_sound (hx : p.tables.exec = Jvm.exec) (hb : c.code = cc) (hK : va_K D cl (zty ct) s) (hSs : zSs Sc b A s)
    (hd : decode cc pc = .ok (.arraylength, 1)) (hr : zRel D cl ct A s.heap nL ad b ls0 H locs ls w) (h : zalen pc ls w ca sl Sc st = some q') (k : zGo p l e R s m args below meth c Q D cl ct A nL ad b w q') :
    W p l e R s m args below meth c H locs ca sl Q (F0 m pc ls0 (st.map (xV ad b))) := by
  unfold zalen at h
  split at h
  · split at h
    · rename_i t x hw
      split at h
      · rename_i ht
        cases h
        have hk := k ad ls0 H locs (fun _ _ => rfl) hr
        match t, ht, hw with
        | 0, _, hw => exact va_alen hx hb hK hr.2.1 _ 0 (xW_at hw) rfl rfl hd hk
        | 1, _, hw => exact va_alen hx hb hK hr.2.1 _ 1 (xW_at hw) rfl rfl hd hk
        | 2, _, hw => exact va_alen hx hb hK hr.2.1 _ 2 (xW_at hw) rfl rfl hd hk
      · cases h
    · cases h
  · split at h
    · cases h
      exact va_slen hx hb hSs.1 hSs.2.1 hSs.2.2 hr.2.2.2 hd (k ad ls0 H locs (fun _ _ => rfl) hr)
    · cases h
  · cases h
/-- behind a making -/
theorem zpush_go {q : Nat} {e9 : va_E} {st0 : List Value} {H1 : Heap} {locs1 : List Loc} {pc' ca' sl' : Nat} (h1 : zscL w.length ls = true) (h2 : zscS w.length st0 = true) (h3 : zscW w.length w = true) (hl : xL ad b nL ls0 ls)
    (k : zGo p l e R s m args below meth c Q D cl ct A nL ad b w (pc', ls, .ref w.length :: st0, w ++ [e9], ca', sl'))
    (g1 : va_P D cl (xW ad b ct w ++ [(q, xE (va_up ad w.length q) b ct e9)]) H1) (g2 : va_D A (xW ad b ct w ++ [(q, xE (va_up ad w.length q) b ct e9)])) (g3 : va_S A s.heap H1 locs1) :
    W p l e R s m args below meth c H1 locs1 ca' sl' Q (F0 m pc' ls0 (.ref q :: st0.map (xV ad b))) := by
  have hs : ∀ j, j < w.length → va_up ad w.length q j = ad j := fun j hj => va_up_ne _ _ (Nat.ne_of_lt hj)
  rw [xW_push h3] at g1 g2
  have hk := k (va_up ad w.length q) ls0 H1 locs1 hs ⟨xL_same hs h1 hl, g1, g2, g3⟩
  have e1 : ((.ref w.length :: st0 : List Value)).map (xV (va_up ad w.length q) b) = .ref q :: st0.map (xV ad b) := by
    rw [List.map_cons, xS_same hs h2]
    show Value.ref (va_up ad w.length q w.length) :: _ = _
    rw [va_up_self]
  rw [e1] at hk
  exact hk
theorem znew_sound (hx : p.tables.exec = Jvm.exec) (hb : c.code = cc) (hown : s.vm.findClass (Ow own) = some m.cls) (hG : zG GW s) (hK : va_K D cl (zty ct) s) (okn : okNew E Ow cl GW) (okc : okC E Ow cl GW) (hA : ∀ q, s.heap.size ≤ q → A q)
    (hd : decode cc pc = .ok (.new n, 3)) (hr : zRel D cl ct A s.heap nL ad b ls0 H locs ls w) (h : znew E own pc ls w ca sl n st = some q') (hc : q'.2.2.2.2.1 ≤ R.cells) (hs : q'.2.2.2.2.2 ≤ R.slots) (k : zGo p l e R s m args below meth c Q D cl ct A nL ad b w q') :
    W p l e R s m args below meth c H locs ca sl Q (F0 m pc ls0 (st.map (xV ad b))) := by
  unfold znew at h
  split at h
  · rename_i ci hC
    split at h
    · rename_i hsc
      cases h
      obtain ⟨C, T, N, hcl, hlk⟩ := okn _ _ _ hC
      obtain ⟨hws, -, -, ⟨ty, hty, -, hdef⟩, -, hlen, -, h0, hin, hini⟩ := okc _ _ _ _ hcl
      have e0 : ∀ q, xE (va_up ad w.length q) b ct (.inr (ci, (E.K ci).1)) = .inr (ci, (E.K ci).1) := by
        intro q
        show Sum.inr (ci, (E.K ci).1.map (xV _ b)) = _
        rw [show (E.K ci).1.map (xV (va_up ad w.length q) b) = (E.K ci).1 from by
          conv => rhs; rw [← List.map_id (E.K ci).1]
          exact List.map_congr_left (fun v hv => zref0 (h0 v hv))]
      rw [hlen] at hs k
      exact va_new (ci := ci) (fs := (E.K ci).1) (C := C) (T := T) (N := N) hx hb (fun w9 h9 => hG w9 (hws w9 h9) args) (fun w9 h9 => h9) ty hty hown (hG _ hlk args) (hG _ hin args) (hG _ hini args) hK hr.2.1 hr.2.2.1 hr.2.2.2 hA hcl hdef hc hs hd
        (fun q H1 g1 g2 g3 => zpush_go hsc.1 hsc.2.1 hsc.2.2 hr.1 k (by rw [e0]; exact g1) (by rw [e0]; exact g2) g3)
    · cases h
  · cases h
theorem znewa_of {t : Nat} {z : Nat → vp_A} (h : znewa pc ls w ca sl t z st = some q') : ∃ j st0, st = .int j :: st0 ∧ ¬ j < 0 ∧ j.toNatClampNeg < 100000 ∧ (zscL w.length ls = true ∧ zscS w.length st0 = true ∧ zscW w.length w = true) ∧
    q' = (pc + 2, ls, .ref w.length :: st0, w ++ [.inl (t, z j.toNatClampNeg)], ca + 1, sl + j.toNatClampNeg) := by
  unfold znewa at h
  split at h
  · split at h
    · cases h
    · rename_i hz
      split at h
      · rename_i hsc
        exact ⟨_, _, rfl, fun q => hz (Or.inl q), by omega, hsc, (Option.some.inj h).symm⟩
      · cases h
  · cases h
end zHt
