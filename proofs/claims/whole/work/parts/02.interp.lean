/-! An interpreter over an abstract world: cells at places 0, 1, ..; a reference is a place. Its steps are shown true of the machine once and for all (parts 03 to 07); methods are then read as functions. -/
abbrev zW : Type := List va_E
abbrev zL : Type := List (Option Value)
/-- where a method stands: pc, what is known of its slots, stack, world, cells made, slots made -/
abbrev zSt : Type := Nat × zL × List Value × zW × Nat × Nat
/-- how it ends: a value (or none) or a thrown thing of a kind; the world; cells made, slots made -/
abbrev zO : Type := (Option Value ⊕ Nat) × zW × Nat × Nat
/-- a method: slots, owner, values it takes (its object too), what it returns, its kind (0 without an object, 1 with one, 2 it makes one), frames and words that it may need -/
abbrev zD : Type := Nat × Nat × Nat × Option FieldType × Nat × Nat × Nat
/-- the program as tables:
 instructions (with a jump's aim), fields, methods, own library members, makings, throwings, handlers, methods' data, kinds of objects, long constants, int constants -/
abbrev zEnv : Type := (Nat → Nat → Option (Instr × Nat)) × (Nat → Nat → Option (Nat × Nat)) × (Nat → Nat → Option Nat) × (Nat → Nat → Option Nat) × (Nat → Nat → Option Nat) × (Nat → Nat → Option Nat) × (Nat → List (Nat × Nat × Nat × Nat × Nat)) × (Nat → zD) × (Nat → List Value × List FieldType × List Bool) × (Nat → Nat → Option Int64) × (Nat → Nat → Option Int32)
abbrev zEnv.T (E : zEnv) : Nat → Nat → Option (Instr × Nat) := E.1
abbrev zEnv.F (E : zEnv) : Nat → Nat → Option (Nat × Nat) := E.2.1
abbrev zEnv.M (E : zEnv) : Nat → Nat → Option Nat := E.2.2.1
abbrev zEnv.N (E : zEnv) : Nat → Nat → Option Nat := E.2.2.2.1
abbrev zEnv.C (E : zEnv) : Nat → Nat → Option Nat := E.2.2.2.2.1
abbrev zEnv.X (E : zEnv) : Nat → Nat → Option Nat := E.2.2.2.2.2.1
abbrev zEnv.H (E : zEnv) : Nat → List (Nat × Nat × Nat × Nat × Nat) := E.2.2.2.2.2.2.1
abbrev zEnv.D (E : zEnv) : Nat → zD := E.2.2.2.2.2.2.2.1
abbrev zEnv.K (E : zEnv) : Nat → List Value × List FieldType × List Bool := E.2.2.2.2.2.2.2.2.1
abbrev zEnv.J (E : zEnv) : Nat → Nat → Option Int64 := E.2.2.2.2.2.2.2.2.2.1
abbrev zEnv.I (E : zEnv) : Nat → Nat → Option Int32 := E.2.2.2.2.2.2.2.2.2.2
abbrev zMax (d : zD) : Nat := d.1
abbrev zOwn (d : zD) : Nat := d.2.1
abbrev zAr (d : zD) : Nat := d.2.2.1
abbrev zRet (d : zD) : Option FieldType := d.2.2.2.1
abbrev zKd (d : zD) : Nat := d.2.2.2.2.1
abbrev zFr (d : zD) : Nat := d.2.2.2.2.2.1
abbrev zLo (d : zD) : Nat := d.2.2.2.2.2.2
-- instructions that look at no cell
abbrev zP3 : Type := Option (Nat × zL × List Value)
def zi1 (f : Int32 → Value) (pc : Nat) (ls : zL) : List Value → zP3
  | .int x :: st => some (pc + 1, ls, f x :: st)
  | _ => none
def zl1 (f : Int64 → Value) (pc : Nat) (ls : zL) : List Value → zP3
  | .long x :: st => some (pc + 1, ls, f x :: st)
  | _ => none
def zi2 (f : Int32 → Int32 → Int32) (pc : Nat) (ls : zL) : List Value → zP3
  | .int y :: .int x :: st => some (pc + 1, ls, .int (f x y) :: st)
  | _ => none
def zl2 (f : Int64 → Int64 → Value) (pc : Nat) (ls : zL) : List Value → zP3
  | .long y :: .long x :: st => some (pc + 1, ls, f x y :: st)
  | _ => none
def zls (f : Int64 → Int32 → Int64) (pc : Nat) (ls : zL) : List Value → zP3
  | .int y :: .long x :: st => some (pc + 1, ls, .long (f x y) :: st)
  | _ => none
def zb1 (c : Int32 → Bool) (tg pc : Nat) (ls : zL) : List Value → zP3
  | .int x :: st => some (if c x = true then tg else pc + 3, ls, st)
  | _ => none
def zb2 (c : Int32 → Int32 → Bool) (tg pc : Nat) (ls : zL) : List Value → zP3
  | .int y :: .int x :: st => some (if c x y = true then tg else pc + 3, ls, st)
  | _ => none
def zldI (i n pc : Nat) (ls : zL) (st : List Value) : zP3 := match ls[i]? with
  | some (some (.int x)) => some (pc + n, ls, .int x :: st)
  | _ => none
def zldL (i n pc : Nat) (ls : zL) (st : List Value) : zP3 := match ls[i]? with
  | some (some (.long x)) => some (pc + n, ls, .long x :: st)
  | _ => none
def zldA (i n pc : Nat) (ls : zL) (st : List Value) : zP3 := match ls[i]? with
  | some (some (.ref x)) => some (pc + n, ls, .ref x :: st)
  | some (some (.retAddr x)) => some (pc + n, ls, .retAddr x :: st)
  | _ => none
/-- a long whose second half is written over is lost -/
def zclr (i : Nat) (ls : zL) : zL := match i with
  | 0 => ls
  | j + 1 => match ls[j]? with
    | some (some v) => if v.category = 2 then ls.set j none else ls
    | _ => ls
def zput1 (i : Nat) (v : Value) (ls : zL) : zL := (zclr i ls).set i (some v)
def zput2 (i : Nat) (v : Value) (ls : zL) : zL := ((zclr i ls).set i (some v)).set (i + 1) none
def zstI (i n pc : Nat) (ls : zL) : List Value → zP3
  | .int x :: st => if i < ls.length then some (pc + n, zput1 i (.int x) ls, st) else none
  | _ => none
def zstA (i n pc : Nat) (ls : zL) : List Value → zP3
  | .ref x :: st => if i < ls.length then some (pc + n, zput1 i (.ref x) ls, st) else none
  | _ => none
def zstL (i n pc : Nat) (ls : zL) : List Value → zP3
  | .long x :: st => if i + 1 < ls.length then some (pc + n, zput2 i (.long x) ls, st) else none
  | _ => none
def zinc (i : Nat) (k : Int) (pc : Nat) (ls : zL) (st : List Value) : zP3 := match ls[i]? with
  | some (some (.int x)) => some (pc + 3, zput1 i (.int (x + Int32.ofInt k)) ls, st)
  | _ => none
def zdup (pc : Nat) (ls : zL) : List Value → zP3
  | v :: st => if v.category = 1 then some (pc + 1, ls, v :: v :: st) else none
  | _ => none
def zdup2 (pc : Nat) (ls : zL) : List Value → zP3
  | v :: u :: st => if v.category = 1 ∧ u.category = 1 then some (pc + 1, ls, v :: u :: v :: u :: st) else none
  | _ => none
def zdupx1 (pc : Nat) (ls : zL) : List Value → zP3
  | v :: u :: st => if v.category = 1 ∧ u.category = 1 then some (pc + 1, ls, v :: u :: v :: st) else none
  | _ => none
def zdupx2 (pc : Nat) (ls : zL) : List Value → zP3
  | v :: u :: t :: st => if v.category = 1 ∧ u.category = 1 ∧ t.category = 1 then some (pc + 1, ls, v :: u :: t :: v :: st) else none
  | _ => none
def zpop (pc : Nat) (ls : zL) : List Value → zP3
  | v :: st => if v.category = 1 then some (pc + 1, ls, st) else none
  | _ => none
def zpop2 (pc : Nat) (ls : zL) : List Value → zP3
  | v :: st => if v.category = 2 then some (pc + 1, ls, st) else none
  | _ => none
def zsw (dflt lo hi : Int) (offs : Array Int) (pc : Nat) (ls : zL) : List Value → zP3
  | .int x :: st => if x.toInt < lo ∨ hi < x.toInt then (if 0 ≤ (pc : Int) + dflt then some (((pc : Int) + dflt).toNat, ls, st) else none)
    else match offs[(x.toInt - lo).toNat]? with
      | some off => if 0 ≤ (pc : Int) + off then some (((pc : Int) + off).toNat, ls, st) else none
      | none => none
  | _ => none
def zdiv (f : Int32 → Int32 → Int32) (pc : Nat) (ls : zL) : List Value → zP3
  | .int y :: .int x :: st => if y = 0 then none else some (pc + 1, ls, .int (f x y) :: st)
  | _ => none
def zP (i : Instr) (tg pc : Nat) (ls : zL) (st : List Value) : zP3 := match i with
  | .iconst n => some (pc + 1, ls, .int (Int32.ofInt n) :: st)
  | .bipush n => some (pc + 2, ls, .int (Int8.ofInt n).toInt32 :: st)
  | .sipush n => some (pc + 3, ls, .int (Int16.ofInt n).toInt32 :: st)
  | .lconst n => some (pc + 1, ls, .long (Int64.ofNat (n : Nat)) :: st)
  | .iload_n k => zldI k 1 pc ls st
  | .iload k => zldI k 2 pc ls st
  | .lload_n k => zldL k 1 pc ls st
  | .lload k => zldL k 2 pc ls st
  | .aload_n k => zldA k 1 pc ls st
  | .aload k => zldA k 2 pc ls st
  | .istore_n k => zstI k 1 pc ls st
  | .istore k => zstI k 2 pc ls st
  | .lstore_n k => zstL k 1 pc ls st
  | .lstore k => zstL k 2 pc ls st
  | .astore_n k => zstA k 1 pc ls st
  | .astore k => zstA k 2 pc ls st
  | .iinc k n => zinc k n pc ls st
  | .iadd => zi2 (fun x y => x + y) pc ls st
  | .isub => zi2 (fun x y => x - y) pc ls st
  | .imul => zi2 (fun x y => x * y) pc ls st
  | .iand => zi2 (fun x y => x &&& y) pc ls st
  | .ior => zi2 (fun x y => x ||| y) pc ls st
  | .ixor => zi2 (fun x y => x ^^^ y) pc ls st
  | .ishl => zi2 (fun x y => x <<< (y &&& 31)) pc ls st
  | .ishr => zi2 (fun x y => x >>> (y &&& 31)) pc ls st
  | .idiv => zdiv (fun x y => x / y) pc ls st
  | .irem => zdiv (fun x y => x - x / y * y) pc ls st
  | .ladd => zl2 (fun x y => .long (x + y)) pc ls st
  | .lsub => zl2 (fun x y => .long (x - y)) pc ls st
  | .lmul => zl2 (fun x y => .long (x * y)) pc ls st
  | .land => zl2 (fun x y => .long (x &&& y)) pc ls st
  | .lor => zl2 (fun x y => .long (x ||| y)) pc ls st
  | .lxor => zl2 (fun x y => .long (x ^^^ y)) pc ls st
  | .lcmp => zl2 (fun x y => .int (lg_cmp x y)) pc ls st
  | .lshl => zls (fun x y => x <<< (y.toInt64 &&& 63)) pc ls st
  | .lshr => zls (fun x y => x >>> (y.toInt64 &&& 63)) pc ls st
  | .lushr => zls (fun x y => (x.toUInt64 >>> (y.toInt64.toUInt64 &&& Int64.toUInt64 63)).toInt64) pc ls st
  | .i2l => zi1 (fun x => .long x.toInt64) pc ls st
  | .l2i => zl1 (fun x => .int x.toInt32) pc ls st
  | .ifCond .eq _ => zb1 (fun x => decide (x = 0)) tg pc ls st
  | .ifCond .ne _ => zb1 (fun x => decide (¬ x = 0)) tg pc ls st
  | .ifCond .lt _ => zb1 (fun x => decide (x < 0)) tg pc ls st
  | .ifCond .ge _ => zb1 (fun x => decide (0 ≤ x)) tg pc ls st
  | .ifCond .gt _ => zb1 (fun x => decide (0 < x)) tg pc ls st
  | .ifCond .le _ => zb1 (fun x => decide (x ≤ 0)) tg pc ls st
  | .if_icmp .eq _ => zb2 (fun x y => decide (x = y)) tg pc ls st
  | .if_icmp .ne _ => zb2 (fun x y => decide (¬ x = y)) tg pc ls st
  | .if_icmp .lt _ => zb2 (fun x y => decide (x < y)) tg pc ls st
  | .if_icmp .ge _ => zb2 (fun x y => decide (y ≤ x)) tg pc ls st
  | .if_icmp .gt _ => zb2 (fun x y => decide (y < x)) tg pc ls st
  | .if_icmp .le _ => zb2 (fun x y => decide (x ≤ y)) tg pc ls st
  | .goto _ => some (tg, ls, st)
  | .dup => zdup pc ls st
  | .dup2 => zdup2 pc ls st
  | .dup_x1 => zdupx1 pc ls st
  | .dup_x2 => zdupx2 pc ls st
  | .pop => zpop pc ls st
  | .pop2 => zpop2 pc ls st
  | .tableswitch d lo hi offs => zsw d lo hi offs pc ls st
  | _ => none
/-- how many bytes an instruction of ours has; none: a switch, as many as it has -/
def zlen : Instr → Option Nat
  | .tableswitch .. => none
  | .bipush _ | .iload _ | .lload _ | .aload _ | .istore _ | .lstore _ | .astore _ | .ldc _ | .newarray _ => some 2
  | .sipush _ | .iinc .. | .ifCond .. | .if_icmp .. | .goto _ | .getfield _ | .putfield _ | .new _ | .ldc2_w _ | .invokevirtual _ | .invokespecial _ | .invokestatic _ => some 3
  | _ => some 1
/-- a jump's way -/
def zoff : Instr → Option Int
  | .ifCond _ o => some o
  | .if_icmp _ o => some o
  | .goto o => some o
  | _ => none
-- cells
def zref (n : Nat) : Value → Bool
  | .ref a => decide (a < n)
  | _ => true
/-- no address at all -/
def zrf : Value → Bool
  | .ref _ => false
  | .retAddr _ => false
  | _ => true
/-- known slots and stack name cells that are there -/
def zscL (n : Nat) (ls : zL) : Bool := ls.all fun o => match o with
  | some v => zref n v
  | none => true
def zscS (n : Nat) (st : List Value) : Bool := st.all (zref n)
def zscW (n : Nat) (w : zW) : Bool := w.all fun e => match e with
  | .inl _ => true
  | .inr o => o.2.all (zref n)
def zfit : FieldType → Value → Bool
  | .int, .int _ => true
  | .long, .long _ => true
  | .boolean, .int x => x == 0 || x == 1
  | .object _, .ref _ => true
  | .array _, .ref _ => true
  | _, _ => false
def zfitR : Option FieldType → Option Value → Bool
  | none, none => true
  | some t, some v => zfit t v
  | _, _ => false
abbrev zQ : Type := Option zSt
/-- the script that the law reads, where it is the law -/
abbrev zSc : Type := Option (Nat × (Nat → Int32))
section zHeap
variable (E : zEnv) (own pc : Nat) (ls : zL) (w : zW) (ca sl : Nat)
def zget (n : Nat) : List Value → zQ
  | .ref a :: st => match E.F own n with
    | some (ci, k) => match w[a]? with
      | some (.inr (cj, fs)) => if cj = ci then (match fs[k]? with
        | some v => some (pc + 3, ls, v :: st, w, ca, sl)
        | none => none) else none
      | _ => none
    | none => none
  | _ => none
def zputf (mk : Bool) (n : Nat) : List Value → zQ
  | v :: .ref a :: st => match E.F own n with
    | some (ci, k) => match w[a]? with
      | some (.inr (cj, fs)) => if cj = ci ∧ k < fs.length ∧ zfit ((E.K ci).2.1.getD k .byte) v = true ∧ ((E.K ci).2.2.getD k true = true → mk = true ∧ own = ci) then some (pc + 3, ls, st, w.set a (.inr (cj, fs.set k v)), ca, sl) else none
      | _ => none
    | none => none
  | _ => none
/-- kinds of rows: 0 int, 1 long, 2 boolean -/
def zaldI (Sc : zSc) : List Value → zQ
  | .int i :: .ref a :: st => match w[a]? with
    | some (.inl (0, n, .inl f)) => if i < 0 ∨ n ≤ i.toNatClampNeg then none else some (pc + 1, ls, .int (f i.toNatClampNeg) :: st, w, ca, sl)
    | _ => none
  | .int i :: .retAddr _ :: st => match Sc with
    | some (n, f) => if i < 0 ∨ n ≤ i.toNatClampNeg then none else some (pc + 1, ls, .int (f i.toNatClampNeg) :: st, w, ca, sl)
    | none => none
  | _ => none
def zaldL : List Value → zQ
  | .int i :: .ref a :: st => match w[a]? with
    | some (.inl (1, n, .inr (.inl f))) => if i < 0 ∨ n ≤ i.toNatClampNeg then none else some (pc + 1, ls, .long (f i.toNatClampNeg) :: st, w, ca, sl)
    | _ => none
  | _ => none
def zaldZ : List Value → zQ
  | .int i :: .ref a :: st => match w[a]? with
    | some (.inl (2, n, .inl f)) => if i < 0 ∨ n ≤ i.toNatClampNeg then none else some (pc + 1, ls, .int (f i.toNatClampNeg) :: st, w, ca, sl)
    | _ => none
  | _ => none
def zastI : List Value → zQ
  | .int x :: .int i :: .ref a :: st => match w[a]? with
    | some (.inl (0, n, .inl f)) => if i < 0 ∨ n ≤ i.toNatClampNeg then none else some (pc + 1, ls, st, w.set a (.inl (0, n, .inl (upd f i.toNatClampNeg x))), ca, sl)
    | _ => none
  | _ => none
def zastL : List Value → zQ
  | .long x :: .int i :: .ref a :: st => match w[a]? with
    | some (.inl (1, n, .inr (.inl f))) => if i < 0 ∨ n ≤ i.toNatClampNeg then none else some (pc + 1, ls, st, w.set a (.inl (1, n, .inr (.inl (vp_updL f i.toNatClampNeg x)))), ca, sl)
    | _ => none
  | _ => none
def zastZ : List Value → zQ
  | .int x :: .int i :: .ref a :: st => match w[a]? with
    | some (.inl (2, n, .inl f)) => if i < 0 ∨ n ≤ i.toNatClampNeg then none else some (pc + 1, ls, st, w.set a (.inl (2, n, .inl (upd f i.toNatClampNeg (vp_nar .boolean x)))), ca, sl)
    | _ => none
  | _ => none
def zalen (Sc : zSc) : List Value → zQ
  | .ref a :: st => match w[a]? with
    | some (.inl (t, x)) => if t < 3 then some (pc + 1, ls, .int (Int32.ofNat x.1) :: st, w, ca, sl) else none
    | _ => none
  | .retAddr _ :: st => match Sc with
    | some (n, _) => some (pc + 1, ls, .int (Int32.ofNat n) :: st, w, ca, sl)
    | none => none
  | _ => none
def znew (n : Nat) (st : List Value) : zQ := match E.C own n with
  | some ci => if zscL w.length ls = true ∧ zscS w.length st = true ∧ zscW w.length w = true then some (pc + 3, ls, .ref w.length :: st, w ++ [.inr (ci, (E.K ci).1)], ca + 1, sl + (E.K ci).1.length) else none
  | none => none
def znewa (t : Nat) (z : Nat → vp_A) : List Value → zQ
  | .int n :: st => if n < 0 ∨ 100000 ≤ n.toNatClampNeg then none else if zscL w.length ls = true ∧ zscS w.length st = true ∧ zscW w.length w = true then some (pc + 2, ls, .ref w.length :: st, w ++ [.inl (t, z n.toNatClampNeg)], ca + 1, sl + n.toNatClampNeg) else none
  | _ => none
/-- members of the library that are taken whole: 0 Object's making, 1 max, 2 min, 3 abs, 4 arraycopy of ints -/
def znat0 : List Value → zQ
  | .ref _ :: st => some (pc + 3, ls, st, w, ca, sl)
  | _ => none
def znat1 : List Value → zQ
  | .int y :: .int x :: st => some (pc + 3, ls, .int (if x < y then y else x) :: st, w, ca, sl)
  | _ => none
def znat2 : List Value → zQ
  | .int y :: .int x :: st => some (pc + 3, ls, .int (if y < x then y else x) :: st, w, ca, sl)
  | _ => none
def znat3 : List Value → zQ
  | .int x :: st => some (pc + 3, ls, .int (if 0 ≤ x then x else 0 - x) :: st, w, ca, sl)
  | _ => none
def znat4 : List Value → zQ
  | .int n :: .int dp :: .ref b :: .int sp :: .ref a :: st => match w[a]?, w[b]? with
    | some (.inl (0, n0, .inl f)), some (.inl (0, n1, .inl g)) => if ¬ sp < 0 ∧ ¬ dp < 0 ∧ ¬ n < 0 ∧ sp.toNatClampNeg + n.toNatClampNeg ≤ n0 ∧ dp.toNatClampNeg + n.toNatClampNeg ≤ n1 then
        some (pc + 3, ls, st, w.set b (.inl (0, n1, .inl (va_cpy f g sp.toNatClampNeg dp.toNatClampNeg n.toNatClampNeg))), ca, sl) else none
    | _, _ => none
  | _ => none
def znat (k : Nat) (st : List Value) : zQ := match k with
  | 0 => znat0 pc ls w ca sl st
  | 1 => znat1 pc ls w ca sl st
  | 2 => znat2 pc ls w ca sl st
  | 3 => znat3 pc ls w ca sl st
  | 4 => znat4 pc ls w ca sl st
  | _ => none
end zHeap
/-- a method's slots as it is begun -/
def zargs : List Value → zL
  | [] => []
  | v :: vs => if v.category = 2 then some v :: none :: zargs vs else some v :: zargs vs
def zent (E : zEnv) (y : Nat) (as : List Value) (w : zW) : zSt := (0, zargs as ++ List.replicate (zMax (E.D y) - (zargs as).length) none, [], w, 0, 0)
/-- the object that a method is called at is of its owner's kind -/
def zrecv (E : zEnv) (y : Nat) (as : List Value) (w : zW) : Bool := if zKd (E.D y) ≠ 0 then (match as with
  | .ref a :: _ => (match w[a]? with
    | some (.inr o) => decide (o.1 = zOwn (E.D y))
    | _ => false)
  | _ => false) else true
/-- nothing is known of a slot any more -/
def zcut (i : Nat) (ls : zL) : zL := (zclr i ls).set i none
/-- one step: on; back with a value; a call (its method, its values, where the caller goes on); a throw -/
abbrev zN : Type := zSt ⊕ (Option Value ⊕ ((Nat × List Value × zSt) ⊕ Nat))
def zwt (st : List Value) : Nat := (st.map fun v => v.category).sum
def zcall (E : zEnv) (kd y n pc : Nat) (ls : zL) (st : List Value) (w : zW) (ca sl : Nat) : Option zN := match E.M (zOwn (E.D y)) n with
  | some y' => if zKd (E.D y') = kd ∧ zFr (E.D y') + 1 ≤ zFr (E.D y) ∧ zwt (st.drop (zAr (E.D y'))) + (zMax (E.D y') + 11) + zLo (E.D y') ≤ zLo (E.D y) ∧ zAr (E.D y') ≤ st.length ∧ (zargs (st.take (zAr (E.D y'))).reverse).length ≤ zMax (E.D y') ∧ zscL w.length ls = true ∧ zscS w.length st = true ∧ zrecv E y' (st.take (zAr (E.D y'))).reverse w = true
    then some (.inr (.inr (.inl (y', (st.take (zAr (E.D y'))).reverse, (pc + 3, ls, st.drop (zAr (E.D y')), w, ca, sl))))) else none
  | none => none
/-- room for a library member that is taken whole -/
def zroom (d : zD) (st : List Value) : Bool := decide (1 ≤ zFr d ∧ zwt st + 40 ≤ zLo d)
def zstep (E : zEnv) (Sc : zSc) (y : Nat) (q : zSt) : Option zN := match q with
  | (pc, ls, st, w, ca, sl) => match E.X y pc with
    | some x => if 6 ≤ zFr (E.D y) ∧ zwt st + 82 ≤ zLo (E.D y) then some (.inr (.inr (.inr x))) else none
    | none => match E.T y pc with
      | none => none
      | some (i, tg) => match zP i tg pc ls st with
        | some (pc', ls', st') => some (.inl (pc', ls', st', w, ca, sl))
        | none => match i with
          | .getfield n => (zget E (zOwn (E.D y)) pc ls w ca sl n st).map .inl
          | .putfield n => (zputf E (zOwn (E.D y)) pc ls w ca sl (decide (zKd (E.D y) = 2)) n st).map .inl
          | .iaload => (zaldI pc ls w ca sl Sc st).map .inl
          | .laload => (zaldL pc ls w ca sl st).map .inl
          | .baload => (zaldZ pc ls w ca sl st).map .inl
          | .iastore => (zastI pc ls w ca sl st).map .inl
          | .lastore => (zastL pc ls w ca sl st).map .inl
          | .bastore => (zastZ pc ls w ca sl st).map .inl
          | .arraylength => (zalen pc ls w ca sl Sc st).map .inl
          | .new n => (znew E (zOwn (E.D y)) pc ls w ca sl n st).map .inl
          | .newarray t => (match t with
            | .int => znewa pc ls w ca sl 0 (fun n => (n, .inl fun _ => 0)) st
            | .long => znewa pc ls w ca sl 1 (fun n => (n, .inr (.inl fun _ => 0))) st
            | .boolean => znewa pc ls w ca sl 2 (fun n => (n, .inl fun _ => 0)) st
            | _ => none).map .inl
          | .ldc2_w n => (E.J (zOwn (E.D y)) n).map fun v => .inl (pc + 3, ls, .long v :: st, w, ca, sl)
          | .ldc n => (E.I (zOwn (E.D y)) n).map fun v => .inl (pc + 2, ls, .int v :: st, w, ca, sl)
          | .ireturn => (match st with
            | [.int v] => if zfitR (zRet (E.D y)) (some (.int v)) = true then some (.inr (.inl (some (.int v)))) else none
            | _ => none)
          | .lreturn => (match st with
            | [.long v] => if zfitR (zRet (E.D y)) (some (.long v)) = true then some (.inr (.inl (some (.long v)))) else none
            | _ => none)
          | .areturn => (match st with
            | [.ref v] => if zfitR (zRet (E.D y)) (some (.ref v)) = true then some (.inr (.inl (some (.ref v)))) else none
            | _ => none)
          | .return_ => (match st with
            | [] => if zfitR (zRet (E.D y)) none = true then some (.inr (.inl none)) else none
            | _ => none)
          | .invokestatic n => (match E.N (zOwn (E.D y)) n with
            | some k => if zroom (E.D y) st = true ∧ k ≠ 0 then (znat pc ls w ca sl k st).map .inl else none
            | none => zcall E 0 y n pc ls st w ca sl)
          | .invokespecial n => (match E.N (zOwn (E.D y)) n with
            | some k => if zroom (E.D y) st = true ∧ k = 0 then (znat pc ls w ca sl k st).map .inl else none
            | none => zcall E 2 y n pc ls st w ca sl)
          | .invokevirtual n => zcall E 1 y n pc ls st w ca sl
          | _ => none
/-- where a thrown thing of kind x is caught: the pc behind the handler's own store, the slot that it stores into -/
def zfind (hs : List (Nat × Nat × Nat × Nat × Nat)) (pc x : Nat) : Option (Nat × Nat) := match hs with
  | [] => none
  | (a, b, k, h, i) :: hs => if a ≤ pc ∧ pc < b ∧ k = x then some (h, i) else zfind hs pc x
def zcov (hs : List (Nat × Nat × Nat × Nat × Nat)) (pc : Nat) : Bool := hs.any fun e => decide (e.1 ≤ pc ∧ pc < e.2.1)
def zrun (E : zEnv) : Nat → zSc → Nat → zSt → Option zO
  | 0, _, _, _ => none
  | f + 1, Sc, y, q => match zstep E Sc y q with
    | none => none
    | some (.inl q') => zrun E f Sc y q'
    | some (.inr (.inl v)) => some (.inl v, q.2.2.2)
    | some (.inr (.inr (.inr x))) => some (.inr x, q.2.2.2.1, q.2.2.2.2.1 + 1, q.2.2.2.2.2 + 6)
    | some (.inr (.inr (.inl (y', as, q')))) => match zrun E f none y' (zent E y' as q'.2.2.2.1) with
      | none => none
      | some (.inl v, w', mc, ms) => zrun E f Sc y (q'.1, q'.2.1, v.toList ++ q'.2.2.1, w', q'.2.2.2.2.1 + mc, q'.2.2.2.2.2 + ms)
      | some (.inr x, w', mc, ms) => match zfind (E.H y) q.1 x with
        | some (h, i) => zrun E f Sc y (h, zcut i q'.2.1, [], w', q'.2.2.2.2.1 + mc, q'.2.2.2.2.2 + ms)
        | none => if zcov (E.H y) q.1 = true then none else some (.inr x, w', q'.2.2.2.2.1 + mc, q'.2.2.2.2.2 + ms)
