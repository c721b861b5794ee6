/-! Bits of an int and of a long. -/
def tb (x : Int32) (i : Nat) : Bool := x.toBitVec.getLsbD i
def tl (x : Int64) (i : Nat) : Bool := x.toBitVec.getLsbD i
theorem tb_ext {x y : Int32} (h : ∀ i, i < 32 → tb x i = tb y i) : x = y := Int32.toBitVec_inj.mp (BitVec.eq_of_getLsbD_eq h)
theorem tl_ext {x y : Int64} (h : ∀ i, i < 64 → tl x i = tl y i) : x = y := Int64.toBitVec_inj.mp (BitVec.eq_of_getLsbD_eq h)
theorem tb_0 (i : Nat) : tb (Int32.ofNat 0) i = false := by
  show (0#32).getLsbD i = false
  simp
theorem sh32 : ∀ i, i < 32 → (Int32.ofNat i &&& 31).toBitVec.smod 32 = BitVec.ofNat 32 i := by decide
theorem sh64 : ∀ i, i < 64 → ((Int32.ofNat i).toInt64 &&& 63).toBitVec.smod 64 = BitVec.ofNat 64 i := by decide
theorem shu64 : ∀ i, i < 64 → ((Int32.ofNat i).toInt64.toUInt64 &&& Int64.toUInt64 63).toBitVec % 64 = BitVec.ofNat 64 i := by decide
theorem tb_shl {x : Int32} {i j : Nat} (hi : i < 32) (hj : j < 32) : tb (x <<< (Int32.ofNat i &&& 31)) j = (decide (i ≤ j) && tb x (j - i)) := by
  unfold tb
  rw [Int32.toBitVec_shiftLeft]
  rw [show (32 : BitVec 32) = 32 from rfl] at *
  rw [sh32 i hi, BitVec.shiftLeft_eq', BitVec.toNat_ofNat, Nat.mod_eq_of_lt (by omega), BitVec.getLsbD_shiftLeft]
  by_cases h : i ≤ j <;> simp [h, hj] <;> omega
theorem tb_one (j : Nat) : tb (Int32.ofNat 1) j = decide (j = 0) := by
  show (1#32).getLsbD j = _
  rw [BitVec.getLsbD_one]
  simp
theorem tb_bit {i j : Nat} (hi : i < 32) (hj : j < 32) : tb (Int32.ofNat 1 <<< (Int32.ofNat i &&& 31)) j = decide (j = i) := by
  rw [tb_shl hi hj, tb_one]
  by_cases h : j = i <;> simp [h] <;> omega
theorem tb_or (x y : Int32) (j : Nat) : tb (x ||| y) j = (tb x j || tb y j) := by
  unfold tb
  rw [Int32.toBitVec_or, BitVec.getLsbD_or]
theorem tb_and (x y : Int32) (j : Nat) : tb (x &&& y) j = (tb x j && tb y j) := by
  unfold tb
  rw [Int32.toBitVec_and, BitVec.getLsbD_and]
theorem tb_xor (x y : Int32) (j : Nat) : tb (x ^^^ y) j = (tb x j ^^ tb y j) := by
  unfold tb
  rw [Int32.toBitVec_xor, BitVec.getLsbD_xor]
theorem tb_m1 : ∀ j, j < 32 → tb (-1) j = true := by decide
theorem tl_m1 : ∀ j, j < 64 → tl (-1) j = true := by decide
/-- a bit set or taken away, as the program does it -/
def wb (x : Int32) (i : Nat) (on : Bool) : Int32 := if on = false then x &&& ((Int32.ofNat 1 <<< (Int32.ofNat i &&& 31)) ^^^ (-1)) else x ||| (Int32.ofNat 1 <<< (Int32.ofNat i &&& 31))
theorem tb_wb {x : Int32} {i j : Nat} {on : Bool} (hi : i < 32) (hj : j < 32) : tb (wb x i on) j = if j = i then on else tb x j := by
  unfold wb
  cases on
  · rw [if_pos rfl, tb_and, tb_xor, tb_bit hi hj, tb_m1 j hj]
    by_cases h : j = i <;> simp [h]
  · rw [if_neg (by decide), tb_or, tb_bit hi hj]
    by_cases h : j = i <;> simp [h]
theorem tb_shr {x : Int32} {i : Nat} (hi : i < 32) : tb (x >>> (Int32.ofNat i &&& 31)) 0 = tb x i := by
  unfold tb
  rw [Int32.toBitVec_shiftRight]
  rw [sh32 i hi, BitVec.sshiftRight_eq', BitVec.toNat_ofNat, Nat.mod_eq_of_lt (by omega), BitVec.getLsbD_sshiftRight]
  simp [hi]
theorem tb_test {x : Int32} {i : Nat} (hi : i < 32) : ((x >>> (Int32.ofNat i &&& 31)) &&& Int32.ofNat 1 = Int32.ofNat 1) = (tb x i = true) := by
  apply propext
  constructor
  · intro h
    have h1 := congrArg (fun z => tb z 0) h
    simp only [tb_and, tb_shr hi, tb_one] at h1
    simpa using h1
  · intro h
    apply tb_ext
    intro j hj
    rw [tb_and, tb_one]
    by_cases e : j = 0
    · subst e
      rw [tb_shr hi, h]
      rfl
    · simp [e]
theorem tb_testN {x : Int32} {i : Nat} (hi : i < 32) : ((x >>> (Int32.ofNat i &&& 31)) &&& Int32.ofNat 1) = bI (tb x i) := by
  cases h : tb x i with
  | true => exact (tb_test hi).mpr h
  | false =>
    apply tb_ext
    intro j hj
    rw [tb_and, tb_one]
    by_cases e : j = 0
    · subst e
      rw [tb_shr hi, h]
      rfl
    · rw [bI_f, tb_0]
      simp [e]
/-- the lowest n bits, from a row of truths -/
def mk : Nat → (Nat → Bool) → Int32
  | 0, _ => Int32.ofNat 0
  | n + 1, b => wb (mk n b) n (b n)
theorem tb_mk {b : Nat → Bool} : ∀ (n : Nat), n ≤ 32 → ∀ (j : Nat), j < 32 → tb (mk n b) j = (decide (j < n) && b j) := by
  intro n
  induction n with
  | zero => intro _ j _; rw [mk, tb_0]; simp
  | succ n ih =>
    intro hn j hj
    rw [mk, tb_wb (by omega) hj]
    by_cases e : j = n
    · subst e
      rw [if_pos rfl]
      simp
    · rw [if_neg e, ih (by omega) j hj]
      by_cases h : j < n
      · simp [h, show j < n + 1 by omega]
      · simp [h, show ¬ j < n + 1 by omega]
theorem mk_congr {b c : Nat → Bool} : ∀ (n : Nat), (∀ i, i < n → b i = c i) → mk n b = mk n c := by
  intro n
  induction n with
  | zero => intro _; rfl
  | succ n ih => intro h; rw [mk, mk, ih (fun i hi => h i (by omega)), h n (by omega)]
theorem mk_inj {b c : Nat → Bool} {n : Nat} (hn : n ≤ 32) (h : mk n b = mk n c) : ∀ i, i < n → b i = c i := by
  intro i hi
  have h1 := congrArg (fun z => tb z i) h
  simp only [tb_mk n hn i (by omega)] at h1
  simpa [hi] using h1
-- longs
theorem tl_or (x y : Int64) (j : Nat) : tl (x ||| y) j = (tl x j || tl y j) := by
  unfold tl
  rw [Int64.toBitVec_or, BitVec.getLsbD_or]
theorem tl_and (x y : Int64) (j : Nat) : tl (x &&& y) j = (tl x j && tl y j) := by
  unfold tl
  rw [Int64.toBitVec_and, BitVec.getLsbD_and]
theorem tl_xor (x y : Int64) (j : Nat) : tl (x ^^^ y) j = (tl x j ^^ tl y j) := by
  unfold tl
  rw [Int64.toBitVec_xor, BitVec.getLsbD_xor]
theorem tl_shl {x : Int64} {i j : Nat} (hi : i < 64) (hj : j < 64) : tl (x <<< ((Int32.ofNat i).toInt64 &&& 63)) j = (decide (i ≤ j) && tl x (j - i)) := by
  unfold tl
  rw [Int64.toBitVec_shiftLeft]
  rw [sh64 i hi, BitVec.shiftLeft_eq', BitVec.toNat_ofNat, Nat.mod_eq_of_lt (by omega), BitVec.getLsbD_shiftLeft]
  by_cases h : i ≤ j <;> simp [h, hj] <;> omega
theorem tl_one (j : Nat) : tl 1 j = decide (j = 0) := by
  show (1#64).getLsbD j = _
  rw [BitVec.getLsbD_one]
  simp
theorem tl_bit {i j : Nat} (hi : i < 64) (hj : j < 64) : tl (1 <<< ((Int32.ofNat i).toInt64 &&& 63)) j = decide (j = i) := by
  rw [tl_shl hi hj, tl_one]
  by_cases h : j = i <;> simp [h] <;> omega
theorem tl_ext32 {x : Int32} {j : Nat} (hj : j < 32) : tl x.toInt64 j = tb x j := by
  unfold tl tb
  rw [Int32.toBitVec_toInt64, BitVec.getLsbD_signExtend]
  simp [hj, show j < 64 by omega]
theorem tl_ext32' {x : Int32} {j : Nat} (hj : 32 ≤ j) (hj' : j < 64) : tl x.toInt64 j = tb x 31 := by
  unfold tl tb
  rw [Int32.toBitVec_toInt64, BitVec.getLsbD_signExtend]
  simp [show ¬ j < 32 by omega, hj', BitVec.msb_eq_getLsbD_last]
theorem tl_ushr {x : Int64} {i : Nat} (hi : i < 64) : tl (x.toUInt64 >>> ((Int32.ofNat i).toInt64.toUInt64 &&& Int64.toUInt64 63)).toInt64 0 = tl x i := by
  unfold tl
  show (x.toUInt64 >>> ((Int32.ofNat i).toInt64.toUInt64 &&& Int64.toUInt64 63)).toBitVec.getLsbD 0 = _
  rw [UInt64.toBitVec_shiftRight]
  rw [shu64 i hi, BitVec.ushiftRight_eq', BitVec.toNat_ofNat, Nat.mod_eq_of_lt (by omega), BitVec.getLsbD_ushiftRight]
  rfl
theorem tl_testN {x : Int64} {i : Nat} (hi : i < 64) : ((x.toUInt64 >>> ((Int32.ofNat i).toInt64.toUInt64 &&& Int64.toUInt64 63)).toInt64 &&& 1) = (if tl x i = true then 1 else 0) := by
  apply tl_ext
  intro j hj
  rw [tl_and, tl_one]
  by_cases e : j = 0
  · subst e
    rw [tl_ushr hi]
    cases tl x i <;> decide
  · cases tl x i
    · simp [e]
      show (0#64).getLsbD j = false
      simp
    · simp only [e, decide_false, Bool.and_false, if_true, tl_one]
