/-! Bits of an int and of a long. -/
def tb (x : Int32) (i : Nat) : Bool := x.toBitVec.getLsbD i
def tl (x : Int64) (i : Nat) : Bool := x.toBitVec.getLsbD i
theorem tb_ext {x y : Int32} (h : ∀ i, i < 32 → tb x i = tb y i) : x = y := Int32.toBitVec_inj.mp (BitVec.eq_of_getLsbD_eq h)
theorem tl_ext {x y : Int64} (h : ∀ i, i < 64 → tl x i = tl y i) : x = y := Int64.toBitVec_inj.mp (BitVec.eq_of_getLsbD_eq h)
theorem tb_0 (i : Nat) : tb (Int32.ofNat 0) i = false := by
  show (0#32).getLsbD i = false
  simp
theorem sh32 : ∀ i, i < 32 → (Int32.ofNat i &&& 31).toBitVec.smod 32 = BitVec.ofNat 32 i := by decide
theorem sh64 : ∀ i, i < 64 → ((Int32.ofNat i).toInt64 &&& 63).toBitVec.smod 64 = BitVec.ofNat 64 i := by decide
theorem shu64 : ∀ i, i < 64 → ((Int32.ofNat i).toInt64.toUInt64 &&& Int64.toUInt64 63).toBitVec % 64 = BitVec.ofNat 64 i := by decide
theorem tb_shl {x : Int32} {i j : Nat} (hi : i < 32) (hj : j < 32) : tb (x <<< (Int32.ofNat i &&& 31)) j = (decide (i ≤ j) && tb x (j - i)) := by
  unfold tb
  rw [Int32.toBitVec_shiftLeft]
  rw [show (32 : BitVec 32) = 32 from rfl] at *
  rw [sh32 i hi, BitVec.shiftLeft_eq', BitVec.toNat_ofNat, Nat.mod_eq_of_lt (by omega), BitVec.getLsbD_shiftLeft]
  by_cases h : i ≤ j <;> simp [h, hj] <;> omega
theorem tb_one (j : Nat) : tb (Int32.ofNat 1) j = decide (j = 0) := by
  show (1#32).getLsbD j = _
  rw [BitVec.getLsbD_one]
  simp
theorem tb_bit {i j : Nat} (hi : i < 32) (hj : j < 32) : tb (Int32.ofNat 1 <<< (Int32.ofNat i &&& 31)) j = decide (j = i) := by
  rw [tb_shl hi hj, tb_one]
  by_cases h : j = i <;> simp [h] <;> omega
theorem tb_or (x y : Int32) (j : Nat) : tb (x ||| y) j = (tb x j || tb y j) := by
  unfold tb
  rw [Int32.toBitVec_or, BitVec.getLsbD_or]
theorem tb_and (x y : Int32) (j : Nat) : tb (x &&& y) j = (tb x j && tb y j) := by
  unfold tb
  rw [Int32.toBitVec_and, BitVec.getLsbD_and]
theorem tb_xor (x y : Int32) (j : Nat) : tb (x ^^^ y) j = (tb x j ^^ tb y j) := by
  unfold tb
  rw [Int32.toBitVec_xor, BitVec.getLsbD_xor]
theorem tb_m1 : ∀ j, j < 32 → tb (-1) j = true := by decide
theorem tl_m1 : ∀ j, j < 64 → tl (-1) j = true := by decide
/-- a bit set or taken away, as the program does it -/
def wb (x : Int32) (i : Nat) (on : Bool) : Int32 := if on = false then x &&& ((Int32.ofNat 1 <<< (Int32.ofNat i &&& 31)) ^^^ (-1)) else x ||| (Int32.ofNat 1 <<< (Int32.ofNat i &&& 31))
theorem tb_wb {x : Int32} {i j : Nat} {on : Bool} (hi : i < 32) (hj : j < 32) : tb (wb x i on) j = if j = i then on else tb x j := by
  unfold wb
  cases on
  · rw [if_pos rfl, tb_and, tb_xor, tb_bit hi hj, tb_m1 j hj]
    by_cases h : j = i <;> simp [h]
  · rw [if_neg (by decide), tb_or, tb_bit hi hj]
    by_cases h : j = i <;> simp [h]
theorem tb_shr {x : Int32} {i : Nat} (hi : i < 32) : tb (x >>> (Int32.ofNat i &&& 31)) 0 = tb x i := by
  unfold tb
  rw [Int32.toBitVec_shiftRight]
  rw [sh32 i hi, BitVec.sshiftRight_eq', BitVec.toNat_ofNat, Nat.mod_eq_of_lt (by omega), BitVec.getLsbD_sshiftRight]
  simp [hi]
theorem tb_test {x : Int32} {i : Nat} (hi : i < 32) : ((x >>> (Int32.ofNat i &&& 31)) &&& Int32.ofNat 1 = Int32.ofNat 1) = (tb x i = true) := by
  apply propext
  constructor
  · intro h
    have h1 := congrArg (fun z => tb z 0) h
    simp only [tb_and, tb_shr hi, tb_one] at h1
    simpa using h1
  · intro h
    apply tb_ext
    intro j hj
    rw [tb_and, tb_one]
    by_cases e : j = 0
    · subst e
      rw [tb_shr hi, h]
      rfl
    · simp [e]
theorem tb_testN {x : Int32} {i : Nat} (hi : i < 32) : ((x >>> (Int32.ofNat i &&& 31)) &&& Int32.ofNat 1) = bI (tb x i) := by
  cases h : tb x i with
  | true => exact (tb_test hi).mpr h
  | false =>
    apply tb_ext
    intro j hj
    rw [tb_and, tb_one]
    by_cases e : j = 0
    · subst e
      rw [tb_shr hi, h]
      rfl
    · rw [bI_f, tb_0]
      simp [e]
/-- the lowest n bits, from a row of truths -/
def mk : Nat → (Nat → Bool) → Int32
  | 0, _ => Int32.ofNat 0
  | n + 1, b => wb (mk n b) n (b n)
theorem tb_mk {b : Nat → Bool} : ∀ (n : Nat), n ≤ 32 → ∀ (j : Nat), j < 32 → tb (mk n b) j = (decide (j < n) && b j) := by
  intro n
  induction n with
  | zero => intro _ j _; rw [mk, tb_0]; simp
  | succ n ih =>
    intro hn j hj
    rw [mk, tb_wb (by omega) hj]
    by_cases e : j = n
    · subst e
      rw [if_pos rfl]
      simp
    · rw [if_neg e, ih (by omega) j hj]
      by_cases h : j < n
      · simp [h, show j < n + 1 by omega]
      · simp [h, show ¬ j < n + 1 by omega]
theorem mk_congr {b c : Nat → Bool} : ∀ (n : Nat), (∀ i, i < n → b i = c i) → mk n b = mk n c := by
  intro n
  induction n with
  | zero => intro _; rfl
  | succ n ih => intro h; rw [mk, mk, ih (fun i hi => h i (by omega)), h n (by omega)]
theorem mk_inj {b c : Nat → Bool} {n : Nat} (hn : n ≤ 32) (h : mk n b = mk n c) : ∀ i, i < n → b i = c i := by
  intro i hi
  have h1 := congrArg (fun z => tb z i) h
  simp only [tb_mk n hn i (by omega)] at h1
  simpa [hi] using h1
-- longs
theorem tl_or (x y : Int64) (j : Nat) : tl (x ||| y) j = (tl x j || tl y j) := by
  unfold tl
  rw [Int64.toBitVec_or, BitVec.getLsbD_or]
theorem tl_and (x y : Int64) (j : Nat) : tl (x &&& y) j = (tl x j && tl y j) := by
  unfold tl
  rw [Int64.toBitVec_and, BitVec.getLsbD_and]
theorem tl_xor (x y : Int64) (j : Nat) : tl (x ^^^ y) j = (tl x j ^^ tl y j) := by
  unfold tl
  rw [Int64.toBitVec_xor, BitVec.getLsbD_xor]
theorem tl_shl {x : Int64} {i j : Nat} (hi : i < 64) (hj : j < 64) : tl (x <<< ((Int32.ofNat i).toInt64 &&& 63)) j = (decide (i ≤ j) && tl x (j - i)) := by
  unfold tl
  rw [Int64.toBitVec_shiftLeft]
  rw [sh64 i hi, BitVec.shiftLeft_eq', BitVec.toNat_ofNat, Nat.mod_eq_of_lt (by omega), BitVec.getLsbD_shiftLeft]
  by_cases h : i ≤ j <;> simp [h, hj] <;> omega
theorem tl_one (j : Nat) : tl 1 j = decide (j = 0) := by
  show (1#64).getLsbD j = _
  rw [BitVec.getLsbD_one]
  simp
theorem tl_bit {i j : Nat} (hi : i < 64) (hj : j < 64) : tl (1 <<< ((Int32.ofNat i).toInt64 &&& 63)) j = decide (j = i) := by
  rw [tl_shl hi hj, tl_one]
  by_cases h : j = i <;> simp [h] <;> omega
theorem tl_ext32 {x : Int32} {j : Nat} (hj : j < 32) : tl x.toInt64 j = tb x j := by
  unfold tl tb
  rw [Int32.toBitVec_toInt64, BitVec.getLsbD_signExtend]
  simp [hj, show j < 64 by omega]
theorem tl_ext32' {x : Int32} {j : Nat} (hj : 32 ≤ j) (hj' : j < 64) : tl x.toInt64 j = tb x 31 := by
  unfold tl tb
  rw [Int32.toBitVec_toInt64, BitVec.getLsbD_signExtend]
  simp [show ¬ j < 32 by omega, hj', BitVec.msb_eq_getLsbD_last]
theorem tl_ushr {x : Int64} {i : Nat} (hi : i < 64) : tl (x.toUInt64 >>> ((Int32.ofNat i).toInt64.toUInt64 &&& Int64.toUInt64 63)).toInt64 0 = tl x i := by
  unfold tl
  show (x.toUInt64 >>> ((Int32.ofNat i).toInt64.toUInt64 &&& Int64.toUInt64 63)).toBitVec.getLsbD 0 = _
  rw [UInt64.toBitVec_shiftRight]
  rw [shu64 i hi, BitVec.ushiftRight_eq', BitVec.toNat_ofNat, Nat.mod_eq_of_lt (by omega), BitVec.getLsbD_ushiftRight]
  rfl
theorem tl_testN {x : Int64} {i : Nat} (hi : i < 64) : ((x.toUInt64 >>> ((Int32.ofNat i).toInt64.toUInt64 &&& Int64.toUInt64 63)).toInt64 &&& 1) = (if tl x i = true then 1 else 0) := by
  apply tl_ext
  intro j hj
  rw [tl_and, tl_one]
  by_cases e : j = 0
  · subst e
    rw [tl_ushr hi]
    cases tl x i <;> decide
  · cases tl x i
    · simp [e]
      show (0#64).getLsbD j = false
      simp
    · simp only [e, decide_false, Bool.and_false, if_true, tl_one]
theorem hb0 : (Int32.ofNat 0 == 0 || Int32.ofNat 0 == 1) = true := by decide
theorem hb1 : (Int32.ofNat 1 == 0 || Int32.ofNat 1 == 1) = true := by decide
/-! Searching. -/
/-- the first of d numbers from k on that has P; behind them all if none has -/
def fst (P : Nat → Bool) : Nat → Nat → Nat
  | 0, k => k
  | d + 1, k => if P k = true then k else fst P d (k + 1)
/-- all of d numbers from k on have P -/
def al (P : Nat → Bool) : Nat → Nat → Bool
  | 0, _ => true
  | d + 1, k => P k && al P d (k + 1)
theorem al_iff {P : Nat → Bool} : ∀ (d k : Nat), (al P d k = true ↔ ∀ i, k ≤ i → i < k + d → P i = true) := by
  intro d
  induction d with
  | zero => intro k; simp only [al, true_iff]; intro i h1 h2; omega
  | succ d ih =>
    intro k
    rw [al, Bool.and_eq_true, ih]
    constructor
    · rintro ⟨h, h'⟩ i h1 h2
      by_cases e : i = k
      · subst e; exact h
      · exact h' i (by omega) (by omega)
    · intro h
      exact ⟨h k (Nat.le_refl _) (by omega), fun i h1 h2 => h i (by omega) (by omega)⟩
theorem fst_congr {P Q : Nat → Bool} : ∀ (d k : Nat), (∀ i, k ≤ i → i < k + d → P i = Q i) → fst P d k = fst Q d k := by
  intro d
  induction d with
  | zero => intro k _; rfl
  | succ d ih =>
    intro k h
    rw [fst, fst, h k (Nat.le_refl _) (by omega), ih (k + 1) (fun i h1 h2 => h i (by omega) (by omega))]
theorem fst_le {P : Nat → Bool} : ∀ (d k : Nat), k ≤ fst P d k ∧ fst P d k ≤ k + d := by
  intro d
  induction d with
  | zero => intro k; rw [fst]; omega
  | succ d ih =>
    intro k
    rw [fst]
    have := ih (k + 1)
    split <;> omega
theorem fst_hit {P : Nat → Bool} : ∀ (d k : Nat), fst P d k < k + d → P (fst P d k) = true := by
  intro d
  induction d with
  | zero => intro k h; rw [fst] at h; omega
  | succ d ih =>
    intro k h
    rw [fst] at h ⊢
    by_cases e : P k = true
    · rw [if_pos e]; exact e
    · rw [if_neg e] at h ⊢
      exact ih (k + 1) (by omega)
theorem fst_min {P : Nat → Bool} : ∀ (d k i : Nat), k ≤ i → i < fst P d k → P i = false := by
  intro d
  induction d with
  | zero => intro k i h h'; rw [fst] at h'; omega
  | succ d ih =>
    intro k i h h'
    rw [fst] at h'
    by_cases e : P k = true
    · rw [if_pos e] at h'; omega
    · rw [if_neg e] at h'
      by_cases e' : i = k
      · subst e'; simpa using e
      · exact ih (k + 1) i (by omega) h'
theorem fst_eq {P : Nat → Bool} {d k m : Nat} (h1 : k ≤ m) (h2 : m ≤ k + d) (h3 : ∀ i, k ≤ i → i < m → P i = false) (h4 : m < k + d → P m = true) : fst P d k = m := by
  have h := fst_le (P := P) d k
  by_cases e : fst P d k < m
  · have h5 := fst_hit (P := P) d k (by omega)
    rw [h3 _ h.1 e] at h5
    cases h5
  · by_cases e' : m < fst P d k
    · have h5 := fst_min (P := P) d k m h1 e'
      rw [h4 (by omega)] at h5
      cases h5
    · omega
/-! Small conditions. -/
theorem cat2 (v : Value) : v.category ≤ 2 := by cases v <;> exact Nat.le_of_ble_eq_true rfl
theorem zwt_le : ∀ (st : List Value), zwt st ≤ 2 * st.length := by
  intro st
  induction st with
  | nil => exact Nat.le_refl 0
  | cons v st ih =>
    have := cat2 v
    rw [zwt_cons]
    simp only [List.length_cons]
    omega
theorem zw_of {st : List Value} {n : Nat} (h : 2 * st.length ≤ n) : Nat.ble (zwt st) n = true := Nat.ble_eq_true_of_le (Nat.le_trans (zwt_le st) h)
theorem zw0 : Nat.ble (zwt []) 8 = true := zw_of (Nat.le_of_ble_eq_true rfl)
theorem zx0 : Nat.ble (zwt []) 6 = true := zw_of (Nat.le_of_ble_eq_true rfl)
theorem zw1 {v0 : Value} : Nat.ble (zwt [v0]) 8 = true := zw_of (Nat.le_of_ble_eq_true rfl)
theorem zx1 {v0 : Value} : Nat.ble (zwt [v0]) 6 = true := zw_of (Nat.le_of_ble_eq_true rfl)
theorem zw2 {v0 v1 : Value} : Nat.ble (zwt [v0, v1]) 8 = true := zw_of (Nat.le_of_ble_eq_true rfl)
theorem zx2 {v0 v1 : Value} : Nat.ble (zwt [v0, v1]) 6 = true := zw_of (Nat.le_of_ble_eq_true rfl)
theorem zw3 {v0 v1 v2 : Value} : Nat.ble (zwt [v0, v1, v2]) 8 = true := zw_of (Nat.le_of_ble_eq_true rfl)
theorem zx3 {v0 v1 v2 : Value} : Nat.ble (zwt [v0, v1, v2]) 6 = true := zw_of (Nat.le_of_ble_eq_true rfl)
theorem zw4 {v0 v1 v2 v3 : Value} : Nat.ble (zwt [v0, v1, v2, v3]) 8 = true := zw_of (Nat.le_of_ble_eq_true rfl)
theorem znl_i {x : Int32} : znl (some (.int x)) = true := rfl
theorem znl_r {x : Nat} : znl (some (.ref x)) = true := rfl
theorem znl_n : znl none = true := rfl
theorem zscL_nil {n : Nat} : zscL n [] = true := rfl
theorem zscL_n {n : Nat} {ls : zL} (h : zscL n ls = true) : zscL n (none :: ls) = true := h
theorem zscL_i {n : Nat} {ls : zL} {x : Int32} (h : zscL n ls = true) : zscL n (some (.int x) :: ls) = true := h
theorem zscL_l {n : Nat} {ls : zL} {x : Int64} (h : zscL n ls = true) : zscL n (some (.long x) :: ls) = true := h
theorem zscL_r {n a : Nat} {ls : zL} (ha : a < n) (h : zscL n ls = true) : zscL n (some (.ref a) :: ls) = true := by
  show (decide (a < n) && zscL n ls) = true
  rw [h, decide_eq_true ha]
  rfl
theorem zscS_nil {n : Nat} : zscS n [] = true := rfl
theorem zscS_i {n : Nat} {st : List Value} {x : Int32} (h : zscS n st = true) : zscS n (.int x :: st) = true := h
theorem zscS_l {n : Nat} {st : List Value} {x : Int64} (h : zscS n st = true) : zscS n (.long x :: st) = true := h
theorem zscS_r {n a : Nat} {st : List Value} (ha : a < n) (h : zscS n st = true) : zscS n (.ref a :: st) = true := by
  show (decide (a < n) && zscS n st) = true
  rw [h, decide_eq_true ha]
  rfl
theorem ifnn {α : Type} {c : Prop} [Decidable c] {a b : α} (h : c) : (if ¬ c then a else b) = b := if_neg (fun q => q h)
