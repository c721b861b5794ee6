/-! Small methods of the class and of its parts, as functions. -/
section leaf
variable {w : zW} {a b N : Nat}

theorem m45 {x : Int32} : zm E0 45 [.int x] w = some (.inl (some (.int (bI (decide (¬ x < Int32.ofNat 0 ∧ ¬ Int32.ofNat 12 ≤ x))))), w, 0, 0) := by
  rw [zm45]
  by_cases h1 : x < Int32.ofNat 0 <;> by_cases h2 : Int32.ofNat 12 ≤ x <;> simp (disch := (first | assumption | exact hb0 | exact hb1 | exact bI_ok | exact znl_i | exact znl_r | exact znl_n | exact zw0 | exact zw1 | exact zw2 | exact zw3 | exact zw4 | exact zx0 | exact zx1 | exact zx2 | exact zx3 | ((repeat' (first | assumption | apply zset_eq | apply zset_ne | omega)); done) | omega | (with_unfolding_all rfl) | fail)) only [v45_0, v45_1, v45_4, v45_5, v45_7, v45_10, v45_11, v45_14, v45_15, zAft_v, zAft_n, iN_add, iN_mul, iN_sub, iN_lt, iN_le, iN_eq, bI_0, bI_1, if_pos, if_neg, Nat.reduceAdd, Nat.reduceSub, Nat.reduceMul, Nat.add_zero, Nat.zero_add, List.set_set] <;> simp only [h1, h2, not_true_eq_false, not_false_eq_true, true_and, and_true, false_and, and_false, and_self, decide_true, decide_false, decide_not, decide_eq_true_eq, if_true, if_false, bI_t, bI_f, Bool.true_and, Bool.false_and, Bool.and_true, Bool.and_false, Bool.false_eq_true, reduceCtorEq, Bool.not_true, Bool.not_false, Bool.true_or, Bool.false_or, Bool.or_true, Bool.or_false, Option.some.injEq, Prod.mk.injEq]
theorem m46 {x : Int32} {i : Nat} {on : Bool} : zm E0 46 [.int x, .int (Int32.ofNat i), .int (bI on)] w = some (.inl (some (.int (wb x i on))), w, 0, 0) := by
  rw [zm46]
  simp (disch := (first | assumption | exact hb0 | exact hb1 | exact bI_ok | exact znl_i | exact znl_r | exact znl_n | exact zw0 | exact zw1 | exact zw2 | exact zw3 | exact zw4 | exact zx0 | exact zx1 | exact zx2 | exact zx3 | ((repeat' (first | assumption | apply zset_eq | apply zset_ne | omega)); done) | omega | (with_unfolding_all rfl) | fail)) only [v46_0, v46_1, v46_4, v46_5, v46_6, v46_7, v46_8, v46_9, v46_12, v46_13, v46_14, v46_15, v46_16, v46_17, v46_18, v46_19, zAft_v, zAft_n, iN_add, iN_mul, iN_sub, iN_lt, iN_le, iN_eq, bI_0, bI_1, if_pos, if_neg, Nat.reduceAdd, Nat.reduceSub, Nat.reduceMul, Nat.add_zero, Nat.zero_add, List.set_set]
  unfold wb
  cases on <;> rfl
theorem m47 {x : Int32} : zm E0 47 [.int x] w = some (.inl (some (.int (bI (decide (¬ x < Int32.ofNat 100))))), w, 0, 0) := by
  rw [zm47]
  by_cases h1 : x < Int32.ofNat 100 <;> simp (disch := (first | assumption | exact hb0 | exact hb1 | exact bI_ok | exact znl_i | exact znl_r | exact znl_n | exact zw0 | exact zw1 | exact zw2 | exact zw3 | exact zw4 | exact zx0 | exact zx1 | exact zx2 | exact zx3 | ((repeat' (first | assumption | apply zset_eq | apply zset_ne | omega)); done) | omega | (with_unfolding_all rfl) | fail)) only [v47_0, v47_1, v47_3, v47_6, v47_7, v47_10, v47_11, zAft_v, zAft_n, iN_add, iN_mul, iN_sub, iN_lt, iN_le, iN_eq, bI_0, bI_1, if_pos, if_neg, Nat.reduceAdd, Nat.reduceSub, Nat.reduceMul, Nat.add_zero, Nat.zero_add, List.set_set] <;> simp only [h1, not_true_eq_false, not_false_eq_true, true_and, and_true, false_and, and_false, and_self, decide_true, decide_false, decide_not, decide_eq_true_eq, if_true, if_false, bI_t, bI_f, Bool.true_and, Bool.false_and, Bool.and_true, Bool.and_false, Bool.false_eq_true, reduceCtorEq, Bool.not_true, Bool.not_false, Bool.true_or, Bool.false_or, Bool.or_true, Bool.or_false, Option.some.injEq, Prod.mk.injEq]
theorem m22 {n : Nat} {f : Nat → Int32} {x : Int32} (h : w[a]? = some (.inr (2, [.ref b, .int (Int32.ofNat n)]))) (h' : w[b]? = some (.inl (0, 30, .inl f))) (hn : n < 30) (hab : ¬ a = b) :
    zm E0 22 [.ref a, .int x] w = some (.inl none, (w.set b (.inl (0, 30, .inl (upd f n x)))).set a (.inr (2, [.ref b, .int (Int32.ofNat (n + 1))])), 0, 0) := by
  rw [zm22]
  simp (disch := (first | assumption | exact hb0 | exact hb1 | exact bI_ok | exact znl_i | exact znl_r | exact znl_n | exact zw0 | exact zw1 | exact zw2 | exact zw3 | exact zw4 | exact zx0 | exact zx1 | exact zx2 | exact zx3 | ((repeat' (first | assumption | apply zset_eq | apply zset_ne | omega)); done) | omega | (with_unfolding_all rfl) | fail)) only [v22_0, v22_1, v22_4, v22_6, v22_9, v22_10, v22_13, v22_14, v22_17, v22_18, v22_19, v22_20i, v22_20r, v22_21, v22_24, v22_25, v22_26, v22_29, zAft_v, zAft_n, iN_add, iN_mul, iN_sub, iN_lt, iN_le, iN_eq, bI_0, bI_1, if_pos, if_neg, Nat.reduceAdd, Nat.reduceSub, Nat.reduceMul, Nat.add_zero, Nat.zero_add, List.set_set]
theorem m21 {n : Nat} {f : Nat → Int32} {x : Int32} (h : w[a]? = some (.inr (2, [.ref b, .int (Int32.ofNat n)]))) (h' : w[b]? = some (.inl (0, 30, .inl f))) (hn : n ≤ 30) :
    zm E0 21 [.ref a, .int x] w = some (.inl (some (.int (if ¬ x < Int32.ofNat 0 ∧ x < Int32.ofNat n then f x.toNatClampNeg else -1))), w, 0, 0) := by
  rw [zm21]
  by_cases h1 : x < Int32.ofNat 0
  · simp (disch := (first | assumption | exact hb0 | exact hb1 | exact bI_ok | exact znl_i | exact znl_r | exact znl_n | exact zw0 | exact zw1 | exact zw2 | exact zw3 | exact zw4 | exact zx0 | exact zx1 | exact zx2 | exact zx3 | ((repeat' (first | assumption | apply zset_eq | apply zset_ne | omega)); done) | omega | (with_unfolding_all rfl) | fail)) only [v21_0, v21_1, v21_4, v21_5, v21_6, v21_9, v21_12, v21_13, v21_16, v21_17, v21_18, v21_21, v21_22, zAft_v, zAft_n, iN_add, iN_mul, iN_sub, iN_lt, iN_le, iN_eq, bI_0, bI_1, if_pos, if_neg, Nat.reduceAdd, Nat.reduceSub, Nat.reduceMul, Nat.add_zero, Nat.zero_add, List.set_set]
    rw [if_neg (fun q => q.1 h1)]
  · obtain ⟨k, hk, rfl⟩ := iN_of (Int32.not_lt.mp h1)
    by_cases h2 : k < n
    · simp (disch := (first | assumption | exact hb0 | exact hb1 | exact bI_ok | exact znl_i | exact znl_r | exact znl_n | exact zw0 | exact zw1 | exact zw2 | exact zw3 | exact zw4 | exact zx0 | exact zx1 | exact zx2 | exact zx3 | ((repeat' (first | assumption | apply zset_eq | apply zset_ne | omega)); done) | omega | (with_unfolding_all rfl) | fail)) only [v21_0, v21_1, v21_4, v21_5, v21_6, v21_9, v21_12, v21_13, v21_16, v21_17, v21_18, v21_21, v21_22, zAft_v, zAft_n, iN_add, iN_mul, iN_sub, iN_lt, iN_le, iN_eq, bI_0, bI_1, if_pos, if_neg, Nat.reduceAdd, Nat.reduceSub, Nat.reduceMul, Nat.add_zero, Nat.zero_add, List.set_set]
      have e : (Int32.ofNat k).toNatClampNeg = k := Int32.toNatClampNeg_ofNat_of_lt (by omega)
      rw [e]
    · simp (disch := (first | assumption | exact hb0 | exact hb1 | exact bI_ok | exact znl_i | exact znl_r | exact znl_n | exact zw0 | exact zw1 | exact zw2 | exact zw3 | exact zw4 | exact zx0 | exact zx1 | exact zx2 | exact zx3 | ((repeat' (first | assumption | apply zset_eq | apply zset_ne | omega)); done) | omega | (with_unfolding_all rfl) | fail)) only [v21_0, v21_1, v21_4, v21_5, v21_6, v21_9, v21_12, v21_13, v21_16, v21_17, v21_18, v21_21, v21_22, zAft_v, zAft_n, iN_add, iN_mul, iN_sub, iN_lt, iN_le, iN_eq, bI_0, bI_1, if_pos, if_neg, Nat.reduceAdd, Nat.reduceSub, Nat.reduceMul, Nat.add_zero, Nat.zero_add, List.set_set]
-- crossings
theorem m3 {x z : Int32} {en pk : Nat} (h : w[a]? = some (.inr (0, [.ref b, .int (Int32.ofNat en), .int (Int32.ofNat pk)]))) :
    zm E0 3 [.ref a, .int x, .int z] w = some (.inl (some (.int (bI (decide (¬ x < Int32.ofNat 0 ∧ ¬ Int32.ofNat en ≤ x ∧ ¬ z < Int32.ofNat 0 ∧ ¬ Int32.ofNat pk ≤ z))))), w, 0, 0) := by
  rw [zm3]
  by_cases h1 : x < Int32.ofNat 0 <;> by_cases h2 : Int32.ofNat en ≤ x <;> by_cases h3 : z < Int32.ofNat 0 <;> by_cases h4 : Int32.ofNat pk ≤ z <;> simp (disch := (first | assumption | exact hb0 | exact hb1 | exact bI_ok | exact znl_i | exact znl_r | exact znl_n | exact zw0 | exact zw1 | exact zw2 | exact zw3 | exact zw4 | exact zx0 | exact zx1 | exact zx2 | exact zx3 | ((repeat' (first | assumption | apply zset_eq | apply zset_ne | omega)); done) | omega | (with_unfolding_all rfl) | fail)) only [v3_0, v3_1, v3_4, v3_5, v3_6, v3_9, v3_12, v3_13, v3_16, v3_17, v3_18, v3_21, v3_24, v3_25, v3_28, v3_29, zAft_v, zAft_n, iN_add, iN_mul, iN_sub, iN_lt, iN_le, iN_eq, bI_0, bI_1, if_pos, if_neg, Nat.reduceAdd, Nat.reduceSub, Nat.reduceMul, Nat.add_zero, Nat.zero_add, List.set_set] <;> simp only [h1, h2, h3, h4, not_true_eq_false, not_false_eq_true, true_and, and_true, false_and, and_false, and_self, decide_true, decide_false, decide_not, decide_eq_true_eq, if_true, if_false, bI_t, bI_f, Bool.true_and, Bool.false_and, Bool.and_true, Bool.and_false, Bool.false_eq_true, reduceCtorEq, Bool.not_true, Bool.not_false, Bool.true_or, Bool.false_or, Bool.or_true, Bool.or_false, Option.some.injEq, Prod.mk.injEq]
theorem m4 {e p en pk : Nat} {f : Nat → Int32} (h : w[a]? = some (.inr (0, [.ref b, .int (Int32.ofNat en), .int (Int32.ofNat pk)]))) (h' : w[b]? = some (.inl (0, 30, .inl f))) (hp : p < 30) (he : e < 32) :
    zm E0 4 [.ref a, .int (Int32.ofNat e), .int (Int32.ofNat p)] w = some (.inl (some (.int (bI (tb (f p) e)))), w, 0, 0) := by
  rw [zm4]
  simp (disch := (first | assumption | exact hb0 | exact hb1 | exact bI_ok | exact znl_i | exact znl_r | exact znl_n | exact zw0 | exact zw1 | exact zw2 | exact zw3 | exact zw4 | exact zx0 | exact zx1 | exact zx2 | exact zx3 | ((repeat' (first | assumption | apply zset_eq | apply zset_ne | omega)); done) | omega | (with_unfolding_all rfl) | fail)) only [v4_0, v4_1, v4_4, v4_5, v4_6, v4_7, v4_8, v4_9, v4_10, v4_11, v4_14, v4_15, v4_18, v4_19, zAft_v, zAft_n, iN_add, iN_mul, iN_sub, iN_lt, iN_le, iN_eq, bI_0, bI_1, if_pos, if_neg, Nat.reduceAdd, Nat.reduceSub, Nat.reduceMul, Nat.add_zero, Nat.zero_add, List.set_set, tb_test]
  cases tb (f p) e <;> rfl
theorem m5 {e p en pk : Nat} {f : Nat → Int32} {on : Bool} (hl : w.length = N) (ha : a < N) (hb : b < N) (h : w[a]? = some (.inr (0, [.ref b, .int (Int32.ofNat en), .int (Int32.ofNat pk)]))) (h' : w[b]? = some (.inl (0, 30, .inl f))) (hp : p < 30) :
    zm E0 5 [.ref a, .int (Int32.ofNat e), .int (Int32.ofNat p), .int (bI on)] w = some (.inl none, w.set b (.inl (0, 30, .inl (upd f p (wb (f p) e on)))), 0, 0) := by
  rw [zm5]
  simp (disch := (first | assumption | exact hb0 | exact hb1 | exact bI_ok | exact znl_i | exact znl_r | exact znl_n | exact zw0 | exact zw1 | exact zw2 | exact zw3 | exact zw4 | exact zx0 | exact zx1 | exact zx2 | exact zx3 | ((repeat' (first | assumption | apply zset_eq | apply zset_ne | omega)); done) | ((repeat' (first | exact zscL_nil | refine zscL_i ?_ | refine zscL_n ?_ | refine zscL_r ?_ ?_ | refine zscL_l ?_ | exact zscS_nil | refine zscS_i ?_ | refine zscS_r ?_ ?_ | refine zscS_l ?_ | (simp only [List.length_set, hl]; omega) | omega)); done) | omega | (with_unfolding_all rfl) | fail)) only [v5_0, v5_1, v5_4, v5_5, v5_6, v5_9, v5_10, v5_11, v5_12, v5_13, v5_16, v5_17, zAft_v, zAft_n, iN_add, iN_mul, iN_sub, iN_lt, iN_le, iN_eq, bI_0, bI_1, if_pos, if_neg, Nat.reduceAdd, Nat.reduceSub, Nat.reduceMul, Nat.add_zero, Nat.zero_add, List.set_set, m46]
theorem m6 {en pk : Nat} {v : Bool} (h : w[a]? = some (.inr (0, [.ref b, .int (Int32.ofNat en), .int (Int32.ofNat pk)]))) :
    zm E0 6 [.ref a, .int (bI v)] w = some (.inl (some (.int (Int32.ofNat (if v = true then pk else en)))), w, 0, 0) := by
  rw [zm6]
  simp (disch := (first | assumption | exact hb0 | exact hb1 | exact bI_ok | exact znl_i | exact znl_r | exact znl_n | exact zw0 | exact zw1 | exact zw2 | exact zw3 | exact zw4 | exact zx0 | exact zx1 | exact zx2 | exact zx3 | ((repeat' (first | assumption | apply zset_eq | apply zset_ne | omega)); done) | omega | (with_unfolding_all rfl) | fail)) only [v6_0, v6_1, v6_4, v6_5, v6_8, v6_11, v6_12, v6_15, zAft_v, zAft_n, iN_add, iN_mul, iN_sub, iN_lt, iN_le, iN_eq, bI_0, bI_1, if_pos, if_neg, Nat.reduceAdd, Nat.reduceSub, Nat.reduceMul, Nat.add_zero, Nat.zero_add, List.set_set]
  cases v <;> rfl
theorem m8l {e en pk : Nat} {f : Nat → Int32} (hl : w.length = N) (ha : a < N) (h : w[a]? = some (.inr (0, [.ref b, .int (Int32.ofNat en), .int (Int32.ofNat pk)]))) (h' : w[b]? = some (.inl (0, 30, .inl f))) (hp : pk ≤ 30) (he : e < 32) :
    ∀ (d k : Nat), k + d = pk → zval E0 none 8 (4, [some (.ref a), some (.int (Int32.ofNat e)), some (.int (mk k fun p => tb (f p) e)), some (.int (Int32.ofNat k))], [], w, 0, 0) = some (.inl (some (.int (mk pk fun p => tb (f p) e))), w, 0, 0) := by
  intro d
  induction d with
  | zero =>
    intro k hk
    obtain rfl : k = pk := hk
    rw [v8_4]
    simp (disch := (first | assumption | exact hb0 | exact hb1 | exact bI_ok | exact znl_i | exact znl_r | exact znl_n | exact zw0 | exact zw1 | exact zw2 | exact zw3 | exact zw4 | exact zx0 | exact zx1 | exact zx2 | exact zx3 | ((repeat' (first | assumption | apply zset_eq | apply zset_ne | omega)); done) | ((repeat' (first | exact zscL_nil | refine zscL_i ?_ | refine zscL_n ?_ | refine zscL_r ?_ ?_ | refine zscL_l ?_ | exact zscS_nil | refine zscS_i ?_ | refine zscS_r ?_ ?_ | refine zscS_l ?_ | (simp only [List.length_set, hl]; omega) | omega)); done) | omega | (with_unfolding_all rfl) | fail)) only [v8_0, v8_1, v8_2, v8_3, v8_5, v8_6, v8_9, v8_12, v8_13, v8_14, v8_15, v8_16, v8_17, v8_20, v8_23, v8_24, v8_27, v8_30, v8_31, zAft_v, zAft_n, iN_add, iN_mul, iN_sub, iN_lt, iN_le, iN_eq, bI_0, bI_1, if_pos, if_neg, Nat.reduceAdd, Nat.reduceSub, Nat.reduceMul, Nat.add_zero, Nat.zero_add, List.set_set]
  | succ d ih =>
    intro k hk
    rw [v8_4]
    simp (disch := (first | assumption | exact hb0 | exact hb1 | exact bI_ok | exact znl_i | exact znl_r | exact znl_n | exact zw0 | exact zw1 | exact zw2 | exact zw3 | exact zw4 | exact zx0 | exact zx1 | exact zx2 | exact zx3 | ((repeat' (first | assumption | apply zset_eq | apply zset_ne | omega)); done) | ((repeat' (first | exact zscL_nil | refine zscL_i ?_ | refine zscL_n ?_ | refine zscL_r ?_ ?_ | refine zscL_l ?_ | exact zscS_nil | refine zscS_i ?_ | refine zscS_r ?_ ?_ | refine zscS_l ?_ | (simp only [List.length_set, hl]; omega) | omega)); done) | omega | (with_unfolding_all rfl) | fail)) only [v8_0, v8_1, v8_2, v8_3, v8_5, v8_6, v8_9, v8_12, v8_13, v8_14, v8_15, v8_16, v8_17, v8_20, v8_23, v8_24, v8_27, v8_30, v8_31, zAft_v, zAft_n, iN_add, iN_mul, iN_sub, iN_lt, iN_le, iN_eq, bI_0, bI_1, if_pos, if_neg, Nat.reduceAdd, Nat.reduceSub, Nat.reduceMul, Nat.add_zero, Nat.zero_add, List.set_set, m46, m4]
    exact ih (k + 1) (by omega)
theorem m8 {e en pk : Nat} {f : Nat → Int32} (hl : w.length = N) (ha : a < N) (h : w[a]? = some (.inr (0, [.ref b, .int (Int32.ofNat en), .int (Int32.ofNat pk)]))) (h' : w[b]? = some (.inl (0, 30, .inl f))) (hp : pk ≤ 30) (he : e < 32) :
    zm E0 8 [.ref a, .int (Int32.ofNat e)] w = some (.inl (some (.int (mk pk fun p => tb (f p) e))), w, 0, 0) := by
  rw [zm8]
  simp (disch := (first | assumption | exact hb0 | exact hb1 | exact bI_ok | exact znl_i | exact znl_r | exact znl_n | exact zw0 | exact zw1 | exact zw2 | exact zw3 | exact zw4 | exact zx0 | exact zx1 | exact zx2 | exact zx3 | ((repeat' (first | assumption | apply zset_eq | apply zset_ne | omega)); done) | ((repeat' (first | exact zscL_nil | refine zscL_i ?_ | refine zscL_n ?_ | refine zscL_r ?_ ?_ | refine zscL_l ?_ | exact zscS_nil | refine zscS_i ?_ | refine zscS_r ?_ ?_ | refine zscS_l ?_ | (simp only [List.length_set, hl]; omega) | omega)); done) | omega | (with_unfolding_all rfl) | fail)) only [v8_0, v8_1, v8_2, v8_3, v8_5, v8_6, v8_9, v8_12, v8_13, v8_14, v8_15, v8_16, v8_17, v8_20, v8_23, v8_24, v8_27, v8_30, v8_31, zAft_v, zAft_n, iN_add, iN_mul, iN_sub, iN_lt, iN_le, iN_eq, bI_0, bI_1, if_pos, if_neg, Nat.reduceAdd, Nat.reduceSub, Nat.reduceMul, Nat.add_zero, Nat.zero_add, List.set_set]
  exact m8l hl ha h h' hp he pk 0 (by omega)
/-- a line of a pick or of an end -/
def ln (f : Nat → Int32) (pk : Nat) (v : Bool) (i : Nat) : Int32 := if v = true then f i else mk pk fun p => tb (f p) i
theorem m7 {i en pk : Nat} {f : Nat → Int32} {v : Bool} (hl : w.length = N) (ha : a < N) (h : w[a]? = some (.inr (0, [.ref b, .int (Int32.ofNat en), .int (Int32.ofNat pk)]))) (h' : w[b]? = some (.inl (0, 30, .inl f))) (hp : pk ≤ 30) (hi : i < 30) :
    zm E0 7 [.ref a, .int (bI v), .int (Int32.ofNat i)] w = some (.inl (some (.int (ln f pk v i))), w, 0, 0) := by
  rw [zm7]
  simp (disch := (first | assumption | exact hb0 | exact hb1 | exact bI_ok | exact znl_i | exact znl_r | exact znl_n | exact zw0 | exact zw1 | exact zw2 | exact zw3 | exact zw4 | exact zx0 | exact zx1 | exact zx2 | exact zx3 | ((repeat' (first | assumption | apply zset_eq | apply zset_ne | omega)); done) | ((repeat' (first | exact zscL_nil | refine zscL_i ?_ | refine zscL_n ?_ | refine zscL_r ?_ ?_ | refine zscL_l ?_ | exact zscS_nil | refine zscS_i ?_ | refine zscS_r ?_ ?_ | refine zscS_l ?_ | (simp only [List.length_set, hl]; omega) | omega)); done) | omega | (with_unfolding_all rfl) | fail)) only [v7_0, v7_1, v7_4, v7_5, v7_8, v7_9, v7_10, v7_13, v7_14, v7_15, v7_18, zAft_v, zAft_n, iN_add, iN_mul, iN_sub, iN_lt, iN_le, iN_eq, bI_0, bI_1, if_pos, if_neg, Nat.reduceAdd, Nat.reduceSub, Nat.reduceMul, Nat.add_zero, Nat.zero_add, List.set_set, m8]
  unfold ln
  cases v <;> rfl
theorem m9l {i en pk : Nat} {f : Nat → Int32} {v : Bool} (hl : w.length = N) (ha : a < N) (h : w[a]? = some (.inr (0, [.ref b, .int (Int32.ofNat en), .int (Int32.ofNat pk)]))) (h' : w[b]? = some (.inl (0, 30, .inl f))) (hp : pk ≤ 30) (hi : i < 30) :
    ∀ (d k : Nat), k + d = i → zval E0 none 9 (10, [some (.ref a), some (.int (bI v)), some (.int (Int32.ofNat i)), some (.int (ln f pk v i)), some (.int (Int32.ofNat k))], [], w, 0, 0) = some (.inl (some (.int (Int32.ofNat (fst (fun j => decide (ln f pk v j = ln f pk v i)) d k)))), w, 0, 0) := by
  intro d
  induction d with
  | zero =>
    intro k hk
    obtain rfl : k = i := hk
    rw [v9_10]
    simp (disch := (first | assumption | exact hb0 | exact hb1 | exact bI_ok | exact znl_i | exact znl_r | exact znl_n | exact zw0 | exact zw1 | exact zw2 | exact zw3 | exact zw4 | exact zx0 | exact zx1 | exact zx2 | exact zx3 | ((repeat' (first | assumption | apply zset_eq | apply zset_ne | omega)); done) | ((repeat' (first | exact zscL_nil | refine zscL_i ?_ | refine zscL_n ?_ | refine zscL_r ?_ ?_ | refine zscL_l ?_ | exact zscS_nil | refine zscS_i ?_ | refine zscS_r ?_ ?_ | refine zscS_l ?_ | (simp only [List.length_set, hl]; omega) | omega)); done) | omega | (with_unfolding_all rfl) | fail)) only [v9_0, v9_1, v9_2, v9_3, v9_6, v9_7, v9_8, v9_12, v9_13, v9_16, v9_17, v9_18, v9_20, v9_23, v9_24, v9_27, v9_29, v9_30, v9_33, v9_36, v9_37, zAft_v, zAft_n, iN_add, iN_mul, iN_sub, iN_lt, iN_le, iN_eq, bI_0, bI_1, if_pos, if_neg, Nat.reduceAdd, Nat.reduceSub, Nat.reduceMul, Nat.add_zero, Nat.zero_add, List.set_set]
    rfl
  | succ d ih =>
    intro k hk
    rw [v9_10, fst]
    by_cases e : ln f pk v k = ln f pk v i
    · simp (disch := (first | assumption | exact hb0 | exact hb1 | exact bI_ok | exact znl_i | exact znl_r | exact znl_n | exact zw0 | exact zw1 | exact zw2 | exact zw3 | exact zw4 | exact zx0 | exact zx1 | exact zx2 | exact zx3 | ((repeat' (first | assumption | apply zset_eq | apply zset_ne | omega)); done) | ((repeat' (first | exact zscL_nil | refine zscL_i ?_ | refine zscL_n ?_ | refine zscL_r ?_ ?_ | refine zscL_l ?_ | exact zscS_nil | refine zscS_i ?_ | refine zscS_r ?_ ?_ | refine zscS_l ?_ | (simp only [List.length_set, hl]; omega) | omega)); done) | omega | (with_unfolding_all rfl) | fail)) only [v9_0, v9_1, v9_2, v9_3, v9_6, v9_7, v9_8, v9_12, v9_13, v9_16, v9_17, v9_18, v9_20, v9_23, v9_24, v9_27, v9_29, v9_30, v9_33, v9_36, v9_37, zAft_v, zAft_n, iN_add, iN_mul, iN_sub, iN_lt, iN_le, iN_eq, bI_0, bI_1, if_pos, if_neg, Nat.reduceAdd, Nat.reduceSub, Nat.reduceMul, Nat.add_zero, Nat.zero_add, List.set_set, m7]
      simp [e]
    · simp (disch := (first | assumption | exact hb0 | exact hb1 | exact bI_ok | exact znl_i | exact znl_r | exact znl_n | exact zw0 | exact zw1 | exact zw2 | exact zw3 | exact zw4 | exact zx0 | exact zx1 | exact zx2 | exact zx3 | ((repeat' (first | assumption | apply zset_eq | apply zset_ne | omega)); done) | ((repeat' (first | exact zscL_nil | refine zscL_i ?_ | refine zscL_n ?_ | refine zscL_r ?_ ?_ | refine zscL_l ?_ | exact zscS_nil | refine zscS_i ?_ | refine zscS_r ?_ ?_ | refine zscS_l ?_ | (simp only [List.length_set, hl]; omega) | omega)); done) | omega | (with_unfolding_all rfl) | fail)) only [v9_0, v9_1, v9_2, v9_3, v9_6, v9_7, v9_8, v9_12, v9_13, v9_16, v9_17, v9_18, v9_20, v9_23, v9_24, v9_27, v9_29, v9_30, v9_33, v9_36, v9_37, zAft_v, zAft_n, iN_add, iN_mul, iN_sub, iN_lt, iN_le, iN_eq, bI_0, bI_1, if_pos, if_neg, Nat.reduceAdd, Nat.reduceSub, Nat.reduceMul, Nat.add_zero, Nat.zero_add, List.set_set, m7]
      rw [ih (k + 1) (by omega)]
      simp [e]
theorem m9 {i en pk : Nat} {f : Nat → Int32} {v : Bool} (hl : w.length = N) (ha : a < N) (h : w[a]? = some (.inr (0, [.ref b, .int (Int32.ofNat en), .int (Int32.ofNat pk)]))) (h' : w[b]? = some (.inl (0, 30, .inl f))) (hp : pk ≤ 30) (hi : i < 30) :
    zm E0 9 [.ref a, .int (bI v), .int (Int32.ofNat i)] w = some (.inl (some (.int (Int32.ofNat (fst (fun j => decide (ln f pk v j = ln f pk v i)) i 0)))), w, 0, 0) := by
  rw [zm9]
  simp (disch := (first | assumption | exact hb0 | exact hb1 | exact bI_ok | exact znl_i | exact znl_r | exact znl_n | exact zw0 | exact zw1 | exact zw2 | exact zw3 | exact zw4 | exact zx0 | exact zx1 | exact zx2 | exact zx3 | ((repeat' (first | assumption | apply zset_eq | apply zset_ne | omega)); done) | ((repeat' (first | exact zscL_nil | refine zscL_i ?_ | refine zscL_n ?_ | refine zscL_r ?_ ?_ | refine zscL_l ?_ | exact zscS_nil | refine zscS_i ?_ | refine zscS_r ?_ ?_ | refine zscS_l ?_ | (simp only [List.length_set, hl]; omega) | omega)); done) | omega | (with_unfolding_all rfl) | fail)) only [v9_0, v9_1, v9_2, v9_3, v9_6, v9_7, v9_8, v9_12, v9_13, v9_16, v9_17, v9_18, v9_20, v9_23, v9_24, v9_27, v9_29, v9_30, v9_33, v9_36, v9_37, zAft_v, zAft_n, iN_add, iN_mul, iN_sub, iN_lt, iN_le, iN_eq, bI_0, bI_1, if_pos, if_neg, Nat.reduceAdd, Nat.reduceSub, Nat.reduceMul, Nat.add_zero, Nat.zero_add, List.set_set, m7]
  exact m9l hl ha h h' hp hi i 0 (by omega)
theorem m11l {s en pk : Nat} {f : Nat → Int32} {v : Bool} (hl : w.length = N) (ha : a < N) (h : w[a]? = some (.inr (0, [.ref b, .int (Int32.ofNat en), .int (Int32.ofNat pk)]))) (h' : w[b]? = some (.inl (0, 30, .inl f))) (hp : pk ≤ 30) (he : en ≤ 30) (hs : s ≤ 30) {n : Nat} (hn : n ≤ 30) :
    ∀ (d k : Nat), k + d = n - s → zval E0 none 11 (9, [some (.ref a), some (.int (bI v)), some (.int (Int32.ofNat s)), some (.int (Int32.ofNat n)), some (.int (Int32.ofNat k))], [], w, 0, 0) = some (.inl (some (.int (bI (al (fun i => decide (ln f pk v i = ln f pk v (i + s))) d k)))), w, 0, 0) := by
  intro d
  induction d with
  | zero =>
    intro k hk
    rw [v11_9]
    simp (disch := (first | assumption | exact hb0 | exact hb1 | exact bI_ok | exact znl_i | exact znl_r | exact znl_n | exact zw0 | exact zw1 | exact zw2 | exact zw3 | exact zw4 | exact zx0 | exact zx1 | exact zx2 | exact zx3 | ((repeat' (first | assumption | apply zset_eq | apply zset_ne | omega)); done) | ((repeat' (first | exact zscL_nil | refine zscL_i ?_ | refine zscL_n ?_ | refine zscL_r ?_ ?_ | refine zscL_l ?_ | exact zscS_nil | refine zscS_i ?_ | refine zscS_r ?_ ?_ | refine zscS_l ?_ | (simp only [List.length_set, hl]; omega) | omega)); done) | omega | (with_unfolding_all rfl) | fail)) only [v11_0, v11_1, v11_2, v11_5, v11_6, v11_7, v11_11, v11_12, v11_13, v11_14, v11_17, v11_18, v11_19, v11_21, v11_24, v11_25, v11_26, v11_28, v11_29, v11_30, v11_33, v11_36, v11_37, v11_38, v11_41, v11_44, v11_45, zAft_v, zAft_n, iN_add, iN_mul, iN_sub, iN_lt, iN_le, iN_eq, bI_0, bI_1, if_pos, if_neg, Nat.reduceAdd, Nat.reduceSub, Nat.reduceMul, Nat.add_zero, Nat.zero_add, List.set_set]
    rfl
  | succ d ih =>
    intro k hk
    rw [v11_9, al]
    by_cases e : ln f pk v k = ln f pk v (k + s)
    · simp (disch := (first | assumption | exact hb0 | exact hb1 | exact bI_ok | exact znl_i | exact znl_r | exact znl_n | exact zw0 | exact zw1 | exact zw2 | exact zw3 | exact zw4 | exact zx0 | exact zx1 | exact zx2 | exact zx3 | ((repeat' (first | assumption | apply zset_eq | apply zset_ne | omega)); done) | ((repeat' (first | exact zscL_nil | refine zscL_i ?_ | refine zscL_n ?_ | refine zscL_r ?_ ?_ | refine zscL_l ?_ | exact zscS_nil | refine zscS_i ?_ | refine zscS_r ?_ ?_ | refine zscS_l ?_ | (simp only [List.length_set, hl]; omega) | omega)); done) | omega | (with_unfolding_all rfl) | fail)) only [v11_0, v11_1, v11_2, v11_5, v11_6, v11_7, v11_11, v11_12, v11_13, v11_14, v11_17, v11_18, v11_19, v11_21, v11_24, v11_25, v11_26, v11_28, v11_29, v11_30, v11_33, v11_36, v11_37, v11_38, v11_41, v11_44, v11_45, zAft_v, zAft_n, iN_add, iN_mul, iN_sub, iN_lt, iN_le, iN_eq, bI_0, bI_1, if_pos, if_neg, Nat.reduceAdd, Nat.reduceSub, Nat.reduceMul, Nat.add_zero, Nat.zero_add, List.set_set, m7]
      rw [ih (k + 1) (by omega)]
      simp [e]
    · simp (disch := (first | assumption | exact hb0 | exact hb1 | exact bI_ok | exact znl_i | exact znl_r | exact znl_n | exact zw0 | exact zw1 | exact zw2 | exact zw3 | exact zw4 | exact zx0 | exact zx1 | exact zx2 | exact zx3 | ((repeat' (first | assumption | apply zset_eq | apply zset_ne | omega)); done) | ((repeat' (first | exact zscL_nil | refine zscL_i ?_ | refine zscL_n ?_ | refine zscL_r ?_ ?_ | refine zscL_l ?_ | exact zscS_nil | refine zscS_i ?_ | refine zscS_r ?_ ?_ | refine zscS_l ?_ | (simp only [List.length_set, hl]; omega) | omega)); done) | omega | (with_unfolding_all rfl) | fail)) only [v11_0, v11_1, v11_2, v11_5, v11_6, v11_7, v11_11, v11_12, v11_13, v11_14, v11_17, v11_18, v11_19, v11_21, v11_24, v11_25, v11_26, v11_28, v11_29, v11_30, v11_33, v11_36, v11_37, v11_38, v11_41, v11_44, v11_45, zAft_v, zAft_n, iN_add, iN_mul, iN_sub, iN_lt, iN_le, iN_eq, bI_0, bI_1, if_pos, if_neg, Nat.reduceAdd, Nat.reduceSub, Nat.reduceMul, Nat.add_zero, Nat.zero_add, List.set_set, m7]
      simp [e, bI]
theorem m11 {s en pk : Nat} {f : Nat → Int32} {v : Bool} (hl : w.length = N) (ha : a < N) (h : w[a]? = some (.inr (0, [.ref b, .int (Int32.ofNat en), .int (Int32.ofNat pk)]))) (h' : w[b]? = some (.inl (0, 30, .inl f))) (hp : pk ≤ 30) (he : en ≤ 30) (hs : s ≤ 30) {n : Nat} (hn : n = if v = true then pk else en) :
    zm E0 11 [.ref a, .int (bI v), .int (Int32.ofNat s)] w = some (.inl (some (.int (bI (al (fun i => decide (ln f pk v i = ln f pk v (i + s))) (n - s) 0)))), w, 0, 0) := by
  rw [zm11]
  simp (disch := (first | assumption | exact hb0 | exact hb1 | exact bI_ok | exact znl_i | exact znl_r | exact znl_n | exact zw0 | exact zw1 | exact zw2 | exact zw3 | exact zw4 | exact zx0 | exact zx1 | exact zx2 | exact zx3 | ((repeat' (first | assumption | apply zset_eq | apply zset_ne | omega)); done) | ((repeat' (first | exact zscL_nil | refine zscL_i ?_ | refine zscL_n ?_ | refine zscL_r ?_ ?_ | refine zscL_l ?_ | exact zscS_nil | refine zscS_i ?_ | refine zscS_r ?_ ?_ | refine zscS_l ?_ | (simp only [List.length_set, hl]; omega) | omega)); done) | omega | (with_unfolding_all rfl) | fail)) only [v11_0, v11_1, v11_2, v11_5, v11_6, v11_7, v11_11, v11_12, v11_13, v11_14, v11_17, v11_18, v11_19, v11_21, v11_24, v11_25, v11_26, v11_28, v11_29, v11_30, v11_33, v11_36, v11_37, v11_38, v11_41, v11_44, v11_45, zAft_v, zAft_n, iN_add, iN_mul, iN_sub, iN_lt, iN_le, iN_eq, bI_0, bI_1, if_pos, if_neg, Nat.reduceAdd, Nat.reduceSub, Nat.reduceMul, Nat.add_zero, Nat.zero_add, List.set_set, m6]
  rw [← hn]
  exact m11l hl ha h h' hp he hs (by subst hn; split <;> omega) (n - s) 0 (by omega)
theorem m10l {en pk : Nat} {f : Nat → Int32} {v : Bool} (hl : w.length = N) (ha : a < N) (h : w[a]? = some (.inr (0, [.ref b, .int (Int32.ofNat en), .int (Int32.ofNat pk)]))) (h' : w[b]? = some (.inl (0, 30, .inl f))) (hp : pk ≤ 30) (he : en ≤ 30) {n : Nat} (hn : n = if v = true then pk else en) (hn' : n ≤ 30) :
    ∀ (d k : Nat), k + d = n → zval E0 none 10 (8, [some (.ref a), some (.int (bI v)), some (.int (Int32.ofNat n)), some (.int (Int32.ofNat k))], [], w, 0, 0) = some (.inl (some (.int (Int32.ofNat (fst (fun s => al (fun i => decide (ln f pk v i = ln f pk v (i + s))) (n - s) 0) d k)))), w, 0, 0) := by
  intro d
  induction d with
  | zero =>
    intro k hk
    rw [v10_8]
    simp (disch := (first | assumption | exact hb0 | exact hb1 | exact bI_ok | exact znl_i | exact znl_r | exact znl_n | exact zw0 | exact zw1 | exact zw2 | exact zw3 | exact zw4 | exact zx0 | exact zx1 | exact zx2 | exact zx3 | ((repeat' (first | assumption | apply zset_eq | apply zset_ne | omega)); done) | ((repeat' (first | exact zscL_nil | refine zscL_i ?_ | refine zscL_n ?_ | refine zscL_r ?_ ?_ | refine zscL_l ?_ | exact zscS_nil | refine zscS_i ?_ | refine zscS_r ?_ ?_ | refine zscS_l ?_ | (simp only [List.length_set, hl]; omega) | omega)); done) | omega | (with_unfolding_all rfl) | fail)) only [v10_0, v10_1, v10_2, v10_5, v10_6, v10_7, v10_9, v10_10, v10_13, v10_14, v10_15, v10_16, v10_19, v10_22, v10_23, v10_24, v10_27, v10_30, v10_31, zAft_v, zAft_n, iN_add, iN_mul, iN_sub, iN_lt, iN_le, iN_eq, bI_0, bI_1, if_pos, if_neg, Nat.reduceAdd, Nat.reduceSub, Nat.reduceMul, Nat.add_zero, Nat.zero_add, List.set_set]
    rw [fst, show k = n from hk]
  | succ d ih =>
    intro k hk
    rw [v10_8, fst]
    have hm := m11 (v := v) (s := k) hl ha h h' hp he (by omega) hn
    cases e : al (fun i => decide (ln f pk v i = ln f pk v (i + k))) (n - k) 0
    · rw [e] at hm
      simp (disch := (first | assumption | exact hb0 | exact hb1 | exact bI_ok | exact znl_i | exact znl_r | exact znl_n | exact zw0 | exact zw1 | exact zw2 | exact zw3 | exact zw4 | exact zx0 | exact zx1 | exact zx2 | exact zx3 | ((repeat' (first | assumption | apply zset_eq | apply zset_ne | omega)); done) | ((repeat' (first | exact zscL_nil | refine zscL_i ?_ | refine zscL_n ?_ | refine zscL_r ?_ ?_ | refine zscL_l ?_ | exact zscS_nil | refine zscS_i ?_ | refine zscS_r ?_ ?_ | refine zscS_l ?_ | (simp only [List.length_set, hl]; omega) | omega)); done) | omega | (with_unfolding_all rfl) | fail)) only [v10_0, v10_1, v10_2, v10_5, v10_6, v10_7, v10_9, v10_10, v10_13, v10_14, v10_15, v10_16, v10_19, v10_22, v10_23, v10_24, v10_27, v10_30, v10_31, zAft_v, zAft_n, iN_add, iN_mul, iN_sub, iN_lt, iN_le, iN_eq, bI_0, bI_1, if_pos, if_neg, Nat.reduceAdd, Nat.reduceSub, Nat.reduceMul, Nat.add_zero, Nat.zero_add, List.set_set, hm]
      rw [ih (k + 1) (by omega)]
      rfl
    · rw [e] at hm
      simp (disch := (first | assumption | exact hb0 | exact hb1 | exact bI_ok | exact znl_i | exact znl_r | exact znl_n | exact zw0 | exact zw1 | exact zw2 | exact zw3 | exact zw4 | exact zx0 | exact zx1 | exact zx2 | exact zx3 | ((repeat' (first | assumption | apply zset_eq | apply zset_ne | omega)); done) | ((repeat' (first | exact zscL_nil | refine zscL_i ?_ | refine zscL_n ?_ | refine zscL_r ?_ ?_ | refine zscL_l ?_ | exact zscS_nil | refine zscS_i ?_ | refine zscS_r ?_ ?_ | refine zscS_l ?_ | (simp only [List.length_set, hl]; omega) | omega)); done) | omega | (with_unfolding_all rfl) | fail)) only [v10_0, v10_1, v10_2, v10_5, v10_6, v10_7, v10_9, v10_10, v10_13, v10_14, v10_15, v10_16, v10_19, v10_22, v10_23, v10_24, v10_27, v10_30, v10_31, zAft_v, zAft_n, iN_add, iN_mul, iN_sub, iN_lt, iN_le, iN_eq, bI_0, bI_1, if_pos, if_neg, Nat.reduceAdd, Nat.reduceSub, Nat.reduceMul, Nat.add_zero, Nat.zero_add, List.set_set, hm]
      rfl
theorem m10 {en pk : Nat} {f : Nat → Int32} {v : Bool} (hl : w.length = N) (ha : a < N) (h : w[a]? = some (.inr (0, [.ref b, .int (Int32.ofNat en), .int (Int32.ofNat pk)]))) (h' : w[b]? = some (.inl (0, 30, .inl f))) (hp : pk ≤ 30) (he : en ≤ 30) {n : Nat} (hn : n = if v = true then pk else en) (h1 : 1 ≤ n) :
    zm E0 10 [.ref a, .int (bI v)] w = some (.inl (some (.int (Int32.ofNat (fst (fun s => al (fun i => decide (ln f pk v i = ln f pk v (i + s))) (n - s) 0) (n - 1) 1)))), w, 0, 0) := by
  rw [zm10]
  simp (disch := (first | assumption | exact hb0 | exact hb1 | exact bI_ok | exact znl_i | exact znl_r | exact znl_n | exact zw0 | exact zw1 | exact zw2 | exact zw3 | exact zw4 | exact zx0 | exact zx1 | exact zx2 | exact zx3 | ((repeat' (first | assumption | apply zset_eq | apply zset_ne | omega)); done) | ((repeat' (first | exact zscL_nil | refine zscL_i ?_ | refine zscL_n ?_ | refine zscL_r ?_ ?_ | refine zscL_l ?_ | exact zscS_nil | refine zscS_i ?_ | refine zscS_r ?_ ?_ | refine zscS_l ?_ | (simp only [List.length_set, hl]; omega) | omega)); done) | omega | (with_unfolding_all rfl) | fail)) only [v10_0, v10_1, v10_2, v10_5, v10_6, v10_7, v10_9, v10_10, v10_13, v10_14, v10_15, v10_16, v10_19, v10_22, v10_23, v10_24, v10_27, v10_30, v10_31, zAft_v, zAft_n, iN_add, iN_mul, iN_sub, iN_lt, iN_le, iN_eq, bI_0, bI_1, if_pos, if_neg, Nat.reduceAdd, Nat.reduceSub, Nat.reduceMul, Nat.add_zero, Nat.zero_add, List.set_set, m6]
  rw [← hn]
  exact m10l hl ha h h' hp he hn (by subst hn; split <;> omega) (n - 1) 1 (by omega)
-- filling
theorem upd_all {f : Nat → Int32} {n k : Nat} {x : Int32} (h : ∀ i, i < k → f i = x) : ∀ i, i < k + 1 → upd f k x i = x := by
  intro i hi
  by_cases e : i = k
  · subst e; simp [upd]
  · simp only [upd]
    rw [if_neg e]
    exact h i (by omega)
theorem m91l {n : Nat} {x : Int32} (hn : Nat.ble n 100000 = true) :
    ∀ (d k : Nat) (w : zW) (f : Nat → Int32), k + d = n → w[a]? = some (.inl (0, n, .inl f)) → (∀ i, i < k → f i = x) → ∃ g, (∀ i, i < n → g i = x) ∧ zval E0 none 91 (5, [some (.ref a), some (.int x), some (.int (Int32.ofNat k)), some (.int (Int32.ofNat n))], [], w, 0, 0) = some (.inl none, w.set a (.inl (0, n, .inl g)), 0, 0) := by
  have hn' := Nat.le_of_ble_eq_true hn
  intro d
  induction d with
  | zero =>
    intro k w f hk h hf
    obtain rfl : k = n := hk
    refine ⟨f, hf, ?_⟩
    rw [v91_5]
    simp (disch := (first | assumption | exact hb0 | exact hb1 | exact bI_ok | exact znl_i | exact znl_r | exact znl_n | exact zw0 | exact zw1 | exact zw2 | exact zw3 | exact zw4 | exact zx0 | exact zx1 | exact zx2 | exact zx3 | ((repeat' (first | assumption | apply zset_eq | apply zset_ne | omega)); done) | omega | (with_unfolding_all rfl) | fail)) only [v91_0, v91_1, v91_2, v91_3, v91_4, v91_6, v91_7, v91_10, v91_11, v91_12, v91_13, v91_14, v91_17, v91_20, zAft_v, zAft_n, iN_add, iN_mul, iN_sub, iN_lt, iN_le, iN_eq, bI_0, bI_1, if_pos, if_neg, Nat.reduceAdd, Nat.reduceSub, Nat.reduceMul, Nat.add_zero, Nat.zero_add, List.set_set]
    rw [zset_id h]
  | succ d ih =>
    intro k w f hk h hf
    obtain ⟨g, hg, e⟩ := ih (k + 1) (w.set a (.inl (0, n, .inl (upd f k x)))) (upd f k x) (by omega) (zset_eq h) (upd_all (n := n) hf)
    refine ⟨g, hg, ?_⟩
    rw [v91_5]
    simp (disch := (first | assumption | exact hb0 | exact hb1 | exact bI_ok | exact znl_i | exact znl_r | exact znl_n | exact zw0 | exact zw1 | exact zw2 | exact zw3 | exact zw4 | exact zx0 | exact zx1 | exact zx2 | exact zx3 | ((repeat' (first | assumption | apply zset_eq | apply zset_ne | omega)); done) | omega | (with_unfolding_all rfl) | fail)) only [v91_0, v91_1, v91_2, v91_3, v91_4, v91_6, v91_7, v91_10, v91_11, v91_12, v91_13, v91_14, v91_17, v91_20, zAft_v, zAft_n, iN_add, iN_mul, iN_sub, iN_lt, iN_le, iN_eq, bI_0, bI_1, if_pos, if_neg, Nat.reduceAdd, Nat.reduceSub, Nat.reduceMul, Nat.add_zero, Nat.zero_add, List.set_set]
    rw [e, List.set_set]
theorem m91 {n : Nat} {x : Int32} {f : Nat → Int32} (hn : Nat.ble n 100000 = true) (h : w[a]? = some (.inl (0, n, .inl f))) :
    ∃ g, (∀ i, i < n → g i = x) ∧ zm E0 91 [.ref a, .int x] w = some (.inl none, w.set a (.inl (0, n, .inl g)), 0, 0) := by
  obtain ⟨g, hg, e⟩ := m91l (x := x) hn n 0 w f (by omega) h (fun i hi => absurd hi (by omega))
  refine ⟨g, hg, ?_⟩
  rw [zm91]
  simp (disch := (first | assumption | exact hb0 | exact hb1 | exact bI_ok | exact znl_i | exact znl_r | exact znl_n | exact zw0 | exact zw1 | exact zw2 | exact zw3 | exact zw4 | exact zx0 | exact zx1 | exact zx2 | exact zx3 | ((repeat' (first | assumption | apply zset_eq | apply zset_ne | omega)); done) | omega | (with_unfolding_all rfl) | fail)) only [v91_0, v91_1, v91_2, v91_3, v91_4, v91_6, v91_7, v91_10, v91_11, v91_12, v91_13, v91_14, v91_17, v91_20, zAft_v, zAft_n, iN_add, iN_mul, iN_sub, iN_lt, iN_le, iN_eq, bI_0, bI_1, if_pos, if_neg, Nat.reduceAdd, Nat.reduceSub, Nat.reduceMul, Nat.add_zero, Nat.zero_add, List.set_set]
  exact e
theorem m2 {en pk : Nat} {f : Nat → Int32} {x : Int32} (h : w[a]? = some (.inr (0, [.ref b, .int (Int32.ofNat en), .int (Int32.ofNat pk)]))) (h' : w[b]? = some (.inl (0, 30, .inl f))) (hn : pk < 30) (hab : ¬ a = b) :
    zm E0 2 [.ref a, .int x] w = some (.inl none, (w.set b (.inl (0, 30, .inl (upd f pk x)))).set a (.inr (0, [.ref b, .int (Int32.ofNat en), .int (Int32.ofNat (pk + 1))])), 0, 0) := by
  rw [zm2]
  simp (disch := (first | assumption | exact hb0 | exact hb1 | exact bI_ok | exact znl_i | exact znl_r | exact znl_n | exact zw0 | exact zw1 | exact zw2 | exact zw3 | exact zw4 | exact zx0 | exact zx1 | exact zx2 | exact zx3 | ((repeat' (first | assumption | apply zset_eq | apply zset_ne | omega)); done) | omega | (with_unfolding_all rfl) | fail)) only [v2_0, v2_1, v2_4, v2_6, v2_9, v2_10, v2_13, v2_14, v2_17, v2_18, v2_19, v2_20i, v2_20r, v2_21, v2_24, v2_25, v2_26, v2_29, zAft_v, zAft_n, iN_add, iN_mul, iN_sub, iN_lt, iN_le, iN_eq, bI_0, bI_1, if_pos, if_neg, Nat.reduceAdd, Nat.reduceSub, Nat.reduceMul, Nat.add_zero, Nat.zero_add, List.set_set]
theorem m1 {x z : Int32} {en pk : Int32} {f : Nat → Int32} (hl : w.length = N) (ha : a < N) (hb : b < N) (h : w[a]? = some (.inr (0, [.ref b, .int en, .int pk]))) (h' : w[b]? = some (.inl (0, 30, .inl f))) (hab : ¬ a = b) :
    ∃ g, (∀ i, i < 30 → g i = Int32.ofNat 0) ∧ zm E0 1 [.ref a, .int x, .int z] w = some (.inl none, (w.set a (.inr (0, [.ref b, .int x, .int z]))).set b (.inl (0, 30, .inl g)), 0, 0) := by
  obtain ⟨g, hg, e⟩ := m91 (a := b) (x := Int32.ofNat 0) (w := w.set a (.inr (0, [.ref b, .int x, .int z]))) (n := 30) rfl (zset_ne h' hab)
  refine ⟨g, hg, ?_⟩
  rw [zm1]
  simp (disch := (first | assumption | exact hb0 | exact hb1 | exact bI_ok | exact znl_i | exact znl_r | exact znl_n | exact zw0 | exact zw1 | exact zw2 | exact zw3 | exact zw4 | exact zx0 | exact zx1 | exact zx2 | exact zx3 | ((repeat' (first | assumption | apply zset_eq | apply zset_ne | omega)); done) | ((repeat' (first | exact zscL_nil | refine zscL_i ?_ | refine zscL_n ?_ | refine zscL_r ?_ ?_ | refine zscL_l ?_ | exact zscS_nil | refine zscS_i ?_ | refine zscS_r ?_ ?_ | refine zscS_l ?_ | (simp only [List.length_set, hl]; omega) | omega)); done) | omega | (with_unfolding_all rfl) | fail)) only [v1_0, v1_1, v1_2, v1_5, v1_6, v1_7, v1_10, v1_11, v1_14, v1_15, v1_18, zAft_v, zAft_n, iN_add, iN_mul, iN_sub, iN_lt, iN_le, iN_eq, bI_0, bI_1, if_pos, if_neg, Nat.reduceAdd, Nat.reduceSub, Nat.reduceMul, Nat.add_zero, Nat.zero_add, List.set_set, e]
end leaf
