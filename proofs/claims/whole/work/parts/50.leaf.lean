/-! Small methods of the class's parts, as functions. -/
section leaf
variable {w : zW} {a b : Nat}
theorem m45 {x : Int32} : zm E0 45 [.int x] w = some (.inl (some (.int (bI (decide (Int32.ofNat 0 ≤ x ∧ x < Int32.ofNat 12))))), w, 0, 0) := by
  rw [zm45]
  simp (disch := (first | assumption | (with_unfolding_all rfl) | omega | (refine zset_eq ?_; assumption) | (refine zset_ne ?_ ?_ <;> first | assumption | omega) | (refine zset_ne (zset_eq ?_) ?_ <;> first | assumption | omega) | (refine zset_eq (zset_ne ?_ ?_) <;> first | assumption | omega) | (refine zset_ne (zset_ne ?_ ?_) ?_ <;> first | assumption | omega))) only [v45_0, v45_1, v45_4, v45_5, v45_7, v45_10, v45_11, v45_14, v45_15, zAft_v, zAft_n, iN_add, iN_mul, iN_sub, iN_lt, iN_le, iN_eq, bI_0, bI_1, if_pos, if_neg, Nat.reduceAdd, Nat.reduceSub, Nat.reduceMul, Nat.add_zero, Nat.zero_add, List.set_set]
  trace_state
  sorry
theorem m46 {x : Int32} {i : Nat} {on : Bool} : zm E0 46 [.int x, .int (Int32.ofNat i), .int (bI on)] w = some (.inl (some (.int (wb x i on))), w, 0, 0) := by
  rw [zm46]
  simp (disch := (first | assumption | (with_unfolding_all rfl) | omega | (refine zset_eq ?_; assumption) | (refine zset_ne ?_ ?_ <;> first | assumption | omega) | (refine zset_ne (zset_eq ?_) ?_ <;> first | assumption | omega) | (refine zset_eq (zset_ne ?_ ?_) <;> first | assumption | omega) | (refine zset_ne (zset_ne ?_ ?_) ?_ <;> first | assumption | omega))) only [v46_0, v46_1, v46_4, v46_5, v46_6, v46_7, v46_8, v46_9, v46_12, v46_13, v46_14, v46_15, v46_16, v46_17, v46_18, v46_19, zAft_v, zAft_n, iN_add, iN_mul, iN_sub, iN_lt, iN_le, iN_eq, bI_0, bI_1, if_pos, if_neg, Nat.reduceAdd, Nat.reduceSub, Nat.reduceMul, Nat.add_zero, Nat.zero_add, List.set_set]
  trace_state
  sorry
theorem m22 {n : Nat} {f : Nat → Int32} {x : Int32} (h : w[a]? = some (.inr (2, [.ref b, .int (Int32.ofNat n)]))) (h' : w[b]? = some (.inl (0, 30, .inl f))) (hn : n < 30) (hab : ¬ a = b) :
    zm E0 22 [.ref a, .int x] w = some (.inl none, (w.set b (.inl (0, 30, .inl (upd f n x)))).set a (.inr (2, [.ref b, .int (Int32.ofNat (n + 1))])), 0, 0) := by
  rw [zm22]
  simp (disch := (first | assumption | (with_unfolding_all rfl) | omega | (refine zset_eq ?_; assumption) | (refine zset_ne ?_ ?_ <;> first | assumption | omega) | (refine zset_ne (zset_eq ?_) ?_ <;> first | assumption | omega) | (refine zset_eq (zset_ne ?_ ?_) <;> first | assumption | omega) | (refine zset_ne (zset_ne ?_ ?_) ?_ <;> first | assumption | omega))) only [v22_0, v22_1, v22_4, v22_6, v22_9, v22_10, v22_13, v22_14, v22_17, v22_18, v22_19, v22_20i, v22_20r, v22_21, v22_24, v22_25, v22_26, v22_29, zAft_v, zAft_n, iN_add, iN_mul, iN_sub, iN_lt, iN_le, iN_eq, bI_0, bI_1, if_pos, if_neg, Nat.reduceAdd, Nat.reduceSub, Nat.reduceMul, Nat.add_zero, Nat.zero_add, List.set_set]
  trace_state
  sorry
theorem m4 {e p en pk : Nat} {f : Nat → Int32} (h : w[a]? = some (.inr (0, [.ref b, .int (Int32.ofNat en), .int (Int32.ofNat pk)]))) (h' : w[b]? = some (.inl (0, 30, .inl f))) (hp : p < 30) (he : e < 32) :
    zm E0 4 [.ref a, .int (Int32.ofNat e), .int (Int32.ofNat p)] w = some (.inl (some (.int (bI (tb (f p) e)))), w, 0, 0) := by
  rw [zm4]
  simp (disch := (first | assumption | (with_unfolding_all rfl) | omega | (refine zset_eq ?_; assumption) | (refine zset_ne ?_ ?_ <;> first | assumption | omega) | (refine zset_ne (zset_eq ?_) ?_ <;> first | assumption | omega) | (refine zset_eq (zset_ne ?_ ?_) <;> first | assumption | omega) | (refine zset_ne (zset_ne ?_ ?_) ?_ <;> first | assumption | omega))) only [v4_0, v4_1, v4_4, v4_5, v4_6, v4_7, v4_8, v4_9, v4_10, v4_11, v4_14, v4_15, v4_18, v4_19, zAft_v, zAft_n, iN_add, iN_mul, iN_sub, iN_lt, iN_le, iN_eq, bI_0, bI_1, if_pos, if_neg, Nat.reduceAdd, Nat.reduceSub, Nat.reduceMul, Nat.add_zero, Nat.zero_add, List.set_set, tb_test]
  trace_state
  sorry
end leaf
