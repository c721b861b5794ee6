/-! The pile's methods. -/
theorem tl_ge {x : Int64} {j : Nat} (h : 64 ≤ j) : tl x j = false := BitVec.getLsbD_of_ge x.toBitVec j h
theorem all1 : ∀ T, T < 61 → ∀ j, j < 64 → tl ((1 <<< ((Int32.ofNat T).toInt64 &&& 63)) - 1) j = decide (j < T) := by decide +kernel
theorem tl_0 (j : Nat) : tl 0 j = false := by
  show (0#64).getLsbD j = false
  simp
section pile
variable {w : zW}
theorem m19 {x : Int64} {i : Nat} (hi : i < 64) : zm E0 19 [.long x, .int (Int32.ofNat i)] w = some (.inl (some (.int (bI (tl x i)))), w, 0, 0) := by
  have e := tl_testN (x := x) hi
  rw [zm19]
  cases h : tl x i
  · rw [h, if_neg (by decide)] at e
    have h1 : ¬ (0 : Int64) = 1 := by decide
    simp (disch := (first | assumption | exact hb0 | exact hb1 | exact bI_ok | exact znl_i | exact znl_r | exact znl_n | exact zw0 | exact zw1 | exact zw2 | exact zw3 | exact zw4 | exact zx0 | exact zx1 | exact zx2 | exact zx3 | ((repeat' (first | assumption | apply zset_eq | apply zset_ne | omega)); done) | omega | (with_unfolding_all rfl) | fail)) only [v19_0, v19_1, v19_2, v19_3, v19_4, v19_5, v19_6, v19_7, v19_10, v19_11, v19_14, v19_15, zAft_v, zAft_n, iN_add, iN_mul, iN_sub, iN_lt, iN_le, iN_eq, bI_0, bI_1, if_pos, if_neg, ifnn, Nat.reduceAdd, Nat.reduceSub, Nat.reduceMul, Nat.add_zero, Nat.zero_add, List.set_set, not_true_eq_false, not_false_eq_true, if_true, if_false, reduceCtorEq, e, lc_eq]
    try rfl
  · rw [h, if_pos rfl] at e
    simp (disch := (first | assumption | exact hb0 | exact hb1 | exact bI_ok | exact znl_i | exact znl_r | exact znl_n | exact zw0 | exact zw1 | exact zw2 | exact zw3 | exact zw4 | exact zx0 | exact zx1 | exact zx2 | exact zx3 | ((repeat' (first | assumption | apply zset_eq | apply zset_ne | omega)); done) | omega | (with_unfolding_all rfl) | fail)) only [v19_0, v19_1, v19_2, v19_3, v19_4, v19_5, v19_6, v19_7, v19_10, v19_11, v19_14, v19_15, zAft_v, zAft_n, iN_add, iN_mul, iN_sub, iN_lt, iN_le, iN_eq, bI_0, bI_1, if_pos, if_neg, ifnn, Nat.reduceAdd, Nat.reduceSub, Nat.reduceMul, Nat.add_zero, Nat.zero_add, List.set_set, not_true_eq_false, not_false_eq_true, if_true, if_false, reduceCtorEq, e, lc_eq]
    try rfl
theorem m18l {g : Nat → Int64} {i T : Nat} {lf : Int64} (hl : w.length = 29) (h10 : w[10]? = some (.inr (1, [.ref 11, .ref 12, .int (Int32.ofNat T)]))) (h11 : w[11]? = some (.inl (1, 60, .inr (.inl g)))) (hT : T ≤ 60) (hi : i < T) :
    ∀ (d k : Nat), k + d = T → zval E0 none 18 (13, [some (.ref 10), some (.int (Int32.ofNat i)), some (.long lf), none, some (.long (g i &&& lf)), none, some (.int (Int32.ofNat k))], [], w, 0, 0) = some (.inl (some (.int (bI (al (fun j => !(tl lf j && tl (g i) j && !(tl (g j) i))) d k)))), w, 0, 0) := by
  intro d
  induction d with
  | zero =>
    intro k hk
    rw [v18_13]
    simp (disch := (first | assumption | exact hb0 | exact hb1 | exact bI_ok | exact znl_i | exact znl_r | exact znl_n | exact zw0 | exact zw1 | exact zw2 | exact zw3 | exact zw4 | exact zx0 | exact zx1 | exact zx2 | exact zx3 | ((repeat' (first | assumption | apply zset_eq | apply zset_ne | omega)); done) | ((repeat' (first | exact zscL_nil | refine zscL_i ?_ | refine zscL_n ?_ | refine zscL_r ?_ ?_ | refine zscL_l ?_ | exact zscS_nil | refine zscS_i ?_ | refine zscS_r ?_ ?_ | refine zscS_l ?_ | (simp only [List.length_set, hl]; first | omega | assumption) | omega)); done) | omega | (with_unfolding_all rfl) | fail)) only [v18_0, v18_1, v18_4, v18_5, v18_6, v18_7, v18_8, v18_10, v18_11, v18_15, v18_16, v18_19, v18_22, v18_24, v18_26, v18_29, v18_32, v18_33, v18_36, v18_38, v18_39, v18_40, v18_43, v18_46, v18_47, v18_48, v18_51, v18_54, v18_55, zAft_v, zAft_n, iN_add, iN_mul, iN_sub, iN_lt, iN_le, iN_eq, bI_0, bI_1, if_pos, if_neg, ifnn, Nat.reduceAdd, Nat.reduceSub, Nat.reduceMul, Nat.add_zero, Nat.zero_add, List.set_set, not_true_eq_false, not_false_eq_true, if_true, if_false, reduceCtorEq]
    try rfl
  | succ d ih =>
    intro k hk
    have e1 := m19 (w := w) (x := g i &&& lf) (i := k) (by omega)
    have e2 := m19 (w := w) (x := g k) (i := i) (by omega)
    have e3 := ih (k + 1) (by omega)
    rw [tl_and] at e1
    rw [v18_13, al]
    cases x1 : tl lf k <;> cases x2 : tl (g i) k <;> cases x3 : tl (g k) i <;> rw [x1, x2] at e1 <;> rw [x3] at e2 <;> simp (disch := (first | assumption | exact hb0 | exact hb1 | exact bI_ok | exact znl_i | exact znl_r | exact znl_n | exact zw0 | exact zw1 | exact zw2 | exact zw3 | exact zw4 | exact zx0 | exact zx1 | exact zx2 | exact zx3 | ((repeat' (first | assumption | apply zset_eq | apply zset_ne | omega)); done) | ((repeat' (first | exact zscL_nil | refine zscL_i ?_ | refine zscL_n ?_ | refine zscL_r ?_ ?_ | refine zscL_l ?_ | exact zscS_nil | refine zscS_i ?_ | refine zscS_r ?_ ?_ | refine zscS_l ?_ | (simp only [List.length_set, hl]; first | omega | assumption) | omega)); done) | omega | (with_unfolding_all rfl) | fail)) only [v18_0, v18_1, v18_4, v18_5, v18_6, v18_7, v18_8, v18_10, v18_11, v18_15, v18_16, v18_19, v18_22, v18_24, v18_26, v18_29, v18_32, v18_33, v18_36, v18_38, v18_39, v18_40, v18_43, v18_46, v18_47, v18_48, v18_51, v18_54, v18_55, zAft_v, zAft_n, iN_add, iN_mul, iN_sub, iN_lt, iN_le, iN_eq, bI_0, bI_1, if_pos, if_neg, ifnn, Nat.reduceAdd, Nat.reduceSub, Nat.reduceMul, Nat.add_zero, Nat.zero_add, List.set_set, not_true_eq_false, not_false_eq_true, if_true, if_false, reduceCtorEq, e1, e2, Bool.and_false, Bool.and_true, Bool.false_and, Bool.true_and, Bool.not_true, Bool.not_false, bI_f, Bool.true_eq_false] <;> first | exact e3 | rfl
theorem m18 {g : Nat → Int64} {i T : Nat} {lf : Int64} (hl : w.length = 29) (h10 : w[10]? = some (.inr (1, [.ref 11, .ref 12, .int (Int32.ofNat T)]))) (h11 : w[11]? = some (.inl (1, 60, .inr (.inl g)))) (hT : T ≤ 60) (hi : i < T) :
    zm E0 18 [.ref 10, .int (Int32.ofNat i), .long lf] w = some (.inl (some (.int (bI (al (fun j => !(tl lf j && tl (g i) j && !(tl (g j) i))) T 0)))), w, 0, 0) := by
  rw [zm18]
  simp (disch := (first | assumption | exact hb0 | exact hb1 | exact bI_ok | exact znl_i | exact znl_r | exact znl_n | exact zw0 | exact zw1 | exact zw2 | exact zw3 | exact zw4 | exact zx0 | exact zx1 | exact zx2 | exact zx3 | ((repeat' (first | assumption | apply zset_eq | apply zset_ne | omega)); done) | ((repeat' (first | exact zscL_nil | refine zscL_i ?_ | refine zscL_n ?_ | refine zscL_r ?_ ?_ | refine zscL_l ?_ | exact zscS_nil | refine zscS_i ?_ | refine zscS_r ?_ ?_ | refine zscS_l ?_ | (simp only [List.length_set, hl]; first | omega | assumption) | omega)); done) | omega | (with_unfolding_all rfl) | fail)) only [v18_0, v18_1, v18_4, v18_5, v18_6, v18_7, v18_8, v18_10, v18_11, v18_15, v18_16, v18_19, v18_22, v18_24, v18_26, v18_29, v18_32, v18_33, v18_36, v18_38, v18_39, v18_40, v18_43, v18_46, v18_47, v18_48, v18_51, v18_54, v18_55, zAft_v, zAft_n, iN_add, iN_mul, iN_sub, iN_lt, iN_le, iN_eq, bI_0, bI_1, if_pos, if_neg, ifnn, Nat.reduceAdd, Nat.reduceSub, Nat.reduceMul, Nat.add_zero, Nat.zero_add, List.set_set, not_true_eq_false, not_false_eq_true, if_true, if_false, reduceCtorEq]
  exact m18l hl h10 h11 hT hi T 0 (by omega)
theorem m17l {g : Nat → Int64} {T : Nat} {lf : Int64} (hl : w.length = 29) (h10 : w[10]? = some (.inr (1, [.ref 11, .ref 12, .int (Int32.ofNat T)]))) (h11 : w[11]? = some (.inl (1, 60, .inr (.inl g)))) (hT : T ≤ 60) :
    ∀ (d k : Nat), k + d = T → fst (fre (fun i j => tl (g i) j) T (tl lf)) d k < T → zval E0 none 17 (2, [some (.ref 10), some (.long lf), none, some (.int (Int32.ofNat k))], [], w, 0, 0) = some (.inl (some (.int (Int32.ofNat (fst (fre (fun i j => tl (g i) j) T (tl lf)) d k)))), w, 0, 0) := by
  intro d
  induction d with
  | zero => intro k hk hf; rw [fst] at hf; omega
  | succ d ih =>
    intro k hk hf
    have e1 := m19 (w := w) (x := lf) (i := k) (by omega)
    have e2 := m18 (lf := lf) (i := k) hl h10 h11 hT (by omega)
    have e3 : fre (fun i j => tl (g i) j) T (tl lf) k = (tl lf k && al (fun j => !(tl lf j && tl (g k) j && !(tl (g j) k))) T 0) := rfl
    rw [v17_2]
    rw [fst, e3] at hf ⊢
    generalize al (fun j => !(tl lf j && tl (g k) j && !(tl (g j) k))) T 0 = z at *
    cases x1 : tl lf k
    · rw [x1] at e1 hf
      rw [Bool.false_and, if_neg (by decide)] at hf ⊢
      have e4 := ih (k + 1) (by omega) hf
      simp (disch := (first | assumption | exact hb0 | exact hb1 | exact bI_ok | exact znl_i | exact znl_r | exact znl_n | exact zw0 | exact zw1 | exact zw2 | exact zw3 | exact zw4 | exact zx0 | exact zx1 | exact zx2 | exact zx3 | ((repeat' (first | assumption | apply zset_eq | apply zset_ne | omega)); done) | ((repeat' (first | exact zscL_nil | refine zscL_i ?_ | refine zscL_n ?_ | refine zscL_r ?_ ?_ | refine zscL_l ?_ | exact zscS_nil | refine zscS_i ?_ | refine zscS_r ?_ ?_ | refine zscS_l ?_ | (simp only [List.length_set, hl]; first | omega | assumption) | omega)); done) | omega | (with_unfolding_all rfl) | fail)) only [v17_0, v17_1, v17_3, v17_4, v17_7, v17_10, v17_11, v17_12, v17_15, v17_18, v17_19, v17_20, v17_21, v17_24, v17_27, v17_28, v17_29, v17_32, v17_35, v17_36, zAft_v, zAft_n, iN_add, iN_mul, iN_sub, iN_lt, iN_le, iN_eq, bI_0, bI_1, if_pos, if_neg, ifnn, Nat.reduceAdd, Nat.reduceSub, Nat.reduceMul, Nat.add_zero, Nat.zero_add, List.set_set, not_true_eq_false, not_false_eq_true, if_true, if_false, reduceCtorEq, e1]
      exact e4
    · rw [x1] at e1 hf
      cases z
      · rw [Bool.and_false, if_neg (by decide)] at hf ⊢
        have e4 := ih (k + 1) (by omega) hf
        simp (disch := (first | assumption | exact hb0 | exact hb1 | exact bI_ok | exact znl_i | exact znl_r | exact znl_n | exact zw0 | exact zw1 | exact zw2 | exact zw3 | exact zw4 | exact zx0 | exact zx1 | exact zx2 | exact zx3 | ((repeat' (first | assumption | apply zset_eq | apply zset_ne | omega)); done) | ((repeat' (first | exact zscL_nil | refine zscL_i ?_ | refine zscL_n ?_ | refine zscL_r ?_ ?_ | refine zscL_l ?_ | exact zscS_nil | refine zscS_i ?_ | refine zscS_r ?_ ?_ | refine zscS_l ?_ | (simp only [List.length_set, hl]; first | omega | assumption) | omega)); done) | omega | (with_unfolding_all rfl) | fail)) only [v17_0, v17_1, v17_3, v17_4, v17_7, v17_10, v17_11, v17_12, v17_15, v17_18, v17_19, v17_20, v17_21, v17_24, v17_27, v17_28, v17_29, v17_32, v17_35, v17_36, zAft_v, zAft_n, iN_add, iN_mul, iN_sub, iN_lt, iN_le, iN_eq, bI_0, bI_1, if_pos, if_neg, ifnn, Nat.reduceAdd, Nat.reduceSub, Nat.reduceMul, Nat.add_zero, Nat.zero_add, List.set_set, not_true_eq_false, not_false_eq_true, if_true, if_false, reduceCtorEq, e1, e2, Bool.true_eq_false]
        exact e4
      · rw [Bool.and_true, if_pos rfl]
        simp (disch := (first | assumption | exact hb0 | exact hb1 | exact bI_ok | exact znl_i | exact znl_r | exact znl_n | exact zw0 | exact zw1 | exact zw2 | exact zw3 | exact zw4 | exact zx0 | exact zx1 | exact zx2 | exact zx3 | ((repeat' (first | assumption | apply zset_eq | apply zset_ne | omega)); done) | ((repeat' (first | exact zscL_nil | refine zscL_i ?_ | refine zscL_n ?_ | refine zscL_r ?_ ?_ | refine zscL_l ?_ | exact zscS_nil | refine zscS_i ?_ | refine zscS_r ?_ ?_ | refine zscS_l ?_ | (simp only [List.length_set, hl]; first | omega | assumption) | omega)); done) | omega | (with_unfolding_all rfl) | fail)) only [v17_0, v17_1, v17_3, v17_4, v17_7, v17_10, v17_11, v17_12, v17_15, v17_18, v17_19, v17_20, v17_21, v17_24, v17_27, v17_28, v17_29, v17_32, v17_35, v17_36, zAft_v, zAft_n, iN_add, iN_mul, iN_sub, iN_lt, iN_le, iN_eq, bI_0, bI_1, if_pos, if_neg, ifnn, Nat.reduceAdd, Nat.reduceSub, Nat.reduceMul, Nat.add_zero, Nat.zero_add, List.set_set, not_true_eq_false, not_false_eq_true, if_true, if_false, reduceCtorEq, e1, e2, Bool.true_eq_false]
theorem m17 {g : Nat → Int64} {T : Nat} {lf : Int64} (hl : w.length = 29) (h10 : w[10]? = some (.inr (1, [.ref 11, .ref 12, .int (Int32.ofNat T)]))) (h11 : w[11]? = some (.inl (1, 60, .inr (.inl g)))) (hT : T ≤ 60) (hlow : low (fun i j => tl (g i) j) T (tl lf) < T) :
    zm E0 17 [.ref 10, .long lf] w = some (.inl (some (.int (Int32.ofNat (low (fun i j => tl (g i) j) T (tl lf))))), w, 0, 0) := by
  rw [zm17]
  simp (disch := (first | assumption | exact hb0 | exact hb1 | exact bI_ok | exact znl_i | exact znl_r | exact znl_n | exact zw0 | exact zw1 | exact zw2 | exact zw3 | exact zw4 | exact zx0 | exact zx1 | exact zx2 | exact zx3 | ((repeat' (first | assumption | apply zset_eq | apply zset_ne | omega)); done) | ((repeat' (first | exact zscL_nil | refine zscL_i ?_ | refine zscL_n ?_ | refine zscL_r ?_ ?_ | refine zscL_l ?_ | exact zscS_nil | refine zscS_i ?_ | refine zscS_r ?_ ?_ | refine zscS_l ?_ | (simp only [List.length_set, hl]; first | omega | assumption) | omega)); done) | omega | (with_unfolding_all rfl) | fail)) only [v17_0, v17_1, v17_3, v17_4, v17_7, v17_10, v17_11, v17_12, v17_15, v17_18, v17_19, v17_20, v17_21, v17_24, v17_27, v17_28, v17_29, v17_32, v17_35, v17_36, zAft_v, zAft_n, iN_add, iN_mul, iN_sub, iN_lt, iN_le, iN_eq, bI_0, bI_1, if_pos, if_neg, ifnn, Nat.reduceAdd, Nat.reduceSub, Nat.reduceMul, Nat.add_zero, Nat.zero_add, List.set_set, not_true_eq_false, not_false_eq_true, if_true, if_false, reduceCtorEq]
  exact m17l hl h10 h11 hT T 0 (by omega) hlow
theorem m16i {T c : Nat} {lf nx : Int64} (hT : T ≤ 60) :
    ∀ (d k : Nat) (w : zW) (nu : Nat → Int32), w.length = 29 → w[10]? = some (.inr (1, [.ref 11, .ref 12, .int (Int32.ofNat T)])) → w[12]? = some (.inl (0, 60, .inl nu)) → k + d = T →
      ∃ nu', (∀ j, nu' j = if k ≤ j ∧ j < T ∧ tl nx j = true then Int32.ofNat c else nu j) ∧ zval E0 none 16 (42, [some (.ref 10), some (.long lf), none, some (.int (Int32.ofNat c)), some (.long nx), none, some (.int (Int32.ofNat k))], [], w, 0, 0) = zval E0 none 16 (75, [some (.ref 10), some (.long lf), none, some (.int (Int32.ofNat c)), some (.long nx), none, some (.int (Int32.ofNat T))], [], w.set 12 (.inl (0, 60, .inl nu')), 0, 0) := by
  intro d
  induction d with
  | zero =>
    intro k w nu hl h10 h12 hk
    refine ⟨nu, fun j => by rw [if_neg (by omega)], ?_⟩
    obtain rfl : k = T := hk
    rw [v16_42]
    simp (disch := (first | assumption | exact hb0 | exact hb1 | exact bI_ok | exact znl_i | exact znl_r | exact znl_n | exact zw0 | exact zw1 | exact zw2 | exact zw3 | exact zw4 | exact zx0 | exact zx1 | exact zx2 | exact zx3 | ((repeat' (first | assumption | apply zset_eq | apply zset_ne | omega)); done) | ((repeat' (first | exact zscL_nil | refine zscL_i ?_ | refine zscL_n ?_ | refine zscL_r ?_ ?_ | refine zscL_l ?_ | exact zscS_nil | refine zscS_i ?_ | refine zscS_r ?_ ?_ | refine zscS_l ?_ | (simp only [List.length_set, hl]; first | omega | assumption) | omega)); done) | omega | (with_unfolding_all rfl) | fail)) only [v16_0, v16_1, v16_2, v16_5, v16_6, v16_7, v16_8, v16_9, v16_10, v16_12, v16_13, v16_14, v16_17, v16_18, v16_19, v16_22, v16_25, v16_26, v16_29, v16_30, v16_31, v16_34, v16_35, v16_36, v16_37, v16_39, v16_40, v16_44, v16_45, v16_48, v16_51, v16_53, v16_55, v16_58, v16_61, v16_62, v16_65, v16_67, v16_68, v16_69, v16_72, v16_76, v16_78, v16_81, v16_82, v16_83, v16_84, v16_87, v16_90, v16_91, zAft_v, zAft_n, iN_add, iN_mul, iN_sub, iN_lt, iN_le, iN_eq, bI_0, bI_1, if_pos, if_neg, ifnn, Nat.reduceAdd, Nat.reduceSub, Nat.reduceMul, Nat.add_zero, Nat.zero_add, List.set_set, not_true_eq_false, not_false_eq_true, if_true, if_false, reduceCtorEq]
    rw [zset_id h12]
  | succ d ih =>
    intro k w nu hl h10 h12 hk
    have e1 := m19 (w := w) (x := nx) (i := k) (by omega)
    cases x : tl nx k
    · rw [x] at e1
      obtain ⟨nu', n1, e⟩ := ih (k + 1) w nu hl h10 h12 (by omega)
      refine ⟨nu', ?_, ?_⟩
      · intro j
        rw [n1 j]
        by_cases q : j = k
        · subst q
          rw [if_neg (by omega), if_neg (by rw [x]; rintro ⟨_, _, z⟩; cases z)]
        · by_cases r : k + 1 ≤ j ∧ j < T ∧ tl nx j = true
          · rw [if_pos r, if_pos ⟨by omega, r.2⟩]
          · rw [if_neg r, if_neg (fun z => r ⟨by omega, z.2⟩)]
      · rw [v16_42]
        simp (disch := (first | assumption | exact hb0 | exact hb1 | exact bI_ok | exact znl_i | exact znl_r | exact znl_n | exact zw0 | exact zw1 | exact zw2 | exact zw3 | exact zw4 | exact zx0 | exact zx1 | exact zx2 | exact zx3 | ((repeat' (first | assumption | apply zset_eq | apply zset_ne | omega)); done) | ((repeat' (first | exact zscL_nil | refine zscL_i ?_ | refine zscL_n ?_ | refine zscL_r ?_ ?_ | refine zscL_l ?_ | exact zscS_nil | refine zscS_i ?_ | refine zscS_r ?_ ?_ | refine zscS_l ?_ | (simp only [List.length_set, hl]; first | omega | assumption) | omega)); done) | omega | (with_unfolding_all rfl) | fail)) only [v16_0, v16_1, v16_2, v16_5, v16_6, v16_7, v16_8, v16_9, v16_10, v16_12, v16_13, v16_14, v16_17, v16_18, v16_19, v16_22, v16_25, v16_26, v16_29, v16_30, v16_31, v16_34, v16_35, v16_36, v16_37, v16_39, v16_40, v16_44, v16_45, v16_48, v16_51, v16_53, v16_55, v16_58, v16_61, v16_62, v16_65, v16_67, v16_68, v16_69, v16_72, v16_76, v16_78, v16_81, v16_82, v16_83, v16_84, v16_87, v16_90, v16_91, zAft_v, zAft_n, iN_add, iN_mul, iN_sub, iN_lt, iN_le, iN_eq, bI_0, bI_1, if_pos, if_neg, ifnn, Nat.reduceAdd, Nat.reduceSub, Nat.reduceMul, Nat.add_zero, Nat.zero_add, List.set_set, not_true_eq_false, not_false_eq_true, if_true, if_false, reduceCtorEq, e1]
        exact e
    · rw [x] at e1
      obtain ⟨nu', n1, e⟩ := ih (k + 1) (w.set 12 (.inl (0, 60, .inl (upd nu k (Int32.ofNat c))))) (upd nu k (Int32.ofNat c)) (zset_len hl) (by ((repeat' (first | assumption | apply zset_eq | apply zset_ne | omega)); done)) (by ((repeat' (first | assumption | apply zset_eq | apply zset_ne | omega)); done)) (by omega)
      refine ⟨nu', ?_, ?_⟩
      · intro j
        rw [n1 j]
        by_cases q : j = k
        · subst q
          rw [if_neg (by omega), if_pos ⟨by omega, by omega, x⟩, upd_self]
        · rw [upd_ne q]
          by_cases r : k + 1 ≤ j ∧ j < T ∧ tl nx j = true
          · rw [if_pos r, if_pos ⟨by omega, r.2⟩]
          · rw [if_neg r, if_neg (fun z => r ⟨by omega, z.2⟩)]
      · rw [v16_42]
        simp (disch := (first | assumption | exact hb0 | exact hb1 | exact bI_ok | exact znl_i | exact znl_r | exact znl_n | exact zw0 | exact zw1 | exact zw2 | exact zw3 | exact zw4 | exact zx0 | exact zx1 | exact zx2 | exact zx3 | ((repeat' (first | assumption | apply zset_eq | apply zset_ne | omega)); done) | ((repeat' (first | exact zscL_nil | refine zscL_i ?_ | refine zscL_n ?_ | refine zscL_r ?_ ?_ | refine zscL_l ?_ | exact zscS_nil | refine zscS_i ?_ | refine zscS_r ?_ ?_ | refine zscS_l ?_ | (simp only [List.length_set, hl]; first | omega | assumption) | omega)); done) | omega | (with_unfolding_all rfl) | fail)) only [v16_0, v16_1, v16_2, v16_5, v16_6, v16_7, v16_8, v16_9, v16_10, v16_12, v16_13, v16_14, v16_17, v16_18, v16_19, v16_22, v16_25, v16_26, v16_29, v16_30, v16_31, v16_34, v16_35, v16_36, v16_37, v16_39, v16_40, v16_44, v16_45, v16_48, v16_51, v16_53, v16_55, v16_58, v16_61, v16_62, v16_65, v16_67, v16_68, v16_69, v16_72, v16_76, v16_78, v16_81, v16_82, v16_83, v16_84, v16_87, v16_90, v16_91, zAft_v, zAft_n, iN_add, iN_mul, iN_sub, iN_lt, iN_le, iN_eq, bI_0, bI_1, if_pos, if_neg, ifnn, Nat.reduceAdd, Nat.reduceSub, Nat.reduceMul, Nat.add_zero, Nat.zero_add, List.set_set, not_true_eq_false, not_false_eq_true, if_true, if_false, reduceCtorEq, e1, Bool.true_eq_false]
        rw [e, List.set_set]
theorem m16l {g : Nat → Int64} {T : Nat} (hT : T ≤ 60) (hr : ∀ i, i < T → tl (g i) i = true) (ht : ∀ i m j, i < T → m < T → tl (g i) m = true → tl (g m) j = true → tl (g i) j = true) :
    ∀ (n : Nat) (lf : Int64) (lab : Nat → Nat) (c : Nat) (w : zW) (nu : Nat → Int32) (l4 l5 l6 : Option Value), w.length = 29 → w[10]? = some (.inr (1, [.ref 11, .ref 12, .int (Int32.ofNat T)])) → w[11]? = some (.inl (1, 60, .inr (.inl g))) → w[12]? = some (.inl (0, 60, .inl nu)) → (∀ j, T ≤ j → tl lf j = false) → cnt (tl lf) T ≤ n → c + cnt (tl lf) T ≤ T → (∀ j, j < T → tl lf j = false → nu j = Int32.ofNat (lab j)) → znl l5 = true → znl (some (.int (Int32.ofNat c))) = true → zscL 29 [l4, l5, l6] = true →
      ∃ nu', (∀ j, j < T → nu' j = Int32.ofNat ((lay (fun i j => tl (g i) j) T n (tl lf) lab c).1 j)) ∧ zval E0 none 16 (11, [some (.ref 10), some (.long lf), none, some (.int (Int32.ofNat c)), l4, l5, l6], [], w, 0, 0) = some (.inl (some (.int (Int32.ofNat (lay (fun i j => tl (g i) j) T n (tl lf) lab c).2))), w.set 12 (.inl (0, 60, .inl nu')), 0, 0) := by
  intro n
  induction n with
  | zero =>
    intro lf lab c w nu l4 l5 l6 hl h10 h11 h12 hz hc hcT hn _ _ hs
    have hall : ∀ j, j < T → tl lf j = false := by
      intro j hj
      cases x : tl lf j
      · rfl
      · have := cnt_lt (L := fun _ => false) (M := tl lf) (k := j) rfl x T hj (fun i _ q => by cases q)
        omega
    have e0 : lf = 0 := tl_ext (fun j _ => by
      rw [tl_0]
      by_cases q : j < T
      · exact hall j q
      · exact hz j (by omega))
    subst e0
    refine ⟨nu, fun j hj => hn j hj (tl_0 j), ?_⟩
    rw [v16_11]
    simp (disch := (first | assumption | exact hb0 | exact hb1 | exact bI_ok | exact znl_i | exact znl_r | exact znl_n | exact zw0 | exact zw1 | exact zw2 | exact zw3 | exact zw4 | exact zx0 | exact zx1 | exact zx2 | exact zx3 | ((repeat' (first | assumption | apply zset_eq | apply zset_ne | omega)); done) | ((repeat' (first | exact zscL_nil | refine zscL_i ?_ | refine zscL_n ?_ | refine zscL_r ?_ ?_ | refine zscL_l ?_ | exact zscS_nil | refine zscS_i ?_ | refine zscS_r ?_ ?_ | refine zscS_l ?_ | (simp only [List.length_set, hl]; first | omega | assumption) | omega)); done) | omega | (with_unfolding_all rfl) | fail)) only [v16_0, v16_1, v16_2, v16_5, v16_6, v16_7, v16_8, v16_9, v16_10, v16_12, v16_13, v16_14, v16_17, v16_18, v16_19, v16_22, v16_25, v16_26, v16_29, v16_30, v16_31, v16_34, v16_35, v16_36, v16_37, v16_39, v16_40, v16_44, v16_45, v16_48, v16_51, v16_53, v16_55, v16_58, v16_61, v16_62, v16_65, v16_67, v16_68, v16_69, v16_72, v16_75, v16_76, v16_78, v16_81, v16_82, v16_83, v16_84, v16_87, v16_90, v16_91, zAft_v, zAft_n, iN_add, iN_mul, iN_sub, iN_lt, iN_le, iN_eq, bI_0, bI_1, if_pos, if_neg, ifnn, Nat.reduceAdd, Nat.reduceSub, Nat.reduceMul, Nat.add_zero, Nat.zero_add, List.set_set, not_true_eq_false, not_false_eq_true, if_true, if_false, reduceCtorEq, lc_eq]
    rw [zset_id h12, lay]
  | succ n ih =>
    intro lf lab c w nu l4 l5 l6 hl h10 h11 h12 hz hc hcT hn hl5 _ hs
    rw [lay]
    by_cases ha : any (tl lf) T = true
    · rw [if_pos ha]
      obtain ⟨q1, q2⟩ := low_ok (A := fun i j => tl (g i) j) (T := T) hr ht ha
      have e17 := m17 (lf := lf) hl h10 h11 hT q1
      obtain ⟨i0, hi0⟩ : ∃ i0, i0 = low (fun i j => tl (g i) j) T (tl lf) := ⟨_, rfl⟩
      rw [← hi0] at q1 q2 e17 ⊢
      have hli := (fre_iff.mp q2).1
      have hne : ¬ lf = 0 := by
        intro z
        subst z
        rw [tl_0] at hli
        cases hli
      have hpos : 0 < cnt (tl lf) T := by
        have := cnt_lt (L := fun _ => false) (M := tl lf) (k := i0) rfl hli T q1 (fun i _ q => by cases q)
        omega
      have hlf : tl (lf &&& ((g i0 &&& lf) ^^^ (-1))) = fun j => tl lf j && !(tl (g i0) j) := by
        funext j
        by_cases q : j < 64
        · rw [tl_and, tl_xor, tl_and, tl_m1 j q]
          cases tl lf j <;> cases tl (g i0) j <;> rfl
        · rw [tl_ge (by omega), tl_ge (x := lf) (by omega)]
          rfl
      have hlt : cnt (fun j => tl lf j && !(tl (g i0) j)) T < cnt (tl lf) T := cnt_lt (L := fun j => tl lf j && !(tl (g i0) j)) (M := tl lf) (k := i0) (by simp [hr i0 q1]) hli T q1 (fun i _ q => by simp only [Bool.and_eq_true] at q; exact q.1)
      obtain ⟨nu1, n1, e1⟩ := m16i (T := T) (c := c) (lf := lf) (nx := g i0 &&& lf) hT T 0 w nu hl h10 h12 (by omega)
      obtain ⟨nu', n2, e2⟩ := ih (lf &&& ((g i0 &&& lf) ^^^ (-1))) (fun j => if (tl lf j && tl (g i0) j) = true then c else lab j) (c + 1) (w.set 12 (.inl (0, 60, .inl nu1))) nu1 (some (.long (g i0 &&& lf))) none (some (.int (Int32.ofNat T))) (zset_len hl) (by ((repeat' (first | assumption | apply zset_eq | apply zset_ne | omega)); done)) (by ((repeat' (first | assumption | apply zset_eq | apply zset_ne | omega)); done)) (by ((repeat' (first | assumption | apply zset_eq | apply zset_ne | omega)); done)) (by
          intro j hj
          rw [hlf]
          simp [hz j hj]) (by rw [hlf]; omega) (by rw [hlf]; omega) (by
          intro j hj x
          rw [hlf] at x
          rw [n1 j]
          cases y : tl lf j
          · rw [if_neg (by rw [tl_and, y, Bool.and_false]; rintro ⟨_, _, z⟩; cases z)]
            rw [if_neg (by rw [Bool.false_and]; decide)]
            exact hn j hj y
          · have y2 : tl (g i0) j = true := by
              have x : (tl lf j && !(tl (g i0) j)) = false := x
              rw [y] at x
              cases u : tl (g i0) j
              · rw [u] at x; cases x
              · rfl
            rw [if_pos ⟨by omega, hj, by rw [tl_and, y, y2]; rfl⟩, if_pos (by rw [y2]; rfl)]) rfl rfl rfl
      rw [hlf] at n2 e2
      refine ⟨nu', n2, ?_⟩
      rw [v16_11]
      simp (disch := (first | assumption | exact hb0 | exact hb1 | exact bI_ok | exact znl_i | exact znl_r | exact znl_n | exact zw0 | exact zw1 | exact zw2 | exact zw3 | exact zw4 | exact zx0 | exact zx1 | exact zx2 | exact zx3 | ((repeat' (first | assumption | apply zset_eq | apply zset_ne | omega)); done) | ((repeat' (first | exact zscL_nil | refine zscL_i ?_ | refine zscL_n ?_ | refine zscL_r ?_ ?_ | refine zscL_l ?_ | exact zscS_nil | refine zscS_i ?_ | refine zscS_r ?_ ?_ | refine zscS_l ?_ | (simp only [List.length_set, hl]; first | omega | assumption) | omega)); done) | omega | (with_unfolding_all rfl) | fail)) only [v16_0, v16_1, v16_2, v16_5, v16_6, v16_7, v16_8, v16_9, v16_10, v16_12, v16_13, v16_14, v16_17, v16_18, v16_19, v16_22, v16_25, v16_26, v16_29, v16_30, v16_31, v16_34, v16_35, v16_36, v16_37, v16_39, v16_40, v16_44, v16_45, v16_48, v16_51, v16_53, v16_55, v16_58, v16_61, v16_62, v16_65, v16_67, v16_68, v16_69, v16_72, v16_75, v16_76, v16_78, v16_81, v16_82, v16_83, v16_84, v16_87, v16_90, v16_91, zAft_v, zAft_n, iN_add, iN_mul, iN_sub, iN_lt, iN_le, iN_eq, bI_0, bI_1, if_pos, if_neg, ifnn, Nat.reduceAdd, Nat.reduceSub, Nat.reduceMul, Nat.add_zero, Nat.zero_add, List.set_set, not_true_eq_false, not_false_eq_true, if_true, if_false, reduceCtorEq, lc_eq, e17]
      rw [e1]
      simp (disch := (first | assumption | exact hb0 | exact hb1 | exact bI_ok | exact znl_i | exact znl_r | exact znl_n | exact zw0 | exact zw1 | exact zw2 | exact zw3 | exact zw4 | exact zx0 | exact zx1 | exact zx2 | exact zx3 | ((repeat' (first | assumption | apply zset_eq | apply zset_ne | omega)); done) | ((repeat' (first | exact zscL_nil | refine zscL_i ?_ | refine zscL_n ?_ | refine zscL_r ?_ ?_ | refine zscL_l ?_ | exact zscS_nil | refine zscS_i ?_ | refine zscS_r ?_ ?_ | refine zscS_l ?_ | (simp only [List.length_set, hl]; first | omega | assumption) | omega)); done) | omega | (with_unfolding_all rfl) | fail)) only [v16_0, v16_1, v16_2, v16_5, v16_6, v16_7, v16_8, v16_9, v16_10, v16_12, v16_13, v16_14, v16_17, v16_18, v16_19, v16_22, v16_25, v16_26, v16_29, v16_30, v16_31, v16_34, v16_35, v16_36, v16_37, v16_39, v16_40, v16_44, v16_45, v16_48, v16_51, v16_53, v16_55, v16_58, v16_61, v16_62, v16_65, v16_67, v16_68, v16_69, v16_72, v16_75, v16_76, v16_78, v16_81, v16_82, v16_83, v16_84, v16_87, v16_90, v16_91, zAft_v, zAft_n, iN_add, iN_mul, iN_sub, iN_lt, iN_le, iN_eq, bI_0, bI_1, if_pos, if_neg, ifnn, Nat.reduceAdd, Nat.reduceSub, Nat.reduceMul, Nat.add_zero, Nat.zero_add, List.set_set, not_true_eq_false, not_false_eq_true, if_true, if_false, reduceCtorEq]
      rw [e2, List.set_set]
    · rw [if_neg ha]
      have hall : ∀ j, j < T → tl lf j = false := by
        intro j hj
        cases x : tl lf j
        · rfl
        · exact absurd (any_iff.mpr ⟨j, hj, x⟩) ha
      have e0 : lf = 0 := tl_ext (fun j _ => by
        rw [tl_0]
        by_cases q : j < T
        · exact hall j q
        · exact hz j (by omega))
      subst e0
      refine ⟨nu, fun j hj => hn j hj (tl_0 j), ?_⟩
      rw [v16_11]
      simp (disch := (first | assumption | exact hb0 | exact hb1 | exact bI_ok | exact znl_i | exact znl_r | exact znl_n | exact zw0 | exact zw1 | exact zw2 | exact zw3 | exact zw4 | exact zx0 | exact zx1 | exact zx2 | exact zx3 | ((repeat' (first | assumption | apply zset_eq | apply zset_ne | omega)); done) | ((repeat' (first | exact zscL_nil | refine zscL_i ?_ | refine zscL_n ?_ | refine zscL_r ?_ ?_ | refine zscL_l ?_ | exact zscS_nil | refine zscS_i ?_ | refine zscS_r ?_ ?_ | refine zscS_l ?_ | (simp only [List.length_set, hl]; first | omega | assumption) | omega)); done) | omega | (with_unfolding_all rfl) | fail)) only [v16_0, v16_1, v16_2, v16_5, v16_6, v16_7, v16_8, v16_9, v16_10, v16_12, v16_13, v16_14, v16_17, v16_18, v16_19, v16_22, v16_25, v16_26, v16_29, v16_30, v16_31, v16_34, v16_35, v16_36, v16_37, v16_39, v16_40, v16_44, v16_45, v16_48, v16_51, v16_53, v16_55, v16_58, v16_61, v16_62, v16_65, v16_67, v16_68, v16_69, v16_72, v16_75, v16_76, v16_78, v16_81, v16_82, v16_83, v16_84, v16_87, v16_90, v16_91, zAft_v, zAft_n, iN_add, iN_mul, iN_sub, iN_lt, iN_le, iN_eq, bI_0, bI_1, if_pos, if_neg, ifnn, Nat.reduceAdd, Nat.reduceSub, Nat.reduceMul, Nat.add_zero, Nat.zero_add, List.set_set, not_true_eq_false, not_false_eq_true, if_true, if_false, reduceCtorEq, lc_eq]
      rw [zset_id h12]
end pile
