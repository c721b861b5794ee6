/-! What the class's calls come to. -/
section ops
variable {w : zW}
theorem upd_seg {f g : Nat → Int32} {n d : Nat} {V : Nat → Int32} {x : Int32} (h1 : ∀ i, i < n + 1 → g i = upd f n x i) (h2 : ∀ i, i < d → g (n + 1 + i) = V (i + 1)) (hx : x = V 0) : (∀ i, i < n → g i = f i) ∧ ∀ i, i < d + 1 → g (n + i) = V i := by
  constructor
  · intro i hi
    rw [h1 i (by omega), upd_ne (by omega)]
  · intro i hi
    cases i with
    | zero => rw [Nat.add_zero, h1 n (by omega), upd_self, hx]
    | succ i => rw [show n + (i + 1) = n + 1 + i by omega]; exact h2 i (by omega)
theorem m28l {R c st : Nat} {fr to sp vi : Int32} {V : Nat → Int32} (hR : R < 29) (hRc : ¬ R = c) (hst : st < 12) (hV : ∀ i, i ≤ st → fr + Int32.ofNat i * sp = V i) :
    ∀ (d k n : Nat) (w : zW) (f : Nat → Int32), w.length = 29 → w[R]? = some (.inr (2, [.ref c, .int (Int32.ofNat n)])) → w[c]? = some (.inl (0, 30, .inl f)) → k + d = st + 1 → n + d ≤ 30 →
      ∃ g, (∀ i, i < n → g i = f i) ∧ (∀ i, i < d → g (n + i) = V (k + i)) ∧ zval E0 none 28 (64, [some (.ref 0), some (.int vi), some (.int fr), some (.int to), some (.int (Int32.ofNat st)), some (.ref R), some (.int sp), some (.int (Int32.ofNat k))], [], w, 0, 0) = some (.inl (some (.int (Int32.ofNat (n + d)))), (w.set c (.inl (0, 30, .inl g))).set R (.inr (2, [.ref c, .int (Int32.ofNat (n + d))])), 0, 0) := by
  intro d
  induction d with
  | zero =>
    intro k n w f hl h h' hk _
    refine ⟨f, fun _ _ => rfl, fun i hi => absurd hi (by omega), ?_⟩
    rw [v28_64]
    simp (disch := (first | assumption | exact hb0 | exact hb1 | exact bI_ok | exact znl_i | exact znl_r | exact znl_n | exact zw0 | exact zw1 | exact zw2 | exact zw3 | exact zw4 | exact zx0 | exact zx1 | exact zx2 | exact zx3 | ((repeat' (first | assumption | apply zset_eq | apply zset_ne | omega)); done) | ((repeat' (first | exact zscL_nil | refine zscL_i ?_ | refine zscL_n ?_ | refine zscL_r ?_ ?_ | refine zscL_l ?_ | exact zscS_nil | refine zscS_i ?_ | refine zscS_r ?_ ?_ | refine zscS_l ?_ | (simp only [List.length_set, hl]; omega) | omega)); done) | omega | (with_unfolding_all rfl) | fail)) only [v28_0, v28_1, v28_4, v28_7, v28_8, v28_11, v28_14, v28_24, v28_25, v28_26, v28_27, v28_30, v28_32, v28_33, v28_34, v28_36, v28_37, v28_38, v28_39, v28_42, v28_43, v28_44, v28_47, v28_49, v28_50, v28_51, v28_54, v28_55, v28_58, v28_59, v28_61, v28_62, v28_66, v28_68, v28_71, v28_73, v28_74, v28_76, v28_78, v28_79, v28_80, v28_83, v28_86, v28_89, v28_91, v28_94, zAft_v, zAft_n, iN_add, iN_mul, iN_sub, iN_lt, iN_le, iN_eq, bI_0, bI_1, if_pos, if_neg, Nat.reduceAdd, Nat.reduceSub, Nat.reduceMul, Nat.add_zero, Nat.zero_add, List.set_set, not_true_eq_false, not_false_eq_true, if_true, if_false, reduceCtorEq, zAftx28]
    rw [zset_id h', zset_id h]
  | succ d ih =>
    intro k n w f hl h h' hk hn
    have hx := hV k (by omega)
    obtain ⟨g, h1, h2, e⟩ := ih (k + 1) (n + 1) ((w.set c (.inl (0, 30, .inl (upd f n (V k))))).set R (.inr (2, [.ref c, .int (Int32.ofNat (n + 1))]))) (upd f n (V k)) (zset_len (zset_len hl)) (zset_eq (zset_ne h (fun e => hRc e.symm))) (zset_ne (zset_eq h') hRc) (by omega) (by omega)
    obtain ⟨h3, h4⟩ := upd_seg (V := fun i => V (k + i)) h1 (fun i hi => by rw [h2 i hi, show k + 1 + i = k + (i + 1) by omega]) rfl
    refine ⟨g, h3, h4, ?_⟩
    rw [v28_64]
    simp (disch := (first | assumption | exact hb0 | exact hb1 | exact bI_ok | exact znl_i | exact znl_r | exact znl_n | exact zw0 | exact zw1 | exact zw2 | exact zw3 | exact zw4 | exact zx0 | exact zx1 | exact zx2 | exact zx3 | ((repeat' (first | assumption | apply zset_eq | apply zset_ne | omega)); done) | ((repeat' (first | exact zscL_nil | refine zscL_i ?_ | refine zscL_n ?_ | refine zscL_r ?_ ?_ | refine zscL_l ?_ | exact zscS_nil | refine zscS_i ?_ | refine zscS_r ?_ ?_ | refine zscS_l ?_ | (simp only [List.length_set, hl]; omega) | omega)); done) | omega | (with_unfolding_all rfl) | fail)) only [v28_0, v28_1, v28_4, v28_7, v28_8, v28_11, v28_14, v28_24, v28_25, v28_26, v28_27, v28_30, v28_32, v28_33, v28_34, v28_36, v28_37, v28_38, v28_39, v28_42, v28_43, v28_44, v28_47, v28_49, v28_50, v28_51, v28_54, v28_55, v28_58, v28_59, v28_61, v28_62, v28_66, v28_68, v28_71, v28_73, v28_74, v28_76, v28_78, v28_79, v28_80, v28_83, v28_86, v28_89, v28_91, v28_94, zAft_v, zAft_n, iN_add, iN_mul, iN_sub, iN_lt, iN_le, iN_eq, bI_0, bI_1, if_pos, if_neg, Nat.reduceAdd, Nat.reduceSub, Nat.reduceMul, Nat.add_zero, Nat.zero_add, List.set_set, not_true_eq_false, not_false_eq_true, if_true, if_false, reduceCtorEq, zAftx28, m22, hx]
    rw [e, zset2 hRc, show n + 1 + d = n + (d + 1) by omega]
theorem o28x {v x z : Int32} (hl : w.length = 29) (h : ¬ (decide (¬ x < Int32.ofNat 0 ∧ ¬ Int32.ofNat 12 ≤ x) = true ∧ decide (¬ z < Int32.ofNat 0 ∧ ¬ Int32.ofNat 12 ≤ z) = true)) :
    zm E0 28 [.ref 0, .int v, .int x, .int z] w = some (.inr 0, w, 1, 6) := by
  rw [zm28]
  have e1 := m45 (w := w) (x := x)
  have e2 := m45 (w := w) (x := z)
  generalize decide (¬ x < Int32.ofNat 0 ∧ ¬ Int32.ofNat 12 ≤ x) = p at h e1
  generalize decide (¬ z < Int32.ofNat 0 ∧ ¬ Int32.ofNat 12 ≤ z) = q at h e2
  cases p <;> cases q <;> first | exact absurd ⟨rfl, rfl⟩ h | (simp (disch := (first | assumption | exact hb0 | exact hb1 | exact bI_ok | exact znl_i | exact znl_r | exact znl_n | exact zw0 | exact zw1 | exact zw2 | exact zw3 | exact zw4 | exact zx0 | exact zx1 | exact zx2 | exact zx3 | ((repeat' (first | assumption | apply zset_eq | apply zset_ne | omega)); done) | ((repeat' (first | exact zscL_nil | refine zscL_i ?_ | refine zscL_n ?_ | refine zscL_r ?_ ?_ | refine zscL_l ?_ | exact zscS_nil | refine zscS_i ?_ | refine zscS_r ?_ ?_ | refine zscS_l ?_ | (simp only [List.length_set, hl]; omega) | omega)); done) | omega | (with_unfolding_all rfl) | fail)) only [v28_0, v28_1, v28_4, v28_7, v28_8, v28_11, v28_14, v28_24, v28_25, v28_26, v28_27, v28_30, v28_32, v28_33, v28_34, v28_36, v28_37, v28_38, v28_39, v28_42, v28_43, v28_44, v28_47, v28_49, v28_50, v28_51, v28_54, v28_55, v28_58, v28_59, v28_61, v28_62, v28_66, v28_68, v28_71, v28_73, v28_74, v28_76, v28_78, v28_79, v28_80, v28_83, v28_86, v28_89, v28_91, v28_94, zAft_v, zAft_n, iN_add, iN_mul, iN_sub, iN_lt, iN_le, iN_eq, bI_0, bI_1, if_pos, if_neg, Nat.reduceAdd, Nat.reduceSub, Nat.reduceMul, Nat.add_zero, Nat.zero_add, List.set_set, not_true_eq_false, not_false_eq_true, if_true, if_false, reduceCtorEq, zAftx28, e1, e2])
theorem o28n {v : Bool} {a b c n R ce cp : Nat} (hl : w.length = 29) (h0 : w[0]? = some (.inr (3, [.ref 1, .ref 3, .ref 5, .ref 6, .ref 7, .ref 8, .ref 10, .ref 13, .ref 15, .ref 17]))) (h8 : w[8]? = some (.inr (0, [.ref 9, .int (Int32.ofNat ce), .int (Int32.ofNat cp)]))) (hRv : R = if v = true then 1 else 3) (hR : w[R]? = some (.inr (2, [.ref c, .int (Int32.ofNat n)]))) (ha : a < 12) (hb : b < 12) (hn : n ≤ 30) (hcp : cp ≤ 30)
    (hno : (v = true ∧ 0 < cp) ∨ 30 - n < (if a ≤ b then b - a else a - b) + 1) : zm E0 28 [.ref 0, .int (bI v), .int (Int32.ofNat a), .int (Int32.ofNat b)] w = some (.inr 1, w, 1, 6) := by
  have e52 := m52 (v := v) (k := (if a ≤ b then b - a else a - b) + 1) hl h0 h8 (hRv ▸ hR) hcp hn (by split <;> omega)
  rw [if_pos hno] at e52
  have ea := abs12 a ha b hb
  have est : (if a ≤ b then b - a else a - b) < 12 := by split <;> omega
  generalize (if a ≤ b then b - a else a - b) = st at *
  rw [zm28]
  simp (disch := (first | assumption | exact hb0 | exact hb1 | exact bI_ok | exact znl_i | exact znl_r | exact znl_n | exact zw0 | exact zw1 | exact zw2 | exact zw3 | exact zw4 | exact zx0 | exact zx1 | exact zx2 | exact zx3 | ((repeat' (first | assumption | apply zset_eq | apply zset_ne | omega)); done) | ((repeat' (first | exact zscL_nil | refine zscL_i ?_ | refine zscL_n ?_ | refine zscL_r ?_ ?_ | refine zscL_l ?_ | exact zscS_nil | refine zscS_i ?_ | refine zscS_r ?_ ?_ | refine zscS_l ?_ | (simp only [List.length_set, hl]; omega) | omega)); done) | omega | (with_unfolding_all rfl) | fail)) only [v28_0, v28_1, v28_4, v28_7, v28_8, v28_11, v28_14, v28_24, v28_25, v28_26, v28_27, v28_30, v28_32, v28_33, v28_34, v28_36, v28_37, v28_38, v28_39, v28_42, v28_43, v28_44, v28_47, v28_49, v28_50, v28_51, v28_54, v28_55, v28_58, v28_59, v28_61, v28_62, v28_66, v28_68, v28_71, v28_73, v28_74, v28_76, v28_78, v28_79, v28_80, v28_83, v28_86, v28_89, v28_91, v28_94, zAft_v, zAft_n, iN_add, iN_mul, iN_sub, iN_lt, iN_le, iN_eq, bI_0, bI_1, if_pos, if_neg, Nat.reduceAdd, Nat.reduceSub, Nat.reduceMul, Nat.add_zero, Nat.zero_add, List.set_set, not_true_eq_false, not_false_eq_true, if_true, if_false, reduceCtorEq, zAftx28, m45t, ea, jN_i2l, e52]
theorem o28 {v : Bool} {a b c n R ce cp : Nat} {f : Nat → Int32} (hl : w.length = 29) (h0 : w[0]? = some (.inr (3, [.ref 1, .ref 3, .ref 5, .ref 6, .ref 7, .ref 8, .ref 10, .ref 13, .ref 15, .ref 17]))) (h8 : w[8]? = some (.inr (0, [.ref 9, .int (Int32.ofNat ce), .int (Int32.ofNat cp)]))) (hRv : R = if v = true then 1 else 3) (hR : w[R]? = some (.inr (2, [.ref c, .int (Int32.ofNat n)]))) (hC : w[c]? = some (.inl (0, 30, .inl f))) (hRc : ¬ R = c) (ha : a < 12) (hb : b < 12) (hn : n ≤ 30) (hcp : cp ≤ 30) {st : Nat} (hst : st = if a ≤ b then b - a else a - b)
    (hno : ¬ ((v = true ∧ 0 < cp) ∨ 30 - n < st + 1)) : ∃ g, (∀ i, i < n → g i = f i) ∧ (∀ i, i < st + 1 → g (n + i) = Int32.ofNat (if a ≤ b then a + i else a - i)) ∧ zm E0 28 [.ref 0, .int (bI v), .int (Int32.ofNat a), .int (Int32.ofNat b)] w = some (.inl (some (.int (Int32.ofNat (n + (st + 1))))), (w.set c (.inl (0, 30, .inl g))).set R (.inr (2, [.ref c, .int (Int32.ofNat (n + (st + 1)))])), 0, 0) := by
  have hn' : n + (st + 1) ≤ 30 := by
    by_cases h : 30 - n < st + 1
    · exact absurd (Or.inr h) hno
    · omega
  have e52 := m52 (v := v) (k := st + 1) hl h0 h8 (hRv ▸ hR) hcp hn (by omega)
  rw [if_neg hno] at e52
  have e49 := m49 (v := v) h0
  rw [← hRv] at e49
  have hR29 : R < 29 := by subst hRv; split <;> omega
  have ea := abs12 a ha b hb
  rw [← hst] at ea
  by_cases hab : a ≤ b
  · rw [if_pos hab] at hst
    subst hst
    obtain ⟨g, h1, h2, e⟩ := m28l (R := R) (c := c) (st := b - a) (fr := Int32.ofNat a) (to := Int32.ofNat b) (sp := Int32.ofNat 1) (vi := bI v) (V := fun i => Int32.ofNat (a + i)) hR29 hRc (by omega) (fun i hi => by rw [iN_mul, iN_add, Nat.mul_one]) (b - a + 1) 0 n w f hl hR hC (by omega) hn'
    refine ⟨g, h1, fun i hi => by rw [h2 i hi, if_pos hab, Nat.zero_add], ?_⟩
    rw [zm28]
    simp (disch := (first | assumption | exact hb0 | exact hb1 | exact bI_ok | exact znl_i | exact znl_r | exact znl_n | exact zw0 | exact zw1 | exact zw2 | exact zw3 | exact zw4 | exact zx0 | exact zx1 | exact zx2 | exact zx3 | ((repeat' (first | assumption | apply zset_eq | apply zset_ne | omega)); done) | ((repeat' (first | exact zscL_nil | refine zscL_i ?_ | refine zscL_n ?_ | refine zscL_r ?_ ?_ | refine zscL_l ?_ | exact zscS_nil | refine zscS_i ?_ | refine zscS_r ?_ ?_ | refine zscS_l ?_ | (simp only [List.length_set, hl]; omega) | omega)); done) | omega | (with_unfolding_all rfl) | fail)) only [v28_0, v28_1, v28_4, v28_7, v28_8, v28_11, v28_14, v28_24, v28_25, v28_26, v28_27, v28_30, v28_32, v28_33, v28_34, v28_36, v28_37, v28_38, v28_39, v28_42, v28_43, v28_44, v28_47, v28_49, v28_50, v28_51, v28_54, v28_55, v28_58, v28_59, v28_61, v28_62, v28_66, v28_68, v28_71, v28_73, v28_74, v28_76, v28_78, v28_79, v28_80, v28_83, v28_86, v28_89, v28_91, v28_94, zAft_v, zAft_n, iN_add, iN_mul, iN_sub, iN_lt, iN_le, iN_eq, bI_0, bI_1, if_pos, if_neg, Nat.reduceAdd, Nat.reduceSub, Nat.reduceMul, Nat.add_zero, Nat.zero_add, List.set_set, not_true_eq_false, not_false_eq_true, if_true, if_false, reduceCtorEq, zAftx28, m45t, ea, jN_i2l, e52, e49]
    exact e
  · rw [if_neg hab] at hst
    subst hst
    obtain ⟨g, h1, h2, e⟩ := m28l (R := R) (c := c) (st := a - b) (fr := Int32.ofNat a) (to := Int32.ofNat b) (sp := -1) (vi := bI v) (V := fun i => Int32.ofNat (a - i)) hR29 hRc (by omega) (fun i hi => down12 a ha i (by omega) (by omega)) (a - b + 1) 0 n w f hl hR hC (by omega) hn'
    refine ⟨g, h1, fun i hi => by rw [h2 i hi, if_neg hab, Nat.zero_add], ?_⟩
    rw [zm28]
    simp (disch := (first | assumption | exact hb0 | exact hb1 | exact bI_ok | exact znl_i | exact znl_r | exact znl_n | exact zw0 | exact zw1 | exact zw2 | exact zw3 | exact zw4 | exact zx0 | exact zx1 | exact zx2 | exact zx3 | ((repeat' (first | assumption | apply zset_eq | apply zset_ne | omega)); done) | ((repeat' (first | exact zscL_nil | refine zscL_i ?_ | refine zscL_n ?_ | refine zscL_r ?_ ?_ | refine zscL_l ?_ | exact zscS_nil | refine zscS_i ?_ | refine zscS_r ?_ ?_ | refine zscS_l ?_ | (simp only [List.length_set, hl]; omega) | omega)); done) | omega | (with_unfolding_all rfl) | fail)) only [v28_0, v28_1, v28_4, v28_7, v28_8, v28_11, v28_14, v28_24, v28_25, v28_26, v28_27, v28_30, v28_32, v28_33, v28_34, v28_36, v28_37, v28_38, v28_39, v28_42, v28_43, v28_44, v28_47, v28_49, v28_50, v28_51, v28_54, v28_55, v28_58, v28_59, v28_61, v28_62, v28_66, v28_68, v28_71, v28_73, v28_74, v28_76, v28_78, v28_79, v28_80, v28_83, v28_86, v28_89, v28_91, v28_94, zAft_v, zAft_n, iN_add, iN_mul, iN_sub, iN_lt, iN_le, iN_eq, bI_0, bI_1, if_pos, if_neg, Nat.reduceAdd, Nat.reduceSub, Nat.reduceMul, Nat.add_zero, Nat.zero_add, List.set_set, not_true_eq_false, not_false_eq_true, if_true, if_false, reduceCtorEq, zAftx28, m45t, ea, jN_i2l, e52, e49]
    exact e
-- again
theorem o29x {v t : Bool} {x z : Int32} {c n R : Nat} (hl : w.length = 29) (h0 : w[0]? = some (.inr (3, [.ref 1, .ref 3, .ref 5, .ref 6, .ref 7, .ref 8, .ref 10, .ref 13, .ref 15, .ref 17]))) (hRv : R = if v = true then 1 else 3) (hR : w[R]? = some (.inr (2, [.ref c, .int (Int32.ofNat n)]))) (hn : n ≤ 30)
    (h : x < Int32.ofNat 1 ∨ Int32.ofNat n < x ∨ (t = false ∧ z < Int32.ofNat 0)) : zm E0 29 [.ref 0, .int (bI v), .int x, .int z, .int (bI t)] w = some (.inr 0, w, 1, 6) := by
  have e49 := m49 (v := v) h0
  rw [← hRv] at e49
  have hR29 : R < 29 := by subst hRv; split <;> omega
  rw [zm29]
  by_cases h1 : x < Int32.ofNat 1
  · simp (disch := (first | assumption | exact hb0 | exact hb1 | exact bI_ok | exact znl_i | exact znl_r | exact znl_n | exact zw0 | exact zw1 | exact zw2 | exact zw3 | exact zw4 | exact zx0 | exact zx1 | exact zx2 | exact zx3 | ((repeat' (first | assumption | apply zset_eq | apply zset_ne | omega)); done) | ((repeat' (first | exact zscL_nil | refine zscL_i ?_ | refine zscL_n ?_ | refine zscL_r ?_ ?_ | refine zscL_l ?_ | exact zscS_nil | refine zscS_i ?_ | refine zscS_r ?_ ?_ | refine zscS_l ?_ | (simp only [List.length_set, hl]; omega) | omega)); done) | omega | (with_unfolding_all rfl) | fail)) only [v29_0, v29_1, v29_2, v29_5, v29_7, v29_8, v29_9, v29_12, v29_13, v29_15, v29_18, v29_21, v29_31, v29_33, v29_36, v29_37, v29_40, v29_50, v29_52, v29_55, v29_56, v29_57, v29_58, v29_59, v29_62, v29_63, v29_64, v29_65, v29_66, v29_67, v29_69, v29_70, v29_71, v29_73, v29_76, v29_78, v29_81, v29_83, v29_84, v29_87, v29_90, v29_92, v29_93, v29_95, v29_96, v29_99, v29_101, v29_104, zAft_v, zAft_n, iN_add, iN_mul, iN_sub, iN_lt, iN_le, iN_eq, bI_0, bI_1, if_pos, if_neg, Nat.reduceAdd, Nat.reduceSub, Nat.reduceMul, Nat.add_zero, Nat.zero_add, List.set_set, not_true_eq_false, not_false_eq_true, if_true, if_false, reduceCtorEq, zAftx29, e49]
  · by_cases h2 : Int32.ofNat n < x
    · have h3 : ¬ x ≤ Int32.ofNat n := Int32.not_le.mpr h2
      simp (disch := (first | assumption | exact hb0 | exact hb1 | exact bI_ok | exact znl_i | exact znl_r | exact znl_n | exact zw0 | exact zw1 | exact zw2 | exact zw3 | exact zw4 | exact zx0 | exact zx1 | exact zx2 | exact zx3 | ((repeat' (first | assumption | apply zset_eq | apply zset_ne | omega)); done) | ((repeat' (first | exact zscL_nil | refine zscL_i ?_ | refine zscL_n ?_ | refine zscL_r ?_ ?_ | refine zscL_l ?_ | exact zscS_nil | refine zscS_i ?_ | refine zscS_r ?_ ?_ | refine zscS_l ?_ | (simp only [List.length_set, hl]; omega) | omega)); done) | omega | (with_unfolding_all rfl) | fail)) only [v29_0, v29_1, v29_2, v29_5, v29_7, v29_8, v29_9, v29_12, v29_13, v29_15, v29_18, v29_21, v29_31, v29_33, v29_36, v29_37, v29_40, v29_50, v29_52, v29_55, v29_56, v29_57, v29_58, v29_59, v29_62, v29_63, v29_64, v29_65, v29_66, v29_67, v29_69, v29_70, v29_71, v29_73, v29_76, v29_78, v29_81, v29_83, v29_84, v29_87, v29_90, v29_92, v29_93, v29_95, v29_96, v29_99, v29_101, v29_104, zAft_v, zAft_n, iN_add, iN_mul, iN_sub, iN_lt, iN_le, iN_eq, bI_0, bI_1, if_pos, if_neg, Nat.reduceAdd, Nat.reduceSub, Nat.reduceMul, Nat.add_zero, Nat.zero_add, List.set_set, not_true_eq_false, not_false_eq_true, if_true, if_false, reduceCtorEq, zAftx29, e49]
    · have h3 : x ≤ Int32.ofNat n := Int32.not_lt.mp h2
      rcases h with h | h | ⟨rfl, h⟩
      · exact absurd h h1
      · exact absurd h h2
      · have h4 : ¬ Int32.ofNat 0 ≤ z := Int32.not_le.mpr h
        simp (disch := (first | assumption | exact hb0 | exact hb1 | exact bI_ok | exact znl_i | exact znl_r | exact znl_n | exact zw0 | exact zw1 | exact zw2 | exact zw3 | exact zw4 | exact zx0 | exact zx1 | exact zx2 | exact zx3 | ((repeat' (first | assumption | apply zset_eq | apply zset_ne | omega)); done) | ((repeat' (first | exact zscL_nil | refine zscL_i ?_ | refine zscL_n ?_ | refine zscL_r ?_ ?_ | refine zscL_l ?_ | exact zscS_nil | refine zscS_i ?_ | refine zscS_r ?_ ?_ | refine zscS_l ?_ | (simp only [List.length_set, hl]; omega) | omega)); done) | omega | (with_unfolding_all rfl) | fail)) only [v29_0, v29_1, v29_2, v29_5, v29_7, v29_8, v29_9, v29_12, v29_13, v29_15, v29_18, v29_21, v29_31, v29_33, v29_36, v29_37, v29_40, v29_50, v29_52, v29_55, v29_56, v29_57, v29_58, v29_59, v29_62, v29_63, v29_64, v29_65, v29_66, v29_67, v29_69, v29_70, v29_71, v29_73, v29_76, v29_78, v29_81, v29_83, v29_84, v29_87, v29_90, v29_92, v29_93, v29_95, v29_96, v29_99, v29_101, v29_104, zAft_v, zAft_n, iN_add, iN_mul, iN_sub, iN_lt, iN_le, iN_eq, bI_0, bI_1, if_pos, if_neg, Nat.reduceAdd, Nat.reduceSub, Nat.reduceMul, Nat.add_zero, Nat.zero_add, List.set_set, not_true_eq_false, not_false_eq_true, if_true, if_false, reduceCtorEq, zAftx29, e49]
theorem o29n {v t : Bool} {m k c n R ce cp : Nat} (hl : w.length = 29) (h0 : w[0]? = some (.inr (3, [.ref 1, .ref 3, .ref 5, .ref 6, .ref 7, .ref 8, .ref 10, .ref 13, .ref 15, .ref 17]))) (h8 : w[8]? = some (.inr (0, [.ref 9, .int (Int32.ofNat ce), .int (Int32.ofNat cp)]))) (hRv : R = if v = true then 1 else 3) (hR : w[R]? = some (.inr (2, [.ref c, .int (Int32.ofNat n)]))) (hn : n ≤ 30) (hcp : cp ≤ 30) (hm : 1 ≤ m) (hmn : m ≤ n) {z : Int32} (hz : t = false → z = Int32.ofNat k) (hk : k < 2147483648)
    (hno : (v = true ∧ 0 < cp) ∨ 30 - n < (if t = true then m - 1 else m * k)) : zm E0 29 [.ref 0, .int (bI v), .int (Int32.ofNat m), .int z, .int (bI t)] w = some (.inr 1, w, 1, 6) := by
  have e49 := m49 (v := v) h0
  rw [← hRv] at e49
  have hR29 : R < 29 := by subst hRv; split <;> omega
  have hmk : m * k < 9223372036854775808 := by
    have : m * k ≤ 30 * k := Nat.mul_le_mul_right k (by omega)
    omega
  cases t
  · obtain rfl := hz rfl
    rw [if_neg (by decide)] at hno
    have e52 := m52 (v := v) (k := m * k) hl h0 h8 (hRv ▸ hR) hcp hn hmk
    rw [if_pos hno] at e52
    rw [zm29]
    simp (disch := (first | assumption | exact hb0 | exact hb1 | exact bI_ok | exact znl_i | exact znl_r | exact znl_n | exact zw0 | exact zw1 | exact zw2 | exact zw3 | exact zw4 | exact zx0 | exact zx1 | exact zx2 | exact zx3 | ((repeat' (first | assumption | apply zset_eq | apply zset_ne | omega)); done) | ((repeat' (first | exact zscL_nil | refine zscL_i ?_ | refine zscL_n ?_ | refine zscL_r ?_ ?_ | refine zscL_l ?_ | exact zscS_nil | refine zscS_i ?_ | refine zscS_r ?_ ?_ | refine zscS_l ?_ | (simp only [List.length_set, hl]; omega) | omega)); done) | omega | (with_unfolding_all rfl) | fail)) only [v29_0, v29_1, v29_2, v29_5, v29_7, v29_8, v29_9, v29_12, v29_13, v29_15, v29_18, v29_21, v29_31, v29_33, v29_36, v29_37, v29_40, v29_50, v29_52, v29_55, v29_56, v29_57, v29_58, v29_59, v29_62, v29_63, v29_64, v29_65, v29_66, v29_67, v29_69, v29_70, v29_71, v29_73, v29_76, v29_78, v29_81, v29_83, v29_84, v29_87, v29_90, v29_92, v29_93, v29_95, v29_96, v29_99, v29_101, v29_104, zAft_v, zAft_n, iN_add, iN_mul, iN_sub, iN_lt, iN_le, iN_eq, bI_0, bI_1, if_pos, if_neg, Nat.reduceAdd, Nat.reduceSub, Nat.reduceMul, Nat.add_zero, Nat.zero_add, List.set_set, not_true_eq_false, not_false_eq_true, if_true, if_false, reduceCtorEq, zAftx29, e49, jN_i2l, jN_mul, e52]
  · rw [if_pos rfl] at hno
    have e52 := m52 (v := v) (k := m - 1) hl h0 h8 (hRv ▸ hR) hcp hn (by omega)
    rw [if_pos hno] at e52
    rw [zm29]
    simp (disch := (first | assumption | exact hb0 | exact hb1 | exact bI_ok | exact znl_i | exact znl_r | exact znl_n | exact zw0 | exact zw1 | exact zw2 | exact zw3 | exact zw4 | exact zx0 | exact zx1 | exact zx2 | exact zx3 | ((repeat' (first | assumption | apply zset_eq | apply zset_ne | omega)); done) | ((repeat' (first | exact zscL_nil | refine zscL_i ?_ | refine zscL_n ?_ | refine zscL_r ?_ ?_ | refine zscL_l ?_ | exact zscS_nil | refine zscS_i ?_ | refine zscS_r ?_ ?_ | refine zscS_l ?_ | (simp only [List.length_set, hl]; omega) | omega)); done) | omega | (with_unfolding_all rfl) | fail)) only [v29_0, v29_1, v29_2, v29_5, v29_7, v29_8, v29_9, v29_12, v29_13, v29_15, v29_18, v29_21, v29_31, v29_33, v29_36, v29_37, v29_40, v29_50, v29_52, v29_55, v29_56, v29_57, v29_58, v29_59, v29_62, v29_63, v29_64, v29_65, v29_66, v29_67, v29_69, v29_70, v29_71, v29_73, v29_76, v29_78, v29_81, v29_83, v29_84, v29_87, v29_90, v29_92, v29_93, v29_95, v29_96, v29_99, v29_101, v29_104, zAft_v, zAft_n, iN_add, iN_mul, iN_sub, iN_lt, iN_le, iN_eq, bI_0, bI_1, if_pos, if_neg, Nat.reduceAdd, Nat.reduceSub, Nat.reduceMul, Nat.add_zero, Nat.zero_add, List.set_set, not_true_eq_false, not_false_eq_true, if_true, if_false, reduceCtorEq, zAftx29, e49, jN_i2l, jN_mul, e52]
theorem per {g f : Nat → Int32} {n m d : Nat} (hm : 1 ≤ m) (hmn : m ≤ n) (h1 : ∀ i, i < n → g i = f i) (h2 : ∀ i, i < d → g (n + i) = g (n + i - m)) : ∀ i, i < d → g (n + i) = f (n - m + i % m) := by
  intro i
  induction i using Nat.strongRecOn with
  | ind i ih =>
    intro hi
    rw [h2 i hi]
    by_cases h : i < m
    · rw [h1 _ (by omega), Nat.mod_eq_of_lt h]
      congr 1
      omega
    · rw [show n + i - m = n + (i - m) by omega, ih (i - m) (by omega) (by omega), ← Nat.mod_eq_sub_mod (by omega)]
theorem o29 {v t : Bool} {m k c n R ce cp : Nat} {f : Nat → Int32} (hl : w.length = 29) (h0 : w[0]? = some (.inr (3, [.ref 1, .ref 3, .ref 5, .ref 6, .ref 7, .ref 8, .ref 10, .ref 13, .ref 15, .ref 17]))) (h8 : w[8]? = some (.inr (0, [.ref 9, .int (Int32.ofNat ce), .int (Int32.ofNat cp)]))) (hRv : R = if v = true then 1 else 3) (hR : w[R]? = some (.inr (2, [.ref c, .int (Int32.ofNat n)]))) (hC : w[c]? = some (.inl (0, 30, .inl f))) (hRc : ¬ R = c) (hn : n ≤ 30) (hcp : cp ≤ 30) (hm : 1 ≤ m) (hmn : m ≤ n) {z : Int32} (hz : t = false → z = Int32.ofNat k) (hk : k < 2147483648)
    {d : Nat} (hd : d = if t = true then m - 1 else m * k) (hno : ¬ ((v = true ∧ 0 < cp) ∨ 30 - n < d)) : ∃ g, (∀ i, i < n → g i = f i) ∧ (∀ i, i < d → g (n + i) = f (if t = true then n - 1 - (1 + i) else n - m + i % m)) ∧ zm E0 29 [.ref 0, .int (bI v), .int (Int32.ofNat m), .int z, .int (bI t)] w = some (.inl (some (.int (Int32.ofNat (n + d)))), (w.set c (.inl (0, 30, .inl g))).set R (.inr (2, [.ref c, .int (Int32.ofNat (n + d))])), 0, 0) := by
  have e49 := m49 (v := v) h0
  rw [← hRv] at e49
  have hR29 : R < 29 := by subst hRv; split <;> omega
  have hd' : n + d ≤ 30 := by
    by_cases h : 30 - n < d
    · exact absurd (Or.inr h) hno
    · omega
  have e52 := m52 (v := v) (k := d) hl h0 h8 (hRv ▸ hR) hcp hn (by omega)
  rw [if_neg hno] at e52
  cases t
  · obtain rfl := hz rfl
    rw [if_neg (by decide)] at hd
    subst hd
    obtain ⟨g, h1, h2, e⟩ := m23 (a := R) (b := c) (N := 29) (m := m) (d := m * k) (n := n) (f := f) (w := w) hR29 hRc hm hl hR hC hd' hmn
    refine ⟨g, h1, fun i hi => by rw [per hm hmn h1 h2 i hi, if_neg (by decide)], ?_⟩
    have e3 : (Int64.ofNat (m * k)).toInt32 = Int32.ofNat (m * k) := Int64.toInt32_ofNat'
    rw [zm29]
    simp (disch := (first | assumption | exact hb0 | exact hb1 | exact bI_ok | exact znl_i | exact znl_r | exact znl_n | exact zw0 | exact zw1 | exact zw2 | exact zw3 | exact zw4 | exact zx0 | exact zx1 | exact zx2 | exact zx3 | ((repeat' (first | assumption | apply zset_eq | apply zset_ne | omega)); done) | ((repeat' (first | exact zscL_nil | refine zscL_i ?_ | refine zscL_n ?_ | refine zscL_r ?_ ?_ | refine zscL_l ?_ | exact zscS_nil | refine zscS_i ?_ | refine zscS_r ?_ ?_ | refine zscS_l ?_ | (simp only [List.length_set, hl]; omega) | omega)); done) | omega | (with_unfolding_all rfl) | fail)) only [v29_0, v29_1, v29_2, v29_5, v29_7, v29_8, v29_9, v29_12, v29_13, v29_15, v29_18, v29_21, v29_31, v29_33, v29_36, v29_37, v29_40, v29_50, v29_52, v29_55, v29_56, v29_57, v29_58, v29_59, v29_62, v29_63, v29_64, v29_65, v29_66, v29_67, v29_69, v29_70, v29_71, v29_73, v29_76, v29_78, v29_81, v29_83, v29_84, v29_87, v29_90, v29_92, v29_93, v29_95, v29_96, v29_99, v29_101, v29_104, zAft_v, zAft_n, iN_add, iN_mul, iN_sub, iN_lt, iN_le, iN_eq, bI_0, bI_1, if_pos, if_neg, Nat.reduceAdd, Nat.reduceSub, Nat.reduceMul, Nat.add_zero, Nat.zero_add, List.set_set, not_true_eq_false, not_false_eq_true, if_true, if_false, reduceCtorEq, zAftx29, e49, jN_i2l, jN_mul, e52, e3, e]
  · rw [if_pos rfl] at hd
    subst hd
    obtain ⟨g, h1, h2, e⟩ := m24 (a := R) (b := c) (N := 29) (m := m) (n := n) (f := f) (w := w) hR29 hRc hm hl hR hC hd' hmn
    refine ⟨g, h1, fun i hi => by rw [h2 i hi, if_pos rfl], ?_⟩
    rw [zm29]
    simp (disch := (first | assumption | exact hb0 | exact hb1 | exact bI_ok | exact znl_i | exact znl_r | exact znl_n | exact zw0 | exact zw1 | exact zw2 | exact zw3 | exact zw4 | exact zx0 | exact zx1 | exact zx2 | exact zx3 | ((repeat' (first | assumption | apply zset_eq | apply zset_ne | omega)); done) | ((repeat' (first | exact zscL_nil | refine zscL_i ?_ | refine zscL_n ?_ | refine zscL_r ?_ ?_ | refine zscL_l ?_ | exact zscS_nil | refine zscS_i ?_ | refine zscS_r ?_ ?_ | refine zscS_l ?_ | (simp only [List.length_set, hl]; omega) | omega)); done) | omega | (with_unfolding_all rfl) | fail)) only [v29_0, v29_1, v29_2, v29_5, v29_7, v29_8, v29_9, v29_12, v29_13, v29_15, v29_18, v29_21, v29_31, v29_33, v29_36, v29_37, v29_40, v29_50, v29_52, v29_55, v29_56, v29_57, v29_58, v29_59, v29_62, v29_63, v29_64, v29_65, v29_66, v29_67, v29_69, v29_70, v29_71, v29_73, v29_76, v29_78, v29_81, v29_83, v29_84, v29_87, v29_90, v29_92, v29_93, v29_95, v29_96, v29_99, v29_101, v29_104, zAft_v, zAft_n, iN_add, iN_mul, iN_sub, iN_lt, iN_le, iN_eq, bI_0, bI_1, if_pos, if_neg, Nat.reduceAdd, Nat.reduceSub, Nat.reduceMul, Nat.add_zero, Nat.zero_add, List.set_set, not_true_eq_false, not_false_eq_true, if_true, if_false, reduceCtorEq, zAftx29, e49, jN_i2l, jN_mul, e52, e]
-- clear
theorem o30 {v : Bool} {c n R ce cp : Nat} (hl : w.length = 29) (h0 : w[0]? = some (.inr (3, [.ref 1, .ref 3, .ref 5, .ref 6, .ref 7, .ref 8, .ref 10, .ref 13, .ref 15, .ref 17]))) (h8 : w[8]? = some (.inr (0, [.ref 9, .int (Int32.ofNat ce), .int (Int32.ofNat cp)]))) (hRv : R = if v = true then 1 else 3) (hR : w[R]? = some (.inr (2, [.ref c, .int (Int32.ofNat n)]))) (hcp : cp ≤ 30) :
    zm E0 30 [.ref 0, .int (bI v)] w = if v = true ∧ 0 < cp then some (.inr 1, w, 1, 6) else some (.inl (some (.int (Int32.ofNat (if v = true then 0 else cp)))), w.set R (.inr (2, [.ref c, .int (Int32.ofNat (if v = true then 0 else cp))])), 0, 0) := by
  have hR29 : R < 29 := by subst hRv; split <;> omega
  rw [zm30]
  cases v
  · rw [if_neg (by decide)] at hRv
    subst hRv
    simp (disch := (first | assumption | exact hb0 | exact hb1 | exact bI_ok | exact znl_i | exact znl_r | exact znl_n | exact zw0 | exact zw1 | exact zw2 | exact zw3 | exact zw4 | exact zx0 | exact zx1 | exact zx2 | exact zx3 | ((repeat' (first | assumption | apply zset_eq | apply zset_ne | omega)); done) | ((repeat' (first | exact zscL_nil | refine zscL_i ?_ | refine zscL_n ?_ | refine zscL_r ?_ ?_ | refine zscL_l ?_ | exact zscS_nil | refine zscS_i ?_ | refine zscS_r ?_ ?_ | refine zscS_l ?_ | (simp only [List.length_set, hl]; omega) | omega)); done) | omega | (with_unfolding_all rfl) | fail)) only [v30_0, v30_1, v30_4, v30_5, v30_8, v30_11, v30_14, v30_24, v30_25, v30_26, v30_29, v30_30, v30_31, v30_32, v30_35, v30_36, v30_39, v30_40, v30_43, v30_46, v30_49, v30_50, v30_53, zAft_v, zAft_n, iN_add, iN_mul, iN_sub, iN_lt, iN_le, iN_eq, bI_0, bI_1, if_pos, if_neg, Nat.reduceAdd, Nat.reduceSub, Nat.reduceMul, Nat.add_zero, Nat.zero_add, List.set_set, not_true_eq_false, not_false_eq_true, if_true, if_false, reduceCtorEq, zAftx30, m49f, Bool.false_eq_true, false_and]
  · rw [if_pos rfl] at hRv
    subst hRv
    by_cases h : 0 < cp
    · simp (disch := (first | assumption | exact hb0 | exact hb1 | exact bI_ok | exact znl_i | exact znl_r | exact znl_n | exact zw0 | exact zw1 | exact zw2 | exact zw3 | exact zw4 | exact zx0 | exact zx1 | exact zx2 | exact zx3 | ((repeat' (first | assumption | apply zset_eq | apply zset_ne | omega)); done) | ((repeat' (first | exact zscL_nil | refine zscL_i ?_ | refine zscL_n ?_ | refine zscL_r ?_ ?_ | refine zscL_l ?_ | exact zscS_nil | refine zscS_i ?_ | refine zscS_r ?_ ?_ | refine zscS_l ?_ | (simp only [List.length_set, hl]; omega) | omega)); done) | omega | (with_unfolding_all rfl) | fail)) only [v30_0, v30_1, v30_4, v30_5, v30_8, v30_11, v30_14, v30_24, v30_25, v30_26, v30_29, v30_30, v30_31, v30_32, v30_35, v30_36, v30_39, v30_40, v30_43, v30_46, v30_49, v30_50, v30_53, zAft_v, zAft_n, iN_add, iN_mul, iN_sub, iN_lt, iN_le, iN_eq, bI_0, bI_1, if_pos, if_neg, Nat.reduceAdd, Nat.reduceSub, Nat.reduceMul, Nat.add_zero, Nat.zero_add, List.set_set, not_true_eq_false, not_false_eq_true, if_true, if_false, reduceCtorEq, zAftx30, m49t, true_and, Bool.true_eq_false]
    · simp (disch := (first | assumption | exact hb0 | exact hb1 | exact bI_ok | exact znl_i | exact znl_r | exact znl_n | exact zw0 | exact zw1 | exact zw2 | exact zw3 | exact zw4 | exact zx0 | exact zx1 | exact zx2 | exact zx3 | ((repeat' (first | assumption | apply zset_eq | apply zset_ne | omega)); done) | ((repeat' (first | exact zscL_nil | refine zscL_i ?_ | refine zscL_n ?_ | refine zscL_r ?_ ?_ | refine zscL_l ?_ | exact zscS_nil | refine zscS_i ?_ | refine zscS_r ?_ ?_ | refine zscS_l ?_ | (simp only [List.length_set, hl]; omega) | omega)); done) | omega | (with_unfolding_all rfl) | fail)) only [v30_0, v30_1, v30_4, v30_5, v30_8, v30_11, v30_14, v30_24, v30_25, v30_26, v30_29, v30_30, v30_31, v30_32, v30_35, v30_36, v30_39, v30_40, v30_43, v30_46, v30_49, v30_50, v30_53, zAft_v, zAft_n, iN_add, iN_mul, iN_sub, iN_lt, iN_le, iN_eq, bI_0, bI_1, if_pos, if_neg, Nat.reduceAdd, Nat.reduceSub, Nat.reduceMul, Nat.add_zero, Nat.zero_add, List.set_set, not_true_eq_false, not_false_eq_true, if_true, if_false, reduceCtorEq, zAftx30, m49t, true_and, Bool.true_eq_false]
-- tie
theorem o31x {v x z : Int32} (hl : w.length = 29) (h : ¬ (decide (¬ x < Int32.ofNat 0 ∧ ¬ Int32.ofNat 12 ≤ x) = true ∧ decide (¬ z < Int32.ofNat 0 ∧ ¬ Int32.ofNat 12 ≤ z) = true)) :
    zm E0 31 [.ref 0, .int x, .int z, .int v] w = some (.inr 0, w, 1, 6) := by
  rw [zm31]
  have e1 := m45 (w := w) (x := x)
  have e2 := m45 (w := w) (x := z)
  generalize decide (¬ x < Int32.ofNat 0 ∧ ¬ Int32.ofNat 12 ≤ x) = p at h e1
  generalize decide (¬ z < Int32.ofNat 0 ∧ ¬ Int32.ofNat 12 ≤ z) = q at h e2
  cases p <;> cases q <;> first | exact absurd ⟨rfl, rfl⟩ h | (simp (disch := (first | assumption | exact hb0 | exact hb1 | exact bI_ok | exact znl_i | exact znl_r | exact znl_n | exact zw0 | exact zw1 | exact zw2 | exact zw3 | exact zw4 | exact zx0 | exact zx1 | exact zx2 | exact zx3 | ((repeat' (first | assumption | apply zset_eq | apply zset_ne | omega)); done) | ((repeat' (first | exact zscL_nil | refine zscL_i ?_ | refine zscL_n ?_ | refine zscL_r ?_ ?_ | refine zscL_l ?_ | exact zscS_nil | refine zscS_i ?_ | refine zscS_r ?_ ?_ | refine zscS_l ?_ | (simp only [List.length_set, hl]; omega) | omega)); done) | omega | (with_unfolding_all rfl) | fail)) only [v31_0, v31_1, v31_4, v31_7, v31_8, v31_11, v31_14, v31_24, v31_25, v31_26, v31_27, v31_30, v31_32, v31_33, v31_36, v31_37, v31_38, v31_41, v31_42, v31_43, v31_44, v31_45, v31_48, v31_49, v31_51, zAft_v, zAft_n, iN_add, iN_mul, iN_sub, iN_lt, iN_le, iN_eq, bI_0, bI_1, if_pos, if_neg, Nat.reduceAdd, Nat.reduceSub, Nat.reduceMul, Nat.add_zero, Nat.zero_add, List.set_set, not_true_eq_false, not_false_eq_true, if_true, if_false, reduceCtorEq, zAftx31, e1, e2])
theorem o31 {v : Bool} {a b : Nat} {ti : Nat → Int32} (hl : w.length = 29) (h0 : w[0]? = some (.inr (3, [.ref 1, .ref 3, .ref 5, .ref 6, .ref 7, .ref 8, .ref 10, .ref 13, .ref 15, .ref 17]))) (h5 : w[5]? = some (.inl (0, 12, .inl ti))) (ha : a < 12) (hb : b < 12) :
    zm E0 31 [.ref 0, .int (Int32.ofNat a), .int (Int32.ofNat b), .int (bI v)] w = some (.inl (some (.int (bI (tb (ti a) b)))), w.set 5 (.inl (0, 12, .inl (upd ti a (wb (ti a) b v)))), 0, 0) := by
  rw [zm31]
  simp (disch := (first | assumption | exact hb0 | exact hb1 | exact bI_ok | exact znl_i | exact znl_r | exact znl_n | exact zw0 | exact zw1 | exact zw2 | exact zw3 | exact zw4 | exact zx0 | exact zx1 | exact zx2 | exact zx3 | ((repeat' (first | assumption | apply zset_eq | apply zset_ne | omega)); done) | ((repeat' (first | exact zscL_nil | refine zscL_i ?_ | refine zscL_n ?_ | refine zscL_r ?_ ?_ | refine zscL_l ?_ | exact zscS_nil | refine zscS_i ?_ | refine zscS_r ?_ ?_ | refine zscS_l ?_ | (simp only [List.length_set, hl]; omega) | omega)); done) | omega | (with_unfolding_all rfl) | fail)) only [v31_0, v31_1, v31_4, v31_7, v31_8, v31_11, v31_14, v31_24, v31_25, v31_26, v31_27, v31_30, v31_32, v31_33, v31_36, v31_37, v31_38, v31_41, v31_42, v31_43, v31_44, v31_45, v31_48, v31_49, v31_51, zAft_v, zAft_n, iN_add, iN_mul, iN_sub, iN_lt, iN_le, iN_eq, bI_0, bI_1, if_pos, if_neg, Nat.reduceAdd, Nat.reduceSub, Nat.reduceMul, Nat.add_zero, Nat.zero_add, List.set_set, not_true_eq_false, not_false_eq_true, if_true, if_false, reduceCtorEq, zAftx31, m45t, m50, m46]
-- colour
theorem o33x {v : Bool} {x z : Int32} (h : ¬ (¬ x < Int32.ofNat 0 ∧ x < Int32.ofNat 30 ∧ ¬ z < Int32.ofNat 0 ∧ z < Int32.ofNat 10)) :
    zm E0 33 [.ref 0, .int (bI v), .int x, .int z] w = some (.inr 0, w, 1, 6) := by
  rw [zm33]
  by_cases h1 : x < Int32.ofNat 0
  · simp (disch := (first | assumption | exact hb0 | exact hb1 | exact bI_ok | exact znl_i | exact znl_r | exact znl_n | exact zw0 | exact zw1 | exact zw2 | exact zw3 | exact zw4 | exact zx0 | exact zx1 | exact zx2 | exact zx3 | ((repeat' (first | assumption | apply zset_eq | apply zset_ne | omega)); done) | omega | (with_unfolding_all rfl) | fail)) only [v33_0, v33_1, v33_4, v33_5, v33_7, v33_10, v33_20, v33_21, v33_24, v33_25, v33_27, v33_30, v33_40, v33_41, v33_44, v33_45, v33_48, v33_51, v33_52, v33_55, v33_57, v33_59, v33_60, v33_61, v33_63, v33_65, v33_66, v33_67, v33_68, v33_70, zAft_v, zAft_n, iN_add, iN_mul, iN_sub, iN_lt, iN_le, iN_eq, bI_0, bI_1, if_pos, if_neg, Nat.reduceAdd, Nat.reduceSub, Nat.reduceMul, Nat.add_zero, Nat.zero_add, List.set_set, not_true_eq_false, not_false_eq_true, if_true, if_false, reduceCtorEq, zAftx33]
  · by_cases h2 : x < Int32.ofNat 30
    · by_cases h3 : z < Int32.ofNat 0
      · simp (disch := (first | assumption | exact hb0 | exact hb1 | exact bI_ok | exact znl_i | exact znl_r | exact znl_n | exact zw0 | exact zw1 | exact zw2 | exact zw3 | exact zw4 | exact zx0 | exact zx1 | exact zx2 | exact zx3 | ((repeat' (first | assumption | apply zset_eq | apply zset_ne | omega)); done) | omega | (with_unfolding_all rfl) | fail)) only [v33_0, v33_1, v33_4, v33_5, v33_7, v33_10, v33_20, v33_21, v33_24, v33_25, v33_27, v33_30, v33_40, v33_41, v33_44, v33_45, v33_48, v33_51, v33_52, v33_55, v33_57, v33_59, v33_60, v33_61, v33_63, v33_65, v33_66, v33_67, v33_68, v33_70, zAft_v, zAft_n, iN_add, iN_mul, iN_sub, iN_lt, iN_le, iN_eq, bI_0, bI_1, if_pos, if_neg, Nat.reduceAdd, Nat.reduceSub, Nat.reduceMul, Nat.add_zero, Nat.zero_add, List.set_set, not_true_eq_false, not_false_eq_true, if_true, if_false, reduceCtorEq, zAftx33]
      · by_cases h4 : z < Int32.ofNat 10
        · exact absurd ⟨h1, h2, h3, h4⟩ h
        · simp (disch := (first | assumption | exact hb0 | exact hb1 | exact bI_ok | exact znl_i | exact znl_r | exact znl_n | exact zw0 | exact zw1 | exact zw2 | exact zw3 | exact zw4 | exact zx0 | exact zx1 | exact zx2 | exact zx3 | ((repeat' (first | assumption | apply zset_eq | apply zset_ne | omega)); done) | omega | (with_unfolding_all rfl) | fail)) only [v33_0, v33_1, v33_4, v33_5, v33_7, v33_10, v33_20, v33_21, v33_24, v33_25, v33_27, v33_30, v33_40, v33_41, v33_44, v33_45, v33_48, v33_51, v33_52, v33_55, v33_57, v33_59, v33_60, v33_61, v33_63, v33_65, v33_66, v33_67, v33_68, v33_70, zAft_v, zAft_n, iN_add, iN_mul, iN_sub, iN_lt, iN_le, iN_eq, bI_0, bI_1, if_pos, if_neg, Nat.reduceAdd, Nat.reduceSub, Nat.reduceMul, Nat.add_zero, Nat.zero_add, List.set_set, not_true_eq_false, not_false_eq_true, if_true, if_false, reduceCtorEq, zAftx33]
    · simp (disch := (first | assumption | exact hb0 | exact hb1 | exact bI_ok | exact znl_i | exact znl_r | exact znl_n | exact zw0 | exact zw1 | exact zw2 | exact zw3 | exact zw4 | exact zx0 | exact zx1 | exact zx2 | exact zx3 | ((repeat' (first | assumption | apply zset_eq | apply zset_ne | omega)); done) | omega | (with_unfolding_all rfl) | fail)) only [v33_0, v33_1, v33_4, v33_5, v33_7, v33_10, v33_20, v33_21, v33_24, v33_25, v33_27, v33_30, v33_40, v33_41, v33_44, v33_45, v33_48, v33_51, v33_52, v33_55, v33_57, v33_59, v33_60, v33_61, v33_63, v33_65, v33_66, v33_67, v33_68, v33_70, zAft_v, zAft_n, iN_add, iN_mul, iN_sub, iN_lt, iN_le, iN_eq, bI_0, bI_1, if_pos, if_neg, Nat.reduceAdd, Nat.reduceSub, Nat.reduceMul, Nat.add_zero, Nat.zero_add, List.set_set, not_true_eq_false, not_false_eq_true, if_true, if_false, reduceCtorEq, zAftx33]
theorem o33 {v : Bool} {i c C : Nat} {f : Nat → Int32} (h0 : w[0]? = some (.inr (3, [.ref 1, .ref 3, .ref 5, .ref 6, .ref 7, .ref 8, .ref 10, .ref 13, .ref 15, .ref 17]))) (hCv : C = if v = true then 6 else 7) (hC : w[C]? = some (.inl (0, 30, .inl f))) (hi : i < 30) (hc : c < 10) :
    zm E0 33 [.ref 0, .int (bI v), .int (Int32.ofNat i), .int (Int32.ofNat c)] w = some (.inl (some (.int (f i))), w.set C (.inl (0, 30, .inl (upd f i (Int32.ofNat c)))), 0, 0) := by
  rw [zm33]
  cases v
  · rw [if_neg (by decide)] at hCv
    subst hCv
    simp (disch := (first | assumption | exact hb0 | exact hb1 | exact bI_ok | exact znl_i | exact znl_r | exact znl_n | exact zw0 | exact zw1 | exact zw2 | exact zw3 | exact zw4 | exact zx0 | exact zx1 | exact zx2 | exact zx3 | ((repeat' (first | assumption | apply zset_eq | apply zset_ne | omega)); done) | omega | (with_unfolding_all rfl) | fail)) only [v33_0, v33_1, v33_4, v33_5, v33_7, v33_10, v33_20, v33_21, v33_24, v33_25, v33_27, v33_30, v33_40, v33_41, v33_44, v33_45, v33_48, v33_51, v33_52, v33_55, v33_57, v33_59, v33_60, v33_61, v33_63, v33_65, v33_66, v33_67, v33_68, v33_70, zAft_v, zAft_n, iN_add, iN_mul, iN_sub, iN_lt, iN_le, iN_eq, bI_0, bI_1, if_pos, if_neg, Nat.reduceAdd, Nat.reduceSub, Nat.reduceMul, Nat.add_zero, Nat.zero_add, List.set_set, not_true_eq_false, not_false_eq_true, if_true, if_false, reduceCtorEq, zAftx33]
  · rw [if_pos rfl] at hCv
    subst hCv
    simp (disch := (first | assumption | exact hb0 | exact hb1 | exact bI_ok | exact znl_i | exact znl_r | exact znl_n | exact zw0 | exact zw1 | exact zw2 | exact zw3 | exact zw4 | exact zx0 | exact zx1 | exact zx2 | exact zx3 | ((repeat' (first | assumption | apply zset_eq | apply zset_ne | omega)); done) | omega | (with_unfolding_all rfl) | fail)) only [v33_0, v33_1, v33_4, v33_5, v33_7, v33_10, v33_20, v33_21, v33_24, v33_25, v33_27, v33_30, v33_40, v33_41, v33_44, v33_45, v33_48, v33_51, v33_52, v33_55, v33_57, v33_59, v33_60, v33_61, v33_63, v33_65, v33_66, v33_67, v33_68, v33_70, zAft_v, zAft_n, iN_add, iN_mul, iN_sub, iN_lt, iN_le, iN_eq, bI_0, bI_1, if_pos, if_neg, Nat.reduceAdd, Nat.reduceSub, Nat.reduceMul, Nat.add_zero, Nat.zero_add, List.set_set, not_true_eq_false, not_false_eq_true, if_true, if_false, reduceCtorEq, zAftx33, Bool.true_eq_false]
end ops
