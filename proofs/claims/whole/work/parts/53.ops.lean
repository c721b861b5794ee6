/-! What the class's calls come to. -/
section ops
variable {w : zW}
theorem upd_seg {f g : Nat → Int32} {n d : Nat} {V : Nat → Int32} {x : Int32} (h1 : ∀ i, i < n + 1 → g i = upd f n x i) (h2 : ∀ i, i < d → g (n + 1 + i) = V (i + 1)) (hx : x = V 0) : (∀ i, i < n → g i = f i) ∧ ∀ i, i < d + 1 → g (n + i) = V i := by
  constructor
  · intro i hi
    rw [h1 i (by omega), upd_ne (by omega)]
  · intro i hi
    cases i with
    | zero => rw [Nat.add_zero, h1 n (by omega), upd_self, hx]
    | succ i => rw [show n + (i + 1) = n + 1 + i by omega]; exact h2 i (by omega)
theorem m28l {R c st : Nat} {fr to sp vi : Int32} {V : Nat → Int32} (hR : R < 29) (hRc : ¬ R = c) (hst : st < 12) (hV : ∀ i, i ≤ st → fr + Int32.ofNat i * sp = V i) :
    ∀ (d k n : Nat) (w : zW) (f : Nat → Int32), w.length = 29 → w[R]? = some (.inr (2, [.ref c, .int (Int32.ofNat n)])) → w[c]? = some (.inl (0, 30, .inl f)) → k + d = st + 1 → n + d ≤ 30 →
      ∃ g, (∀ i, i < n → g i = f i) ∧ (∀ i, i < d → g (n + i) = V (k + i)) ∧ zval E0 none 28 (64, [some (.ref 0), some (.int vi), some (.int fr), some (.int to), some (.int (Int32.ofNat st)), some (.ref R), some (.int sp), some (.int (Int32.ofNat k))], [], w, 0, 0) = some (.inl (some (.int (Int32.ofNat (n + d)))), (w.set c (.inl (0, 30, .inl g))).set R (.inr (2, [.ref c, .int (Int32.ofNat (n + d))])), 0, 0) := by
  intro d
  induction d with
  | zero =>
    intro k n w f hl h h' hk _
    refine ⟨f, fun _ _ => rfl, fun i hi => absurd hi (by omega), ?_⟩
    rw [v28_64]
    simp (disch := (first | assumption | exact hb0 | exact hb1 | exact bI_ok | exact znl_i | exact znl_r | exact znl_n | exact zw0 | exact zw1 | exact zw2 | exact zw3 | exact zw4 | exact zx0 | exact zx1 | exact zx2 | exact zx3 | ((repeat' (first | assumption | apply zset_eq | apply zset_ne | omega)); done) | ((repeat' (first | exact zscL_nil | refine zscL_i ?_ | refine zscL_n ?_ | refine zscL_r ?_ ?_ | refine zscL_l ?_ | exact zscS_nil | refine zscS_i ?_ | refine zscS_r ?_ ?_ | refine zscS_l ?_ | (simp only [List.length_set, hl]; omega) | omega)); done) | omega | (with_unfolding_all rfl) | fail)) only [v28_0, v28_1, v28_4, v28_7, v28_8, v28_11, v28_14, v28_24, v28_25, v28_26, v28_27, v28_30, v28_32, v28_33, v28_34, v28_36, v28_37, v28_38, v28_39, v28_42, v28_43, v28_44, v28_47, v28_49, v28_50, v28_51, v28_54, v28_55, v28_58, v28_59, v28_61, v28_62, v28_66, v28_68, v28_71, v28_73, v28_74, v28_76, v28_78, v28_79, v28_80, v28_83, v28_86, v28_89, v28_91, v28_94, zAft_v, zAft_n, iN_add, iN_mul, iN_sub, iN_lt, iN_le, iN_eq, bI_0, bI_1, if_pos, if_neg, Nat.reduceAdd, Nat.reduceSub, Nat.reduceMul, Nat.add_zero, Nat.zero_add, List.set_set, not_true_eq_false, not_false_eq_true, if_true, if_false, reduceCtorEq, zAftx28]
    rw [zset_id h', zset_id h]
  | succ d ih =>
    intro k n w f hl h h' hk hn
    have hx := hV k (by omega)
    obtain ⟨g, h1, h2, e⟩ := ih (k + 1) (n + 1) ((w.set c (.inl (0, 30, .inl (upd f n (V k))))).set R (.inr (2, [.ref c, .int (Int32.ofNat (n + 1))]))) (upd f n (V k)) (zset_len (zset_len hl)) (zset_eq (zset_ne h (fun e => hRc e.symm))) (zset_ne (zset_eq h') hRc) (by omega) (by omega)
    obtain ⟨h3, h4⟩ := upd_seg (V := fun i => V (k + i)) h1 (fun i hi => by rw [h2 i hi, show k + 1 + i = k + (i + 1) by omega]) rfl
    refine ⟨g, h3, h4, ?_⟩
    rw [v28_64]
    simp (disch := (first | assumption | exact hb0 | exact hb1 | exact bI_ok | exact znl_i | exact znl_r | exact znl_n | exact zw0 | exact zw1 | exact zw2 | exact zw3 | exact zw4 | exact zx0 | exact zx1 | exact zx2 | exact zx3 | ((repeat' (first | assumption | apply zset_eq | apply zset_ne | omega)); done) | ((repeat' (first | exact zscL_nil | refine zscL_i ?_ | refine zscL_n ?_ | refine zscL_r ?_ ?_ | refine zscL_l ?_ | exact zscS_nil | refine zscS_i ?_ | refine zscS_r ?_ ?_ | refine zscS_l ?_ | (simp only [List.length_set, hl]; omega) | omega)); done) | omega | (with_unfolding_all rfl) | fail)) only [v28_0, v28_1, v28_4, v28_7, v28_8, v28_11, v28_14, v28_24, v28_25, v28_26, v28_27, v28_30, v28_32, v28_33, v28_34, v28_36, v28_37, v28_38, v28_39, v28_42, v28_43, v28_44, v28_47, v28_49, v28_50, v28_51, v28_54, v28_55, v28_58, v28_59, v28_61, v28_62, v28_66, v28_68, v28_71, v28_73, v28_74, v28_76, v28_78, v28_79, v28_80, v28_83, v28_86, v28_89, v28_91, v28_94, zAft_v, zAft_n, iN_add, iN_mul, iN_sub, iN_lt, iN_le, iN_eq, bI_0, bI_1, if_pos, if_neg, Nat.reduceAdd, Nat.reduceSub, Nat.reduceMul, Nat.add_zero, Nat.zero_add, List.set_set, not_true_eq_false, not_false_eq_true, if_true, if_false, reduceCtorEq, zAftx28, m22, hx]
    rw [e, zset2 hRc, show n + 1 + d = n + (d + 1) by omega]
theorem o28x {v x z : Int32} (hl : w.length = 29) (h : ¬ (decide (¬ x < Int32.ofNat 0 ∧ ¬ Int32.ofNat 12 ≤ x) = true ∧ decide (¬ z < Int32.ofNat 0 ∧ ¬ Int32.ofNat 12 ≤ z) = true)) :
    zm E0 28 [.ref 0, .int v, .int x, .int z] w = some (.inr 0, w, 1, 6) := by
  rw [zm28]
  have e1 := m45 (w := w) (x := x)
  have e2 := m45 (w := w) (x := z)
  generalize decide (¬ x < Int32.ofNat 0 ∧ ¬ Int32.ofNat 12 ≤ x) = p at h e1
  generalize decide (¬ z < Int32.ofNat 0 ∧ ¬ Int32.ofNat 12 ≤ z) = q at h e2
  cases p <;> cases q <;> first | exact absurd ⟨rfl, rfl⟩ h | (simp (disch := (first | assumption | exact hb0 | exact hb1 | exact bI_ok | exact znl_i | exact znl_r | exact znl_n | exact zw0 | exact zw1 | exact zw2 | exact zw3 | exact zw4 | exact zx0 | exact zx1 | exact zx2 | exact zx3 | ((repeat' (first | assumption | apply zset_eq | apply zset_ne | omega)); done) | ((repeat' (first | exact zscL_nil | refine zscL_i ?_ | refine zscL_n ?_ | refine zscL_r ?_ ?_ | refine zscL_l ?_ | exact zscS_nil | refine zscS_i ?_ | refine zscS_r ?_ ?_ | refine zscS_l ?_ | (simp only [List.length_set, hl]; omega) | omega)); done) | omega | (with_unfolding_all rfl) | fail)) only [v28_0, v28_1, v28_4, v28_7, v28_8, v28_11, v28_14, v28_24, v28_25, v28_26, v28_27, v28_30, v28_32, v28_33, v28_34, v28_36, v28_37, v28_38, v28_39, v28_42, v28_43, v28_44, v28_47, v28_49, v28_50, v28_51, v28_54, v28_55, v28_58, v28_59, v28_61, v28_62, v28_66, v28_68, v28_71, v28_73, v28_74, v28_76, v28_78, v28_79, v28_80, v28_83, v28_86, v28_89, v28_91, v28_94, zAft_v, zAft_n, iN_add, iN_mul, iN_sub, iN_lt, iN_le, iN_eq, bI_0, bI_1, if_pos, if_neg, Nat.reduceAdd, Nat.reduceSub, Nat.reduceMul, Nat.add_zero, Nat.zero_add, List.set_set, not_true_eq_false, not_false_eq_true, if_true, if_false, reduceCtorEq, zAftx28, e1, e2])
theorem o28n {v : Bool} {a b c n R ce cp : Nat} (hl : w.length = 29) (h0 : w[0]? = some (.inr (3, [.ref 1, .ref 3, .ref 5, .ref 6, .ref 7, .ref 8, .ref 10, .ref 13, .ref 15, .ref 17]))) (h8 : w[8]? = some (.inr (0, [.ref 9, .int (Int32.ofNat ce), .int (Int32.ofNat cp)]))) (hRv : R = if v = true then 1 else 3) (hR : w[R]? = some (.inr (2, [.ref c, .int (Int32.ofNat n)]))) (ha : a < 12) (hb : b < 12) (hn : n ≤ 30) (hcp : cp ≤ 30)
    (hno : (v = true ∧ 0 < cp) ∨ 30 - n < (if a ≤ b then b - a else a - b) + 1) : zm E0 28 [.ref 0, .int (bI v), .int (Int32.ofNat a), .int (Int32.ofNat b)] w = some (.inr 1, w, 1, 6) := by
  have e52 := m52 (v := v) (k := (if a ≤ b then b - a else a - b) + 1) hl h0 h8 (hRv ▸ hR) hcp hn (by split <;> omega)
  rw [if_pos hno] at e52
  have ea := abs12 a ha b hb
  have est : (if a ≤ b then b - a else a - b) < 12 := by split <;> omega
  generalize (if a ≤ b then b - a else a - b) = st at *
  rw [zm28]
  simp (disch := (first | assumption | exact hb0 | exact hb1 | exact bI_ok | exact znl_i | exact znl_r | exact znl_n | exact zw0 | exact zw1 | exact zw2 | exact zw3 | exact zw4 | exact zx0 | exact zx1 | exact zx2 | exact zx3 | ((repeat' (first | assumption | apply zset_eq | apply zset_ne | omega)); done) | ((repeat' (first | exact zscL_nil | refine zscL_i ?_ | refine zscL_n ?_ | refine zscL_r ?_ ?_ | refine zscL_l ?_ | exact zscS_nil | refine zscS_i ?_ | refine zscS_r ?_ ?_ | refine zscS_l ?_ | (simp only [List.length_set, hl]; omega) | omega)); done) | omega | (with_unfolding_all rfl) | fail)) only [v28_0, v28_1, v28_4, v28_7, v28_8, v28_11, v28_14, v28_24, v28_25, v28_26, v28_27, v28_30, v28_32, v28_33, v28_34, v28_36, v28_37, v28_38, v28_39, v28_42, v28_43, v28_44, v28_47, v28_49, v28_50, v28_51, v28_54, v28_55, v28_58, v28_59, v28_61, v28_62, v28_66, v28_68, v28_71, v28_73, v28_74, v28_76, v28_78, v28_79, v28_80, v28_83, v28_86, v28_89, v28_91, v28_94, zAft_v, zAft_n, iN_add, iN_mul, iN_sub, iN_lt, iN_le, iN_eq, bI_0, bI_1, if_pos, if_neg, Nat.reduceAdd, Nat.reduceSub, Nat.reduceMul, Nat.add_zero, Nat.zero_add, List.set_set, not_true_eq_false, not_false_eq_true, if_true, if_false, reduceCtorEq, zAftx28, m45t, ea, jN_i2l, e52]
theorem o28 {v : Bool} {a b c n R ce cp : Nat} {f : Nat → Int32} (hl : w.length = 29) (h0 : w[0]? = some (.inr (3, [.ref 1, .ref 3, .ref 5, .ref 6, .ref 7, .ref 8, .ref 10, .ref 13, .ref 15, .ref 17]))) (h8 : w[8]? = some (.inr (0, [.ref 9, .int (Int32.ofNat ce), .int (Int32.ofNat cp)]))) (hRv : R = if v = true then 1 else 3) (hR : w[R]? = some (.inr (2, [.ref c, .int (Int32.ofNat n)]))) (hC : w[c]? = some (.inl (0, 30, .inl f))) (hRc : ¬ R = c) (ha : a < 12) (hb : b < 12) (hn : n ≤ 30) (hcp : cp ≤ 30) {st : Nat} (hst : st = if a ≤ b then b - a else a - b)
    (hno : ¬ ((v = true ∧ 0 < cp) ∨ 30 - n < st + 1)) : ∃ g, (∀ i, i < n → g i = f i) ∧ (∀ i, i < st + 1 → g (n + i) = Int32.ofNat (if a ≤ b then a + i else a - i)) ∧ zm E0 28 [.ref 0, .int (bI v), .int (Int32.ofNat a), .int (Int32.ofNat b)] w = some (.inl (some (.int (Int32.ofNat (n + (st + 1))))), (w.set c (.inl (0, 30, .inl g))).set R (.inr (2, [.ref c, .int (Int32.ofNat (n + (st + 1)))])), 0, 0) := by
  have hn' : n + (st + 1) ≤ 30 := by
    by_cases h : 30 - n < st + 1
    · exact absurd (Or.inr h) hno
    · omega
  have e52 := m52 (v := v) (k := st + 1) hl h0 h8 (hRv ▸ hR) hcp hn (by omega)
  rw [if_neg hno] at e52
  have e49 := m49 (v := v) h0
  rw [← hRv] at e49
  have hR29 : R < 29 := by subst hRv; split <;> omega
  have ea := abs12 a ha b hb
  rw [← hst] at ea
  by_cases hab : a ≤ b
  · rw [if_pos hab] at hst
    subst hst
    obtain ⟨g, h1, h2, e⟩ := m28l (R := R) (c := c) (st := st) (fr := Int32.ofNat a) (to := Int32.ofNat b) (sp := Int32.ofNat 1) (vi := bI v) (V := fun i => Int32.ofNat (a + i)) hR29 hRc (by omega) (fun i hi => by rw [iN_mul, iN_add, Nat.mul_one]) (st + 1) 0 n w f hl hR hC (by omega) hn'
    refine ⟨g, h1, fun i hi => by rw [h2 i hi, if_pos hab, Nat.zero_add], ?_⟩
    rw [zm28]
    simp (disch := (first | assumption | exact hb0 | exact hb1 | exact bI_ok | exact znl_i | exact znl_r | exact znl_n | exact zw0 | exact zw1 | exact zw2 | exact zw3 | exact zw4 | exact zx0 | exact zx1 | exact zx2 | exact zx3 | ((repeat' (first | assumption | apply zset_eq | apply zset_ne | omega)); done) | ((repeat' (first | exact zscL_nil | refine zscL_i ?_ | refine zscL_n ?_ | refine zscL_r ?_ ?_ | refine zscL_l ?_ | exact zscS_nil | refine zscS_i ?_ | refine zscS_r ?_ ?_ | refine zscS_l ?_ | (simp only [List.length_set, hl]; omega) | omega)); done) | omega | (with_unfolding_all rfl) | fail)) only [v28_0, v28_1, v28_4, v28_7, v28_8, v28_11, v28_14, v28_24, v28_25, v28_26, v28_27, v28_30, v28_32, v28_33, v28_34, v28_36, v28_37, v28_38, v28_39, v28_42, v28_43, v28_44, v28_47, v28_49, v28_50, v28_51, v28_54, v28_55, v28_58, v28_59, v28_61, v28_62, v28_66, v28_68, v28_71, v28_73, v28_74, v28_76, v28_78, v28_79, v28_80, v28_83, v28_86, v28_89, v28_91, v28_94, zAft_v, zAft_n, iN_add, iN_mul, iN_sub, iN_lt, iN_le, iN_eq, bI_0, bI_1, if_pos, if_neg, Nat.reduceAdd, Nat.reduceSub, Nat.reduceMul, Nat.add_zero, Nat.zero_add, List.set_set, not_true_eq_false, not_false_eq_true, if_true, if_false, reduceCtorEq, zAftx28, m45t, ea, jN_i2l, e52, e49]
    exact e
  · rw [if_neg hab] at hst
    subst hst
    obtain ⟨g, h1, h2, e⟩ := m28l (R := R) (c := c) (st := st) (fr := Int32.ofNat a) (to := Int32.ofNat b) (sp := -1) (vi := bI v) (V := fun i => Int32.ofNat (a - i)) hR29 hRc (by omega) (fun i hi => down12 a ha i (by omega) (by omega)) (st + 1) 0 n w f hl hR hC (by omega) hn'
    refine ⟨g, h1, fun i hi => by rw [h2 i hi, if_neg hab, Nat.zero_add], ?_⟩
    rw [zm28]
    simp (disch := (first | assumption | exact hb0 | exact hb1 | exact bI_ok | exact znl_i | exact znl_r | exact znl_n | exact zw0 | exact zw1 | exact zw2 | exact zw3 | exact zw4 | exact zx0 | exact zx1 | exact zx2 | exact zx3 | ((repeat' (first | assumption | apply zset_eq | apply zset_ne | omega)); done) | ((repeat' (first | exact zscL_nil | refine zscL_i ?_ | refine zscL_n ?_ | refine zscL_r ?_ ?_ | refine zscL_l ?_ | exact zscS_nil | refine zscS_i ?_ | refine zscS_r ?_ ?_ | refine zscS_l ?_ | (simp only [List.length_set, hl]; omega) | omega)); done) | omega | (with_unfolding_all rfl) | fail)) only [v28_0, v28_1, v28_4, v28_7, v28_8, v28_11, v28_14, v28_24, v28_25, v28_26, v28_27, v28_30, v28_32, v28_33, v28_34, v28_36, v28_37, v28_38, v28_39, v28_42, v28_43, v28_44, v28_47, v28_49, v28_50, v28_51, v28_54, v28_55, v28_58, v28_59, v28_61, v28_62, v28_66, v28_68, v28_71, v28_73, v28_74, v28_76, v28_78, v28_79, v28_80, v28_83, v28_86, v28_89, v28_91, v28_94, zAft_v, zAft_n, iN_add, iN_mul, iN_sub, iN_lt, iN_le, iN_eq, bI_0, bI_1, if_pos, if_neg, Nat.reduceAdd, Nat.reduceSub, Nat.reduceMul, Nat.add_zero, Nat.zero_add, List.set_set, not_true_eq_false, not_false_eq_true, if_true, if_false, reduceCtorEq, zAftx28, m45t, ea, jN_i2l, e52, e49]
    exact e
end ops
