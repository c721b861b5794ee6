/-! A throw passes through. -/
theorem zAftx28 {Sc : zSc} {pc x ca sl mc ms : Nat} {ls : zL} {st : List Value} {w : zW} : zAft E0 Sc 28 pc ls st ca sl (some (.inr x, w, mc, ms)) = some (.inr x, w, ca + mc, sl + ms) := zAft_x rfl
theorem zAftx29 {Sc : zSc} {pc x ca sl mc ms : Nat} {ls : zL} {st : List Value} {w : zW} : zAft E0 Sc 29 pc ls st ca sl (some (.inr x, w, mc, ms)) = some (.inr x, w, ca + mc, sl + ms) := zAft_x rfl
theorem zAftx30 {Sc : zSc} {pc x ca sl mc ms : Nat} {ls : zL} {st : List Value} {w : zW} : zAft E0 Sc 30 pc ls st ca sl (some (.inr x, w, mc, ms)) = some (.inr x, w, ca + mc, sl + ms) := zAft_x rfl
theorem zAftx31 {Sc : zSc} {pc x ca sl mc ms : Nat} {ls : zL} {st : List Value} {w : zW} : zAft E0 Sc 31 pc ls st ca sl (some (.inr x, w, mc, ms)) = some (.inr x, w, ca + mc, sl + ms) := zAft_x rfl
theorem zAftx32 {Sc : zSc} {pc x ca sl mc ms : Nat} {ls : zL} {st : List Value} {w : zW} : zAft E0 Sc 32 pc ls st ca sl (some (.inr x, w, mc, ms)) = some (.inr x, w, ca + mc, sl + ms) := zAft_x rfl
theorem zAftx33 {Sc : zSc} {pc x ca sl mc ms : Nat} {ls : zL} {st : List Value} {w : zW} : zAft E0 Sc 33 pc ls st ca sl (some (.inr x, w, mc, ms)) = some (.inr x, w, ca + mc, sl + ms) := zAft_x rfl
theorem zAftx34 {Sc : zSc} {pc x ca sl mc ms : Nat} {ls : zL} {st : List Value} {w : zW} : zAft E0 Sc 34 pc ls st ca sl (some (.inr x, w, mc, ms)) = some (.inr x, w, ca + mc, sl + ms) := zAft_x rfl
theorem zAftx35 {Sc : zSc} {pc x ca sl mc ms : Nat} {ls : zL} {st : List Value} {w : zW} : zAft E0 Sc 35 pc ls st ca sl (some (.inr x, w, mc, ms)) = some (.inr x, w, ca + mc, sl + ms) := zAft_x rfl
theorem zAftx36 {Sc : zSc} {pc x ca sl mc ms : Nat} {ls : zL} {st : List Value} {w : zW} : zAft E0 Sc 36 pc ls st ca sl (some (.inr x, w, mc, ms)) = some (.inr x, w, ca + mc, sl + ms) := zAft_x rfl
theorem zAftx37 {Sc : zSc} {pc x ca sl mc ms : Nat} {ls : zL} {st : List Value} {w : zW} : zAft E0 Sc 37 pc ls st ca sl (some (.inr x, w, mc, ms)) = some (.inr x, w, ca + mc, sl + ms) := zAft_x rfl
theorem zAftx38 {Sc : zSc} {pc x ca sl mc ms : Nat} {ls : zL} {st : List Value} {w : zW} : zAft E0 Sc 38 pc ls st ca sl (some (.inr x, w, mc, ms)) = some (.inr x, w, ca + mc, sl + ms) := zAft_x rfl
theorem zAftx39 {Sc : zSc} {pc x ca sl mc ms : Nat} {ls : zL} {st : List Value} {w : zW} : zAft E0 Sc 39 pc ls st ca sl (some (.inr x, w, mc, ms)) = some (.inr x, w, ca + mc, sl + ms) := zAft_x rfl
theorem zAftx40 {Sc : zSc} {pc x ca sl mc ms : Nat} {ls : zL} {st : List Value} {w : zW} : zAft E0 Sc 40 pc ls st ca sl (some (.inr x, w, mc, ms)) = some (.inr x, w, ca + mc, sl + ms) := zAft_x rfl
theorem zAftx41 {Sc : zSc} {pc x ca sl mc ms : Nat} {ls : zL} {st : List Value} {w : zW} : zAft E0 Sc 41 pc ls st ca sl (some (.inr x, w, mc, ms)) = some (.inr x, w, ca + mc, sl + ms) := zAft_x rfl
theorem zAftx42 {Sc : zSc} {pc x ca sl mc ms : Nat} {ls : zL} {st : List Value} {w : zW} : zAft E0 Sc 42 pc ls st ca sl (some (.inr x, w, mc, ms)) = some (.inr x, w, ca + mc, sl + ms) := zAft_x rfl
theorem zAftx43 {Sc : zSc} {pc x ca sl mc ms : Nat} {ls : zL} {st : List Value} {w : zW} : zAft E0 Sc 43 pc ls st ca sl (some (.inr x, w, mc, ms)) = some (.inr x, w, ca + mc, sl + ms) := zAft_x rfl
theorem zAftx44 {Sc : zSc} {pc x ca sl mc ms : Nat} {ls : zL} {st : List Value} {w : zW} : zAft E0 Sc 44 pc ls st ca sl (some (.inr x, w, mc, ms)) = some (.inr x, w, ca + mc, sl + ms) := zAft_x rfl
/-! Longs as naturals. -/
theorem upd_self {f : Nat → Int32} {n : Nat} {x : Int32} : upd f n x n = x := by simp [upd]
theorem upd_ne {f : Nat → Int32} {n i : Nat} {x : Int32} (h : ¬ i = n) : upd f n x i = f i := by simp [upd, h]
theorem updL_self {f : Nat → Int64} {n : Nat} {x : Int64} : vp_updL f n x n = x := by simp [vp_updL]
theorem updL_ne {f : Nat → Int64} {n i : Nat} {x : Int64} (h : ¬ i = n) : vp_updL f n x i = f i := by simp [vp_updL, h]
theorem jN_i2l {k : Nat} (h : k < 2147483648) : (Int32.ofNat k).toInt64 = Int64.ofNat k := by
  apply Int32.toInt64_ofNat'
  show (k : Int) ≤ 2147483647
  omega
theorem jN_add (a b : Nat) : Int64.ofNat a + Int64.ofNat b = Int64.ofNat (a + b) := (Int64.ofNat_add a b).symm
theorem jN_mul (a b : Nat) : Int64.ofNat a * Int64.ofNat b = Int64.ofNat (a * b) := (Int64.ofNat_mul a b).symm
theorem jN_lt {a b : Nat} (ha : a < 9223372036854775808) (hb : b < 9223372036854775808) : (Int64.ofNat a < Int64.ofNat b) = (a < b) := propext (Int64.ofNat_lt_iff_lt ha hb)
theorem jN_inj {a b : Nat} (ha : a < 9223372036854775808) (hb : b < 9223372036854775808) (h : Int64.ofNat a = Int64.ofNat b) : a = b := by
  rw [← Int64.toNatClampNeg_ofNat_of_lt (n := a) ha, h, Int64.toNatClampNeg_ofNat_of_lt hb]
theorem lc_le {a b : Nat} (ha : a < 9223372036854775808) (hb : b < 9223372036854775808) : (lg_cmp (Int64.ofNat a) (Int64.ofNat b) ≤ Int32.ofNat 0) = (a ≤ b) := by
  unfold lg_cmp
  show ((if Int64.ofNat b < Int64.ofNat a then (1 : Int32) else if Int64.ofNat a = Int64.ofNat b then 0 else -1) ≤ Int32.ofNat 0) = _
  by_cases h : b < a
  · rw [if_pos (show Int64.ofNat b < Int64.ofNat a by rw [jN_lt hb ha]; exact h)]
    apply propext
    constructor
    · intro h1; exact absurd h1 (by decide)
    · intro h1; omega
  · rw [if_neg (show ¬ Int64.ofNat b < Int64.ofNat a by rw [jN_lt hb ha]; exact h)]
    apply propext
    constructor
    · intro _; omega
    · intro _; split <;> decide
theorem lc_gt {a b : Nat} (ha : a < 9223372036854775808) (hb : b < 9223372036854775808) : (Int32.ofNat 0 < lg_cmp (Int64.ofNat a) (Int64.ofNat b)) = (b < a) := by
  have h := lc_le ha hb
  rw [← Int32.not_le, h]
  apply propext
  omega
theorem lc_eq {a b : Int64} : (lg_cmp a b = Int32.ofNat 0) = (a = b) := by
  unfold lg_cmp
  apply propext
  constructor
  · intro h
    split at h
    · exact absurd h (by decide)
    · split at h
      · assumption
      · exact absurd h (by decide)
  · intro h
    subst h
    rw [if_neg (Int64.lt_irrefl), if_pos rfl]
    rfl
theorem iN_rem {a b : Nat} (ha : a < 2147483648) (hb : b < 2147483648) : Int32.ofNat a - Int32.ofNat a / Int32.ofNat b * Int32.ofNat b = Int32.ofNat (a % b) := by
  rw [← Int32.ofNat_div ha hb, iN_mul, iN_sub (Nat.div_mul_le_self a b)]
  congr 1
  have h := Nat.div_add_mod a b
  rw [Nat.mul_comm] at h
  omega
/-! Rows. -/
theorem zset2 {w : zW} {a b : Nat} {x x' y y' : va_E} (h : ¬ a = b) : (((w.set b x).set a y).set b x').set a y' = (w.set b x').set a y' := by
  rw [List.set_comm y x' h, List.set_set, List.set_set]
section row
variable {a b N : Nat}
theorem m23l {m : Nat} (ha : a < N) (hab : ¬ a = b) (hm : 1 ≤ m) :
    ∀ (d k n : Nat) (w : zW) (f : Nat → Int32), w.length = N → w[a]? = some (.inr (2, [.ref b, .int (Int32.ofNat n)])) → w[b]? = some (.inl (0, 30, .inl f)) → n + d ≤ 30 → m ≤ n → k + d < 2147483648 →
      ∃ g, (∀ i, i < n → g i = f i) ∧ (∀ i, i < d → g (n + i) = g (n + i - m)) ∧ zval E0 none 23 (2, [some (.ref a), some (.int (Int32.ofNat m)), some (.int (Int32.ofNat (k + d))), some (.int (Int32.ofNat k))], [], w, 0, 0) = some (.inl none, (w.set b (.inl (0, 30, .inl g))).set a (.inr (2, [.ref b, .int (Int32.ofNat (n + d))])), 0, 0) := by
  intro d
  induction d with
  | zero =>
    intro k n w f hl h h' _ _ _
    refine ⟨f, fun _ _ => rfl, fun i hi => absurd hi (by omega), ?_⟩
    rw [v23_2]
    simp (disch := (first | assumption | exact hb0 | exact hb1 | exact bI_ok | exact znl_i | exact znl_r | exact znl_n | exact zw0 | exact zw1 | exact zw2 | exact zw3 | exact zw4 | exact zx0 | exact zx1 | exact zx2 | exact zx3 | ((repeat' (first | assumption | apply zset_eq | apply zset_ne | omega)); done) | ((repeat' (first | exact zscL_nil | refine zscL_i ?_ | refine zscL_n ?_ | refine zscL_r ?_ ?_ | refine zscL_l ?_ | exact zscS_nil | refine zscS_i ?_ | refine zscS_r ?_ ?_ | refine zscS_l ?_ | (simp only [List.length_set, hl]; first | omega | assumption) | omega)); done) | omega | (with_unfolding_all rfl) | fail)) only [v23_0, v23_1, v23_3, v23_4, v23_7, v23_8, v23_9, v23_12, v23_13, v23_16, v23_17, v23_18, v23_19, v23_22, v23_25, v23_28, zAft_v, zAft_n, iN_add, iN_mul, iN_sub, iN_lt, iN_le, iN_eq, bI_0, bI_1, if_pos, if_neg, ifnn, Nat.reduceAdd, Nat.reduceSub, Nat.reduceMul, Nat.add_zero, Nat.zero_add, List.set_set, not_true_eq_false, not_false_eq_true, if_true, if_false, reduceCtorEq]
    rw [zset_id h', zset_id h]
  | succ d ih =>
    intro k n w f hl h h' hn hmn hk
    obtain ⟨g, h1, h2, e⟩ := ih (k + 1) (n + 1) ((w.set b (.inl (0, 30, .inl (upd f n (f (n - m)))))).set a (.inr (2, [.ref b, .int (Int32.ofNat (n + 1))]))) (upd f n (f (n - m))) (zset_len (zset_len hl)) (zset_eq (zset_ne h (fun e => hab e.symm))) (zset_ne (zset_eq h') hab) (by omega) (by omega) (by omega)
    refine ⟨g, ?_, ?_, ?_⟩
    · intro i hi
      rw [h1 i (by omega)]
      rw [upd_ne (by omega)]
    · intro i hi
      cases i with
      | zero =>
        rw [Nat.add_zero, h1 n (by omega), h1 (n - m) (by omega)]
        rw [upd_self, upd_ne (by omega)]
      | succ i =>
        have := h2 i (by omega)
        rw [show n + (i + 1) = n + 1 + i by omega]
        exact this
    · rw [v23_2]
      simp (disch := (first | assumption | exact hb0 | exact hb1 | exact bI_ok | exact znl_i | exact znl_r | exact znl_n | exact zw0 | exact zw1 | exact zw2 | exact zw3 | exact zw4 | exact zx0 | exact zx1 | exact zx2 | exact zx3 | ((repeat' (first | assumption | apply zset_eq | apply zset_ne | omega)); done) | ((repeat' (first | exact zscL_nil | refine zscL_i ?_ | refine zscL_n ?_ | refine zscL_r ?_ ?_ | refine zscL_l ?_ | exact zscS_nil | refine zscS_i ?_ | refine zscS_r ?_ ?_ | refine zscS_l ?_ | (simp only [List.length_set, hl]; first | omega | assumption) | omega)); done) | omega | (with_unfolding_all rfl) | fail)) only [v23_0, v23_1, v23_3, v23_4, v23_7, v23_8, v23_9, v23_12, v23_13, v23_16, v23_17, v23_18, v23_19, v23_22, v23_25, v23_28, zAft_v, zAft_n, iN_add, iN_mul, iN_sub, iN_lt, iN_le, iN_eq, bI_0, bI_1, if_pos, if_neg, ifnn, Nat.reduceAdd, Nat.reduceSub, Nat.reduceMul, Nat.add_zero, Nat.zero_add, List.set_set, not_true_eq_false, not_false_eq_true, if_true, if_false, reduceCtorEq, m22]
      rw [show k + (d + 1) = k + 1 + d by omega, e, zset2 hab, show n + 1 + d = n + (d + 1) by omega]
theorem m24l {m l : Nat} (ha : a < N) (hab : ¬ a = b) {f0 : Nat → Int32} (hl' : l < 30) :
    ∀ (d k n : Nat) (w : zW) (f : Nat → Int32), w.length = N → w[a]? = some (.inr (2, [.ref b, .int (Int32.ofNat n)])) → w[b]? = some (.inl (0, 30, .inl f)) → k + d = m → n + d ≤ 30 → m ≤ l + 1 → l < n → (∀ i, i ≤ l → f i = f0 i) →
      ∃ g, (∀ i, i < n → g i = f i) ∧ (∀ i, i < d → g (n + i) = f0 (l - (k + i))) ∧ zval E0 none 24 (9, [some (.ref a), some (.int (Int32.ofNat m)), some (.int (Int32.ofNat l)), some (.int (Int32.ofNat k))], [], w, 0, 0) = some (.inl none, (w.set b (.inl (0, 30, .inl g))).set a (.inr (2, [.ref b, .int (Int32.ofNat (n + d))])), 0, 0) := by
  intro d
  induction d with
  | zero =>
    intro k n w f hl h h' hk _ _ _ _
    refine ⟨f, fun _ _ => rfl, fun i hi => absurd hi (by omega), ?_⟩
    rw [v24_9]
    simp (disch := (first | assumption | exact hb0 | exact hb1 | exact bI_ok | exact znl_i | exact znl_r | exact znl_n | exact zw0 | exact zw1 | exact zw2 | exact zw3 | exact zw4 | exact zx0 | exact zx1 | exact zx2 | exact zx3 | ((repeat' (first | assumption | apply zset_eq | apply zset_ne | omega)); done) | ((repeat' (first | exact zscL_nil | refine zscL_i ?_ | refine zscL_n ?_ | refine zscL_r ?_ ?_ | refine zscL_l ?_ | exact zscS_nil | refine zscS_i ?_ | refine zscS_r ?_ ?_ | refine zscS_l ?_ | (simp only [List.length_set, hl]; first | omega | assumption) | omega)); done) | omega | (with_unfolding_all rfl) | fail)) only [v24_0, v24_1, v24_4, v24_5, v24_6, v24_7, v24_8, v24_10, v24_11, v24_14, v24_15, v24_16, v24_19, v24_20, v24_21, v24_22, v24_23, v24_26, v24_29, v24_32, zAft_v, zAft_n, iN_add, iN_mul, iN_sub, iN_lt, iN_le, iN_eq, bI_0, bI_1, if_pos, if_neg, ifnn, Nat.reduceAdd, Nat.reduceSub, Nat.reduceMul, Nat.add_zero, Nat.zero_add, List.set_set, not_true_eq_false, not_false_eq_true, if_true, if_false, reduceCtorEq]
    rw [zset_id h', zset_id h]
  | succ d ih =>
    intro k n w f hl h h' hk hn hm hln hf
    obtain ⟨g, h1, h2, e⟩ := ih (k + 1) (n + 1) ((w.set b (.inl (0, 30, .inl (upd f n (f (l - k)))))).set a (.inr (2, [.ref b, .int (Int32.ofNat (n + 1))]))) (upd f n (f (l - k))) (zset_len (zset_len hl)) (zset_eq (zset_ne h (fun e => hab e.symm))) (zset_ne (zset_eq h') hab) (by omega) (by omega) hm (by omega) (fun i hi => by rw [upd_ne (by omega)]; exact hf i hi)
    refine ⟨g, ?_, ?_, ?_⟩
    · intro i hi
      rw [h1 i (by omega)]
      rw [upd_ne (by omega)]
    · intro i hi
      cases i with
      | zero =>
        rw [Nat.add_zero, h1 n (by omega)]
        rw [upd_self, Nat.add_zero]
        exact hf _ (by omega)
      | succ i =>
        have := h2 i (by omega)
        rw [show n + (i + 1) = n + 1 + i by omega, show k + (i + 1) = k + 1 + i by omega]
        exact this
    · rw [v24_9]
      simp (disch := (first | assumption | exact hb0 | exact hb1 | exact bI_ok | exact znl_i | exact znl_r | exact znl_n | exact zw0 | exact zw1 | exact zw2 | exact zw3 | exact zw4 | exact zx0 | exact zx1 | exact zx2 | exact zx3 | ((repeat' (first | assumption | apply zset_eq | apply zset_ne | omega)); done) | ((repeat' (first | exact zscL_nil | refine zscL_i ?_ | refine zscL_n ?_ | refine zscL_r ?_ ?_ | refine zscL_l ?_ | exact zscS_nil | refine zscS_i ?_ | refine zscS_r ?_ ?_ | refine zscS_l ?_ | (simp only [List.length_set, hl]; first | omega | assumption) | omega)); done) | omega | (with_unfolding_all rfl) | fail)) only [v24_0, v24_1, v24_4, v24_5, v24_6, v24_7, v24_8, v24_10, v24_11, v24_14, v24_15, v24_16, v24_19, v24_20, v24_21, v24_22, v24_23, v24_26, v24_29, v24_32, zAft_v, zAft_n, iN_add, iN_mul, iN_sub, iN_lt, iN_le, iN_eq, bI_0, bI_1, if_pos, if_neg, ifnn, Nat.reduceAdd, Nat.reduceSub, Nat.reduceMul, Nat.add_zero, Nat.zero_add, List.set_set, not_true_eq_false, not_false_eq_true, if_true, if_false, reduceCtorEq, m22]
      rw [e, zset2 hab, show n + 1 + d = n + (d + 1) by omega]
variable {w : zW}
theorem m23 {m d n : Nat} {f : Nat → Int32} (ha : a < N) (hab : ¬ a = b) (hm : 1 ≤ m) (hl : w.length = N) (h : w[a]? = some (.inr (2, [.ref b, .int (Int32.ofNat n)]))) (h' : w[b]? = some (.inl (0, 30, .inl f))) (hn : n + d ≤ 30) (hmn : m ≤ n) :
    ∃ g, (∀ i, i < n → g i = f i) ∧ (∀ i, i < d → g (n + i) = g (n + i - m)) ∧ zm E0 23 [.ref a, .int (Int32.ofNat m), .int (Int32.ofNat d)] w = some (.inl none, (w.set b (.inl (0, 30, .inl g))).set a (.inr (2, [.ref b, .int (Int32.ofNat (n + d))])), 0, 0) := by
  obtain ⟨g, h1, h2, e⟩ := m23l (a := a) (b := b) (N := N) ha hab hm d 0 n w f hl h h' hn hmn (by omega)
  refine ⟨g, h1, h2, ?_⟩
  rw [zm23]
  simp (disch := (first | assumption | exact hb0 | exact hb1 | exact bI_ok | exact znl_i | exact znl_r | exact znl_n | exact zw0 | exact zw1 | exact zw2 | exact zw3 | exact zw4 | exact zx0 | exact zx1 | exact zx2 | exact zx3 | ((repeat' (first | assumption | apply zset_eq | apply zset_ne | omega)); done) | ((repeat' (first | exact zscL_nil | refine zscL_i ?_ | refine zscL_n ?_ | refine zscL_r ?_ ?_ | refine zscL_l ?_ | exact zscS_nil | refine zscS_i ?_ | refine zscS_r ?_ ?_ | refine zscS_l ?_ | (simp only [List.length_set, hl]; first | omega | assumption) | omega)); done) | omega | (with_unfolding_all rfl) | fail)) only [v23_0, v23_1, v23_3, v23_4, v23_7, v23_8, v23_9, v23_12, v23_13, v23_16, v23_17, v23_18, v23_19, v23_22, v23_25, v23_28, zAft_v, zAft_n, iN_add, iN_mul, iN_sub, iN_lt, iN_le, iN_eq, bI_0, bI_1, if_pos, if_neg, ifnn, Nat.reduceAdd, Nat.reduceSub, Nat.reduceMul, Nat.add_zero, Nat.zero_add, List.set_set, not_true_eq_false, not_false_eq_true, if_true, if_false, reduceCtorEq]
  rw [Nat.zero_add] at e
  exact e
theorem m24 {m n : Nat} {f : Nat → Int32} (ha : a < N) (hab : ¬ a = b) (hm : 1 ≤ m) (hl : w.length = N) (h : w[a]? = some (.inr (2, [.ref b, .int (Int32.ofNat n)]))) (h' : w[b]? = some (.inl (0, 30, .inl f))) (hn : n + (m - 1) ≤ 30) (hmn : m ≤ n) :
    ∃ g, (∀ i, i < n → g i = f i) ∧ (∀ i, i < m - 1 → g (n + i) = f (n - 1 - (1 + i))) ∧ zm E0 24 [.ref a, .int (Int32.ofNat m)] w = some (.inl none, (w.set b (.inl (0, 30, .inl g))).set a (.inr (2, [.ref b, .int (Int32.ofNat (n + (m - 1)))])), 0, 0) := by
  obtain ⟨g, h1, h2, e⟩ := m24l (a := a) (b := b) (N := N) (l := n - 1) (m := m) (f0 := f) ha hab (by omega) (m - 1) 1 n w f hl h h' (by omega) hn (by omega) (by omega) (fun _ _ => rfl)
  refine ⟨g, h1, h2, ?_⟩
  rw [zm24]
  simp (disch := (first | assumption | exact hb0 | exact hb1 | exact bI_ok | exact znl_i | exact znl_r | exact znl_n | exact zw0 | exact zw1 | exact zw2 | exact zw3 | exact zw4 | exact zx0 | exact zx1 | exact zx2 | exact zx3 | ((repeat' (first | assumption | apply zset_eq | apply zset_ne | omega)); done) | ((repeat' (first | exact zscL_nil | refine zscL_i ?_ | refine zscL_n ?_ | refine zscL_r ?_ ?_ | refine zscL_l ?_ | exact zscS_nil | refine zscS_i ?_ | refine zscS_r ?_ ?_ | refine zscS_l ?_ | (simp only [List.length_set, hl]; first | omega | assumption) | omega)); done) | omega | (with_unfolding_all rfl) | fail)) only [v24_0, v24_1, v24_4, v24_5, v24_6, v24_7, v24_8, v24_10, v24_11, v24_14, v24_15, v24_16, v24_19, v24_20, v24_21, v24_22, v24_23, v24_26, v24_29, v24_32, zAft_v, zAft_n, iN_add, iN_mul, iN_sub, iN_lt, iN_le, iN_eq, bI_0, bI_1, if_pos, if_neg, ifnn, Nat.reduceAdd, Nat.reduceSub, Nat.reduceMul, Nat.add_zero, Nat.zero_add, List.set_set, not_true_eq_false, not_false_eq_true, if_true, if_false, reduceCtorEq]
  exact e
theorem m25 {a' b' n n' : Nat} {f f' : Nat → Int32} (h : w[a]? = some (.inr (2, [.ref b, .int (Int32.ofNat n)]))) (h' : w[b]? = some (.inl (0, 30, .inl f))) (k : w[a']? = some (.inr (2, [.ref b', .int (Int32.ofNat n')]))) (k' : w[b']? = some (.inl (0, 30, .inl f'))) (hn : n' ≤ 30) (e1 : ¬ b = a) (e2 : ¬ b = a') :
    zm E0 25 [.ref a, .ref a'] w = some (.inl none, (w.set b (.inl (0, 30, .inl (va_cpy f' f 0 0 n')))).set a (.inr (2, [.ref b, .int (Int32.ofNat n')])), 0, 0) := by
  rw [zm25]
  simp (disch := (first | assumption | exact hb0 | exact hb1 | exact bI_ok | exact znl_i | exact znl_r | exact znl_n | exact zw0 | exact zw1 | exact zw2 | exact zw3 | exact zw4 | exact zx0 | exact zx1 | exact zx2 | exact zx3 | ((repeat' (first | assumption | apply zset_eq | apply zset_ne | omega)); done) | omega | (with_unfolding_all rfl) | fail)) only [v25_0, v25_1, v25_4, v25_5, v25_6, v25_9, v25_10, v25_11, v25_14, v25_17, v25_18, v25_19, v25_22, v25_25, zAft_v, zAft_n, iN_add, iN_mul, iN_sub, iN_lt, iN_le, iN_eq, bI_0, bI_1, if_pos, if_neg, ifnn, Nat.reduceAdd, Nat.reduceSub, Nat.reduceMul, Nat.add_zero, Nat.zero_add, List.set_set, not_true_eq_false, not_false_eq_true, if_true, if_false, reduceCtorEq]
end row
