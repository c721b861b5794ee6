/-! The reference's sort. -/
theorem fst_snoc {P : Nat → Bool} : ∀ (d k : Nat), fst P (d + 1) k = if fst P d k < k + d then fst P d k else if P (k + d) = true then k + d else k + d + 1 := by
  intro d
  induction d with
  | zero =>
    intro k
    rw [if_neg (show ¬ fst P 0 k < k + 0 by rw [fst]; omega)]
    rfl
  | succ d ih =>
    intro k
    rw [fst, ih (k + 1), fst]
    by_cases h : P k = true
    · rw [if_pos h, if_pos h, if_pos (by omega)]
    · rw [if_neg h, if_neg h, show k + 1 + d = k + (d + 1) by omega]
def pr (j : Nat) : Int32 := if j = 0 then -1 else Int32.ofNat (j - 1)
theorem pr_s {j : Nat} : pr (j + 1) = Int32.ofNat j := by
  unfold pr
  rw [if_neg (by omega), Nat.add_sub_cancel]
theorem pr_a {a : Nat} : Int32.ofNat a - Int32.ofNat 1 = pr a := by
  cases a with
  | zero => decide
  | succ a => rw [pr_s, iN_sub (by omega), Nat.add_sub_cancel]
theorem pr_d {a : Nat} : Int32.ofNat a + (-1) = pr a := by
  cases a with
  | zero => decide
  | succ a => rw [pr_s, iN_dec (by omega), Nat.add_sub_cancel]
/-- two painted ends or picks are alike -/
def spt (rpi : Nat → Bool) (rwd rhi : Nat) (v : Bool) (a b : Nat) : Bool := if v = true then al (fun k => decide (rpi (30 * k + a) = rpi (30 * k + b))) rhi 0 else al (fun k => decide (rpi (30 * a + k) = rpi (30 * b + k))) rwd 0
theorem spt_iff {rpi : Nat → Bool} {rwd rhi : Nat} {v : Bool} {a b : Nat} : spt rpi rwd rhi v a b = true ↔ ∀ k, k < (if v = true then rhi else rwd) → rpi (if v = true then 30 * k + a else 30 * a + k) = rpi (if v = true then 30 * k + b else 30 * b + k) := by
  unfold spt
  cases v
  · rw [if_neg (by decide), al_iff]
    simp only [Bool.false_eq_true, if_false, decide_eq_true_eq]
    exact ⟨fun h k hk => h k (Nat.zero_le _) (by omega), fun h k _ hk => h k (by omega)⟩
  · rw [if_pos rfl, al_iff]
    simp only [if_true, decide_eq_true_eq]
    exact ⟨fun h k hk => h k (Nat.zero_le _) (by omega), fun h k _ hk => h k (by omega)⟩
theorem spt_tr {rpi : Nat → Bool} {rwd rhi : Nat} {v : Bool} {a b c : Nat} (h1 : spt rpi rwd rhi v a b = true) (h2 : spt rpi rwd rhi v b c = true) : spt rpi rwd rhi v a c = true := by
  rw [spt_iff] at h1 h2 ⊢
  intro k hk
  rw [h1 k hk, h2 k hk]
def F2 (rpi : Nat → Bool) (rwd rhi : Nat) (v : Bool) (a : Nat) : Nat := fst (fun b => spt rpi rwd rhi v a b) a 0
theorem F2_le {rpi : Nat → Bool} {rwd rhi : Nat} {v : Bool} {a : Nat} : F2 rpi rwd rhi v a ≤ a := by
  have := fst_le (P := fun b => spt rpi rwd rhi v a b) a 0
  unfold F2
  omega
theorem F2_idem {rpi : Nat → Bool} {rwd rhi : Nat} {v : Bool} {a : Nat} (h : F2 rpi rwd rhi v a < a) : F2 rpi rwd rhi v (F2 rpi rwd rhi v a) = F2 rpi rwd rhi v a := by
  have h1 := F2_le (rpi := rpi) (rwd := rwd) (rhi := rhi) (v := v) (a := F2 rpi rwd rhi v a)
  have h2 : spt rpi rwd rhi v a (F2 rpi rwd rhi v a) = true := fst_hit (P := fun b => spt rpi rwd rhi v a b) a 0 (by rw [Nat.zero_add]; exact h)
  by_cases q : F2 rpi rwd rhi v (F2 rpi rwd rhi v a) < F2 rpi rwd rhi v a
  · have h3 : spt rpi rwd rhi v (F2 rpi rwd rhi v a) (F2 rpi rwd rhi v (F2 rpi rwd rhi v a)) = true := fst_hit (P := fun b => spt rpi rwd rhi v (F2 rpi rwd rhi v a) b) (F2 rpi rwd rhi v a) 0 (by rw [Nat.zero_add]; exact q)
    have h4 := fst_min (P := fun b => spt rpi rwd rhi v a b) a 0 _ (Nat.zero_le _) q
    rw [spt_tr h2 h3] at h4
    cases h4
  · omega
section ref
variable {rt ry : Int32} {re rp rw rwd rhi : Nat}
theorem r88lt {w : zW} {a b n : Nat} {rpi : Nat → Bool} (h19 : w[19]? = some (.inr (4, [.int rt, .ref 20, .int (Int32.ofNat re), .int (Int32.ofNat rp), .int (Int32.ofNat rw), .ref 21, .ref 22, .ref 23, .ref 24, .ref 25, .int ry, .int (Int32.ofNat rwd), .int (Int32.ofNat rhi), .ref 26, .ref 27]))) (h26 : w[26]? = some (.inl (2, 900, .inl fun i => bI (rpi i)))) (hn : n ≤ 30) (ha : a < 30) (hb : b < 30) :
    ∀ (d k : Nat), k + d = n → ∀ (s : Bool), zval E0 none 88 (23, [some (.ref 19), some (.int (bI true)), some (.int (Int32.ofNat a)), some (.int (Int32.ofNat b)), some (.int (bI s)), some (.int (Int32.ofNat n)), some (.int (Int32.ofNat k))], [], w, 0, 0) = some (.inl (some (.int (bI (s && al (fun k => decide (rpi (30 * k + a) = rpi (30 * k + b))) d k)))), w, 0, 0) := by
  intro d
  induction d with
  | zero =>
    intro k hk s
    rw [v88_23, al]
    simp (disch := (first | assumption | exact hb0 | exact hb1 | exact bI_ok | exact znl_i | exact znl_r | exact znl_n | exact zw0 | exact zw1 | exact zw2 | exact zw3 | exact zw4 | exact zx0 | exact zx1 | exact zx2 | exact zx3 | ((repeat' (first | assumption | apply zset_eq | apply zset_ne | omega)); done) | omega | (with_unfolding_all rfl) | fail)) only [v88_0, v88_1, v88_3, v88_4, v88_7, v88_8, v88_11, v88_14, v88_15, v88_18, v88_20, v88_21, v88_25, v88_27, v88_30, v88_32, v88_35, v88_36, v88_39, v88_40, v88_43, v88_45, v88_47, v88_48, v88_49, v88_50, v88_51, v88_52, v88_55, v88_57, v88_59, v88_60, v88_61, v88_62, v88_63, v88_66, v88_69, v88_70, v88_73, v88_75, v88_76, v88_77, v88_79, v88_80, v88_81, v88_82, v88_85, v88_87, v88_88, v88_89, v88_91, v88_92, v88_93, v88_96, v88_97, v88_100, v88_101, v88_103, v88_106, v88_109, v88_111, zAft_v, zAft_n, iN_add, iN_mul, iN_sub, iN_lt, iN_le, iN_eq, bI_0, bI_1, if_pos, if_neg, ifnn, Nat.reduceAdd, Nat.reduceSub, Nat.reduceMul, Nat.add_zero, Nat.zero_add, List.set_set, not_true_eq_false, not_false_eq_true, if_true, if_false, reduceCtorEq, Bool.and_true]
  | succ d ih =>
    intro k hk s
    rw [v88_23, al]
    cases s
    · have e : zval E0 none 88 (23, [some (.ref 19), some (.int (bI true)), some (.int (Int32.ofNat a)), some (.int (Int32.ofNat b)), some (.int (Int32.ofNat 0)), some (.int (Int32.ofNat n)), some (.int (Int32.ofNat (k + 1)))], [], w, 0, 0) = _ := ih (k + 1) (by omega) false
      simp (disch := (first | assumption | exact hb0 | exact hb1 | exact bI_ok | exact znl_i | exact znl_r | exact znl_n | exact zw0 | exact zw1 | exact zw2 | exact zw3 | exact zw4 | exact zx0 | exact zx1 | exact zx2 | exact zx3 | ((repeat' (first | assumption | apply zset_eq | apply zset_ne | omega)); done) | omega | (with_unfolding_all rfl) | fail)) only [v88_0, v88_1, v88_3, v88_4, v88_7, v88_8, v88_11, v88_14, v88_15, v88_18, v88_20, v88_21, v88_25, v88_27, v88_30, v88_32, v88_35, v88_36, v88_39, v88_40, v88_43, v88_45, v88_47, v88_48, v88_49, v88_50, v88_51, v88_52, v88_55, v88_57, v88_59, v88_60, v88_61, v88_62, v88_63, v88_66, v88_69, v88_70, v88_73, v88_75, v88_76, v88_77, v88_79, v88_80, v88_81, v88_82, v88_85, v88_87, v88_88, v88_89, v88_91, v88_92, v88_93, v88_96, v88_97, v88_100, v88_101, v88_103, v88_106, v88_109, v88_111, zAft_v, zAft_n, iN_add, iN_mul, iN_sub, iN_lt, iN_le, iN_eq, bI_0, bI_1, if_pos, if_neg, ifnn, Nat.reduceAdd, Nat.reduceSub, Nat.reduceMul, Nat.add_zero, Nat.zero_add, List.set_set, not_true_eq_false, not_false_eq_true, if_true, if_false, reduceCtorEq, Bool.false_and]
      exact e
    · by_cases q : rpi (30 * k + a) = rpi (30 * k + b)
      · have e : zval E0 none 88 (23, [some (.ref 19), some (.int (bI true)), some (.int (Int32.ofNat a)), some (.int (Int32.ofNat b)), some (.int (Int32.ofNat 1)), some (.int (Int32.ofNat n)), some (.int (Int32.ofNat (k + 1)))], [], w, 0, 0) = _ := ih (k + 1) (by omega) true
        rw [decide_eq_true q]
        simp (disch := (first | assumption | exact hb0 | exact hb1 | exact bI_ok | exact znl_i | exact znl_r | exact znl_n | exact zw0 | exact zw1 | exact zw2 | exact zw3 | exact zw4 | exact zx0 | exact zx1 | exact zx2 | exact zx3 | ((repeat' (first | assumption | apply zset_eq | apply zset_ne | omega)); done) | omega | (with_unfolding_all rfl) | fail)) only [v88_0, v88_1, v88_3, v88_4, v88_7, v88_8, v88_11, v88_14, v88_15, v88_18, v88_20, v88_21, v88_25, v88_27, v88_30, v88_32, v88_35, v88_36, v88_39, v88_40, v88_43, v88_45, v88_47, v88_48, v88_49, v88_50, v88_51, v88_52, v88_55, v88_57, v88_59, v88_60, v88_61, v88_62, v88_63, v88_66, v88_69, v88_70, v88_73, v88_75, v88_76, v88_77, v88_79, v88_80, v88_81, v88_82, v88_85, v88_87, v88_88, v88_89, v88_91, v88_92, v88_93, v88_96, v88_97, v88_100, v88_101, v88_103, v88_106, v88_109, v88_111, zAft_v, zAft_n, iN_add, iN_mul, iN_sub, iN_lt, iN_le, iN_eq, bI_0, bI_1, if_pos, if_neg, ifnn, Nat.reduceAdd, Nat.reduceSub, Nat.reduceMul, Nat.add_zero, Nat.zero_add, List.set_set, not_true_eq_false, not_false_eq_true, if_true, if_false, reduceCtorEq, Bool.true_and, Bool.true_eq_false, bI_eq]
        exact e
      · have e : zval E0 none 88 (23, [some (.ref 19), some (.int (bI true)), some (.int (Int32.ofNat a)), some (.int (Int32.ofNat b)), some (.int (Int32.ofNat 0)), some (.int (Int32.ofNat n)), some (.int (Int32.ofNat (k + 1)))], [], w, 0, 0) = _ := ih (k + 1) (by omega) false
        rw [decide_eq_false q]
        simp (disch := (first | assumption | exact hb0 | exact hb1 | exact bI_ok | exact znl_i | exact znl_r | exact znl_n | exact zw0 | exact zw1 | exact zw2 | exact zw3 | exact zw4 | exact zx0 | exact zx1 | exact zx2 | exact zx3 | ((repeat' (first | assumption | apply zset_eq | apply zset_ne | omega)); done) | omega | (with_unfolding_all rfl) | fail)) only [v88_0, v88_1, v88_3, v88_4, v88_7, v88_8, v88_11, v88_14, v88_15, v88_18, v88_20, v88_21, v88_25, v88_27, v88_30, v88_32, v88_35, v88_36, v88_39, v88_40, v88_43, v88_45, v88_47, v88_48, v88_49, v88_50, v88_51, v88_52, v88_55, v88_57, v88_59, v88_60, v88_61, v88_62, v88_63, v88_66, v88_69, v88_70, v88_73, v88_75, v88_76, v88_77, v88_79, v88_80, v88_81, v88_82, v88_85, v88_87, v88_88, v88_89, v88_91, v88_92, v88_93, v88_96, v88_97, v88_100, v88_101, v88_103, v88_106, v88_109, v88_111, zAft_v, zAft_n, iN_add, iN_mul, iN_sub, iN_lt, iN_le, iN_eq, bI_0, bI_1, if_pos, if_neg, ifnn, Nat.reduceAdd, Nat.reduceSub, Nat.reduceMul, Nat.add_zero, Nat.zero_add, List.set_set, not_true_eq_false, not_false_eq_true, if_true, if_false, reduceCtorEq, Bool.true_and, Bool.false_and, Bool.true_eq_false, bI_eq]
        exact e
theorem r88lf {w : zW} {a b n : Nat} {rpi : Nat → Bool} (h19 : w[19]? = some (.inr (4, [.int rt, .ref 20, .int (Int32.ofNat re), .int (Int32.ofNat rp), .int (Int32.ofNat rw), .ref 21, .ref 22, .ref 23, .ref 24, .ref 25, .int ry, .int (Int32.ofNat rwd), .int (Int32.ofNat rhi), .ref 26, .ref 27]))) (h26 : w[26]? = some (.inl (2, 900, .inl fun i => bI (rpi i)))) (hn : n ≤ 30) (ha : a < 30) (hb : b < 30) :
    ∀ (d k : Nat), k + d = n → ∀ (s : Bool), zval E0 none 88 (23, [some (.ref 19), some (.int (bI false)), some (.int (Int32.ofNat a)), some (.int (Int32.ofNat b)), some (.int (bI s)), some (.int (Int32.ofNat n)), some (.int (Int32.ofNat k))], [], w, 0, 0) = some (.inl (some (.int (bI (s && al (fun k => decide (rpi (30 * a + k) = rpi (30 * b + k))) d k)))), w, 0, 0) := by
  intro d
  induction d with
  | zero =>
    intro k hk s
    rw [v88_23, al]
    simp (disch := (first | assumption | exact hb0 | exact hb1 | exact bI_ok | exact znl_i | exact znl_r | exact znl_n | exact zw0 | exact zw1 | exact zw2 | exact zw3 | exact zw4 | exact zx0 | exact zx1 | exact zx2 | exact zx3 | ((repeat' (first | assumption | apply zset_eq | apply zset_ne | omega)); done) | omega | (with_unfolding_all rfl) | fail)) only [v88_0, v88_1, v88_3, v88_4, v88_7, v88_8, v88_11, v88_14, v88_15, v88_18, v88_20, v88_21, v88_25, v88_27, v88_30, v88_32, v88_35, v88_36, v88_39, v88_40, v88_43, v88_45, v88_47, v88_48, v88_49, v88_50, v88_51, v88_52, v88_55, v88_57, v88_59, v88_60, v88_61, v88_62, v88_63, v88_66, v88_69, v88_70, v88_73, v88_75, v88_76, v88_77, v88_79, v88_80, v88_81, v88_82, v88_85, v88_87, v88_88, v88_89, v88_91, v88_92, v88_93, v88_96, v88_97, v88_100, v88_101, v88_103, v88_106, v88_109, v88_111, zAft_v, zAft_n, iN_add, iN_mul, iN_sub, iN_lt, iN_le, iN_eq, bI_0, bI_1, if_pos, if_neg, ifnn, Nat.reduceAdd, Nat.reduceSub, Nat.reduceMul, Nat.add_zero, Nat.zero_add, List.set_set, not_true_eq_false, not_false_eq_true, if_true, if_false, reduceCtorEq, Bool.and_true]
  | succ d ih =>
    intro k hk s
    rw [v88_23, al]
    cases s
    · have e : zval E0 none 88 (23, [some (.ref 19), some (.int (bI false)), some (.int (Int32.ofNat a)), some (.int (Int32.ofNat b)), some (.int (Int32.ofNat 0)), some (.int (Int32.ofNat n)), some (.int (Int32.ofNat (k + 1)))], [], w, 0, 0) = _ := ih (k + 1) (by omega) false
      simp (disch := (first | assumption | exact hb0 | exact hb1 | exact bI_ok | exact znl_i | exact znl_r | exact znl_n | exact zw0 | exact zw1 | exact zw2 | exact zw3 | exact zw4 | exact zx0 | exact zx1 | exact zx2 | exact zx3 | ((repeat' (first | assumption | apply zset_eq | apply zset_ne | omega)); done) | omega | (with_unfolding_all rfl) | fail)) only [v88_0, v88_1, v88_3, v88_4, v88_7, v88_8, v88_11, v88_14, v88_15, v88_18, v88_20, v88_21, v88_25, v88_27, v88_30, v88_32, v88_35, v88_36, v88_39, v88_40, v88_43, v88_45, v88_47, v88_48, v88_49, v88_50, v88_51, v88_52, v88_55, v88_57, v88_59, v88_60, v88_61, v88_62, v88_63, v88_66, v88_69, v88_70, v88_73, v88_75, v88_76, v88_77, v88_79, v88_80, v88_81, v88_82, v88_85, v88_87, v88_88, v88_89, v88_91, v88_92, v88_93, v88_96, v88_97, v88_100, v88_101, v88_103, v88_106, v88_109, v88_111, zAft_v, zAft_n, iN_add, iN_mul, iN_sub, iN_lt, iN_le, iN_eq, bI_0, bI_1, if_pos, if_neg, ifnn, Nat.reduceAdd, Nat.reduceSub, Nat.reduceMul, Nat.add_zero, Nat.zero_add, List.set_set, not_true_eq_false, not_false_eq_true, if_true, if_false, reduceCtorEq, Bool.false_and]
      exact e
    · by_cases q : rpi (30 * a + k) = rpi (30 * b + k)
      · have e : zval E0 none 88 (23, [some (.ref 19), some (.int (bI false)), some (.int (Int32.ofNat a)), some (.int (Int32.ofNat b)), some (.int (Int32.ofNat 1)), some (.int (Int32.ofNat n)), some (.int (Int32.ofNat (k + 1)))], [], w, 0, 0) = _ := ih (k + 1) (by omega) true
        rw [decide_eq_true q]
        simp (disch := (first | assumption | exact hb0 | exact hb1 | exact bI_ok | exact znl_i | exact znl_r | exact znl_n | exact zw0 | exact zw1 | exact zw2 | exact zw3 | exact zw4 | exact zx0 | exact zx1 | exact zx2 | exact zx3 | ((repeat' (first | assumption | apply zset_eq | apply zset_ne | omega)); done) | omega | (with_unfolding_all rfl) | fail)) only [v88_0, v88_1, v88_3, v88_4, v88_7, v88_8, v88_11, v88_14, v88_15, v88_18, v88_20, v88_21, v88_25, v88_27, v88_30, v88_32, v88_35, v88_36, v88_39, v88_40, v88_43, v88_45, v88_47, v88_48, v88_49, v88_50, v88_51, v88_52, v88_55, v88_57, v88_59, v88_60, v88_61, v88_62, v88_63, v88_66, v88_69, v88_70, v88_73, v88_75, v88_76, v88_77, v88_79, v88_80, v88_81, v88_82, v88_85, v88_87, v88_88, v88_89, v88_91, v88_92, v88_93, v88_96, v88_97, v88_100, v88_101, v88_103, v88_106, v88_109, v88_111, zAft_v, zAft_n, iN_add, iN_mul, iN_sub, iN_lt, iN_le, iN_eq, bI_0, bI_1, if_pos, if_neg, ifnn, Nat.reduceAdd, Nat.reduceSub, Nat.reduceMul, Nat.add_zero, Nat.zero_add, List.set_set, not_true_eq_false, not_false_eq_true, if_true, if_false, reduceCtorEq, Bool.true_and, Bool.true_eq_false, bI_eq]
        exact e
      · have e : zval E0 none 88 (23, [some (.ref 19), some (.int (bI false)), some (.int (Int32.ofNat a)), some (.int (Int32.ofNat b)), some (.int (Int32.ofNat 0)), some (.int (Int32.ofNat n)), some (.int (Int32.ofNat (k + 1)))], [], w, 0, 0) = _ := ih (k + 1) (by omega) false
        rw [decide_eq_false q]
        simp (disch := (first | assumption | exact hb0 | exact hb1 | exact bI_ok | exact znl_i | exact znl_r | exact znl_n | exact zw0 | exact zw1 | exact zw2 | exact zw3 | exact zw4 | exact zx0 | exact zx1 | exact zx2 | exact zx3 | ((repeat' (first | assumption | apply zset_eq | apply zset_ne | omega)); done) | omega | (with_unfolding_all rfl) | fail)) only [v88_0, v88_1, v88_3, v88_4, v88_7, v88_8, v88_11, v88_14, v88_15, v88_18, v88_20, v88_21, v88_25, v88_27, v88_30, v88_32, v88_35, v88_36, v88_39, v88_40, v88_43, v88_45, v88_47, v88_48, v88_49, v88_50, v88_51, v88_52, v88_55, v88_57, v88_59, v88_60, v88_61, v88_62, v88_63, v88_66, v88_69, v88_70, v88_73, v88_75, v88_76, v88_77, v88_79, v88_80, v88_81, v88_82, v88_85, v88_87, v88_88, v88_89, v88_91, v88_92, v88_93, v88_96, v88_97, v88_100, v88_101, v88_103, v88_106, v88_109, v88_111, zAft_v, zAft_n, iN_add, iN_mul, iN_sub, iN_lt, iN_le, iN_eq, bI_0, bI_1, if_pos, if_neg, ifnn, Nat.reduceAdd, Nat.reduceSub, Nat.reduceMul, Nat.add_zero, Nat.zero_add, List.set_set, not_true_eq_false, not_false_eq_true, if_true, if_false, reduceCtorEq, Bool.true_and, Bool.false_and, Bool.true_eq_false, bI_eq]
        exact e
theorem r88 {w : zW} {v : Bool} {a b : Nat} {rpi : Nat → Bool} (h19 : w[19]? = some (.inr (4, [.int rt, .ref 20, .int (Int32.ofNat re), .int (Int32.ofNat rp), .int (Int32.ofNat rw), .ref 21, .ref 22, .ref 23, .ref 24, .ref 25, .int ry, .int (Int32.ofNat rwd), .int (Int32.ofNat rhi), .ref 26, .ref 27]))) (h26 : w[26]? = some (.inl (2, 900, .inl fun i => bI (rpi i)))) (hwd : rwd ≤ 30) (hhi : rhi ≤ 30) (ha : a < 30) (hb : b < 30) : zm E0 88 [.ref 19, .int (bI v), .int (Int32.ofNat a), .int (Int32.ofNat b)] w = some (.inl (some (.int (bI (spt rpi rwd rhi v a b)))), w, 0, 0) := by
  rw [zm88]
  cases v
  · have e := r88lf (n := rwd) h19 h26 hwd ha hb rwd 0 (by omega) true
    simp (disch := (first | assumption | exact hb0 | exact hb1 | exact bI_ok | exact znl_i | exact znl_r | exact znl_n | exact zw0 | exact zw1 | exact zw2 | exact zw3 | exact zw4 | exact zx0 | exact zx1 | exact zx2 | exact zx3 | ((repeat' (first | assumption | apply zset_eq | apply zset_ne | omega)); done) | omega | (with_unfolding_all rfl) | fail)) only [v88_0, v88_1, v88_3, v88_4, v88_7, v88_8, v88_11, v88_14, v88_15, v88_18, v88_20, v88_21, v88_25, v88_27, v88_30, v88_32, v88_35, v88_36, v88_39, v88_40, v88_43, v88_45, v88_47, v88_48, v88_49, v88_50, v88_51, v88_52, v88_55, v88_57, v88_59, v88_60, v88_61, v88_62, v88_63, v88_66, v88_69, v88_70, v88_73, v88_75, v88_76, v88_77, v88_79, v88_80, v88_81, v88_82, v88_85, v88_87, v88_88, v88_89, v88_91, v88_92, v88_93, v88_96, v88_97, v88_100, v88_101, v88_103, v88_106, v88_109, v88_111, zAft_v, zAft_n, iN_add, iN_mul, iN_sub, iN_lt, iN_le, iN_eq, bI_0, bI_1, if_pos, if_neg, ifnn, Nat.reduceAdd, Nat.reduceSub, Nat.reduceMul, Nat.add_zero, Nat.zero_add, List.set_set, not_true_eq_false, not_false_eq_true, if_true, if_false, reduceCtorEq]
    exact e
  · have e := r88lt (n := rhi) h19 h26 hhi ha hb rhi 0 (by omega) true
    simp (disch := (first | assumption | exact hb0 | exact hb1 | exact bI_ok | exact znl_i | exact znl_r | exact znl_n | exact zw0 | exact zw1 | exact zw2 | exact zw3 | exact zw4 | exact zx0 | exact zx1 | exact zx2 | exact zx3 | ((repeat' (first | assumption | apply zset_eq | apply zset_ne | omega)); done) | omega | (with_unfolding_all rfl) | fail)) only [v88_0, v88_1, v88_3, v88_4, v88_7, v88_8, v88_11, v88_14, v88_15, v88_18, v88_20, v88_21, v88_25, v88_27, v88_30, v88_32, v88_35, v88_36, v88_39, v88_40, v88_43, v88_45, v88_47, v88_48, v88_49, v88_50, v88_51, v88_52, v88_55, v88_57, v88_59, v88_60, v88_61, v88_62, v88_63, v88_66, v88_69, v88_70, v88_73, v88_75, v88_76, v88_77, v88_79, v88_80, v88_81, v88_82, v88_85, v88_87, v88_88, v88_89, v88_91, v88_92, v88_93, v88_96, v88_97, v88_100, v88_101, v88_103, v88_106, v88_109, v88_111, zAft_v, zAft_n, iN_add, iN_mul, iN_sub, iN_lt, iN_le, iN_eq, bI_0, bI_1, if_pos, if_neg, ifnn, Nat.reduceAdd, Nat.reduceSub, Nat.reduceMul, Nat.add_zero, Nat.zero_add, List.set_set, not_true_eq_false, not_false_eq_true, if_true, if_false, reduceCtorEq, Bool.true_eq_false]
    exact e
theorem r89i {v : Bool} {rpi : Nat → Bool} {n B a many : Nat} (hwd : rwd ≤ 30) (hhi : rhi ≤ 30) (hB : B ≤ 30) (ha : a < 30) :
    ∀ (j : Nat) (w : zW) (f : Nat → Int32), w.length = 29 → w[19]? = some (.inr (4, [.int rt, .ref 20, .int (Int32.ofNat re), .int (Int32.ofNat rp), .int (Int32.ofNat rw), .ref 21, .ref 22, .ref 23, .ref 24, .ref 25, .int ry, .int (Int32.ofNat rwd), .int (Int32.ofNat rhi), .ref 26, .ref 27])) → w[26]? = some (.inl (2, 900, .inl fun i => bI (rpi i))) → w[27]? = some (.inl (0, 60, .inl f)) → j ≤ a →
      ∃ g : Nat → Int32, (∀ i, ¬ i = B + a → g i = f i) ∧ g (B + a) = (if fst (fun b => spt rpi rwd rhi v a b) j 0 < j then f (B + fst (fun b => spt rpi rwd rhi v a b) j 0) else f (B + a)) ∧ zval E0 none 89 (55, [some (.ref 19), some (.int (bI v)), some (.int (Int32.ofNat n)), some (.int (Int32.ofNat B)), some (.int (Int32.ofNat many)), some (.int (Int32.ofNat a)), some (.int (pr j))], [], w, 0, 0) = zval E0 none 89 (108, [some (.ref 19), some (.int (bI v)), some (.int (Int32.ofNat n)), some (.int (Int32.ofNat B)), some (.int (Int32.ofNat many)), some (.int (Int32.ofNat a)), some (.int (-1))], [], w.set 27 (.inl (0, 60, .inl g)), 0, 0) := by
  intro j
  induction j with
  | zero =>
    intro w f hl h19 h26 h27 hj
    refine ⟨f, fun _ _ => rfl, by rw [if_neg (by omega)], ?_⟩
    have q : (-1 : Int32) < Int32.ofNat 0 := by decide
    rw [v89_55, show pr 0 = -1 from rfl]
    simp (disch := (first | assumption | exact hb0 | exact hb1 | exact bI_ok | exact znl_i | exact znl_r | exact znl_n | exact zw0 | exact zw1 | exact zw2 | exact zw3 | exact zw4 | exact zx0 | exact zx1 | exact zx2 | exact zx3 | ((repeat' (first | assumption | apply zset_eq | apply zset_ne | omega)); done) | ((repeat' (first | exact zscL_nil | refine zscL_i ?_ | refine zscL_n ?_ | refine zscL_r ?_ ?_ | refine zscL_l ?_ | exact zscS_nil | refine zscS_i ?_ | refine zscS_r ?_ ?_ | refine zscS_l ?_ | (simp only [List.length_set, hl]; first | omega | assumption) | omega)); done) | omega | (with_unfolding_all rfl) | fail)) only [v89_0, v89_1, v89_4, v89_5, v89_8, v89_11, v89_12, v89_15, v89_16, v89_17, v89_20, v89_21, v89_24, v89_26, v89_27, v89_28, v89_30, v89_31, v89_35, v89_36, v89_39, v89_40, v89_43, v89_44, v89_46, v89_47, v89_48, v89_49, v89_51, v89_52, v89_53, v89_57, v89_60, v89_61, v89_64, v89_65, v89_67, v89_68, v89_69, v89_70, v89_72, v89_74, v89_77, v89_80, v89_81, v89_84, v89_85, v89_87, v89_88, v89_89, v89_92, v89_93, v89_96, v89_97, v89_99, v89_100, v89_101, v89_102, v89_105, v89_109, v89_112, v89_113, v89_115, v89_116, v89_117, v89_120, v89_123, v89_124, v89_127, v89_128, v89_130, v89_131, v89_133, v89_134, v89_137, v89_140, v89_143, v89_145, zAft_v, zAft_n, iN_add, iN_mul, iN_sub, iN_lt, iN_le, iN_eq, bI_0, bI_1, if_pos, if_neg, ifnn, Nat.reduceAdd, Nat.reduceSub, Nat.reduceMul, Nat.add_zero, Nat.zero_add, List.set_set, not_true_eq_false, not_false_eq_true, if_true, if_false, reduceCtorEq]
    rw [zset_id h27]
  | succ j ih =>
    intro w f hl h19 h26 h27 hj
    have e88 := r88 (v := v) (a := a) (b := j) h19 h26 hwd hhi ha (by omega)
    have e1 : ∃ x, x = (if spt rpi rwd rhi v a j = true then f (B + j) else f (B + a)) := ⟨_, rfl⟩
    obtain ⟨x, hx⟩ := e1
    obtain ⟨g, g1, g2, e⟩ := ih (w.set 27 (.inl (0, 60, .inl (upd f (B + a) x)))) (upd f (B + a) x) (zset_len hl) (by ((repeat' (first | assumption | apply zset_eq | apply zset_ne | omega)); done)) (by ((repeat' (first | assumption | apply zset_eq | apply zset_ne | omega)); done)) (by ((repeat' (first | assumption | apply zset_eq | apply zset_ne | omega)); done)) (by omega)
    have hF := fst_le (P := fun b => spt rpi rwd rhi v a b) j 0
    refine ⟨g, ?_, ?_, ?_⟩
    · intro i hi
      rw [g1 i hi, upd_ne hi]
    · rw [g2, fst_snoc, Nat.zero_add]
      generalize fst (fun b => spt rpi rwd rhi v a b) j 0 = F at *
      by_cases q : F < j
      · rw [if_pos q, if_pos q, if_pos (by omega), upd_ne (by omega)]
      · rw [if_neg q, if_neg q, upd_self, hx]
        by_cases r : spt rpi rwd rhi v a j = true
        · rw [if_pos r, if_pos r, if_pos (by omega)]
        · rw [if_neg r, if_neg r, if_neg (by omega)]
    · rw [v89_55, pr_s]
      by_cases r : spt rpi rwd rhi v a j = true
      · rw [if_pos r] at hx
        rw [r] at e88
        simp (disch := (first | assumption | exact hb0 | exact hb1 | exact bI_ok | exact znl_i | exact znl_r | exact znl_n | exact zw0 | exact zw1 | exact zw2 | exact zw3 | exact zw4 | exact zx0 | exact zx1 | exact zx2 | exact zx3 | ((repeat' (first | assumption | apply zset_eq | apply zset_ne | omega)); done) | ((repeat' (first | exact zscL_nil | refine zscL_i ?_ | refine zscL_n ?_ | refine zscL_r ?_ ?_ | refine zscL_l ?_ | exact zscS_nil | refine zscS_i ?_ | refine zscS_r ?_ ?_ | refine zscS_l ?_ | (simp only [List.length_set, hl]; first | omega | assumption) | omega)); done) | omega | (with_unfolding_all rfl) | fail)) only [v89_0, v89_1, v89_4, v89_5, v89_8, v89_11, v89_12, v89_15, v89_16, v89_17, v89_20, v89_21, v89_24, v89_26, v89_27, v89_28, v89_30, v89_31, v89_35, v89_36, v89_39, v89_40, v89_43, v89_44, v89_46, v89_47, v89_48, v89_49, v89_51, v89_52, v89_53, v89_57, v89_60, v89_61, v89_64, v89_65, v89_67, v89_68, v89_69, v89_70, v89_72, v89_74, v89_77, v89_80, v89_81, v89_84, v89_85, v89_87, v89_88, v89_89, v89_92, v89_93, v89_96, v89_97, v89_99, v89_100, v89_101, v89_102, v89_105, v89_109, v89_112, v89_113, v89_115, v89_116, v89_117, v89_120, v89_123, v89_124, v89_127, v89_128, v89_130, v89_131, v89_133, v89_134, v89_137, v89_140, v89_143, v89_145, zAft_v, zAft_n, iN_add, iN_mul, iN_sub, iN_lt, iN_le, iN_eq, bI_0, bI_1, if_pos, if_neg, ifnn, Nat.reduceAdd, Nat.reduceSub, Nat.reduceMul, Nat.add_zero, Nat.zero_add, List.set_set, not_true_eq_false, not_false_eq_true, if_true, if_false, reduceCtorEq, e88, pr_d, Bool.true_eq_false]
        rw [← hx, e, List.set_set]
      · rw [if_neg r] at hx
        rw [show spt rpi rwd rhi v a j = false by simpa using r] at e88
        simp (disch := (first | assumption | exact hb0 | exact hb1 | exact bI_ok | exact znl_i | exact znl_r | exact znl_n | exact zw0 | exact zw1 | exact zw2 | exact zw3 | exact zw4 | exact zx0 | exact zx1 | exact zx2 | exact zx3 | ((repeat' (first | assumption | apply zset_eq | apply zset_ne | omega)); done) | ((repeat' (first | exact zscL_nil | refine zscL_i ?_ | refine zscL_n ?_ | refine zscL_r ?_ ?_ | refine zscL_l ?_ | exact zscS_nil | refine zscS_i ?_ | refine zscS_r ?_ ?_ | refine zscS_l ?_ | (simp only [List.length_set, hl]; first | omega | assumption) | omega)); done) | omega | (with_unfolding_all rfl) | fail)) only [v89_0, v89_1, v89_4, v89_5, v89_8, v89_11, v89_12, v89_15, v89_16, v89_17, v89_20, v89_21, v89_24, v89_26, v89_27, v89_28, v89_30, v89_31, v89_35, v89_36, v89_39, v89_40, v89_43, v89_44, v89_46, v89_47, v89_48, v89_49, v89_51, v89_52, v89_53, v89_57, v89_60, v89_61, v89_64, v89_65, v89_67, v89_68, v89_69, v89_70, v89_72, v89_74, v89_77, v89_80, v89_81, v89_84, v89_85, v89_87, v89_88, v89_89, v89_92, v89_93, v89_96, v89_97, v89_99, v89_100, v89_101, v89_102, v89_105, v89_109, v89_112, v89_113, v89_115, v89_116, v89_117, v89_120, v89_123, v89_124, v89_127, v89_128, v89_130, v89_131, v89_133, v89_134, v89_137, v89_140, v89_143, v89_145, zAft_v, zAft_n, iN_add, iN_mul, iN_sub, iN_lt, iN_le, iN_eq, bI_0, bI_1, if_pos, if_neg, ifnn, Nat.reduceAdd, Nat.reduceSub, Nat.reduceMul, Nat.add_zero, Nat.zero_add, List.set_set, not_true_eq_false, not_false_eq_true, if_true, if_false, reduceCtorEq, e88, pr_d]
        rw [← hx, e, List.set_set]
theorem r89l {v : Bool} {rpi : Nat → Bool} {n B : Nat} (hwd : rwd ≤ 30) (hhi : rhi ≤ 30) (hB : B ≤ 30) (hn : n ≤ 30) :
    ∀ (d a : Nat) (w : zW) (f : Nat → Int32) (l6 : Option Value), w.length = 29 → w[19]? = some (.inr (4, [.int rt, .ref 20, .int (Int32.ofNat re), .int (Int32.ofNat rp), .int (Int32.ofNat rw), .ref 21, .ref 22, .ref 23, .ref 24, .ref 25, .int ry, .int (Int32.ofNat rwd), .int (Int32.ofNat rhi), .ref 26, .ref 27])) → w[26]? = some (.inl (2, 900, .inl fun i => bI (rpi i))) → w[27]? = some (.inl (0, 60, .inl f)) → a + d = n → (∀ i, i < a → f (B + i) = Int32.ofNat (us (F2 rpi rwd rhi v) (F2 rpi rwd rhi v i))) → 
      ∃ g : Nat → Int32, (∀ i, i < n → g (B + i) = Int32.ofNat (us (F2 rpi rwd rhi v) (F2 rpi rwd rhi v i))) ∧ (∀ i, i < B ∨ B + n ≤ i → g i = f i) ∧ zval E0 none 89 (33, [some (.ref 19), some (.int (bI v)), some (.int (Int32.ofNat n)), some (.int (Int32.ofNat B)), some (.int (Int32.ofNat (us (F2 rpi rwd rhi v) a))), some (.int (Int32.ofNat a)), l6], [], w, 0, 0) = some (.inl (some (.int (Int32.ofNat (us (F2 rpi rwd rhi v) n)))), w.set 27 (.inl (0, 60, .inl g)), 0, 0) := by
  intro d
  induction d with
  | zero =>
    intro a w f l6 hl h19 h26 h27 ha hf
    obtain rfl : a = n := ha
    refine ⟨f, hf, fun _ _ => rfl, ?_⟩
    rw [v89_33]
    simp (disch := (first | assumption | exact hb0 | exact hb1 | exact bI_ok | exact znl_i | exact znl_r | exact znl_n | exact zw0 | exact zw1 | exact zw2 | exact zw3 | exact zw4 | exact zx0 | exact zx1 | exact zx2 | exact zx3 | ((repeat' (first | assumption | apply zset_eq | apply zset_ne | omega)); done) | ((repeat' (first | exact zscL_nil | refine zscL_i ?_ | refine zscL_n ?_ | refine zscL_r ?_ ?_ | refine zscL_l ?_ | exact zscS_nil | refine zscS_i ?_ | refine zscS_r ?_ ?_ | refine zscS_l ?_ | (simp only [List.length_set, hl]; first | omega | assumption) | omega)); done) | omega | (with_unfolding_all rfl) | fail)) only [v89_0, v89_1, v89_4, v89_5, v89_8, v89_11, v89_12, v89_15, v89_16, v89_17, v89_20, v89_21, v89_24, v89_26, v89_27, v89_28, v89_30, v89_31, v89_35, v89_36, v89_39, v89_40, v89_43, v89_44, v89_46, v89_47, v89_48, v89_49, v89_51, v89_52, v89_53, v89_57, v89_60, v89_61, v89_64, v89_65, v89_67, v89_68, v89_69, v89_70, v89_72, v89_74, v89_77, v89_80, v89_81, v89_84, v89_85, v89_87, v89_88, v89_89, v89_92, v89_93, v89_96, v89_97, v89_99, v89_100, v89_101, v89_102, v89_105, v89_108, v89_109, v89_112, v89_113, v89_115, v89_116, v89_117, v89_120, v89_123, v89_124, v89_127, v89_128, v89_130, v89_131, v89_133, v89_134, v89_137, v89_140, v89_143, v89_145, zAft_v, zAft_n, iN_add, iN_mul, iN_sub, iN_lt, iN_le, iN_eq, bI_0, bI_1, if_pos, if_neg, ifnn, Nat.reduceAdd, Nat.reduceSub, Nat.reduceMul, Nat.add_zero, Nat.zero_add, List.set_set, not_true_eq_false, not_false_eq_true, if_true, if_false, reduceCtorEq]
    rw [zset_id h27]
  | succ d ih =>
    intro a w f l6 hl h19 h26 h27 ha hf
    have b2 := us_le (F := F2 rpi rwd rhi v) a
    obtain ⟨g, g1, g2, e1⟩ := r89i (rt := rt) (ry := ry) (re := re) (rp := rp) (rw := rw) (v := v) (rpi := rpi) (n := n) (B := B) (a := a) (many := us (F2 rpi rwd rhi v) a) hwd hhi hB (by omega) a (w.set 27 (.inl (0, 60, .inl (upd f (B + a) (-1))))) (upd f (B + a) (-1)) (zset_len hl) (by ((repeat' (first | assumption | apply zset_eq | apply zset_ne | omega)); done)) (by ((repeat' (first | assumption | apply zset_eq | apply zset_ne | omega)); done)) (by ((repeat' (first | assumption | apply zset_eq | apply zset_ne | omega)); done)) (Nat.le_refl _)
    have g2' : g (B + a) = if F2 rpi rwd rhi v a < a then Int32.ofNat (us (F2 rpi rwd rhi v) (F2 rpi rwd rhi v a)) else -1 := by
      have hFd : F2 rpi rwd rhi v a = fst (fun b => spt rpi rwd rhi v a b) a 0 := rfl
      rw [g2, ← hFd]
      by_cases q : F2 rpi rwd rhi v a < a
      · rw [if_pos q, if_pos q, upd_ne (by omega)]
        have := hf (F2 rpi rwd rhi v a) q
        rw [F2_idem q] at this
        exact this
      · rw [if_neg q, if_neg q, upd_self]
    rw [List.set_set] at e1
    obtain ⟨w1, hw1⟩ : ∃ w1, w1 = w.set 27 (.inl (0, 60, .inl g)) := ⟨_, rfl⟩
    rw [← hw1] at e1
    have k19 : w1[19]? = some (.inr (4, [.int rt, .ref 20, .int (Int32.ofNat re), .int (Int32.ofNat rp), .int (Int32.ofNat rw), .ref 21, .ref 22, .ref 23, .ref 24, .ref 25, .int ry, .int (Int32.ofNat rwd), .int (Int32.ofNat rhi), .ref 26, .ref 27])) := by rw [hw1]; ((repeat' (first | assumption | apply zset_eq | apply zset_ne | omega)); done)
    have k26 : w1[26]? = some (.inl (2, 900, .inl fun i => bI (rpi i))) := by rw [hw1]; ((repeat' (first | assumption | apply zset_eq | apply zset_ne | omega)); done)
    have k27 : w1[27]? = some (.inl (0, 60, .inl g)) := by rw [hw1]; ((repeat' (first | assumption | apply zset_eq | apply zset_ne | omega)); done)
    have l1 : w1.length = 29 := by rw [hw1]; exact zset_len hl
    by_cases q : F2 rpi rwd rhi v a < a
    · rw [if_pos q] at g2'
      have b3 := us_le (F := F2 rpi rwd rhi v) (F2 rpi rwd rhi v a)
      obtain ⟨g', a1, a2, e2⟩ := ih (a + 1) w1 g (some (.int (-1))) l1 k19 k26 k27 (by omega) (fun i hi => by
        by_cases r : i = a
        · subst r; exact g2'
        · rw [g1 (B + i) (by omega), upd_ne (by omega)]; exact hf i (by omega))
      refine ⟨g', a1, ?_, ?_⟩
      · intro i hi
        rw [a2 i hi, g1 i (by omega), upd_ne (by omega)]
      · rw [us, if_pos q] at e2
        have hpr : pr a = Int32.ofNat (a - 1) := by
          unfold pr
          rw [if_neg (by omega)]
        rw [hpr] at e1
        rw [v89_33]
        simp (disch := (first | assumption | exact hb0 | exact hb1 | exact bI_ok | exact znl_i | exact znl_r | exact znl_n | exact zw0 | exact zw1 | exact zw2 | exact zw3 | exact zw4 | exact zx0 | exact zx1 | exact zx2 | exact zx3 | ((repeat' (first | assumption | apply zset_eq | apply zset_ne | omega)); done) | ((repeat' (first | exact zscL_nil | refine zscL_i ?_ | refine zscL_n ?_ | refine zscL_r ?_ ?_ | refine zscL_l ?_ | exact zscS_nil | refine zscS_i ?_ | refine zscS_r ?_ ?_ | refine zscS_l ?_ | (simp only [List.length_set, hl]; first | omega | assumption) | omega)); done) | omega | (with_unfolding_all rfl) | fail)) only [v89_0, v89_1, v89_4, v89_5, v89_8, v89_11, v89_12, v89_15, v89_16, v89_17, v89_20, v89_21, v89_24, v89_26, v89_27, v89_28, v89_30, v89_31, v89_35, v89_36, v89_39, v89_40, v89_43, v89_44, v89_46, v89_47, v89_48, v89_49, v89_51, v89_52, v89_53, v89_57, v89_60, v89_61, v89_64, v89_65, v89_67, v89_68, v89_69, v89_70, v89_72, v89_74, v89_77, v89_80, v89_81, v89_84, v89_85, v89_87, v89_88, v89_89, v89_92, v89_93, v89_96, v89_97, v89_99, v89_100, v89_101, v89_102, v89_105, v89_108, v89_109, v89_112, v89_113, v89_115, v89_116, v89_117, v89_120, v89_123, v89_124, v89_127, v89_128, v89_130, v89_131, v89_133, v89_134, v89_137, v89_140, v89_143, v89_145, zAft_v, zAft_n, iN_add, iN_mul, iN_sub, iN_lt, iN_le, iN_eq, bI_0, bI_1, if_pos, if_neg, ifnn, Nat.reduceAdd, Nat.reduceSub, Nat.reduceMul, Nat.add_zero, Nat.zero_add, List.set_set, not_true_eq_false, not_false_eq_true, if_true, if_false, reduceCtorEq, pr_a]
        rw [e1]
        simp (disch := (first | assumption | exact hb0 | exact hb1 | exact bI_ok | exact znl_i | exact znl_r | exact znl_n | exact zw0 | exact zw1 | exact zw2 | exact zw3 | exact zw4 | exact zx0 | exact zx1 | exact zx2 | exact zx3 | ((repeat' (first | assumption | apply zset_eq | apply zset_ne | omega)); done) | ((repeat' (first | exact zscL_nil | refine zscL_i ?_ | refine zscL_n ?_ | refine zscL_r ?_ ?_ | refine zscL_l ?_ | exact zscS_nil | refine zscS_i ?_ | refine zscS_r ?_ ?_ | refine zscS_l ?_ | (simp only [List.length_set, hl]; first | omega | assumption) | omega)); done) | omega | (with_unfolding_all rfl) | fail)) only [v89_0, v89_1, v89_4, v89_5, v89_8, v89_11, v89_12, v89_15, v89_16, v89_17, v89_20, v89_21, v89_24, v89_26, v89_27, v89_28, v89_30, v89_31, v89_35, v89_36, v89_39, v89_40, v89_43, v89_44, v89_46, v89_47, v89_48, v89_49, v89_51, v89_52, v89_53, v89_57, v89_60, v89_61, v89_64, v89_65, v89_67, v89_68, v89_69, v89_70, v89_72, v89_74, v89_77, v89_80, v89_81, v89_84, v89_85, v89_87, v89_88, v89_89, v89_92, v89_93, v89_96, v89_97, v89_99, v89_100, v89_101, v89_102, v89_105, v89_108, v89_109, v89_112, v89_113, v89_115, v89_116, v89_117, v89_120, v89_123, v89_124, v89_127, v89_128, v89_130, v89_131, v89_133, v89_134, v89_137, v89_140, v89_143, v89_145, zAft_v, zAft_n, iN_add, iN_mul, iN_sub, iN_lt, iN_le, iN_eq, bI_0, bI_1, if_pos, if_neg, ifnn, Nat.reduceAdd, Nat.reduceSub, Nat.reduceMul, Nat.add_zero, Nat.zero_add, List.set_set, not_true_eq_false, not_false_eq_true, if_true, if_false, reduceCtorEq, g2']
        rw [e2, hw1, List.set_set]
    · rw [if_neg q] at g2'
      have q2 : (-1 : Int32) < Int32.ofNat 0 := by decide
      have q3 : F2 rpi rwd rhi v a = a := by have := F2_le (rpi := rpi) (rwd := rwd) (rhi := rhi) (v := v) (a := a); omega
      obtain ⟨g', a1, a2, e2⟩ := ih (a + 1) (w1.set 27 (.inl (0, 60, .inl (upd g (B + a) (Int32.ofNat (us (F2 rpi rwd rhi v) a)))))) (upd g (B + a) (Int32.ofNat (us (F2 rpi rwd rhi v) a))) (some (.int (-1))) (zset_len l1) (by ((repeat' (first | assumption | apply zset_eq | apply zset_ne | omega)); done)) (by ((repeat' (first | assumption | apply zset_eq | apply zset_ne | omega)); done)) (by ((repeat' (first | assumption | apply zset_eq | apply zset_ne | omega)); done)) (by omega) (fun i hi => by
        by_cases r : i = a
        · subst r; rw [upd_self, q3]
        · rw [upd_ne (by omega), g1 (B + i) (by omega), upd_ne (by omega)]; exact hf i (by omega))
      refine ⟨g', a1, ?_, ?_⟩
      · intro i hi
        rw [a2 i hi, upd_ne (by omega), g1 i (by omega), upd_ne (by omega)]
      · rw [us, if_neg q] at e2
        rw [v89_33]
        simp (disch := (first | assumption | exact hb0 | exact hb1 | exact bI_ok | exact znl_i | exact znl_r | exact znl_n | exact zw0 | exact zw1 | exact zw2 | exact zw3 | exact zw4 | exact zx0 | exact zx1 | exact zx2 | exact zx3 | ((repeat' (first | assumption | apply zset_eq | apply zset_ne | omega)); done) | ((repeat' (first | exact zscL_nil | refine zscL_i ?_ | refine zscL_n ?_ | refine zscL_r ?_ ?_ | refine zscL_l ?_ | exact zscS_nil | refine zscS_i ?_ | refine zscS_r ?_ ?_ | refine zscS_l ?_ | (simp only [List.length_set, hl]; first | omega | assumption) | omega)); done) | omega | (with_unfolding_all rfl) | fail)) only [v89_0, v89_1, v89_4, v89_5, v89_8, v89_11, v89_12, v89_15, v89_16, v89_17, v89_20, v89_21, v89_24, v89_26, v89_27, v89_28, v89_30, v89_31, v89_35, v89_36, v89_39, v89_40, v89_43, v89_44, v89_46, v89_47, v89_48, v89_49, v89_51, v89_52, v89_53, v89_57, v89_60, v89_61, v89_64, v89_65, v89_67, v89_68, v89_69, v89_70, v89_72, v89_74, v89_77, v89_80, v89_81, v89_84, v89_85, v89_87, v89_88, v89_89, v89_92, v89_93, v89_96, v89_97, v89_99, v89_100, v89_101, v89_102, v89_105, v89_108, v89_109, v89_112, v89_113, v89_115, v89_116, v89_117, v89_120, v89_123, v89_124, v89_127, v89_128, v89_130, v89_131, v89_133, v89_134, v89_137, v89_140, v89_143, v89_145, zAft_v, zAft_n, iN_add, iN_mul, iN_sub, iN_lt, iN_le, iN_eq, bI_0, bI_1, if_pos, if_neg, ifnn, Nat.reduceAdd, Nat.reduceSub, Nat.reduceMul, Nat.add_zero, Nat.zero_add, List.set_set, not_true_eq_false, not_false_eq_true, if_true, if_false, reduceCtorEq, pr_a]
        rw [e1]
        simp (disch := (first | assumption | exact hb0 | exact hb1 | exact bI_ok | exact znl_i | exact znl_r | exact znl_n | exact zw0 | exact zw1 | exact zw2 | exact zw3 | exact zw4 | exact zx0 | exact zx1 | exact zx2 | exact zx3 | ((repeat' (first | assumption | apply zset_eq | apply zset_ne | omega)); done) | ((repeat' (first | exact zscL_nil | refine zscL_i ?_ | refine zscL_n ?_ | refine zscL_r ?_ ?_ | refine zscL_l ?_ | exact zscS_nil | refine zscS_i ?_ | refine zscS_r ?_ ?_ | refine zscS_l ?_ | (simp only [List.length_set, hl]; first | omega | assumption) | omega)); done) | omega | (with_unfolding_all rfl) | fail)) only [v89_0, v89_1, v89_4, v89_5, v89_8, v89_11, v89_12, v89_15, v89_16, v89_17, v89_20, v89_21, v89_24, v89_26, v89_27, v89_28, v89_30, v89_31, v89_35, v89_36, v89_39, v89_40, v89_43, v89_44, v89_46, v89_47, v89_48, v89_49, v89_51, v89_52, v89_53, v89_57, v89_60, v89_61, v89_64, v89_65, v89_67, v89_68, v89_69, v89_70, v89_72, v89_74, v89_77, v89_80, v89_81, v89_84, v89_85, v89_87, v89_88, v89_89, v89_92, v89_93, v89_96, v89_97, v89_99, v89_100, v89_101, v89_102, v89_105, v89_108, v89_109, v89_112, v89_113, v89_115, v89_116, v89_117, v89_120, v89_123, v89_124, v89_127, v89_128, v89_130, v89_131, v89_133, v89_134, v89_137, v89_140, v89_143, v89_145, zAft_v, zAft_n, iN_add, iN_mul, iN_sub, iN_lt, iN_le, iN_eq, bI_0, bI_1, if_pos, if_neg, ifnn, Nat.reduceAdd, Nat.reduceSub, Nat.reduceMul, Nat.add_zero, Nat.zero_add, List.set_set, not_true_eq_false, not_false_eq_true, if_true, if_false, reduceCtorEq, g2']
        rw [e2, hw1, List.set_set, List.set_set]
theorem r89 {w : zW} {v : Bool} {rpi : Nat → Bool} {rki : Nat → Int32} {n B : Nat} (hl : w.length = 29) (h19 : w[19]? = some (.inr (4, [.int rt, .ref 20, .int (Int32.ofNat re), .int (Int32.ofNat rp), .int (Int32.ofNat rw), .ref 21, .ref 22, .ref 23, .ref 24, .ref 25, .int ry, .int (Int32.ofNat rwd), .int (Int32.ofNat rhi), .ref 26, .ref 27]))) (h26 : w[26]? = some (.inl (2, 900, .inl fun i => bI (rpi i)))) (h27 : w[27]? = some (.inl (0, 60, .inl rki))) (hwd : rwd ≤ 30) (hhi : rhi ≤ 30) (hn : n = if v = true then rwd else rhi) (hB : B = if v = true then 0 else 30) :
    ∃ g : Nat → Int32, (∀ i, i < n → g (B + i) = Int32.ofNat (us (F2 rpi rwd rhi v) (F2 rpi rwd rhi v i))) ∧ (∀ i, i < B ∨ B + n ≤ i → g i = rki i) ∧ zm E0 89 [.ref 19, .int (bI v)] w = some (.inl (some (.int (Int32.ofNat (us (F2 rpi rwd rhi v) n)))), w.set 27 (.inl (0, 60, .inl g)), 0, 0) := by
  obtain ⟨g, a1, a2, e⟩ := r89l (rt := rt) (ry := ry) (re := re) (rp := rp) (rw := rw) (v := v) (rpi := rpi) (n := n) (B := B) hwd hhi (by subst hB; split <;> omega) (by subst hn; split <;> omega) n 0 w rki none hl h19 h26 h27 (by omega) (fun i hi => absurd hi (by omega))
  refine ⟨g, a1, a2, ?_⟩
  rw [← e, zm89]
  cases v
  · rw [if_neg (by decide)] at hn hB
    subst hn hB
    simp (disch := (first | assumption | exact hb0 | exact hb1 | exact bI_ok | exact znl_i | exact znl_r | exact znl_n | exact zw0 | exact zw1 | exact zw2 | exact zw3 | exact zw4 | exact zx0 | exact zx1 | exact zx2 | exact zx3 | ((repeat' (first | assumption | apply zset_eq | apply zset_ne | omega)); done) | ((repeat' (first | exact zscL_nil | refine zscL_i ?_ | refine zscL_n ?_ | refine zscL_r ?_ ?_ | refine zscL_l ?_ | exact zscS_nil | refine zscS_i ?_ | refine zscS_r ?_ ?_ | refine zscS_l ?_ | (simp only [List.length_set, hl]; first | omega | assumption) | omega)); done) | omega | (with_unfolding_all rfl) | fail)) only [v89_0, v89_1, v89_4, v89_5, v89_8, v89_11, v89_12, v89_15, v89_16, v89_17, v89_20, v89_21, v89_24, v89_26, v89_27, v89_28, v89_30, v89_31, v89_35, v89_36, v89_39, v89_40, v89_43, v89_44, v89_46, v89_47, v89_48, v89_49, v89_51, v89_52, v89_53, v89_57, v89_60, v89_61, v89_64, v89_65, v89_67, v89_68, v89_69, v89_70, v89_72, v89_74, v89_77, v89_80, v89_81, v89_84, v89_85, v89_87, v89_88, v89_89, v89_92, v89_93, v89_96, v89_97, v89_99, v89_100, v89_101, v89_102, v89_105, v89_108, v89_109, v89_112, v89_113, v89_115, v89_116, v89_117, v89_120, v89_123, v89_124, v89_127, v89_128, v89_130, v89_131, v89_133, v89_134, v89_137, v89_140, v89_143, v89_145, zAft_v, zAft_n, iN_add, iN_mul, iN_sub, iN_lt, iN_le, iN_eq, bI_0, bI_1, if_pos, if_neg, ifnn, Nat.reduceAdd, Nat.reduceSub, Nat.reduceMul, Nat.add_zero, Nat.zero_add, List.set_set, not_true_eq_false, not_false_eq_true, if_true, if_false, reduceCtorEq]
    try rfl
  · rw [if_pos rfl] at hn hB
    subst hn hB
    simp (disch := (first | assumption | exact hb0 | exact hb1 | exact bI_ok | exact znl_i | exact znl_r | exact znl_n | exact zw0 | exact zw1 | exact zw2 | exact zw3 | exact zw4 | exact zx0 | exact zx1 | exact zx2 | exact zx3 | ((repeat' (first | assumption | apply zset_eq | apply zset_ne | omega)); done) | ((repeat' (first | exact zscL_nil | refine zscL_i ?_ | refine zscL_n ?_ | refine zscL_r ?_ ?_ | refine zscL_l ?_ | exact zscS_nil | refine zscS_i ?_ | refine zscS_r ?_ ?_ | refine zscS_l ?_ | (simp only [List.length_set, hl]; first | omega | assumption) | omega)); done) | omega | (with_unfolding_all rfl) | fail)) only [v89_0, v89_1, v89_4, v89_5, v89_8, v89_11, v89_12, v89_15, v89_16, v89_17, v89_20, v89_21, v89_24, v89_26, v89_27, v89_28, v89_30, v89_31, v89_35, v89_36, v89_39, v89_40, v89_43, v89_44, v89_46, v89_47, v89_48, v89_49, v89_51, v89_52, v89_53, v89_57, v89_60, v89_61, v89_64, v89_65, v89_67, v89_68, v89_69, v89_70, v89_72, v89_74, v89_77, v89_80, v89_81, v89_84, v89_85, v89_87, v89_88, v89_89, v89_92, v89_93, v89_96, v89_97, v89_99, v89_100, v89_101, v89_102, v89_105, v89_108, v89_109, v89_112, v89_113, v89_115, v89_116, v89_117, v89_120, v89_123, v89_124, v89_127, v89_128, v89_130, v89_131, v89_133, v89_134, v89_137, v89_140, v89_143, v89_145, zAft_v, zAft_n, iN_add, iN_mul, iN_sub, iN_lt, iN_le, iN_eq, bI_0, bI_1, if_pos, if_neg, ifnn, Nat.reduceAdd, Nat.reduceSub, Nat.reduceMul, Nat.add_zero, Nat.zero_add, List.set_set, not_true_eq_false, not_false_eq_true, if_true, if_false, reduceCtorEq, Bool.true_eq_false]
    try rfl
end ref
