/-! The pile, on. -/
/-- what lies over what directly -/
def dir (ov : Nat → Nat → Bool) (ce cp : Nat) : Rel2 := fun i j => decide (i = j) || (if i < ce then (decide (ce ≤ j ∧ j < ce + cp) && ov (j - ce) i) else (decide (j < ce) && !(ov (i - ce) j)))
section pile
theorem m15i {A : Rel2} {T k : Nat} (hT : T ≤ 60) (hk : k < T) :
    ∀ (d i : Nat) (w : zW) (g : Nat → Int64), w.length = 29 → w[10]? = some (.inr (1, [.ref 11, .ref 12, .int (Int32.ofNat T)])) → w[11]? = some (.inl (1, 60, .inr (.inl g))) → i + d = T → (∀ a j, a < T → j < 64 → tl (g a) j = inn A k i a j) →
      ∃ g', (∀ a j, a < T → j < 64 → tl (g' a) j = inn A k T a j) ∧ zval E0 none 15 (12, [some (.ref 10), some (.int (Int32.ofNat k)), some (.int (Int32.ofNat i))], [], w, 0, 0) = zval E0 none 15 (54, [some (.ref 10), some (.int (Int32.ofNat k)), some (.int (Int32.ofNat T))], [], w.set 11 (.inl (1, 60, .inr (.inl g'))), 0, 0) := by
  intro d
  induction d with
  | zero =>
    intro i w g hl h10 h11 hi hg
    obtain rfl : i = T := hi
    refine ⟨g, hg, ?_⟩
    rw [v15_12]
    simp (disch := (first | assumption | exact hb0 | exact hb1 | exact bI_ok | exact znl_i | exact znl_r | exact znl_n | exact zw0 | exact zw1 | exact zw2 | exact zw3 | exact zw4 | exact zx0 | exact zx1 | exact zx2 | exact zx3 | ((repeat' (first | assumption | apply zset_eq | apply zset_ne | omega)); done) | ((repeat' (first | exact zscL_nil | refine zscL_i ?_ | refine zscL_n ?_ | refine zscL_r ?_ ?_ | refine zscL_l ?_ | exact zscS_nil | refine zscS_i ?_ | refine zscS_r ?_ ?_ | refine zscS_l ?_ | (simp only [List.length_set, hl]; first | omega | assumption) | omega)); done) | omega | (with_unfolding_all rfl) | fail)) only [v15_0, v15_1, v15_3, v15_4, v15_7, v15_10, v15_11, v15_13, v15_14, v15_17, v15_20, v15_21, v15_24, v15_25, v15_26, v15_27, v15_30, v15_33, v15_34, v15_37, v15_38, v15_39, v15_40, v15_41, v15_44, v15_45, v15_46, v15_47, v15_48, v15_51, v15_57, v15_60, zAft_v, zAft_n, iN_add, iN_mul, iN_sub, iN_lt, iN_le, iN_eq, bI_0, bI_1, if_pos, if_neg, ifnn, Nat.reduceAdd, Nat.reduceSub, Nat.reduceMul, Nat.add_zero, Nat.zero_add, List.set_set, not_true_eq_false, not_false_eq_true, if_true, if_false, reduceCtorEq]
    rw [zset_id h11]
  | succ d ih =>
    intro i w g hl h10 h11 hi hg
    have e1 := m19 (w := w) (x := g i) (i := k) (by omega)
    cases x : tl (g i) k
    · rw [x] at e1
      obtain ⟨g', g1, e⟩ := ih (i + 1) w g hl h10 h11 (by omega) (by
        intro a j ha hj
        rw [hg a j ha hj, inn]
        unfold stp
        by_cases q : a = i
        · subst q
          rw [if_pos rfl, ← hg a k ha (by omega), x, Bool.false_and, Bool.or_false]
        · rw [if_neg q])
      refine ⟨g', g1, ?_⟩
      rw [v15_12]
      simp (disch := (first | assumption | exact hb0 | exact hb1 | exact bI_ok | exact znl_i | exact znl_r | exact znl_n | exact zw0 | exact zw1 | exact zw2 | exact zw3 | exact zw4 | exact zx0 | exact zx1 | exact zx2 | exact zx3 | ((repeat' (first | assumption | apply zset_eq | apply zset_ne | omega)); done) | ((repeat' (first | exact zscL_nil | refine zscL_i ?_ | refine zscL_n ?_ | refine zscL_r ?_ ?_ | refine zscL_l ?_ | exact zscS_nil | refine zscS_i ?_ | refine zscS_r ?_ ?_ | refine zscS_l ?_ | (simp only [List.length_set, hl]; first | omega | assumption) | omega)); done) | omega | (with_unfolding_all rfl) | fail)) only [v15_0, v15_1, v15_3, v15_4, v15_7, v15_10, v15_11, v15_13, v15_14, v15_17, v15_20, v15_21, v15_24, v15_25, v15_26, v15_27, v15_30, v15_33, v15_34, v15_37, v15_38, v15_39, v15_40, v15_41, v15_44, v15_45, v15_46, v15_47, v15_48, v15_51, v15_57, v15_60, zAft_v, zAft_n, iN_add, iN_mul, iN_sub, iN_lt, iN_le, iN_eq, bI_0, bI_1, if_pos, if_neg, ifnn, Nat.reduceAdd, Nat.reduceSub, Nat.reduceMul, Nat.add_zero, Nat.zero_add, List.set_set, not_true_eq_false, not_false_eq_true, if_true, if_false, reduceCtorEq, e1]
      exact e
    · rw [x] at e1
      obtain ⟨g', g1, e⟩ := ih (i + 1) (w.set 11 (.inl (1, 60, .inr (.inl (vp_updL g i (g i ||| g k)))))) (vp_updL g i (g i ||| g k)) (zset_len hl) (by ((repeat' (first | assumption | apply zset_eq | apply zset_ne | omega)); done)) (by ((repeat' (first | assumption | apply zset_eq | apply zset_ne | omega)); done)) (by omega) (by
        intro a j ha hj
        rw [inn]
        unfold stp
        by_cases q : a = i
        · subst q
          rw [if_pos rfl, updL_self, tl_or, ← hg a k ha (by omega), x, Bool.true_and, ← hg a j ha hj, ← hg k j hk hj]
        · rw [if_neg q, updL_ne q, hg a j ha hj])
      refine ⟨g', g1, ?_⟩
      rw [v15_12]
      simp (disch := (first | assumption | exact hb0 | exact hb1 | exact bI_ok | exact znl_i | exact znl_r | exact znl_n | exact zw0 | exact zw1 | exact zw2 | exact zw3 | exact zw4 | exact zx0 | exact zx1 | exact zx2 | exact zx3 | ((repeat' (first | assumption | apply zset_eq | apply zset_ne | omega)); done) | ((repeat' (first | exact zscL_nil | refine zscL_i ?_ | refine zscL_n ?_ | refine zscL_r ?_ ?_ | refine zscL_l ?_ | exact zscS_nil | refine zscS_i ?_ | refine zscS_r ?_ ?_ | refine zscS_l ?_ | (simp only [List.length_set, hl]; first | omega | assumption) | omega)); done) | omega | (with_unfolding_all rfl) | fail)) only [v15_0, v15_1, v15_3, v15_4, v15_7, v15_10, v15_11, v15_13, v15_14, v15_17, v15_20, v15_21, v15_24, v15_25, v15_26, v15_27, v15_30, v15_33, v15_34, v15_37, v15_38, v15_39, v15_40, v15_41, v15_44, v15_45, v15_46, v15_47, v15_48, v15_51, v15_57, v15_60, zAft_v, zAft_n, iN_add, iN_mul, iN_sub, iN_lt, iN_le, iN_eq, bI_0, bI_1, if_pos, if_neg, ifnn, Nat.reduceAdd, Nat.reduceSub, Nat.reduceMul, Nat.add_zero, Nat.zero_add, List.set_set, not_true_eq_false, not_false_eq_true, if_true, if_false, reduceCtorEq, e1, Bool.true_eq_false]
      rw [e, List.set_set]
theorem m15l {A : Rel2} {T : Nat} (hT : T ≤ 60) :
    ∀ (d k : Nat) (w : zW) (g : Nat → Int64) (l2 : Option Value), w.length = 29 → w[10]? = some (.inr (1, [.ref 11, .ref 12, .int (Int32.ofNat T)])) → w[11]? = some (.inl (1, 60, .inr (.inl g))) → k + d = T → (∀ a j, a < T → j < 64 → tl (g a) j = clo A T k a j) →
      ∃ g', (∀ a j, a < T → j < 64 → tl (g' a) j = clo A T T a j) ∧ zval E0 none 15 (2, [some (.ref 10), some (.int (Int32.ofNat k)), l2], [], w, 0, 0) = some (.inl none, w.set 11 (.inl (1, 60, .inr (.inl g'))), 0, 0) := by
  intro d
  induction d with
  | zero =>
    intro k w g l2 hl h10 h11 hk hg
    obtain rfl : k = T := hk
    refine ⟨g, hg, ?_⟩
    rw [v15_2]
    simp (disch := (first | assumption | exact hb0 | exact hb1 | exact bI_ok | exact znl_i | exact znl_r | exact znl_n | exact zw0 | exact zw1 | exact zw2 | exact zw3 | exact zw4 | exact zx0 | exact zx1 | exact zx2 | exact zx3 | ((repeat' (first | assumption | apply zset_eq | apply zset_ne | omega)); done) | ((repeat' (first | exact zscL_nil | refine zscL_i ?_ | refine zscL_n ?_ | refine zscL_r ?_ ?_ | refine zscL_l ?_ | exact zscS_nil | refine zscS_i ?_ | refine zscS_r ?_ ?_ | refine zscS_l ?_ | (simp only [List.length_set, hl]; first | omega | assumption) | omega)); done) | omega | (with_unfolding_all rfl) | fail)) only [v15_0, v15_1, v15_3, v15_4, v15_7, v15_10, v15_11, v15_13, v15_14, v15_17, v15_20, v15_21, v15_24, v15_25, v15_26, v15_27, v15_30, v15_33, v15_34, v15_37, v15_38, v15_39, v15_40, v15_41, v15_44, v15_45, v15_46, v15_47, v15_48, v15_51, v15_54, v15_57, v15_60, zAft_v, zAft_n, iN_add, iN_mul, iN_sub, iN_lt, iN_le, iN_eq, bI_0, bI_1, if_pos, if_neg, ifnn, Nat.reduceAdd, Nat.reduceSub, Nat.reduceMul, Nat.add_zero, Nat.zero_add, List.set_set, not_true_eq_false, not_false_eq_true, if_true, if_false, reduceCtorEq]
    rw [zset_id h11]
  | succ d ih =>
    intro k w g l2 hl h10 h11 hk hg
    obtain ⟨g1, a1, e1⟩ := m15i (A := clo A T k) (k := k) hT (by omega) T 0 w g hl h10 h11 (by omega) hg
    obtain ⟨g2, a2, e2⟩ := ih (k + 1) (w.set 11 (.inl (1, 60, .inr (.inl g1)))) g1 (some (.int (Int32.ofNat T))) (zset_len hl) (by ((repeat' (first | assumption | apply zset_eq | apply zset_ne | omega)); done)) (by ((repeat' (first | assumption | apply zset_eq | apply zset_ne | omega)); done)) (by omega) a1
    refine ⟨g2, a2, ?_⟩
    rw [v15_2]
    simp (disch := (first | assumption | exact hb0 | exact hb1 | exact bI_ok | exact znl_i | exact znl_r | exact znl_n | exact zw0 | exact zw1 | exact zw2 | exact zw3 | exact zw4 | exact zx0 | exact zx1 | exact zx2 | exact zx3 | ((repeat' (first | assumption | apply zset_eq | apply zset_ne | omega)); done) | ((repeat' (first | exact zscL_nil | refine zscL_i ?_ | refine zscL_n ?_ | refine zscL_r ?_ ?_ | refine zscL_l ?_ | exact zscS_nil | refine zscS_i ?_ | refine zscS_r ?_ ?_ | refine zscS_l ?_ | (simp only [List.length_set, hl]; first | omega | assumption) | omega)); done) | omega | (with_unfolding_all rfl) | fail)) only [v15_0, v15_1, v15_3, v15_4, v15_7, v15_10, v15_11, v15_13, v15_14, v15_17, v15_20, v15_21, v15_24, v15_25, v15_26, v15_27, v15_30, v15_33, v15_34, v15_37, v15_38, v15_39, v15_40, v15_41, v15_44, v15_45, v15_46, v15_47, v15_48, v15_51, v15_54, v15_57, v15_60, zAft_v, zAft_n, iN_add, iN_mul, iN_sub, iN_lt, iN_le, iN_eq, bI_0, bI_1, if_pos, if_neg, ifnn, Nat.reduceAdd, Nat.reduceSub, Nat.reduceMul, Nat.add_zero, Nat.zero_add, List.set_set, not_true_eq_false, not_false_eq_true, if_true, if_false, reduceCtorEq]
    rw [e1]
    simp (disch := (first | assumption | exact hb0 | exact hb1 | exact bI_ok | exact znl_i | exact znl_r | exact znl_n | exact zw0 | exact zw1 | exact zw2 | exact zw3 | exact zw4 | exact zx0 | exact zx1 | exact zx2 | exact zx3 | ((repeat' (first | assumption | apply zset_eq | apply zset_ne | omega)); done) | ((repeat' (first | exact zscL_nil | refine zscL_i ?_ | refine zscL_n ?_ | refine zscL_r ?_ ?_ | refine zscL_l ?_ | exact zscS_nil | refine zscS_i ?_ | refine zscS_r ?_ ?_ | refine zscS_l ?_ | (simp only [List.length_set, hl]; first | omega | assumption) | omega)); done) | omega | (with_unfolding_all rfl) | fail)) only [v15_0, v15_1, v15_3, v15_4, v15_7, v15_10, v15_11, v15_13, v15_14, v15_17, v15_20, v15_21, v15_24, v15_25, v15_26, v15_27, v15_30, v15_33, v15_34, v15_37, v15_38, v15_39, v15_40, v15_41, v15_44, v15_45, v15_46, v15_47, v15_48, v15_51, v15_54, v15_57, v15_60, zAft_v, zAft_n, iN_add, iN_mul, iN_sub, iN_lt, iN_le, iN_eq, bI_0, bI_1, if_pos, if_neg, ifnn, Nat.reduceAdd, Nat.reduceSub, Nat.reduceMul, Nat.add_zero, Nat.zero_add, List.set_set, not_true_eq_false, not_false_eq_true, if_true, if_false, reduceCtorEq]
    rw [e2, List.set_set]
theorem m15 {w : zW} {A : Rel2} {T : Nat} {g : Nat → Int64} (hT : T ≤ 60) (hl : w.length = 29) (h10 : w[10]? = some (.inr (1, [.ref 11, .ref 12, .int (Int32.ofNat T)]))) (h11 : w[11]? = some (.inl (1, 60, .inr (.inl g)))) (hg : ∀ a j, a < T → j < 64 → tl (g a) j = A a j) :
    ∃ g', (∀ a j, a < T → j < 64 → tl (g' a) j = clo A T T a j) ∧ zm E0 15 [.ref 10] w = some (.inl none, w.set 11 (.inl (1, 60, .inr (.inl g'))), 0, 0) := by
  obtain ⟨g', a, e⟩ := m15l (A := A) hT T 0 w g none hl h10 h11 (by omega) hg
  refine ⟨g', a, ?_⟩
  rw [zm15]
  simp (disch := (first | assumption | exact hb0 | exact hb1 | exact bI_ok | exact znl_i | exact znl_r | exact znl_n | exact zw0 | exact zw1 | exact zw2 | exact zw3 | exact zw4 | exact zx0 | exact zx1 | exact zx2 | exact zx3 | ((repeat' (first | assumption | apply zset_eq | apply zset_ne | omega)); done) | ((repeat' (first | exact zscL_nil | refine zscL_i ?_ | refine zscL_n ?_ | refine zscL_r ?_ ?_ | refine zscL_l ?_ | exact zscS_nil | refine zscS_i ?_ | refine zscS_r ?_ ?_ | refine zscS_l ?_ | (simp only [List.length_set, hl]; first | omega | assumption) | omega)); done) | omega | (with_unfolding_all rfl) | fail)) only [v15_0, v15_1, v15_3, v15_4, v15_7, v15_10, v15_11, v15_13, v15_14, v15_17, v15_20, v15_21, v15_24, v15_25, v15_26, v15_27, v15_30, v15_33, v15_34, v15_37, v15_38, v15_39, v15_40, v15_41, v15_44, v15_45, v15_46, v15_47, v15_48, v15_51, v15_54, v15_57, v15_60, zAft_v, zAft_n, iN_add, iN_mul, iN_sub, iN_lt, iN_le, iN_eq, bI_0, bI_1, if_pos, if_neg, ifnn, Nat.reduceAdd, Nat.reduceSub, Nat.reduceMul, Nat.add_zero, Nat.zero_add, List.set_set, not_true_eq_false, not_false_eq_true, if_true, if_false, reduceCtorEq]
  exact e
theorem m14a {cl : Nat → Int32} {ce cp : Nat} {ax : Int64} (hce : ce ≤ 30) (hcp : cp ≤ 30) :
    ∀ (d k : Nat) (w : zW) (g : Nat → Int64), w.length = 29 → w[8]? = some (.inr (0, [.ref 9, .int (Int32.ofNat ce), .int (Int32.ofNat cp)])) → w[9]? = some (.inl (0, 30, .inl cl)) → (∃ th, w[10]? = some (.inr (1, [.ref 11, .ref 12, .int th]))) → w[11]? = some (.inl (1, 60, .inr (.inl g))) → k + d = ce → (∀ a j, a < k → j < 64 → tl (g a) j = dir (fun p e => tb (cl p) e) ce cp a j) →
      ∃ g', (∀ a j, a < ce → j < 64 → tl (g' a) j = dir (fun p e => tb (cl p) e) ce cp a j) ∧ zval E0 none 14 (12, [some (.ref 10), some (.ref 8), some (.long ax), none, some (.int (Int32.ofNat k)), none], [], w, 0, 0) = zval E0 none 14 (52, [some (.ref 10), some (.ref 8), some (.long ax), none, some (.int (Int32.ofNat ce)), none], [], w.set 11 (.inl (1, 60, .inr (.inl g'))), 0, 0) := by
  intro d
  induction d with
  | zero =>
    intro k w g hl h8 h9 h10 h11 hk hg
    obtain ⟨th, h10⟩ := h10
    obtain rfl : k = ce := hk
    refine ⟨g, hg, ?_⟩
    rw [v14_12]
    simp (disch := (first | assumption | exact hb0 | exact hb1 | exact bI_ok | exact znl_i | exact znl_r | exact znl_n | exact zw0 | exact zw1 | exact zw2 | exact zw3 | exact zw4 | exact zx0 | exact zx1 | exact zx2 | exact zx3 | ((repeat' (first | assumption | apply zset_eq | apply zset_ne | omega)); done) | ((repeat' (first | exact zscL_nil | refine zscL_i ?_ | refine zscL_n ?_ | refine zscL_r ?_ ?_ | refine zscL_l ?_ | exact zscS_nil | refine zscS_i ?_ | refine zscS_r ?_ ?_ | refine zscS_l ?_ | (simp only [List.length_set, hl]; first | omega | assumption) | omega)); done) | omega | (with_unfolding_all rfl) | fail)) only [v14_0, v14_1, v14_2, v14_5, v14_6, v14_7, v14_8, v14_9, v14_10, v14_14, v14_15, v14_18, v14_21, v14_22, v14_25, v14_27, v14_28, v14_30, v14_31, v14_32, v14_33, v14_35, v14_38, v14_39, v14_40, v14_43, v14_44, v14_45, v14_46, v14_49, v14_53, v14_57, v14_58, v14_61, v14_64, v14_65, v14_68, v14_70, v14_71, v14_73, v14_74, v14_77, v14_79, v14_80, v14_82, v14_83, v14_84, v14_85, v14_86, v14_88, v14_91, v14_92, v14_93, v14_94, v14_95, v14_96, v14_97, v14_100, v14_103, zAft_v, zAft_n, iN_add, iN_mul, iN_sub, iN_lt, iN_le, iN_eq, bI_0, bI_1, if_pos, if_neg, ifnn, Nat.reduceAdd, Nat.reduceSub, Nat.reduceMul, Nat.add_zero, Nat.zero_add, List.set_set, not_true_eq_false, not_false_eq_true, if_true, if_false, reduceCtorEq]
    rw [zset_id h11]
  | succ d ih =>
    intro k w g hl h8 h9 h10 h11 hk hg
    obtain ⟨th, h10⟩ := h10
    have e7 : zm E0 7 [.ref 8, .int (Int32.ofNat 0), .int (Int32.ofNat k)] w = some (.inl (some (.int (mk cp fun p => tb (cl p) k))), w, 0, 0) := m7 (v := false) hl (by omega) h8 h9 hcp (show k < 30 by omega)
    obtain ⟨v, hv⟩ : ∃ v : Int64, v = 1 <<< ((Int32.ofNat k).toInt64 &&& 63) ||| (mk cp fun p => tb (cl p) k).toInt64 <<< ((Int32.ofNat ce).toInt64 &&& 63) := ⟨_, rfl⟩
    have hvb : ∀ j, j < 64 → tl v j = dir (fun p e => tb (cl p) e) ce cp k j := by
      intro j hj
      rw [hv, tl_or, tl_bit (by omega) hj, tl_shl (by omega) hj]
      unfold dir
      rw [if_pos (show k < ce by omega)]
      have c1 : decide (j = k) = decide (k = j) := by
        by_cases q : j = k
        · subst q; rfl
        · rw [decide_eq_false q, decide_eq_false (fun z => q z.symm)]
      rw [c1]
      congr 1
      by_cases q : ce ≤ j
      · by_cases r : j - ce < 32
        · rw [tl_ext32 r, tb_mk cp (by omega) (j - ce) r]
          by_cases s : j - ce < cp
          · rw [decide_eq_true q, decide_eq_true s, decide_eq_true (show ce ≤ j ∧ j < ce + cp from ⟨q, by omega⟩)]
            rfl
          · rw [decide_eq_false s, decide_eq_false (show ¬ (ce ≤ j ∧ j < ce + cp) by omega)]
            simp
        · rw [tl_ext32' (by omega) (by omega), tb_mk cp (by omega) 31 (by omega), decide_eq_false (show ¬ 31 < cp by omega), decide_eq_false (show ¬ (ce ≤ j ∧ j < ce + cp) by omega)]
          simp
      · rw [decide_eq_false q, decide_eq_false (show ¬ (ce ≤ j ∧ j < ce + cp) by omega)]
        rfl
    obtain ⟨g', a1, e⟩ := ih (k + 1) (w.set 11 (.inl (1, 60, .inr (.inl (vp_updL g k v))))) (vp_updL g k v) (zset_len hl) (by ((repeat' (first | assumption | apply zset_eq | apply zset_ne | omega)); done)) (by ((repeat' (first | assumption | apply zset_eq | apply zset_ne | omega)); done)) ⟨th, by ((repeat' (first | assumption | apply zset_eq | apply zset_ne | omega)); done)⟩ (by ((repeat' (first | assumption | apply zset_eq | apply zset_ne | omega)); done)) (by omega) (by
      intro a j ha hj
      by_cases q : a = k
      · subst q; rw [updL_self]; exact hvb j hj
      · rw [updL_ne q]; exact hg a j (by omega) hj)
    refine ⟨g', a1, ?_⟩
    rw [v14_12]
    simp (disch := (first | assumption | exact hb0 | exact hb1 | exact bI_ok | exact znl_i | exact znl_r | exact znl_n | exact zw0 | exact zw1 | exact zw2 | exact zw3 | exact zw4 | exact zx0 | exact zx1 | exact zx2 | exact zx3 | ((repeat' (first | assumption | apply zset_eq | apply zset_ne | omega)); done) | ((repeat' (first | exact zscL_nil | refine zscL_i ?_ | refine zscL_n ?_ | refine zscL_r ?_ ?_ | refine zscL_l ?_ | exact zscS_nil | refine zscS_i ?_ | refine zscS_r ?_ ?_ | refine zscS_l ?_ | (simp only [List.length_set, hl]; first | omega | assumption) | omega)); done) | omega | (with_unfolding_all rfl) | fail)) only [v14_0, v14_1, v14_2, v14_5, v14_6, v14_7, v14_8, v14_9, v14_10, v14_14, v14_15, v14_18, v14_21, v14_22, v14_25, v14_27, v14_28, v14_30, v14_31, v14_32, v14_33, v14_35, v14_38, v14_39, v14_40, v14_43, v14_44, v14_45, v14_46, v14_49, v14_53, v14_57, v14_58, v14_61, v14_64, v14_65, v14_68, v14_70, v14_71, v14_73, v14_74, v14_77, v14_79, v14_80, v14_82, v14_83, v14_84, v14_85, v14_86, v14_88, v14_91, v14_92, v14_93, v14_94, v14_95, v14_96, v14_97, v14_100, v14_103, zAft_v, zAft_n, iN_add, iN_mul, iN_sub, iN_lt, iN_le, iN_eq, bI_0, bI_1, if_pos, if_neg, ifnn, Nat.reduceAdd, Nat.reduceSub, Nat.reduceMul, Nat.add_zero, Nat.zero_add, List.set_set, not_true_eq_false, not_false_eq_true, if_true, if_false, reduceCtorEq, e7]
    rw [← hv, e, List.set_set]
theorem m14b {cl : Nat → Int32} {ce cp : Nat} {ax : Int64} (hce : ce ≤ 30) (hcp : cp ≤ 30) (hax : ∀ j, j < 64 → tl ax j = decide (j < ce)) :
    ∀ (d k : Nat) (w : zW) (g : Nat → Int64) (l5 : Option Value), w.length = 29 → w[8]? = some (.inr (0, [.ref 9, .int (Int32.ofNat ce), .int (Int32.ofNat cp)])) → w[9]? = some (.inl (0, 30, .inl cl)) → (∃ th, w[10]? = some (.inr (1, [.ref 11, .ref 12, .int th]))) → w[11]? = some (.inl (1, 60, .inr (.inl g))) → k + d = cp → (∀ a j, a < ce + k → j < 64 → tl (g a) j = dir (fun p e => tb (cl p) e) ce cp a j) →
      ∃ g', (∀ a j, a < ce + cp → j < 64 → tl (g' a) j = dir (fun p e => tb (cl p) e) ce cp a j) ∧ zval E0 none 14 (55, [some (.ref 10), some (.ref 8), some (.long ax), none, some (.int (Int32.ofNat k)), l5], [], w, 0, 0) = some (.inl none, w.set 11 (.inl (1, 60, .inr (.inl g'))), 0, 0) := by
  intro d
  induction d with
  | zero =>
    intro k w g l5 hl h8 h9 h10 h11 hk hg
    obtain ⟨th, h10⟩ := h10
    obtain rfl : k = cp := hk
    refine ⟨g, hg, ?_⟩
    rw [v14_55]
    simp (disch := (first | assumption | exact hb0 | exact hb1 | exact bI_ok | exact znl_i | exact znl_r | exact znl_n | exact zw0 | exact zw1 | exact zw2 | exact zw3 | exact zw4 | exact zx0 | exact zx1 | exact zx2 | exact zx3 | ((repeat' (first | assumption | apply zset_eq | apply zset_ne | omega)); done) | ((repeat' (first | exact zscL_nil | refine zscL_i ?_ | refine zscL_n ?_ | refine zscL_r ?_ ?_ | refine zscL_l ?_ | exact zscS_nil | refine zscS_i ?_ | refine zscS_r ?_ ?_ | refine zscS_l ?_ | (simp only [List.length_set, hl]; first | omega | assumption) | omega)); done) | omega | (with_unfolding_all rfl) | fail)) only [v14_0, v14_1, v14_2, v14_5, v14_6, v14_7, v14_8, v14_9, v14_10, v14_14, v14_15, v14_18, v14_21, v14_22, v14_25, v14_27, v14_28, v14_30, v14_31, v14_32, v14_33, v14_35, v14_38, v14_39, v14_40, v14_43, v14_44, v14_45, v14_46, v14_49, v14_52, v14_53, v14_57, v14_58, v14_61, v14_64, v14_65, v14_68, v14_70, v14_71, v14_73, v14_74, v14_77, v14_79, v14_80, v14_82, v14_83, v14_84, v14_85, v14_86, v14_88, v14_91, v14_92, v14_93, v14_94, v14_95, v14_96, v14_97, v14_100, v14_103, zAft_v, zAft_n, iN_add, iN_mul, iN_sub, iN_lt, iN_le, iN_eq, bI_0, bI_1, if_pos, if_neg, ifnn, Nat.reduceAdd, Nat.reduceSub, Nat.reduceMul, Nat.add_zero, Nat.zero_add, List.set_set, not_true_eq_false, not_false_eq_true, if_true, if_false, reduceCtorEq]
    rw [zset_id h11]
  | succ d ih =>
    intro k w g l5 hl h8 h9 h10 h11 hk hg
    obtain ⟨th, h10⟩ := h10
    have e7 : zm E0 7 [.ref 8, .int (Int32.ofNat 1), .int (Int32.ofNat k)] w = some (.inl (some (.int (cl k))), w, 0, 0) := m7 (v := true) hl (by omega) h8 h9 hcp (show k < 30 by omega)
    obtain ⟨v, hv⟩ : ∃ v : Int64, v = 1 <<< ((Int32.ofNat (ce + k)).toInt64 &&& 63) ||| (ax &&& (cl k ^^^ (-1)).toInt64) := ⟨_, rfl⟩
    have hvb : ∀ j, j < 64 → tl v j = dir (fun p e => tb (cl p) e) ce cp (ce + k) j := by
      intro j hj
      rw [hv, tl_or, tl_bit (by omega) hj, tl_and, hax j hj]
      unfold dir
      rw [if_neg (show ¬ ce + k < ce by omega)]
      have c1 : decide (j = ce + k) = decide (ce + k = j) := by
        by_cases q : j = ce + k
        · subst q; rfl
        · rw [decide_eq_false q, decide_eq_false (fun z => q z.symm)]
      rw [c1]
      congr 1
      by_cases q : j < ce
      · rw [tl_ext32 (by omega), tb_xor, tb_m1 j (by omega), show ce + k - ce = k by omega]
        show (decide (j < ce) && (tb (cl k) j ^^ true)) = (decide (j < ce) && !(tb (cl k) j))
        cases tb (cl k) j <;> rfl
      · rw [decide_eq_false q]
        rfl
    obtain ⟨g', a1, e⟩ := ih (k + 1) (w.set 11 (.inl (1, 60, .inr (.inl (vp_updL g (ce + k) v))))) (vp_updL g (ce + k) v) (some (.int (Int32.ofNat (ce + k)))) (zset_len hl) (by ((repeat' (first | assumption | apply zset_eq | apply zset_ne | omega)); done)) (by ((repeat' (first | assumption | apply zset_eq | apply zset_ne | omega)); done)) ⟨th, by ((repeat' (first | assumption | apply zset_eq | apply zset_ne | omega)); done)⟩ (by ((repeat' (first | assumption | apply zset_eq | apply zset_ne | omega)); done)) (by omega) (by
      intro a j ha hj
      by_cases q : a = ce + k
      · subst q; rw [updL_self]; exact hvb j hj
      · rw [updL_ne q]; exact hg a j (by omega) hj)
    refine ⟨g', a1, ?_⟩
    rw [v14_55]
    simp (disch := (first | assumption | exact hb0 | exact hb1 | exact bI_ok | exact znl_i | exact znl_r | exact znl_n | exact zw0 | exact zw1 | exact zw2 | exact zw3 | exact zw4 | exact zx0 | exact zx1 | exact zx2 | exact zx3 | ((repeat' (first | assumption | apply zset_eq | apply zset_ne | omega)); done) | ((repeat' (first | exact zscL_nil | refine zscL_i ?_ | refine zscL_n ?_ | refine zscL_r ?_ ?_ | refine zscL_l ?_ | exact zscS_nil | refine zscS_i ?_ | refine zscS_r ?_ ?_ | refine zscS_l ?_ | (simp only [List.length_set, hl]; first | omega | assumption) | omega)); done) | omega | (with_unfolding_all rfl) | fail)) only [v14_0, v14_1, v14_2, v14_5, v14_6, v14_7, v14_8, v14_9, v14_10, v14_14, v14_15, v14_18, v14_21, v14_22, v14_25, v14_27, v14_28, v14_30, v14_31, v14_32, v14_33, v14_35, v14_38, v14_39, v14_40, v14_43, v14_44, v14_45, v14_46, v14_49, v14_52, v14_53, v14_57, v14_58, v14_61, v14_64, v14_65, v14_68, v14_70, v14_71, v14_73, v14_74, v14_77, v14_79, v14_80, v14_82, v14_83, v14_84, v14_85, v14_86, v14_88, v14_91, v14_92, v14_93, v14_94, v14_95, v14_96, v14_97, v14_100, v14_103, zAft_v, zAft_n, iN_add, iN_mul, iN_sub, iN_lt, iN_le, iN_eq, bI_0, bI_1, if_pos, if_neg, ifnn, Nat.reduceAdd, Nat.reduceSub, Nat.reduceMul, Nat.add_zero, Nat.zero_add, List.set_set, not_true_eq_false, not_false_eq_true, if_true, if_false, reduceCtorEq, e7]
    rw [← hv, e, List.set_set]
theorem m14 {w : zW} {cl : Nat → Int32} {ce cp : Nat} {g : Nat → Int64} {th : Int32} (hce : ce ≤ 30) (hcp : cp ≤ 30) (hl : w.length = 29) (h8 : w[8]? = some (.inr (0, [.ref 9, .int (Int32.ofNat ce), .int (Int32.ofNat cp)]))) (h9 : w[9]? = some (.inl (0, 30, .inl cl))) (h10 : w[10]? = some (.inr (1, [.ref 11, .ref 12, .int th]))) (h11 : w[11]? = some (.inl (1, 60, .inr (.inl g)))) :
    ∃ g', (∀ a j, a < ce + cp → j < 64 → tl (g' a) j = dir (fun p e => tb (cl p) e) ce cp a j) ∧ zm E0 14 [.ref 10, .ref 8] w = some (.inl none, w.set 11 (.inl (1, 60, .inr (.inl g'))), 0, 0) := by
  obtain ⟨ax, hax⟩ : ∃ ax : Int64, ax = (1 <<< ((Int32.ofNat ce).toInt64 &&& 63)) - 1 := ⟨_, rfl⟩
  obtain ⟨g1, a1, e1⟩ := m14a (cl := cl) (ax := ax) hce hcp ce 0 w g hl h8 h9 ⟨th, h10⟩ h11 (by omega) (fun a j ha => absurd ha (by omega))
  obtain ⟨g2, a2, e2⟩ := m14b (cl := cl) (ax := ax) hce hcp (fun j hj => by rw [hax]; exact all1 ce (by omega) j hj) cp 0 (w.set 11 (.inl (1, 60, .inr (.inl g1)))) g1 none (zset_len hl) (by ((repeat' (first | assumption | apply zset_eq | apply zset_ne | omega)); done)) (by ((repeat' (first | assumption | apply zset_eq | apply zset_ne | omega)); done)) ⟨th, by ((repeat' (first | assumption | apply zset_eq | apply zset_ne | omega)); done)⟩ (by ((repeat' (first | assumption | apply zset_eq | apply zset_ne | omega)); done)) (by omega) a1
  refine ⟨g2, a2, ?_⟩
  rw [zm14]
  simp (disch := (first | assumption | exact hb0 | exact hb1 | exact bI_ok | exact znl_i | exact znl_r | exact znl_n | exact zw0 | exact zw1 | exact zw2 | exact zw3 | exact zw4 | exact zx0 | exact zx1 | exact zx2 | exact zx3 | ((repeat' (first | assumption | apply zset_eq | apply zset_ne | omega)); done) | ((repeat' (first | exact zscL_nil | refine zscL_i ?_ | refine zscL_n ?_ | refine zscL_r ?_ ?_ | refine zscL_l ?_ | exact zscS_nil | refine zscS_i ?_ | refine zscS_r ?_ ?_ | refine zscS_l ?_ | (simp only [List.length_set, hl]; first | omega | assumption) | omega)); done) | omega | (with_unfolding_all rfl) | fail)) only [v14_0, v14_1, v14_2, v14_5, v14_6, v14_7, v14_8, v14_9, v14_10, v14_14, v14_15, v14_18, v14_21, v14_22, v14_25, v14_27, v14_28, v14_30, v14_31, v14_32, v14_33, v14_35, v14_38, v14_39, v14_40, v14_43, v14_44, v14_45, v14_46, v14_49, v14_53, v14_57, v14_58, v14_61, v14_64, v14_65, v14_68, v14_70, v14_71, v14_73, v14_74, v14_77, v14_79, v14_80, v14_82, v14_83, v14_84, v14_85, v14_86, v14_88, v14_91, v14_92, v14_93, v14_94, v14_95, v14_96, v14_97, v14_100, v14_103, zAft_v, zAft_n, iN_add, iN_mul, iN_sub, iN_lt, iN_le, iN_eq, bI_0, bI_1, if_pos, if_neg, ifnn, Nat.reduceAdd, Nat.reduceSub, Nat.reduceMul, Nat.add_zero, Nat.zero_add, List.set_set, not_true_eq_false, not_false_eq_true, if_true, if_false, reduceCtorEq]
  rw [← hax, e1]
  simp (disch := (first | assumption | exact hb0 | exact hb1 | exact bI_ok | exact znl_i | exact znl_r | exact znl_n | exact zw0 | exact zw1 | exact zw2 | exact zw3 | exact zw4 | exact zx0 | exact zx1 | exact zx2 | exact zx3 | ((repeat' (first | assumption | apply zset_eq | apply zset_ne | omega)); done) | ((repeat' (first | exact zscL_nil | refine zscL_i ?_ | refine zscL_n ?_ | refine zscL_r ?_ ?_ | refine zscL_l ?_ | exact zscS_nil | refine zscS_i ?_ | refine zscS_r ?_ ?_ | refine zscS_l ?_ | (simp only [List.length_set, hl]; first | omega | assumption) | omega)); done) | omega | (with_unfolding_all rfl) | fail)) only [v14_0, v14_1, v14_2, v14_5, v14_6, v14_7, v14_8, v14_9, v14_10, v14_14, v14_15, v14_18, v14_21, v14_22, v14_25, v14_27, v14_28, v14_30, v14_31, v14_32, v14_33, v14_35, v14_38, v14_39, v14_40, v14_43, v14_44, v14_45, v14_46, v14_49, v14_52, v14_53, v14_57, v14_58, v14_61, v14_64, v14_65, v14_68, v14_70, v14_71, v14_73, v14_74, v14_77, v14_79, v14_80, v14_82, v14_83, v14_84, v14_85, v14_86, v14_88, v14_91, v14_92, v14_93, v14_94, v14_95, v14_96, v14_97, v14_100, v14_103, zAft_v, zAft_n, iN_add, iN_mul, iN_sub, iN_lt, iN_le, iN_eq, bI_0, bI_1, if_pos, if_neg, ifnn, Nat.reduceAdd, Nat.reduceSub, Nat.reduceMul, Nat.add_zero, Nat.zero_add, List.set_set, not_true_eq_false, not_false_eq_true, if_true, if_false, reduceCtorEq]
  rw [e2, List.set_set]
theorem m16 {w : zW} {g : Nat → Int64} {T : Nat} {nu : Nat → Int32} (hT : T ≤ 60) (hr : ∀ i, i < T → tl (g i) i = true) (ht : ∀ i m j, i < T → m < T → tl (g i) m = true → tl (g m) j = true → tl (g i) j = true) (hl : w.length = 29) (h10 : w[10]? = some (.inr (1, [.ref 11, .ref 12, .int (Int32.ofNat T)]))) (h11 : w[11]? = some (.inl (1, 60, .inr (.inl g)))) (h12 : w[12]? = some (.inl (0, 60, .inl nu))) :
    ∃ nu', (∀ j, j < T → nu' j = Int32.ofNat ((lay (fun i j => tl (g i) j) T T (fun j => decide (j < T)) (fun _ => 0) 0).1 j)) ∧ zm E0 16 [.ref 10] w = some (.inl (some (.int (Int32.ofNat (lay (fun i j => tl (g i) j) T T (fun j => decide (j < T)) (fun _ => 0) 0).2))), w.set 12 (.inl (0, 60, .inl nu')), 0, 0) := by
  obtain ⟨lf, hlf⟩ : ∃ lf : Int64, lf = (1 <<< ((Int32.ofNat T).toInt64 &&& 63)) - 1 := ⟨_, rfl⟩
  have hL : tl lf = fun j => decide (j < T) := by
    funext j
    by_cases q : j < 64
    · rw [hlf]; exact all1 T (by omega) j q
    · rw [tl_ge (by omega), decide_eq_false (by omega)]
  have hc := cnt_all (tl lf) T
  obtain ⟨nu', n1, e⟩ := m16l hT hr ht T lf (fun _ => 0) 0 w nu none none none hl h10 h11 h12 (fun j hj => by rw [hL]; exact decide_eq_false (by omega)) hc (by omega) (fun j hj x => by rw [hL] at x; exact absurd hj (of_decide_eq_false x)) rfl rfl rfl
  rw [hL] at n1 e
  refine ⟨nu', n1, ?_⟩
  rw [zm16]
  simp (disch := (first | assumption | exact hb0 | exact hb1 | exact bI_ok | exact znl_i | exact znl_r | exact znl_n | exact zw0 | exact zw1 | exact zw2 | exact zw3 | exact zw4 | exact zx0 | exact zx1 | exact zx2 | exact zx3 | ((repeat' (first | assumption | apply zset_eq | apply zset_ne | omega)); done) | ((repeat' (first | exact zscL_nil | refine zscL_i ?_ | refine zscL_n ?_ | refine zscL_r ?_ ?_ | refine zscL_l ?_ | exact zscS_nil | refine zscS_i ?_ | refine zscS_r ?_ ?_ | refine zscS_l ?_ | (simp only [List.length_set, hl]; first | omega | assumption) | omega)); done) | omega | (with_unfolding_all rfl) | fail)) only [v16_0, v16_1, v16_2, v16_5, v16_6, v16_7, v16_8, v16_9, v16_10, v16_12, v16_13, v16_14, v16_17, v16_18, v16_19, v16_22, v16_25, v16_26, v16_29, v16_30, v16_31, v16_34, v16_35, v16_36, v16_37, v16_39, v16_40, v16_44, v16_45, v16_48, v16_51, v16_53, v16_55, v16_58, v16_61, v16_62, v16_65, v16_67, v16_68, v16_69, v16_72, v16_75, v16_76, v16_78, v16_81, v16_82, v16_83, v16_84, v16_87, v16_90, v16_91, zAft_v, zAft_n, iN_add, iN_mul, iN_sub, iN_lt, iN_le, iN_eq, bI_0, bI_1, if_pos, if_neg, ifnn, Nat.reduceAdd, Nat.reduceSub, Nat.reduceMul, Nat.add_zero, Nat.zero_add, List.set_set, not_true_eq_false, not_false_eq_true, if_true, if_false, reduceCtorEq]
  rw [← hlf]
  exact e
theorem dir_refl {ov : Nat → Nat → Bool} {ce cp i : Nat} : dir ov ce cp i i = true := by
  unfold dir
  rw [decide_eq_true rfl]
  rfl
theorem m13 {w : zW} {cl : Nat → Int32} {ce cp : Nat} {bl : Nat → Int64} {nu : Nat → Int32} {th : Int32} (hce : ce ≤ 30) (hcp : cp ≤ 30) (hl : w.length = 29) (h8 : w[8]? = some (.inr (0, [.ref 9, .int (Int32.ofNat ce), .int (Int32.ofNat cp)]))) (h9 : w[9]? = some (.inl (0, 30, .inl cl))) (h10 : w[10]? = some (.inr (1, [.ref 11, .ref 12, .int th]))) (h11 : w[11]? = some (.inl (1, 60, .inr (.inl bl)))) (h12 : w[12]? = some (.inl (0, 60, .inl nu))) :
    ∃ g nu', (∀ a j, a < ce + cp → j < 64 → tl (g a) j = clo (dir (fun p e => tb (cl p) e) ce cp) (ce + cp) (ce + cp) a j) ∧ (∀ j, j < ce + cp → nu' j = Int32.ofNat ((lay (fun i j => tl (g i) j) (ce + cp) (ce + cp) (fun j => decide (j < ce + cp)) (fun _ => 0) 0).1 j)) ∧ zm E0 13 [.ref 10, .ref 8] w = some (.inl (some (.int (Int32.ofNat (lay (fun i j => tl (g i) j) (ce + cp) (ce + cp) (fun j => decide (j < ce + cp)) (fun _ => 0) 0).2))), ((w.set 10 (.inr (1, [.ref 11, .ref 12, .int (Int32.ofNat (ce + cp))]))).set 11 (.inl (1, 60, .inr (.inl g)))).set 12 (.inl (0, 60, .inl nu')), 0, 0) := by
  obtain ⟨w1, hw1⟩ : ∃ w1, w1 = w.set 10 (.inr (1, [.ref 11, .ref 12, .int (Int32.ofNat (ce + cp))])) := ⟨_, rfl⟩
  have l1 : w1.length = 29 := by rw [hw1]; exact zset_len hl
  have k8 : w1[8]? = some (.inr (0, [.ref 9, .int (Int32.ofNat ce), .int (Int32.ofNat cp)])) := by rw [hw1]; ((repeat' (first | assumption | apply zset_eq | apply zset_ne | omega)); done)
  have k10 : w1[10]? = some (.inr (1, [.ref 11, .ref 12, .int (Int32.ofNat (ce + cp))])) := by rw [hw1]; ((repeat' (first | assumption | apply zset_eq | apply zset_ne | omega)); done)
  obtain ⟨g1, a1, e1⟩ := m14 (w := w1) (cl := cl) hce hcp l1 k8 (by rw [hw1]; ((repeat' (first | assumption | apply zset_eq | apply zset_ne | omega)); done)) k10 (by rw [hw1]; ((repeat' (first | assumption | apply zset_eq | apply zset_ne | omega)); done))
  obtain ⟨w2, hw2⟩ : ∃ w2, w2 = w1.set 11 (.inl (1, 60, .inr (.inl g1))) := ⟨_, rfl⟩
  rw [← hw2] at e1
  have l2 : w2.length = 29 := by rw [hw2]; exact zset_len l1
  have j10 : w2[10]? = some (.inr (1, [.ref 11, .ref 12, .int (Int32.ofNat (ce + cp))])) := by rw [hw2]; ((repeat' (first | assumption | apply zset_eq | apply zset_ne | omega)); done)
  obtain ⟨g2, a2, e2⟩ := m15 (w := w2) (T := ce + cp) (by omega) l2 j10 (by rw [hw2, hw1]; ((repeat' (first | assumption | apply zset_eq | apply zset_ne | omega)); done)) a1
  obtain ⟨w3, hw3⟩ : ∃ w3, w3 = w2.set 11 (.inl (1, 60, .inr (.inl g2))) := ⟨_, rfl⟩
  rw [← hw3] at e2
  have l3 : w3.length = 29 := by rw [hw3]; exact zset_len l2
  have i10 : w3[10]? = some (.inr (1, [.ref 11, .ref 12, .int (Int32.ofNat (ce + cp))])) := by rw [hw3]; ((repeat' (first | assumption | apply zset_eq | apply zset_ne | omega)); done)
  obtain ⟨nu', n1, e3⟩ := m16 (w := w3) (g := g2) (T := ce + cp) (nu := nu) (by omega) (fun i hi => by rw [a2 i i hi (by omega)]; exact clo_refl (fun i _ => dir_refl) _ i hi) (fun i m j hi hm x y => by
    by_cases hj : j < 64
    · rw [a2 i j hi hj]
      rw [a2 i m hi (by omega)] at x
      rw [a2 m j hm hj] at y
      exact clo_tr (ce + cp) (Nat.le_refl _) i m j hi hm hm x y
    · rw [tl_ge (by omega)] at y
      cases y) l3 i10 (by rw [hw3, hw2, hw1]; ((repeat' (first | assumption | apply zset_eq | apply zset_ne | omega)); done)) (by rw [hw3, hw2, hw1]; ((repeat' (first | assumption | apply zset_eq | apply zset_ne | omega)); done))
  refine ⟨g2, nu', a2, n1, ?_⟩
  rw [zm13]
  simp (disch := (first | assumption | exact hb0 | exact hb1 | exact bI_ok | exact znl_i | exact znl_r | exact znl_n | exact zw0 | exact zw1 | exact zw2 | exact zw3 | exact zw4 | exact zx0 | exact zx1 | exact zx2 | exact zx3 | ((repeat' (first | assumption | apply zset_eq | apply zset_ne | omega)); done) | ((repeat' (first | exact zscL_nil | refine zscL_i ?_ | refine zscL_n ?_ | refine zscL_r ?_ ?_ | refine zscL_l ?_ | exact zscS_nil | refine zscS_i ?_ | refine zscS_r ?_ ?_ | refine zscS_l ?_ | (simp only [List.length_set, hl]; first | omega | assumption) | omega)); done) | omega | (with_unfolding_all rfl) | fail)) only [v13_0, v13_1, v13_2, v13_5, v13_6, v13_9, v13_10, v13_13, v13_14, v13_15, v13_18, v13_19, v13_22, v13_23, v13_26, zAft_v, zAft_n, iN_add, iN_mul, iN_sub, iN_lt, iN_le, iN_eq, bI_0, bI_1, if_pos, if_neg, ifnn, Nat.reduceAdd, Nat.reduceSub, Nat.reduceMul, Nat.add_zero, Nat.zero_add, List.set_set, not_true_eq_false, not_false_eq_true, if_true, if_false, reduceCtorEq]
  rw [← hw1]
  have hl := l1
  simp (disch := (first | assumption | exact hb0 | exact hb1 | exact bI_ok | exact znl_i | exact znl_r | exact znl_n | exact zw0 | exact zw1 | exact zw2 | exact zw3 | exact zw4 | exact zx0 | exact zx1 | exact zx2 | exact zx3 | ((repeat' (first | assumption | apply zset_eq | apply zset_ne | omega)); done) | ((repeat' (first | exact zscL_nil | refine zscL_i ?_ | refine zscL_n ?_ | refine zscL_r ?_ ?_ | refine zscL_l ?_ | exact zscS_nil | refine zscS_i ?_ | refine zscS_r ?_ ?_ | refine zscS_l ?_ | (simp only [List.length_set, hl]; first | omega | assumption) | omega)); done) | omega | (with_unfolding_all rfl) | fail)) only [v13_0, v13_1, v13_2, v13_5, v13_6, v13_9, v13_10, v13_13, v13_14, v13_15, v13_18, v13_19, v13_22, v13_23, v13_26, zAft_v, zAft_n, iN_add, iN_mul, iN_sub, iN_lt, iN_le, iN_eq, bI_0, bI_1, if_pos, if_neg, ifnn, Nat.reduceAdd, Nat.reduceSub, Nat.reduceMul, Nat.add_zero, Nat.zero_add, List.set_set, not_true_eq_false, not_false_eq_true, if_true, if_false, reduceCtorEq, e1]
  have hl := l2
  simp (disch := (first | assumption | exact hb0 | exact hb1 | exact bI_ok | exact znl_i | exact znl_r | exact znl_n | exact zw0 | exact zw1 | exact zw2 | exact zw3 | exact zw4 | exact zx0 | exact zx1 | exact zx2 | exact zx3 | ((repeat' (first | assumption | apply zset_eq | apply zset_ne | omega)); done) | ((repeat' (first | exact zscL_nil | refine zscL_i ?_ | refine zscL_n ?_ | refine zscL_r ?_ ?_ | refine zscL_l ?_ | exact zscS_nil | refine zscS_i ?_ | refine zscS_r ?_ ?_ | refine zscS_l ?_ | (simp only [List.length_set, hl]; first | omega | assumption) | omega)); done) | omega | (with_unfolding_all rfl) | fail)) only [v13_0, v13_1, v13_2, v13_5, v13_6, v13_9, v13_10, v13_13, v13_14, v13_15, v13_18, v13_19, v13_22, v13_23, v13_26, zAft_v, zAft_n, iN_add, iN_mul, iN_sub, iN_lt, iN_le, iN_eq, bI_0, bI_1, if_pos, if_neg, ifnn, Nat.reduceAdd, Nat.reduceSub, Nat.reduceMul, Nat.add_zero, Nat.zero_add, List.set_set, not_true_eq_false, not_false_eq_true, if_true, if_false, reduceCtorEq, e2]
  have hl := l3
  simp (disch := (first | assumption | exact hb0 | exact hb1 | exact bI_ok | exact znl_i | exact znl_r | exact znl_n | exact zw0 | exact zw1 | exact zw2 | exact zw3 | exact zw4 | exact zx0 | exact zx1 | exact zx2 | exact zx3 | ((repeat' (first | assumption | apply zset_eq | apply zset_ne | omega)); done) | ((repeat' (first | exact zscL_nil | refine zscL_i ?_ | refine zscL_n ?_ | refine zscL_r ?_ ?_ | refine zscL_l ?_ | exact zscS_nil | refine zscS_i ?_ | refine zscS_r ?_ ?_ | refine zscS_l ?_ | (simp only [List.length_set, hl]; first | omega | assumption) | omega)); done) | omega | (with_unfolding_all rfl) | fail)) only [v13_0, v13_1, v13_2, v13_5, v13_6, v13_9, v13_10, v13_13, v13_14, v13_15, v13_18, v13_19, v13_22, v13_23, v13_26, zAft_v, zAft_n, iN_add, iN_mul, iN_sub, iN_lt, iN_le, iN_eq, bI_0, bI_1, if_pos, if_neg, ifnn, Nat.reduceAdd, Nat.reduceSub, Nat.reduceMul, Nat.add_zero, Nat.zero_add, List.set_set, not_true_eq_false, not_false_eq_true, if_true, if_false, reduceCtorEq, e3]
  rw [hw3, hw2, hw1, List.set_set]
end pile
