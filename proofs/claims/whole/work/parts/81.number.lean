/-! The reference's number, layers, layer. -/
section num
variable {rt ry : Int32} {re rp rw rwd rhi : Nat}
theorem r78 {w : zW} {a b : Nat} {rab : Nat → Bool} (h19 : w[19]? = some (.inr (4, [.int rt, .ref 20, .int (Int32.ofNat re), .int (Int32.ofNat rp), .int (Int32.ofNat rw), .ref 21, .ref 22, .ref 23, .ref 24, .ref 25, .int ry, .int (Int32.ofNat rwd), .int (Int32.ofNat rhi), .ref 26, .ref 27]))) (h24 : w[24]? = some (.inl (2, 3600, .inl fun i => bI (rab i)))) (ha : a < 60) (hb : b < 60) : zm E0 78 [.ref 19, .int (Int32.ofNat a), .int (Int32.ofNat b)] w = some (.inl (some (.int (bI (rab (60 * a + b) && rab (60 * b + a))))), w, 0, 0) := by
  rw [zm78]
  cases x : rab (60 * a + b) <;> cases y : rab (60 * b + a) <;> simp (disch := (first | assumption | exact hb0 | exact hb1 | exact bI_ok | exact znl_i | exact znl_r | exact znl_n | exact zw0 | exact zw1 | exact zw2 | exact zw3 | exact zw4 | exact zx0 | exact zx1 | exact zx2 | exact zx3 | ((repeat' (first | assumption | apply zset_eq | apply zset_ne | omega)); done) | omega | (with_unfolding_all rfl) | fail)) only [v78_0, v78_1, v78_4, v78_6, v78_7, v78_8, v78_9, v78_10, v78_11, v78_14, v78_15, v78_18, v78_20, v78_21, v78_22, v78_23, v78_24, v78_25, v78_28, v78_29, v78_32, v78_33, zAft_v, zAft_n, iN_add, iN_mul, iN_sub, iN_lt, iN_le, iN_eq, bI_0, bI_1, if_pos, if_neg, ifnn, Nat.reduceAdd, Nat.reduceSub, Nat.reduceMul, Nat.add_zero, Nat.zero_add, List.set_set, not_true_eq_false, not_false_eq_true, if_true, if_false, reduceCtorEq, x, y, Bool.and_self, Bool.and_true, Bool.and_false, Bool.true_eq_false, bI_t, bI_f]
theorem r79l {w : zW} {a T : Nat} {rab : Nat → Bool} {rla : Nat → Int32} {L : Nat → Bool} {A : Rel2} (h19 : w[19]? = some (.inr (4, [.int rt, .ref 20, .int (Int32.ofNat re), .int (Int32.ofNat rp), .int (Int32.ofNat rw), .ref 21, .ref 22, .ref 23, .ref 24, .ref 25, .int ry, .int (Int32.ofNat rwd), .int (Int32.ofNat rhi), .ref 26, .ref 27]))) (h24 : w[24]? = some (.inl (2, 3600, .inl fun i => bI (rab i)))) (h25 : w[25]? = some (.inl (0, 60, .inl rla))) (hT : T ≤ 60) (ha : a < T) (hA : ∀ i j, i < T → j < T → rab (60 * i + j) = A i j) (hL : ∀ j, j < T → (rla j < Int32.ofNat 0 ↔ L j = true)) :
    ∀ (d k : Nat), k + d = T → zval E0 none 79 (2, [some (.ref 19), some (.int (Int32.ofNat a)), some (.int (Int32.ofNat T)), some (.int (Int32.ofNat k))], [], w, 0, 0) = some (.inl (some (.int (bI (al (fun j => !(L j && A a j && !(A j a))) d k)))), w, 0, 0) := by
  intro d
  induction d with
  | zero =>
    intro k hk
    rw [v79_2]
    simp (disch := (first | assumption | exact hb0 | exact hb1 | exact bI_ok | exact znl_i | exact znl_r | exact znl_n | exact zw0 | exact zw1 | exact zw2 | exact zw3 | exact zw4 | exact zx0 | exact zx1 | exact zx2 | exact zx3 | ((repeat' (first | assumption | apply zset_eq | apply zset_ne | omega)); done) | omega | (with_unfolding_all rfl) | fail)) only [v79_0, v79_1, v79_3, v79_4, v79_7, v79_8, v79_11, v79_12, v79_13, v79_16, v79_17, v79_20, v79_22, v79_23, v79_24, v79_25, v79_26, v79_27, v79_30, v79_31, v79_34, v79_36, v79_37, v79_38, v79_39, v79_40, v79_41, v79_44, v79_45, v79_46, v79_49, v79_52, v79_53, zAft_v, zAft_n, iN_add, iN_mul, iN_sub, iN_lt, iN_le, iN_eq, bI_0, bI_1, if_pos, if_neg, ifnn, Nat.reduceAdd, Nat.reduceSub, Nat.reduceMul, Nat.add_zero, Nat.zero_add, List.set_set, not_true_eq_false, not_false_eq_true, if_true, if_false, reduceCtorEq]
    try rfl
  | succ d ih =>
    intro k hk
    have e3 := ih (k + 1) (by omega)
    have x1 := hA a k ha (by omega)
    have x2 := hA k a (by omega) ha
    have x3 := hL k (by omega)
    rw [v79_2, al]
    cases y3 : L k
    · have z3 : Int32.ofNat 0 ≤ rla k := Int32.not_lt.mp (fun q => by rw [x3.mp q] at y3; cases y3)
      simp (disch := (first | assumption | exact hb0 | exact hb1 | exact bI_ok | exact znl_i | exact znl_r | exact znl_n | exact zw0 | exact zw1 | exact zw2 | exact zw3 | exact zw4 | exact zx0 | exact zx1 | exact zx2 | exact zx3 | ((repeat' (first | assumption | apply zset_eq | apply zset_ne | omega)); done) | omega | (with_unfolding_all rfl) | fail)) only [v79_0, v79_1, v79_3, v79_4, v79_7, v79_8, v79_11, v79_12, v79_13, v79_16, v79_17, v79_20, v79_22, v79_23, v79_24, v79_25, v79_26, v79_27, v79_30, v79_31, v79_34, v79_36, v79_37, v79_38, v79_39, v79_40, v79_41, v79_44, v79_45, v79_46, v79_49, v79_52, v79_53, zAft_v, zAft_n, iN_add, iN_mul, iN_sub, iN_lt, iN_le, iN_eq, bI_0, bI_1, if_pos, if_neg, ifnn, Nat.reduceAdd, Nat.reduceSub, Nat.reduceMul, Nat.add_zero, Nat.zero_add, List.set_set, not_true_eq_false, not_false_eq_true, if_true, if_false, reduceCtorEq]
      exact e3
    · have z3 : ¬ Int32.ofNat 0 ≤ rla k := Int32.not_le.mpr (x3.mpr y3)
      cases y1 : A a k <;> cases y2 : A k a <;> rw [y1] at x1 <;> rw [y2] at x2 <;> simp (disch := (first | assumption | exact hb0 | exact hb1 | exact bI_ok | exact znl_i | exact znl_r | exact znl_n | exact zw0 | exact zw1 | exact zw2 | exact zw3 | exact zw4 | exact zx0 | exact zx1 | exact zx2 | exact zx3 | ((repeat' (first | assumption | apply zset_eq | apply zset_ne | omega)); done) | omega | (with_unfolding_all rfl) | fail)) only [v79_0, v79_1, v79_3, v79_4, v79_7, v79_8, v79_11, v79_12, v79_13, v79_16, v79_17, v79_20, v79_22, v79_23, v79_24, v79_25, v79_26, v79_27, v79_30, v79_31, v79_34, v79_36, v79_37, v79_38, v79_39, v79_40, v79_41, v79_44, v79_45, v79_46, v79_49, v79_52, v79_53, zAft_v, zAft_n, iN_add, iN_mul, iN_sub, iN_lt, iN_le, iN_eq, bI_0, bI_1, if_pos, if_neg, ifnn, Nat.reduceAdd, Nat.reduceSub, Nat.reduceMul, Nat.add_zero, Nat.zero_add, List.set_set, not_true_eq_false, not_false_eq_true, if_true, if_false, reduceCtorEq, x1, x2, Bool.and_false, Bool.and_true, Bool.false_and, Bool.true_and, Bool.not_true, Bool.not_false, bI_f, Bool.true_eq_false] <;> first | exact e3 | rfl
theorem r79 {w : zW} {a T : Nat} {rab : Nat → Bool} {rla : Nat → Int32} {L : Nat → Bool} {A : Rel2} (h19 : w[19]? = some (.inr (4, [.int rt, .ref 20, .int (Int32.ofNat re), .int (Int32.ofNat rp), .int (Int32.ofNat rw), .ref 21, .ref 22, .ref 23, .ref 24, .ref 25, .int ry, .int (Int32.ofNat rwd), .int (Int32.ofNat rhi), .ref 26, .ref 27]))) (h24 : w[24]? = some (.inl (2, 3600, .inl fun i => bI (rab i)))) (h25 : w[25]? = some (.inl (0, 60, .inl rla))) (hT : T ≤ 60) (ha : a < T) (hA : ∀ i j, i < T → j < T → rab (60 * i + j) = A i j) (hL : ∀ j, j < T → (rla j < Int32.ofNat 0 ↔ L j = true)) :
    zm E0 79 [.ref 19, .int (Int32.ofNat a), .int (Int32.ofNat T)] w = some (.inl (some (.int (bI (al (fun j => !(L j && A a j && !(A j a))) T 0)))), w, 0, 0) := by
  rw [zm79]
  simp (disch := (first | assumption | exact hb0 | exact hb1 | exact bI_ok | exact znl_i | exact znl_r | exact znl_n | exact zw0 | exact zw1 | exact zw2 | exact zw3 | exact zw4 | exact zx0 | exact zx1 | exact zx2 | exact zx3 | ((repeat' (first | assumption | apply zset_eq | apply zset_ne | omega)); done) | omega | (with_unfolding_all rfl) | fail)) only [v79_0, v79_1, v79_3, v79_4, v79_7, v79_8, v79_11, v79_12, v79_13, v79_16, v79_17, v79_20, v79_22, v79_23, v79_24, v79_25, v79_26, v79_27, v79_30, v79_31, v79_34, v79_36, v79_37, v79_38, v79_39, v79_40, v79_41, v79_44, v79_45, v79_46, v79_49, v79_52, v79_53, zAft_v, zAft_n, iN_add, iN_mul, iN_sub, iN_lt, iN_le, iN_eq, bI_0, bI_1, if_pos, if_neg, ifnn, Nat.reduceAdd, Nat.reduceSub, Nat.reduceMul, Nat.add_zero, Nat.zero_add, List.set_set, not_true_eq_false, not_false_eq_true, if_true, if_false, reduceCtorEq]
  exact r79l h19 h24 h25 hT ha hA hL T 0 (by omega)
theorem r80a {T : Nat} {l3 : Option Value} (hT : T ≤ 60) :
    ∀ (d k : Nat) (w : zW) (f : Nat → Int32), w[19]? = some (.inr (4, [.int rt, .ref 20, .int (Int32.ofNat re), .int (Int32.ofNat rp), .int (Int32.ofNat rw), .ref 21, .ref 22, .ref 23, .ref 24, .ref 25, .int ry, .int (Int32.ofNat rwd), .int (Int32.ofNat rhi), .ref 26, .ref 27])) → w[25]? = some (.inl (0, 60, .inl f)) → k + d = T → (∀ i, i < k → f i = -1) → ∃ g : Nat → Int32, (∀ i, i < T → g i = -1) ∧ zval E0 none 80 (16, [some (.ref 19), some (.int (Int32.ofNat T)), some (.int (Int32.ofNat k)), l3], [], w, 0, 0) = zval E0 none 80 (34, [some (.ref 19), some (.int (Int32.ofNat T)), some (.int (Int32.ofNat T)), l3], [], w.set 25 (.inl (0, 60, .inl g)), 0, 0) := by
  intro d
  induction d with
  | zero =>
    intro k w f h19 h25 hk hf
    obtain rfl : k = T := hk
    refine ⟨f, hf, ?_⟩
    rw [v80_16]
    simp (disch := (first | assumption | exact hb0 | exact hb1 | exact bI_ok | exact znl_i | exact znl_r | exact znl_n | exact zw0 | exact zw1 | exact zw2 | exact zw3 | exact zw4 | exact zx0 | exact zx1 | exact zx2 | exact zx3 | ((repeat' (first | assumption | apply zset_eq | apply zset_ne | omega)); done) | omega | (with_unfolding_all rfl) | fail)) only [v80_0, v80_1, v80_4, v80_5, v80_8, v80_9, v80_10, v80_11, v80_14, v80_15, v80_17, v80_18, v80_21, v80_22, v80_25, v80_26, v80_27, v80_28, v80_31, v80_35, v80_36, v80_39, v80_40, v80_42, v80_45, v80_46, v80_47, v80_48, v80_49, v80_50, v80_52, v80_55, v80_56, v80_59, v80_60, v80_61, v80_64, v80_65, v80_66, v80_67, v80_70, v80_73, v80_74, v80_77, v80_78, v80_79, v80_82, v80_85, v80_86, v80_89, v80_92, v80_93, v80_95, v80_96, v80_99, v80_100, v80_103, v80_104, v80_105, v80_108, v80_109, v80_110, v80_113, v80_114, v80_115, v80_116, v80_119, v80_122, v80_123, v80_126, v80_129, v80_130, v80_133, v80_134, v80_135, v80_136, v80_139, v80_142, v80_143i, v80_143r, v80_144, v80_147, v80_148, v80_149, v80_152, v80_155, zAft_v, zAft_n, iN_add, iN_mul, iN_sub, iN_lt, iN_le, iN_eq, bI_0, bI_1, if_pos, if_neg, ifnn, Nat.reduceAdd, Nat.reduceSub, Nat.reduceMul, Nat.add_zero, Nat.zero_add, List.set_set, not_true_eq_false, not_false_eq_true, if_true, if_false, reduceCtorEq]
    rw [zset_id h25]
  | succ d ih =>
    intro k w f h19 h25 hk hf
    obtain ⟨g, g1, e⟩ := ih (k + 1) (w.set 25 (.inl (0, 60, .inl (upd f k (-1))))) (upd f k (-1)) (by ((repeat' (first | assumption | apply zset_eq | apply zset_ne | omega)); done)) (by ((repeat' (first | assumption | apply zset_eq | apply zset_ne | omega)); done)) (by omega) (fun i hi => by
      by_cases q : i = k
      · subst q; rw [upd_self]
      · rw [upd_ne q]; exact hf i (by omega))
    refine ⟨g, g1, ?_⟩
    rw [v80_16]
    simp (disch := (first | assumption | exact hb0 | exact hb1 | exact bI_ok | exact znl_i | exact znl_r | exact znl_n | exact zw0 | exact zw1 | exact zw2 | exact zw3 | exact zw4 | exact zx0 | exact zx1 | exact zx2 | exact zx3 | ((repeat' (first | assumption | apply zset_eq | apply zset_ne | omega)); done) | omega | (with_unfolding_all rfl) | fail)) only [v80_0, v80_1, v80_4, v80_5, v80_8, v80_9, v80_10, v80_11, v80_14, v80_15, v80_17, v80_18, v80_21, v80_22, v80_25, v80_26, v80_27, v80_28, v80_31, v80_35, v80_36, v80_39, v80_40, v80_42, v80_45, v80_46, v80_47, v80_48, v80_49, v80_50, v80_52, v80_55, v80_56, v80_59, v80_60, v80_61, v80_64, v80_65, v80_66, v80_67, v80_70, v80_73, v80_74, v80_77, v80_78, v80_79, v80_82, v80_85, v80_86, v80_89, v80_92, v80_93, v80_95, v80_96, v80_99, v80_100, v80_103, v80_104, v80_105, v80_108, v80_109, v80_110, v80_113, v80_114, v80_115, v80_116, v80_119, v80_122, v80_123, v80_126, v80_129, v80_130, v80_133, v80_134, v80_135, v80_136, v80_139, v80_142, v80_143i, v80_143r, v80_144, v80_147, v80_148, v80_149, v80_152, v80_155, zAft_v, zAft_n, iN_add, iN_mul, iN_sub, iN_lt, iN_le, iN_eq, bI_0, bI_1, if_pos, if_neg, ifnn, Nat.reduceAdd, Nat.reduceSub, Nat.reduceMul, Nat.add_zero, Nat.zero_add, List.set_set, not_true_eq_false, not_false_eq_true, if_true, if_false, reduceCtorEq]
    rw [e, List.set_set]
theorem r80b {w : zW} {T : Nat} {rab : Nat → Bool} {rla : Nat → Int32} {L : Nat → Bool} {A : Rel2} (hl : w.length = 29) (h19 : w[19]? = some (.inr (4, [.int rt, .ref 20, .int (Int32.ofNat re), .int (Int32.ofNat rp), .int (Int32.ofNat rw), .ref 21, .ref 22, .ref 23, .ref 24, .ref 25, .int ry, .int (Int32.ofNat rwd), .int (Int32.ofNat rhi), .ref 26, .ref 27]))) (h24 : w[24]? = some (.inl (2, 3600, .inl fun i => bI (rab i)))) (h25 : w[25]? = some (.inl (0, 60, .inl rla))) (hT : T ≤ 60) (hA : ∀ i j, i < T → j < T → rab (60 * i + j) = A i j) (hL : ∀ j, j < T → (rla j < Int32.ofNat 0 ↔ L j = true)) :
    ∀ (j : Nat) (nx : Int32), j ≤ T → zval E0 none 80 (51, [some (.ref 19), some (.int (Int32.ofNat T)), some (.int nx), some (.int (pr j))], [], w, 0, 0) = zval E0 none 80 (85, [some (.ref 19), some (.int (Int32.ofNat T)), some (.int (if fst (fre A T L) j 0 < j then Int32.ofNat (fst (fre A T L) j 0) else nx)), some (.int (-1))], [], w, 0, 0) := by
  intro j
  induction j with
  | zero =>
    intro nx _
    have q : (-1 : Int32) < Int32.ofNat 0 := by decide
    rw [v80_51, show pr 0 = -1 from rfl, if_neg (by omega)]
    simp (disch := (first | assumption | exact hb0 | exact hb1 | exact bI_ok | exact znl_i | exact znl_r | exact znl_n | exact zw0 | exact zw1 | exact zw2 | exact zw3 | exact zw4 | exact zx0 | exact zx1 | exact zx2 | exact zx3 | ((repeat' (first | assumption | apply zset_eq | apply zset_ne | omega)); done) | ((repeat' (first | exact zscL_nil | refine zscL_i ?_ | refine zscL_n ?_ | refine zscL_r ?_ ?_ | refine zscL_l ?_ | exact zscS_nil | refine zscS_i ?_ | refine zscS_r ?_ ?_ | refine zscS_l ?_ | (simp only [List.length_set, hl]; first | omega | assumption) | omega)); done) | omega | (with_unfolding_all rfl) | fail)) only [v80_0, v80_1, v80_4, v80_5, v80_8, v80_9, v80_10, v80_11, v80_14, v80_15, v80_17, v80_18, v80_21, v80_22, v80_25, v80_26, v80_27, v80_28, v80_31, v80_34, v80_35, v80_36, v80_39, v80_40, v80_42, v80_45, v80_46, v80_47, v80_48, v80_49, v80_50, v80_52, v80_55, v80_56, v80_59, v80_60, v80_61, v80_64, v80_65, v80_66, v80_67, v80_70, v80_73, v80_74, v80_77, v80_78, v80_79, v80_82, v80_86, v80_89, v80_92, v80_93, v80_95, v80_96, v80_99, v80_100, v80_103, v80_104, v80_105, v80_108, v80_109, v80_110, v80_113, v80_114, v80_115, v80_116, v80_119, v80_122, v80_123, v80_126, v80_129, v80_130, v80_133, v80_134, v80_135, v80_136, v80_139, v80_142, v80_143i, v80_143r, v80_144, v80_147, v80_148, v80_149, v80_152, v80_155, zAft_v, zAft_n, iN_add, iN_mul, iN_sub, iN_lt, iN_le, iN_eq, bI_0, bI_1, if_pos, if_neg, ifnn, Nat.reduceAdd, Nat.reduceSub, Nat.reduceMul, Nat.add_zero, Nat.zero_add, List.set_set, not_true_eq_false, not_false_eq_true, if_true, if_false, reduceCtorEq]
  | succ j ih =>
    intro nx hj
    have hF := fst_le (P := fre A T L) j 0
    have e79 := r79 (a := j) (L := L) (A := A) h19 h24 h25 hT (by omega) hA hL
    have x3 := hL j (by omega)
    have ef : fre A T L j = (L j && al (fun i => !(L i && A j i && !(A i j))) T 0) := rfl
    rw [v80_51, pr_s, fst_snoc, Nat.zero_add]
    generalize al (fun i => !(L i && A j i && !(A i j))) T 0 = z at *
    have e0 := ih nx (by omega)
    have e1 := ih (Int32.ofNat j) (by omega)
    generalize fst (fre A T L) j 0 = F at *
    have c0 : (if (if F < j then F else if fre A T L j = true then j else j + 1) < j + 1 then Int32.ofNat (if F < j then F else if fre A T L j = true then j else j + 1) else nx) = if F < j then Int32.ofNat F else if fre A T L j = true then Int32.ofNat j else nx := by
      by_cases q : F < j
      · rw [if_pos q, if_pos q, if_pos (by omega)]
      · rw [if_neg q, if_neg q]
        by_cases r : fre A T L j = true
        · rw [if_pos r, if_pos r, if_pos (by omega)]
        · rw [if_neg r, if_neg r, if_neg (by omega)]
    rw [c0, ef]
    cases y : L j
    · have z3 : Int32.ofNat 0 ≤ rla j := Int32.not_lt.mp (fun q => by rw [x3.mp q] at y; cases y)
      rw [Bool.false_and]
      simp (disch := (first | assumption | exact hb0 | exact hb1 | exact bI_ok | exact znl_i | exact znl_r | exact znl_n | exact zw0 | exact zw1 | exact zw2 | exact zw3 | exact zw4 | exact zx0 | exact zx1 | exact zx2 | exact zx3 | ((repeat' (first | assumption | apply zset_eq | apply zset_ne | omega)); done) | ((repeat' (first | exact zscL_nil | refine zscL_i ?_ | refine zscL_n ?_ | refine zscL_r ?_ ?_ | refine zscL_l ?_ | exact zscS_nil | refine zscS_i ?_ | refine zscS_r ?_ ?_ | refine zscS_l ?_ | (simp only [List.length_set, hl]; first | omega | assumption) | omega)); done) | omega | (with_unfolding_all rfl) | fail)) only [v80_0, v80_1, v80_4, v80_5, v80_8, v80_9, v80_10, v80_11, v80_14, v80_15, v80_17, v80_18, v80_21, v80_22, v80_25, v80_26, v80_27, v80_28, v80_31, v80_34, v80_35, v80_36, v80_39, v80_40, v80_42, v80_45, v80_46, v80_47, v80_48, v80_49, v80_50, v80_52, v80_55, v80_56, v80_59, v80_60, v80_61, v80_64, v80_65, v80_66, v80_67, v80_70, v80_73, v80_74, v80_77, v80_78, v80_79, v80_82, v80_86, v80_89, v80_92, v80_93, v80_95, v80_96, v80_99, v80_100, v80_103, v80_104, v80_105, v80_108, v80_109, v80_110, v80_113, v80_114, v80_115, v80_116, v80_119, v80_122, v80_123, v80_126, v80_129, v80_130, v80_133, v80_134, v80_135, v80_136, v80_139, v80_142, v80_143i, v80_143r, v80_144, v80_147, v80_148, v80_149, v80_152, v80_155, zAft_v, zAft_n, iN_add, iN_mul, iN_sub, iN_lt, iN_le, iN_eq, bI_0, bI_1, if_pos, if_neg, ifnn, Nat.reduceAdd, Nat.reduceSub, Nat.reduceMul, Nat.add_zero, Nat.zero_add, List.set_set, not_true_eq_false, not_false_eq_true, if_true, if_false, reduceCtorEq, pr_d, Bool.false_eq_true]
      exact e0
    · have z3 : ¬ Int32.ofNat 0 ≤ rla j := Int32.not_le.mpr (x3.mpr y)
      cases z
      · rw [Bool.true_and]
        simp (disch := (first | assumption | exact hb0 | exact hb1 | exact bI_ok | exact znl_i | exact znl_r | exact znl_n | exact zw0 | exact zw1 | exact zw2 | exact zw3 | exact zw4 | exact zx0 | exact zx1 | exact zx2 | exact zx3 | ((repeat' (first | assumption | apply zset_eq | apply zset_ne | omega)); done) | ((repeat' (first | exact zscL_nil | refine zscL_i ?_ | refine zscL_n ?_ | refine zscL_r ?_ ?_ | refine zscL_l ?_ | exact zscS_nil | refine zscS_i ?_ | refine zscS_r ?_ ?_ | refine zscS_l ?_ | (simp only [List.length_set, hl]; first | omega | assumption) | omega)); done) | omega | (with_unfolding_all rfl) | fail)) only [v80_0, v80_1, v80_4, v80_5, v80_8, v80_9, v80_10, v80_11, v80_14, v80_15, v80_17, v80_18, v80_21, v80_22, v80_25, v80_26, v80_27, v80_28, v80_31, v80_34, v80_35, v80_36, v80_39, v80_40, v80_42, v80_45, v80_46, v80_47, v80_48, v80_49, v80_50, v80_52, v80_55, v80_56, v80_59, v80_60, v80_61, v80_64, v80_65, v80_66, v80_67, v80_70, v80_73, v80_74, v80_77, v80_78, v80_79, v80_82, v80_86, v80_89, v80_92, v80_93, v80_95, v80_96, v80_99, v80_100, v80_103, v80_104, v80_105, v80_108, v80_109, v80_110, v80_113, v80_114, v80_115, v80_116, v80_119, v80_122, v80_123, v80_126, v80_129, v80_130, v80_133, v80_134, v80_135, v80_136, v80_139, v80_142, v80_143i, v80_143r, v80_144, v80_147, v80_148, v80_149, v80_152, v80_155, zAft_v, zAft_n, iN_add, iN_mul, iN_sub, iN_lt, iN_le, iN_eq, bI_0, bI_1, if_pos, if_neg, ifnn, Nat.reduceAdd, Nat.reduceSub, Nat.reduceMul, Nat.add_zero, Nat.zero_add, List.set_set, not_true_eq_false, not_false_eq_true, if_true, if_false, reduceCtorEq, e79, pr_d, Bool.false_eq_true]
        exact e0
      · rw [Bool.true_and]
        simp (disch := (first | assumption | exact hb0 | exact hb1 | exact bI_ok | exact znl_i | exact znl_r | exact znl_n | exact zw0 | exact zw1 | exact zw2 | exact zw3 | exact zw4 | exact zx0 | exact zx1 | exact zx2 | exact zx3 | ((repeat' (first | assumption | apply zset_eq | apply zset_ne | omega)); done) | ((repeat' (first | exact zscL_nil | refine zscL_i ?_ | refine zscL_n ?_ | refine zscL_r ?_ ?_ | refine zscL_l ?_ | exact zscS_nil | refine zscS_i ?_ | refine zscS_r ?_ ?_ | refine zscS_l ?_ | (simp only [List.length_set, hl]; first | omega | assumption) | omega)); done) | omega | (with_unfolding_all rfl) | fail)) only [v80_0, v80_1, v80_4, v80_5, v80_8, v80_9, v80_10, v80_11, v80_14, v80_15, v80_17, v80_18, v80_21, v80_22, v80_25, v80_26, v80_27, v80_28, v80_31, v80_34, v80_35, v80_36, v80_39, v80_40, v80_42, v80_45, v80_46, v80_47, v80_48, v80_49, v80_50, v80_52, v80_55, v80_56, v80_59, v80_60, v80_61, v80_64, v80_65, v80_66, v80_67, v80_70, v80_73, v80_74, v80_77, v80_78, v80_79, v80_82, v80_86, v80_89, v80_92, v80_93, v80_95, v80_96, v80_99, v80_100, v80_103, v80_104, v80_105, v80_108, v80_109, v80_110, v80_113, v80_114, v80_115, v80_116, v80_119, v80_122, v80_123, v80_126, v80_129, v80_130, v80_133, v80_134, v80_135, v80_136, v80_139, v80_142, v80_143i, v80_143r, v80_144, v80_147, v80_148, v80_149, v80_152, v80_155, zAft_v, zAft_n, iN_add, iN_mul, iN_sub, iN_lt, iN_le, iN_eq, bI_0, bI_1, if_pos, if_neg, ifnn, Nat.reduceAdd, Nat.reduceSub, Nat.reduceMul, Nat.add_zero, Nat.zero_add, List.set_set, not_true_eq_false, not_false_eq_true, if_true, if_false, reduceCtorEq, e79, pr_d, Bool.true_eq_false]
        exact e1
theorem r80c {T i0 : Nat} {rab : Nat → Bool} {c : Nat} {L : Nat → Bool} {A : Rel2} (hT : T ≤ 60) (hi0 : i0 < T) (hA : ∀ i j, i < T → j < T → rab (60 * i + j) = A i j) (hfr : ∀ j, j < T → L j = true → A i0 j = true → A j i0 = true) :
    ∀ (d k : Nat) (w : zW) (f : Nat → Int32), w.length = 29 → w[19]? = some (.inr (4, [.int rt, .ref 20, .int (Int32.ofNat re), .int (Int32.ofNat rp), .int (Int32.ofNat rw), .ref 21, .ref 22, .ref 23, .ref 24, .ref 25, .int (Int32.ofNat c), .int (Int32.ofNat rwd), .int (Int32.ofNat rhi), .ref 26, .ref 27])) → w[24]? = some (.inl (2, 3600, .inl fun i => bI (rab i))) → w[25]? = some (.inl (0, 60, .inl f)) → k + d = T → (∀ j, j < T → k ≤ j → (f j < Int32.ofNat 0 ↔ L j = true)) →
      ∃ g : Nat → Int32, (∀ j, j < k → g j = f j) ∧ (∀ j, k ≤ j → j < T → g j = if (L j && A i0 j) = true then Int32.ofNat c else f j) ∧ zval E0 none 80 (94, [some (.ref 19), some (.int (Int32.ofNat T)), some (.int (Int32.ofNat i0)), some (.int (Int32.ofNat k))], [], w, 0, 0) = zval E0 none 80 (142, [some (.ref 19), some (.int (Int32.ofNat T)), some (.int (Int32.ofNat i0)), some (.int (Int32.ofNat T))], [], w.set 25 (.inl (0, 60, .inl g)), 0, 0) := by
  intro d
  induction d with
  | zero =>
    intro k w f hl h19 h24 h25 hk hf
    obtain rfl : k = T := hk
    refine ⟨f, fun _ _ => rfl, fun j h1 h2 => by omega, ?_⟩
    rw [v80_94]
    simp (disch := (first | assumption | exact hb0 | exact hb1 | exact bI_ok | exact znl_i | exact znl_r | exact znl_n | exact zw0 | exact zw1 | exact zw2 | exact zw3 | exact zw4 | exact zx0 | exact zx1 | exact zx2 | exact zx3 | ((repeat' (first | assumption | apply zset_eq | apply zset_ne | omega)); done) | ((repeat' (first | exact zscL_nil | refine zscL_i ?_ | refine zscL_n ?_ | refine zscL_r ?_ ?_ | refine zscL_l ?_ | exact zscS_nil | refine zscS_i ?_ | refine zscS_r ?_ ?_ | refine zscS_l ?_ | (simp only [List.length_set, hl]; first | omega | assumption) | omega)); done) | omega | (with_unfolding_all rfl) | fail)) only [v80_0, v80_1, v80_4, v80_5, v80_8, v80_9, v80_10, v80_11, v80_14, v80_15, v80_17, v80_18, v80_21, v80_22, v80_25, v80_26, v80_27, v80_28, v80_31, v80_34, v80_35, v80_36, v80_39, v80_40, v80_42, v80_45, v80_46, v80_47, v80_48, v80_49, v80_50, v80_52, v80_55, v80_56, v80_59, v80_60, v80_61, v80_64, v80_65, v80_66, v80_67, v80_70, v80_73, v80_74, v80_77, v80_78, v80_79, v80_82, v80_85, v80_86, v80_89, v80_92, v80_93, v80_95, v80_96, v80_99, v80_100, v80_103, v80_104, v80_105, v80_108, v80_109, v80_110, v80_113, v80_114, v80_115, v80_116, v80_119, v80_122, v80_123, v80_126, v80_129, v80_130, v80_133, v80_134, v80_135, v80_136, v80_139, v80_143i, v80_143r, v80_144, v80_147, v80_148, v80_149, v80_152, v80_155, zAft_v, zAft_n, iN_add, iN_mul, iN_sub, iN_lt, iN_le, iN_eq, bI_0, bI_1, if_pos, if_neg, ifnn, Nat.reduceAdd, Nat.reduceSub, Nat.reduceMul, Nat.add_zero, Nat.zero_add, List.set_set, not_true_eq_false, not_false_eq_true, if_true, if_false, reduceCtorEq]
    rw [zset_id h25]
  | succ d ih =>
    intro k w f hl h19 h24 h25 hk hf
    have e78 := r78 (a := i0) (b := k) h19 h24 (by omega) (by omega)
    rw [hA i0 k hi0 (by omega), hA k i0 (by omega) hi0] at e78
    have x3 := hf k (by omega) (Nat.le_refl _)
    obtain ⟨x, hx⟩ : ∃ x, x = if (L k && A i0 k) = true then Int32.ofNat c else f k := ⟨_, rfl⟩
    obtain ⟨g, g1, g2, e⟩ := ih (k + 1) (w.set 25 (.inl (0, 60, .inl (upd f k x)))) (upd f k x) (zset_len hl) (by ((repeat' (first | assumption | apply zset_eq | apply zset_ne | omega)); done)) (by ((repeat' (first | assumption | apply zset_eq | apply zset_ne | omega)); done)) (by ((repeat' (first | assumption | apply zset_eq | apply zset_ne | omega)); done)) (by omega) (fun j hj h => by rw [upd_ne (by omega)]; exact hf j hj (by omega))
    refine ⟨g, ?_, ?_, ?_⟩
    · intro j hj; rw [g1 j (by omega), upd_ne (by omega)]
    · intro j h1 h2
      by_cases q : j = k
      · subst q; rw [g1 j (by omega), upd_self, hx]
      · rw [g2 j (by omega) h2, upd_ne q]
    · rw [v80_94]
      cases y : L k
      · have z3 : Int32.ofNat 0 ≤ f k := Int32.not_lt.mp (fun q => by rw [x3.mp q] at y; cases y)
        rw [y, Bool.false_and, if_neg (by decide)] at hx
        simp (disch := (first | assumption | exact hb0 | exact hb1 | exact bI_ok | exact znl_i | exact znl_r | exact znl_n | exact zw0 | exact zw1 | exact zw2 | exact zw3 | exact zw4 | exact zx0 | exact zx1 | exact zx2 | exact zx3 | ((repeat' (first | assumption | apply zset_eq | apply zset_ne | omega)); done) | ((repeat' (first | exact zscL_nil | refine zscL_i ?_ | refine zscL_n ?_ | refine zscL_r ?_ ?_ | refine zscL_l ?_ | exact zscS_nil | refine zscS_i ?_ | refine zscS_r ?_ ?_ | refine zscS_l ?_ | (simp only [List.length_set, hl]; first | omega | assumption) | omega)); done) | omega | (with_unfolding_all rfl) | fail)) only [v80_0, v80_1, v80_4, v80_5, v80_8, v80_9, v80_10, v80_11, v80_14, v80_15, v80_17, v80_18, v80_21, v80_22, v80_25, v80_26, v80_27, v80_28, v80_31, v80_34, v80_35, v80_36, v80_39, v80_40, v80_42, v80_45, v80_46, v80_47, v80_48, v80_49, v80_50, v80_52, v80_55, v80_56, v80_59, v80_60, v80_61, v80_64, v80_65, v80_66, v80_67, v80_70, v80_73, v80_74, v80_77, v80_78, v80_79, v80_82, v80_85, v80_86, v80_89, v80_92, v80_93, v80_95, v80_96, v80_99, v80_100, v80_103, v80_104, v80_105, v80_108, v80_109, v80_110, v80_113, v80_114, v80_115, v80_116, v80_119, v80_122, v80_123, v80_126, v80_129, v80_130, v80_133, v80_134, v80_135, v80_136, v80_139, v80_143i, v80_143r, v80_144, v80_147, v80_148, v80_149, v80_152, v80_155, zAft_v, zAft_n, iN_add, iN_mul, iN_sub, iN_lt, iN_le, iN_eq, bI_0, bI_1, if_pos, if_neg, ifnn, Nat.reduceAdd, Nat.reduceSub, Nat.reduceMul, Nat.add_zero, Nat.zero_add, List.set_set, not_true_eq_false, not_false_eq_true, if_true, if_false, reduceCtorEq]
        rw [← hx, e, List.set_set]
      · have z3 : ¬ Int32.ofNat 0 ≤ f k := Int32.not_le.mpr (x3.mpr y)
        cases y1 : A i0 k
        · rw [y, y1, Bool.and_false, if_neg (by decide)] at hx
          rw [y1, Bool.false_and] at e78
          simp (disch := (first | assumption | exact hb0 | exact hb1 | exact bI_ok | exact znl_i | exact znl_r | exact znl_n | exact zw0 | exact zw1 | exact zw2 | exact zw3 | exact zw4 | exact zx0 | exact zx1 | exact zx2 | exact zx3 | ((repeat' (first | assumption | apply zset_eq | apply zset_ne | omega)); done) | ((repeat' (first | exact zscL_nil | refine zscL_i ?_ | refine zscL_n ?_ | refine zscL_r ?_ ?_ | refine zscL_l ?_ | exact zscS_nil | refine zscS_i ?_ | refine zscS_r ?_ ?_ | refine zscS_l ?_ | (simp only [List.length_set, hl]; first | omega | assumption) | omega)); done) | omega | (with_unfolding_all rfl) | fail)) only [v80_0, v80_1, v80_4, v80_5, v80_8, v80_9, v80_10, v80_11, v80_14, v80_15, v80_17, v80_18, v80_21, v80_22, v80_25, v80_26, v80_27, v80_28, v80_31, v80_34, v80_35, v80_36, v80_39, v80_40, v80_42, v80_45, v80_46, v80_47, v80_48, v80_49, v80_50, v80_52, v80_55, v80_56, v80_59, v80_60, v80_61, v80_64, v80_65, v80_66, v80_67, v80_70, v80_73, v80_74, v80_77, v80_78, v80_79, v80_82, v80_85, v80_86, v80_89, v80_92, v80_93, v80_95, v80_96, v80_99, v80_100, v80_103, v80_104, v80_105, v80_108, v80_109, v80_110, v80_113, v80_114, v80_115, v80_116, v80_119, v80_122, v80_123, v80_126, v80_129, v80_130, v80_133, v80_134, v80_135, v80_136, v80_139, v80_143i, v80_143r, v80_144, v80_147, v80_148, v80_149, v80_152, v80_155, zAft_v, zAft_n, iN_add, iN_mul, iN_sub, iN_lt, iN_le, iN_eq, bI_0, bI_1, if_pos, if_neg, ifnn, Nat.reduceAdd, Nat.reduceSub, Nat.reduceMul, Nat.add_zero, Nat.zero_add, List.set_set, not_true_eq_false, not_false_eq_true, if_true, if_false, reduceCtorEq, e78]
          rw [← hx, e, List.set_set]
        · rw [y, y1, Bool.and_self, if_pos rfl] at hx
          rw [y1, hfr k (by omega) y y1, Bool.and_self] at e78
          simp (disch := (first | assumption | exact hb0 | exact hb1 | exact bI_ok | exact znl_i | exact znl_r | exact znl_n | exact zw0 | exact zw1 | exact zw2 | exact zw3 | exact zw4 | exact zx0 | exact zx1 | exact zx2 | exact zx3 | ((repeat' (first | assumption | apply zset_eq | apply zset_ne | omega)); done) | ((repeat' (first | exact zscL_nil | refine zscL_i ?_ | refine zscL_n ?_ | refine zscL_r ?_ ?_ | refine zscL_l ?_ | exact zscS_nil | refine zscS_i ?_ | refine zscS_r ?_ ?_ | refine zscS_l ?_ | (simp only [List.length_set, hl]; first | omega | assumption) | omega)); done) | omega | (with_unfolding_all rfl) | fail)) only [v80_0, v80_1, v80_4, v80_5, v80_8, v80_9, v80_10, v80_11, v80_14, v80_15, v80_17, v80_18, v80_21, v80_22, v80_25, v80_26, v80_27, v80_28, v80_31, v80_34, v80_35, v80_36, v80_39, v80_40, v80_42, v80_45, v80_46, v80_47, v80_48, v80_49, v80_50, v80_52, v80_55, v80_56, v80_59, v80_60, v80_61, v80_64, v80_65, v80_66, v80_67, v80_70, v80_73, v80_74, v80_77, v80_78, v80_79, v80_82, v80_85, v80_86, v80_89, v80_92, v80_93, v80_95, v80_96, v80_99, v80_100, v80_103, v80_104, v80_105, v80_108, v80_109, v80_110, v80_113, v80_114, v80_115, v80_116, v80_119, v80_122, v80_123, v80_126, v80_129, v80_130, v80_133, v80_134, v80_135, v80_136, v80_139, v80_143i, v80_143r, v80_144, v80_147, v80_148, v80_149, v80_152, v80_155, zAft_v, zAft_n, iN_add, iN_mul, iN_sub, iN_lt, iN_le, iN_eq, bI_0, bI_1, if_pos, if_neg, ifnn, Nat.reduceAdd, Nat.reduceSub, Nat.reduceMul, Nat.add_zero, Nat.zero_add, List.set_set, not_true_eq_false, not_false_eq_true, if_true, if_false, reduceCtorEq, e78, Bool.true_eq_false]
          rw [← hx, e, List.set_set]
theorem r80l {T : Nat} {rab : Nat → Bool} {A : Rel2} (hT : T ≤ 60) (hA : ∀ i j, i < T → j < T → rab (60 * i + j) = A i j) (hr : ∀ i, i < T → A i i = true) (ht : ∀ i m j, i < T → m < T → A i m = true → A m j = true → A i j = true) :
    ∀ (n : Nat) (L : Nat → Bool) (lab : Nat → Nat) (c : Nat) (w : zW) (rla : Nat → Int32) (nx : Int32) (l3 : Option Value), w.length = 29 → w[19]? = some (.inr (4, [.int rt, .ref 20, .int (Int32.ofNat re), .int (Int32.ofNat rp), .int (Int32.ofNat rw), .ref 21, .ref 22, .ref 23, .ref 24, .ref 25, .int (Int32.ofNat c), .int (Int32.ofNat rwd), .int (Int32.ofNat rhi), .ref 26, .ref 27])) → w[24]? = some (.inl (2, 3600, .inl fun i => bI (rab i))) → w[25]? = some (.inl (0, 60, .inl rla)) → ¬ nx < Int32.ofNat 0 → cnt L T ≤ n → (∀ j, lab j < 1000) → c + n < 1000 → (∀ j, j < T → rla j = if L j = true then -1 else Int32.ofNat (lab j)) →
      ∃ g : Nat → Int32, (∀ j, j < T → g j = Int32.ofNat ((lay A T n L lab c).1 j)) ∧ zval E0 none 80 (41, [some (.ref 19), some (.int (Int32.ofNat T)), some (.int nx), l3], [], w, 0, 0) = some (.inl none, (w.set 25 (.inl (0, 60, .inl g))).set 19 (.inr (4, [.int rt, .ref 20, .int (Int32.ofNat re), .int (Int32.ofNat rp), .int (Int32.ofNat rw), .ref 21, .ref 22, .ref 23, .ref 24, .ref 25, .int (Int32.ofNat (lay A T n L lab c).2), .int (Int32.ofNat rwd), .int (Int32.ofNat rhi), .ref 26, .ref 27])), 0, 0) := by
  have neg1 : (-1 : Int32) < Int32.ofNat 0 := by decide
  have neg1' : ¬ Int32.ofNat 0 ≤ (-1 : Int32) := by decide
  have stop : ∀ (L : Nat → Bool) (lab : Nat → Nat) (c : Nat) (w : zW) (rla : Nat → Int32) (nx : Int32) (l3 : Option Value), w.length = 29 → w[19]? = some (.inr (4, [.int rt, .ref 20, .int (Int32.ofNat re), .int (Int32.ofNat rp), .int (Int32.ofNat rw), .ref 21, .ref 22, .ref 23, .ref 24, .ref 25, .int (Int32.ofNat c), .int (Int32.ofNat rwd), .int (Int32.ofNat rhi), .ref 26, .ref 27])) → w[24]? = some (.inl (2, 3600, .inl fun i => bI (rab i))) → w[25]? = some (.inl (0, 60, .inl rla)) → ¬ nx < Int32.ofNat 0 → (∀ j, lab j < 1000) → (∀ j, j < T → rla j = if L j = true then -1 else Int32.ofNat (lab j)) → (∀ j, j < T → L j = false) → zval E0 none 80 (41, [some (.ref 19), some (.int (Int32.ofNat T)), some (.int nx), l3], [], w, 0, 0) = some (.inl none, (w.set 25 (.inl (0, 60, .inl rla))).set 19 (.inr (4, [.int rt, .ref 20, .int (Int32.ofNat re), .int (Int32.ofNat rp), .int (Int32.ofNat rw), .ref 21, .ref 22, .ref 23, .ref 24, .ref 25, .int (Int32.ofNat c), .int (Int32.ofNat rwd), .int (Int32.ofNat rhi), .ref 26, .ref 27])), 0, 0) := by
    intro L lab c w rla nx l3 hl h19 h24 h25 hnx hlab hla hno
    have hL : ∀ j, j < T → (rla j < Int32.ofNat 0 ↔ L j = true) := by
      intro j hj
      rw [hla j hj, hno j hj, if_neg (by decide)]
      have := hlab j
      rw [iN_lt (by omega) (by omega)]
      constructor
      · intro q; omega
      · intro q; cases q
    have e := r80b (L := L) (A := A) hl h19 h24 h25 hT hA hL T (-1) (Nat.le_refl _)
    have hF : ¬ fst (fre A T L) T 0 < T := by
      intro q
      have h1 := fst_hit (P := fre A T L) T 0 (by rw [Nat.zero_add]; exact q)
      have h2 := (fre_iff.mp h1).1
      rw [hno _ q] at h2
      cases h2
    rw [if_neg hF] at e
    rw [v80_41]
    simp (disch := (first | assumption | exact hb0 | exact hb1 | exact bI_ok | exact znl_i | exact znl_r | exact znl_n | exact zw0 | exact zw1 | exact zw2 | exact zw3 | exact zw4 | exact zx0 | exact zx1 | exact zx2 | exact zx3 | ((repeat' (first | assumption | apply zset_eq | apply zset_ne | omega)); done) | ((repeat' (first | exact zscL_nil | refine zscL_i ?_ | refine zscL_n ?_ | refine zscL_r ?_ ?_ | refine zscL_l ?_ | exact zscS_nil | refine zscS_i ?_ | refine zscS_r ?_ ?_ | refine zscS_l ?_ | (simp only [List.length_set, hl]; first | omega | assumption) | omega)); done) | omega | (with_unfolding_all rfl) | fail)) only [v80_0, v80_1, v80_4, v80_5, v80_8, v80_9, v80_10, v80_11, v80_14, v80_15, v80_17, v80_18, v80_21, v80_22, v80_25, v80_26, v80_27, v80_28, v80_31, v80_34, v80_35, v80_36, v80_39, v80_40, v80_42, v80_45, v80_46, v80_47, v80_48, v80_49, v80_50, v80_52, v80_55, v80_56, v80_59, v80_60, v80_61, v80_64, v80_65, v80_66, v80_67, v80_70, v80_73, v80_74, v80_77, v80_78, v80_79, v80_82, v80_85, v80_86, v80_89, v80_92, v80_93, v80_95, v80_96, v80_99, v80_100, v80_103, v80_104, v80_105, v80_108, v80_109, v80_110, v80_113, v80_114, v80_115, v80_116, v80_119, v80_122, v80_123, v80_126, v80_129, v80_130, v80_133, v80_134, v80_135, v80_136, v80_139, v80_142, v80_143i, v80_143r, v80_144, v80_147, v80_148, v80_149, v80_152, v80_155, zAft_v, zAft_n, iN_add, iN_mul, iN_sub, iN_lt, iN_le, iN_eq, bI_0, bI_1, if_pos, if_neg, ifnn, Nat.reduceAdd, Nat.reduceSub, Nat.reduceMul, Nat.add_zero, Nat.zero_add, List.set_set, not_true_eq_false, not_false_eq_true, if_true, if_false, reduceCtorEq, pr_a]
    rw [e]
    simp (disch := (first | assumption | exact hb0 | exact hb1 | exact bI_ok | exact znl_i | exact znl_r | exact znl_n | exact zw0 | exact zw1 | exact zw2 | exact zw3 | exact zw4 | exact zx0 | exact zx1 | exact zx2 | exact zx3 | ((repeat' (first | assumption | apply zset_eq | apply zset_ne | omega)); done) | ((repeat' (first | exact zscL_nil | refine zscL_i ?_ | refine zscL_n ?_ | refine zscL_r ?_ ?_ | refine zscL_l ?_ | exact zscS_nil | refine zscS_i ?_ | refine zscS_r ?_ ?_ | refine zscS_l ?_ | (simp only [List.length_set, hl]; first | omega | assumption) | omega)); done) | omega | (with_unfolding_all rfl) | fail)) only [v80_0, v80_1, v80_4, v80_5, v80_8, v80_9, v80_10, v80_11, v80_14, v80_15, v80_17, v80_18, v80_21, v80_22, v80_25, v80_26, v80_27, v80_28, v80_31, v80_34, v80_35, v80_36, v80_39, v80_40, v80_42, v80_45, v80_46, v80_47, v80_48, v80_49, v80_50, v80_52, v80_55, v80_56, v80_59, v80_60, v80_61, v80_64, v80_65, v80_66, v80_67, v80_70, v80_73, v80_74, v80_77, v80_78, v80_79, v80_82, v80_85, v80_86, v80_89, v80_92, v80_93, v80_95, v80_96, v80_99, v80_100, v80_103, v80_104, v80_105, v80_108, v80_109, v80_110, v80_113, v80_114, v80_115, v80_116, v80_119, v80_122, v80_123, v80_126, v80_129, v80_130, v80_133, v80_134, v80_135, v80_136, v80_139, v80_142, v80_143i, v80_143r, v80_144, v80_147, v80_148, v80_149, v80_152, v80_155, zAft_v, zAft_n, iN_add, iN_mul, iN_sub, iN_lt, iN_le, iN_eq, bI_0, bI_1, if_pos, if_neg, ifnn, Nat.reduceAdd, Nat.reduceSub, Nat.reduceMul, Nat.add_zero, Nat.zero_add, List.set_set, not_true_eq_false, not_false_eq_true, if_true, if_false, reduceCtorEq]
    rw [v80_41]
    simp (disch := (first | assumption | exact hb0 | exact hb1 | exact bI_ok | exact znl_i | exact znl_r | exact znl_n | exact zw0 | exact zw1 | exact zw2 | exact zw3 | exact zw4 | exact zx0 | exact zx1 | exact zx2 | exact zx3 | ((repeat' (first | assumption | apply zset_eq | apply zset_ne | omega)); done) | ((repeat' (first | exact zscL_nil | refine zscL_i ?_ | refine zscL_n ?_ | refine zscL_r ?_ ?_ | refine zscL_l ?_ | exact zscS_nil | refine zscS_i ?_ | refine zscS_r ?_ ?_ | refine zscS_l ?_ | (simp only [List.length_set, hl]; first | omega | assumption) | omega)); done) | omega | (with_unfolding_all rfl) | fail)) only [v80_0, v80_1, v80_4, v80_5, v80_8, v80_9, v80_10, v80_11, v80_14, v80_15, v80_17, v80_18, v80_21, v80_22, v80_25, v80_26, v80_27, v80_28, v80_31, v80_34, v80_35, v80_36, v80_39, v80_40, v80_42, v80_45, v80_46, v80_47, v80_48, v80_49, v80_50, v80_52, v80_55, v80_56, v80_59, v80_60, v80_61, v80_64, v80_65, v80_66, v80_67, v80_70, v80_73, v80_74, v80_77, v80_78, v80_79, v80_82, v80_85, v80_86, v80_89, v80_92, v80_93, v80_95, v80_96, v80_99, v80_100, v80_103, v80_104, v80_105, v80_108, v80_109, v80_110, v80_113, v80_114, v80_115, v80_116, v80_119, v80_122, v80_123, v80_126, v80_129, v80_130, v80_133, v80_134, v80_135, v80_136, v80_139, v80_142, v80_143i, v80_143r, v80_144, v80_147, v80_148, v80_149, v80_152, v80_155, zAft_v, zAft_n, iN_add, iN_mul, iN_sub, iN_lt, iN_le, iN_eq, bI_0, bI_1, if_pos, if_neg, ifnn, Nat.reduceAdd, Nat.reduceSub, Nat.reduceMul, Nat.add_zero, Nat.zero_add, List.set_set, not_true_eq_false, not_false_eq_true, if_true, if_false, reduceCtorEq]
    rw [zset_id h25, zset_id h19]
  intro n
  induction n with
  | zero =>
    intro L lab c w rla nx l3 hl h19 h24 h25 hnx hc hlab _ hla
    have hno : ∀ j, j < T → L j = false := by
      intro j hj
      cases x : L j
      · rfl
      · have := cnt_lt (L := fun _ => false) (M := L) (k := j) rfl x T hj (fun i _ q => by cases q)
        omega
    refine ⟨rla, fun j hj => by rw [hla j hj, hno j hj, if_neg (by decide), lay], ?_⟩
    rw [lay]
    exact stop L lab c w rla nx l3 hl h19 h24 h25 hnx hlab hla hno
  | succ n ih =>
    intro L lab c w rla nx l3 hl h19 h24 h25 hnx hc hlab hcn hla
    rw [lay]
    by_cases ha : any L T = true
    · rw [if_pos ha]
      obtain ⟨q1, q2⟩ := low_ok hr ht ha
      obtain ⟨i0, hi0⟩ : ∃ i0, i0 = low A T L := ⟨_, rfl⟩
      have hlo : low A T L = fst (fre A T L) T 0 := rfl
      rw [← hi0] at q1 q2 ⊢
      obtain ⟨hLi, hfr⟩ := fre_iff.mp q2
      have hL : ∀ j, j < T → (rla j < Int32.ofNat 0 ↔ L j = true) := by
        intro j hj
        rw [hla j hj]
        cases x : L j
        · rw [if_neg (by decide)]
          have := hlab j
          rw [iN_lt (by omega) (by omega)]
          constructor
          · intro q; omega
          · intro q; cases q
        · rw [if_pos rfl]
          exact ⟨fun _ => rfl, fun _ => neg1⟩
      have e1 := r80b (L := L) (A := A) hl h19 h24 h25 hT hA hL T (-1) (Nat.le_refl _)
      rw [← hlo, ← hi0, if_pos q1, show pr T = Int32.ofNat (T - 1) from by unfold pr; rw [if_neg (by omega)]] at e1
      obtain ⟨g1, b1, b2, e2⟩ := r80c (rt := rt) (re := re) (rp := rp) (rw := rw) (rwd := rwd) (rhi := rhi) (c := c) (L := L) (A := A) hT q1 hA hfr T 0 w rla hl h19 h24 h25 (by omega) (fun j hj _ => hL j hj)
      have hlt : cnt (fun j => L j && !(A i0 j)) T < cnt L T := cnt_lt (L := fun j => L j && !(A i0 j)) (M := L) (k := i0) (by simp [hr i0 q1]) hLi T q1 (fun i _ q => by simp only [Bool.and_eq_true] at q; exact q.1)
      obtain ⟨w1, hw1⟩ : ∃ w1, w1 = w.set 25 (.inl (0, 60, .inl g1)) := ⟨_, rfl⟩
      rw [← hw1] at e2
      have l1 : w1.length = 29 := by rw [hw1]; exact zset_len hl
      have k19 : w1[19]? = some (.inr (4, [.int rt, .ref 20, .int (Int32.ofNat re), .int (Int32.ofNat rp), .int (Int32.ofNat rw), .ref 21, .ref 22, .ref 23, .ref 24, .ref 25, .int (Int32.ofNat c), .int (Int32.ofNat rwd), .int (Int32.ofNat rhi), .ref 26, .ref 27])) := by rw [hw1]; ((repeat' (first | assumption | apply zset_eq | apply zset_ne | omega)); done)
      have hi32 : ¬ Int32.ofNat i0 < Int32.ofNat 0 := by rw [iN_lt (by omega) (by omega)]; omega
      obtain ⟨g2, d1, e3⟩ := ih (fun j => L j && !(A i0 j)) (fun j => if (L j && A i0 j) = true then c else lab j) (c + 1) (w1.set 19 (.inr (4, [.int rt, .ref 20, .int (Int32.ofNat re), .int (Int32.ofNat rp), .int (Int32.ofNat rw), .ref 21, .ref 22, .ref 23, .ref 24, .ref 25, .int (Int32.ofNat (c + 1)), .int (Int32.ofNat rwd), .int (Int32.ofNat rhi), .ref 26, .ref 27]))) g1 (Int32.ofNat i0) (some (.int (Int32.ofNat T))) (zset_len l1) (by ((repeat' (first | assumption | apply zset_eq | apply zset_ne | omega)); done)) (by rw [hw1]; ((repeat' (first | assumption | apply zset_eq | apply zset_ne | omega)); done)) (by rw [hw1]; ((repeat' (first | assumption | apply zset_eq | apply zset_ne | omega)); done)) hi32 (by omega) (fun j => by
          have := hlab j
          show (if (L j && A i0 j) = true then c else lab j) < 1000
          split <;> omega) (by omega) (by
          intro j hj
          rw [b2 j (by omega) hj]
          show _ = if (L j && !(A i0 j)) = true then (-1 : Int32) else Int32.ofNat (if (L j && A i0 j) = true then c else lab j)
          have := hla j hj
          cases x : L j <;> cases y : A i0 j <;> rw [x] at this <;> simp_all)
      refine ⟨g2, d1, ?_⟩
      rw [v80_41]
      simp (disch := (first | assumption | exact hb0 | exact hb1 | exact bI_ok | exact znl_i | exact znl_r | exact znl_n | exact zw0 | exact zw1 | exact zw2 | exact zw3 | exact zw4 | exact zx0 | exact zx1 | exact zx2 | exact zx3 | ((repeat' (first | assumption | apply zset_eq | apply zset_ne | omega)); done) | ((repeat' (first | exact zscL_nil | refine zscL_i ?_ | refine zscL_n ?_ | refine zscL_r ?_ ?_ | refine zscL_l ?_ | exact zscS_nil | refine zscS_i ?_ | refine zscS_r ?_ ?_ | refine zscS_l ?_ | (simp only [List.length_set, hl]; first | omega | assumption) | omega)); done) | omega | (with_unfolding_all rfl) | fail)) only [v80_0, v80_1, v80_4, v80_5, v80_8, v80_9, v80_10, v80_11, v80_14, v80_15, v80_17, v80_18, v80_21, v80_22, v80_25, v80_26, v80_27, v80_28, v80_31, v80_34, v80_35, v80_36, v80_39, v80_40, v80_42, v80_45, v80_46, v80_47, v80_48, v80_49, v80_50, v80_52, v80_55, v80_56, v80_59, v80_60, v80_61, v80_64, v80_65, v80_66, v80_67, v80_70, v80_73, v80_74, v80_77, v80_78, v80_79, v80_82, v80_85, v80_86, v80_89, v80_92, v80_93, v80_95, v80_96, v80_99, v80_100, v80_103, v80_104, v80_105, v80_108, v80_109, v80_110, v80_113, v80_114, v80_115, v80_116, v80_119, v80_122, v80_123, v80_126, v80_129, v80_130, v80_133, v80_134, v80_135, v80_136, v80_139, v80_142, v80_143i, v80_143r, v80_144, v80_147, v80_148, v80_149, v80_152, v80_155, zAft_v, zAft_n, iN_add, iN_mul, iN_sub, iN_lt, iN_le, iN_eq, bI_0, bI_1, if_pos, if_neg, ifnn, Nat.reduceAdd, Nat.reduceSub, Nat.reduceMul, Nat.add_zero, Nat.zero_add, List.set_set, not_true_eq_false, not_false_eq_true, if_true, if_false, reduceCtorEq, pr_a]
      rw [e1]
      simp (disch := (first | assumption | exact hb0 | exact hb1 | exact bI_ok | exact znl_i | exact znl_r | exact znl_n | exact zw0 | exact zw1 | exact zw2 | exact zw3 | exact zw4 | exact zx0 | exact zx1 | exact zx2 | exact zx3 | ((repeat' (first | assumption | apply zset_eq | apply zset_ne | omega)); done) | ((repeat' (first | exact zscL_nil | refine zscL_i ?_ | refine zscL_n ?_ | refine zscL_r ?_ ?_ | refine zscL_l ?_ | exact zscS_nil | refine zscS_i ?_ | refine zscS_r ?_ ?_ | refine zscS_l ?_ | (simp only [List.length_set, hl]; first | omega | assumption) | omega)); done) | omega | (with_unfolding_all rfl) | fail)) only [v80_0, v80_1, v80_4, v80_5, v80_8, v80_9, v80_10, v80_11, v80_14, v80_15, v80_17, v80_18, v80_21, v80_22, v80_25, v80_26, v80_27, v80_28, v80_31, v80_34, v80_35, v80_36, v80_39, v80_40, v80_42, v80_45, v80_46, v80_47, v80_48, v80_49, v80_50, v80_52, v80_55, v80_56, v80_59, v80_60, v80_61, v80_64, v80_65, v80_66, v80_67, v80_70, v80_73, v80_74, v80_77, v80_78, v80_79, v80_82, v80_85, v80_86, v80_89, v80_92, v80_93, v80_95, v80_96, v80_99, v80_100, v80_103, v80_104, v80_105, v80_108, v80_109, v80_110, v80_113, v80_114, v80_115, v80_116, v80_119, v80_122, v80_123, v80_126, v80_129, v80_130, v80_133, v80_134, v80_135, v80_136, v80_139, v80_142, v80_143i, v80_143r, v80_144, v80_147, v80_148, v80_149, v80_152, v80_155, zAft_v, zAft_n, iN_add, iN_mul, iN_sub, iN_lt, iN_le, iN_eq, bI_0, bI_1, if_pos, if_neg, ifnn, Nat.reduceAdd, Nat.reduceSub, Nat.reduceMul, Nat.add_zero, Nat.zero_add, List.set_set, not_true_eq_false, not_false_eq_true, if_true, if_false, reduceCtorEq]
      rw [e2]
      have hl := l1
      simp (disch := (first | assumption | exact hb0 | exact hb1 | exact bI_ok | exact znl_i | exact znl_r | exact znl_n | exact zw0 | exact zw1 | exact zw2 | exact zw3 | exact zw4 | exact zx0 | exact zx1 | exact zx2 | exact zx3 | ((repeat' (first | assumption | apply zset_eq | apply zset_ne | omega)); done) | ((repeat' (first | exact zscL_nil | refine zscL_i ?_ | refine zscL_n ?_ | refine zscL_r ?_ ?_ | refine zscL_l ?_ | exact zscS_nil | refine zscS_i ?_ | refine zscS_r ?_ ?_ | refine zscS_l ?_ | (simp only [List.length_set, hl]; first | omega | assumption) | omega)); done) | omega | (with_unfolding_all rfl) | fail)) only [v80_0, v80_1, v80_4, v80_5, v80_8, v80_9, v80_10, v80_11, v80_14, v80_15, v80_17, v80_18, v80_21, v80_22, v80_25, v80_26, v80_27, v80_28, v80_31, v80_34, v80_35, v80_36, v80_39, v80_40, v80_42, v80_45, v80_46, v80_47, v80_48, v80_49, v80_50, v80_52, v80_55, v80_56, v80_59, v80_60, v80_61, v80_64, v80_65, v80_66, v80_67, v80_70, v80_73, v80_74, v80_77, v80_78, v80_79, v80_82, v80_85, v80_86, v80_89, v80_92, v80_93, v80_95, v80_96, v80_99, v80_100, v80_103, v80_104, v80_105, v80_108, v80_109, v80_110, v80_113, v80_114, v80_115, v80_116, v80_119, v80_122, v80_123, v80_126, v80_129, v80_130, v80_133, v80_134, v80_135, v80_136, v80_139, v80_142, v80_143i, v80_143r, v80_144, v80_147, v80_148, v80_149, v80_152, v80_155, zAft_v, zAft_n, iN_add, iN_mul, iN_sub, iN_lt, iN_le, iN_eq, bI_0, bI_1, if_pos, if_neg, ifnn, Nat.reduceAdd, Nat.reduceSub, Nat.reduceMul, Nat.add_zero, Nat.zero_add, List.set_set, not_true_eq_false, not_false_eq_true, if_true, if_false, reduceCtorEq]
      rw [e3, hw1]
      rw [List.set_comm _ _ (by omega), List.set_set, List.set_comm _ _ (by omega), List.set_set, List.set_comm _ _ (by omega)]
    · rw [if_neg ha]
      have hno : ∀ j, j < T → L j = false := by
        intro j hj
        cases x : L j
        · rfl
        · exact absurd (any_iff.mpr ⟨j, hj, x⟩) ha
      refine ⟨rla, fun j hj => by rw [hla j hj, hno j hj, if_neg (by decide)], ?_⟩
      exact stop L lab c w rla nx l3 hl h19 h24 h25 hnx hlab hla hno
end num
