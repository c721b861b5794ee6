/-! The reference's spread. -/
/-- what lies over what, of the crossings looked at so far -/
def dip (ov pc : Nat → Nat → Bool) (ce cp : Nat) : Rel2 := fun i j => decide (i = j) || (if i < ce then (decide (ce ≤ j ∧ j < ce + cp) && (pc (j - ce) i && ov (j - ce) i)) else (decide (j < ce) && (pc (i - ce) j && !(ov (i - ce) j))))
section spr
variable {rt ry : Int32} {re rp rw rwd rhi : Nat}
theorem r77a {a T : Nat} {l4 : Option Value} (ha : a < T) (hT : T ≤ 60) :
    ∀ (d b : Nat) (w : zW) (r : Nat → Bool), w[19]? = some (.inr (4, [.int rt, .ref 20, .int (Int32.ofNat re), .int (Int32.ofNat rp), .int (Int32.ofNat rw), .ref 21, .ref 22, .ref 23, .ref 24, .ref 25, .int ry, .int (Int32.ofNat rwd), .int (Int32.ofNat rhi), .ref 26, .ref 27])) → w[24]? = some (.inl (2, 3600, .inl fun i => bI (r i))) → b + d = T → (∀ i j, i < T → j < T → (i < a ∨ (i = a ∧ j < b)) → r (60 * i + j) = decide (i = j)) →
      ∃ g : Nat → Bool, (∀ i j, i < T → j < T → i < a + 1 → g (60 * i + j) = decide (i = j)) ∧ zval E0 none 77 (19, [some (.ref 19), some (.int (Int32.ofNat T)), some (.int (Int32.ofNat a)), some (.int (Int32.ofNat b)), l4], [], w, 0, 0) = zval E0 none 77 (51, [some (.ref 19), some (.int (Int32.ofNat T)), some (.int (Int32.ofNat a)), some (.int (Int32.ofNat T)), l4], [], w.set 24 (.inl (2, 3600, .inl fun i => bI (g i))), 0, 0) := by
  intro d
  induction d with
  | zero =>
    intro b w r h19 h24 hb hr
    obtain rfl : b = T := hb
    refine ⟨r, fun i j hi hj h => hr i j hi hj (by omega), ?_⟩
    rw [v77_19]
    simp (disch := (first | assumption | exact hb0 | exact hb1 | exact bI_ok | exact znl_i | exact znl_r | exact znl_n | exact zw0 | exact zw1 | exact zw2 | exact zw3 | exact zw4 | exact zx0 | exact zx1 | exact zx2 | exact zx3 | ((repeat' (first | assumption | apply zset_eq | apply zset_ne | omega)); done) | omega | (with_unfolding_all rfl) | fail)) only [v77_0, v77_1, v77_4, v77_5, v77_8, v77_9, v77_10, v77_11, v77_13, v77_14, v77_17, v77_18, v77_20, v77_21, v77_24, v77_25, v77_28, v77_30, v77_31, v77_32, v77_33, v77_34, v77_35, v77_36, v77_39, v77_40, v77_43, v77_44, v77_45, v77_48, v77_54, v77_57, v77_58, v77_60, v77_61, v77_64, v77_67, v77_68, v77_70, v77_71, v77_74, v77_77, v77_78, v77_81, v77_83, v77_84, v77_85, v77_86, v77_87, v77_88, v77_90, v77_91, v77_94, v77_96, v77_99, v77_101, v77_102, v77_103, v77_104, v77_107, v77_108, v77_109, v77_110, v77_113, v77_115, v77_116, v77_119, v77_120, v77_121, v77_122, v77_123, v77_124, v77_125, v77_126, v77_129, v77_132, v77_135, v77_138, v77_139, v77_141, v77_142, v77_145, v77_146, v77_148, v77_149, v77_152, v77_153, v77_157, v77_158, v77_161, v77_162, v77_165, v77_167, v77_168, v77_169, v77_170, v77_171, v77_172, v77_175, v77_176, v77_179, v77_181, v77_182, v77_183, v77_185, v77_186, v77_187, v77_190, v77_192, v77_193, v77_194, v77_196, v77_197, v77_198, v77_201, v77_202, v77_205, v77_207, v77_208, v77_209, v77_211, v77_212, v77_213, v77_216, v77_217, v77_220, v77_221, v77_222, v77_225, v77_228, v77_231, v77_234, v77_237, v77_240, zAft_v, zAft_n, iN_add, iN_mul, iN_sub, iN_lt, iN_le, iN_eq, bI_0, bI_1, if_pos, if_neg, ifnn, Nat.reduceAdd, Nat.reduceSub, Nat.reduceMul, Nat.add_zero, Nat.zero_add, List.set_set, not_true_eq_false, not_false_eq_true, if_true, if_false, reduceCtorEq]
    rw [zset_id h24]
  | succ d ih =>
    intro b w r h19 h24 hb hr
    obtain ⟨g, g1, e⟩ := ih (b + 1) (w.set 24 (.inl (2, 3600, .inl fun i => bI (updB r (60 * a + b) (decide (a = b)) i)))) (updB r (60 * a + b) (decide (a = b))) (by ((repeat' (first | assumption | apply zset_eq | apply zset_ne | omega)); done)) (by ((repeat' (first | assumption | apply zset_eq | apply zset_ne | omega)); done)) (by omega) (by
      intro i j hi hj h
      by_cases q : i = a ∧ j = b
      · rw [q.1, q.2, updB_self]
      · rw [updB_ne (by omega)]; exact hr i j hi hj (by omega))
    refine ⟨g, g1, ?_⟩
    rw [v77_19]
    by_cases q : a = b
    · rw [decide_eq_true q] at e
      simp (disch := (first | assumption | exact hb0 | exact hb1 | exact bI_ok | exact znl_i | exact znl_r | exact znl_n | exact zw0 | exact zw1 | exact zw2 | exact zw3 | exact zw4 | exact zx0 | exact zx1 | exact zx2 | exact zx3 | ((repeat' (first | assumption | apply zset_eq | apply zset_ne | omega)); done) | omega | (with_unfolding_all rfl) | fail)) only [v77_0, v77_1, v77_4, v77_5, v77_8, v77_9, v77_10, v77_11, v77_13, v77_14, v77_17, v77_18, v77_20, v77_21, v77_24, v77_25, v77_28, v77_30, v77_31, v77_32, v77_33, v77_34, v77_35, v77_36, v77_39, v77_40, v77_43, v77_44, v77_45, v77_48, v77_54, v77_57, v77_58, v77_60, v77_61, v77_64, v77_67, v77_68, v77_70, v77_71, v77_74, v77_77, v77_78, v77_81, v77_83, v77_84, v77_85, v77_86, v77_87, v77_88, v77_90, v77_91, v77_94, v77_96, v77_99, v77_101, v77_102, v77_103, v77_104, v77_107, v77_108, v77_109, v77_110, v77_113, v77_115, v77_116, v77_119, v77_120, v77_121, v77_122, v77_123, v77_124, v77_125, v77_126, v77_129, v77_132, v77_135, v77_138, v77_139, v77_141, v77_142, v77_145, v77_146, v77_148, v77_149, v77_152, v77_153, v77_157, v77_158, v77_161, v77_162, v77_165, v77_167, v77_168, v77_169, v77_170, v77_171, v77_172, v77_175, v77_176, v77_179, v77_181, v77_182, v77_183, v77_185, v77_186, v77_187, v77_190, v77_192, v77_193, v77_194, v77_196, v77_197, v77_198, v77_201, v77_202, v77_205, v77_207, v77_208, v77_209, v77_211, v77_212, v77_213, v77_216, v77_217, v77_220, v77_221, v77_222, v77_225, v77_228, v77_231, v77_234, v77_237, v77_240, zAft_v, zAft_n, iN_add, iN_mul, iN_sub, iN_lt, iN_le, iN_eq, bI_0, bI_1, if_pos, if_neg, ifnn, Nat.reduceAdd, Nat.reduceSub, Nat.reduceMul, Nat.add_zero, Nat.zero_add, List.set_set, not_true_eq_false, not_false_eq_true, if_true, if_false, reduceCtorEq, nar_1, updBI]
      rw [e, List.set_set]
    · rw [decide_eq_false q] at e
      simp (disch := (first | assumption | exact hb0 | exact hb1 | exact bI_ok | exact znl_i | exact znl_r | exact znl_n | exact zw0 | exact zw1 | exact zw2 | exact zw3 | exact zw4 | exact zx0 | exact zx1 | exact zx2 | exact zx3 | ((repeat' (first | assumption | apply zset_eq | apply zset_ne | omega)); done) | omega | (with_unfolding_all rfl) | fail)) only [v77_0, v77_1, v77_4, v77_5, v77_8, v77_9, v77_10, v77_11, v77_13, v77_14, v77_17, v77_18, v77_20, v77_21, v77_24, v77_25, v77_28, v77_30, v77_31, v77_32, v77_33, v77_34, v77_35, v77_36, v77_39, v77_40, v77_43, v77_44, v77_45, v77_48, v77_54, v77_57, v77_58, v77_60, v77_61, v77_64, v77_67, v77_68, v77_70, v77_71, v77_74, v77_77, v77_78, v77_81, v77_83, v77_84, v77_85, v77_86, v77_87, v77_88, v77_90, v77_91, v77_94, v77_96, v77_99, v77_101, v77_102, v77_103, v77_104, v77_107, v77_108, v77_109, v77_110, v77_113, v77_115, v77_116, v77_119, v77_120, v77_121, v77_122, v77_123, v77_124, v77_125, v77_126, v77_129, v77_132, v77_135, v77_138, v77_139, v77_141, v77_142, v77_145, v77_146, v77_148, v77_149, v77_152, v77_153, v77_157, v77_158, v77_161, v77_162, v77_165, v77_167, v77_168, v77_169, v77_170, v77_171, v77_172, v77_175, v77_176, v77_179, v77_181, v77_182, v77_183, v77_185, v77_186, v77_187, v77_190, v77_192, v77_193, v77_194, v77_196, v77_197, v77_198, v77_201, v77_202, v77_205, v77_207, v77_208, v77_209, v77_211, v77_212, v77_213, v77_216, v77_217, v77_220, v77_221, v77_222, v77_225, v77_228, v77_231, v77_234, v77_237, v77_240, zAft_v, zAft_n, iN_add, iN_mul, iN_sub, iN_lt, iN_le, iN_eq, bI_0, bI_1, if_pos, if_neg, ifnn, Nat.reduceAdd, Nat.reduceSub, Nat.reduceMul, Nat.add_zero, Nat.zero_add, List.set_set, not_true_eq_false, not_false_eq_true, if_true, if_false, reduceCtorEq, nar_0, updBI]
      rw [e, List.set_set]
theorem r77b {T : Nat} {l4 : Option Value} (hT : T ≤ 60) :
    ∀ (d a : Nat) (w : zW) (r : Nat → Bool) (l3 : Option Value), w[19]? = some (.inr (4, [.int rt, .ref 20, .int (Int32.ofNat re), .int (Int32.ofNat rp), .int (Int32.ofNat rw), .ref 21, .ref 22, .ref 23, .ref 24, .ref 25, .int ry, .int (Int32.ofNat rwd), .int (Int32.ofNat rhi), .ref 26, .ref 27])) → w[24]? = some (.inl (2, 3600, .inl fun i => bI (r i))) → a + d = T → (∀ i j, i < T → j < T → i < a → r (60 * i + j) = decide (i = j)) →
      ∃ (g : Nat → Bool) (l3' : Option Value), (∀ i j, i < T → j < T → g (60 * i + j) = decide (i = j)) ∧ zval E0 none 77 (12, [some (.ref 19), some (.int (Int32.ofNat T)), some (.int (Int32.ofNat a)), l3, l4], [], w, 0, 0) = zval E0 none 77 (57, [some (.ref 19), some (.int (Int32.ofNat T)), some (.int (Int32.ofNat T)), l3', l4], [], w.set 24 (.inl (2, 3600, .inl fun i => bI (g i))), 0, 0) := by
  intro d
  induction d with
  | zero =>
    intro a w r l3 h19 h24 ha hr
    obtain rfl : a = T := ha
    refine ⟨r, l3, fun i j hi hj => hr i j hi hj hi, ?_⟩
    rw [v77_12]
    simp (disch := (first | assumption | exact hb0 | exact hb1 | exact bI_ok | exact znl_i | exact znl_r | exact znl_n | exact zw0 | exact zw1 | exact zw2 | exact zw3 | exact zw4 | exact zx0 | exact zx1 | exact zx2 | exact zx3 | ((repeat' (first | assumption | apply zset_eq | apply zset_ne | omega)); done) | omega | (with_unfolding_all rfl) | fail)) only [v77_0, v77_1, v77_4, v77_5, v77_8, v77_9, v77_10, v77_11, v77_13, v77_14, v77_17, v77_18, v77_20, v77_21, v77_24, v77_25, v77_28, v77_30, v77_31, v77_32, v77_33, v77_34, v77_35, v77_36, v77_39, v77_40, v77_43, v77_44, v77_45, v77_48, v77_51, v77_54, v77_58, v77_60, v77_61, v77_64, v77_67, v77_68, v77_70, v77_71, v77_74, v77_77, v77_78, v77_81, v77_83, v77_84, v77_85, v77_86, v77_87, v77_88, v77_90, v77_91, v77_94, v77_96, v77_99, v77_101, v77_102, v77_103, v77_104, v77_107, v77_108, v77_109, v77_110, v77_113, v77_115, v77_116, v77_119, v77_120, v77_121, v77_122, v77_123, v77_124, v77_125, v77_126, v77_129, v77_132, v77_135, v77_138, v77_139, v77_141, v77_142, v77_145, v77_146, v77_148, v77_149, v77_152, v77_153, v77_157, v77_158, v77_161, v77_162, v77_165, v77_167, v77_168, v77_169, v77_170, v77_171, v77_172, v77_175, v77_176, v77_179, v77_181, v77_182, v77_183, v77_185, v77_186, v77_187, v77_190, v77_192, v77_193, v77_194, v77_196, v77_197, v77_198, v77_201, v77_202, v77_205, v77_207, v77_208, v77_209, v77_211, v77_212, v77_213, v77_216, v77_217, v77_220, v77_221, v77_222, v77_225, v77_228, v77_231, v77_234, v77_237, v77_240, zAft_v, zAft_n, iN_add, iN_mul, iN_sub, iN_lt, iN_le, iN_eq, bI_0, bI_1, if_pos, if_neg, ifnn, Nat.reduceAdd, Nat.reduceSub, Nat.reduceMul, Nat.add_zero, Nat.zero_add, List.set_set, not_true_eq_false, not_false_eq_true, if_true, if_false, reduceCtorEq]
    rw [zset_id h24]
  | succ d ih =>
    intro a w r l3 h19 h24 ha hr
    obtain ⟨g1, a1, e1⟩ := r77a (rt := rt) (ry := ry) (re := re) (rp := rp) (rw := rw) (rwd := rwd) (rhi := rhi) (a := a) (T := T) (l4 := l4) (by omega) hT T 0 w r h19 h24 (by omega) (fun i j hi hj h => hr i j hi hj (by omega))
    obtain ⟨g2, l3', a2, e2⟩ := ih (a + 1) (w.set 24 (.inl (2, 3600, .inl fun i => bI (g1 i)))) g1 (some (.int (Int32.ofNat T))) (by ((repeat' (first | assumption | apply zset_eq | apply zset_ne | omega)); done)) (by ((repeat' (first | assumption | apply zset_eq | apply zset_ne | omega)); done)) (by omega) a1
    refine ⟨g2, l3', a2, ?_⟩
    rw [v77_12]
    simp (disch := (first | assumption | exact hb0 | exact hb1 | exact bI_ok | exact znl_i | exact znl_r | exact znl_n | exact zw0 | exact zw1 | exact zw2 | exact zw3 | exact zw4 | exact zx0 | exact zx1 | exact zx2 | exact zx3 | ((repeat' (first | assumption | apply zset_eq | apply zset_ne | omega)); done) | omega | (with_unfolding_all rfl) | fail)) only [v77_0, v77_1, v77_4, v77_5, v77_8, v77_9, v77_10, v77_11, v77_13, v77_14, v77_17, v77_18, v77_20, v77_21, v77_24, v77_25, v77_28, v77_30, v77_31, v77_32, v77_33, v77_34, v77_35, v77_36, v77_39, v77_40, v77_43, v77_44, v77_45, v77_48, v77_51, v77_54, v77_58, v77_60, v77_61, v77_64, v77_67, v77_68, v77_70, v77_71, v77_74, v77_77, v77_78, v77_81, v77_83, v77_84, v77_85, v77_86, v77_87, v77_88, v77_90, v77_91, v77_94, v77_96, v77_99, v77_101, v77_102, v77_103, v77_104, v77_107, v77_108, v77_109, v77_110, v77_113, v77_115, v77_116, v77_119, v77_120, v77_121, v77_122, v77_123, v77_124, v77_125, v77_126, v77_129, v77_132, v77_135, v77_138, v77_139, v77_141, v77_142, v77_145, v77_146, v77_148, v77_149, v77_152, v77_153, v77_157, v77_158, v77_161, v77_162, v77_165, v77_167, v77_168, v77_169, v77_170, v77_171, v77_172, v77_175, v77_176, v77_179, v77_181, v77_182, v77_183, v77_185, v77_186, v77_187, v77_190, v77_192, v77_193, v77_194, v77_196, v77_197, v77_198, v77_201, v77_202, v77_205, v77_207, v77_208, v77_209, v77_211, v77_212, v77_213, v77_216, v77_217, v77_220, v77_221, v77_222, v77_225, v77_228, v77_231, v77_234, v77_237, v77_240, zAft_v, zAft_n, iN_add, iN_mul, iN_sub, iN_lt, iN_le, iN_eq, bI_0, bI_1, if_pos, if_neg, ifnn, Nat.reduceAdd, Nat.reduceSub, Nat.reduceMul, Nat.add_zero, Nat.zero_add, List.set_set, not_true_eq_false, not_false_eq_true, if_true, if_false, reduceCtorEq]
    rw [e1]
    simp (disch := (first | assumption | exact hb0 | exact hb1 | exact bI_ok | exact znl_i | exact znl_r | exact znl_n | exact zw0 | exact zw1 | exact zw2 | exact zw3 | exact zw4 | exact zx0 | exact zx1 | exact zx2 | exact zx3 | ((repeat' (first | assumption | apply zset_eq | apply zset_ne | omega)); done) | omega | (with_unfolding_all rfl) | fail)) only [v77_0, v77_1, v77_4, v77_5, v77_8, v77_9, v77_10, v77_11, v77_13, v77_14, v77_17, v77_18, v77_20, v77_21, v77_24, v77_25, v77_28, v77_30, v77_31, v77_32, v77_33, v77_34, v77_35, v77_36, v77_39, v77_40, v77_43, v77_44, v77_45, v77_48, v77_51, v77_54, v77_58, v77_60, v77_61, v77_64, v77_67, v77_68, v77_70, v77_71, v77_74, v77_77, v77_78, v77_81, v77_83, v77_84, v77_85, v77_86, v77_87, v77_88, v77_90, v77_91, v77_94, v77_96, v77_99, v77_101, v77_102, v77_103, v77_104, v77_107, v77_108, v77_109, v77_110, v77_113, v77_115, v77_116, v77_119, v77_120, v77_121, v77_122, v77_123, v77_124, v77_125, v77_126, v77_129, v77_132, v77_135, v77_138, v77_139, v77_141, v77_142, v77_145, v77_146, v77_148, v77_149, v77_152, v77_153, v77_157, v77_158, v77_161, v77_162, v77_165, v77_167, v77_168, v77_169, v77_170, v77_171, v77_172, v77_175, v77_176, v77_179, v77_181, v77_182, v77_183, v77_185, v77_186, v77_187, v77_190, v77_192, v77_193, v77_194, v77_196, v77_197, v77_198, v77_201, v77_202, v77_205, v77_207, v77_208, v77_209, v77_211, v77_212, v77_213, v77_216, v77_217, v77_220, v77_221, v77_222, v77_225, v77_228, v77_231, v77_234, v77_237, v77_240, zAft_v, zAft_n, iN_add, iN_mul, iN_sub, iN_lt, iN_le, iN_eq, bI_0, bI_1, if_pos, if_neg, ifnn, Nat.reduceAdd, Nat.reduceSub, Nat.reduceMul, Nat.add_zero, Nat.zero_add, List.set_set, not_true_eq_false, not_false_eq_true, if_true, if_false, reduceCtorEq]
    rw [e2, List.set_set]
theorem dip_step {ov : Nat → Nat → Bool} {pc pc' : Nat → Nat → Bool} {ce cp p e : Nat} (he : e < ce) (hp : p < cp) (h : ∀ q x, pc' q x = (pc q x || (decide (q = p) && decide (x = e)))) (hn : pc p e = false) (i j : Nat) (hi : i < ce + cp) :
    dip ov pc' ce cp i j = if i = (if ov p e = true then e else ce + p) ∧ j = (if ov p e = true then ce + p else e) then true else dip ov pc ce cp i j := by
  unfold dip
  by_cases c : i < ce
  · rw [if_pos c, if_pos c, h]
    by_cases q : j = ce + p ∧ i = e
    · obtain ⟨rfl, rfl⟩ := q
      rw [show ce + p - ce = p by omega, hn]
      cases x : ov p i
      · rw [if_neg (by simp only [Bool.false_eq_true, if_false]; omega)]
        simp
      · simp
        omega
    · have : (decide (ce ≤ j ∧ j < ce + cp) && ((pc (j - ce) i || decide (j - ce = p) && decide (i = e)) && ov (j - ce) i)) = (decide (ce ≤ j ∧ j < ce + cp) && (pc (j - ce) i && ov (j - ce) i)) := by
        by_cases z : ce ≤ j ∧ j < ce + cp
        · have : (decide (j - ce = p) && decide (i = e)) = false := by
            by_cases y : j - ce = p
            · rw [decide_eq_false (show ¬ i = e by omega), Bool.and_false]
            · rw [decide_eq_false y, Bool.false_and]
          rw [this, Bool.or_false]
        · rw [decide_eq_false z, Bool.false_and, Bool.false_and]
      rw [this]
      rw [if_neg]
      split <;> omega
  · rw [if_neg c, if_neg c, h]
    by_cases q : i = ce + p ∧ j = e
    · obtain ⟨rfl, rfl⟩ := q
      rw [show ce + p - ce = p by omega, hn]
      cases x : ov p j
      · simp
        omega
      · rw [if_neg (by simp only [if_true]; omega)]
        simp
    · have : (decide (j < ce) && ((pc (i - ce) j || decide (i - ce = p) && decide (j = e)) && !(ov (i - ce) j))) = (decide (j < ce) && (pc (i - ce) j && !(ov (i - ce) j))) := by
        have : (decide (i - ce = p) && decide (j = e)) = false := by
          by_cases y : i - ce = p
          · rw [decide_eq_false (show ¬ j = e by omega), Bool.and_false]
          · rw [decide_eq_false y, Bool.false_and]
        rw [this, Bool.or_false]
      rw [this]
      rw [if_neg]
      split <;> omega
end spr
