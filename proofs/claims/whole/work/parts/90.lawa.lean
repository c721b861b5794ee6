/-! The law, case by case. -/
theorem zscL_s {n a : Nat} {ls : zL} (h : zscL n ls = true) : zscL n (some (.retAddr a) :: ls) = true := h
theorem lgc {x : Int64} : lg_cmp x x = Int32.ofNat 0 := by
  unfold lg_cmp
  rw [if_neg (by rw [gt_iff_lt, Int64.lt_iff_toInt_lt]; omega), if_pos rfl]
  rfl
theorem InvR_at {w : zW} {rt : Int32} {ou : Nat → Int64} (hI : InvR w rt ou) : w.length = 29 ∧ (∃ fs, w[19]? = some (.inr (4, fs))) ∧ w[28]? = some (.inl (1, 1, .inr (.inl ou))) ∧ zm E0 58 [.ref 19] w = some (.inl (some (.int rt)), w, 0, 0) := by
  obtain ⟨tk, dk, ti, ec, pc, cl, nu, pa, pt, pd, ro, rco, rla, rki, bl, ou, rti, rcl, rab, rpi, kd, dd, tn, dn, ce, cp, pe, pp, th, ptn, pdn, rt, ry, ⟨hl, h0, h1, h2, h3, h4, h5, h6, h7, h8, h9, h10, h11, h12, h13, h14, h15, h16, h17, h18, h19, h20, h21, h22, h23, h24, h25, h26, h27, h28⟩, ⟨f1, f2, f3, f4, f5, f6, f7, f8, f9, f10, f11, f12, f13, f14, f15⟩, hrt, hou⟩ := hI
  subst hrt hou
  exact ⟨hl, ⟨_, h19⟩, h28, m58 h19⟩
/-- what a case does -/
def CaseOk (t L b i : Nat) (f : Nat → Int32) (w : zW) (l5 l6 : Option Value) (ca sl : Nat) : Prop := ∃ (w2 : zW) (rt : Int32) (ou : Nat → Int64) (l5' l6' : Option Value) (mc ms : Nat), InvR w2 rt ou ∧ zscL 29 [l5', l6'] = true ∧ zscL 29 [l6'] = true ∧ mc ≤ 1 ∧ ms ≤ 6 ∧ zval E0 (some (L, f)) 109 (t, [some (.retAddr b), some (.ref 0), some (.ref 19), some (.ref 28), some (.int (Int32.ofNat i)), l5, l6], [], w, ca, sl) = zval E0 (some (L, f)) 109 (1426, [some (.retAddr b), some (.ref 0), some (.ref 19), some (.ref 28), some (.int (Int32.ofNat i)), l5', l6'], [], w2, ca + mc, sl + ms)
theorem d10 : ¬ Int32.ofNat 1 = Int32.ofNat 0 := by decide
theorem b109_127 {Sc : zSc} {ls : zL} {st : List Value} {w : zW} {ca sl : Nat} {x : Int32} : zval E0 Sc 109 (127, ls, .int x :: st, w, ca, sl) = zval E0 Sc 109 (135, ls, .int (bI (decide (¬ x = Int32.ofNat 0))) :: st, w, ca, sl) := by
  rw [v109_127]
  by_cases h : x = Int32.ofNat 0
  · rw [if_pos h, v109_134, decide_eq_false (show ¬ ¬ x = Int32.ofNat 0 from fun u => u h), bI_f]
  · rw [if_neg h, v109_130, v109_131, decide_eq_true h, bI_t]
theorem b109_160 {Sc : zSc} {ls : zL} {st : List Value} {w : zW} {ca sl : Nat} {x : Int32} : zval E0 Sc 109 (160, ls, .int x :: st, w, ca, sl) = zval E0 Sc 109 (168, ls, .int (bI (decide (¬ x = Int32.ofNat 0))) :: st, w, ca, sl) := by
  rw [v109_160]
  by_cases h : x = Int32.ofNat 0
  · rw [if_pos h, v109_167, decide_eq_false (show ¬ ¬ x = Int32.ofNat 0 from fun u => u h), bI_f]
  · rw [if_neg h, v109_163, v109_164, decide_eq_true h, bI_t]
theorem cs0 {L b i : Nat} {f : Nat → Int32} {w : zW} {l5 l6 : Option Value} {ca sl : Nat} {rt0 : Int32} {ou0 : Nat → Int64} (hI : InvR w rt0 ou0) (hi : i + 5 ≤ L) (hL : L ≤ 2560) (q5 : zscL 29 [l5, l6] = true) (q6 : zscL 29 [l6] = true) : CaseOk 120 L b i f w l5 l6 ca sl := by
  obtain ⟨k, bb, w1, w2, mc, ms, ou, e2, hmc, hms, e3, ⟨hl1, fs, h19⟩, hI2, hk, hb⟩ := s92 (v := decide (¬ f (i + 1) = Int32.ofNat 0)) (x := f (i + 2)) (z := f (i + 3)) hI
  obtain ⟨hl, -, -, -⟩ := InvR_at hI
  obtain ⟨hl2, ⟨fs2, h19'⟩, h28, e4⟩ := InvR_at hI2
  have E1 : zval E0 (some (L, f)) 109 (120, [some (.retAddr b), some (.ref 0), some (.ref 19), some (.ref 28), some (.int (Int32.ofNat i)), l5, l6], [], w, ca, sl) = zval E0 (some (L, f)) 109 (196, [some (.retAddr b), some (.ref 0), some (.ref 19), some (.ref 28), some (.int (Int32.ofNat i)), some (.int (Int32.ofNat k)), some (.int bb)], [], w2, ca + mc, sl + ms) := by
    simp (disch := (first | assumption | exact bI_ok | exact znl_i | exact znl_r | exact zw0 | exact zw1 | exact zw2 | exact zw3 | exact zw4 | ((repeat' (first | exact zscL_nil | refine zscL_i ?_ | refine zscL_s ?_ | refine zscL_r ?_ ?_ | exact zscS_nil | refine zscS_i ?_ | refine zscS_r ?_ ?_ | (simp only [hl, hl1, hl2]; first | omega | assumption) | omega)); done) | omega | (with_unfolding_all rfl) | fail)) only [v109_120, v109_121s, v109_122, v109_124, v109_125, v109_126, v109_135s, v109_136, v109_138, v109_139, v109_140, v109_141s, v109_142, v109_144, v109_145, v109_146, v109_147, v109_148, v109_151, v109_153, v109_154s, v109_155, v109_157, v109_158, v109_159, v109_168s, v109_169, v109_171, v109_172, v109_173, v109_174s, v109_175, v109_177, v109_178, v109_179, v109_180, v109_183, v109_185, v109_186, v109_189, v109_191, v109_194, v109_195, b109_127, b109_160, e2, e3, e4, zAft_v, zAft_n, iN_add, Nat.reduceAdd, Nat.add_zero, if_pos, if_neg, not_true_eq_false, not_false_eq_true, if_true, if_false, eq_self]
  refine ⟨w2, _, ou, some (.int (Int32.ofNat k)), some (.int bb), mc, ms, hI2, rfl, rfl, hmc, hms, E1.trans ?_⟩
  by_cases q : k = 0
  · subst q
    have hb := hb rfl
    simp (disch := (first | assumption | exact bI_ok | exact znl_i | exact znl_r | exact zw0 | exact zw1 | exact zw2 | exact zw3 | exact zw4 | ((repeat' (first | exact zscL_nil | refine zscL_i ?_ | refine zscL_s ?_ | refine zscL_r ?_ ?_ | exact zscS_nil | refine zscS_i ?_ | refine zscS_r ?_ ?_ | (simp only [hl, hl1, hl2]; first | omega | assumption) | omega)); done) | omega | (with_unfolding_all rfl) | fail)) only [v109_196, v109_198, v109_201, v109_202, v109_203, v109_204, v109_206, v109_207, v109_208, v109_211, v109_212, v109_213, hb, lgc, zAft_v, zAft_n, iN_add, Nat.reduceAdd, Nat.add_zero, if_pos, if_neg, not_true_eq_false, not_false_eq_true, if_true, if_false, eq_self]
  · have q' : ¬ Int32.ofNat k = Int32.ofNat 0 := by rw [iN_eq (by omega) (by omega)]; exact q
    simp (disch := (first | assumption | exact bI_ok | exact znl_i | exact znl_r | exact zw0 | exact zw1 | exact zw2 | exact zw3 | exact zw4 | ((repeat' (first | exact zscL_nil | refine zscL_i ?_ | refine zscL_s ?_ | refine zscL_r ?_ ?_ | exact zscS_nil | refine zscS_i ?_ | refine zscS_r ?_ ?_ | (simp only [hl, hl1, hl2]; first | omega | assumption) | omega)); done) | omega | (with_unfolding_all rfl) | fail)) only [v109_196, v109_198, v109_201, v109_202, v109_203, v109_204, v109_206, v109_207, v109_208, v109_211, v109_212, v109_213, q', zAft_v, zAft_n, iN_add, Nat.reduceAdd, Nat.add_zero, if_pos, if_neg, not_true_eq_false, not_false_eq_true, if_true, if_false, eq_self]
theorem b109_223 {Sc : zSc} {ls : zL} {st : List Value} {w : zW} {ca sl : Nat} {x : Int32} : zval E0 Sc 109 (223, ls, .int x :: st, w, ca, sl) = zval E0 Sc 109 (231, ls, .int (bI (decide (¬ x = Int32.ofNat 0))) :: st, w, ca, sl) := by
  rw [v109_223]
  by_cases h : x = Int32.ofNat 0
  · rw [if_pos h, v109_230, decide_eq_false (show ¬ ¬ x = Int32.ofNat 0 from fun u => u h), bI_f]
  · rw [if_neg h, v109_226, v109_227, decide_eq_true h, bI_t]
theorem b109_249 {Sc : zSc} {ls : zL} {st : List Value} {w : zW} {ca sl : Nat} {x : Int32} : zval E0 Sc 109 (249, ls, .int x :: st, w, ca, sl) = zval E0 Sc 109 (257, ls, .int (bI (decide (¬ x = Int32.ofNat 0))) :: st, w, ca, sl) := by
  rw [v109_249]
  by_cases h : x = Int32.ofNat 0
  · rw [if_pos h, v109_256, decide_eq_false (show ¬ ¬ x = Int32.ofNat 0 from fun u => u h), bI_f]
  · rw [if_neg h, v109_252, v109_253, decide_eq_true h, bI_t]
theorem b109_270 {Sc : zSc} {ls : zL} {st : List Value} {w : zW} {ca sl : Nat} {x : Int32} : zval E0 Sc 109 (270, ls, .int x :: st, w, ca, sl) = zval E0 Sc 109 (278, ls, .int (bI (decide (¬ x = Int32.ofNat 0))) :: st, w, ca, sl) := by
  rw [v109_270]
  by_cases h : x = Int32.ofNat 0
  · rw [if_pos h, v109_277, decide_eq_false (show ¬ ¬ x = Int32.ofNat 0 from fun u => u h), bI_f]
  · rw [if_neg h, v109_273, v109_274, decide_eq_true h, bI_t]
theorem b109_296 {Sc : zSc} {ls : zL} {st : List Value} {w : zW} {ca sl : Nat} {x : Int32} : zval E0 Sc 109 (296, ls, .int x :: st, w, ca, sl) = zval E0 Sc 109 (304, ls, .int (bI (decide (¬ x = Int32.ofNat 0))) :: st, w, ca, sl) := by
  rw [v109_296]
  by_cases h : x = Int32.ofNat 0
  · rw [if_pos h, v109_303, decide_eq_false (show ¬ ¬ x = Int32.ofNat 0 from fun u => u h), bI_f]
  · rw [if_neg h, v109_299, v109_300, decide_eq_true h, bI_t]
theorem cs1 {L b i : Nat} {f : Nat → Int32} {w : zW} {l5 l6 : Option Value} {ca sl : Nat} {rt0 : Int32} {ou0 : Nat → Int64} (hI : InvR w rt0 ou0) (hi : i + 5 ≤ L) (hL : L ≤ 2560) (q5 : zscL 29 [l5, l6] = true) (q6 : zscL 29 [l6] = true) : CaseOk 216 L b i f w l5 l6 ca sl := by
  obtain ⟨k, bb, w1, w2, mc, ms, ou, e2, hmc, hms, e3, ⟨hl1, fs, h19⟩, hI2, hk, hb⟩ := s93 (v := decide (¬ f (i + 1) = Int32.ofNat 0)) (x := f (i + 2)) (z := f (i + 3)) (t := decide (¬ f (i + 4) = Int32.ofNat 0)) hI
  obtain ⟨hl, -, -, -⟩ := InvR_at hI
  obtain ⟨hl2, ⟨fs2, h19'⟩, h28, e4⟩ := InvR_at hI2
  have E1 : zval E0 (some (L, f)) 109 (216, [some (.retAddr b), some (.ref 0), some (.ref 19), some (.ref 28), some (.int (Int32.ofNat i)), l5, l6], [], w, ca, sl) = zval E0 (some (L, f)) 109 (320, [some (.retAddr b), some (.ref 0), some (.ref 19), some (.ref 28), some (.int (Int32.ofNat i)), some (.int (Int32.ofNat k)), some (.int bb)], [], w2, ca + mc, sl + ms) := by
    simp (disch := (first | assumption | exact bI_ok | exact znl_i | exact znl_r | exact zw0 | exact zw1 | exact zw2 | exact zw3 | exact zw4 | ((repeat' (first | exact zscL_nil | refine zscL_i ?_ | refine zscL_s ?_ | refine zscL_r ?_ ?_ | exact zscS_nil | refine zscS_i ?_ | refine zscS_r ?_ ?_ | (simp only [hl, hl1, hl2]; first | omega | assumption) | omega)); done) | omega | (with_unfolding_all rfl) | fail)) only [v109_216, v109_217s, v109_218, v109_220, v109_221, v109_222, v109_231s, v109_232, v109_234, v109_235, v109_236, v109_237s, v109_238, v109_240, v109_241, v109_242, v109_243s, v109_244, v109_246, v109_247, v109_248, v109_257, v109_258, v109_261, v109_263, v109_264s, v109_265, v109_267, v109_268, v109_269, v109_278s, v109_279, v109_281, v109_282, v109_283, v109_284s, v109_285, v109_287, v109_288, v109_289, v109_290s, v109_291, v109_293, v109_294, v109_295, v109_304, v109_307, v109_309, v109_310, v109_313, v109_315, v109_318, v109_319, b109_223, b109_249, b109_270, b109_296, e2, e3, e4, zAft_v, zAft_n, iN_add, Nat.reduceAdd, Nat.add_zero, if_pos, if_neg, not_true_eq_false, not_false_eq_true, if_true, if_false, eq_self]
  refine ⟨w2, _, ou, some (.int (Int32.ofNat k)), some (.int bb), mc, ms, hI2, rfl, rfl, hmc, hms, E1.trans ?_⟩
  by_cases q : k = 0
  · subst q
    have hb := hb rfl
    simp (disch := (first | assumption | exact bI_ok | exact znl_i | exact znl_r | exact zw0 | exact zw1 | exact zw2 | exact zw3 | exact zw4 | ((repeat' (first | exact zscL_nil | refine zscL_i ?_ | refine zscL_s ?_ | refine zscL_r ?_ ?_ | exact zscS_nil | refine zscS_i ?_ | refine zscS_r ?_ ?_ | (simp only [hl, hl1, hl2]; first | omega | assumption) | omega)); done) | omega | (with_unfolding_all rfl) | fail)) only [v109_320, v109_322, v109_325, v109_326, v109_327, v109_328, v109_330, v109_331, v109_332, v109_335, v109_336, v109_337, hb, lgc, zAft_v, zAft_n, iN_add, Nat.reduceAdd, Nat.add_zero, if_pos, if_neg, not_true_eq_false, not_false_eq_true, if_true, if_false, eq_self]
  · have q' : ¬ Int32.ofNat k = Int32.ofNat 0 := by rw [iN_eq (by omega) (by omega)]; exact q
    simp (disch := (first | assumption | exact bI_ok | exact znl_i | exact znl_r | exact zw0 | exact zw1 | exact zw2 | exact zw3 | exact zw4 | ((repeat' (first | exact zscL_nil | refine zscL_i ?_ | refine zscL_s ?_ | refine zscL_r ?_ ?_ | exact zscS_nil | refine zscS_i ?_ | refine zscS_r ?_ ?_ | (simp only [hl, hl1, hl2]; first | omega | assumption) | omega)); done) | omega | (with_unfolding_all rfl) | fail)) only [v109_320, v109_322, v109_325, v109_326, v109_327, v109_328, v109_330, v109_331, v109_332, v109_335, v109_336, v109_337, q', zAft_v, zAft_n, iN_add, Nat.reduceAdd, Nat.add_zero, if_pos, if_neg, not_true_eq_false, not_false_eq_true, if_true, if_false, eq_self]
theorem b109_347 {Sc : zSc} {ls : zL} {st : List Value} {w : zW} {ca sl : Nat} {x : Int32} : zval E0 Sc 109 (347, ls, .int x :: st, w, ca, sl) = zval E0 Sc 109 (355, ls, .int (bI (decide (¬ x = Int32.ofNat 0))) :: st, w, ca, sl) := by
  rw [v109_347]
  by_cases h : x = Int32.ofNat 0
  · rw [if_pos h, v109_354, decide_eq_false (show ¬ ¬ x = Int32.ofNat 0 from fun u => u h), bI_f]
  · rw [if_neg h, v109_350, v109_351, decide_eq_true h, bI_t]
theorem b109_368 {Sc : zSc} {ls : zL} {st : List Value} {w : zW} {ca sl : Nat} {x : Int32} : zval E0 Sc 109 (368, ls, .int x :: st, w, ca, sl) = zval E0 Sc 109 (376, ls, .int (bI (decide (¬ x = Int32.ofNat 0))) :: st, w, ca, sl) := by
  rw [v109_368]
  by_cases h : x = Int32.ofNat 0
  · rw [if_pos h, v109_375, decide_eq_false (show ¬ ¬ x = Int32.ofNat 0 from fun u => u h), bI_f]
  · rw [if_neg h, v109_371, v109_372, decide_eq_true h, bI_t]
theorem cs2 {L b i : Nat} {f : Nat → Int32} {w : zW} {l5 l6 : Option Value} {ca sl : Nat} {rt0 : Int32} {ou0 : Nat → Int64} (hI : InvR w rt0 ou0) (hi : i + 5 ≤ L) (hL : L ≤ 2560) (q5 : zscL 29 [l5, l6] = true) (q6 : zscL 29 [l6] = true) : CaseOk 340 L b i f w l5 l6 ca sl := by
  obtain ⟨k, bb, w1, w2, mc, ms, ou, e2, hmc, hms, e3, ⟨hl1, fs, h19⟩, hI2, hk, hb⟩ := s94 (v := decide (¬ f (i + 1) = Int32.ofNat 0)) hI
  obtain ⟨hl, -, -, -⟩ := InvR_at hI
  obtain ⟨hl2, ⟨fs2, h19'⟩, h28, e4⟩ := InvR_at hI2
  have E1 : zval E0 (some (L, f)) 109 (340, [some (.retAddr b), some (.ref 0), some (.ref 19), some (.ref 28), some (.int (Int32.ofNat i)), l5, l6], [], w, ca, sl) = zval E0 (some (L, f)) 109 (392, [some (.retAddr b), some (.ref 0), some (.ref 19), some (.ref 28), some (.int (Int32.ofNat i)), some (.int (Int32.ofNat k)), some (.int bb)], [], w2, ca + mc, sl + ms) := by
    simp (disch := (first | assumption | exact bI_ok | exact znl_i | exact znl_r | exact zw0 | exact zw1 | exact zw2 | exact zw3 | exact zw4 | ((repeat' (first | exact zscL_nil | refine zscL_i ?_ | refine zscL_s ?_ | refine zscL_r ?_ ?_ | exact zscS_nil | refine zscS_i ?_ | refine zscS_r ?_ ?_ | (simp only [hl, hl1, hl2]; first | omega | assumption) | omega)); done) | omega | (with_unfolding_all rfl) | fail)) only [v109_340, v109_341s, v109_342, v109_344, v109_345, v109_346, v109_355, v109_356, v109_359, v109_361, v109_362s, v109_363, v109_365, v109_366, v109_367, v109_376, v109_379, v109_381, v109_382, v109_385, v109_387, v109_390, v109_391, b109_347, b109_368, e2, e3, e4, zAft_v, zAft_n, iN_add, Nat.reduceAdd, Nat.add_zero, if_pos, if_neg, not_true_eq_false, not_false_eq_true, if_true, if_false, eq_self]
  refine ⟨w2, _, ou, some (.int (Int32.ofNat k)), some (.int bb), mc, ms, hI2, rfl, rfl, hmc, hms, E1.trans ?_⟩
  by_cases q : k = 0
  · subst q
    have hb := hb rfl
    simp (disch := (first | assumption | exact bI_ok | exact znl_i | exact znl_r | exact zw0 | exact zw1 | exact zw2 | exact zw3 | exact zw4 | ((repeat' (first | exact zscL_nil | refine zscL_i ?_ | refine zscL_s ?_ | refine zscL_r ?_ ?_ | exact zscS_nil | refine zscS_i ?_ | refine zscS_r ?_ ?_ | (simp only [hl, hl1, hl2]; first | omega | assumption) | omega)); done) | omega | (with_unfolding_all rfl) | fail)) only [v109_392, v109_394, v109_397, v109_398, v109_399, v109_400, v109_402, v109_403, v109_404, v109_407, v109_408, v109_409, hb, lgc, zAft_v, zAft_n, iN_add, Nat.reduceAdd, Nat.add_zero, if_pos, if_neg, not_true_eq_false, not_false_eq_true, if_true, if_false, eq_self]
  · have q' : ¬ Int32.ofNat k = Int32.ofNat 0 := by rw [iN_eq (by omega) (by omega)]; exact q
    simp (disch := (first | assumption | exact bI_ok | exact znl_i | exact znl_r | exact zw0 | exact zw1 | exact zw2 | exact zw3 | exact zw4 | ((repeat' (first | exact zscL_nil | refine zscL_i ?_ | refine zscL_s ?_ | refine zscL_r ?_ ?_ | exact zscS_nil | refine zscS_i ?_ | refine zscS_r ?_ ?_ | (simp only [hl, hl1, hl2]; first | omega | assumption) | omega)); done) | omega | (with_unfolding_all rfl) | fail)) only [v109_392, v109_394, v109_397, v109_398, v109_399, v109_400, v109_402, v109_403, v109_404, v109_407, v109_408, v109_409, q', zAft_v, zAft_n, iN_add, Nat.reduceAdd, Nat.add_zero, if_pos, if_neg, not_true_eq_false, not_false_eq_true, if_true, if_false, eq_self]
theorem b109_431 {Sc : zSc} {ls : zL} {st : List Value} {w : zW} {ca sl : Nat} {x : Int32} : zval E0 Sc 109 (431, ls, .int x :: st, w, ca, sl) = zval E0 Sc 109 (439, ls, .int (bI (decide (¬ x = Int32.ofNat 0))) :: st, w, ca, sl) := by
  rw [v109_431]
  by_cases h : x = Int32.ofNat 0
  · rw [if_pos h, v109_438, decide_eq_false (show ¬ ¬ x = Int32.ofNat 0 from fun u => u h), bI_f]
  · rw [if_neg h, v109_434, v109_435, decide_eq_true h, bI_t]
theorem b109_464 {Sc : zSc} {ls : zL} {st : List Value} {w : zW} {ca sl : Nat} {x : Int32} : zval E0 Sc 109 (464, ls, .int x :: st, w, ca, sl) = zval E0 Sc 109 (472, ls, .int (bI (decide (¬ x = Int32.ofNat 0))) :: st, w, ca, sl) := by
  rw [v109_464]
  by_cases h : x = Int32.ofNat 0
  · rw [if_pos h, v109_471, decide_eq_false (show ¬ ¬ x = Int32.ofNat 0 from fun u => u h), bI_f]
  · rw [if_neg h, v109_467, v109_468, decide_eq_true h, bI_t]
theorem cs3 {L b i : Nat} {f : Nat → Int32} {w : zW} {l5 l6 : Option Value} {ca sl : Nat} {rt0 : Int32} {ou0 : Nat → Int64} (hI : InvR w rt0 ou0) (hi : i + 5 ≤ L) (hL : L ≤ 2560) (q5 : zscL 29 [l5, l6] = true) (q6 : zscL 29 [l6] = true) : CaseOk 412 L b i f w l5 l6 ca sl := by
  obtain ⟨k, bb, w1, w2, mc, ms, ou, e2, hmc, hms, e3, ⟨hl1, fs, h19⟩, hI2, hk, hb⟩ := s95 (x := f (i + 1)) (z := f (i + 2)) (v := decide (¬ f (i + 3) = Int32.ofNat 0)) hI
  obtain ⟨hl, -, -, -⟩ := InvR_at hI
  obtain ⟨hl2, ⟨fs2, h19'⟩, h28, e4⟩ := InvR_at hI2
  have E1 : zval E0 (some (L, f)) 109 (412, [some (.retAddr b), some (.ref 0), some (.ref 19), some (.ref 28), some (.int (Int32.ofNat i)), l5, l6], [], w, ca, sl) = zval E0 (some (L, f)) 109 (488, [some (.retAddr b), some (.ref 0), some (.ref 19), some (.ref 28), some (.int (Int32.ofNat i)), some (.int (Int32.ofNat k)), some (.int (bI bb))], [], w2, ca + mc, sl + ms) := by
    simp (disch := (first | assumption | exact bI_ok | exact znl_i | exact znl_r | exact zw0 | exact zw1 | exact zw2 | exact zw3 | exact zw4 | ((repeat' (first | exact zscL_nil | refine zscL_i ?_ | refine zscL_s ?_ | refine zscL_r ?_ ?_ | exact zscS_nil | refine zscS_i ?_ | refine zscS_r ?_ ?_ | (simp only [hl, hl1, hl2]; first | omega | assumption) | omega)); done) | omega | (with_unfolding_all rfl) | fail)) only [v109_412, v109_413s, v109_414, v109_416, v109_417, v109_418, v109_419s, v109_420, v109_422, v109_423, v109_424, v109_425s, v109_426, v109_428, v109_429, v109_430, v109_439, v109_440, v109_443, v109_445, v109_446s, v109_447, v109_449, v109_450, v109_451, v109_452s, v109_453, v109_455, v109_456, v109_457, v109_458s, v109_459, v109_461, v109_462, v109_463, v109_472, v109_475, v109_477, v109_478, v109_481, v109_483, v109_486, v109_487, b109_431, b109_464, e2, e3, e4, zAft_v, zAft_n, iN_add, Nat.reduceAdd, Nat.add_zero, if_pos, if_neg, not_true_eq_false, not_false_eq_true, if_true, if_false, eq_self]
  refine ⟨w2, _, ou, some (.int (Int32.ofNat k)), some (.int (bI bb)), mc, ms, hI2, rfl, rfl, hmc, hms, E1.trans ?_⟩
  by_cases q : k = 0
  · subst q
    have hb := hb rfl
    cases bb
    · rw [if_neg (by decide)] at hb
      simp (disch := (first | assumption | exact bI_ok | exact znl_i | exact znl_r | exact zw0 | exact zw1 | exact zw2 | exact zw3 | exact zw4 | ((repeat' (first | exact zscL_nil | refine zscL_i ?_ | refine zscL_s ?_ | refine zscL_r ?_ ?_ | exact zscS_nil | refine zscS_i ?_ | refine zscS_r ?_ ?_ | (simp only [hl, hl1, hl2]; first | omega | assumption) | omega)); done) | omega | (with_unfolding_all rfl) | fail)) only [v109_488, v109_490, v109_493, v109_494, v109_495, v109_496, v109_498, v109_501, v109_502, v109_505, v109_506, v109_507, v109_510, v109_511, v109_512, hb, lgc, bI_f, zAft_v, zAft_n, iN_add, Nat.reduceAdd, Nat.add_zero, if_pos, if_neg, not_true_eq_false, not_false_eq_true, if_true, if_false, eq_self]
    · rw [if_pos rfl] at hb
      simp (disch := (first | assumption | exact bI_ok | exact znl_i | exact znl_r | exact zw0 | exact zw1 | exact zw2 | exact zw3 | exact zw4 | ((repeat' (first | exact zscL_nil | refine zscL_i ?_ | refine zscL_s ?_ | refine zscL_r ?_ ?_ | exact zscS_nil | refine zscS_i ?_ | refine zscS_r ?_ ?_ | (simp only [hl, hl1, hl2]; first | omega | assumption) | omega)); done) | omega | (with_unfolding_all rfl) | fail)) only [v109_488, v109_490, v109_493, v109_494, v109_495, v109_496, v109_498, v109_501, v109_502, v109_505, v109_506, v109_507, v109_510, v109_511, v109_512, hb, lgc, bI_t, d10, zAft_v, zAft_n, iN_add, Nat.reduceAdd, Nat.add_zero, if_pos, if_neg, not_true_eq_false, not_false_eq_true, if_true, if_false, eq_self]
  · have q' : ¬ Int32.ofNat k = Int32.ofNat 0 := by rw [iN_eq (by omega) (by omega)]; exact q
    simp (disch := (first | assumption | exact bI_ok | exact znl_i | exact znl_r | exact zw0 | exact zw1 | exact zw2 | exact zw3 | exact zw4 | ((repeat' (first | exact zscL_nil | refine zscL_i ?_ | refine zscL_s ?_ | refine zscL_r ?_ ?_ | exact zscS_nil | refine zscS_i ?_ | refine zscS_r ?_ ?_ | (simp only [hl, hl1, hl2]; first | omega | assumption) | omega)); done) | omega | (with_unfolding_all rfl) | fail)) only [v109_488, v109_490, v109_493, v109_494, v109_495, v109_496, v109_498, v109_501, v109_502, v109_505, v109_506, v109_507, v109_510, v109_511, v109_512, q', zAft_v, zAft_n, iN_add, Nat.reduceAdd, Nat.add_zero, if_pos, if_neg, not_true_eq_false, not_false_eq_true, if_true, if_false, eq_self]
theorem cs4 {L b i : Nat} {f : Nat → Int32} {w : zW} {l5 l6 : Option Value} {ca sl : Nat} {rt0 : Int32} {ou0 : Nat → Int64} (hI : InvR w rt0 ou0) (hi : i + 5 ≤ L) (hL : L ≤ 2560) (q5 : zscL 29 [l5, l6] = true) (q6 : zscL 29 [l6] = true) : CaseOk 515 L b i f w l5 l6 ca sl := by
  obtain ⟨k, bb, w1, w2, mc, ms, ou, e2, hmc, hms, e3, ⟨hl1, fs, h19⟩, hI2, hk, hb⟩ := s96 (x := f (i + 1)) (z := f (i + 2)) (u := f (i + 3)) hI
  obtain ⟨hl, -, -, -⟩ := InvR_at hI
  obtain ⟨hl2, ⟨fs2, h19'⟩, h28, e4⟩ := InvR_at hI2
  have E1 : zval E0 (some (L, f)) 109 (515, [some (.retAddr b), some (.ref 0), some (.ref 19), some (.ref 28), some (.int (Int32.ofNat i)), l5, l6], [], w, ca, sl) = zval E0 (some (L, f)) 109 (575, [some (.retAddr b), some (.ref 0), some (.ref 19), some (.ref 28), some (.int (Int32.ofNat i)), some (.int (Int32.ofNat k)), some (.int bb)], [], w2, ca + mc, sl + ms) := by
    simp (disch := (first | assumption | exact bI_ok | exact znl_i | exact znl_r | exact zw0 | exact zw1 | exact zw2 | exact zw3 | exact zw4 | ((repeat' (first | exact zscL_nil | refine zscL_i ?_ | refine zscL_s ?_ | refine zscL_r ?_ ?_ | exact zscS_nil | refine zscS_i ?_ | refine zscS_r ?_ ?_ | (simp only [hl, hl1, hl2]; first | omega | assumption) | omega)); done) | omega | (with_unfolding_all rfl) | fail)) only [v109_515, v109_516s, v109_517, v109_519, v109_520, v109_521, v109_522s, v109_523, v109_525, v109_526, v109_527, v109_528s, v109_529, v109_531, v109_532, v109_533, v109_534, v109_535, v109_538, v109_540, v109_541s, v109_542, v109_544, v109_545, v109_546, v109_547s, v109_548, v109_550, v109_551, v109_552, v109_553s, v109_554, v109_556, v109_557, v109_558, v109_559, v109_562, v109_564, v109_565, v109_568, v109_570, v109_573, v109_574, e2, e3, e4, zAft_v, zAft_n, iN_add, Nat.reduceAdd, Nat.add_zero, if_pos, if_neg, not_true_eq_false, not_false_eq_true, if_true, if_false, eq_self]
  refine ⟨w2, _, ou, some (.int (Int32.ofNat k)), some (.int bb), mc, ms, hI2, rfl, rfl, hmc, hms, E1.trans ?_⟩
  by_cases q : k = 0
  · subst q
    have hb := hb rfl
    simp (disch := (first | assumption | exact bI_ok | exact znl_i | exact znl_r | exact zw0 | exact zw1 | exact zw2 | exact zw3 | exact zw4 | ((repeat' (first | exact zscL_nil | refine zscL_i ?_ | refine zscL_s ?_ | refine zscL_r ?_ ?_ | exact zscS_nil | refine zscS_i ?_ | refine zscS_r ?_ ?_ | (simp only [hl, hl1, hl2]; first | omega | assumption) | omega)); done) | omega | (with_unfolding_all rfl) | fail)) only [v109_575, v109_577, v109_580, v109_581, v109_582, v109_583, v109_585, v109_586, v109_587, v109_590, v109_591, v109_592, hb, lgc, zAft_v, zAft_n, iN_add, Nat.reduceAdd, Nat.add_zero, if_pos, if_neg, not_true_eq_false, not_false_eq_true, if_true, if_false, eq_self]
  · have q' : ¬ Int32.ofNat k = Int32.ofNat 0 := by rw [iN_eq (by omega) (by omega)]; exact q
    simp (disch := (first | assumption | exact bI_ok | exact znl_i | exact znl_r | exact zw0 | exact zw1 | exact zw2 | exact zw3 | exact zw4 | ((repeat' (first | exact zscL_nil | refine zscL_i ?_ | refine zscL_s ?_ | refine zscL_r ?_ ?_ | exact zscS_nil | refine zscS_i ?_ | refine zscS_r ?_ ?_ | (simp only [hl, hl1, hl2]; first | omega | assumption) | omega)); done) | omega | (with_unfolding_all rfl) | fail)) only [v109_575, v109_577, v109_580, v109_581, v109_582, v109_583, v109_585, v109_586, v109_587, v109_590, v109_591, v109_592, q', zAft_v, zAft_n, iN_add, Nat.reduceAdd, Nat.add_zero, if_pos, if_neg, not_true_eq_false, not_false_eq_true, if_true, if_false, eq_self]
theorem b109_602 {Sc : zSc} {ls : zL} {st : List Value} {w : zW} {ca sl : Nat} {x : Int32} : zval E0 Sc 109 (602, ls, .int x :: st, w, ca, sl) = zval E0 Sc 109 (610, ls, .int (bI (decide (¬ x = Int32.ofNat 0))) :: st, w, ca, sl) := by
  rw [v109_602]
  by_cases h : x = Int32.ofNat 0
  · rw [if_pos h, v109_609, decide_eq_false (show ¬ ¬ x = Int32.ofNat 0 from fun u => u h), bI_f]
  · rw [if_neg h, v109_605, v109_606, decide_eq_true h, bI_t]
theorem b109_635 {Sc : zSc} {ls : zL} {st : List Value} {w : zW} {ca sl : Nat} {x : Int32} : zval E0 Sc 109 (635, ls, .int x :: st, w, ca, sl) = zval E0 Sc 109 (643, ls, .int (bI (decide (¬ x = Int32.ofNat 0))) :: st, w, ca, sl) := by
  rw [v109_635]
  by_cases h : x = Int32.ofNat 0
  · rw [if_pos h, v109_642, decide_eq_false (show ¬ ¬ x = Int32.ofNat 0 from fun u => u h), bI_f]
  · rw [if_neg h, v109_638, v109_639, decide_eq_true h, bI_t]
theorem cs5 {L b i : Nat} {f : Nat → Int32} {w : zW} {l5 l6 : Option Value} {ca sl : Nat} {rt0 : Int32} {ou0 : Nat → Int64} (hI : InvR w rt0 ou0) (hi : i + 5 ≤ L) (hL : L ≤ 2560) (q5 : zscL 29 [l5, l6] = true) (q6 : zscL 29 [l6] = true) : CaseOk 595 L b i f w l5 l6 ca sl := by
  obtain ⟨k, bb, w1, w2, mc, ms, ou, e2, hmc, hms, e3, ⟨hl1, fs, h19⟩, hI2, hk, hb⟩ := s97 (v := decide (¬ f (i + 1) = Int32.ofNat 0)) (x := f (i + 2)) (z := f (i + 3)) hI
  obtain ⟨hl, -, -, -⟩ := InvR_at hI
  obtain ⟨hl2, ⟨fs2, h19'⟩, h28, e4⟩ := InvR_at hI2
  have E1 : zval E0 (some (L, f)) 109 (595, [some (.retAddr b), some (.ref 0), some (.ref 19), some (.ref 28), some (.int (Int32.ofNat i)), l5, l6], [], w, ca, sl) = zval E0 (some (L, f)) 109 (671, [some (.retAddr b), some (.ref 0), some (.ref 19), some (.ref 28), some (.int (Int32.ofNat i)), some (.int (Int32.ofNat k)), some (.int bb)], [], w2, ca + mc, sl + ms) := by
    simp (disch := (first | assumption | exact bI_ok | exact znl_i | exact znl_r | exact zw0 | exact zw1 | exact zw2 | exact zw3 | exact zw4 | ((repeat' (first | exact zscL_nil | refine zscL_i ?_ | refine zscL_s ?_ | refine zscL_r ?_ ?_ | exact zscS_nil | refine zscS_i ?_ | refine zscS_r ?_ ?_ | (simp only [hl, hl1, hl2]; first | omega | assumption) | omega)); done) | omega | (with_unfolding_all rfl) | fail)) only [v109_595, v109_596s, v109_597, v109_599, v109_600, v109_601, v109_610s, v109_611, v109_613, v109_614, v109_615, v109_616s, v109_617, v109_619, v109_620, v109_621, v109_622, v109_623, v109_626, v109_628, v109_629s, v109_630, v109_632, v109_633, v109_634, v109_643s, v109_644, v109_646, v109_647, v109_648, v109_649s, v109_650, v109_652, v109_653, v109_654, v109_655, v109_658, v109_660, v109_661, v109_664, v109_666, v109_669, v109_670, b109_602, b109_635, e2, e3, e4, zAft_v, zAft_n, iN_add, Nat.reduceAdd, Nat.add_zero, if_pos, if_neg, not_true_eq_false, not_false_eq_true, if_true, if_false, eq_self]
  refine ⟨w2, _, ou, some (.int (Int32.ofNat k)), some (.int bb), mc, ms, hI2, rfl, rfl, hmc, hms, E1.trans ?_⟩
  by_cases q : k = 0
  · subst q
    have hb := hb rfl
    simp (disch := (first | assumption | exact bI_ok | exact znl_i | exact znl_r | exact zw0 | exact zw1 | exact zw2 | exact zw3 | exact zw4 | ((repeat' (first | exact zscL_nil | refine zscL_i ?_ | refine zscL_s ?_ | refine zscL_r ?_ ?_ | exact zscS_nil | refine zscS_i ?_ | refine zscS_r ?_ ?_ | (simp only [hl, hl1, hl2]; first | omega | assumption) | omega)); done) | omega | (with_unfolding_all rfl) | fail)) only [v109_671, v109_673, v109_676, v109_677, v109_678, v109_679, v109_681, v109_682, v109_683, v109_686, v109_687, v109_688, hb, lgc, zAft_v, zAft_n, iN_add, Nat.reduceAdd, Nat.add_zero, if_pos, if_neg, not_true_eq_false, not_false_eq_true, if_true, if_false, eq_self]
  · have q' : ¬ Int32.ofNat k = Int32.ofNat 0 := by rw [iN_eq (by omega) (by omega)]; exact q
    simp (disch := (first | assumption | exact bI_ok | exact znl_i | exact znl_r | exact zw0 | exact zw1 | exact zw2 | exact zw3 | exact zw4 | ((repeat' (first | exact zscL_nil | refine zscL_i ?_ | refine zscL_s ?_ | refine zscL_r ?_ ?_ | exact zscS_nil | refine zscS_i ?_ | refine zscS_r ?_ ?_ | (simp only [hl, hl1, hl2]; first | omega | assumption) | omega)); done) | omega | (with_unfolding_all rfl) | fail)) only [v109_671, v109_673, v109_676, v109_677, v109_678, v109_679, v109_681, v109_682, v109_683, v109_686, v109_687, v109_688, q', zAft_v, zAft_n, iN_add, Nat.reduceAdd, Nat.add_zero, if_pos, if_neg, not_true_eq_false, not_false_eq_true, if_true, if_false, eq_self]
