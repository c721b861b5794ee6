/-! The law as a loop. -/
theorem and31 (x : Int32) : ∃ c, c < 32 ∧ x &&& Int32.ofNat 31 = Int32.ofNat c := by
  refine ⟨(x.toBitVec &&& 31#32).toNat, ?_, ?_⟩
  · rw [BitVec.toNat_and]
    exact Nat.lt_of_le_of_lt Nat.and_le_right (by decide)
  · apply Int32.toBitVec.inj
    rw [Int32.toBitVec_and]
    simp
theorem small5 : ∀ L, L < 5 → ∀ i, i < 5 → Int32.ofNat L - Int32.ofNat 5 < Int32.ofNat i := by decide
theorem v109_39 {Sc : zSc} {ls : zL} {st : List Value} {w : zW} {ca sl : Nat} {x : Int32} {t : Nat} (h : zsw 1387 0 16 #[81, 177, 301, 373, 476, 556, 652, 708, 744, 812, 908, 992, 1036, 1092, 1164, 1212, 1315] 39 ls (.int x :: st) = some (t, ls, st)) : zval E0 Sc 109 (39, ls, .int x :: st, w, ca, sl) = zval E0 Sc 109 (t, ls, st, w, ca, sl) := zv_P (eX109 _) (hT0 C109 dL_law_39 (Or.inr rfl) rfl) h
section law
variable {L b i : Nat} {f : Nat → Int32} {w : zW} {l5 l6 : Option Value} {ca sl : Nat} {rt0 : Int32} {ou0 : Nat → Int64}
theorem law_exit (hL : L ≤ 2560) (hi : i ≤ L) (h : ¬ i + 5 ≤ L) : zval E0 (some (L, f)) 109 (23, [some (.retAddr b), some (.ref 0), some (.ref 19), some (.ref 28), some (.int (Int32.ofNat i)), l5, l6], [], w, ca, sl) = some (.inl (some (.int (Int32.ofNat 1))), w, ca, sl) := by
  have q : Int32.ofNat L - Int32.ofNat 5 < Int32.ofNat i := by
    by_cases u : 5 ≤ L
    · rw [iN_sub u, iN_lt (by omega) (by omega)]; omega
    · exact small5 L (by omega) i (by omega)
  rw [v109_23, v109_25s, v109_26, v109_27, v109_28, v109_29, if_pos q, v109_1432, v109_1433 (by decide)]
theorem law_in (hL : L ≤ 2560) (h : i + 5 ≤ L) : zval E0 (some (L, f)) 109 (23, [some (.retAddr b), some (.ref 0), some (.ref 19), some (.ref 28), some (.int (Int32.ofNat i)), l5, l6], [], w, ca, sl) = zval E0 (some (L, f)) 109 (39, [some (.retAddr b), some (.ref 0), some (.ref 19), some (.ref 28), some (.int (Int32.ofNat i)), l5, l6], [.int (f i &&& Int32.ofNat 31)], w, ca, sl) := by
  have q : ¬ Int32.ofNat L - Int32.ofNat 5 < Int32.ofNat i := by
    rw [iN_sub (by omega), iN_lt (by omega) (by omega)]; omega
  rw [v109_23, v109_25s, v109_26, v109_27, v109_28, v109_29, if_neg q, v109_32s, v109_33, v109_35 (by omega) hL, v109_36, v109_38]
theorem law_case (hI : InvR w rt0 ou0) (hi : i + 5 ≤ L) (hL : L ≤ 2560) (q5 : zscL 29 [l5, l6] = true) (q6 : zscL 29 [l6] = true) : CaseOk 23 L b i f w l5 l6 ca sl := by
  obtain ⟨c, hc, e⟩ := and31 (f i)
  have k : ∀ t, (∀ (ls : zL), zsw 1387 0 16 #[81, 177, 301, 373, 476, 556, 652, 708, 744, 812, 908, 992, 1036, 1092, 1164, 1212, 1315] 39 ls [.int (Int32.ofNat c)] = some (t, ls, [])) → CaseOk t L b i f w l5 l6 ca sl → CaseOk 23 L b i f w l5 l6 ca sl := by
    intro t hz ⟨w2, rt, ou, l5', l6', mc, ms, a1, a2, a3, a4, a5, a6⟩
    refine ⟨w2, rt, ou, l5', l6', mc, ms, a1, a2, a3, a4, a5, Eq.trans ?_ a6⟩
    rw [law_in hL hi, e, v109_39 (hz _)]
  have hc' : c = 0 ∨ c = 1 ∨ c = 2 ∨ c = 3 ∨ c = 4 ∨ c = 5 ∨ c = 6 ∨ c = 7 ∨ c = 8 ∨ c = 9 ∨ c = 10 ∨ c = 11 ∨ c = 12 ∨ c = 13 ∨ c = 14 ∨ c = 15 ∨ c = 16 ∨ 17 ≤ c := by omega
  rcases hc' with rfl | rfl | rfl | rfl | rfl | rfl | rfl | rfl | rfl | rfl | rfl | rfl | rfl | rfl | rfl | rfl | rfl | u
  · exact k 120 (fun _ => rfl) (cs0 hI hi hL q5 q6)
  · exact k 216 (fun _ => rfl) (cs1 hI hi hL q5 q6)
  · exact k 340 (fun _ => rfl) (cs2 hI hi hL q5 q6)
  · exact k 412 (fun _ => rfl) (cs3 hI hi hL q5 q6)
  · exact k 515 (fun _ => rfl) (cs4 hI hi hL q5 q6)
  · exact k 595 (fun _ => rfl) (cs5 hI hi hL q5 q6)
  · exact k 691 (fun _ => rfl) (cs6 hI hi hL q5 q6)
  · exact k 747 (fun _ => rfl) (cs7 hI hi hL q5 q6)
  · exact k 783 (fun _ => rfl) (cs8 hI hi hL q5 q6)
  · exact k 851 (fun _ => rfl) (cs9 hI hi hL q5 q6)
  · exact k 947 (fun _ => rfl) (cs10 hI hi hL q5 q6)
  · exact k 1031 (fun _ => rfl) (cs11 hI hi hL q5 q6)
  · exact k 1075 (fun _ => rfl) (cs12 hI hi hL q5 q6)
  · exact k 1131 (fun _ => rfl) (cs13 hI hi hL q5 q6)
  · exact k 1203 (fun _ => rfl) (cs14 hI hi hL q5 q6)
  · exact k 1251 (fun _ => rfl) (cs15 hI hi hL q5 q6)
  · exact k 1354 (fun _ => rfl) (cs16 hI hi hL q5 q6)
  · refine k 1426 (fun ls => ?_) ⟨w, _, _, l5, l6, 0, 0, hI, q5, q6, by omega, by omega, rfl⟩
    have u' : (16 : Int) < (Int32.ofNat c).toInt := by
      have := (iN_lt (a := 16) (b := c) (by omega) (by omega)).mpr (by omega)
      exact Int32.lt_iff_toInt_lt.mp this
    unfold zsw
    dsimp only
    rw [if_pos (Or.inr u')]
    rfl
theorem law_loop (hL : L ≤ 2560) : ∀ n i (w : zW) (ca sl : Nat) (l5 l6 : Option Value) (rt0 : Int32) (ou0 : Nat → Int64), i ≤ L → L - i ≤ n → InvR w rt0 ou0 → zscL 29 [l5, l6] = true → zscL 29 [l6] = true → ∃ (w' : zW) (mc ms : Nat), 5 * mc ≤ L - i ∧ 5 * ms ≤ 6 * (L - i) ∧ zval E0 (some (L, f)) 109 (23, [some (.retAddr b), some (.ref 0), some (.ref 19), some (.ref 28), some (.int (Int32.ofNat i)), l5, l6], [], w, ca, sl) = some (.inl (some (.int (Int32.ofNat 1))), w', ca + mc, sl + ms) := by
  intro n
  induction n with
  | zero =>
    intro i w ca sl l5 l6 rt0 ou0 hi hn hI q5 q6
    exact ⟨w, 0, 0, by omega, by omega, law_exit hL hi (by omega)⟩
  | succ n ih =>
    intro i w ca sl l5 l6 rt0 ou0 hi hn hI q5 q6
    by_cases h : i + 5 ≤ L
    · obtain ⟨w2, rt, ou, l5', l6', mc, ms, a1, a2, a3, a4, a5, a6⟩ := law_case (b := b) (f := f) (ca := ca) (sl := sl) hI h hL q5 q6
      obtain ⟨w', mc', ms', c1, c2, c3⟩ := ih (i + 5) w2 (ca + mc) (sl + ms) l5' l6' rt ou h (by omega) a1 a2 a3
      refine ⟨w', mc + mc', ms + ms', by omega, by omega, ?_⟩
      rw [a6, v109_1426 znl_r, iN_add, v109_1429, c3, Nat.add_assoc, Nat.add_assoc]
    · exact ⟨w, 0, 0, by omega, by omega, law_exit hL hi h⟩
end law
