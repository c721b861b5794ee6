/-! What the class's factor comes to. -/
/-- how many of the first k are the first of their kind -/
def us (F : Nat → Nat) : Nat → Nat
  | 0 => 0
  | k + 1 => if F k < k then us F k else us F k + 1
theorem us_le {F : Nat → Nat} : ∀ k, us F k ≤ k := by
  intro k
  induction k with
  | zero => exact Nat.le_refl 0
  | succ k ih => rw [us]; split <;> omega
theorem us_mono {F : Nat → Nat} : ∀ (d k : Nat), us F k ≤ us F (k + d) := by
  intro d
  induction d with
  | zero => intro k; exact Nat.le_refl _
  | succ d ih => intro k; have := ih k; rw [← Nat.add_assoc, us]; split <;> omega
/-- the first line that is like line i -/
def fl (l : Nat → Int32) (i : Nat) : Nat := fst (fun j => decide (l j = l i)) i 0
theorem fl_le {l : Nat → Int32} {i : Nat} : fl l i ≤ i := by
  have := fst_le (P := fun j => decide (l j = l i)) i 0
  unfold fl
  omega
theorem fl_same {l : Nat → Int32} {i : Nat} : l (fl l i) = l i := by
  by_cases h : fl l i < i
  · have := fst_hit (P := fun j => decide (l j = l i)) i 0 (by rw [Nat.zero_add]; exact h)
    exact of_decide_eq_true this
  · have := fl_le (l := l) (i := i)
    rw [show fl l i = i by omega]
theorem fl_idem {l : Nat → Int32} {i : Nat} : fl l (fl l i) = fl l i := by
  have h1 := fl_le (l := l) (i := fl l i)
  by_cases h : fl l (fl l i) < fl l i
  · have h2 := fst_min (P := fun j => decide (l j = l i)) i 0 (fl l (fl l i)) (Nat.zero_le _) h
    have h3 : l (fl l (fl l i)) = l i := (fl_same (l := l) (i := fl l i)).trans fl_same
    exact absurd h3 (of_decide_eq_false h2)
  · omega
section fac
theorem m26l {R c a b en pk n N : Nat} {f : Nat → Int32} {v : Bool} (hR : R < N) (ha : a < N) (hc : c < N) (hca : ¬ c = a) (hcb : ¬ c = b) (hcR : ¬ c = R) (hp : pk ≤ 30) (he : en ≤ 30) (hn : n ≤ 30) :
    ∀ (d k : Nat) (w : zW) (f0 : Nat → Int32), w.length = N → w[R]? = some (.inr (2, [.ref c, .int (Int32.ofNat n)])) → w[c]? = some (.inl (0, 30, .inl f0)) → w[a]? = some (.inr (0, [.ref b, .int (Int32.ofNat en), .int (Int32.ofNat pk)])) → w[b]? = some (.inl (0, 30, .inl f)) → k + d = n → (∀ i, i < k → f0 i = Int32.ofNat (us (fl (ln f pk v)) (fl (ln f pk v) i))) → ∀ (l5 : Option Value), zscL N [l5] = true → 
      ∃ g, (∀ i, i < n → g i = Int32.ofNat (us (fl (ln f pk v)) (fl (ln f pk v) i))) ∧ zval E0 none 26 (14, [some (.ref R), some (.ref a), some (.int (bI v)), some (.int (Int32.ofNat (us (fl (ln f pk v)) k))), some (.int (Int32.ofNat k)), l5], [], w, 0, 0) = some (.inl (some (.int (Int32.ofNat (us (fl (ln f pk v)) n)))), w.set c (.inl (0, 30, .inl g)), 0, 0) := by
  intro d
  induction d with
  | zero =>
    intro k w f0 hl h1 h2 h3 h4 hk hf l5 hl5
    obtain rfl : k = n := hk
    refine ⟨f0, hf, ?_⟩
    rw [v26_14]
    simp (disch := (first | assumption | exact hb0 | exact hb1 | exact bI_ok | exact znl_i | exact znl_r | exact znl_n | exact zw0 | exact zw1 | exact zw2 | exact zw3 | exact zw4 | exact zx0 | exact zx1 | exact zx2 | exact zx3 | ((repeat' (first | assumption | apply zset_eq | apply zset_ne | omega)); done) | ((repeat' (first | exact zscL_nil | refine zscL_i ?_ | refine zscL_n ?_ | refine zscL_r ?_ ?_ | refine zscL_l ?_ | exact zscS_nil | refine zscS_i ?_ | refine zscS_r ?_ ?_ | refine zscS_l ?_ | (simp only [List.length_set, hl]; first | omega | assumption) | omega)); done) | omega | (with_unfolding_all rfl) | fail)) only [v26_0, v26_1, v26_2, v26_3, v26_6, v26_9, v26_10, v26_11, v26_12, v26_16, v26_17, v26_20, v26_23, v26_24, v26_25, v26_27, v26_30, v26_32, v26_34, v26_36, v26_39, v26_40, v26_43, v26_45, v26_46, v26_49, v26_51, v26_52, v26_53, v26_56, v26_57, v26_60, v26_62, v26_63, v26_64, v26_67, v26_70, v26_73, v26_74, zAft_v, zAft_n, iN_add, iN_mul, iN_sub, iN_lt, iN_le, iN_eq, bI_0, bI_1, if_pos, if_neg, ifnn, Nat.reduceAdd, Nat.reduceSub, Nat.reduceMul, Nat.add_zero, Nat.zero_add, List.set_set, not_true_eq_false, not_false_eq_true, if_true, if_false, reduceCtorEq]
    rw [zset_id h2]
  | succ d ih =>
    intro k w f0 hl h1 h2 h3 h4 hk hf l5 hl5
    have e9 : zm E0 9 [.ref a, .int (bI v), .int (Int32.ofNat k)] w = some (.inl (some (.int (Int32.ofNat (fl (ln f pk v) k)))), w, 0, 0) := m9 (v := v) hl ha h3 h4 hp (show k < 30 by omega)
    have b1 := fl_le (l := ln f pk v) (i := k)
    have b2 := us_le (F := fl (ln f pk v)) k
    have x : ∃ y, y = us (fl (ln f pk v)) (fl (ln f pk v) k) ∧ (¬ fl (ln f pk v) k < k → y = us (fl (ln f pk v)) k) ∧ (fl (ln f pk v) k < k → f0 (fl (ln f pk v) k) = Int32.ofNat y) := by
      refine ⟨_, rfl, fun q => by rw [show fl (ln f pk v) k = k by omega], fun q => by rw [hf _ q, fl_idem]⟩
    obtain ⟨y, y1, y2, y3⟩ := x
    obtain ⟨g, g1, e⟩ := ih (k + 1) (w.set c (.inl (0, 30, .inl (upd f0 k (Int32.ofNat y))))) (upd f0 k (Int32.ofNat y)) (zset_len hl) (by ((repeat' (first | assumption | apply zset_eq | apply zset_ne | omega)); done)) (by ((repeat' (first | assumption | apply zset_eq | apply zset_ne | omega)); done)) (by ((repeat' (first | assumption | apply zset_eq | apply zset_ne | omega)); done)) (by ((repeat' (first | assumption | apply zset_eq | apply zset_ne | omega)); done)) (by omega) (fun i hi => by
      by_cases q : i = k
      · subst q; rw [upd_self, y1]
      · rw [upd_ne q]; exact hf i (by omega)) (some (.int (Int32.ofNat (fl (ln f pk v) k)))) rfl
    refine ⟨g, g1, ?_⟩
    rw [us] at e
    rw [v26_14]
    generalize fl (ln f pk v) k = F at *
    by_cases q : F < k
    · rw [if_pos q] at e
      have y4 := y3 q
      simp (disch := (first | assumption | exact hb0 | exact hb1 | exact bI_ok | exact znl_i | exact znl_r | exact znl_n | exact zw0 | exact zw1 | exact zw2 | exact zw3 | exact zw4 | exact zx0 | exact zx1 | exact zx2 | exact zx3 | ((repeat' (first | assumption | apply zset_eq | apply zset_ne | omega)); done) | ((repeat' (first | exact zscL_nil | refine zscL_i ?_ | refine zscL_n ?_ | refine zscL_r ?_ ?_ | refine zscL_l ?_ | exact zscS_nil | refine zscS_i ?_ | refine zscS_r ?_ ?_ | refine zscS_l ?_ | (simp only [List.length_set, hl]; first | omega | assumption) | omega)); done) | omega | (with_unfolding_all rfl) | fail)) only [v26_0, v26_1, v26_2, v26_3, v26_6, v26_9, v26_10, v26_11, v26_12, v26_16, v26_17, v26_20, v26_23, v26_24, v26_25, v26_27, v26_30, v26_32, v26_34, v26_36, v26_39, v26_40, v26_43, v26_45, v26_46, v26_49, v26_51, v26_52, v26_53, v26_56, v26_57, v26_60, v26_62, v26_63, v26_64, v26_67, v26_70, v26_73, v26_74, zAft_v, zAft_n, iN_add, iN_mul, iN_sub, iN_lt, iN_le, iN_eq, bI_0, bI_1, if_pos, if_neg, ifnn, Nat.reduceAdd, Nat.reduceSub, Nat.reduceMul, Nat.add_zero, Nat.zero_add, List.set_set, not_true_eq_false, not_false_eq_true, if_true, if_false, reduceCtorEq, e9, y4]
      rw [e, List.set_set]
    · rw [if_neg q] at e
      have y4 := y2 q
      rw [y4] at e
      simp (disch := (first | assumption | exact hb0 | exact hb1 | exact bI_ok | exact znl_i | exact znl_r | exact znl_n | exact zw0 | exact zw1 | exact zw2 | exact zw3 | exact zw4 | exact zx0 | exact zx1 | exact zx2 | exact zx3 | ((repeat' (first | assumption | apply zset_eq | apply zset_ne | omega)); done) | ((repeat' (first | exact zscL_nil | refine zscL_i ?_ | refine zscL_n ?_ | refine zscL_r ?_ ?_ | refine zscL_l ?_ | exact zscS_nil | refine zscS_i ?_ | refine zscS_r ?_ ?_ | refine zscS_l ?_ | (simp only [List.length_set, hl]; first | omega | assumption) | omega)); done) | omega | (with_unfolding_all rfl) | fail)) only [v26_0, v26_1, v26_2, v26_3, v26_6, v26_9, v26_10, v26_11, v26_12, v26_16, v26_17, v26_20, v26_23, v26_24, v26_25, v26_27, v26_30, v26_32, v26_34, v26_36, v26_39, v26_40, v26_43, v26_45, v26_46, v26_49, v26_51, v26_52, v26_53, v26_56, v26_57, v26_60, v26_62, v26_63, v26_64, v26_67, v26_70, v26_73, v26_74, zAft_v, zAft_n, iN_add, iN_mul, iN_sub, iN_lt, iN_le, iN_eq, bI_0, bI_1, if_pos, if_neg, ifnn, Nat.reduceAdd, Nat.reduceSub, Nat.reduceMul, Nat.add_zero, Nat.zero_add, List.set_set, not_true_eq_false, not_false_eq_true, if_true, if_false, reduceCtorEq, e9]
      rw [e, List.set_set]
theorem m26 {R c a b en pk n N : Nat} {w : zW} {f f0 : Nat → Int32} {sz : Int32} {v : Bool} (hl : w.length = N) (hR : R < N) (ha : a < N) (hc : c < N) (hca : ¬ c = a) (hcb : ¬ c = b) (hcR : ¬ c = R) (hRa : ¬ R = a) (hRb : ¬ R = b) (hp : pk ≤ 30) (he : en ≤ 30) (h1 : w[R]? = some (.inr (2, [.ref c, .int sz]))) (h2 : w[c]? = some (.inl (0, 30, .inl f0))) (h3 : w[a]? = some (.inr (0, [.ref b, .int (Int32.ofNat en), .int (Int32.ofNat pk)]))) (h4 : w[b]? = some (.inl (0, 30, .inl f))) (hn : n = if v = true then pk else en) :
    ∃ g, (∀ i, i < n → g i = Int32.ofNat (us (fl (ln f pk v)) (fl (ln f pk v) i))) ∧ zm E0 26 [.ref R, .ref a, .int (bI v)] w = some (.inl (some (.int (Int32.ofNat (us (fl (ln f pk v)) n)))), (w.set R (.inr (2, [.ref c, .int (Int32.ofNat n)]))).set c (.inl (0, 30, .inl g)), 0, 0) := by
  have e6 := m6 (v := v) h3
  rw [← hn] at e6
  obtain ⟨g, g1, e⟩ := m26l (R := R) (c := c) (a := a) (b := b) (N := N) (v := v) (f := f) hR ha hc hca hcb hcR hp he (n := n) (by subst hn; split <;> omega) n 0 (w.set R (.inr (2, [.ref c, .int (Int32.ofNat n)]))) f0 (zset_len hl) (by ((repeat' (first | assumption | apply zset_eq | apply zset_ne | omega)); done)) (by ((repeat' (first | assumption | apply zset_eq | apply zset_ne | omega)); done)) (by ((repeat' (first | assumption | apply zset_eq | apply zset_ne | omega)); done)) (by ((repeat' (first | assumption | apply zset_eq | apply zset_ne | omega)); done)) (by omega) (fun i hi => absurd hi (by omega)) none rfl
  refine ⟨g, g1, ?_⟩
  rw [zm26]
  simp (disch := (first | assumption | exact hb0 | exact hb1 | exact bI_ok | exact znl_i | exact znl_r | exact znl_n | exact zw0 | exact zw1 | exact zw2 | exact zw3 | exact zw4 | exact zx0 | exact zx1 | exact zx2 | exact zx3 | ((repeat' (first | assumption | apply zset_eq | apply zset_ne | omega)); done) | ((repeat' (first | exact zscL_nil | refine zscL_i ?_ | refine zscL_n ?_ | refine zscL_r ?_ ?_ | refine zscL_l ?_ | exact zscS_nil | refine zscS_i ?_ | refine zscS_r ?_ ?_ | refine zscS_l ?_ | (simp only [List.length_set, hl]; first | omega | assumption) | omega)); done) | omega | (with_unfolding_all rfl) | fail)) only [v26_0, v26_1, v26_2, v26_3, v26_6, v26_9, v26_10, v26_11, v26_12, v26_16, v26_17, v26_20, v26_23, v26_24, v26_25, v26_27, v26_30, v26_32, v26_34, v26_36, v26_39, v26_40, v26_43, v26_45, v26_46, v26_49, v26_51, v26_52, v26_53, v26_56, v26_57, v26_60, v26_62, v26_63, v26_64, v26_67, v26_70, v26_73, v26_74, zAft_v, zAft_n, iN_add, iN_mul, iN_sub, iN_lt, iN_le, iN_eq, bI_0, bI_1, if_pos, if_neg, ifnn, Nat.reduceAdd, Nat.reduceSub, Nat.reduceMul, Nat.add_zero, Nat.zero_add, List.set_set, not_true_eq_false, not_false_eq_true, if_true, if_false, reduceCtorEq, e6]
  exact e
-- taking the painted draft over
/-- a bit for each pair of kinds that is crossed over -/
def tieInv (ti : Nat → Int32) (kt kp : Nat → Nat) (ov : Nat → Nat → Bool) (proc : Nat → Nat → Prop) : Prop := ∀ s t, s < 12 → t < 12 → (tb (ti s) t = true ↔ ∃ p e, proc p e ∧ kt e = s ∧ kp p = t ∧ ov p e = true)
theorem tieInv_step {ti : Nat → Int32} {kt kp : Nat → Nat} {ov : Nat → Nat → Bool} {proc proc' : Nat → Nat → Prop} {p0 e0 : Nat} (h : tieInv ti kt kp ov proc) (hp : ∀ p e, proc' p e ↔ (proc p e ∨ (p = p0 ∧ e = e0))) (hc : ∀ p e, proc' p e → kt e = kt e0 → kp p = kp p0 → ov p e = ov p0 e0) (h1 : kt e0 < 12) (h2 : kp p0 < 12) : tieInv (upd ti (kt e0) (wb (ti (kt e0)) (kp p0) (ov p0 e0))) kt kp ov proc' := by
  intro s t hs ht
  have step : tb (upd ti (kt e0) (wb (ti (kt e0)) (kp p0) (ov p0 e0)) s) t = if s = kt e0 ∧ t = kp p0 then ov p0 e0 else tb (ti s) t := by
    by_cases q : s = kt e0
    · subst q
      rw [upd_self, tb_wb (by omega) (by omega)]
      by_cases r : t = kp p0
      · rw [if_pos r, if_pos ⟨rfl, r⟩]
      · rw [if_neg r, if_neg (fun z => r z.2)]
    · rw [upd_ne q, if_neg (fun z => q z.1)]
  rw [step]
  by_cases q : s = kt e0 ∧ t = kp p0
  · rw [if_pos q]
    constructor
    · intro hv
      exact ⟨p0, e0, (hp p0 e0).mpr (Or.inr ⟨rfl, rfl⟩), q.1.symm, q.2.symm, hv⟩
    · rintro ⟨p, e, x1, x2, x3, x4⟩
      rw [← hc p e x1 (x2.trans q.1) (x3.trans q.2)]
      exact x4
  · rw [if_neg q, h s t hs ht]
    constructor
    · rintro ⟨p, e, x1, x2⟩
      exact ⟨p, e, (hp p e).mpr (Or.inl x1), x2⟩
    · rintro ⟨p, e, x1, x2, x3, x4⟩
      rcases (hp p e).mp x1 with x | ⟨rfl, rfl⟩
      · exact ⟨p, e, x, x2, x3, x4⟩
      · exact absurd ⟨x2.symm, x3.symm⟩ q
theorem m56i {tk dk pa : Nat → Int32} {kt kp : Nat → Nat} {tn dn pe pp p : Nat} (hpe : pe ≤ 30) (hpp : pp ≤ 30) (hp : p < pp) (hkt : ∀ e, e < pe → kt e < 12 ∧ tk e = Int32.ofNat (kt e)) (hkp : kp p < 12 ∧ dk p = Int32.ofNat (kp p)) (hcon : ∀ q e e', q ≤ p → e < pe → e' < pe → kt e = kt e' → kp q = kp p → tb (pa q) e = tb (pa p) e') :
    ∀ (d k : Nat) (w : zW) (ti : Nat → Int32), w.length = 29 → w[0]? = some (.inr (3, [.ref 1, .ref 3, .ref 5, .ref 6, .ref 7, .ref 8, .ref 10, .ref 13, .ref 15, .ref 17])) → w[1]? = some (.inr (2, [.ref 2, .int (Int32.ofNat tn)])) → w[2]? = some (.inl (0, 30, .inl tk)) → w[3]? = some (.inr (2, [.ref 4, .int (Int32.ofNat dn)])) → w[4]? = some (.inl (0, 30, .inl dk)) → w[5]? = some (.inl (0, 12, .inl ti)) → w[13]? = some (.inr (0, [.ref 14, .int (Int32.ofNat pe), .int (Int32.ofNat pp)])) → w[14]? = some (.inl (0, 30, .inl pa)) → k + d = pe →
      tieInv ti kt kp (fun p e => tb (pa p) e) (fun q e => e < pe ∧ (q < p ∨ (q = p ∧ e < k))) → ∀ (l3 : Option Value), 
      ∃ g l3', tieInv g kt kp (fun p e => tb (pa p) e) (fun q e => e < pe ∧ q < p + 1) ∧ zval E0 none 56 (45, [some (.ref 0), some (.int (Int32.ofNat p)), some (.int (Int32.ofNat k)), l3], [], w, 0, 0) = zval E0 none 56 (32, [some (.ref 0), some (.int (Int32.ofNat (p + 1))), some (.int (Int32.ofNat pe)), l3'], [], w.set 5 (.inl (0, 12, .inl g)), 0, 0) := by
  intro d
  induction d with
  | zero =>
    intro k w ti hl h0 h1 h2 h3 h4 h5 h13 h14 hk hi l3
    obtain rfl : k = pe := hk
    refine ⟨ti, l3, ?_, ?_⟩
    · intro s t hs ht
      rw [hi s t hs ht]
      constructor
      · rintro ⟨q, e, ⟨x1, x2⟩, x⟩
        exact ⟨q, e, ⟨x1, by omega⟩, x⟩
      · rintro ⟨q, e, ⟨x1, x2⟩, x⟩
        exact ⟨q, e, ⟨x1, by omega⟩, x⟩
    · rw [v56_45]
      simp (disch := (first | assumption | exact hb0 | exact hb1 | exact bI_ok | exact znl_i | exact znl_r | exact znl_n | exact zw0 | exact zw1 | exact zw2 | exact zw3 | exact zw4 | exact zx0 | exact zx1 | exact zx2 | exact zx3 | ((repeat' (first | assumption | apply zset_eq | apply zset_ne | omega)); done) | ((repeat' (first | exact zscL_nil | refine zscL_i ?_ | refine zscL_n ?_ | refine zscL_r ?_ ?_ | refine zscL_l ?_ | exact zscS_nil | refine zscS_i ?_ | refine zscS_r ?_ ?_ | refine zscS_l ?_ | (simp only [List.length_set, hl]; first | omega | assumption) | omega)); done) | omega | (with_unfolding_all rfl) | fail)) only [v56_0, v56_1, v56_4, v56_5, v56_8, v56_11, v56_12, v56_15, v56_16, v56_19, v56_22, v56_23, v56_26, v56_27, v56_30, v56_31, v56_33, v56_34, v56_37, v56_40, v56_43, v56_44, v56_46, v56_47, v56_50, v56_53, v56_56, v56_57, v56_60, v56_63, v56_64, v56_65, v56_66, v56_67, v56_70, v56_71, v56_72, v56_75, v56_76, v56_77, v56_78, v56_81, v56_84, v56_85, v56_86, v56_87, v56_90, v56_91, v56_92, v56_95, v56_98, v56_99, v56_102, v56_105, v56_108, v56_111, v56_112, v56_115, v56_116, v56_119, zAft_v, zAft_n, iN_add, iN_mul, iN_sub, iN_lt, iN_le, iN_eq, bI_0, bI_1, if_pos, if_neg, ifnn, Nat.reduceAdd, Nat.reduceSub, Nat.reduceMul, Nat.add_zero, Nat.zero_add, List.set_set, not_true_eq_false, not_false_eq_true, if_true, if_false, reduceCtorEq]
      rw [zset_id h5]
  | succ d ih =>
    intro k w ti hl h0 h1 h2 h3 h4 h5 h13 h14 hk hi l3
    obtain ⟨q1, q2⟩ := hkt k (by omega)
    obtain ⟨q3, q4⟩ := hkp
    have e4 := m4 (e := k) (p := p) h13 h14 (by omega) (by omega)
    obtain ⟨g, l3', g1, e⟩ := ih (k + 1) (w.set 5 (.inl (0, 12, .inl (upd ti (kt k) (wb (ti (kt k)) (kp p) (tb (pa p) k)))))) (upd ti (kt k) (wb (ti (kt k)) (kp p) (tb (pa p) k))) (zset_len hl) (by ((repeat' (first | assumption | apply zset_eq | apply zset_ne | omega)); done)) (by ((repeat' (first | assumption | apply zset_eq | apply zset_ne | omega)); done)) (by ((repeat' (first | assumption | apply zset_eq | apply zset_ne | omega)); done)) (by ((repeat' (first | assumption | apply zset_eq | apply zset_ne | omega)); done)) (by ((repeat' (first | assumption | apply zset_eq | apply zset_ne | omega)); done)) (by ((repeat' (first | assumption | apply zset_eq | apply zset_ne | omega)); done)) (by ((repeat' (first | assumption | apply zset_eq | apply zset_ne | omega)); done)) (by ((repeat' (first | assumption | apply zset_eq | apply zset_ne | omega)); done)) (by omega) (by
      refine tieInv_step (ov := fun p e => tb (pa p) e) (p0 := p) (e0 := k) hi ?_ ?_ q1 q3
      · intro q e
        constructor
        · rintro ⟨x1, x2⟩
          by_cases r : q = p ∧ e = k
          · exact Or.inr r
          · exact Or.inl ⟨x1, by omega⟩
        · rintro (⟨x1, x2⟩ | ⟨rfl, rfl⟩)
          · exact ⟨x1, by omega⟩
          · exact ⟨by omega, by omega⟩
      · rintro q e ⟨x1, x2⟩ x3 x4
        exact hcon q e k (by omega) x1 (by omega) x3 x4) (some (.int (Int32.ofNat (kt k))))
    refine ⟨g, l3', g1, ?_⟩
    rw [v56_45]
    simp (disch := (first | assumption | exact hb0 | exact hb1 | exact bI_ok | exact znl_i | exact znl_r | exact znl_n | exact zw0 | exact zw1 | exact zw2 | exact zw3 | exact zw4 | exact zx0 | exact zx1 | exact zx2 | exact zx3 | ((repeat' (first | assumption | apply zset_eq | apply zset_ne | omega)); done) | ((repeat' (first | exact zscL_nil | refine zscL_i ?_ | refine zscL_n ?_ | refine zscL_r ?_ ?_ | refine zscL_l ?_ | exact zscS_nil | refine zscS_i ?_ | refine zscS_r ?_ ?_ | refine zscS_l ?_ | (simp only [List.length_set, hl]; first | omega | assumption) | omega)); done) | omega | (with_unfolding_all rfl) | fail)) only [v56_0, v56_1, v56_4, v56_5, v56_8, v56_11, v56_12, v56_15, v56_16, v56_19, v56_22, v56_23, v56_26, v56_27, v56_30, v56_31, v56_33, v56_34, v56_37, v56_40, v56_43, v56_44, v56_46, v56_47, v56_50, v56_53, v56_56, v56_57, v56_60, v56_63, v56_64, v56_65, v56_66, v56_67, v56_70, v56_71, v56_72, v56_75, v56_76, v56_77, v56_78, v56_81, v56_84, v56_85, v56_86, v56_87, v56_90, v56_91, v56_92, v56_95, v56_98, v56_99, v56_102, v56_105, v56_108, v56_111, v56_112, v56_115, v56_116, v56_119, zAft_v, zAft_n, iN_add, iN_mul, iN_sub, iN_lt, iN_le, iN_eq, bI_0, bI_1, if_pos, if_neg, ifnn, Nat.reduceAdd, Nat.reduceSub, Nat.reduceMul, Nat.add_zero, Nat.zero_add, List.set_set, not_true_eq_false, not_false_eq_true, if_true, if_false, reduceCtorEq, q2, q4, e4, m46]
    rw [e, List.set_set]
theorem m56o {tk dk pa : Nat → Int32} {kt kp : Nat → Nat} {tn dn pe pp ce cp : Nat} (hpe : pe ≤ 30) (hpp : pp ≤ 30) (hkt : ∀ e, e < pe → kt e < 12 ∧ tk e = Int32.ofNat (kt e)) (hkp : ∀ p, p < pp → kp p < 12 ∧ dk p = Int32.ofNat (kp p)) (hcon : ∀ q e p e', q < pp → p < pp → e < pe → e' < pe → kt e = kt e' → kp q = kp p → tb (pa q) e = tb (pa p) e') :
    ∀ (d k : Nat) (w : zW) (ti : Nat → Int32), w.length = 29 → w[0]? = some (.inr (3, [.ref 1, .ref 3, .ref 5, .ref 6, .ref 7, .ref 8, .ref 10, .ref 13, .ref 15, .ref 17])) → w[1]? = some (.inr (2, [.ref 2, .int (Int32.ofNat tn)])) → w[2]? = some (.inl (0, 30, .inl tk)) → w[3]? = some (.inr (2, [.ref 4, .int (Int32.ofNat dn)])) → w[4]? = some (.inl (0, 30, .inl dk)) → w[5]? = some (.inl (0, 12, .inl ti)) → w[13]? = some (.inr (0, [.ref 14, .int (Int32.ofNat pe), .int (Int32.ofNat pp)])) → w[14]? = some (.inl (0, 30, .inl pa)) → w[8]? = some (.inr (0, [.ref 9, .int (Int32.ofNat ce), .int (Int32.ofNat cp)])) → k + d = pp →
      tieInv ti kt kp (fun p e => tb (pa p) e) (fun q e => e < pe ∧ q < k) → ∀ (l2 l3 : Option Value), 
      ∃ g, tieInv g kt kp (fun p e => tb (pa p) e) (fun q e => e < pe ∧ q < pp) ∧ zval E0 none 56 (32, [some (.ref 0), some (.int (Int32.ofNat k)), l2, l3], [], w, 0, 0) = some (.inl none, (w.set 5 (.inl (0, 12, .inl g))).set 8 (.inr (0, [.ref 9, .int (Int32.ofNat ce), .int (Int32.ofNat 0)])), 0, 0) := by
  intro d
  induction d with
  | zero =>
    intro k w ti hl h0 h1 h2 h3 h4 h5 h13 h14 h8 hk hi l2 l3
    obtain rfl : k = pp := hk
    refine ⟨ti, hi, ?_⟩
    rw [v56_32]
    simp (disch := (first | assumption | exact hb0 | exact hb1 | exact bI_ok | exact znl_i | exact znl_r | exact znl_n | exact zw0 | exact zw1 | exact zw2 | exact zw3 | exact zw4 | exact zx0 | exact zx1 | exact zx2 | exact zx3 | ((repeat' (first | assumption | apply zset_eq | apply zset_ne | omega)); done) | ((repeat' (first | exact zscL_nil | refine zscL_i ?_ | refine zscL_n ?_ | refine zscL_r ?_ ?_ | refine zscL_l ?_ | exact zscS_nil | refine zscS_i ?_ | refine zscS_r ?_ ?_ | refine zscS_l ?_ | (simp only [List.length_set, hl]; first | omega | assumption) | omega)); done) | omega | (with_unfolding_all rfl) | fail)) only [v56_0, v56_1, v56_4, v56_5, v56_8, v56_11, v56_12, v56_15, v56_16, v56_19, v56_22, v56_23, v56_26, v56_27, v56_30, v56_31, v56_33, v56_34, v56_37, v56_40, v56_43, v56_44, v56_46, v56_47, v56_50, v56_53, v56_56, v56_57, v56_60, v56_63, v56_64, v56_65, v56_66, v56_67, v56_70, v56_71, v56_72, v56_75, v56_76, v56_77, v56_78, v56_81, v56_84, v56_85, v56_86, v56_87, v56_90, v56_91, v56_92, v56_95, v56_98, v56_99, v56_102, v56_105, v56_108, v56_111, v56_112, v56_115, v56_116, v56_119, zAft_v, zAft_n, iN_add, iN_mul, iN_sub, iN_lt, iN_le, iN_eq, bI_0, bI_1, if_pos, if_neg, ifnn, Nat.reduceAdd, Nat.reduceSub, Nat.reduceMul, Nat.add_zero, Nat.zero_add, List.set_set, not_true_eq_false, not_false_eq_true, if_true, if_false, reduceCtorEq]
    rw [zset_id h5]
  | succ d ih =>
    intro k w ti hl h0 h1 h2 h3 h4 h5 h13 h14 h8 hk hi l2 l3
    obtain ⟨g, l3', g1, e⟩ := m56i (kt := kt) (kp := kp) (tn := tn) (dn := dn) (pp := pp) hpe hpp (p := k) (by omega) hkt (hkp k (by omega)) (fun q e e' x1 x2 x3 x4 x5 => hcon q e k e' (by omega) (by omega) x2 x3 x4 x5) pe 0 w ti hl h0 h1 h2 h3 h4 h5 h13 h14 (by omega) (by
      intro s t hs ht
      rw [hi s t hs ht]
      constructor
      · rintro ⟨q, e, ⟨x1, x2⟩, x⟩
        exact ⟨q, e, ⟨x1, Or.inl x2⟩, x⟩
      · rintro ⟨q, e, ⟨x1, x2⟩, x⟩
        exact ⟨q, e, ⟨x1, by omega⟩, x⟩) l3
    obtain ⟨g', g2, e'⟩ := ih (k + 1) (w.set 5 (.inl (0, 12, .inl g))) g (zset_len hl) (by ((repeat' (first | assumption | apply zset_eq | apply zset_ne | omega)); done)) (by ((repeat' (first | assumption | apply zset_eq | apply zset_ne | omega)); done)) (by ((repeat' (first | assumption | apply zset_eq | apply zset_ne | omega)); done)) (by ((repeat' (first | assumption | apply zset_eq | apply zset_ne | omega)); done)) (by ((repeat' (first | assumption | apply zset_eq | apply zset_ne | omega)); done)) (by ((repeat' (first | assumption | apply zset_eq | apply zset_ne | omega)); done)) (by ((repeat' (first | assumption | apply zset_eq | apply zset_ne | omega)); done)) (by ((repeat' (first | assumption | apply zset_eq | apply zset_ne | omega)); done)) (by ((repeat' (first | assumption | apply zset_eq | apply zset_ne | omega)); done)) (by omega) g1 (some (.int (Int32.ofNat pe))) l3'
    refine ⟨g', g2, ?_⟩
    rw [v56_32]
    have e0 : zval E0 none 56 (45, [some (.ref 0), some (.int (Int32.ofNat k)), some (.int (Int32.ofNat 0)), l3], [], w, 0, 0) = some (.inl none, (w.set 5 (.inl (0, 12, .inl g'))).set 8 (.inr (0, [.ref 9, .int (Int32.ofNat ce), .int (Int32.ofNat 0)])), 0, 0) := by rw [e, e', List.set_set]
    simp (disch := (first | assumption | exact hb0 | exact hb1 | exact bI_ok | exact znl_i | exact znl_r | exact znl_n | exact zw0 | exact zw1 | exact zw2 | exact zw3 | exact zw4 | exact zx0 | exact zx1 | exact zx2 | exact zx3 | ((repeat' (first | assumption | apply zset_eq | apply zset_ne | omega)); done) | ((repeat' (first | exact zscL_nil | refine zscL_i ?_ | refine zscL_n ?_ | refine zscL_r ?_ ?_ | refine zscL_l ?_ | exact zscS_nil | refine zscS_i ?_ | refine zscS_r ?_ ?_ | refine zscS_l ?_ | (simp only [List.length_set, hl]; first | omega | assumption) | omega)); done) | omega | (with_unfolding_all rfl) | fail)) only [v56_0, v56_1, v56_4, v56_5, v56_8, v56_11, v56_12, v56_15, v56_16, v56_19, v56_22, v56_23, v56_26, v56_27, v56_30, v56_31, v56_33, v56_34, v56_37, v56_40, v56_43, v56_44, v56_46, v56_47, v56_50, v56_53, v56_56, v56_57, v56_60, v56_63, v56_64, v56_65, v56_66, v56_67, v56_70, v56_71, v56_72, v56_75, v56_76, v56_77, v56_78, v56_81, v56_84, v56_85, v56_86, v56_87, v56_90, v56_91, v56_92, v56_95, v56_98, v56_99, v56_102, v56_105, v56_108, v56_111, v56_112, v56_115, v56_116, v56_119, zAft_v, zAft_n, iN_add, iN_mul, iN_sub, iN_lt, iN_le, iN_eq, bI_0, bI_1, if_pos, if_neg, ifnn, Nat.reduceAdd, Nat.reduceSub, Nat.reduceMul, Nat.add_zero, Nat.zero_add, List.set_set, not_true_eq_false, not_false_eq_true, if_true, if_false, reduceCtorEq]
    exact e0
theorem m56 {w : zW} {tk dk pa pt pd ti : Nat → Int32} {kt kp : Nat → Nat} {tn dn pe pp ce cp : Nat} {ptn pdn : Int32} (hl : w.length = 29) (h0 : w[0]? = some (.inr (3, [.ref 1, .ref 3, .ref 5, .ref 6, .ref 7, .ref 8, .ref 10, .ref 13, .ref 15, .ref 17]))) (h1 : w[1]? = some (.inr (2, [.ref 2, .int (Int32.ofNat tn)]))) (h2 : w[2]? = some (.inl (0, 30, .inl tk))) (h3 : w[3]? = some (.inr (2, [.ref 4, .int (Int32.ofNat dn)]))) (h4 : w[4]? = some (.inl (0, 30, .inl dk))) (h5 : w[5]? = some (.inl (0, 12, .inl ti))) (h8 : w[8]? = some (.inr (0, [.ref 9, .int (Int32.ofNat ce), .int (Int32.ofNat cp)]))) (h13 : w[13]? = some (.inr (0, [.ref 14, .int (Int32.ofNat pe), .int (Int32.ofNat pp)]))) (h14 : w[14]? = some (.inl (0, 30, .inl pa))) (h15 : w[15]? = some (.inr (2, [.ref 16, .int ptn]))) (h16 : w[16]? = some (.inl (0, 30, .inl pt))) (h17 : w[17]? = some (.inr (2, [.ref 18, .int pdn]))) (h18 : w[18]? = some (.inl (0, 30, .inl pd))) (hpt : ptn = Int32.ofNat pe) (hpd : pdn = Int32.ofNat pp) (hpe : pe ≤ 30) (hpp : pp ≤ 30) (hkt : ∀ e, e < pe → kt e < 12 ∧ pt e = Int32.ofNat (kt e)) (hkp : ∀ p, p < pp → kp p < 12 ∧ pd p = Int32.ofNat (kp p)) (hcon : ∀ q e p e', q < pp → p < pp → e < pe → e' < pe → kt e = kt e' → kp q = kp p → tb (pa q) e = tb (pa p) e') :
    ∃ g tk' dk', tieInv g kt kp (fun p e => tb (pa p) e) (fun q e => e < pe ∧ q < pp) ∧ (∀ e, e < pe → tk' e = pt e) ∧ (∀ p, p < pp → dk' p = pd p) ∧ zm E0 56 [.ref 0] w = some (.inl none, (((((w.set 2 (.inl (0, 30, .inl tk'))).set 1 (.inr (2, [.ref 2, .int (Int32.ofNat pe)]))).set 4 (.inl (0, 30, .inl dk'))).set 3 (.inr (2, [.ref 4, .int (Int32.ofNat pp)]))).set 5 (.inl (0, 12, .inl g))).set 8 (.inr (0, [.ref 9, .int (Int32.ofNat ce), .int (Int32.ofNat 0)])), 0, 0) := by
  subst hpt hpd
  have c1 : ∀ e, e < pe → va_cpy pt tk 0 0 pe e = pt e := by
    intro e he
    simp only [va_cpy]
    rw [if_pos ⟨Nat.zero_le _, by omega⟩]
    congr 1
    omega
  have c2 : ∀ p, p < pp → va_cpy pd dk 0 0 pp p = pd p := by
    intro e he
    simp only [va_cpy]
    rw [if_pos ⟨Nat.zero_le _, by omega⟩]
    congr 1
    omega
  generalize hA : va_cpy pt tk 0 0 pe = A at c1
  generalize hB : va_cpy pd dk 0 0 pp = B at c2
  obtain ⟨w1, hw1⟩ : ∃ w1, w1 = (w.set 2 (.inl (0, 30, .inl A))).set 1 (.inr (2, [.ref 2, .int (Int32.ofNat pe)])) := ⟨_, rfl⟩
  have e1 : zm E0 25 [.ref 1, .ref 15] w = some (.inl none, w1, 0, 0) := by rw [hw1, ← hA]; exact m25 h1 h2 h15 h16 hpe (by omega) (by omega)
  obtain ⟨w2, hw2⟩ : ∃ w2, w2 = (w1.set 4 (.inl (0, 30, .inl B))).set 3 (.inr (2, [.ref 4, .int (Int32.ofNat pp)])) := ⟨_, rfl⟩
  have e2 : zm E0 25 [.ref 3, .ref 17] w1 = some (.inl none, w2, 0, 0) := by
    rw [hw2, ← hB]
    exact m25 (by rw [hw1]; ((repeat' (first | assumption | apply zset_eq | apply zset_ne | omega)); done)) (by rw [hw1]; ((repeat' (first | assumption | apply zset_eq | apply zset_ne | omega)); done)) (by rw [hw1]; ((repeat' (first | assumption | apply zset_eq | apply zset_ne | omega)); done)) (by rw [hw1]; ((repeat' (first | assumption | apply zset_eq | apply zset_ne | omega)); done)) hpp (by omega) (by omega)
  obtain ⟨z, z1, e3⟩ := m91 (a := 5) (x := Int32.ofNat 0) (w := w2) (n := 12) (f := ti) rfl (by rw [hw2, hw1]; ((repeat' (first | assumption | apply zset_eq | apply zset_ne | omega)); done))
  have l1 : w1.length = 29 := by rw [hw1]; exact zset_len (zset_len hl)
  have l2 : w2.length = 29 := by rw [hw2]; exact zset_len (zset_len l1)
  obtain ⟨w3, hw3⟩ : ∃ w3, w3 = w2.set 5 (.inl (0, 12, .inl z)) := ⟨_, rfl⟩
  rw [← hw3] at e3
  obtain ⟨g, g1, e4⟩ := m56o (tk := A) (dk := B) (pa := pa) (kt := kt) (kp := kp) (tn := pe) (dn := pp) (pe := pe) (pp := pp) (ce := ce) (cp := cp) hpe hpp (fun e he => ⟨(hkt e he).1, (c1 e he).trans (hkt e he).2⟩) (fun p hp => ⟨(hkp p hp).1, (c2 p hp).trans (hkp p hp).2⟩) hcon pp 0 w3 z (by rw [hw3]; exact zset_len l2) (by rw [hw3, hw2, hw1]; ((repeat' (first | assumption | apply zset_eq | apply zset_ne | omega)); done)) (by rw [hw3, hw2, hw1]; ((repeat' (first | assumption | apply zset_eq | apply zset_ne | omega)); done)) (by rw [hw3, hw2, hw1]; ((repeat' (first | assumption | apply zset_eq | apply zset_ne | omega)); done)) (by rw [hw3, hw2, hw1]; ((repeat' (first | assumption | apply zset_eq | apply zset_ne | omega)); done)) (by rw [hw3, hw2, hw1]; ((repeat' (first | assumption | apply zset_eq | apply zset_ne | omega)); done)) (by rw [hw3, hw2, hw1]; ((repeat' (first | assumption | apply zset_eq | apply zset_ne | omega)); done)) (by rw [hw3, hw2, hw1]; ((repeat' (first | assumption | apply zset_eq | apply zset_ne | omega)); done)) (by rw [hw3, hw2, hw1]; ((repeat' (first | assumption | apply zset_eq | apply zset_ne | omega)); done)) (by rw [hw3, hw2, hw1]; ((repeat' (first | assumption | apply zset_eq | apply zset_ne | omega)); done)) (by omega) (by
    intro s t hs ht
    rw [z1 s hs, tb_0]
    constructor
    · intro q; cases q
    · rintro ⟨q, e, ⟨x1, x2⟩, x⟩
      omega) none none
  refine ⟨g, A, B, g1, c1, c2, ?_⟩
  have k0 : w1[0]? = some (.inr (3, [.ref 1, .ref 3, .ref 5, .ref 6, .ref 7, .ref 8, .ref 10, .ref 13, .ref 15, .ref 17])) := by rw [hw1]; ((repeat' (first | assumption | apply zset_eq | apply zset_ne | omega)); done)
  have k3 : w1[3]? = some (.inr (2, [.ref 4, .int (Int32.ofNat dn)])) := by rw [hw1]; ((repeat' (first | assumption | apply zset_eq | apply zset_ne | omega)); done)
  have k1 : w[1]? = some (.inr (2, [.ref 2, .int (Int32.ofNat tn)])) := h1
  have j0 : w2[0]? = some (.inr (3, [.ref 1, .ref 3, .ref 5, .ref 6, .ref 7, .ref 8, .ref 10, .ref 13, .ref 15, .ref 17])) := by rw [hw2, hw1]; ((repeat' (first | assumption | apply zset_eq | apply zset_ne | omega)); done)
  rw [zm56]
  simp (disch := (first | assumption | exact hb0 | exact hb1 | exact bI_ok | exact znl_i | exact znl_r | exact znl_n | exact zw0 | exact zw1 | exact zw2 | exact zw3 | exact zw4 | exact zx0 | exact zx1 | exact zx2 | exact zx3 | ((repeat' (first | assumption | apply zset_eq | apply zset_ne | omega)); done) | ((repeat' (first | exact zscL_nil | refine zscL_i ?_ | refine zscL_n ?_ | refine zscL_r ?_ ?_ | refine zscL_l ?_ | exact zscS_nil | refine zscS_i ?_ | refine zscS_r ?_ ?_ | refine zscS_l ?_ | (simp only [List.length_set, hl]; first | omega | assumption) | omega)); done) | omega | (with_unfolding_all rfl) | fail)) only [v56_0, v56_1, v56_4, v56_5, v56_8, v56_11, v56_12, v56_15, v56_16, v56_19, v56_22, v56_23, v56_26, v56_27, v56_30, v56_31, v56_33, v56_34, v56_37, v56_40, v56_43, v56_44, v56_46, v56_47, v56_50, v56_53, v56_56, v56_57, v56_60, v56_63, v56_64, v56_65, v56_66, v56_67, v56_70, v56_71, v56_72, v56_75, v56_76, v56_77, v56_78, v56_81, v56_84, v56_85, v56_86, v56_87, v56_90, v56_91, v56_92, v56_95, v56_98, v56_99, v56_102, v56_105, v56_108, v56_111, v56_112, v56_115, v56_116, v56_119, zAft_v, zAft_n, iN_add, iN_mul, iN_sub, iN_lt, iN_le, iN_eq, bI_0, bI_1, if_pos, if_neg, ifnn, Nat.reduceAdd, Nat.reduceSub, Nat.reduceMul, Nat.add_zero, Nat.zero_add, List.set_set, not_true_eq_false, not_false_eq_true, if_true, if_false, reduceCtorEq, e1]
  have hl := l1
  simp (disch := (first | assumption | exact hb0 | exact hb1 | exact bI_ok | exact znl_i | exact znl_r | exact znl_n | exact zw0 | exact zw1 | exact zw2 | exact zw3 | exact zw4 | exact zx0 | exact zx1 | exact zx2 | exact zx3 | ((repeat' (first | assumption | apply zset_eq | apply zset_ne | omega)); done) | ((repeat' (first | exact zscL_nil | refine zscL_i ?_ | refine zscL_n ?_ | refine zscL_r ?_ ?_ | refine zscL_l ?_ | exact zscS_nil | refine zscS_i ?_ | refine zscS_r ?_ ?_ | refine zscS_l ?_ | (simp only [List.length_set, hl]; first | omega | assumption) | omega)); done) | omega | (with_unfolding_all rfl) | fail)) only [v56_0, v56_1, v56_4, v56_5, v56_8, v56_11, v56_12, v56_15, v56_16, v56_19, v56_22, v56_23, v56_26, v56_27, v56_30, v56_31, v56_33, v56_34, v56_37, v56_40, v56_43, v56_44, v56_46, v56_47, v56_50, v56_53, v56_56, v56_57, v56_60, v56_63, v56_64, v56_65, v56_66, v56_67, v56_70, v56_71, v56_72, v56_75, v56_76, v56_77, v56_78, v56_81, v56_84, v56_85, v56_86, v56_87, v56_90, v56_91, v56_92, v56_95, v56_98, v56_99, v56_102, v56_105, v56_108, v56_111, v56_112, v56_115, v56_116, v56_119, zAft_v, zAft_n, iN_add, iN_mul, iN_sub, iN_lt, iN_le, iN_eq, bI_0, bI_1, if_pos, if_neg, ifnn, Nat.reduceAdd, Nat.reduceSub, Nat.reduceMul, Nat.add_zero, Nat.zero_add, List.set_set, not_true_eq_false, not_false_eq_true, if_true, if_false, reduceCtorEq, e2]
  have hl := l2
  simp (disch := (first | assumption | exact hb0 | exact hb1 | exact bI_ok | exact znl_i | exact znl_r | exact znl_n | exact zw0 | exact zw1 | exact zw2 | exact zw3 | exact zw4 | exact zx0 | exact zx1 | exact zx2 | exact zx3 | ((repeat' (first | assumption | apply zset_eq | apply zset_ne | omega)); done) | ((repeat' (first | exact zscL_nil | refine zscL_i ?_ | refine zscL_n ?_ | refine zscL_r ?_ ?_ | refine zscL_l ?_ | exact zscS_nil | refine zscS_i ?_ | refine zscS_r ?_ ?_ | refine zscS_l ?_ | (simp only [List.length_set, hl]; first | omega | assumption) | omega)); done) | omega | (with_unfolding_all rfl) | fail)) only [v56_0, v56_1, v56_4, v56_5, v56_8, v56_11, v56_12, v56_15, v56_16, v56_19, v56_22, v56_23, v56_26, v56_27, v56_30, v56_31, v56_33, v56_34, v56_37, v56_40, v56_43, v56_44, v56_46, v56_47, v56_50, v56_53, v56_56, v56_57, v56_60, v56_63, v56_64, v56_65, v56_66, v56_67, v56_70, v56_71, v56_72, v56_75, v56_76, v56_77, v56_78, v56_81, v56_84, v56_85, v56_86, v56_87, v56_90, v56_91, v56_92, v56_95, v56_98, v56_99, v56_102, v56_105, v56_108, v56_111, v56_112, v56_115, v56_116, v56_119, zAft_v, zAft_n, iN_add, iN_mul, iN_sub, iN_lt, iN_le, iN_eq, bI_0, bI_1, if_pos, if_neg, ifnn, Nat.reduceAdd, Nat.reduceSub, Nat.reduceMul, Nat.add_zero, Nat.zero_add, List.set_set, not_true_eq_false, not_false_eq_true, if_true, if_false, reduceCtorEq, e3]
  rw [e4, hw3, List.set_set, hw2, hw1]
end fac
