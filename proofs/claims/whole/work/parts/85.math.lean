/-! Both sides say the same. -/
-- longest stretches
theorem rl_run {P : Nat → Bool} : ∀ k i, i < k → k - rl P k ≤ i → P i = true := by
  intro k
  induction k with
  | zero => intro i hi; omega
  | succ k ih =>
    intro i hi h
    rw [rl] at h
    by_cases q : P k = true
    · rw [if_pos q] at h
      by_cases r : i = k
      · rw [r]; exact q
      · exact ih i (by omega) (by omega)
    · rw [if_neg q] at h
      omega
theorem rl_ge {P : Nat → Bool} {s : Nat} : ∀ L, (∀ i, s ≤ i → i < s + L → P i = true) → L ≤ rl P (s + L) := by
  intro L
  induction L with
  | zero => intro _; exact Nat.zero_le _
  | succ L ih =>
    intro h
    rw [← Nat.add_assoc, rl, if_pos (h (s + L) (by omega) (by omega))]
    have := ih (fun i h1 h2 => h i h1 (by omega))
    omega
theorem bs_ge {P : Nat → Bool} : ∀ n k, k ≤ n → rl P k ≤ bs P n := by
  intro n
  induction n with
  | zero =>
    intro k hk
    obtain rfl : k = 0 := Nat.le_zero.mp hk
    exact Nat.le_refl _
  | succ n ih =>
    intro k hk
    rw [bs]
    by_cases q : k = n + 1
    · subst q; split <;> omega
    · have := ih k (by omega); split <;> omega
theorem bs_is {P : Nat → Bool} : ∀ n, ∃ k, k ≤ n ∧ bs P n = rl P k := by
  intro n
  induction n with
  | zero => exact ⟨0, Nat.le_refl _, rfl⟩
  | succ n ih =>
    obtain ⟨k, h1, h2⟩ := ih
    rw [bs]
    by_cases q : bs P n < rl P (n + 1)
    · rw [if_pos q]; exact ⟨n + 1, Nat.le_refl _, rfl⟩
    · rw [if_neg q]; exact ⟨k, by omega, h2⟩
theorem lo_ge {P : Nat → Bool} {n : Nat} : ∀ f s, s < f → fst (fun i => !(P i)) (n - s) s - s ≤ lo P n f := by
  intro f
  induction f with
  | zero => intro s h; omega
  | succ f ih =>
    intro s h
    rw [lo]
    by_cases q : s = f
    · subst q; split <;> omega
    · have := ih s (by omega); split <;> omega
theorem lo_is {P : Nat → Bool} {n : Nat} : ∀ f, lo P n f = 0 ∨ ∃ s, s < f ∧ lo P n f = fst (fun i => !(P i)) (n - s) s - s := by
  intro f
  induction f with
  | zero => exact Or.inl rfl
  | succ f ih =>
    rw [lo]
    by_cases q : lo P n f < fst (fun i => !(P i)) (n - f) f - f
    · rw [if_pos q]; exact Or.inr ⟨f, by omega, rfl⟩
    · rw [if_neg q]
      rcases ih with h | ⟨s, h1, h2⟩
      · exact Or.inl h
      · exact Or.inr ⟨s, by omega, h2⟩
theorem lo_bs {P : Nat → Bool} {n : Nat} : lo P n n = bs P n := by
  apply Nat.le_antisymm
  · rcases lo_is (P := P) (n := n) n with h | ⟨s, h1, h2⟩
    · rw [h]; exact Nat.zero_le _
    · have h3 := fst_le (P := fun i => !(P i)) (n - s) s
      have h4 := rl_ge (P := P) (s := s) (fst (fun i => !(P i)) (n - s) s - s) (fun i a b => by
        have := fst_min (P := fun i => !(P i)) (n - s) s i a (by omega)
        simpa using this)
      have h5 := bs_ge (P := P) n (s + (fst (fun i => !(P i)) (n - s) s - s)) (by omega)
      omega
  · obtain ⟨k, h1, h2⟩ := bs_is (P := P) n
    by_cases q : rl P k = 0
    · omega
    · have h3 := rl_le (P := P) k
      have h4 := lo_ge (P := P) (n := n) n (k - rl P k) (by omega)
      have h5 := fst_le (P := fun i => !(P i)) (n - (k - rl P k)) (k - rl P k)
      have h6 : k ≤ fst (fun i => !(P i)) (n - (k - rl P k)) (k - rl P k) := by
        apply Classical.byContradiction
        intro z
        have h7 := fst_hit (P := fun i => !(P i)) (n - (k - rl P k)) (k - rl P k) (by omega)
        have h8 := rl_run (P := P) k (fst (fun i => !(P i)) (n - (k - rl P k)) (k - rl P k)) (by omega) (by omega)
        rw [h8] at h7
        cases h7
      omega
theorem rl_congr {P Q : Nat → Bool} : ∀ n, (∀ i, i < n → P i = Q i) → rl P n = rl Q n := by
  intro n
  induction n with
  | zero => intro _; rfl
  | succ n ih => intro h; rw [rl, rl, ih (fun i hi => h i (by omega)), h n (by omega)]
theorem bs_congr {P Q : Nat → Bool} : ∀ n, (∀ i, i < n → P i = Q i) → bs P n = bs Q n := by
  intro n
  induction n with
  | zero => intro _; rfl
  | succ n ih => intro h; rw [bs, bs, ih (fun i hi => h i (by omega)), rl_congr (n + 1) h]
-- layers
theorem al_congr {P Q : Nat → Bool} : ∀ d k, (∀ i, k ≤ i → i < k + d → P i = Q i) → al P d k = al Q d k := by
  intro d
  induction d with
  | zero => intro k _; rfl
  | succ d ih => intro k h; rw [al, al, h k (Nat.le_refl _) (by omega), ih (k + 1) (fun i h1 h2 => h i (by omega) (by omega))]
theorem lay_congr {A B : Rel2} {T : Nat} (h : ∀ i j, i < T → j < T → A i j = B i j) (hr : ∀ i, i < T → A i i = true) (ht : ∀ i m j, i < T → m < T → A i m = true → A m j = true → A i j = true) : ∀ n (L M : Nat → Bool) (la lb : Nat → Nat) c, (∀ j, j < T → L j = M j) → (∀ j, j < T → la j = lb j) → (lay A T n L la c).2 = (lay B T n M lb c).2 ∧ ∀ j, j < T → (lay A T n L la c).1 j = (lay B T n M lb c).1 j := by
  intro n
  induction n with
  | zero => intro L M la lb c _ h2; exact ⟨rfl, h2⟩
  | succ n ih =>
    intro L M la lb c h1 h2
    have ea : any L T = any M T := by
      unfold any
      rw [al_congr T 0 (fun i _ hi => by rw [h1 i (by omega)])]
    rw [lay, lay, ← ea]
    by_cases q : any L T = true
    · rw [if_pos q, if_pos q]
      have hf : ∀ i, i < T → fre A T L i = fre B T M i := by
        intro i hi
        unfold fre
        rw [h1 i hi]
        congr 1
        exact al_congr T 0 (fun j _ hj => by rw [h1 j (by omega), h i j hi (by omega), h j i (by omega) hi])
      have el : low A T L = low B T M := fst_congr T 0 (fun i _ hi => hf i (by omega))
      have hlt := (low_ok hr ht q).1
      rw [← el]
      refine ih _ _ _ _ (c + 1) ?_ ?_
      · intro j hj
        show (L j && !(A (low A T L) j)) = (M j && !(B (low A T L) j))
        rw [h1 j hj, h _ j hlt hj]
      · intro j hj
        show (if (L j && A (low A T L) j) = true then c else la j) = (if (M j && B (low A T L) j) = true then c else lb j)
        rw [h1 j hj, h _ j hlt hj, h2 j hj]
    · rw [if_neg q, if_neg q]
      exact ⟨rfl, h2⟩
-- lines
theorem ln_eq {f : Nat → Int32} {r : Nat → Bool} {ce cp : Nat} (hce : ce ≤ 32) (hcp : cp ≤ 32) (h1 : ∀ p e, p < cp → e < ce → tb (f p) e = r (30 * p + e)) (h2 : ∀ p e, p < cp → ce ≤ e → e < 32 → tb (f p) e = false) {v : Bool} {a b : Nat} (ha : a < if v = true then cp else ce) (hb : b < if v = true then cp else ce) : ln f cp v a = ln f cp v b ↔ ∀ k, k < (if v = true then ce else cp) → r (if v = true then 30 * a + k else 30 * k + a) = r (if v = true then 30 * b + k else 30 * k + b) := by
  unfold ln
  cases v
  · simp only [Bool.false_eq_true, if_false] at ha hb ⊢
    constructor
    · intro h k hk
      have := mk_inj hcp h k hk
      rw [h1 k a hk ha, h1 k b hk hb] at this
      exact this
    · intro h
      refine mk_congr cp (fun k hk => ?_)
      rw [h1 k a hk ha, h1 k b hk hb]
      exact h k hk
  · simp only [if_true] at ha hb ⊢
    constructor
    · intro h k hk
      rw [← h1 a k ha hk, ← h1 b k hb hk, h]
    · intro h
      refine tb_ext (fun k hk => ?_)
      by_cases q : k < ce
      · rw [h1 a k ha q, h1 b k hb q]
        exact h k q
      · rw [h2 a k ha (by omega) hk, h2 b k hb (by omega) hk]
theorem sm_iff {rcl : Nat → Bool} {re rw : Nat} {v : Bool} {a b : Nat} : sm rcl re rw v a b = true ↔ ∀ k, k < (if v = true then re else rw) → rcl (if v = true then 30 * a + k else 30 * k + a) = rcl (if v = true then 30 * b + k else 30 * k + b) := by
  unfold sm
  cases v
  · rw [if_neg (by decide), al_iff]
    simp only [Bool.false_eq_true, if_false, decide_eq_true_eq]
    exact ⟨fun h k hk => h k (Nat.zero_le _) (by omega), fun h k _ hk => h k (by omega)⟩
  · rw [if_pos rfl, al_iff]
    simp only [if_true, decide_eq_true_eq]
    exact ⟨fun h k hk => h k (Nat.zero_le _) (by omega), fun h k _ hk => h k (by omega)⟩
theorem sm_ln {f : Nat → Int32} {r : Nat → Bool} {ce cp : Nat} (hce : ce ≤ 32) (hcp : cp ≤ 32) (h1 : ∀ p e, p < cp → e < ce → tb (f p) e = r (30 * p + e)) (h2 : ∀ p e, p < cp → ce ≤ e → e < 32 → tb (f p) e = false) {v : Bool} {a b : Nat} (ha : a < if v = true then cp else ce) (hb : b < if v = true then cp else ce) : decide (ln f cp v a = ln f cp v b) = sm r ce cp v a b := by
  cases q : sm r ce cp v a b
  · rw [decide_eq_false_iff_not, ln_eq hce hcp h1 h2 ha hb, ← sm_iff, q]
    decide
  · rw [decide_eq_true_eq, ln_eq hce hcp h1 h2 ha hb, ← sm_iff]
    exact q
theorem period_eq {f : Nat → Int32} {r : Nat → Bool} {ce cp : Nat} (hce : ce ≤ 32) (hcp : cp ≤ 32) (h1 : ∀ p e, p < cp → e < ce → tb (f p) e = r (30 * p + e)) (h2 : ∀ p e, p < cp → ce ≤ e → e < 32 → tb (f p) e = false) {v : Bool} {n : Nat} (hn : n = if v = true then cp else ce) : fst (fun s => al (fun i => decide (ln f cp v i = ln f cp v (i + s))) (n - s) 0) (n - 1) 1 = fst (fun s => al (fun i => sm r ce cp v i (i + s)) (n - s) 0) (n - 1) 1 := by
  refine fst_congr _ _ (fun s _ _ => al_congr _ _ (fun i _ hi => ?_))
  exact sm_ln hce hcp h1 h2 (by omega) (by omega)
theorem fl_F2 {f : Nat → Int32} {r : Nat → Bool} {pe pp : Nat} (hce : pe ≤ 32) (hcp : pp ≤ 32) (h1 : ∀ p e, p < pp → e < pe → tb (f p) e = r (30 * p + e)) (h2 : ∀ p e, p < pp → pe ≤ e → e < 32 → tb (f p) e = false) {v : Bool} {i : Nat} (hi : i < if v = true then pp else pe) : fl (ln f pp v) i = F2 r pe pp (!v) i := by
  unfold fl F2
  refine fst_congr _ _ (fun j _ hj => ?_)
  have e1 : decide (ln f pp v j = ln f pp v i) = sm r pe pp v j i := sm_ln hce hcp h1 h2 (by omega) hi
  have e2 : sm r pe pp v j i = spt r pe pp (!v) i j := by
    cases q : spt r pe pp (!v) i j
    · cases q2 : sm r pe pp v j i
      · rfl
      · rw [sm_iff] at q2
        have : spt r pe pp (!v) i j = true := by
          rw [spt_iff]
          intro k hk
          cases v
          · exact (q2 k hk).symm
          · exact (q2 k hk).symm
        rw [q] at this
        cases this
    · rw [spt_iff] at q
      rw [sm_iff]
      intro k hk
      cases v
      · exact (q k hk).symm
      · exact (q k hk).symm
  exact e1.trans e2
theorem us_congr {F G : Nat → Nat} : ∀ n, (∀ i, i < n → F i = G i) → us F n = us G n := by
  intro n
  induction n with
  | zero => intro _; rfl
  | succ n ih => intro h; rw [us, us, ih (fun i hi => h i (by omega)), h n (by omega)]
