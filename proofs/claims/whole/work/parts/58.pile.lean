/-! Layers, as functions of a relation: i lies over j. -/
abbrev Rel2 : Type := Nat → Nat → Bool
def stp (A : Rel2) (k a : Nat) : Rel2 := fun i j => if i = a then (A a j || (A a k && A k j)) else A i j
def inn (A : Rel2) (k : Nat) : Nat → Rel2
  | 0 => A
  | n + 1 => stp (inn A k n) k n
def clo (A : Rel2) (T : Nat) : Nat → Rel2
  | 0 => A
  | k + 1 => inn (clo A T k) k T
theorem inn_at {A : Rel2} {k : Nat} : ∀ (n i j : Nat), inn A k n i j = if i < n then (A i j || (A i k && A k j)) else A i j := by
  intro n
  induction n with
  | zero => intro i j; rw [inn, if_neg (by omega)]
  | succ n ih =>
    intro i j
    rw [inn]
    unfold stp
    by_cases h : i = n
    · subst h
      rw [if_pos rfl, if_pos (by omega), ih i j, ih i k, ih k j, if_neg (by omega), if_neg (by omega)]
      by_cases q : k < i
      · rw [if_pos q]
        cases A i j <;> cases A i k <;> cases A k j <;> cases A k k <;> rfl
      · rw [if_neg q]
    · rw [if_neg h, ih i j]
      by_cases q : i < n
      · rw [if_pos q, if_pos (by omega)]
      · rw [if_neg q, if_neg (by omega)]
theorem clo_refl {A : Rel2} {T : Nat} (h : ∀ i, i < T → A i i = true) : ∀ (k i : Nat), i < T → clo A T k i i = true := by
  intro k
  induction k with
  | zero => intro i hi; exact h i hi
  | succ k ih => intro i hi; rw [clo, inn_at, if_pos hi, ih i hi]; rfl
theorem clo_tr {A : Rel2} {T : Nat} : ∀ (k : Nat), k ≤ T → ∀ i m j, i < T → m < T → m < k → clo A T k i m = true → clo A T k m j = true → clo A T k i j = true := by
  intro k
  induction k with
  | zero => intro _ i m j _ _ h; omega
  | succ k ih =>
    intro hk i m j hi hm hmk h1 h2
    have ih := ih (by omega)
    rw [clo, inn_at, if_pos hi] at h1 ⊢
    rw [clo, inn_at, if_pos hm] at h2
    by_cases q : m = k
    · subst q
      have g1 : clo A T m i m = true := by
        cases x : clo A T m i m
        · rw [x] at h1; cases h1
        · rfl
      have g2 : clo A T m m j = true := by
        cases x : clo A T m m j
        · rw [x, Bool.and_false] at h2; cases h2
        · rfl
      rw [g1, g2, Bool.and_self, Bool.or_true]
    · simp only [Bool.or_eq_true, Bool.and_eq_true] at h1 h2 ⊢
      rcases h1 with h1 | ⟨h1, h1'⟩
      · rcases h2 with h2 | ⟨h2, h2'⟩
        · exact Or.inl (ih i m j hi hm (by omega) h1 h2)
        · exact Or.inr ⟨ih i m k hi hm (by omega) h1 h2, h2'⟩
      · rcases h2 with h2 | ⟨h2, h2'⟩
        · exact Or.inr ⟨h1, ih k m j (by omega) hm (by omega) h1' h2⟩
        · exact Or.inr ⟨h1, h2'⟩
/-- of those that are left, i lies over none that doesn't lie over it -/
def fre (A : Rel2) (T : Nat) (L : Nat → Bool) (i : Nat) : Bool := L i && al (fun j => !(L j && A i j && !(A j i))) T 0
def low (A : Rel2) (T : Nat) (L : Nat → Bool) : Nat := fst (fre A T L) T 0
def any (L : Nat → Bool) (T : Nat) : Bool := !(al (fun j => !(L j)) T 0)
/-- how many there are -/
def cnt (L : Nat → Bool) : Nat → Nat
  | 0 => 0
  | n + 1 => cnt L n + if L n = true then 1 else 0
theorem cnt_le {L M : Nat → Bool} : ∀ n, (∀ i, i < n → L i = true → M i = true) → cnt L n ≤ cnt M n := by
  intro n
  induction n with
  | zero => intro _; exact Nat.le_refl _
  | succ n ih =>
    intro h
    have h1 := ih (fun i hi => h i (by omega))
    have h2 := h n (by omega)
    rw [cnt, cnt]
    cases x : L n
    · simp; omega
    · rw [h2 x]; simp; omega
theorem cnt_lt {L M : Nat → Bool} {k : Nat} (hk : L k = false) (hk' : M k = true) : ∀ n, k < n → (∀ i, i < n → L i = true → M i = true) → cnt L n < cnt M n := by
  intro n
  induction n with
  | zero => intro h; omega
  | succ n ih =>
    intro hn h
    rw [cnt, cnt]
    by_cases q : k = n
    · subst q
      have h1 := cnt_le (L := L) (M := M) k (fun i hi => h i (by omega))
      rw [hk, hk']
      simp
      omega
    · have h1 := ih (by omega) (fun i hi => h i (by omega))
      have h2 := h n (by omega)
      cases x : L n
      · simp; omega
      · rw [h2 x]; simp; omega
theorem cnt_all : ∀ (L : Nat → Bool) n, cnt L n ≤ n := by
  intro L n
  induction n with
  | zero => exact Nat.le_refl _
  | succ n ih => rw [cnt]; split <;> omega
theorem any_iff {L : Nat → Bool} {T : Nat} : any L T = true ↔ ∃ i, i < T ∧ L i = true := by
  unfold any
  constructor
  · intro h
    apply Classical.byContradiction
    intro q
    have : al (fun j => !(L j)) T 0 = true := by
      rw [al_iff]
      intro i _ hi
      cases x : L i
      · rfl
      · exact absurd ⟨i, by omega, x⟩ q
    rw [this] at h
    cases h
  · rintro ⟨i, hi, h⟩
    cases x : al (fun j => !(L j)) T 0
    · rfl
    · rw [al_iff] at x
      have := x i (Nat.zero_le _) (by omega)
      rw [h] at this
      cases this
theorem fre_iff {A : Rel2} {T : Nat} {L : Nat → Bool} {i : Nat} : fre A T L i = true ↔ L i = true ∧ ∀ j, j < T → L j = true → A i j = true → A j i = true := by
  unfold fre
  rw [Bool.and_eq_true, al_iff]
  constructor
  · rintro ⟨h, h'⟩
    refine ⟨h, fun j hj x y => ?_⟩
    have := h' j (Nat.zero_le _) (by omega)
    rw [x, y] at this
    simpa using this
  · rintro ⟨h, h'⟩
    refine ⟨h, fun j _ hj => ?_⟩
    have := h' j (by omega)
    cases x : L j <;> cases y : A i j <;> cases z : A j i <;> simp_all
/-- where one is left, one is free -/
theorem fre_ex {A : Rel2} {T : Nat} (hr : ∀ i, i < T → A i i = true) (ht : ∀ i m j, i < T → m < T → A i m = true → A m j = true → A i j = true) {L : Nat → Bool} : ∀ (n i : Nat), i < T → L i = true → cnt (fun j => L j && A i j) T ≤ n → ∃ j, j < T ∧ fre A T L j = true := by
  intro n
  induction n with
  | zero =>
    intro i hi hL hc
    have h1 := cnt_lt (L := fun _ => false) (M := fun j => L j && A i j) (k := i) rfl (by simp [hL, hr i hi]) T hi (fun j _ q => by cases q)
    omega
  | succ n ih =>
    intro i hi hL hc
    by_cases q : fre A T L i = true
    · exact ⟨i, hi, q⟩
    · rw [fre_iff] at q
      have : ∃ j, j < T ∧ L j = true ∧ A i j = true ∧ A j i = false := by
        apply Classical.byContradiction
        intro z
        apply q
        refine ⟨hL, fun j hj x y => ?_⟩
        cases u : A j i
        · exact absurd ⟨j, hj, x, y, u⟩ z
        · rfl
      obtain ⟨j, hj, x, y, u⟩ := this
      refine ih j hj x ?_
      have := cnt_lt (L := fun k => L k && A j k) (M := fun k => L k && A i k) (k := i) (by simp [u]) (by simp [hL, hr i hi]) T hi (fun k hk z => by
        simp only [Bool.and_eq_true] at z ⊢
        exact ⟨z.1, ht i j k hi hj y z.2⟩)
      omega
theorem low_ok {A : Rel2} {T : Nat} (hr : ∀ i, i < T → A i i = true) (ht : ∀ i m j, i < T → m < T → A i m = true → A m j = true → A i j = true) {L : Nat → Bool} (h : any L T = true) : low A T L < T ∧ fre A T L (low A T L) = true := by
  obtain ⟨i, hi, h⟩ := any_iff.mp h
  obtain ⟨j, hj, q⟩ := fre_ex hr ht (L := L) (cnt (fun j => L j && A i j) T) i hi h (Nat.le_refl _)
  have h1 : low A T L < T := by
    apply Classical.byContradiction
    intro z
    have := fst_min (P := fre A T L) T 0 j (Nat.zero_le _) (by have : low A T L = fst (fre A T L) T 0 := rfl; omega)
    rw [q] at this
    cases this
  exact ⟨h1, fst_hit (P := fre A T L) T 0 (by rw [Nat.zero_add]; exact h1)⟩
/-- the layers: what is left, the labels, the number -/
def lay (A : Rel2) (T : Nat) : Nat → (Nat → Bool) → (Nat → Nat) → Nat → (Nat → Nat) × Nat
  | 0, _, lab, c => (lab, c)
  | n + 1, L, lab, c => if any L T = true then lay A T n (fun j => L j && !(A (low A T L) j)) (fun j => if (L j && A (low A T L) j) = true then c else lab j) (c + 1) else (lab, c)
