/-! the two sides agree: keys, homes, generations -/
section ZSB
variable {np ng : Nat} {G : Nat → Nat} {MI : Nat → Nat → Int32} {MJ : Nat → Nat → Int64} {XI : Nat → Nat → Int32} {XJ : Nat → Nat → Int64}
theorem hF_spec {b t : Nat → Int32} {y te : Int32} : ∀ (n f : Nat), (∃ k, k < n ∧ (b k = y ∧ t k = te) ∧ hF b t y te n f = k ∧ ∀ i, i < k → ¬ (b i = y ∧ t i = te)) ∨ (hF b t y te n f = f ∧ ∀ k, k < n → ¬ (b k = y ∧ t k = te)) := by
  intro n
  induction n with
  | zero => intro f; exact Or.inr ⟨rfl, fun k h => absurd h (Nat.not_lt_zero _)⟩
  | succ n ih =>
    intro f
    simp only [hF]
    rcases ih (if b n = y ∧ t n = te then n else f) with ⟨k, h1, h2, h3, h4⟩ | ⟨h1, h2⟩
    · exact Or.inl ⟨k, by omega, h2, h3, h4⟩
    · by_cases hm : b n = y ∧ t n = te
      · rw [if_pos hm] at h1 ⊢
        exact Or.inl ⟨n, by omega, hm, h1, h2⟩
      · rw [if_neg hm] at h1 ⊢
        refine Or.inr ⟨h1, fun k hk => ?_⟩
        rcases Nat.lt_or_ge k n with h | h
        · exact h2 k h
        · rw [show k = n by omega]; exact hm
theorem mF_spec {b t : Nat → Int32} {y te : Int32} : ∀ (n : Nat) (f : Int32), (∃ k, k < n ∧ (b k = y ∧ t k = te) ∧ mF b t y te n f = nI k ∧ ∀ i, i < k → ¬ (b i = y ∧ t i = te)) ∨ (mF b t y te n f = f ∧ ∀ k, k < n → ¬ (b k = y ∧ t k = te)) := by
  intro n
  induction n with
  | zero => intro f; exact Or.inr ⟨rfl, fun k h => absurd h (Nat.not_lt_zero _)⟩
  | succ n ih =>
    intro f
    simp only [mF]
    rcases ih (if b n = y ∧ t n = te then nI n else f) with ⟨k, h1, h2, h3, h4⟩ | ⟨h1, h2⟩
    · exact Or.inl ⟨k, by omega, h2, h3, h4⟩
    · by_cases hm : b n = y ∧ t n = te
      · rw [if_pos hm] at h1 ⊢
        exact Or.inl ⟨n, by omega, hm, h1, h2⟩
      · rw [if_neg hm] at h1 ⊢
        refine Or.inr ⟨h1, fun k hk => ?_⟩
        rcases Nat.lt_or_ge k n with h | h
        · exact h2 k h
        · rw [show k = n by omega]; exact hm
theorem xF_spec {b t : Nat → Int32} {y te : Int32} : ∀ (n k : Nat), (∃ i, k ≤ i ∧ i < k + n ∧ (b i = y ∧ t i = te) ∧ xF b t y te n k = some i) ∨ (xF b t y te n k = none ∧ ∀ i, k ≤ i → i < k + n → ¬ (b i = y ∧ t i = te)) := by
  intro n
  induction n with
  | zero => intro k; exact Or.inr ⟨rfl, fun i h1 h2 => by omega⟩
  | succ n ih =>
    intro k
    simp only [xF]
    by_cases hm : b k = y ∧ t k = te
    · rw [if_pos hm]
      exact Or.inl ⟨k, Nat.le_refl _, by omega, hm, rfl⟩
    · rw [if_neg hm]
      rcases ih (k + 1) with ⟨i, h1, h2, h3, h4⟩ | ⟨h1, h2⟩
      · exact Or.inl ⟨i, by omega, by omega, h3, h4⟩
      · refine Or.inr ⟨h1, fun i g1 g2 => ?_⟩
        rcases Nat.eq_or_lt_of_le g1 with h | h
        · rw [← h]; exact hm
        · exact h2 i h (by omega)
/-- the lowest policy of a generation -/
theorem hm_spec {j : Nat} (hj : j < np) : hm MI np j ≤ j ∧ MI 1 (hm MI np j) = MI 1 j ∧ MI 2 (hm MI np j) = MI 2 j ∧ ∀ i, i < hm MI np j → ¬ (MI 1 i = MI 1 j ∧ MI 2 i = MI 2 j) := by
  unfold hm
  rcases hF_spec (b := MI 1) (t := MI 2) (y := MI 1 j) (te := MI 2 j) np 0 with ⟨k, h1, h2, h3, h4⟩ | ⟨-, h2⟩
  · rw [h3]
    refine ⟨Nat.not_lt.mp fun h => h4 j h ⟨rfl, rfl⟩, h2.1, h2.2, h4⟩
  · exact absurd ⟨rfl, rfl⟩ (h2 j hj)
theorem hm_same {j k : Nat} (hj : j < np) (hk : k < np) (h1 : MI 1 j = MI 1 k) (h2 : MI 2 j = MI 2 k) : hm MI np j = hm MI np k := by unfold hm; rw [h1, h2]
theorem hm_hm {j : Nat} (hj : j < np) : hm MI np (hm MI np j) = hm MI np j := by
  obtain ⟨h1, h2, h3, -⟩ := hm_spec (MI := MI) hj
  exact hm_same (by omega) hj h2 h3
theorem hm_lt {j : Nat} (hj : j < np) : hm MI np j < np := Nat.lt_of_le_of_lt (hm_spec (MI := MI) hj).1 hj
theorem hm_cast {M : Nat → Nat → Int32} (h1 : M 1 = MI 1) (h2 : M 2 = MI 2) (j : Nat) : hm M np j = hm MI np j := by unfold hm; rw [h1, h2]
/-- how many homes lie below -/
def cnt (MI : Nat → Nat → Int32) (np : Nat) : Nat → Nat
  | 0 => 0
  | k + 1 => cnt MI np k + (if hm MI np k = k then 1 else 0)
theorem cnt_cast {M : Nat → Nat → Int32} (h1 : M 1 = MI 1) (h2 : M 2 = MI 2) : ∀ k, cnt M np k = cnt MI np k := by
  intro k
  induction k with
  | zero => rfl
  | succ k ih => simp only [cnt]; rw [ih, hm_cast h1 h2]
theorem cnt_le : ∀ {k n : Nat}, k ≤ n → cnt MI np k ≤ cnt MI np n := by
  intro k n h
  induction n with
  | zero => rw [show k = 0 by omega]; exact Nat.le_refl _
  | succ n ih =>
    rcases Nat.eq_or_lt_of_le h with h | h
    · rw [h]; exact Nat.le_refl _
    · simp only [cnt]; exact Nat.le_trans (ih (by omega)) (Nat.le_add_right _ _)
theorem cnt_id : ∀ (k : Nat), cnt MI np k ≤ k := by
  intro k
  induction k with
  | zero => exact Nat.le_refl _
  | succ k ih => simp only [cnt]; split <;> omega
/-- every number below is a home's -/
theorem cnt_sur : ∀ (n i : Nat), i < cnt MI np n → ∃ k, k < n ∧ hm MI np k = k ∧ cnt MI np k = i := by
  intro n
  induction n with
  | zero => intro i h; exact absurd h (Nat.not_lt_zero _)
  | succ n ih =>
    intro i h
    simp only [cnt] at h
    by_cases hh : hm MI np n = n
    · rw [if_pos hh] at h
      rcases Nat.lt_or_ge i (cnt MI np n) with q | q
      · obtain ⟨k, h1, h2⟩ := ih i q
        exact ⟨k, by omega, h2⟩
      · exact ⟨n, by omega, hh, by omega⟩
    · rw [if_neg hh] at h
      obtain ⟨k, h1, h2⟩ := ih i (by omega)
      exact ⟨k, by omega, h2⟩
/-- policies and generations name the same -/
def sK (np ng : Nat) (G : Nat → Nat) (MI XI : Nat → Nat → Int32) : Prop :=
  (∀ j, j < np → MI 1 j = XI 11 (G j) ∧ MI 2 j = XI 12 (G j) ∧ MI 3 j = XI 13 j ∧ MI 4 j = XI 14 j ∧ MI 5 j = XI 15 j ∧ G j < ng) ∧
  (∀ i k, i < ng → k < ng → XI 11 i = XI 11 k → XI 12 i = XI 12 k → i = k) ∧
  ((∀ k, k < np → hm MI np k = k → G k = cnt MI np k) ∧ cnt MI np np = ng) ∧ mOK MI np ∧ ∀ j, j < np → 0 ≤ (MI 4 j).toInt ∧ (MI 4 j).toInt ≤ 100000
theorem sK.key (h : sK np ng G MI XI) {j k : Nat} (hj : j < np) (hk : k < np) : G j = G k ↔ (MI 1 j = MI 1 k ∧ MI 2 j = MI 2 k) := by
  obtain ⟨a1, a2, -, -, -, a6⟩ := h.1 j hj
  obtain ⟨b1, b2, -, -, -, b6⟩ := h.1 k hk
  constructor
  · intro e
    rw [a1, a2, b1, b2, e]
    exact ⟨rfl, rfl⟩
  · rintro ⟨e1, e2⟩
    exact h.2.1 _ _ a6 b6 (by rw [← a1, ← b1, e1]) (by rw [← a2, ← b2, e2])
theorem sK.home (h : sK np ng G MI XI) {j k : Nat} (hj : j < np) (hk : k < np) (hh : hm MI np k = k) : G j = G k ↔ hm MI np j = k := by
  rw [h.key hj hk]
  constructor
  · rintro ⟨e1, e2⟩
    rw [hm_same hj hk e1 e2, hh]
  · intro e
    obtain ⟨-, h2, h3, -⟩ := hm_spec (MI := MI) hj
    rw [e] at h2 h3
    exact ⟨h2.symm, h3.symm⟩
theorem sK.hmG (h : sK np ng G MI XI) {j k : Nat} (hj : j < np) (hk : k < np) : G j = G k ↔ hm MI np j = hm MI np k := by
  rw [← h.home (k := hm MI np k) hj (hm_lt hk) (hm_hm hk), ((h.home hk (hm_lt hk) (hm_hm hk)).mpr rfl)]
theorem sK.sur (h : sK np ng G MI XI) {i : Nat} (hi : i < ng) : ∃ k, k < np ∧ hm MI np k = k ∧ G k = i ∧ cnt MI np k = i := by
  obtain ⟨k, h1, h2, h3⟩ := cnt_sur (MI := MI) (np := np) np i (by rw [h.2.2.1.2]; exact hi)
  exact ⟨k, h1, h2, (h.2.2.1.1 k h1 h2).trans h3, h3⟩
theorem sK.gle (h : sK np ng G MI XI) : ng ≤ np := by rw [← h.2.2.1.2]; exact cnt_id np
theorem sK.xOK (h : sK np ng G MI XI) : xOK XI G np ng := by
  refine ⟨h.2.2.2.1.2.1, Nat.le_trans h.gle h.2.2.2.1.2.1, fun j hj => (h.1 j hj).2.2.2.2.2, fun i hi => ?_⟩
  obtain ⟨k, h1, -, h3, -⟩ := h.sur hi
  have := (h.2.2.2.1.2.2 k h1).1
  rw [(h.1 k h1).2.1, h3] at this
  exact this
theorem mPr_same {j k : Nat} (h1 : MI 1 j = MI 1 k) (h2 : MI 2 j = MI 2 k) : mPr MI np j = mPr MI np k := by unfold mPr; rw [h1, h2]
/-- the funds agree, and are bounded -/
def sF (np : Nat) (G : Nat → Nat) (MI : Nat → Nat → Int32) (MJ XJ : Nat → Nat → Int64) (R : Int) : Prop :=
  (∀ j, j < np → XJ 7 (G j) = mPr MI np j ∧ MJ 2 (hm MI np j) = XJ 8 (G j) ∧ 0 ≤ (XJ 8 (G j)).toInt ∧ (XJ 8 (G j)).toInt ≤ R * (XJ 7 (G j)).toInt) ∧
  (∀ k, (np ≤ k ∨ hm MI np k ≠ k) → MJ 2 k = 0) ∧ MJ 0 0 = XJ 4 0 ∧ MJ 0 1 = XJ 4 1
theorem mPr_b (h : mOK MI np) (j : Nat) : 0 ≤ (mPr MI np j).toInt ∧ (mPr MI np j).toInt ≤ 30000 := by
  obtain ⟨h1, h2, h3⟩ := mP_iP (b := MI 1) (t := MI 2) (st := MI 5) (pr := MI 3) (y := MI 1 j) (te := MI 2 j) np h.2.1 h.pr
  have := h.2.1
  unfold mPr
  rw [h1]
  omega
end ZSB
