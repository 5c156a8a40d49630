/-! the reference: the year and the sums -/
section ZM3
variable {D : va_G} {ks : Nat → ClassId} {ad : Nat → Nat} {np ng : Nat} {G : Nat → Nat} {MI : Nat → Nat → Int32} {MJ : Nat → Nat → Int64} {XI : Nat → Nat → Int32} {XJ : Nat → Nat → Int64} {Rs : List Nat}
theorem l_add {a b : Int64} (h1 : -(2 ^ 63) ≤ a.toInt + b.toInt) (h2 : a.toInt + b.toInt < 2 ^ 63) : (a + b).toInt = a.toInt + b.toInt := by
  rw [Int64.toInt_add]
  exact Int.bmod_eq_of_le (by omega) (by omega)
/-- the sum of premiums, as an integer -/
def iP (b t st pr : Nat → Int32) (y te : Int32) : Nat → Int
  | 0 => 0
  | k + 1 => iP b t st pr y te k + (if b k = y ∧ t k = te ∧ st k = 0 then (pr k).toInt else 0)
theorem mP_iP {b t st pr : Nat → Int32} {y te : Int32} : ∀ (n : Nat), n ≤ 30 → (∀ k, k < n → 1 ≤ (pr k).toInt ∧ (pr k).toInt ≤ 1000) → (mP b t st pr y te n).toInt = iP b t st pr y te n ∧ 0 ≤ iP b t st pr y te n ∧ iP b t st pr y te n ≤ 1000 * n := by
  intro n
  induction n with
  | zero => intro _ _; exact ⟨rfl, Int.le_refl _, Int.le_refl _⟩
  | succ n ih =>
    intro hn h
    obtain ⟨h1, h2, h3⟩ := ih (by omega) (fun k hk => h k (by omega))
    obtain ⟨h4, h5⟩ := h n (by omega)
    simp only [mP, iP]
    split
    · rw [l_add (by rw [Int32.toInt_toInt64]; omega) (by rw [Int32.toInt_toInt64]; omega), Int32.toInt_toInt64, h1]
      exact ⟨rfl, by omega, by omega⟩
    · rw [Int64.add_zero, h1]
      exact ⟨by omega, by omega, by omega⟩
theorem iP_in {b t st pr : Nat → Int32} {y te : Int32} : ∀ (n : Nat) (j : Nat), j < n → (∀ k, k < n → 1 ≤ (pr k).toInt ∧ (pr k).toInt ≤ 1000) → b j = y → t j = te → st j = 0 → (pr j).toInt ≤ iP b t st pr y te n := by
  intro n
  induction n with
  | zero => intro j h; exact absurd h (Nat.not_lt_zero _)
  | succ n ih =>
    intro j hj h hb ht hs
    have h4 := h n (by omega)
    simp only [iP]
    by_cases e : j = n
    · subst e
      rw [if_pos ⟨hb, ht, hs⟩]
      have : 0 ≤ iP b t st pr y te j := by
        clear ih hj
        have key : ∀ m, m ≤ j → 0 ≤ iP b t st pr y te m := by
          intro m
          induction m with
          | zero => intro _; exact Int.le_refl _
          | succ m ihm =>
            intro hm
            have := ihm (by omega)
            have h9 := h m (by omega)
            simp only [iP]
            split <;> omega
        exact key j (Nat.le_refl _)
      omega
    · have := ih j (by omega) (fun k hk => h k (by omega)) hb ht hs
      split <;> omega
def mOK (MI : Nat → Nat → Int32) (np : Nat) : Prop := MI 0 6 = nI np ∧ np ≤ 30 ∧ ∀ k, k < np → (2 ≤ (MI 2 k).toInt ∧ (MI 2 k).toInt ≤ 20) ∧ 1 ≤ (MI 3 k).toInt ∧ (MI 3 k).toInt ≤ 1000
theorem mOK.pr {MI : Nat → Nat → Int32} {np : Nat} (h : mOK MI np) : ∀ k, k < np → 1 ≤ (MI 3 k).toInt ∧ (MI 3 k).toInt ≤ 1000 := fun k hk => (h.2.2 k hk).2
theorem mOK.to {MI M : Nat → Nat → Int32} {np : Nat} (h : mOK MI np) (h0 : M 0 6 = MI 0 6) (h2 : M 2 = MI 2) (h3 : M 3 = MI 3) : mOK M np := by
  refine ⟨h0.trans h.1, h.2.1, ?_⟩
  rw [h2, h3]
  exact h.2.2
theorem mOK.pos {MI : Nat → Nat → Int32} {np j : Nat} (h : mOK MI np) (hj : j < np) (hs : MI 5 j = 0) : 1 ≤ (mPr MI np j).toInt := by
  obtain ⟨h1, h2, h3⟩ := mP_iP (b := MI 1) (t := MI 2) (st := MI 5) (pr := MI 3) (y := MI 1 j) (te := MI 2 j) np h.2.1 h.pr
  have := iP_in (b := MI 1) (t := MI 2) (st := MI 5) (pr := MI 3) (y := MI 1 j) (te := MI 2 j) np j hj h.pr rfl rfl hs
  have h5 := (h.pr j hj).1
  show 1 ≤ (mP (MI 1) (MI 2) (MI 5) (MI 3) (MI 1 j) (MI 2 j) np).toInt
  omega
theorem mOK.hd {MI : Nat → Nat → Int32} {np j : Nat} (h : mOK MI np) (hj : j < np) : MI 5 j = 0 → ¬ mPr MI np j = 0 := fun hs e => by
  have := h.pos hj hs
  rw [e] at this
  exact absurd this (by decide)
theorem mOK.ht {MI : Nat → Nat → Int32} {np j : Nat} (h : mOK MI np) (hj : j < np) : ¬ Int32.toInt64 (MI 2 j) = 0 := fun e => by
  have h1 := (h.2.2 j hj).1.1
  have h2 : (Int32.toInt64 (MI 2 j)).toInt = 0 := by rw [e]; rfl
  rw [Int32.toInt_toInt64] at h2
  omega
theorem l_mul {a b : Int64} (h1 : -(2 ^ 63) ≤ a.toInt * b.toInt) (h2 : a.toInt * b.toInt < 2 ^ 63) : (a * b).toInt = a.toInt * b.toInt := by
  rw [Int64.toInt_mul]
  exact Int.bmod_eq_of_le (by omega) (by omega)
theorem i_mulb {a b A B : Int} (h0 : 0 ≤ a) (h1 : a ≤ A) (h2 : 0 ≤ b) (h3 : b ≤ B) : 0 ≤ a * b ∧ a * b ≤ A * B := ⟨Int.mul_nonneg h0 h2, Int.le_trans (Int.mul_le_mul_of_nonneg_right h1 h2) (Int.mul_le_mul_of_nonneg_left h3 (Int.le_trans h0 h1))⟩
theorem mOK.all {MI : Nat → Nat → Int32} {np j : Nat} (h : mOK MI np) (hj : j < np) : (Int32.toInt64 (MI 2 j) * Int32.toInt64 (MI 3 j)).toInt = (MI 2 j).toInt * (MI 3 j).toInt ∧ 2 ≤ (MI 2 j).toInt * (MI 3 j).toInt ∧ (MI 2 j).toInt * (MI 3 j).toInt ≤ 20000 := by
  obtain ⟨⟨h1, h2⟩, h3, h4⟩ := h.2.2 j hj
  have h5 := i_mulb (a := (MI 2 j).toInt) (b := (MI 3 j).toInt) (A := 20) (B := 1000) (by omega) h2 (by omega) h4
  have h6 : 2 ≤ (MI 2 j).toInt * (MI 3 j).toInt := Int.le_trans (by omega : (2 : Int) ≤ 2 * (MI 3 j).toInt) (Int.mul_le_mul_of_nonneg_right h1 (by omega))
  refine ⟨?_, h6, h5.2⟩
  rw [l_mul, Int32.toInt_toInt64, Int32.toInt_toInt64]
  · rw [Int32.toInt_toInt64, Int32.toInt_toInt64]; omega
  · rw [Int32.toInt_toInt64, Int32.toInt_toInt64]; omega
theorem mOK.hall {MI : Nat → Nat → Int32} {np j : Nat} (h : mOK MI np) (hj : j < np) : ¬ Int32.toInt64 (MI 2 j) * Int32.toInt64 (MI 3 j) = 0 := fun e => by
  have h1 := h.all hj
  rw [e] at h1
  have h2 : (0 : Int64).toInt = 0 := rfl
  omega
theorem mOK.term {MI : Nat → Nat → Int32} {np j : Nat} (h : mOK MI np) (hj : j < np) : ∃ t, t < 21 ∧ MI 2 j = nI t := by
  obtain ⟨⟨h1, h2⟩, -⟩ := h.2.2 j hj
  refine ⟨(MI 2 j).toInt.toNat, by omega, ?_⟩
  apply Int32.toInt_inj.mp
  rw [nI_toInt (by omega)]
  omega
def mGrow1 (MI : Nat → Nat → Int32) (rt : Int32) (np k : Nat) (J : Nat → Nat → Int64) : Nat → Nat → Int64 :=
  if hm MI np k = k ∧ 0 < mPr MI np k then
    u2 (u2 (u2 (u2 J 2 k (J 2 k + (mPr MI np k + fPart (J 2 k + mPr MI np k) (Int32.toInt64 rt)))) 0 1 (J 0 1 + (mPr MI np k + fPart (J 2 k + mPr MI np k) (Int32.toInt64 rt)))) 2 k
      (J 2 k + (mPr MI np k + fPart (J 2 k + mPr MI np k) (Int32.toInt64 rt)) - fPart (J 2 k + (mPr MI np k + fPart (J 2 k + mPr MI np k) (Int32.toInt64 rt))) (Int32.toInt64 (MI 0 2)))) 0 0
      (J 0 0 + fPart (J 2 k + (mPr MI np k + fPart (J 2 k + mPr MI np k) (Int32.toInt64 rt))) (Int32.toInt64 (MI 0 2)))
  else J
def mGrow (MI : Nat → Nat → Int32) (rt : Int32) (np : Nat) : Nat → (Nat → Nat → Int64) → Nat → Nat → Int64
  | 0, J => J
  | k + 1, J => mGrow1 MI rt np k (mGrow MI rt np k J)
def mGr1I (k : Nat) (M : Nat → Nat → Int32) : Nat → Nat → Int32 := if M 5 k = 0 then u2 M 6 k (M 6 k + Int64.toInt32 (fPart (Int32.toInt64 (M 4 k + M 6 k)) (Int32.toInt64 (M 0 1)))) else M
def mGr1J (rt : Int32) (k : Nat) (M : Nat → Nat → Int32) (J : Nat → Nat → Int64) : Nat → Nat → Int64 := if M 5 k = 0 then u2 J 1 k (J 1 k + Int32.toInt64 (M 3 k) + fPart (J 1 k + Int32.toInt64 (M 3 k)) (Int32.toInt64 rt) - fPart (J 1 k + Int32.toInt64 (M 3 k) + fPart (J 1 k + Int32.toInt64 (M 3 k)) (Int32.toInt64 rt)) (Int32.toInt64 (M 0 2))) else J
def mGrI : Nat → (Nat → Nat → Int32) → Nat → Nat → Int32
  | 0, M => M
  | k + 1, M => mGr1I k (mGrI k M)
def mGrJ (rt : Int32) : Nat → (Nat → Nat → Int32) → (Nat → Nat → Int64) → Nat → Nat → Int64
  | 0, _, J => J
  | k + 1, M, J => mGr1J rt k (mGrI k M) (mGrJ rt k M J)
theorem mGrI_k {a : Nat} (h : a ≠ 6) : ∀ (n : Nat) (M : Nat → Nat → Int32), mGrI n M a = M a := by
  intro n
  induction n with
  | zero => intro M; rfl
  | succ n ih =>
    intro M
    simp only [mGrI, mGr1I]
    split
    · rw [u2_k h, ih]
    · exact ih M
/-- the ratio of a policy that matures -/
def fClamp (r la m : Int64) : Int64 := if r < la - m then la - m else if la + m < r then la + m else r
def mRat (MI : Nat → Nat → Int32) (MJ : Nat → Nat → Int64) (np j t : Nat) : Int64 :=
  if MI 8 t ≤ 0 then fPart (mShare MI MJ np j) (Int32.toInt64 (MI 0 3)) * 1000 / (Int32.toInt64 (nI t) * Int32.toInt64 (MI 3 j))
  else fClamp (fPart (mShare MI MJ np j) (Int32.toInt64 (MI 0 3)) * 1000 / (Int32.toInt64 (nI t) * Int32.toInt64 (MI 3 j))) (Int32.toInt64 (MI 8 t) - 1) (fPart (Int32.toInt64 (MI 8 t) - 1) (Int32.toInt64 (MI 0 4)))
def mPay (MI : Nat → Nat → Int32) (MJ : Nat → Nat → Int64) (np j t : Nat) : Int32 := Int64.toInt32 (fMore (fPart (Int32.toInt64 (nI t) * Int32.toInt64 (MI 3 j)) (mRat MI MJ np j t)) (Int32.toInt64 (MI 4 j) + Int32.toInt64 (MI 6 j)))
def mMatI (np j t : Nat) (M : Nat → Nat → Int32) (J : Nat → Nat → Int64) : Nat → Nat → Int32 := u2 (u2 (u2 M 9 t (Int64.toInt32 (mRat M J np j t) + 1)) 5 j 1) 7 j (mPay M J np j t)
def mMatJ (np j t : Nat) (M : Nat → Nat → Int32) (J : Nat → Nat → Int64) : Nat → Nat → Int64 := lvJ (mPr (mMatI np j t M J) np j) J (hm M np j) (mShare M J np j) (mPay M J np j t)
end ZM3
