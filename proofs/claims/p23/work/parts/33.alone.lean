/-! the two sides agree: funds alone and bonuses -/
section ZSD
variable {np ng : Nat} {G : Nat → Nat} {MI : Nat → Nat → Int32} {MJ : Nat → Nat → Int64} {XI : Nat → Nat → Int32} {XJ : Nat → Nat → Int64}
theorem i_add {a b : Int32} (h1 : -(2 ^ 31) ≤ a.toInt + b.toInt) (h2 : a.toInt + b.toInt < 2 ^ 31) : (a + b).toInt = a.toInt + b.toInt := by
  rw [Int32.toInt_add]
  exact Int.bmod_eq_of_le (by omega) (by omega)
theorem to32 {x : Int64} (h1 : -(2 ^ 31) ≤ x.toInt) (h2 : x.toInt < 2 ^ 31) : (Int64.toInt32 x).toInt = x.toInt := by
  rw [Int64.toInt_toInt32]
  exact Int.bmod_eq_of_le (by omega) (by omega)
theorem to64 (x : Int32) : (Int32.toInt64 x).toInt = x.toInt := Int32.toInt_toInt64 x
def alF (a : Int64) (p rt ch : Int32) : Int64 := a + Int32.toInt64 p + fPart (a + Int32.toInt64 p) (Int32.toInt64 rt) - fPart (a + Int32.toInt64 p + fPart (a + Int32.toInt64 p) (Int32.toInt64 rt)) (Int32.toInt64 ch)
def boF (s g br : Int32) : Int32 := g + Int64.toInt32 (fPart (Int32.toInt64 (s + g)) (Int32.toInt64 br))
theorem mGrI_a {a : Nat} (h : a ≠ 6) : ∀ (k : Nat) (M : Nat → Nat → Int32), mGrI k M a = M a := by
  intro k
  induction k with
  | zero => intro M; rfl
  | succ k ih =>
    intro M
    simp only [mGrI]
    unfold mGr1I
    split
    · rw [u2_k h]; exact ih M
    · exact ih M
theorem mGrI_at : ∀ (k : Nat) (M : Nat → Nat → Int32) (j : Nat), mGrI k M 6 j = if j < k ∧ M 5 j = 0 then boF (M 4 j) (M 6 j) (M 0 1) else M 6 j := by
  intro k
  induction k with
  | zero => intro M j; rw [if_neg (fun q => absurd q.1 (Nat.not_lt_zero _))]; rfl
  | succ k ih =>
    intro M j
    simp only [mGrI]
    unfold mGr1I
    rw [mGrI_a (a := 5) (by decide) k M, mGrI_a (a := 4) (by decide) k M, mGrI_a (a := 0) (by decide) k M]
    have hk := ih M k
    rw [if_neg (fun q => absurd q.1 (Nat.lt_irrefl _))] at hk
    by_cases h5 : M 5 k = 0
    · rw [if_pos h5]
      by_cases hj : j = k
      · subst hj
        rw [u2_s, if_pos ⟨by omega, h5⟩, hk]; rfl
      · rw [u2_n hj, ih M j]
        by_cases hjk : j < k ∧ M 5 j = 0
        · rw [if_pos hjk, if_pos ⟨by omega, hjk.2⟩]
        · rw [if_neg hjk, if_neg (fun q => hjk ⟨by omega, q.2⟩)]
    · rw [if_neg h5, ih M j]
      by_cases hjk : j < k ∧ M 5 j = 0
      · rw [if_pos hjk, if_pos ⟨by omega, hjk.2⟩]
      · rw [if_neg hjk, if_neg (fun q => by
          rcases Nat.lt_or_ge j k with h | h
          · exact hjk ⟨h, q.2⟩
          · exact h5 (by rw [← show j = k by omega]; exact q.2))]
theorem mGrJ_a {rt : Int32} {a : Nat} (h : a ≠ 1) : ∀ (k : Nat) (M : Nat → Nat → Int32) (J : Nat → Nat → Int64), mGrJ rt k M J a = J a := by
  intro k
  induction k with
  | zero => intro M J; rfl
  | succ k ih =>
    intro M J
    simp only [mGrJ]
    unfold mGr1J
    split
    · rw [u2_k h]; exact ih M J
    · exact ih M J
theorem mGrJ_at {rt : Int32} : ∀ (k : Nat) (M : Nat → Nat → Int32) (J : Nat → Nat → Int64) (j : Nat), mGrJ rt k M J 1 j = if j < k ∧ M 5 j = 0 then alF (J 1 j) (M 3 j) rt (M 0 2) else J 1 j := by
  intro k
  induction k with
  | zero => intro M J j; rw [if_neg (fun q => absurd q.1 (Nat.not_lt_zero _))]; rfl
  | succ k ih =>
    intro M J j
    simp only [mGrJ]
    unfold mGr1J
    rw [mGrI_a (a := 5) (by decide) k M, mGrI_a (a := 3) (by decide) k M, mGrI_a (a := 0) (by decide) k M]
    have hk := ih M J k
    rw [if_neg (fun q => absurd q.1 (Nat.lt_irrefl _))] at hk
    by_cases h5 : M 5 k = 0
    · rw [if_pos h5]
      by_cases hj : j = k
      · subst hj
        rw [u2_s, if_pos ⟨by omega, h5⟩, hk]; rfl
      · rw [u2_n hj, ih M J j]
        by_cases hjk : j < k ∧ M 5 j = 0
        · rw [if_pos hjk, if_pos ⟨by omega, hjk.2⟩]
        · rw [if_neg hjk, if_neg (fun q => hjk ⟨by omega, q.2⟩)]
    · rw [if_neg h5, ih M J j]
      by_cases hjk : j < k ∧ M 5 j = 0
      · rw [if_pos hjk, if_pos ⟨by omega, hjk.2⟩]
      · rw [if_neg hjk, if_neg (fun q => by
          rcases Nat.lt_or_ge j k with h | h
          · exact hjk ⟨h, q.2⟩
          · exact h5 (by rw [← show j = k by omega]; exact q.2))]
theorem xPA_a {rt : Int32} {a : Nat} (h : a ≠ 9) : ∀ (k : Nat) (J : Nat → Nat → Int64), xPA XI np rt k J a = J a := by
  intro k
  induction k with
  | zero => intro J; rfl
  | succ k ih =>
    intro J
    simp only [xPA]
    unfold xPA1
    split
    · rw [u2_k h, u2_k h, u2_k h]; exact ih J
    · exact ih J
def alX (a : Int64) (p rt ch : Int32) : Int64 := a + Int32.toInt64 p + fThou (a + Int32.toInt64 p) (Int32.toInt64 rt) - fChg (a + Int32.toInt64 p + fThou (a + Int32.toInt64 p) (Int32.toInt64 rt)) (Int32.toInt64 ch)
theorem xPA_at {rt : Int32} : ∀ (k : Nat) (J : Nat → Nat → Int64) (j : Nat), xPA XI np rt k J 9 j = if j < k ∧ j < np ∧ XI 15 j = 0 then alX (J 9 j) (XI 13 j) rt (XI 10 4) else J 9 j := by
  intro k
  induction k with
  | zero => intro J j; rw [if_neg (fun q => absurd q.1 (Nat.not_lt_zero _))]; rfl
  | succ k ih =>
    intro J j
    simp only [xPA]
    unfold xPA1
    have hk := ih J k
    rw [if_neg (fun q => absurd q.1 (Nat.lt_irrefl _))] at hk
    by_cases h5 : k < np ∧ XI 15 k = 0
    · rw [if_pos h5]
      by_cases hj : j = k
      · subst hj
        rw [u2_s, if_pos ⟨by omega, h5⟩, hk]; rfl
      · rw [u2_n hj, u2_n hj, u2_n hj, ih J j]
        by_cases hjk : j < k ∧ j < np ∧ XI 15 j = 0
        · rw [if_pos hjk, if_pos ⟨by omega, hjk.2⟩]
        · rw [if_neg hjk, if_neg (fun q => hjk ⟨by omega, q.2⟩)]
    · rw [if_neg h5, ih J j]
      by_cases hjk : j < k ∧ j < np ∧ XI 15 j = 0
      · rw [if_pos hjk, if_pos ⟨by omega, hjk.2⟩]
      · rw [if_neg hjk, if_neg (fun q => by
          rcases Nat.lt_or_ge j k with h | h
          · exact hjk ⟨h, q.2⟩
          · exact h5 (by rw [← show j = k by omega]; exact q.2))]
theorem xGB_a {a : Nat} (h : a ≠ 10) : ∀ (k : Nat) (J : Nat → Nat → Int64), xGB XI np k J a = J a := by
  intro k
  induction k with
  | zero => intro J; rfl
  | succ k ih =>
    intro J
    simp only [xGB]
    unfold xGB1
    split
    · rw [u2_k h]; exact ih J
    · exact ih J
theorem xGB_at : ∀ (k : Nat) (J : Nat → Nat → Int64) (j : Nat), xGB XI np k J 10 j = if j < k ∧ j < np ∧ XI 15 j = 0 then J 10 j + fThou (Int32.toInt64 (XI 14 j) + J 10 j) (Int32.toInt64 (XI 10 3)) else J 10 j := by
  intro k
  induction k with
  | zero => intro J j; rw [if_neg (fun q => absurd q.1 (Nat.not_lt_zero _))]; rfl
  | succ k ih =>
    intro J j
    simp only [xGB]
    unfold xGB1
    have hk := ih J k
    rw [if_neg (fun q => absurd q.1 (Nat.lt_irrefl _))] at hk
    by_cases h5 : k < np ∧ XI 15 k = 0
    · rw [if_pos h5]
      by_cases hj : j = k
      · subst hj
        rw [u2_s, if_pos ⟨by omega, h5⟩, hk]
      · rw [u2_n hj, ih J j]
        by_cases hjk : j < k ∧ j < np ∧ XI 15 j = 0
        · rw [if_pos hjk, if_pos ⟨by omega, hjk.2⟩]
        · rw [if_neg hjk, if_neg (fun q => hjk ⟨by omega, q.2⟩)]
    · rw [if_neg h5, ih J j]
      by_cases hjk : j < k ∧ j < np ∧ XI 15 j = 0
      · rw [if_pos hjk, if_pos ⟨by omega, hjk.2⟩]
      · rw [if_neg hjk, if_neg (fun q => by
          rcases Nat.lt_or_ge j k with h | h
          · exact hjk ⟨h, q.2⟩
          · exact h5 (by rw [← show j = k by omega]; exact q.2))]
/-- a fund alone, a year on -/
theorem al_z {a : Int64} {p rt ch : Int32} {R R' : Int} (h0 : 0 ≤ a.toInt) (h1 : a.toInt ≤ R * 1000) (hp : 1 ≤ p.toInt ∧ p.toInt ≤ 1000) (hch : 0 ≤ ch.toInt ∧ ch.toInt ≤ 100) (hrt : -200 ≤ rt.toInt ∧ rt.toInt ≤ 200) (hR : 0 ≤ R ∧ R ≤ 20000) (hR' : 6 * (R + 1) ≤ 5 * R') : alX a p rt ch = alF a p rt ch ∧ 0 ≤ (alF a p rt ch).toInt ∧ (alF a p rt ch).toInt ≤ R' * 1000 := by
  unfold alX alF
  have hs : (a + Int32.toInt64 p).toInt = a.toInt + p.toInt := by rw [l_add (by rw [to64]; omega) (by rw [to64]; omega), to64]
  obtain ⟨e1, e2, e3⟩ := earn_z (a := a + Int32.toInt64 p) (r := Int32.toInt64 rt) (A := 2 ^ 40) (by omega) (by omega) (by omega) (by rw [to64]; exact hrt.1) (by rw [to64]; exact hrt.2)
  rw [fThou_part]
  generalize a + Int32.toInt64 p + fPart (a + Int32.toInt64 p) (Int32.toInt64 rt) = E at *
  obtain ⟨c1, c2, c3, c4⟩ := charge_z (a := E) (c := Int32.toInt64 ch) (A := E.toInt) e2 (Int.le_refl _) (by omega) (by rw [to64]; exact hch.1) (by rw [to64]; exact hch.2)
  rw [c4]
  exact ⟨rfl, c2, by omega⟩
/-- a bonus -/
theorem bo_z {s g br : Int32} {x : Int64} {B B' : Int} (hx : Int32.toInt64 g = x) (hs : 0 ≤ s.toInt) (hg : 0 ≤ g.toInt) (hB : s.toInt + g.toInt ≤ B) (hbr : 0 ≤ br.toInt ∧ br.toInt ≤ 200) (hB' : B + B / 5 ≤ B') (hB2 : B' ≤ 2 ^ 30) (hB0 : 0 ≤ B) :
    Int32.toInt64 (boF s g br) = x + fThou (Int32.toInt64 s + x) (Int32.toInt64 br) ∧ 0 ≤ (boF s g br).toInt ∧ s.toInt + (boF s g br).toInt ≤ B' := by
  subst hx
  have e1 : (s + g).toInt = s.toInt + g.toInt := i_add (by omega) (by omega)
  have e2 : Int32.toInt64 (s + g) = Int32.toInt64 s + Int32.toInt64 g := by
    apply Int64.toInt_inj.mp
    rw [to64, e1, l_add (by rw [to64, to64]; omega) (by rw [to64, to64]; omega), to64, to64]
  have h5 := i_mulb (a := (s + g).toInt) (A := B) (b := br.toInt) (B := 200) (by omega) (by omega) hbr.1 hbr.2
  have h5b : (s + g).toInt * br.toInt ≤ (s + g).toInt * 200 := Int.mul_le_mul_of_nonneg_left hbr.2 (by omega)
  have h6 := fPart_z (a := Int32.toInt64 (s + g)) (b := Int32.toInt64 br) (by rw [to64, to64]; omega) (by rw [to64, to64]; omega)
  rw [to64, to64] at h6
  unfold boF
  have e3 := to32 (x := fPart (Int32.toInt64 (s + g)) (Int32.toInt64 br)) (by rw [h6]; omega) (by rw [h6]; omega)
  rw [h6] at e3
  have e4 : (g + Int64.toInt32 (fPart (Int32.toInt64 (s + g)) (Int32.toInt64 br))).toInt = g.toInt + (s + g).toInt * br.toInt / 1000 := by
    rw [i_add (by rw [e3]; omega) (by rw [e3]; omega), e3]
  refine ⟨?_, by rw [e4]; omega, by rw [e4]; omega⟩
  rw [fThou_part, ← e2]
  apply Int64.toInt_inj.mp
  rw [to64, e4, l_add (by rw [to64, h6]; omega) (by rw [to64, h6]; omega), to64, h6]
def sP (np : Nat) (MI XI : Nat → Nat → Int32) (MJ XJ : Nat → Nat → Int64) (R B : Int) : Prop :=
  ∀ j, j < np → (MJ 1 j = XJ 9 j ∧ 0 ≤ (MJ 1 j).toInt ∧ (MJ 1 j).toInt ≤ R * 1000) ∧ (Int32.toInt64 (MI 6 j) = XJ 10 j ∧ 0 ≤ (MI 6 j).toInt ∧ (MI 4 j).toInt + (MI 6 j).toInt ≤ B) ∧ (if MI 5 j = 0 then XJ 11 j = -1 else MI 7 j = Int64.toInt32 (XJ 11 j))
end ZSD
