/-! the two sides agree: arithmetic -/
section ZSA
theorem xor_neg (x : Int64) : (x ^^^ 1000 < 0) ↔ x < 0 := by
  rw [Int64.lt_iff_toInt_lt, Int64.lt_iff_toInt_lt]
  have h1 : ∀ z : Int64, (z.toInt < (0 : Int64).toInt) ↔ z.toBitVec.msb = true := fun z => by
    rw [BitVec.msb_eq_toInt]
    show z.toBitVec.toInt < 0 ↔ _
    simp
  rw [h1, h1, Int64.toBitVec_xor, BitVec.msb_xor]
  have h2 : (1000 : Int64).toBitVec.msb = false := by decide
  rw [h2]
  simp
theorem fThou_part (a b : Int64) : fThou a b = fPart a b := by
  unfold fThou fFloor fPart
  by_cases h : a * b < 0
  · rw [if_pos ((xor_neg _).mpr h), if_pos h]
  · rw [if_neg (fun q => h ((xor_neg _).mp q)), if_neg h]
theorem q_div {x : Int64} {d : Int64} (hd : 0 < d.toInt) : (x / d).toInt = x.toInt.tdiv d.toInt := by
  refine Int64.toInt_div_of_ne_right _ _ ?_
  intro h
  rw [h] at hd
  exact absurd hd (by decide)
theorem q_neg (x : Int64) : (x < 0) ↔ x.toInt < 0 := by
  rw [Int64.lt_iff_toInt_lt]; exact Iff.rfl
theorem q_pos (x : Int64) : (0 < x) ↔ 0 < x.toInt := by
  rw [Int64.lt_iff_toInt_lt]; exact Iff.rfl
theorem td_1000 (x : Int) : (0 ≤ x ∨ x % 1000 = 0 → x.tdiv 1000 = x / 1000) ∧ (¬ (0 ≤ x ∨ x % 1000 = 0) → x.tdiv 1000 = x / 1000 + 1) := by
  rw [Int.tdiv_eq_ediv]
  have hs : Int.sign 1000 = 1 := rfl
  constructor
  · intro h
    rw [if_pos (by rcases h with h | h; exact Or.inl h; exact Or.inr (Int.dvd_of_emod_eq_zero h))]
    omega
  · intro h
    rw [if_neg (by rintro (q | q); exact h (Or.inl q); exact h (Or.inr (Int.emod_eq_zero_of_dvd q))), hs]
/-- so many thousandths, rounded down -/
theorem fPart_z {a b : Int64} (h1 : -(2 ^ 63) ≤ a.toInt * b.toInt) (h2 : a.toInt * b.toInt < 2 ^ 63) : (fPart a b).toInt = a.toInt * b.toInt / 1000 := by
  have hm := l_mul h1 h2
  unfold fPart
  generalize a * b = x at hm
  rw [← hm] at h1 h2 ⊢
  have hd : (x / 1000).toInt = x.toInt.tdiv 1000 := q_div (d := 1000) (by decide)
  have h1000 : (1000 : Int64).toInt = 1000 := by decide
  have hone : (-1 : Int64).toInt = -1 := by decide
  obtain ⟨t1, t2⟩ := td_1000 x.toInt
  by_cases hn : x < 0
  · rw [if_pos hn]
    have hn' := (q_neg x).mp hn
    by_cases hc : x.toInt % 1000 = 0
    · have hd1 := hd.trans (t1 (Or.inr hc))
      have hmul : (x / 1000 * 1000).toInt = x.toInt := by
        rw [l_mul (by rw [hd1, h1000]; omega) (by rw [hd1, h1000]; omega), hd1, h1000]; omega
      rw [if_pos (Int64.toInt_inj.mp hmul), hd1]
    · have hd1 := hd.trans (t2 (by omega))
      have hmul : ¬ x / 1000 * 1000 = x := fun q => by
        have := congrArg Int64.toInt q
        rw [l_mul (by rw [hd1, h1000]; omega) (by rw [hd1, h1000]; omega), hd1, h1000] at this
        omega
      rw [if_neg hmul, show x / 1000 - 1 = x / 1000 + (-1) from by rw [Int64.sub_eq_add_neg], l_add (by rw [hd1, hone]; omega) (by rw [hd1, hone]; omega), hd1, hone]
      omega
  · rw [if_neg hn, hd]
    have hn' : 0 ≤ x.toInt := Int.not_lt.mp (fun q => hn ((q_neg x).mpr q))
    exact t1 (Or.inl hn')
/-- a product with a bounded thousandth: it fits -/
theorem mul_fit {a b A B : Int} (h1 : 0 ≤ a) (h2 : a ≤ A) (h3 : -B ≤ b) (h4 : b ≤ B) (h0 : 0 ≤ B) : -(A * B) ≤ a * b ∧ a * b ≤ A * B := by
  have hA : 0 ≤ A := Int.le_trans h1 h2
  constructor
  · have e1 : a * (-B) ≤ a * b := Int.mul_le_mul_of_nonneg_left h3 h1
    have e2 : a * B ≤ A * B := Int.mul_le_mul_of_nonneg_right h2 h0
    rw [Int.mul_neg] at e1
    omega
  · exact Int.le_trans (Int.mul_le_mul_of_nonneg_left h4 h1) (Int.mul_le_mul_of_nonneg_right h2 h0)
/-- an amount that earns a rate -/
theorem earn_z {a r : Int64} {A : Int} (h1 : 0 ≤ a.toInt) (h2 : a.toInt ≤ A) (hA : A ≤ 2 ^ 40) (h3 : -200 ≤ r.toInt) (h4 : r.toInt ≤ 200) : (a + fPart a r).toInt = a.toInt + a.toInt * r.toInt / 1000 ∧ 0 ≤ (a + fPart a r).toInt ∧ 5 * (a + fPart a r).toInt ≤ 6 * a.toInt := by
  have h5 := mul_fit h1 (Int.le_refl _) (B := 200) (by omega) h4 (by decide)
  have h6 := fPart_z (a := a) (b := r) (by omega) (by omega)
  have h7 : (a + fPart a r).toInt = a.toInt + a.toInt * r.toInt / 1000 := by
    rw [l_add (by rw [h6]; omega) (by rw [h6]; omega), h6]
  refine ⟨h7, ?_, ?_⟩ <;> rw [h7] <;> omega
/-- a charge -/
theorem charge_z {a c : Int64} {A : Int} (h1 : 0 ≤ a.toInt) (h2 : a.toInt ≤ A) (hA : A ≤ 2 ^ 41) (h3 : 0 ≤ c.toInt) (h4 : c.toInt ≤ 100) : (a - fPart a c).toInt = a.toInt - a.toInt * c.toInt / 1000 ∧ 0 ≤ (a - fPart a c).toInt ∧ (a - fPart a c).toInt ≤ a.toInt ∧ fChg a c = fPart a c := by
  have h5 := i_mulb (A := a.toInt) (B := 100) h1 (Int.le_refl _) h3 h4
  have h6 := fPart_z (a := a) (b := c) (by omega) (by omega)
  have hneg : (-fPart a c).toInt = -(fPart a c).toInt := by
    rw [Int64.toInt_neg]
    exact Int.bmod_eq_of_le (by rw [h6]; omega) (by rw [h6]; omega)
  have h7 : (a - fPart a c).toInt = a.toInt - a.toInt * c.toInt / 1000 := by
    rw [Int64.sub_eq_add_neg, l_add (by rw [hneg, h6]; omega) (by rw [hneg, h6]; omega), hneg, h6]
    omega
  refine ⟨h7, by rw [h7]; omega, by rw [h7]; omega, ?_⟩
  unfold fChg
  by_cases hp : 0 < a
  · rw [if_pos hp, fThou_part]
  · rw [if_neg hp]
    have h8 : a.toInt = 0 := by
      have := Int.not_lt.mp (fun q => hp ((q_pos a).mpr q))
      omega
    apply Int64.toInt_inj.mp
    rw [h6, h8]
    simp
theorem l_sub {a b : Int64} (h1 : -(2 ^ 63) ≤ a.toInt - b.toInt) (h2 : a.toInt - b.toInt < 2 ^ 63) : (a - b).toInt = a.toInt - b.toInt := by
  rw [Int64.toInt_sub]
  exact Int.bmod_eq_of_le (by omega) (by omega)
/-- a share of an amount -/
theorem share_z {a P : Int64} {p R : Int} {q : Int64} (hq : q.toInt = p) (h1 : 0 ≤ a.toInt) (h2 : a.toInt ≤ R * P.toInt) (hp : 1 ≤ p) (hp2 : p ≤ P.toInt) (hP : P.toInt ≤ 30000) (hR0 : 0 ≤ R) (hR : R ≤ 100000) : (a * q / P).toInt = a.toInt * p / P.toInt ∧ 0 ≤ a.toInt * p / P.toInt ∧ a.toInt * p / P.toInt ≤ R * p ∧ a.toInt * p / P.toInt ≤ a.toInt ∧ a.toInt - a.toInt * p / P.toInt ≤ R * (P.toInt - p) := by
  have hA : R * P.toInt ≤ 100000 * 30000 := (i_mulb hR0 hR (by omega) hP).2
  have h5 := i_mulb (A := 3000000000) (B := 30000) h1 (by omega) (b := p) (by omega) (by omega)
  have h6 : (a * q).toInt = a.toInt * p := by rw [l_mul (by rw [hq]; omega) (by rw [hq]; omega), hq]
  have hP0 : 0 < P.toInt := by omega
  refine ⟨?_, Int.ediv_nonneg h5.1 (by omega), ?_, ?_, ?_⟩
  · rw [q_div hP0, h6, Int.tdiv_eq_ediv_of_nonneg h5.1]
  · refine Int.ediv_le_of_le_mul hP0 ?_
    have := Int.mul_le_mul_of_nonneg_right h2 (show 0 ≤ p by omega)
    rw [Int.mul_assoc, Int.mul_comm P.toInt, ← Int.mul_assoc] at this
    exact this
  · refine Int.ediv_le_of_le_mul hP0 (Int.mul_le_mul_of_nonneg_left hp2 h1)
  · have h7 : (a.toInt - R * (P.toInt - p)) ≤ a.toInt * p / P.toInt := by
      refine Int.le_ediv_of_mul_le hP0 ?_
      have h8 : (R * P.toInt - a.toInt) * (P.toInt - p) ≥ 0 := Int.mul_nonneg (by omega) (by omega)
      have e1 : (a.toInt - R * (P.toInt - p)) * P.toInt = a.toInt * P.toInt - R * (P.toInt - p) * P.toInt := Int.sub_mul _ _ _
      have e2 : (R * P.toInt - a.toInt) * (P.toInt - p) = R * (P.toInt - p) * P.toInt - a.toInt * P.toInt + a.toInt * p := by
        rw [Int.sub_mul, Int.mul_sub a.toInt, Int.mul_assoc, Int.mul_comm P.toInt (P.toInt - p), ← Int.mul_assoc]
        omega
      omega
    omega
theorem fParted_pos {a d : Int64} (h : 0 < d.toInt) : fParted a d = a / d := if_pos ((q_pos d).mpr h)
end ZSA
