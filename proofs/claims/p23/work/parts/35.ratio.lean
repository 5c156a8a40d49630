/-! the two sides agree: policies mature -/
section ZSF
variable {np ng : Nat} {G : Nat → Nat} {MI : Nat → Nat → Int32} {MJ : Nat → Nat → Int64} {XI : Nat → Nat → Int32} {XJ : Nat → Nat → Int64}
theorem sF.cast {M : Nat → Nat → Int32} {J X : Nat → Nat → Int64} {R : Int} (h : sF np G MI MJ XJ R) (h1 : M 1 = MI 1) (h2 : M 2 = MI 2) (h3 : M 3 = MI 3) (h5 : M 5 = MI 5) (j0 : J 0 = MJ 0) (j2 : J 2 = MJ 2) (x4 : X 4 = XJ 4) (x7 : X 7 = XJ 7) (x8 : X 8 = XJ 8) : sF np G M J X R := by
  have hp : ∀ k, mPr M np k = mPr MI np k := fun k => by unfold mPr; rw [h1, h2, h3, h5]
  refine ⟨fun j hj => ?_, fun k hk => ?_, by rw [j0, x4]; exact h.2.2.1, by rw [j0, x4]; exact h.2.2.2⟩
  · rw [x7, x8, hp, j2, hm_cast h1 h2]; exact h.1 j hj
  · rw [hm_cast h1 h2] at hk
    rw [j2]; exact h.2.1 k hk
theorem sP.cast {M X' : Nat → Nat → Int32} {J X : Nat → Nat → Int64} {R B : Int} (h : sP np MI XI MJ XJ R B) (h4 : M 4 = MI 4) (h5 : M 5 = MI 5) (h6 : M 6 = MI 6) (h7 : M 7 = MI 7) (j1 : J 1 = MJ 1) (x9 : X 9 = XJ 9) (x10 : X 10 = XJ 10) (x11 : X 11 = XJ 11) : sP np M X' J X R B := by
  intro j hj
  rw [h4, h5, h6, h7, j1, x9, x10, x11]
  exact h j hj
def sRat (r : Nat → Int32) (x : Nat → Int64) : Prop := ∀ t, t < 21 → x t = Int32.toInt64 (r t) - 1 ∧ 0 ≤ (r t).toInt ∧ (r t).toInt ≤ 15000001
theorem clamp_eq {r la m : Int64} (hm : 0 ≤ m.toInt) (hml : m.toInt ≤ la.toInt) (hla : la.toInt ≤ 2 ^ 40) : fMin (fMax r (la - m)) (la + m) = fClamp r la m ∧ ((fClamp r la m).toInt ≤ r.toInt ∨ (fClamp r la m).toInt ≤ la.toInt) ∧ (0 ≤ r.toInt → 0 ≤ (fClamp r la m).toInt) := by
  have e1 : (la - m).toInt = la.toInt - m.toInt := l_sub (by omega) (by omega)
  have e2 : (la + m).toInt = la.toInt + m.toInt := l_add (by omega) (by omega)
  unfold fClamp
  by_cases c1 : r.toInt < la.toInt - m.toInt
  · have m1 : fMax r (la - m) = la - m := if_neg (by rw [Int64.lt_iff_toInt_lt, e1]; omega)
    have m2 : fMin (la - m) (la + m) = la - m := if_neg (by rw [Int64.lt_iff_toInt_lt, e1, e2]; omega)
    rw [m1, m2, if_pos (by rw [Int64.lt_iff_toInt_lt, e1]; exact c1)]
    exact ⟨rfl, Or.inr (by rw [e1]; omega), fun _ => by rw [e1]; omega⟩
  · rw [if_neg (by rw [Int64.lt_iff_toInt_lt, e1]; exact c1)]
    by_cases c2 : la.toInt + m.toInt < r.toInt
    · have m1 : fMax r (la - m) = r := if_pos (by rw [Int64.lt_iff_toInt_lt, e1]; omega)
      have m2 : fMin r (la + m) = la + m := if_pos (by rw [Int64.lt_iff_toInt_lt, e2]; exact c2)
      rw [m1, m2, if_pos (by rw [Int64.lt_iff_toInt_lt, e2]; exact c2)]
      exact ⟨rfl, Or.inl (by rw [e2]; omega), fun _ => by rw [e2]; omega⟩
    · rw [if_neg (by rw [Int64.lt_iff_toInt_lt, e2]; exact c2)]
      have m1 : fMax r (la - m) = r := by
        by_cases c3 : la.toInt - m.toInt < r.toInt
        · exact if_pos (by rw [Int64.lt_iff_toInt_lt, e1]; exact c3)
        · have m0 : fMax r (la - m) = la - m := if_neg (by rw [Int64.lt_iff_toInt_lt, e1]; exact c3)
          rw [m0]
          exact Int64.toInt_inj.mp (by omega)
      have m2 : fMin r (la + m) = r := if_neg (by rw [Int64.lt_iff_toInt_lt, e2]; exact c2)
      rw [m1, m2]
      exact ⟨rfl, Or.inl (Int.le_refl _), fun h => h⟩
/-- a payout's ratio -/
theorem rat_eq {R : Int} (hK : sK np ng G MI XI) (hF : sF np G MI MJ XJ R) (hR : 0 ≤ R ∧ R ≤ 20000) {j t : Nat} (hj : j < np) (hs : MI 5 j = 0) (ht : 2 ≤ t ∧ t < 21) (h3 : MI 0 3 = XI 10 5) (h4 : MI 0 4 = XI 10 6) (hsc : 500 ≤ (MI 0 3).toInt ∧ (MI 0 3).toInt ≤ 1500) (hsp : 0 ≤ (MI 0 4).toInt ∧ (MI 0 4).toInt ≤ 1000) (hr : sRat (MI 8) (XJ 6)) :
    xRat XI XJ G j t = mRat MI MJ np j t ∧ 0 ≤ (mRat MI MJ np j t).toInt ∧ (mRat MI MJ np j t).toInt ≤ 15000000 := by
  obtain ⟨sh, sh1, sh0, -⟩ := share_eq hK hF hR hj
  obtain ⟨-, sh2, -, -, -⟩ := sh1 hs
  obtain ⟨a1, a2, a3, a4, a5, a6⟩ := hK.1 j hj
  obtain ⟨hp1, hp2⟩ := hK.2.2.2.1.pr j hj
  unfold xRat mRat
  rw [sh, ← a3, ← h3, ← h4, fThou_part]
  generalize mShare MI MJ np j = S at *
  have hnt : (nI t).toInt = t := nI_toInt (by omega)
  have hal : (Int32.toInt64 (nI t) * Int32.toInt64 (MI 3 j)).toInt = t * (MI 3 j).toInt := by
    have := i_mulb (a := (t : Int)) (A := 21) (b := (MI 3 j).toInt) (B := 1000) (by omega) (by omega) (by omega) hp2
    rw [l_mul (by rw [to64, to64, hnt]; omega) (by rw [to64, to64, hnt]; omega), to64, to64, hnt]
  have hal2 : 2 * (MI 3 j).toInt ≤ t * (MI 3 j).toInt := Int.mul_le_mul_of_nonneg_right (by omega) (by omega)
  have hSb : S.toInt ≤ 20000 * 1000 := Int.le_trans sh2 (i_mulb hR.1 hR.2 (by omega) hp2).2
  have hm := i_mulb (a := S.toInt) (A := 20000000) (b := (MI 0 3).toInt) (B := 1500) sh0 (by omega) (by omega) hsc.2
  have hm2 : S.toInt * (MI 0 3).toInt ≤ R * (MI 3 j).toInt * 1500 := (i_mulb sh0 sh2 (by omega) hsc.2).2
  have hfp := fPart_z (a := S) (b := Int32.toInt64 (MI 0 3)) (by rw [to64]; omega) (by rw [to64]; omega)
  rw [to64] at hfp
  have h1000 : (1000 : Int64).toInt = 1000 := by decide
  have hf2 : (fPart S (Int32.toInt64 (MI 0 3)) * 1000).toInt = S.toInt * (MI 0 3).toInt / 1000 * 1000 := by
    rw [l_mul (by rw [hfp, h1000]; omega) (by rw [hfp, h1000]; omega), hfp, h1000]
  rw [fParted_pos (by rw [hal]; omega)]
  obtain ⟨raw, hraw⟩ : ∃ z, z = fPart S (Int32.toInt64 (MI 0 3)) * 1000 / (Int32.toInt64 (nI t) * Int32.toInt64 (MI 3 j)) := ⟨_, rfl⟩
  rw [← hraw]
  have hri : raw.toInt = S.toInt * (MI 0 3).toInt / 1000 * 1000 / (t * (MI 3 j).toInt) := by
    rw [hraw, q_div (by rw [hal]; omega), hf2, hal, Int.tdiv_eq_ediv_of_nonneg (by omega)]
  have hr0 : 0 ≤ raw.toInt := by rw [hri]; exact Int.ediv_nonneg (by omega) (by omega)
  have hrQ : raw.toInt ≤ 15000000 := by
    rw [hri]
    refine Int.ediv_le_of_le_mul (by omega) ?_
    have g1 : R * (MI 3 j).toInt ≤ 20000 * (MI 3 j).toInt := Int.mul_le_mul_of_nonneg_right hR.2 (by omega)
    omega
  obtain ⟨r1, r2, r3⟩ := hr t ht.2
  rw [r1]
  unfold fSmooth
  have hone : (1 : Int64).toInt = 1 := by decide
  have hla : (Int32.toInt64 (MI 8 t) - 1).toInt = (MI 8 t).toInt - 1 := by rw [l_sub (by rw [to64, hone]; omega) (by rw [to64, hone]; omega), to64, hone]
  have hz : (0 : Int32).toInt = 0 := by decide
  by_cases h8 : MI 8 t ≤ 0
  · rw [if_pos h8]
    have h80 : (MI 8 t).toInt = 0 := by
      have := Int32.le_iff_toInt_le.mp h8
      omega
    rw [if_pos (Int64.toInt_inj.mp (by rw [hla, h80]; decide))]
    exact ⟨rfl, hr0, hrQ⟩
  · rw [if_neg h8]
    have h81 : 0 < (MI 8 t).toInt := by
      have := fun q => h8 (Int32.le_iff_toInt_le.mpr q)
      rw [hz] at this
      exact Int.not_le.mp this
    rw [if_neg (fun q => by have := congrArg Int64.toInt q; rw [hla] at this; have h9 : (-1 : Int64).toInt = -1 := by decide
                            omega)]
    rw [fThou_part]
    generalize Int32.toInt64 (MI 8 t) - 1 = la at hla ⊢
    have hm5 := i_mulb (a := la.toInt) (A := 15000000) (b := (MI 0 4).toInt) (B := 1000) (by omega) (by omega) hsp.1 hsp.2
    have hm6 : la.toInt * (MI 0 4).toInt ≤ la.toInt * 1000 := Int.mul_le_mul_of_nonneg_left hsp.2 (by omega)
    have hfm := fPart_z (a := la) (b := Int32.toInt64 (MI 0 4)) (by rw [to64]; omega) (by rw [to64]; omega)
    rw [to64] at hfm
    obtain ⟨z1, z2, z3⟩ := clamp_eq (r := raw) (la := la) (m := fPart la (Int32.toInt64 (MI 0 4))) (by rw [hfm]; omega) (by rw [hfm]; omega) (by omega)
    exact ⟨z1, z3 hr0, by omega⟩
/-- what is paid at a maturity -/
theorem pay_eq {R B : Int} (hK : sK np ng G MI XI) (hF : sF np G MI MJ XJ R) (hP : sP np MI XI MJ XJ R B) (hR : 0 ≤ R ∧ R ≤ 20000) (hB : B ≤ 2 ^ 30) {j t : Nat} (hj : j < np) (hs : MI 5 j = 0) (ht : 2 ≤ t ∧ t < 21) (h3 : MI 0 3 = XI 10 5) (h4 : MI 0 4 = XI 10 6) (hsc : 500 ≤ (MI 0 3).toInt ∧ (MI 0 3).toInt ≤ 1500) (hsp : 0 ≤ (MI 0 4).toInt ∧ (MI 0 4).toInt ≤ 1000) (hr : sRat (MI 8) (XJ 6)) :
    Int32.toInt64 (mPay MI MJ np j t) = xPay XI XJ G j t := by
  obtain ⟨e1, e2, e3⟩ := rat_eq hK hF hR hj hs ht h3 h4 hsc hsp hr
  obtain ⟨a1, a2, a3, a4, a5, a6⟩ := hK.1 j hj
  obtain ⟨hp1, hp2⟩ := hK.2.2.2.1.pr j hj
  obtain ⟨-, ⟨q1, q2, q3⟩, -⟩ := hP j hj
  have hsm := hK.2.2.2.2 j hj
  unfold mPay xPay
  rw [e1, ← a3, ← a4, ← q1, fThou_part]
  have hnt : (nI t).toInt = t := nI_toInt (by omega)
  have hal : (Int32.toInt64 (nI t) * Int32.toInt64 (MI 3 j)).toInt = t * (MI 3 j).toInt ∧ 0 ≤ t * (MI 3 j).toInt ∧ t * (MI 3 j).toInt ≤ 21 * 1000 := by
    have := i_mulb (a := (t : Int)) (A := 21) (b := (MI 3 j).toInt) (B := 1000) (by omega) (by omega) (by omega) hp2
    rw [l_mul (by rw [to64, to64, hnt]; omega) (by rw [to64, to64, hnt]; omega), to64, to64, hnt]
    exact ⟨rfl, this.1, this.2⟩
  generalize mRat MI MJ np j t = r at *
  have hm := i_mulb hal.2.1 hal.2.2 e2 e3
  have hfp := fPart_z (a := Int32.toInt64 (nI t) * Int32.toInt64 (MI 3 j)) (b := r) (by rw [hal.1]; omega) (by rw [hal.1]; omega)
  rw [hal.1] at hfp
  generalize fPart (Int32.toInt64 (nI t) * Int32.toInt64 (MI 3 j)) r = F at *
  have hsu : (Int32.toInt64 (MI 4 j) + Int32.toInt64 (MI 6 j)).toInt = (MI 4 j).toInt + (MI 6 j).toInt := by rw [l_add (by rw [to64, to64]; omega) (by rw [to64, to64]; omega), to64, to64]
  generalize Int32.toInt64 (MI 4 j) + Int32.toInt64 (MI 6 j) = U at *
  have hmx : fMax F U = fMore F U := rfl
  rw [hmx]
  have hb : -(2 ^ 31) ≤ (fMore F U).toInt ∧ (fMore F U).toInt < 2 ^ 31 := by
    unfold fMore
    split <;> omega
  apply Int64.toInt_inj.mp
  rw [to64, to32 hb.1 hb.2]
end ZSF
