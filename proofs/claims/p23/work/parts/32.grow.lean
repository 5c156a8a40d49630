/-! the two sides agree: the generations grow -/
section ZSC
variable {np ng : Nat} {G : Nat → Nat} {MI : Nat → Nat → Int32} {MJ : Nat → Nat → Int64} {XI : Nat → Nat → Int32} {XJ : Nat → Nat → Int64}
theorem xGG_ge {rt : Int32} : ∀ (n : Nat), ng ≤ n → xGG XI ng rt n XJ = xGG XI ng rt ng XJ := by
  intro n
  induction n with
  | zero => intro h; rw [show ng = 0 by omega]
  | succ n ih =>
    intro h
    rcases Nat.eq_or_lt_of_le h with h | h
    · rw [h]
    · show xGG1 XI ng rt n (xGG XI ng rt n XJ) = _
      unfold xGG1
      rw [if_neg (by omega)]
      exact ih (by omega)
/-- the funds behind a growth: gR -/
def gRel (np : Nat) (G : Nat → Nat) (MI : Nat → Nat → Int32) (MJ XJ J X : Nat → Nat → Int64) (R R' : Int) (c : Nat) : Prop :=
  (∀ a, a ≠ 0 → a ≠ 2 → J a = MJ a) ∧ (∀ a, a ≠ 4 → a ≠ 8 → X a = XJ a) ∧ (∀ j, j < np → J 2 (hm MI np j) = X 8 (G j) ∧ (G j < c → 0 ≤ (X 8 (G j)).toInt ∧ (X 8 (G j)).toInt ≤ R' * (XJ 7 (G j)).toInt) ∧ (c ≤ G j → X 8 (G j) = XJ 8 (G j))) ∧
  (∀ k, (np ≤ k ∨ hm MI np k ≠ k) → J 2 k = MJ 2 k) ∧ J 0 0 = X 4 0 ∧ J 0 1 = X 4 1
set_option maxHeartbeats 1000000 in
theorem grow_1 {rt : Int32} {R R' : Int} (hK : sK np ng G MI XI) (hF : sF np G MI MJ XJ R) (hc : MI 0 2 = XI 10 4) (hch : 0 ≤ (MI 0 2).toInt ∧ (MI 0 2).toInt ≤ 100) (hrt : -200 ≤ rt.toInt ∧ rt.toInt ≤ 200) (hR : 0 ≤ R ∧ R ≤ 20000) (hR' : 6 * (R + 1) ≤ 5 * R' ∧ 0 ≤ R') :
    ∀ (k : Nat), k ≤ np → gRel np G MI MJ XJ (mGrow MI rt np k MJ) (xGG XI ng rt (cnt MI np k) XJ) R R' (cnt MI np k) := by
  intro k
  induction k with
  | zero =>
    intro _
    refine ⟨fun _ _ _ => rfl, fun _ _ _ => rfl, fun j hj => ⟨(hF.1 j hj).2.1, fun h => absurd h (Nat.not_lt_zero _), fun _ => rfl⟩, fun _ _ => rfl, hF.2.2.1, hF.2.2.2⟩
  | succ k ih =>
    intro hk
    have hkn : k < np := hk
    obtain ⟨g1, g2, g3, g4, g5, g6⟩ := ih (Nat.le_of_succ_le hk)
    show gRel np G MI MJ XJ (mGrow1 MI rt np k (mGrow MI rt np k MJ)) _ R R' (cnt MI np (k + 1))
    generalize mGrow MI rt np k MJ = J at g1 g3 g4 g5 g6 ⊢
    simp only [cnt]
    by_cases hh : hm MI np k = k
    · rw [if_pos hh]
      show gRel np G MI MJ XJ (mGrow1 MI rt np k J) (xGG1 XI ng rt (cnt MI np k) (xGG XI ng rt (cnt MI np k) XJ)) R R' _
      generalize xGG XI ng rt (cnt MI np k) XJ = X at g2 g3 g5 g6 ⊢
      have hGk : G k = cnt MI np k := hK.2.2.1.1 k hkn hh
      rw [← hGk] at g3 ⊢
      have hgn : G k < ng := (hK.1 k hkn).2.2.2.2.2
      obtain ⟨f1, f2, f3, f4⟩ := hF.1 k hkn
      obtain ⟨k1, k2, k3⟩ := g3 k hkn
      rw [hh] at k1 f2
      have hX8 : X 8 (G k) = XJ 8 (G k) := k3 (Nat.le_refl _)
      have hX7 : X 7 (G k) = mPr MI np k := by rw [g2 7 (by decide) (by decide)]; exact f1
      have hPb := mPr_b hK.2.2.2.1 k
      have hsame : ∀ j, j < np → (G j = G k ↔ hm MI np j = k) := fun j hj => hK.home hj hkn hh
      unfold mGrow1 xGG1
      rw [hX7]
      by_cases hP : 0 < mPr MI np k
      · rw [if_pos ⟨hh, hP⟩, if_pos ⟨hgn, hP⟩]
        have hP' := (q_pos _).mp hP
        rw [f1] at f4
        generalize hPe : mPr MI np k = P at *
        obtain ⟨a, ha⟩ : ∃ a, a = J 2 k := ⟨_, rfl⟩
        have hXa : X 8 (G k) = a := by rw [ha, k1]
        rw [hXa, ← ha]
        have ha0 : 0 ≤ a.toInt := by rw [← hXa, hX8]; exact f3
        have haR : a.toInt ≤ R * P.toInt := by rw [← hXa, hX8]; exact f4
        have hRP : R * P.toInt ≤ 20000 * 30000 := (i_mulb hR.1 hR.2 hPb.1 hPb.2).2
        have hs : (a + P).toInt = a.toInt + P.toInt := l_add (by omega) (by omega)
        have hr64 : (Int32.toInt64 rt).toInt = rt.toInt := Int32.toInt_toInt64 _
        obtain ⟨e1, e2, e3⟩ := earn_z (a := a + P) (r := Int32.toInt64 rt) (A := 2 ^ 40) (by omega) (by omega) (by omega) (by rw [hr64]; exact hrt.1) (by rw [hr64]; exact hrt.2)
        have hassoc : a + (P + fPart (a + P) (Int32.toInt64 rt)) = a + P + fPart (a + P) (Int32.toInt64 rt) := (Int64.add_assoc _ _ _).symm
        rw [hassoc]
        have hft : fThou (a + P) (Int32.toInt64 rt) = fPart (a + P) (Int32.toInt64 rt) := fThou_part _ _
        rw [hft]
        generalize hE : a + P + fPart (a + P) (Int32.toInt64 rt) = E at *
        have hc64 : (Int32.toInt64 (MI 0 2)).toInt = (MI 0 2).toInt := Int32.toInt_toInt64 _
        obtain ⟨c1, c2, c3, c4⟩ := charge_z (a := E) (c := Int32.toInt64 (MI 0 2)) (A := E.toInt) e2 (Int.le_refl _) (by omega) (by rw [hc64]; exact hch.1) (by rw [hc64]; exact hch.2)
        rw [← hc, c4]
        generalize hD : E - fPart E (Int32.toInt64 (MI 0 2)) = V at *
        have hVR : V.toInt ≤ R' * P.toInt := by
          have h1 : 6 * (R + 1) * P.toInt ≤ 5 * R' * P.toInt := Int.mul_le_mul_of_nonneg_right hR'.1 (by omega)
          have h2 : 6 * (R + 1) * P.toInt = 6 * (R * P.toInt) + 6 * P.toInt := by rw [Int.mul_assoc, Int.add_mul]; omega
          have h3 : 5 * R' * P.toInt = 5 * (R' * P.toInt) := Int.mul_assoc _ _ _
          omega
        refine ⟨fun b hb0 hb2 => ?_, fun b hb4 hb8 => ?_, fun j hj => ?_, fun m hm' => ?_, ?_, ?_⟩
        · rw [u2_k hb0, u2_k hb2, u2_k hb0, u2_k hb2]; exact g1 b hb0 hb2
        · rw [u2_k hb4, u2_k hb8, u2_k hb4, u2_k hb8, u2_k hb4, u2_k hb8]; exact g2 b hb4 hb8
        · by_cases hj2 : G j = G k
          · have hj3 := (hsame j hj).mp hj2
            rw [hj3, hj2]
            have e8 : XJ 7 (G k) = P := f1
            rw [e8]
            refine ⟨?_, fun _ => ?_, fun h => by omega⟩
            · simp only [u2]; simp
            · have : ∀ z : Nat → Nat → Int64, u2 (u2 z 8 (G k) V) 4 0 (X 4 0 + fPart E (Int32.toInt64 (MI 0 2))) 8 (G k) = V := fun z => by simp [u2]
              rw [this]
              exact ⟨c2, hVR⟩
          · have hj3 : ¬ hm MI np j = k := fun q => hj2 ((hsame j hj).mpr q)
            obtain ⟨q1, q2, q3⟩ := g3 j hj
            have r1 : ∀ (z1 z2 z3 z4 : Int64), u2 (u2 (u2 (u2 J 2 k z1) 0 1 z2) 2 k z3) 0 0 z4 2 (hm MI np j) = J 2 (hm MI np j) := fun z1 z2 z3 z4 => by simp [u2, hj3]
            have r2 : ∀ (z1 z2 z3 z4 z5 z6 : Int64), u2 (u2 (u2 (u2 (u2 (u2 X 8 (G k) z1) 4 1 z2) 8 (G k) z3) 4 1 z4) 8 (G k) z5) 4 0 z6 8 (G j) = X 8 (G j) := fun z1 z2 z3 z4 z5 z6 => by simp [u2, hj2]
            rw [r1, r2]
            exact ⟨q1, fun h => q2 (by omega), fun h => q3 (by omega)⟩
        · have hmk : m ≠ k := fun q => by subst q; rcases hm' with q | q; omega; exact q hh
          rw [← g4 m hm']
          simp [u2, hmk]
        · simp [u2, g5]
        · simp only [u2]
          simp
          rw [g6]
          exact (Int64.add_assoc _ _ _).symm
      · rw [if_neg (fun q => hP q.2), if_neg (fun q => hP q.2)]
        refine ⟨g1, g2, fun j hj => ?_, g4, g5, g6⟩
        obtain ⟨q1, q2, q3⟩ := g3 j hj
        refine ⟨q1, fun h => ?_, fun h => q3 (by omega)⟩
        by_cases hj2 : G j = G k
        · rw [hj2, hX8, f1]
          have hz : (mPr MI np k).toInt = 0 := by
            have := Int.not_lt.mp (fun q => hP ((q_pos _).mpr q))
            omega
          rw [f1, hz] at f4
          rw [hz]
          omega
        · exact q2 (by omega)
    · rw [if_neg hh]
      unfold mGrow1
      rw [if_neg (fun q => hh q.1)]
      exact ⟨g1, g2, g3, g4, g5, g6⟩
end ZSC
