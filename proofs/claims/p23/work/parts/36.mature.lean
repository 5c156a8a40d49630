/-! the two sides agree: the maturing loop -/
section ZSG
variable {np ng : Nat} {G : Nat → Nat} {MI : Nat → Nat → Int32} {MJ : Nat → Nat → Int64} {XI : Nat → Nat → Int32} {XJ : Nat → Nat → Int64}
theorem i_sub {a b : Int32} (h1 : -(2 ^ 31) ≤ a.toInt - b.toInt) (h2 : a.toInt - b.toInt < 2 ^ 31) : (a - b).toInt = a.toInt - b.toInt := by
  rw [Int32.toInt_sub]
  exact Int.bmod_eq_of_le (by omega) (by omega)
theorem age1 {y b : Int32} (hy : 0 ≤ y.toInt ∧ y.toInt ≤ 40) (hb : 0 ≤ b.toInt ∧ b.toInt ≤ y.toInt) : (y - b).toInt = y.toInt - b.toInt ∧ (y - b + 1).toInt = y.toInt - b.toInt + 1 := by
  have e1 : (y - b).toInt = y.toInt - b.toInt := i_sub (by omega) (by omega)
  have e2 : (1 : Int32).toInt = 1 := by decide
  exact ⟨e1, by rw [i_add (by rw [e1, e2]; omega) (by rw [e1, e2]; omega), e1, e2]⟩
/-- how long policies have run -/
def sT (np : Nat) (MI : Nat → Nat → Int32) : Prop := (0 ≤ (MI 0 0).toInt ∧ (MI 0 0).toInt ≤ 40) ∧ ∀ j, j < np → 0 ≤ (MI 1 j).toInt ∧ (MI 1 j).toInt ≤ (MI 0 0).toInt ∧ (MI 5 j = 0 → (MI 0 0).toInt - (MI 1 j).toInt + 1 ≤ (MI 2 j).toInt)
/-- the rules agree -/
def sC (MI XI : Nat → Nat → Int32) : Prop := (MI 0 0 = XI 10 2 ∧ MI 0 1 = XI 10 3 ∧ MI 0 2 = XI 10 4 ∧ MI 0 3 = XI 10 5 ∧ MI 0 4 = XI 10 6 ∧ MI 0 5 = XI 10 7) ∧
  (0 ≤ (MI 0 1).toInt ∧ (MI 0 1).toInt ≤ 200) ∧ (0 ≤ (MI 0 2).toInt ∧ (MI 0 2).toInt ≤ 100) ∧ (500 ≤ (MI 0 3).toInt ∧ (MI 0 3).toInt ≤ 1500) ∧ (0 ≤ (MI 0 4).toInt ∧ (MI 0 4).toInt ≤ 1000) ∧ (0 ≤ (MI 0 5).toInt ∧ (MI 0 5).toInt ≤ 1000)
def matP (np ng : Nat) (G : Nat → Nat) (MI : Nat → Nat → Int32) (MJ : Nat → Nat → Int64) (XJ : Nat → Nat → Int64) (R B : Int) (k : Nat) (S : mST) (T : xST) : Prop :=
  sK np ng G S.1 T.1 ∧ sF np G S.1 S.2 T.2 R ∧ sP np S.1 T.1 S.2 T.2 R B ∧ sRat (S.1 9) (T.2 5) ∧ T.2 6 = XJ 6 ∧
  (∀ j, j < np → S.1 5 j = 0 → MI 5 j = 0 ∧ (j < k → (MI 0 0).toInt - (MI 1 j).toInt + 1 < (MI 2 j).toInt)) ∧ (∀ m, np ≤ m → S.1 5 m = MI 5 m) ∧ S.2 1 = MJ 1
set_option maxHeartbeats 1000000 in
theorem mat_loop {R B : Int} (hK : sK np ng G MI XI) (hF : sF np G MI MJ XJ R) (hP : sP np MI XI MJ XJ R B) (hR : 0 ≤ R ∧ R ≤ 20000) (hB : B ≤ 2 ^ 30) (hC : sC MI XI) (hT : sT np MI) (hr8 : sRat (MI 8) (XJ 6)) (hr9 : sRat (MI 9) (XJ 5)) :
    ∀ (k : Nat), k ≤ np → matP np ng G MI MJ XJ R B k (mMtS np k (MI, MJ)) (xMtS np G k (XI, XJ)) ∧ mMtN np k (MI, MJ) = xMtN np G k (XI, XJ) := by
  intro k
  induction k with
  | zero => intro _; exact ⟨⟨hK, hF, hP, hr9, rfl, fun j hj h => ⟨h, fun q => absurd q (Nat.not_lt_zero _)⟩, fun _ _ => rfl, rfl⟩, rfl⟩
  | succ k ih =>
    intro hk
    have hkn : k < np := hk
    obtain ⟨⟨g1, g2, g3, g4, g5, g6, g7, g8⟩, gn⟩ := ih (Nat.le_of_succ_le hk)
    simp only [mMtS, xMtS, mMtN, xMtN]
    have m0 : ∀ a, a ≠ 5 → a ≠ 7 → a ≠ 9 → (mMtS np k (MI, MJ)).1 a = MI a := fun a h5 h7 h9 => mMtS_k h5 h7 h9 k (MI, MJ)
    have x0 : ∀ a, a ≠ 15 → (xMtS np G k (XI, XJ)).1 a = XI a := fun a h => xMtS_k h k (XI, XJ)
    rw [gn]
    generalize mMtS np k (MI, MJ) = S at *
    generalize xMtS np G k (XI, XJ) = T at *
    obtain ⟨M, J⟩ := S
    obtain ⟨XM, X⟩ := T
    simp only at g1 g2 g3 g4 g5 g6 g7 g8 m0 x0 ⊢
    have q0 := m0 0 (by decide) (by decide) (by decide)
    have q1 := m0 1 (by decide) (by decide) (by decide)
    have q2 := m0 2 (by decide) (by decide) (by decide)
    have q8 := m0 8 (by decide) (by decide) (by decide)
    have p10 := x0 10 (by decide)
    obtain ⟨k1, k2, k3, k4, k5, k6⟩ := g1.1 k hkn
    have hdue : (k < np ∧ XM 15 k = 0 ∧ XM 12 (G k) ≤ XM 10 2 - XM 11 (G k) + 1) ↔ (M 5 k = 0 ∧ M 0 0 - M 1 k + 1 = M 2 k) := by
      rw [← k5, ← k2, ← k1, p10, ← hC.1.1, q0]
      constructor
      · rintro ⟨-, h5, hle⟩
        refine ⟨h5, ?_⟩
        obtain ⟨t1, t2, t3⟩ := hT.2 k hkn
        have t4 := t3 (g6 k hkn h5).1
        rw [q1, q2] at hle ⊢
        obtain ⟨-, e1⟩ := age1 hT.1 ⟨t1, t2⟩
        have := Int32.le_iff_toInt_le.mp hle
        apply Int32.toInt_inj.mp
        omega
      · rintro ⟨h5, he⟩
        exact ⟨hkn, h5, by rw [he]; exact Int32.le_refl _⟩
    by_cases hd : M 5 k = 0 ∧ M 0 0 - M 1 k + 1 = M 2 k
    · rw [if_pos hd, if_pos (hdue.mpr hd), if_pos hd, if_pos (hdue.mpr hd)]
      refine ⟨?_, rfl⟩
      have ht := g1.2.2.2.1.tn hkn
      have ht2 := (g1.2.2.2.1.2.2 k hkn).1
      have hxt : xTn XM G k = mTn M k := by
        show (XM 12 (G k)).toInt.toNat = (M 2 k).toInt.toNat
        rw [k2]
      rw [hxt]
      have htb : 2 ≤ mTn M k ∧ mTn M k < 21 := ⟨by show 2 ≤ (M 2 k).toInt.toNat; omega, ht.2⟩
      generalize mTn M k = t at htb ⊢
      have h3 : M 0 3 = XM 10 5 := by rw [q0, p10]; exact hC.1.2.2.2.1
      have h4 : M 0 4 = XM 10 6 := by rw [q0, p10]; exact hC.1.2.2.2.2.1
      have hsc : 500 ≤ (M 0 3).toInt ∧ (M 0 3).toInt ≤ 1500 := by rw [q0]; exact hC.2.2.2.1
      have hsp : 0 ≤ (M 0 4).toInt ∧ (M 0 4).toInt ≤ 1000 := by rw [q0]; exact hC.2.2.2.2.1
      have hr : sRat (M 8) (X 6) := by rw [q8, g5]; exact hr8
      obtain ⟨r1, r2, r3⟩ := rat_eq g1 g2 hR hkn hd.1 htb h3 h4 hsc hsp hr
      have hpay := pay_eq g1 g2 g3 hR hB hkn hd.1 htb h3 h4 hsc hsp hr
      have cK : sK np ng G (u2 M 9 t (Int64.toInt32 (mRat M J np k t) + 1)) XM := g1.cast rfl rfl rfl rfl rfl (fun j hj => (g1.1 j hj).2.2.2.2.1) rfl rfl rfl rfl
      have cF : sF np G (u2 M 9 t (Int64.toInt32 (mRat M J np k t) + 1)) J (u2 X 5 t (xRat XM X G k t)) R := g2.cast rfl rfl rfl rfl rfl rfl rfl rfl rfl
      have cP : sP np (u2 M 9 t (Int64.toInt32 (mRat M J np k t) + 1)) XM J (u2 X 5 t (xRat XM X G k t)) R B := g3.cast rfl rfl rfl rfl rfl rfl rfl rfl
      obtain ⟨l1, l2, l3⟩ := leave (st := 1) cK cF cP hR hkn hd.1 (by decide) hpay
      refine ⟨l1, l2, l3, ?_, ?_, fun j hj h5 => ?_, fun m hm => ?_, ?_⟩
      · intro t2 ht2
        have e9 : mMatI np k t M J 9 = u2 M 9 t (Int64.toInt32 (mRat M J np k t) + 1) 9 := by unfold mMatI; rw [u2_k (by decide), u2_k (by decide)]
        have e5 : xMatJ XM G k t X 5 = u2 X 5 t (xRat XM X G k t) 5 := by unfold xMatJ xCloJ; rw [u2_k (by decide), u2_k (by decide), u2_k (by decide), u2_k (by decide), u2_k (by decide)]
        show xMatJ XM G k t X 5 t2 = Int32.toInt64 (mMatI np k t M J 9 t2) - 1 ∧ _
        show _ ∧ 0 ≤ (mMatI np k t M J 9 t2).toInt ∧ (mMatI np k t M J 9 t2).toInt ≤ 15000001
        rw [e9, e5]
        by_cases h : t2 = t
        · subst h
          rw [u2_s, u2_s, r1]
          generalize mRat M J np k t2 = z at *
          have h32 := to32 (x := z) (by omega) (by omega)
          have hone : (1 : Int32).toInt = 1 := by decide
          have hone6 : (1 : Int64).toInt = 1 := by decide
          have h1 : (Int64.toInt32 z + 1).toInt = z.toInt + 1 := by rw [i_add (by rw [h32, hone]; omega) (by rw [h32, hone]; omega), h32, hone]
          refine ⟨?_, by rw [h1]; omega, by rw [h1]; omega⟩
          apply Int64.toInt_inj.mp
          rw [l_sub (by rw [to64, h1, hone6]; omega) (by rw [to64, h1, hone6]; omega), to64, h1, hone6]
          omega
        · rw [u2_n h, u2_n h]
          exact g4 t2 ht2
      · have e6 : xMatJ XM G k t X 6 = X 6 := by unfold xMatJ xCloJ; rw [u2_k (by decide), u2_k (by decide), u2_k (by decide), u2_k (by decide), u2_k (by decide), u2_k (by decide)]
        show xMatJ XM G k t X 6 = XJ 6
        rw [e6]; exact g5
      · have e5 : mMatI np k t M J 5 j = if j = k then 1 else M 5 j := u2_5a
        have h5 : mMatI np k t M J 5 j = 0 := h5
        rw [e5] at h5
        by_cases hjk : j = k
        · rw [if_pos hjk] at h5; exact absurd h5 (by decide)
        · rw [if_neg hjk] at h5
          obtain ⟨z1, z2⟩ := g6 j hj h5
          exact ⟨z1, fun h => z2 (by omega)⟩
      · have e5 : mMatI np k t M J 5 m = if m = k then 1 else M 5 m := u2_5a
        show mMatI np k t M J 5 m = _
        rw [e5, if_neg (by omega)]
        exact g7 m hm
      · show lvJ _ _ _ _ _ 1 = _
        rw [← g8]
        unfold lvJ
        split <;> simp [u2]
    · rw [if_neg hd, if_neg (fun q => hd (hdue.mp q)), if_neg hd, if_neg (fun q => hd (hdue.mp q))]
      refine ⟨⟨g1, g2, g3, g4, g5, fun j hj h5 => ?_, g7, g8⟩, rfl⟩
      obtain ⟨z1, z2⟩ := g6 j hj h5
      refine ⟨z1, fun h => ?_⟩
      by_cases hjk : j = k
      · subst hjk
        obtain ⟨t1, t2, t3⟩ := hT.2 j hj
        have t4 := t3 z1
        refine Int.lt_iff_le_and_ne.mpr ⟨t4, fun e => hd ⟨h5, ?_⟩⟩
        rw [q0, q1, q2]
        obtain ⟨-, e1⟩ := age1 hT.1 ⟨t1, t2⟩
        exact Int32.toInt_inj.mp (e1.trans e)
      · exact z2 (by omega)
end ZSG
