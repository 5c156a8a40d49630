/-! what of the law's own property a call keeps -/
section ZQ3
variable {np ng : Nat} {G : Nat → Nat} {MI : Nat → Nat → Int32} {MJ : Nat → Nat → Int64} {XI : Nat → Nat → Int32} {XJ : Nat → Nat → Int64}
set_option maxHeartbeats 1000000 in
/-- how things stand before policies mature -/
theorem pre_run {y : Nat} (h : sim np ng G MI MJ XI XJ y) (hy : y < 40) {rt : Int32} (hrt : -200 ≤ rt.toInt ∧ rt.toInt ≤ 200) :
    sK np ng G (mS0 MI MJ rt np).1 (xS0 XI XJ rt np ng).1 ∧ sF np G (mS0 MI MJ rt np).1 (mS0 MI MJ rt np).2 (xS0 XI XJ rt np ng).2 (Rb (y + 1)) ∧ sP np (mS0 MI MJ rt np).1 (xS0 XI XJ rt np ng).1 (mS0 MI MJ rt np).2 (xS0 XI XJ rt np ng).2 (Rb (y + 1)) (Bb (y + 1)) ∧ sC (mS0 MI MJ rt np).1 (xS0 XI XJ rt np ng).1 ∧ sT np (mS0 MI MJ rt np).1 ∧ sRat ((mS0 MI MJ rt np).1 8) ((xS0 XI XJ rt np ng).2 6) ∧ sRat ((mS0 MI MJ rt np).1 9) ((xS0 XI XJ rt np ng).2 5) := by
  have h1 := h.thrown 0
  unfold mS0 xS0 xJ3
  have hMI0 : ∀ c, c ≠ 0 → (u2 MI 0 7 0) c = MI c := fun c hc => u2_k hc
  generalize u2 MI 0 7 0 = M1 at h1 hMI0 ⊢
  obtain ⟨⟨hy1, hy2⟩, hK, hF, hP, hC, hT, hr, hcnt, hfr⟩ := h1
  have hok := hK.2.2.2.1
  have hng30 : ng ≤ 30 := Nat.le_trans hK.gle hok.2.1
  have hRy := (RBb y (by omega)).1
  have hRy1 := (RBb (y + 1) (by omega)).1
  have hBy := (RBb y (by omega)).2
  have hBy1 := (RBb (y + 1) (by omega)).2
  have hR' : 6 * (Rb y + 1) ≤ 5 * Rb (y + 1) ∧ 0 ≤ Rb (y + 1) := ⟨by simp only [Rb]; omega, hRy1.1⟩
  have hRm : Rb y ≤ Rb (y + 1) := by simp only [Rb]; omega
  have hB' : Bb y + Bb y / 5 ≤ Bb (y + 1) := by simp only [Bb]; omega
  have hBm : Bb y ≤ Bb (y + 1) := by simp only [Bb]; omega
  obtain ⟨g1, g2, g3, g4, g5, g6⟩ := grow_1 (rt := rt) hK hF hC.1.2.2.1 hC.2.2.1 hrt hRy hR' np (Nat.le_refl _)
  rw [hK.2.2.1.2] at g2 g3 g5 g6
  rw [xGG_ge 30 hng30]
  generalize mGrow M1 rt np np MJ = J at *
  generalize xGG XI ng rt ng XJ = X at *
  have hest : MJ 0 0 = XJ 4 0 := hF.2.2.1
  rw [hest, ← fThou_part]
  generalize fThou (XJ 4 0) (Int32.toInt64 rt) = e0
  obtain ⟨J2, hJ2⟩ : ∃ z, z = u2 (u2 J 0 0 (J 0 0 + e0)) 0 1 (J 0 1 + e0) := ⟨_, rfl⟩
  obtain ⟨X2, hX2⟩ : ∃ z, z = u2 (u2 X 4 0 (X 4 0 + e0)) 4 1 (X 4 1 + e0) := ⟨_, rfl⟩
  rw [← hJ2, ← hX2]
  have j2k : ∀ c, c ≠ 0 → J2 c = J c := fun c hc => by rw [hJ2, u2_k hc, u2_k hc]
  have x2k : ∀ c, c ≠ 4 → X2 c = X c := fun c hc => by rw [hX2, u2_k hc, u2_k hc]
  have j20 : J2 0 0 = X2 4 0 := by rw [hJ2, hX2]; simp [u2, g5]
  have j21 : J2 0 1 = X2 4 1 := by rw [hJ2, hX2]; simp [u2, g6]
  obtain ⟨M2, hM2⟩ : ∃ z, z = mCpy 9 8 21 (mGrI np M1) := ⟨_, rfl⟩
  obtain ⟨J3, hJ3⟩ : ∃ z, z = mGrJ rt np M1 J2 := ⟨_, rfl⟩
  obtain ⟨X3, hX3⟩ : ∃ z, z = xCpy 21 (xGB XI np 30 (xPA XI np rt 30 X2)) := ⟨_, rfl⟩
  rw [← hM2, ← hJ3, ← hX3]
  have m2k : ∀ c, c ≠ 6 → c ≠ 9 → M2 c = M1 c := fun c h6 h9 => by rw [hM2, mCpy_k h9, mGrI_k h6]
  have j3k : ∀ c, c ≠ 1 → J3 c = J2 c := fun c hc => by rw [hJ3, mGrJ_a hc]
  have x3k : ∀ c, c ≠ 6 → c ≠ 9 → c ≠ 10 → X3 c = X2 c := fun c h6 h9 h10 => by rw [hX3, xCpy_k h6, xGB_a h10, xPA_a h9]
  have cK : sK np ng G M2 XI := hK.cast (by rw [m2k 0 (by decide) (by decide)]) (m2k 1 (by decide) (by decide)) (m2k 2 (by decide) (by decide)) (m2k 3 (by decide) (by decide)) (m2k 4 (by decide) (by decide)) (fun j hj => by rw [m2k 5 (by decide) (by decide)]; exact (hK.1 j hj).2.2.2.2.1) rfl rfl rfl rfl
  have hpm : ∀ k, mPr M2 np k = mPr M1 np k := fun k => by unfold mPr; rw [m2k 1 (by decide) (by decide), m2k 2 (by decide) (by decide), m2k 3 (by decide) (by decide), m2k 5 (by decide) (by decide)]
  have hmm : ∀ k, hm M2 np k = hm M1 np k := hm_cast (m2k 1 (by decide) (by decide)) (m2k 2 (by decide) (by decide))
  have cF : sF np G M2 J3 X3 (Rb (y + 1)) := by
    refine ⟨fun j hj => ?_, fun k hk => ?_, ?_, ?_⟩
    · obtain ⟨f1, f2, f3, f4⟩ := hF.1 j hj
      obtain ⟨q1, q2, -⟩ := g3 j hj
      obtain ⟨q3, q4⟩ := q2 (hK.1 j hj).2.2.2.2.2
      have e7 : X3 7 = XJ 7 := by rw [x3k 7 (by decide) (by decide) (by decide), x2k 7 (by decide), g2 7 (by decide) (by decide)]
      have e8 : X3 8 = X 8 := by rw [x3k 8 (by decide) (by decide) (by decide), x2k 8 (by decide)]
      have e2 : J3 2 = J 2 := by rw [j3k 2 (by decide), j2k 2 (by decide)]
      rw [hpm, hmm, e7, e8, e2]
      exact ⟨f1, q1, q3, q4⟩
    · have e2 : J3 2 = J 2 := by rw [j3k 2 (by decide), j2k 2 (by decide)]
      rw [hmm] at hk
      rw [e2, g4 k hk]
      exact hF.2.1 k hk
    · rw [j3k 0 (by decide), x3k 4 (by decide) (by decide) (by decide)]; exact j20
    · rw [j3k 0 (by decide), x3k 4 (by decide) (by decide) (by decide)]; exact j21
  have e15 : ∀ j, j < np → XI 15 j = M1 5 j := fun j hj => (hK.1 j hj).2.2.2.2.1.symm
  have cP : sP np M2 XI J3 X3 (Rb (y + 1)) (Bb (y + 1)) := by
    intro j hj
    have hj30 : j < 30 := Nat.lt_of_lt_of_le hj hok.2.1
    obtain ⟨⟨a1, a2, a3⟩, ⟨b1, b2, b3⟩, c1⟩ := hP j hj
    obtain ⟨k1, k2, k3, k4, k5, k6⟩ := hK.1 j hj
    have eJ : J3 1 j = if j < np ∧ M1 5 j = 0 then alF (MJ 1 j) (M1 3 j) rt (M1 0 2) else MJ 1 j := by
      rw [hJ3, mGrJ_at, j2k 1 (by decide), g1 1 (by decide) (by decide)]
    have eX9 : X3 9 j = if j < 30 ∧ j < np ∧ XI 15 j = 0 then alX (XJ 9 j) (XI 13 j) rt (XI 10 4) else XJ 9 j := by
      rw [hX3, xCpy_k (by decide), xGB_a (by decide), xPA_at, x2k 9 (by decide), g2 9 (by decide) (by decide)]
    have eM6 : M2 6 j = if j < np ∧ M1 5 j = 0 then boF (M1 4 j) (M1 6 j) (M1 0 1) else M1 6 j := by
      rw [hM2, mCpy_k (by decide), mGrI_at]
    have eX10 : X3 10 j = if j < 30 ∧ j < np ∧ XI 15 j = 0 then XJ 10 j + fThou (Int32.toInt64 (XI 14 j) + XJ 10 j) (Int32.toInt64 (XI 10 3)) else XJ 10 j := by
      rw [hX3, xCpy_k (by decide), xGB_at, xPA_a (by decide), x2k 10 (by decide), g2 10 (by decide) (by decide)]
    have eX11 : X3 11 = XJ 11 := by rw [x3k 11 (by decide) (by decide) (by decide), x2k 11 (by decide), g2 11 (by decide) (by decide)]
    rw [eJ, eX9, eM6, eX10, eX11, m2k 4 (by decide) (by decide), m2k 5 (by decide) (by decide), m2k 7 (by decide) (by decide), e15 j hj]
    refine ⟨?_, ?_, c1⟩
    · by_cases h5 : M1 5 j = 0
      · rw [if_pos ⟨hj, h5⟩, if_pos ⟨hj30, hj, h5⟩, ← a1, ← k3, ← hC.1.2.2.1]
        obtain ⟨z1, z2, z3⟩ := al_z (a := MJ 1 j) (p := M1 3 j) (rt := rt) (ch := M1 0 2) a2 a3 (hok.pr j hj) hC.2.2.1 hrt hRy hR'.1
        exact ⟨z1.symm, z2, z3⟩
      · rw [if_neg (fun q => h5 q.2), if_neg (fun q => h5 q.2.2)]
        exact ⟨a1, a2, by omega⟩
    · by_cases h5 : M1 5 j = 0
      · rw [if_pos ⟨hj, h5⟩, if_pos ⟨hj30, hj, h5⟩, ← k4, ← hC.1.2.1]
        exact bo_z (B := Bb y) b1 (hK.2.2.2.2 j hj).1 b2 b3 hC.2.1 hB' hBy1.2 (by omega)
      · rw [if_neg (fun q => h5 q.2), if_neg (fun q => h5 q.2.2)]
        exact ⟨b1, b2, by omega⟩
  have cC : sC M2 XI := by unfold sC; rw [m2k 0 (by decide) (by decide)]; exact hC
  have cT : sT np M2 := by unfold sT; rw [m2k 0 (by decide) (by decide), m2k 1 (by decide) (by decide), m2k 2 (by decide) (by decide), m2k 5 (by decide) (by decide)]; exact hT
  have hX5 : X3 5 = XJ 5 := by rw [x3k 5 (by decide) (by decide) (by decide), x2k 5 (by decide), g2 5 (by decide) (by decide)]
  have cr8 : sRat (M2 8) (X3 6) := by
    intro t ht
    have e6 : X3 6 t = XJ 5 t := by
      rw [hX3, xCpy_at 21 _ t ht, xGB_a (by decide), xPA_a (by decide), x2k 5 (by decide), g2 5 (by decide) (by decide)]
    rw [e6, m2k 8 (by decide) (by decide)]
    exact hr t ht
  have cr9 : sRat (M2 9) (X3 5) := by
    intro t ht
    have e9 : M2 9 t = M1 8 t := by rw [hM2, mCpy_at (by decide) 21 _ t ht, mGrI_k (by decide)]
    rw [e9, hX5]
    exact hr t ht
  exact ⟨cK, cF, cP, cC, cT, cr8, cr9⟩
theorem xGG_a {rt : Int32} {a : Nat} (h4 : a ≠ 4) (h8 : a ≠ 8) : ∀ (n : Nat) (J : Nat → Nat → Int64), xGG XI ng rt n J a = J a := by
  intro n
  induction n with
  | zero => intro J; rfl
  | succ n ih =>
    intro J
    simp only [xGG]
    unfold xGG1
    split
    · rw [u2_k h4, u2_k h8, u2_k h4, u2_k h8, u2_k h4, u2_k h8]; exact ih J
    · exact ih J
theorem xJ3_a {rt : Int32} {a : Nat} (h4 : a ≠ 4) (h8 : a ≠ 8) (h9 : a ≠ 9) (h10 : a ≠ 10) : xJ3 XI XJ rt np ng a = XJ a := by
  unfold xJ3
  rw [xGB_a h10, xPA_a h9, u2_k h4, u2_k h4, xGG_a h4 h8]
theorem xJ3_10 {rt : Int32} (j : Nat) : xJ3 XI XJ rt np ng 10 j = if j < 30 ∧ j < np ∧ XI 15 j = 0 then XJ 10 j + fThou (Int32.toInt64 (XI 14 j) + XJ 10 j) (Int32.toInt64 (XI 10 3)) else XJ 10 j := by
  unfold xJ3
  rw [xGB_at, xPA_a (by decide), u2_k (by decide), u2_k (by decide), xGG_a (by decide) (by decide)]
theorem xMtN_le {T : xST} : ∀ (n : Nat), xMtN np G n T ≤ n := by
  intro n
  induction n with
  | zero => exact Nat.le_refl _
  | succ n ih =>
    simp only [xMtN]
    split <;> omega
theorem xMatJ_10 {X : Nat → Nat → Int32} {J : Nat → Nat → Int64} {j t : Nat} : xMatJ X G j t J 10 = J 10 := by
  unfold xMatJ xCloJ
  rw [u2_k (by decide), u2_k (by decide), u2_k (by decide), u2_k (by decide), u2_k (by decide), u2_k (by decide)]
theorem xMtS_10 : ∀ (n : Nat) (T : xST), (xMtS np G n T).2 10 = T.2 10 := by
  intro n
  induction n with
  | zero => intro T; rfl
  | succ n ih =>
    intro T
    simp only [xMtS]
    split
    · dsimp only
      rw [xMatJ_10]
      exact ih T
    · exact ih T
/-- what the law asks besides -/
def okS (np : Nat) (XI : Nat → Nat → Int32) (XJ : Nat → Nat → Int64) : Prop := ∀ j, j < np → XI 15 j = 0 ∨ ((XI 15 j = 1 ∨ XI 15 j = 2) ∧ 0 ≤ (XJ 11 j).toInt ∧ (XJ 11 j).toInt < 2 ^ 31)
def okB (np : Nat) (G : Nat → Nat) (XI : Nat → Nat → Int32) (XJ : Nat → Nat → Int64) (y : Nat) : Prop := ∀ j, j < np → XI 15 j = 0 → (XI 14 j).toInt + (XJ 10 j).toInt ≤ Bb (y - (XI 11 (G j)).toInt.toNat)
def okA (ng : Nat) (XI : Nat → Nat → Int32) (XJ : Nat → Nat → Int64) : Prop := ∀ i, i < ng → XI 11 i = XI 10 2 → XJ 8 i = 0
def ext (np ng : Nat) (G : Nat → Nat) (XI : Nat → Nat → Int32) (XJ : Nat → Nat → Int64) (y : Nat) : Prop := bal ng XJ ∧ okA ng XI XJ ∧ okS np XI XJ ∧ okB np G XI XJ y
theorem xPay_z {R B : Int} (hK : sK np ng G MI XI) (hF : sF np G MI MJ XJ R) (hP : sP np MI XI MJ XJ R B) (hR : 0 ≤ R ∧ R ≤ 20000) (hB : B ≤ 2 ^ 30) {j t : Nat} (hj : j < np) (hs : MI 5 j = 0) (ht : 2 ≤ t ∧ t < 21) (h3 : MI 0 3 = XI 10 5) (h4 : MI 0 4 = XI 10 6) (hsc : 500 ≤ (MI 0 3).toInt ∧ (MI 0 3).toInt ≤ 1500) (hsp : 0 ≤ (MI 0 4).toInt ∧ (MI 0 4).toInt ≤ 1000) (hr : sRat (MI 8) (XJ 6)) :
    0 ≤ (xPay XI XJ G j t).toInt ∧ (xPay XI XJ G j t).toInt < 2 ^ 31 := by
  have e := pay_eq hK hF hP hR hB hj hs ht h3 h4 hsc hsp hr
  have hlt : (xPay XI XJ G j t).toInt < 2 ^ 31 := by
    rw [← e, to64]
    exact Int32.toInt_lt _
  refine ⟨?_, hlt⟩
  obtain ⟨a1, a2, a3, a4, a5, a6⟩ := hK.1 j hj
  obtain ⟨-, ⟨q1, q2, q3⟩, -⟩ := hP j hj
  have hsm := hK.2.2.2.2 j hj
  have hU : 0 ≤ (Int32.toInt64 (XI 14 j) + XJ 10 j).toInt := by
    rw [← a4, ← q1, l_add (by rw [to64, to64]; omega) (by rw [to64, to64]; omega), to64, to64]
    omega
  unfold xPay
  generalize Int32.toInt64 (XI 14 j) + XJ 10 j = U at hU ⊢
  generalize fThou (Int32.toInt64 (nI t) * Int32.toInt64 (XI 13 j)) (xRat XI XJ G j t) = F
  show 0 ≤ (if U < F then F else U).toInt
  by_cases c : U < F
  · rw [if_pos c]
    have := Int64.lt_iff_toInt_lt.mp c
    omega
  · rw [if_neg c]; exact hU
set_option maxHeartbeats 1000000 in
theorem ok_loop {R B : Int} (hK : sK np ng G MI XI) (hF : sF np G MI MJ XJ R) (hP : sP np MI XI MJ XJ R B) (hR : 0 ≤ R ∧ R ≤ 20000) (hB : B ≤ 2 ^ 30) (hC : sC MI XI) (hT : sT np MI) (hr8 : sRat (MI 8) (XJ 6)) (hr9 : sRat (MI 9) (XJ 5)) (hS : okS np XI XJ) :
    ∀ (k : Nat), k ≤ np → okS np (xMtS np G k (XI, XJ)).1 (xMtS np G k (XI, XJ)).2 ∧ ∀ j, j < np → (xMtS np G k (XI, XJ)).1 15 j = 0 → XI 15 j = 0 := by
  intro k
  induction k with
  | zero => intro _; exact ⟨hS, fun j hj h => h⟩
  | succ k ih =>
    intro hk
    have hkn : k < np := hk
    obtain ⟨i1, i2⟩ := ih (Nat.le_of_succ_le hk)
    obtain ⟨⟨g1, g2, g3, g4, g5, g6, g7, g8⟩, -⟩ := mat_loop hK hF hP hR hB hC hT hr8 hr9 k (Nat.le_of_succ_le hk)
    have m0 : ∀ a, a ≠ 5 → a ≠ 7 → a ≠ 9 → (mMtS np k (MI, MJ)).1 a = MI a := fun a h5 h7 h9 => mMtS_k h5 h7 h9 k (MI, MJ)
    have x0 : ∀ a, a ≠ 15 → (xMtS np G k (XI, XJ)).1 a = XI a := fun a h => xMtS_k h k (XI, XJ)
    simp only [xMtS]
    generalize mMtS np k (MI, MJ) = S at *
    generalize xMtS np G k (XI, XJ) = T at *
    obtain ⟨M, J⟩ := S
    obtain ⟨XM, X⟩ := T
    simp only at g1 g2 g3 g4 g5 g6 g7 g8 m0 x0 i1 i2 ⊢
    by_cases hd : k < np ∧ XM 15 k = 0 ∧ XM 12 (G k) ≤ XM 10 2 - XM 11 (G k) + 1
    · rw [if_pos hd]
      have q0 := m0 0 (by decide) (by decide) (by decide)
      have q8 := m0 8 (by decide) (by decide) (by decide)
      have p10 := x0 10 (by decide)
      obtain ⟨k1, k2, k3, k4, k5, k6⟩ := g1.1 k hkn
      have ht := g1.2.2.2.1.tn hkn
      have ht2 := (g1.2.2.2.1.2.2 k hkn).1
      have hxt : xTn XM G k = mTn M k := by
        show (XM 12 (G k)).toInt.toNat = (M 2 k).toInt.toNat
        rw [k2]
      rw [hxt]
      have htb : 2 ≤ mTn M k ∧ mTn M k < 21 := ⟨by show 2 ≤ (M 2 k).toInt.toNat; omega, ht.2⟩
      generalize mTn M k = t at htb ⊢
      have hz := xPay_z g1 g2 g3 hR hB hkn (k5.trans hd.2.1) htb (by rw [q0, p10]; exact hC.1.2.2.2.1) (by rw [q0, p10]; exact hC.1.2.2.2.2.1) (by rw [q0]; exact hC.2.2.2.1) (by rw [q0]; exact hC.2.2.2.2.1) (by rw [q8, g5]; exact hr8)
      refine ⟨fun j hj => ?_, fun j hj h5 => ?_⟩
      · by_cases e : j = k
        · subst e
          right
          refine ⟨Or.inl (show u2 XM 15 j 1 15 j = 1 from u2_s), ?_⟩
          show 0 ≤ (xMatJ XM G j t X 11 j).toInt ∧ (xMatJ XM G j t X 11 j).toInt < 2 ^ 31
          unfold xMatJ xCloJ
          rw [u2_s]
          exact hz
        · show u2 XM 15 k 1 15 j = 0 ∨ ((u2 XM 15 k 1 15 j = 1 ∨ u2 XM 15 k 1 15 j = 2) ∧ 0 ≤ (xMatJ XM G k t X 11 j).toInt ∧ (xMatJ XM G k t X 11 j).toInt < 2 ^ 31)
          unfold xMatJ xCloJ
          rw [u2_n e, u2_n e, u2_k (by decide), u2_k (by decide), u2_k (by decide), u2_k (by decide), u2_k (by decide)]
          exact i1 j hj
      · have h5 : u2 XM 15 k 1 15 j = 0 := h5
        by_cases e : j = k
        · subst e
          rw [u2_s] at h5
          exact absurd h5 (by decide)
        · rw [u2_n e] at h5
          exact i2 j hj h5
    · rw [if_neg hd]
      exact ⟨i1, i2⟩
theorem Bb_mono (a : Nat) : Bb a + Bb a / 5 ≤ Bb (a + 1) := by simp only [Bb]; omega
set_option maxHeartbeats 1000000 in
theorem ext_run {y : Nat} (h : sim np ng G MI MJ XI XJ y) (he : ext np ng G XI XJ y) (hy : y < 40) {rt : Int32} (hrt : -200 ≤ rt.toInt ∧ rt.toInt ≤ 200) : ext np ng G (xRunI XI XJ G rt np ng) (xRunJ XI XJ G rt np ng) (y + 1) := by
  obtain ⟨e1, e2, e3, e4⟩ := he
  obtain ⟨cK, cF, cP, cC, cT, cr8, cr9⟩ := pre_run h hy hrt
  have hok := h.2.1.2.2.2.1
  have hRy1 := (RBb (y + 1) (by omega)).1
  have hBy1 := (RBb (y + 1) (by omega)).2
  have b11 : (xS0 XI XJ rt np ng).2 11 = XJ 11 := by
    show xCpy 21 (xJ3 XI XJ rt np ng) 11 = _
    rw [xCpy_k (by decide), xJ3_a (by decide) (by decide) (by decide) (by decide)]
  have b10 : (xS0 XI XJ rt np ng).2 10 = xJ3 XI XJ rt np ng 10 := by
    show xCpy 21 (xJ3 XI XJ rt np ng) 10 = _
    rw [xCpy_k (by decide)]
  have hS0 : okS np (xS0 XI XJ rt np ng).1 (xS0 XI XJ rt np ng).2 := by
    intro j hj
    rw [b11]
    exact e3 j hj
  obtain ⟨l1, l2⟩ := ok_loop cK cF cP hRy1 hBy1.2 cC cT cr8 cr9 hS0 np (Nat.le_refl _)
  have eT : ((xS0 XI XJ rt np ng).1, (xS0 XI XJ rt np ng).2) = xS0 XI XJ rt np ng := rfl
  rw [eT, ← (xMt_ge (np := np) (G := G) (T := xS0 XI XJ rt np ng) 30 hok.2.1).1] at l1 l2
  have hk : ∀ a, a ≠ 15 → a ≠ 10 → xRunI XI XJ G rt np ng a = XI a := fun a h15 h10 => by
    unfold xRunI
    rw [u2_k h10, xMtS_k h15]
    rfl
  have h15 : xRunI XI XJ G rt np ng 15 = (xMtS np G 30 (xS0 XI XJ rt np ng)).1 15 := by
    unfold xRunI
    rw [u2_k (by decide)]
  have h102 : xRunI XI XJ G rt np ng 10 2 = XI 10 2 + 1 := by
    unfold xRunI
    rw [u2_s, xMtS_k (by decide)]
    rfl
  have hyx : (XI 10 2).toInt = y := by rw [← h.2.2.2.2.1.1.1]; exact h.1.2
  have hone : (1 : Int32).toInt = 1 := by decide
  have hy1 : (XI 10 2 + 1).toInt = y + 1 := by rw [i_add (by rw [hyx, hone]; omega) (by rw [hyx, hone]; omega), hyx, hone]
  refine ⟨bal_run (fun j hj => (h.2.1.1 j hj).2.2.2.2.2) e1, fun i hi q => ?_, fun j hj => ?_, fun j hj q => ?_⟩
  · exfalso
    rw [hk 11 (by decide) (by decide), h102] at q
    obtain ⟨k, hk1, -, hGk, -⟩ := h.2.1.sur hi
    obtain ⟨a1, -⟩ := h.2.1.1 k hk1
    rw [hGk] at a1
    obtain ⟨t1, t2, -⟩ := h.2.2.2.2.2.1.2 k hk1
    have hy2 := h.1.2
    rw [a1, q, hy1] at t2
    omega
  · rw [h15]
    exact l1 j hj
  · rw [h15] at q
    have q0 : XI 15 j = 0 := l2 j hj q
    rw [hk 14 (by decide) (by decide), hk 11 (by decide) (by decide)]
    have hJ : xRunJ XI XJ G rt np ng 10 = xJ3 XI XJ rt np ng 10 := by
      unfold xRunJ
      rw [xMtS_10, b10]
    rw [hJ, xJ3_10, if_pos ⟨Nat.lt_of_lt_of_le hj hok.2.1, hj, q0⟩]
    obtain ⟨a1, a2, a3, a4, a5, a6⟩ := h.2.1.1 j hj
    obtain ⟨-, ⟨q1, q2, q3⟩, -⟩ := h.2.2.2.1 j hj
    obtain ⟨t1, t2, -⟩ := h.2.2.2.2.2.1.2 j hj
    have hy2 := h.1.2
    have hsm := h.2.1.2.2.2.2 j hj
    have h4 := e4 j hj q0
    rw [← a1] at h4 ⊢
    have hage : y + 1 - (MI 1 j).toInt.toNat = (y - (MI 1 j).toInt.toNat) + 1 := by omega
    rw [hage]
    generalize hae : y - (MI 1 j).toInt.toNat = a at h4 ⊢
    have hB1 := (RBb (a + 1) (by omega)).2
    have hB0 := (RBb a (by omega)).2
    have hx : (XJ 10 j).toInt = (MI 6 j).toInt := by rw [← q1, to64]
    obtain ⟨z1, z2, z3⟩ := bo_z (s := MI 4 j) (g := MI 6 j) (br := MI 0 1) (B := Bb a) (B' := Bb (a + 1)) q1 hsm.1 q2 (by rw [a4, ← hx]; exact h4) h.2.2.2.2.1.2.1 (Bb_mono a) hB1.2 (by omega)
    rw [← a4, ← h.2.2.2.2.1.1.2.1, ← z1, to64]
    exact z3
/-- a surrender -/
theorem ext_sur {y : Nat} (h : sim np ng G MI MJ XI XJ y) (he : ext np ng G XI XJ y) {j : Nat} (hj : j < np) (hyr : 1 ≤ XI 10 2 - XI 11 (G j)) {w : Int64} (h0 : 0 ≤ w.toInt) (h1 : w.toInt < 2 ^ 31) : ext np ng G (u2 XI 15 j 2) (xCloJ XI G j w XJ) y := by
  obtain ⟨e1, e2, e3, e4⟩ := he
  have c11 : xCloJ XI G j w XJ 11 = u2 XJ 11 j w 11 := by
    unfold xCloJ
    funext k
    simp [u2]
  have c10 : xCloJ XI G j w XJ 10 = XJ 10 := by unfold xCloJ; rw [u2_k (by decide), u2_k (by decide), u2_k (by decide), u2_k (by decide), u2_k (by decide)]
  refine ⟨bal_clo (h.2.1.1 j hj).2.2.2.2.2 e1, fun i hi q => ?_, fun k hk => ?_, fun k hk q => ?_⟩
  · have q : XI 11 i = XI 10 2 := q
    have hij : i ≠ G j := fun z => by
      rw [← q, z] at hyr
      have : XI 11 (G j) - XI 11 (G j) = 0 := by simp
      rw [this] at hyr
      exact absurd hyr (by decide)
    have c8 : xCloJ XI G j w XJ 8 i = XJ 8 i := by unfold xCloJ; simp [u2, hij]
    rw [c8]
    exact e2 i hi q
  · rw [c11]
    by_cases z : k = j
    · subst z
      rw [u2_s, u2_s]
      exact Or.inr ⟨Or.inr rfl, h0, h1⟩
    · rw [u2_n z, u2_n z]
      exact e3 k hk
  · by_cases z : k = j
    · subst z
      rw [u2_s] at q
      exact absurd q (by decide)
    · rw [u2_n z] at q
      rw [c10]
      exact e4 k hk q
theorem ext_rates {y : Nat} {bo ch : Int32} (he : ext np ng G XI XJ y) : ext np ng G (u2 (u2 XI 10 3 bo) 10 4 ch) XJ y := he
theorem ext_scale {y : Nat} {sc sp fl : Int32} (he : ext np ng G XI XJ y) : ext np ng G (u2 (u2 (u2 XI 10 5 sc) 10 6 sp) 10 7 fl) XJ y := he
theorem ext_endow {y : Nat} {am : Int64} (he : ext np ng G XI XJ y) : ext np ng G XI (u2 (u2 XJ 4 0 (XJ 4 0 + am)) 4 1 (XJ 4 1 + am)) y := by
  refine ⟨?_, he.2⟩
  have h1 := he.1
  unfold bal at h1 ⊢
  simp [u2]
  rw [h1]
  grind
theorem ext_old {y : Nat} (h : sim np ng G MI MJ XI XJ y) (he : ext np ng G XI XJ y) {te pr su : Int32} (hsu : 0 ≤ su.toInt ∧ su.toInt ≤ 100000) {i : Nat} (hi : i < ng) : ext (np + 1) ng (bG G np i) (bI XI np pr su) (bJ (u2 XJ 7 i (XJ 7 i + Int32.toInt64 pr)) np) y := by
  obtain ⟨e1, e2, e3, e4⟩ := he
  refine ⟨e1.to rfl rfl, e2, fun j hj => ?_, fun j hj q => ?_⟩
  · by_cases z : j = np
    · subst z
      exact Or.inl (by simp [u2, bI])
    · have := e3 j (by omega)
      simp [u2, bI, bJ, z]
      exact this
  · by_cases z : j = np
    · subst z
      have hb := (RBb (y - ((bI XI j pr su) 11 (bG G j i j)).toInt.toNat) (by have := h.1.1; omega)).2
      have e5 : bI XI j pr su 14 j = su := by simp [u2, bI]
      have e6 : bJ (u2 XJ 7 i (XJ 7 i + Int32.toInt64 pr)) j 10 j = 0 := by simp [u2, bJ]
      rw [e5, e6]
      have hz : (0 : Int64).toInt = 0 := by decide
      omega
    · have e5 : bI XI np pr su 15 j = XI 15 j := by simp [u2, bI, z]
      have e6 : bI XI np pr su 14 j = XI 14 j := by simp [u2, bI, z]
      have e7 : bJ (u2 XJ 7 i (XJ 7 i + Int32.toInt64 pr)) np 10 j = XJ 10 j := by simp [u2, bJ, z]
      have e8 : bG G np i j = G j := by simp [bG, z]
      have e9 : bI XI np pr su 11 = XI 11 := by unfold bI; rw [u2_k (by decide), u2_k (by decide), u2_k (by decide), u2_k (by decide)]
      rw [e5] at q
      rw [e6, e7, e8, e9]
      exact e4 j (by omega) q
theorem ext_new {y : Nat} (h : sim np ng G MI MJ XI XJ y) (he : ext np ng G XI XJ y) {te pr su : Int32} (hsu : 0 ≤ su.toInt ∧ su.toInt ≤ 100000) : ext (np + 1) (ng + 1) (bG G np ng) (bI (nIx XI ng te) np pr su) (bJ (nJx XJ ng pr) np) y := by
  obtain ⟨e1, e2, e3, e4⟩ := he
  have j8 : bJ (nJx XJ ng pr) np 8 = u2 XJ 8 ng 0 8 := by
    unfold bJ nJx
    funext k
    simp [u2]
  have j4 : bJ (nJx XJ ng pr) np 4 = XJ 4 := by unfold bJ nJx; rw [u2_k (by decide), u2_k (by decide), u2_k (by decide), u2_k (by decide), u2_k (by decide)]
  have i11 : ∀ i, i ≠ ng → bI (nIx XI ng te) np pr su 11 i = XI 11 i := fun i hi => by simp [u2, bI, nIx, hi]
  have i102 : bI (nIx XI ng te) np pr su 10 2 = XI 10 2 := by simp [u2, bI, nIx]
  refine ⟨?_, fun i hi q => ?_, fun j hj => ?_, fun j hj q => ?_⟩
  · unfold bal at e1 ⊢
    rw [j4, j8]
    simp only [sJ]
    rw [u2_s, sJ_congr (f := XJ 8) ng (fun k hk => u2_n (Nat.ne_of_lt hk)), e1]
    grind
  · rw [j8]
    by_cases z : i = ng
    · subst z; rw [u2_s]
    · rw [u2_n z]
      rw [i11 i z, i102] at q
      exact e2 i (by omega) q
  · by_cases z : j = np
    · subst z
      exact Or.inl (by simp [u2, bI])
    · have := e3 j (by omega)
      simp [u2, bI, bJ, nIx, nJx, z]
      exact this
  · by_cases z : j = np
    · subst z
      have hb := (RBb (y - ((bI (nIx XI ng te) j pr su) 11 (bG G j ng j)).toInt.toNat) (by have := h.1.1; omega)).2
      have e5 : bI (nIx XI ng te) j pr su 14 j = su := by simp [u2, bI]
      have e6 : bJ (nJx XJ ng pr) j 10 j = 0 := by simp [u2, bJ]
      rw [e5, e6]
      have hz : (0 : Int64).toInt = 0 := by decide
      omega
    · have hj2 : j < np := by omega
      have e5 : bI (nIx XI ng te) np pr su 15 j = XI 15 j := by simp [u2, bI, nIx, z]
      have e6 : bI (nIx XI ng te) np pr su 14 j = XI 14 j := by simp [u2, bI, nIx, z]
      have e7 : bJ (nJx XJ ng pr) np 10 j = XJ 10 j := by simp [u2, bJ, nJx, z]
      have e8 : bG G np ng j = G j := by simp [bG, z]
      rw [e5] at q
      rw [e6, e7, e8, i11 _ (Nat.ne_of_lt (h.2.1.1 j hj2).2.2.2.2.2)]
      exact e4 j hj2 q
end ZQ3
