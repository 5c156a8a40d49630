/-! the two sides agree: a year -/
section ZSH
variable {np ng : Nat} {G : Nat → Nat} {MI : Nat → Nat → Int32} {MJ : Nat → Nat → Int64} {XI : Nat → Nat → Int32} {XJ : Nat → Nat → Int64}
def Rb : Nat → Int
  | 0 => 0
  | y + 1 => (6 * (Rb y + 1) + 4) / 5
def Bb : Nat → Int
  | 0 => 100000
  | y + 1 => Bb y + Bb y / 5 + 1
theorem RBb : ∀ y, y < 41 → (0 ≤ Rb y ∧ Rb y ≤ 20000) ∧ 100000 ≤ Bb y ∧ Bb y ≤ 2 ^ 30 := by decide +kernel
/-- class and reference agree, in the year y -/
def sim (np ng : Nat) (G : Nat → Nat) (MI : Nat → Nat → Int32) (MJ : Nat → Nat → Int64) (XI : Nat → Nat → Int32) (XJ : Nat → Nat → Int64) (y : Nat) : Prop :=
  (y ≤ 40 ∧ (MI 0 0).toInt = y) ∧ sK np ng G MI XI ∧ sF np G MI MJ XJ (Rb y) ∧ sP np MI XI MJ XJ (Rb y) (Bb y) ∧ sC MI XI ∧ sT np MI ∧ sRat (MI 8) (XJ 5) ∧ (XI 10 0 = nI np ∧ XI 10 1 = nI ng) ∧ ∀ m, np ≤ m → MI 5 m = 0 ∧ MI 6 m = 0 ∧ MJ 1 m = 0
theorem sim.thrown {y : Nat} (h : sim np ng G MI MJ XI XJ y) (v : Int32) : sim np ng G (u2 MI 0 7 v) MJ XI XJ y :=
  ⟨h.1, h.2.1.cast rfl rfl rfl rfl rfl (fun j hj => (h.2.1.1 j hj).2.2.2.2.1) rfl rfl rfl rfl, h.2.2.1.cast rfl rfl rfl rfl rfl rfl rfl rfl rfl, h.2.2.2.1.cast rfl rfl rfl rfl rfl rfl rfl rfl, h.2.2.2.2.1, h.2.2.2.2.2.1, h.2.2.2.2.2.2.1, h.2.2.2.2.2.2.2⟩
theorem mCpy_at {a b : Nat} (hab : b ≠ a) : ∀ (n : Nat) (M : Nat → Nat → Int32) (t : Nat), t < n → mCpy a b n M a t = M b t := by
  intro n
  induction n with
  | zero => intro M t h; exact absurd h (Nat.not_lt_zero _)
  | succ n ih =>
    intro M t h
    simp only [mCpy]
    by_cases ht : t = n
    · subst ht
      rw [u2_s, mCpy_k hab]
    · rw [u2_n ht]
      exact ih M t (by omega)
theorem xCpy_k {c : Nat} (h : c ≠ 6) : ∀ (n : Nat) (J : Nat → Nat → Int64), xCpy n J c = J c := by
  intro n
  induction n with
  | zero => intro J; rfl
  | succ n ih => intro J; simp only [xCpy]; rw [u2_k h]; exact ih J
theorem xCpy_at : ∀ (n : Nat) (J : Nat → Nat → Int64) (t : Nat), t < n → xCpy n J 6 t = J 5 t := by
  intro n
  induction n with
  | zero => intro J t h; exact absurd h (Nat.not_lt_zero _)
  | succ n ih =>
    intro J t h
    simp only [xCpy]
    by_cases ht : t = n
    · subst ht
      rw [u2_s, xCpy_k (by decide)]
    · rw [u2_n ht]
      exact ih J t (by omega)
theorem xMt_ge {T : xST} : ∀ (n : Nat), np ≤ n → xMtS np G n T = xMtS np G np T ∧ xMtN np G n T = xMtN np G np T := by
  intro n
  induction n with
  | zero => intro h; rw [show np = 0 by omega]; exact ⟨rfl, rfl⟩
  | succ n ih =>
    intro h
    rcases Nat.eq_or_lt_of_le h with h | h
    · rw [h]; exact ⟨rfl, rfl⟩
    · obtain ⟨e1, e2⟩ := ih (by omega)
      simp only [xMtS, xMtN]
      rw [if_neg (fun q => absurd q.1 (by omega)), if_neg (fun q => absurd q.1 (by omega))]
      exact ⟨e1, e2⟩
set_option maxHeartbeats 1000000 in
theorem sim_run {y : Nat} (h : sim np ng G MI MJ XI XJ y) (hy : y < 40) {rt : Int32} (hrt : -200 ≤ rt.toInt ∧ rt.toInt ≤ 200) :
    sim np ng G (mRunI MI MJ rt np) (mRunJ MI MJ rt np) (xRunI XI XJ G rt np ng) (xRunJ XI XJ G rt np ng) (y + 1) ∧ mMtN np np (mS0 MI MJ rt np) = xMtN np G 30 (xS0 XI XJ rt np ng) := by
  have h1 := h.thrown 0
  unfold mRunI mRunJ xRunI xRunJ mS0 xS0 xJ3
  have hMI0 : ∀ c, c ≠ 0 → (u2 MI 0 7 0) c = MI c := fun c hc => u2_k hc
  generalize u2 MI 0 7 0 = M1 at h1 hMI0 ⊢
  obtain ⟨⟨hy1, hy2⟩, hK, hF, hP, hC, hT, hr, hcnt, hfr⟩ := h1
  have hok := hK.2.2.2.1
  have hng30 : ng ≤ 30 := Nat.le_trans hK.gle hok.2.1
  have hRy := (RBb y (by omega)).1
  have hRy1 := (RBb (y + 1) (by omega)).1
  have hBy := (RBb y (by omega)).2
  have hBy1 := (RBb (y + 1) (by omega)).2
  have hR' : 6 * (Rb y + 1) ≤ 5 * Rb (y + 1) ∧ 0 ≤ Rb (y + 1) := ⟨by simp only [Rb]; omega, hRy1.1⟩
  have hRm : Rb y ≤ Rb (y + 1) := by simp only [Rb]; omega
  have hB' : Bb y + Bb y / 5 ≤ Bb (y + 1) := by simp only [Bb]; omega
  have hBm : Bb y ≤ Bb (y + 1) := by simp only [Bb]; omega
  obtain ⟨g1, g2, g3, g4, g5, g6⟩ := grow_1 (rt := rt) hK hF hC.1.2.2.1 hC.2.2.1 hrt hRy hR' np (Nat.le_refl _)
  rw [hK.2.2.1.2] at g2 g3 g5 g6
  rw [xGG_ge 30 hng30]
  generalize mGrow M1 rt np np MJ = J at *
  generalize xGG XI ng rt ng XJ = X at *
  have hest : MJ 0 0 = XJ 4 0 := hF.2.2.1
  rw [hest, ← fThou_part]
  generalize fThou (XJ 4 0) (Int32.toInt64 rt) = e0
  obtain ⟨J2, hJ2⟩ : ∃ z, z = u2 (u2 J 0 0 (J 0 0 + e0)) 0 1 (J 0 1 + e0) := ⟨_, rfl⟩
  obtain ⟨X2, hX2⟩ : ∃ z, z = u2 (u2 X 4 0 (X 4 0 + e0)) 4 1 (X 4 1 + e0) := ⟨_, rfl⟩
  rw [← hJ2, ← hX2]
  have j2k : ∀ c, c ≠ 0 → J2 c = J c := fun c hc => by rw [hJ2, u2_k hc, u2_k hc]
  have x2k : ∀ c, c ≠ 4 → X2 c = X c := fun c hc => by rw [hX2, u2_k hc, u2_k hc]
  have j20 : J2 0 0 = X2 4 0 := by rw [hJ2, hX2]; simp [u2, g5]
  have j21 : J2 0 1 = X2 4 1 := by rw [hJ2, hX2]; simp [u2, g6]
  obtain ⟨M2, hM2⟩ : ∃ z, z = mCpy 9 8 21 (mGrI np M1) := ⟨_, rfl⟩
  obtain ⟨J3, hJ3⟩ : ∃ z, z = mGrJ rt np M1 J2 := ⟨_, rfl⟩
  obtain ⟨X3, hX3⟩ : ∃ z, z = xCpy 21 (xGB XI np 30 (xPA XI np rt 30 X2)) := ⟨_, rfl⟩
  rw [← hM2, ← hJ3, ← hX3]
  have m2k : ∀ c, c ≠ 6 → c ≠ 9 → M2 c = M1 c := fun c h6 h9 => by rw [hM2, mCpy_k h9, mGrI_k h6]
  have j3k : ∀ c, c ≠ 1 → J3 c = J2 c := fun c hc => by rw [hJ3, mGrJ_a hc]
  have x3k : ∀ c, c ≠ 6 → c ≠ 9 → c ≠ 10 → X3 c = X2 c := fun c h6 h9 h10 => by rw [hX3, xCpy_k h6, xGB_a h10, xPA_a h9]
  have cK : sK np ng G M2 XI := hK.cast (by rw [m2k 0 (by decide) (by decide)]) (m2k 1 (by decide) (by decide)) (m2k 2 (by decide) (by decide)) (m2k 3 (by decide) (by decide)) (m2k 4 (by decide) (by decide)) (fun j hj => by rw [m2k 5 (by decide) (by decide)]; exact (hK.1 j hj).2.2.2.2.1) rfl rfl rfl rfl
  have hpm : ∀ k, mPr M2 np k = mPr M1 np k := fun k => by unfold mPr; rw [m2k 1 (by decide) (by decide), m2k 2 (by decide) (by decide), m2k 3 (by decide) (by decide), m2k 5 (by decide) (by decide)]
  have hmm : ∀ k, hm M2 np k = hm M1 np k := hm_cast (m2k 1 (by decide) (by decide)) (m2k 2 (by decide) (by decide))
  have cF : sF np G M2 J3 X3 (Rb (y + 1)) := by
    refine ⟨fun j hj => ?_, fun k hk => ?_, ?_, ?_⟩
    · obtain ⟨f1, f2, f3, f4⟩ := hF.1 j hj
      obtain ⟨q1, q2, -⟩ := g3 j hj
      obtain ⟨q3, q4⟩ := q2 (hK.1 j hj).2.2.2.2.2
      have e7 : X3 7 = XJ 7 := by rw [x3k 7 (by decide) (by decide) (by decide), x2k 7 (by decide), g2 7 (by decide) (by decide)]
      have e8 : X3 8 = X 8 := by rw [x3k 8 (by decide) (by decide) (by decide), x2k 8 (by decide)]
      have e2 : J3 2 = J 2 := by rw [j3k 2 (by decide), j2k 2 (by decide)]
      rw [hpm, hmm, e7, e8, e2]
      exact ⟨f1, q1, q3, q4⟩
    · have e2 : J3 2 = J 2 := by rw [j3k 2 (by decide), j2k 2 (by decide)]
      rw [hmm] at hk
      rw [e2, g4 k hk]
      exact hF.2.1 k hk
    · rw [j3k 0 (by decide), x3k 4 (by decide) (by decide) (by decide)]; exact j20
    · rw [j3k 0 (by decide), x3k 4 (by decide) (by decide) (by decide)]; exact j21
  have e15 : ∀ j, j < np → XI 15 j = M1 5 j := fun j hj => (hK.1 j hj).2.2.2.2.1.symm
  have cP : sP np M2 XI J3 X3 (Rb (y + 1)) (Bb (y + 1)) := by
    intro j hj
    have hj30 : j < 30 := Nat.lt_of_lt_of_le hj hok.2.1
    obtain ⟨⟨a1, a2, a3⟩, ⟨b1, b2, b3⟩, c1⟩ := hP j hj
    obtain ⟨k1, k2, k3, k4, k5, k6⟩ := hK.1 j hj
    have eJ : J3 1 j = if j < np ∧ M1 5 j = 0 then alF (MJ 1 j) (M1 3 j) rt (M1 0 2) else MJ 1 j := by
      rw [hJ3, mGrJ_at, j2k 1 (by decide), g1 1 (by decide) (by decide)]
    have eX9 : X3 9 j = if j < 30 ∧ j < np ∧ XI 15 j = 0 then alX (XJ 9 j) (XI 13 j) rt (XI 10 4) else XJ 9 j := by
      rw [hX3, xCpy_k (by decide), xGB_a (by decide), xPA_at, x2k 9 (by decide), g2 9 (by decide) (by decide)]
    have eM6 : M2 6 j = if j < np ∧ M1 5 j = 0 then boF (M1 4 j) (M1 6 j) (M1 0 1) else M1 6 j := by
      rw [hM2, mCpy_k (by decide), mGrI_at]
    have eX10 : X3 10 j = if j < 30 ∧ j < np ∧ XI 15 j = 0 then XJ 10 j + fThou (Int32.toInt64 (XI 14 j) + XJ 10 j) (Int32.toInt64 (XI 10 3)) else XJ 10 j := by
      rw [hX3, xCpy_k (by decide), xGB_at, xPA_a (by decide), x2k 10 (by decide), g2 10 (by decide) (by decide)]
    have eX11 : X3 11 = XJ 11 := by rw [x3k 11 (by decide) (by decide) (by decide), x2k 11 (by decide), g2 11 (by decide) (by decide)]
    rw [eJ, eX9, eM6, eX10, eX11, m2k 4 (by decide) (by decide), m2k 5 (by decide) (by decide), m2k 7 (by decide) (by decide), e15 j hj]
    refine ⟨?_, ?_, c1⟩
    · by_cases h5 : M1 5 j = 0
      · rw [if_pos ⟨hj, h5⟩, if_pos ⟨hj30, hj, h5⟩, ← a1, ← k3, ← hC.1.2.2.1]
        obtain ⟨z1, z2, z3⟩ := al_z (a := MJ 1 j) (p := M1 3 j) (rt := rt) (ch := M1 0 2) a2 a3 (hok.pr j hj) hC.2.2.1 hrt hRy hR'.1
        exact ⟨z1.symm, z2, z3⟩
      · rw [if_neg (fun q => h5 q.2), if_neg (fun q => h5 q.2.2)]
        exact ⟨a1, a2, by omega⟩
    · by_cases h5 : M1 5 j = 0
      · rw [if_pos ⟨hj, h5⟩, if_pos ⟨hj30, hj, h5⟩, ← k4, ← hC.1.2.1]
        exact bo_z (B := Bb y) b1 (hK.2.2.2.2 j hj).1 b2 b3 hC.2.1 hB' hBy1.2 (by omega)
      · rw [if_neg (fun q => h5 q.2), if_neg (fun q => h5 q.2.2)]
        exact ⟨b1, b2, by omega⟩
  have cC : sC M2 XI := by unfold sC; rw [m2k 0 (by decide) (by decide)]; exact hC
  have cT : sT np M2 := by unfold sT; rw [m2k 0 (by decide) (by decide), m2k 1 (by decide) (by decide), m2k 2 (by decide) (by decide), m2k 5 (by decide) (by decide)]; exact hT
  have hX5 : X3 5 = XJ 5 := by rw [x3k 5 (by decide) (by decide) (by decide), x2k 5 (by decide), g2 5 (by decide) (by decide)]
  have cr8 : sRat (M2 8) (X3 6) := by
    intro t ht
    have e6 : X3 6 t = XJ 5 t := by
      rw [hX3, xCpy_at 21 _ t ht, xGB_a (by decide), xPA_a (by decide), x2k 5 (by decide), g2 5 (by decide) (by decide)]
    rw [e6, m2k 8 (by decide) (by decide)]
    exact hr t ht
  have cr9 : sRat (M2 9) (X3 5) := by
    intro t ht
    have e9 : M2 9 t = M1 8 t := by rw [hM2, mCpy_at (by decide) 21 _ t ht, mGrI_k (by decide)]
    rw [e9, hX5]
    exact hr t ht
  obtain ⟨⟨f1, f2, f3, f4, f5, f6, f7, f8⟩, fn⟩ := mat_loop cK cF cP hRy1 hBy1.2 cC cT cr8 cr9 np (Nat.le_refl _)
  obtain ⟨v1, v2⟩ := xMt_ge (np := np) (G := G) (T := (XI, X3)) 30 hok.2.1
  rw [v1, v2]
  refine ⟨?_, fn⟩
  have ms : ∀ a, a ≠ 5 → a ≠ 7 → a ≠ 9 → (mMtS np np (M2, J3)).1 a = M2 a := fun a h5 h7 h9 => mMtS_k h5 h7 h9 np (M2, J3)
  have xs : ∀ a, a ≠ 15 → (xMtS np G np (XI, X3)).1 a = XI a := fun a h => xMtS_k h np (XI, X3)
  generalize mMtS np np (M2, J3) = S at *
  generalize xMtS np G np (XI, X3) = T at *
  obtain ⟨M, JJ⟩ := S
  obtain ⟨XM, XX⟩ := T
  simp only at f1 f2 f3 f4 f5 f6 f7 f8 ms xs ⊢
  have s0 : M 0 = M1 0 := by rw [ms 0 (by decide) (by decide) (by decide), m2k 0 (by decide) (by decide)]
  have s1 : M 1 = M1 1 := by rw [ms 1 (by decide) (by decide) (by decide), m2k 1 (by decide) (by decide)]
  have s2 : M 2 = M1 2 := by rw [ms 2 (by decide) (by decide) (by decide), m2k 2 (by decide) (by decide)]
  have s10 : XM 10 = XI 10 := xs 10 (by decide)
  have fk : ∀ c, c ≠ 0 → c ≠ 8 → (u2 (mCpy 8 9 21 M) 0 0 (mCpy 8 9 21 M 0 0 + 1)) c = M c := fun c h0 h8 => by rw [u2_k h0, mCpy_k h8]
  have f0 : ∀ c, c ≠ 0 → (u2 (mCpy 8 9 21 M) 0 0 (mCpy 8 9 21 M 0 0 + 1)) 0 c = M1 0 c := fun c hc => by rw [u2_n hc, mCpy_k (by decide), s0]
  have f00 : (u2 (mCpy 8 9 21 M) 0 0 (mCpy 8 9 21 M 0 0 + 1)) 0 0 = M1 0 0 + 1 := by rw [u2_s, mCpy_k (by decide), s0]
  have f8t : ∀ t, t < 21 → (u2 (mCpy 8 9 21 M) 0 0 (mCpy 8 9 21 M 0 0 + 1)) 8 t = M 9 t := fun t ht => by rw [u2_k (by decide), mCpy_at (by decide) 21 _ t ht]
  generalize u2 (mCpy 8 9 21 M) 0 0 (mCpy 8 9 21 M 0 0 + 1) = MF at fk f0 f00 f8t ⊢
  have xk : ∀ c, c ≠ 10 → (u2 XM 10 2 (XM 10 2 + 1)) c = XM c := fun c hc => u2_k hc
  have x10 : ∀ c, c ≠ 2 → (u2 XM 10 2 (XM 10 2 + 1)) 10 c = XI 10 c := fun c hc => by rw [u2_n hc, s10]
  have x12 : (u2 XM 10 2 (XM 10 2 + 1)) 10 2 = XI 10 2 + 1 := by rw [u2_s, s10]
  generalize u2 XM 10 2 (XM 10 2 + 1) = XF at xk x10 x12 ⊢
  have hone : (1 : Int32).toInt = 1 := by decide
  have hyr : (MF 0 0).toInt = (y : Int) + 1 := by rw [f00, i_add (by rw [hy2, hone]; omega) (by rw [hy2, hone]; omega), hy2, hone]
  refine ⟨⟨by omega, by rw [hyr]; omega⟩, ?_, ?_, ?_, ⟨⟨?_, ?_, ?_, ?_, ?_, ?_⟩, ?_⟩, ⟨?_, fun j hj => ?_⟩, fun t ht => ?_, ⟨?_, ?_⟩, fun m hm => ?_⟩
  · refine f1.cast ?_ (fk 1 (by decide) (by decide)) (fk 2 (by decide) (by decide)) (fk 3 (by decide) (by decide)) (fk 4 (by decide) (by decide)) (fun j hj => ?_) (xk 11 (by decide)) (xk 12 (by decide)) (xk 13 (by decide)) (xk 14 (by decide))
    · rw [f0 6 (by decide), s0]
    · rw [fk 5 (by decide) (by decide), xk 15 (by decide)]; exact (f1.1 j hj).2.2.2.2.1
  · exact f2.cast (fk 1 (by decide) (by decide)) (fk 2 (by decide) (by decide)) (fk 3 (by decide) (by decide)) (fk 5 (by decide) (by decide)) rfl rfl rfl rfl rfl
  · exact f3.cast (fk 4 (by decide) (by decide)) (fk 5 (by decide) (by decide)) (fk 6 (by decide) (by decide)) (fk 7 (by decide) (by decide)) rfl rfl rfl rfl
  · rw [f00, x12, hC.1.1]
  · rw [f0 1 (by decide), x10 3 (by decide)]; exact hC.1.2.1
  · rw [f0 2 (by decide), x10 4 (by decide)]; exact hC.1.2.2.1
  · rw [f0 3 (by decide), x10 5 (by decide)]; exact hC.1.2.2.2.1
  · rw [f0 4 (by decide), x10 6 (by decide)]; exact hC.1.2.2.2.2.1
  · rw [f0 5 (by decide), x10 7 (by decide)]; exact hC.1.2.2.2.2.2
  · rw [f0 1 (by decide), f0 2 (by decide), f0 3 (by decide), f0 4 (by decide), f0 5 (by decide)]; exact hC.2
  · rw [hyr]; omega
  · rw [fk 1 (by decide) (by decide), fk 2 (by decide) (by decide), fk 5 (by decide) (by decide), s1, s2, hyr]
    obtain ⟨t1, t2, t3⟩ := hT.2 j hj
    refine ⟨t1, by omega, fun h5 => ?_⟩
    obtain ⟨-, z2⟩ := f6 j hj h5
    have := z2 hj
    rw [m2k 0 (by decide) (by decide), m2k 1 (by decide) (by decide), m2k 2 (by decide) (by decide)] at this
    omega
  · rw [f8t t ht]; exact f4 t ht
  · rw [x10 0 (by decide)]; exact hcnt.1
  · rw [x10 1 (by decide)]; exact hcnt.2
  · obtain ⟨z1, z2, z3⟩ := hfr m hm
    refine ⟨?_, ?_, ?_⟩
    · rw [fk 5 (by decide) (by decide), f7 m hm, m2k 5 (by decide) (by decide)]; exact z1
    · rw [fk 6 (by decide) (by decide), ms 6 (by decide) (by decide) (by decide), hM2, mCpy_k (by decide), mGrI_at, if_neg (fun q => by omega)]; exact z2
    · rw [f8, hJ3, mGrJ_at, if_neg (fun q => by omega), j2k 1 (by decide), g1 1 (by decide) (by decide)]; exact z3
end ZSH
