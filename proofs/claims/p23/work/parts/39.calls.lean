/-! the two sides agree: the other calls, what they answer -/
section ZSJ
variable {np ng : Nat} {G : Nat → Nat} {MI : Nat → Nat → Int32} {MJ : Nat → Nat → Int64} {XI : Nat → Nat → Int32} {XJ : Nat → Nat → Int64}
theorem fIn_1 {v lo hi : Int32} (h : fIn v lo hi = 1) : lo.toInt ≤ v.toInt ∧ v.toInt ≤ hi.toInt := by
  unfold fIn at h
  by_cases q : lo ≤ v ∧ v ≤ hi
  · exact ⟨Int32.le_iff_toInt_le.mp q.1, Int32.le_iff_toInt_le.mp q.2⟩
  · rw [if_neg q] at h; exact absurd h (by decide)
theorem fIn_01 (v lo hi : Int32) : fIn v lo hi = 0 ∨ fIn v lo hi = 1 := by
  unfold fIn
  split
  · exact Or.inr rfl
  · exact Or.inl rfl
/-- an index names a policy, or none -/
theorem pol_cases {x : Int32} (hx : x = nI np) (hN : np ≤ 30) (q : Int32) : (∃ j, j < np ∧ q = nI j) ∨ ((¬ ∃ j, j < np ∧ q = nI j) ∧ fIn q 0 (x - 1) = 0) := by
  by_cases h : ∃ j, j < np ∧ q = nI j
  · exact Or.inl h
  · refine Or.inr ⟨h, ?_⟩
    rcases fIn_01 q 0 (x - 1) with e | e
    · exact e
    · exfalso
      obtain ⟨h1, h2⟩ := fIn_1 e
      have hnp : (nI np).toInt = np := nI_toInt (by omega)
      have h0 : (0 : Int32).toInt = 0 := by decide
      have hone : (1 : Int32).toInt = 1 := by decide
      rw [hx, i_sub (by rw [hnp, hone]; omega) (by rw [hnp, hone]; omega), hnp, hone] at h2
      rw [h0] at h1
      refine h ⟨q.toInt.toNat, by omega, ?_⟩
      apply Int32.toInt_inj.mp
      rw [nI_toInt (by omega)]
      omega
theorem sim.np30 {y : Nat} (h : sim np ng G MI MJ XI XJ y) : np ≤ 30 := h.2.1.2.2.2.1.2.1
theorem sim_rates {y : Nat} (h : sim np ng G MI MJ XI XJ y) {bo ch : Int32} (h0 : fIn bo 0 200 = 1) (h1 : fIn ch 0 100 = 1) : sim np ng G (u2 (u2 (u2 MI 0 7 0) 0 1 bo) 0 2 ch) MJ (u2 (u2 XI 10 3 bo) 10 4 ch) XJ y := by
  obtain ⟨hy, hK, hF, hP, hC, hT, hr, hcnt, hfr⟩ := h
  refine ⟨hy, hK.cast rfl rfl rfl rfl rfl (fun j hj => (hK.1 j hj).2.2.2.2.1) rfl rfl rfl rfl, hF.cast rfl rfl rfl rfl rfl rfl rfl rfl rfl, hP.cast rfl rfl rfl rfl rfl rfl rfl rfl, ⟨⟨hC.1.1, rfl, rfl, hC.1.2.2.2⟩, fIn_1 h0, fIn_1 h1, hC.2.2.2⟩, hT, hr, hcnt, hfr⟩
theorem sim_scale {y : Nat} (h : sim np ng G MI MJ XI XJ y) {sc sp fl : Int32} (h0 : fIn sc 500 1500 = 1) (h1 : fIn sp 0 1000 = 1) (h2 : fIn fl 0 1000 = 1) : sim np ng G (u2 (u2 (u2 (u2 MI 0 7 0) 0 3 sc) 0 4 sp) 0 5 fl) MJ (u2 (u2 (u2 XI 10 5 sc) 10 6 sp) 10 7 fl) XJ y := by
  obtain ⟨hy, hK, hF, hP, hC, hT, hr, hcnt, hfr⟩ := h
  refine ⟨hy, hK.cast rfl rfl rfl rfl rfl (fun j hj => (hK.1 j hj).2.2.2.2.1) rfl rfl rfl rfl, hF.cast rfl rfl rfl rfl rfl rfl rfl rfl rfl, hP.cast rfl rfl rfl rfl rfl rfl rfl rfl, ⟨⟨hC.1.1, hC.1.2.1, hC.1.2.2.1, rfl, rfl, rfl⟩, hC.2.1, hC.2.2.1, fIn_1 h0, fIn_1 h1, fIn_1 h2⟩, hT, hr, hcnt, hfr⟩
theorem sim_endow {y : Nat} (h : sim np ng G MI MJ XI XJ y) (am : Int64) : sim np ng G (u2 MI 0 7 0) (u2 (u2 MJ 0 0 (MJ 0 0 + am)) 0 1 (MJ 0 1 + am)) XI (u2 (u2 XJ 4 0 (XJ 4 0 + am)) 4 1 (XJ 4 1 + am)) y := by
  obtain ⟨hy, hK, hF, hP, hC, hT, hr, hcnt, hfr⟩ := h.thrown 0
  refine ⟨hy, hK, ⟨hF.1, hF.2.1, ?_, ?_⟩, hP, hC, hT, hr, hcnt, hfr⟩
  · have := hF.2.2.1
    simp [u2, this]
  · have := hF.2.2.2
    simp [u2, this]
/-- a surrender's worth -/
theorem worth_eq {y : Nat} (h : sim np ng G MI MJ XI XJ y) {j : Nat} (hj : j < np) (hs : MI 5 j = 0) : fWorth (XI 10 2 - XI 11 (G j)) (XI 12 (G j)) (fAsset (XI 15 j) (XJ 8 (G j)) (XI 13 j) (XJ 7 (G j))) (XI 13 j) (XI 10 7) = mWorth MI MJ np j ∧ 0 ≤ (mWorth MI MJ np j).toInt ∧ (mWorth MI MJ np j).toInt < 2 ^ 31 := by
  obtain ⟨⟨hy1, hy2⟩, hK, hF, hP, hC, hT, hr, hcnt, hfr⟩ := h
  have hRy := (RBb y (by omega)).1
  obtain ⟨sh, sh1, sh0, shb⟩ := share_eq hK hF hRy hj
  obtain ⟨a1, a2, a3, a4, a5, a6⟩ := hK.1 j hj
  obtain ⟨⟨te1, te2⟩, hp1, hp2⟩ := hK.2.2.2.1.2.2 j hj
  obtain ⟨t1, t2, t3⟩ := hT.2 j hj
  have t4 := t3 hs
  obtain ⟨ag, -⟩ := age1 hT.1 ⟨t1, t2⟩
  rw [sh, ← a1, ← a2, ← a3, ← hC.1.1, ← hC.1.2.2.2.2.2]
  unfold fWorth mWorth
  generalize mShare MI MJ np j = S at *
  generalize MI 0 0 - MI 1 j = yr at *
  have hte : (Int32.toInt64 (MI 2 j)).toInt = (MI 2 j).toInt := to64 _
  rw [fParted_pos (by omega)]
  have h400 : (400 : Int64).toInt = 400 := by decide
  have h600 : (600 : Int64).toInt = 600 := by decide
  have e1 : (400 * Int32.toInt64 yr).toInt = 400 * yr.toInt := by rw [l_mul (by rw [to64, h400]; omega) (by rw [to64, h400]; omega), to64, h400]
  have e2 : (400 * Int32.toInt64 yr / Int32.toInt64 (MI 2 j)).toInt = 400 * yr.toInt / (MI 2 j).toInt := by rw [q_div (by omega), e1, hte, Int.tdiv_eq_ediv_of_nonneg (by omega)]
  have e3 : 0 ≤ 400 * yr.toInt / (MI 2 j).toInt := Int.ediv_nonneg (by omega) (by omega)
  have e4 : 400 * yr.toInt / (MI 2 j).toInt ≤ 16000 := by
    refine Int.ediv_le_of_le_mul (by omega) ?_
    have : 16000 * 2 ≤ 16000 * (MI 2 j).toInt := Int.mul_le_mul_of_nonneg_left te1 (by decide)
    omega
  have e5 : (600 + 400 * Int32.toInt64 yr / Int32.toInt64 (MI 2 j)).toInt = 600 + 400 * yr.toInt / (MI 2 j).toInt := by rw [l_add (by rw [e2, h600]; omega) (by rw [e2, h600]; omega), e2, h600]
  generalize 600 + 400 * Int32.toInt64 yr / Int32.toInt64 (MI 2 j) = W0 at *
  have hSb : S.toInt ≤ 20000 * 1000 := Int.le_trans shb (i_mulb hRy.1 hRy.2 (by decide) (Int.le_refl _)).2
  have f1 := i_mulb (a := S.toInt) (A := 20000000) (b := W0.toInt) (B := 16600) sh0 (by omega) (by omega) (by omega)
  have f2 := fPart_z (a := S) (b := W0) (by omega) (by omega)
  have g0 := i_mulb (a := yr.toInt) (A := 40) (b := (MI 3 j).toInt) (B := 1000) (by omega) (by omega) (by omega) hp2
  have g1 : (Int32.toInt64 yr * Int32.toInt64 (MI 3 j)).toInt = yr.toInt * (MI 3 j).toInt := by rw [l_mul (by rw [to64, to64]; omega) (by rw [to64, to64]; omega), to64, to64]
  have g2 := i_mulb (a := yr.toInt * (MI 3 j).toInt) (A := 40000) (b := (MI 0 5).toInt) (B := 1000) g0.1 (by omega) hC.2.2.2.2.2.1 hC.2.2.2.2.2.2
  have g3 := fPart_z (a := Int32.toInt64 yr * Int32.toInt64 (MI 3 j)) (b := Int32.toInt64 (MI 0 5)) (by rw [g1, to64]; omega) (by rw [g1, to64]; omega)
  rw [g1, to64] at g3
  rw [fThou_part, fThou_part]
  generalize fPart S W0 = F at *
  generalize fPart (Int32.toInt64 yr * Int32.toInt64 (MI 3 j)) (Int32.toInt64 (MI 0 5)) = U at *
  have hmx : fMax F U = fMore F U := rfl
  rw [hmx]
  have hb : 0 ≤ (fMore F U).toInt ∧ (fMore F U).toInt < 2 ^ 31 := by
    unfold fMore
    split <;> omega
  refine ⟨if_neg (fun q => ?_), hb⟩
  have := (q_neg _).mp q
  omega
theorem sim_surrender {y : Nat} (h : sim np ng G MI MJ XI XJ y) {j : Nat} (hj : j < np) (hs : MI 5 j = 0) {w : Int64} (hw : w = mWorth MI MJ np j) :
    sim np ng G (u2 (u2 (u2 (u2 MI 0 7 0) 0 7 0) 5 j 2) 7 j (Int64.toInt32 w)) (lvJ (mPr (u2 (u2 (u2 (u2 MI 0 7 0) 0 7 0) 5 j 2) 7 j (Int64.toInt32 w)) np j) MJ (hm (u2 (u2 MI 0 7 0) 0 7 0) np j) (mShare MI MJ np j) (Int64.toInt32 w)) (u2 XI 15 j 2) (xCloJ XI G j w XJ) y := by
  obtain ⟨-, w1, w2⟩ := worth_eq h hj hs
  rw [← hw] at w1 w2
  obtain ⟨hy, hK, hF, hP, hC, hT, hr, hcnt, hfr⟩ := (h.thrown 0).thrown 0
  have hRy := (RBb y (by omega)).1
  have hpay : Int32.toInt64 (Int64.toInt32 w) = w := by
    apply Int64.toInt_inj.mp
    rw [to64, to32 (by omega) w2]
  obtain ⟨l1, l2, l3⟩ := leave (st := 2) hK hF hP hRy hj hs (by decide) hpay
  refine ⟨hy, l1, l2, l3, hC, ⟨hT.1, fun k hk => ?_⟩, ?_, hcnt, fun m hm => ?_⟩
  · obtain ⟨t1, t2, t3⟩ := hT.2 k hk
    refine ⟨t1, t2, fun h5 => ?_⟩
    rw [u2_5a] at h5
    by_cases q : k = j
    · rw [if_pos q] at h5; exact absurd h5 (by decide)
    · rw [if_neg q] at h5; exact t3 h5
  · have e5 : xCloJ XI G j w XJ 5 = XJ 5 := by unfold xCloJ; rw [u2_k (by decide), u2_k (by decide), u2_k (by decide), u2_k (by decide), u2_k (by decide)]
    intro t ht
    rw [e5]
    exact hr t ht
  · obtain ⟨z1, z2, z3⟩ := hfr m hm
    refine ⟨?_, z2, ?_⟩
    · rw [u2_5a, if_neg (by omega)]; exact z1
    · rw [← z3]
      unfold lvJ
      split <;> simp [u2]
theorem gen_eq (hK : sK np ng G MI XI) {R : Int} (hF : sF np G MI MJ XJ R) (yq te : Int32) : (∃ i k, i < ng ∧ k < np ∧ xF (XI 11) (XI 12) yq te ng 0 = some i ∧ mF (MI 1) (MI 2) yq te np (-1) = nI k ∧ MJ 2 k = XJ 8 i) ∨ (xF (XI 11) (XI 12) yq te ng 0 = none ∧ mF (MI 1) (MI 2) yq te np (-1) = -1) := by
  rcases xF_spec (b := XI 11) (t := XI 12) (y := yq) (te := te) ng 0 with ⟨i, -, h2, ⟨h3, h4⟩, h5⟩ | ⟨h1, h2⟩
  · have hi : i < ng := by omega
    refine Or.inl ?_
    rcases mF_spec (b := MI 1) (t := MI 2) (y := yq) (te := te) np (-1) with ⟨k, g1, ⟨g2, g3⟩, g4, g5⟩ | ⟨g1, g2⟩
    · obtain ⟨a1, a2, -, -, -, a6⟩ := hK.1 k g1
      have hGk : G k = i := hK.2.1 _ _ a6 hi (by rw [← a1, g2, h3]) (by rw [← a2, g3, h4])
      obtain ⟨b1, b2, b3, b4⟩ := hm_spec (MI := MI) g1
      have hk : hm MI np k = k := by
        rcases Nat.lt_or_ge (hm MI np k) k with q | q
        · exact absurd ⟨by rw [b2, g2], by rw [b3, g3]⟩ (g5 _ q)
        · omega
      refine ⟨i, k, hi, g1, h5, g4, ?_⟩
      have := (hF.1 k g1).2.1
      rw [hk, hGk] at this
      exact this
    · obtain ⟨k, c1, -, c3, -⟩ := hK.sur hi
      obtain ⟨a1, a2, -, -, -, a6⟩ := hK.1 k c1
      exact absurd ⟨by rw [a1, c3, h3], by rw [a2, c3, h4]⟩ (g2 k c1)
  · refine Or.inr ⟨h1, ?_⟩
    rcases mF_spec (b := MI 1) (t := MI 2) (y := yq) (te := te) np (-1) with ⟨k, g1, ⟨g2, g3⟩, g4, g5⟩ | ⟨g1, g2⟩
    · obtain ⟨a1, a2, -, -, -, a6⟩ := hK.1 k g1
      exact absurd ⟨by rw [← a1, g2], by rw [← a2, g3]⟩ (h2 (G k) (Nat.zero_le _) (by omega))
    · exact g1
theorem xSh_ge : ∀ (n : Nat), ng ≤ n → xSh XJ ng n = xSh XJ ng ng := by
  intro n
  induction n with
  | zero => intro h; rw [show ng = 0 by omega]
  | succ n ih =>
    intro h
    rcases Nat.eq_or_lt_of_le h with h | h
    · rw [h]
    · simp only [xSh]; rw [if_neg (by omega)]; exact ih (by omega)
theorem sh_eq (hK : sK np ng G MI XI) {R : Int} (hF : sF np G MI MJ XJ R) : xSh XJ ng 30 = mSh MJ np := by
  have key : ∀ k, k ≤ np → mSh MJ k = xSh XJ ng (cnt MI np k) := by
    intro k
    induction k with
    | zero => intro _; exact hF.2.2.1
    | succ k ih =>
      intro hk
      simp only [mSh, cnt]
      rw [ih (by omega)]
      by_cases hh : hm MI np k = k
      · rw [if_pos hh]
        have hGk := hK.2.2.1.1 k (by omega) hh
        have a6 := (hK.1 k (by omega)).2.2.2.2.2
        have := (hF.1 k (by omega)).2.1
        rw [hh] at this
        show _ = xSh XJ ng (cnt MI np k + 1)
        simp only [xSh]
        rw [if_pos (by omega), this, hGk]
      · rw [if_neg hh, hF.2.1 k (Or.inr hh)]
        simp
  rw [xSh_ge 30 (Nat.le_trans hK.gle hK.2.2.2.1.2.1), key np (Nat.le_refl _), hK.2.2.1.2]
theorem sf_eq {y : Nat} (h : sim np ng G MI MJ XI XJ y) : xSf XI XJ G np 30 = mSf MI MJ np np := by
  obtain ⟨⟨hy1, hy2⟩, hK, hF, hP, hC, hT, hr, hcnt, hfr⟩ := h
  have hRy := (RBb y (by omega)).1
  have hBy := (RBb y (by omega)).2
  have hge : ∀ n, np ≤ n → xSf XI XJ G np n = xSf XI XJ G np np := by
    intro n
    induction n with
    | zero => intro h; rw [show np = 0 by omega]
    | succ n ih =>
      intro h
      rcases Nat.eq_or_lt_of_le h with h | h
      · rw [h]
      · simp only [xSf]; rw [if_neg (fun q => by omega)]; exact ih (by omega)
  rw [hge 30 hK.2.2.2.1.2.1]
  have key : ∀ k, k ≤ np → xSf XI XJ G np k = mSf MI MJ np k := by
    intro k
    induction k with
    | zero => intro _; rfl
    | succ k ih =>
      intro hk
      have hkn : k < np := hk
      obtain ⟨a1, a2, a3, a4, a5, a6⟩ := hK.1 k hkn
      simp only [xSf, mSf]
      rw [ih (by omega)]
      by_cases hs : MI 5 k = 0
      · rw [if_pos ⟨hkn, by rw [← a5]; exact hs⟩]
        congr 1
        unfold xSf1 mSf1
        rw [if_pos hs, (share_eq hK hF hRy hkn).1, ← a4]
        obtain ⟨-, ⟨q1, q2, q3⟩, -⟩ := hP k hkn
        have hsm := hK.2.2.2.2 k hkn
        have e : Int32.toInt64 (MI 4 k + MI 6 k) = Int32.toInt64 (MI 4 k) + XJ 10 k := by
          rw [← q1]
          apply Int64.toInt_inj.mp
          rw [to64, i_add (by omega) (by omega), l_add (by rw [to64, to64]; omega) (by rw [to64, to64]; omega), to64, to64]
        rw [e]
        generalize Int32.toInt64 (MI 4 k) + XJ 10 k - mShare MI MJ np k = z
        simp only [fMax]
        by_cases c : 0 < z
        · rw [if_pos c, if_neg (fun q => by have := (q_pos z).mp c; have := (q_neg z).mp q; omega)]
        · rw [if_neg c]
          by_cases c2 : z < 0
          · rw [if_pos c2]
          · rw [if_neg c2]
            apply Int64.toInt_inj.mp
            have g1 := Int.not_lt.mp (fun q => c ((q_pos z).mpr q))
            have g2 := Int.not_lt.mp (fun q => c2 ((q_neg z).mpr q))
            show z.toInt = 0
            omega
      · rw [if_neg (fun q => hs (by rw [a5]; exact q.2))]
        unfold mSf1
        rw [if_neg hs]
        simp
  exact key np (Nat.le_refl _)
end ZSJ
