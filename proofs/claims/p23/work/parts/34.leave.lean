/-! the two sides agree: a policy leaves -/
section ZSE
variable {np ng : Nat} {G : Nat → Nat} {MI : Nat → Nat → Int32} {MJ : Nat → Nat → Int64} {XI : Nat → Nat → Int32} {XJ : Nat → Nat → Int64}
theorem sK.cast {M X : Nat → Nat → Int32} (h : sK np ng G MI XI) (h6 : M 0 6 = MI 0 6) (h1 : M 1 = MI 1) (h2 : M 2 = MI 2) (h3 : M 3 = MI 3) (h4 : M 4 = MI 4) (h5 : ∀ j, j < np → M 5 j = X 15 j) (x1 : X 11 = XI 11) (x2 : X 12 = XI 12) (x3 : X 13 = XI 13) (x4 : X 14 = XI 14) : sK np ng G M X := by
  refine ⟨fun j hj => ?_, ?_, ⟨fun k hk hh => ?_, ?_⟩, h.2.2.2.1.to h6 h2 h3, ?_⟩
  · obtain ⟨a1, a2, a3, a4, a5, a6⟩ := h.1 j hj
    exact ⟨by rw [h1, x1]; exact a1, by rw [h2, x2]; exact a2, by rw [h3, x3]; exact a3, by rw [h4, x4]; exact a4, h5 j hj, a6⟩
  · rw [x1, x2]; exact h.2.1
  · rw [cnt_cast h1 h2]
    rw [hm_cast h1 h2] at hh
    exact h.2.2.1.1 k hk hh
  · rw [cnt_cast h1 h2]; exact h.2.2.1.2
  · rw [h4]; exact h.2.2.2.2
theorem mP_off {b t st pr : Nat → Int32} {y te s0 : Int32} {j : Nat} (hs : st j = 0) (h0 : s0 ≠ 0) : ∀ (n : Nat), mP b t (fun k => if k = j then s0 else st k) pr y te n = mP b t st pr y te n - (if j < n ∧ b j = y ∧ t j = te then Int32.toInt64 (pr j) else 0) := by
  intro n
  induction n with
  | zero => simp [mP]
  | succ n ih =>
    simp only [mP]
    rw [ih]
    by_cases hn : n = j
    · subst hn
      rw [if_neg (show ¬ (n < n ∧ b n = y ∧ t n = te) from fun q => absurd q.1 (Nat.lt_irrefl _))]
      simp only [↓reduceIte]
      by_cases hm : b n = y ∧ t n = te
      · rw [if_neg (fun q => h0 q.2.2), if_pos ⟨hm.1, hm.2, hs⟩, if_pos ⟨Nat.lt_succ_self n, hm⟩]
        grind
      · rw [if_neg (fun q => hm ⟨q.1, q.2.1⟩), if_neg (fun q => hm ⟨q.1, q.2.1⟩), if_neg (fun q => hm q.2)]
        grind
    · simp only [if_neg hn]
      have : (j < n + 1 ∧ b j = y ∧ t j = te) ↔ (j < n ∧ b j = y ∧ t j = te) := by
        constructor
        · rintro ⟨a1, a2⟩; exact ⟨by omega, a2⟩
        · rintro ⟨a1, a2⟩; exact ⟨by omega, a2⟩
      simp only [this]
      grind
theorem u2_5 {j : Nat} {st pay : Int32} : (u2 (u2 MI 5 j st) 7 j pay) 5 = fun k => if k = j then st else MI 5 k := by
  rw [u2_k (by decide)]
  simp [u2]
theorem u2_5a {j k : Nat} {st pay : Int32} : (u2 (u2 MI 5 j st) 7 j pay) 5 k = if k = j then st else MI 5 k := by
  rw [u2_5]
theorem mPr_off {j k : Nat} {st pay : Int32} (hj : j < np) (hs : MI 5 j = 0) (h0 : st ≠ 0) : mPr (u2 (u2 MI 5 j st) 7 j pay) np k = mPr MI np k - (if MI 1 j = MI 1 k ∧ MI 2 j = MI 2 k then Int32.toInt64 (MI 3 j) else 0) := by
  unfold mPr
  rw [u2_5]
  have e1 : (u2 (u2 MI 5 j st) 7 j pay) 1 = MI 1 := by rw [u2_k (by decide), u2_k (by decide)]
  have e2 : (u2 (u2 MI 5 j st) 7 j pay) 2 = MI 2 := by rw [u2_k (by decide), u2_k (by decide)]
  have e3 : (u2 (u2 MI 5 j st) 7 j pay) 3 = MI 3 := by rw [u2_k (by decide), u2_k (by decide)]
  rw [e1, e2, e3, mP_off hs h0]
  simp [hj]
/-- an asset share, on either side -/
theorem share_eq (hK : sK np ng G MI XI) {R : Int} (hF : sF np G MI MJ XJ R) (hR : 0 ≤ R ∧ R ≤ 20000) {j : Nat} (hj : j < np) :
    fAsset (XI 15 j) (XJ 8 (G j)) (XI 13 j) (XJ 7 (G j)) = mShare MI MJ np j ∧ (MI 5 j = 0 → fShare (XJ 8 (G j)) (XI 13 j) (XJ 7 (G j)) = mShare MI MJ np j ∧ (mShare MI MJ np j).toInt ≤ R * (MI 3 j).toInt ∧ (mShare MI MJ np j).toInt ≤ (XJ 8 (G j)).toInt ∧ (XJ 8 (G j)).toInt - (mShare MI MJ np j).toInt ≤ R * ((mPr MI np j).toInt - (MI 3 j).toInt) ∧ (MI 3 j).toInt ≤ (mPr MI np j).toInt) ∧ 0 ≤ (mShare MI MJ np j).toInt ∧ (mShare MI MJ np j).toInt ≤ R * 1000 := by
  obtain ⟨a1, a2, a3, a4, a5, a6⟩ := hK.1 j hj
  obtain ⟨f1, f2, f3, f4⟩ := hF.1 j hj
  unfold fAsset mShare
  rw [← a5, f1, f2, ← a3]
  have hok := hK.2.2.2.1
  obtain ⟨hp1, hp2⟩ := hok.pr j hj
  by_cases hs : MI 5 j = 0
  · rw [if_pos hs, if_pos hs]
    have hb := mPr_b hok j
    have hle : (MI 3 j).toInt ≤ (mPr MI np j).toInt := by
      obtain ⟨h1, h2, h3⟩ := mP_iP (b := MI 1) (t := MI 2) (st := MI 5) (pr := MI 3) (y := MI 1 j) (te := MI 2 j) np hok.2.1 hok.pr
      have := iP_in (b := MI 1) (t := MI 2) (st := MI 5) (pr := MI 3) (y := MI 1 j) (te := MI 2 j) np j hj hok.pr rfl rfl hs
      unfold mPr
      rw [h1]; exact this
    rw [f1] at f4
    obtain ⟨s1, s2, s3, s4, s5⟩ := share_z (a := XJ 8 (G j)) (P := mPr MI np j) (p := (MI 3 j).toInt) (R := R) (q := Int32.toInt64 (MI 3 j)) (to64 _) f3 f4 hp1 hle hb.2 hR.1 (by omega)
    have e1 : fShare (XJ 8 (G j)) (MI 3 j) (mPr MI np j) = XJ 8 (G j) * Int32.toInt64 (MI 3 j) / mPr MI np j := fParted_pos (by omega)
    rw [e1, s1]
    refine ⟨rfl, fun _ => ⟨rfl, s3, s4, s5, hle⟩, s2, Int.le_trans s3 (Int.mul_le_mul_of_nonneg_left hp2 hR.1)⟩
  · rw [if_neg hs, if_neg hs]
    exact ⟨rfl, fun q => absurd q hs, by decide, Int.mul_nonneg hR.1 (by decide)⟩
set_option maxHeartbeats 1000000 in
theorem leave {R B : Int} (hK : sK np ng G MI XI) (hF : sF np G MI MJ XJ R) (hP : sP np MI XI MJ XJ R B) (hR : 0 ≤ R ∧ R ≤ 20000) {j : Nat} (hj : j < np) (hs : MI 5 j = 0) {st : Int32} (hst : st ≠ 0) {pay : Int32} {py : Int64} (hpay : Int32.toInt64 pay = py) :
    sK np ng G (u2 (u2 MI 5 j st) 7 j pay) (u2 XI 15 j st) ∧ sF np G (u2 (u2 MI 5 j st) 7 j pay) (lvJ (mPr (u2 (u2 MI 5 j st) 7 j pay) np j) MJ (hm MI np j) (mShare MI MJ np j) pay) (xCloJ XI G j py XJ) R ∧
      sP np (u2 (u2 MI 5 j st) 7 j pay) (u2 XI 15 j st) (lvJ (mPr (u2 (u2 MI 5 j st) 7 j pay) np j) MJ (hm MI np j) (mShare MI MJ np j) pay) (xCloJ XI G j py XJ) R B := by
  obtain ⟨-, sh, sh0, -⟩ := share_eq hK hF hR hj
  obtain ⟨sh1, sh2, sh3, sh4, sh5⟩ := sh hs
  obtain ⟨a1, a2, a3, a4, a5, a6⟩ := hK.1 j hj
  obtain ⟨f1, f2, f3, f4⟩ := hF.1 j hj
  have hok := hK.2.2.2.1
  obtain ⟨hp1, hp2⟩ := hok.pr j hj
  have hb := mPr_b hok j
  have hz : mPr (u2 (u2 MI 5 j st) 7 j pay) np j = mPr MI np j - Int32.toInt64 (MI 3 j) := by rw [mPr_off hj hs hst, if_pos ⟨rfl, rfl⟩]
  have hzi : (mPr MI np j - Int32.toInt64 (MI 3 j)).toInt = (mPr MI np j).toInt - (MI 3 j).toInt := by rw [l_sub (by rw [to64]; omega) (by rw [to64]; omega), to64]
  have hh : ∀ k, hm (u2 (u2 MI 5 j st) 7 j pay) np k = hm MI np k := hm_cast (by rw [u2_k (by decide), u2_k (by decide)]) (by rw [u2_k (by decide), u2_k (by decide)])
  have hrel : fRel (XJ 8 (G j)) (XI 13 j) (XJ 7 (G j)) = if mPr MI np j - Int32.toInt64 (MI 3 j) = 0 then XJ 8 (G j) else mShare MI MJ np j := by
    unfold fRel
    rw [sh1, f1, ← a3]
    by_cases h0 : mPr MI np j - Int32.toInt64 (MI 3 j) = 0
    · rw [if_pos h0, if_neg (by rw [h0]; decide)]
    · rw [if_neg h0, if_pos]
      rw [q_pos]
      have : ¬ (mPr MI np j - Int32.toInt64 (MI 3 j)).toInt = 0 := fun q => h0 (Int64.toInt_inj.mp (by rw [q]; rfl))
      omega
  rw [hz]
  unfold xCloJ
  rw [hrel, f1, ← a3]
  have hsame : ∀ k, k < np → (G k = G j ↔ hm MI np k = hm MI np j) := fun k hk => hK.hmG hk hj
  generalize hS : mShare MI MJ np j = S at *
  generalize hPe : mPr MI np j = P at *
  generalize hpe : Int32.toInt64 (MI 3 j) = p at *
  generalize hae : XJ 8 (G j) = a at *
  refine ⟨?_, ⟨fun k hk => ?_, fun k hk => ?_, ?_, ?_⟩, fun k hk => ?_⟩
  · refine hK.cast ?_ ?_ ?_ ?_ ?_ (fun k hk => ?_) ?_ ?_ ?_ ?_ <;> first | (rw [u2_k (by decide), u2_k (by decide)]; done) | (rw [u2_k (by decide)]; done) | skip
    rw [u2_5a]
    by_cases hkj : k = j
    · subst hkj; rw [if_pos rfl, u2_s]
    · rw [if_neg hkj, u2_n hkj]; exact (hK.1 k hk).2.2.2.2.1
  · rw [hh]
    obtain ⟨g1, g2, g3, g4⟩ := hF.1 k hk
    rw [mPr_off hj hs hst, hpe]
    by_cases hkj : G k = G j
    · have hkm := (hsame k hk).mp hkj
      have hkey := (hK.key hk hj).mp hkj
      have hif : (if MI 1 j = MI 1 k ∧ MI 2 j = MI 2 k then p else 0) = p := if_pos ⟨hkey.1.symm, hkey.2.symm⟩
      rw [hif, mPr_same hkey.1 hkey.2, hPe, hkj, hkm]
      have e7 : ∀ z : Nat → Nat → Int64, ∀ v8 v4 v5 v11, (u2 (u2 (u2 (u2 (u2 z 7 (G j) (P - p)) 8 (G j) v8) 4 0 v4) 4 1 v5) 11 j v11) 7 (G j) = P - p := fun z v8 v4 v5 v11 => by simp [u2]
      have e8 : ∀ z : Nat → Nat → Int64, ∀ v7 v8 v4 v5 v11, (u2 (u2 (u2 (u2 (u2 z 7 (G j) v7) 8 (G j) v8) 4 0 v4) 4 1 v5) 11 j v11) 8 (G j) = v8 := fun z v7 v8 v4 v5 v11 => by simp [u2]
      rw [e7, e8]
      unfold lvJ
      by_cases h0 : P - p = 0
      · rw [if_pos h0, if_pos h0]
        refine ⟨rfl, ?_, ?_, ?_⟩
        · simp [u2]
        · simp
        · rw [h0]; simp
      · rw [if_neg h0, if_neg h0]
        have e9 : (a - S).toInt = a.toInt - S.toInt := by
          have : a.toInt ≤ 2 ^ 50 := by
            have := (i_mulb hR.1 hR.2 hb.1 hb.2).2
            rw [f1] at f4
            omega
          rw [l_sub (by omega) (by omega)]
        refine ⟨rfl, ?_, by rw [e9]; omega, by rw [e9, hzi]; exact sh4⟩
        simp [u2, f2]
    · have hkm : ¬ hm MI np k = hm MI np j := fun q => hkj ((hsame k hk).mpr q)
      have hkey : ¬ (MI 1 j = MI 1 k ∧ MI 2 j = MI 2 k) := fun q => hkj ((hK.key hk hj).mpr ⟨q.1.symm, q.2.symm⟩)
      have hif : (if MI 1 j = MI 1 k ∧ MI 2 j = MI 2 k then p else 0) = 0 := if_neg hkey
      rw [hif]
      have e7 : ∀ v7 v8 v4 v5 v11, (u2 (u2 (u2 (u2 (u2 XJ 7 (G j) v7) 8 (G j) v8) 4 0 v4) 4 1 v5) 11 j v11) 7 (G k) = XJ 7 (G k) := fun v7 v8 v4 v5 v11 => by simp [u2, hkj]
      have e8 : ∀ v7 v8 v4 v5 v11, (u2 (u2 (u2 (u2 (u2 XJ 7 (G j) v7) 8 (G j) v8) 4 0 v4) 4 1 v5) 11 j v11) 8 (G k) = XJ 8 (G k) := fun v7 v8 v4 v5 v11 => by simp [u2, hkj]
      rw [e7, e8]
      refine ⟨by rw [g1]; simp, ?_, g3, g4⟩
      rw [← g2]
      unfold lvJ
      split <;> simp [u2, hkm]
  · rw [hh] at hk
    rw [← hF.2.1 k hk]
    have hkm : k ≠ hm MI np j := fun q => by
      rcases hk with q2 | q2
      · have := hm_lt (MI := MI) hj
        omega
      · exact q2 (by rw [q]; exact hm_hm hj)
    unfold lvJ
    split <;> simp [u2, hkm]
  · unfold lvJ
    by_cases h0 : P - p = 0
    · rw [if_pos h0, if_pos h0]
      simp only [u2]
      simp
      rw [hF.2.2.1, f2, hpay]
      grind
    · rw [if_neg h0, if_neg h0]
      simp only [u2]
      simp
      rw [hF.2.2.1, hpay]
  · unfold lvJ
    by_cases h0 : P - p = 0
    · rw [if_pos h0]
      simp only [u2]
      simp
      rw [hF.2.2.2, hpay]
    · rw [if_neg h0]
      simp only [u2]
      simp
      rw [hF.2.2.2, hpay]
  · obtain ⟨q1, q2, q3⟩ := hP k hk
    have e1 : lvJ (P - p) MJ (hm MI np j) S pay 1 = MJ 1 := by unfold lvJ; split <;> simp [u2]
    rw [e1]
    have e9 : ∀ v7 v8 v4 v5 v11, (u2 (u2 (u2 (u2 (u2 XJ 7 (G j) v7) 8 (G j) v8) 4 0 v4) 4 1 v5) 11 j v11) 9 = XJ 9 := fun v7 v8 v4 v5 v11 => by simp [u2]
    have e10 : ∀ v7 v8 v4 v5 v11, (u2 (u2 (u2 (u2 (u2 XJ 7 (G j) v7) 8 (G j) v8) 4 0 v4) 4 1 v5) 11 j v11) 10 = XJ 10 := fun v7 v8 v4 v5 v11 => by simp [u2]
    have e6 : (u2 (u2 MI 5 j st) 7 j pay) 6 = MI 6 := by rw [u2_k (by decide), u2_k (by decide)]
    have e4 : (u2 (u2 MI 5 j st) 7 j pay) 4 = MI 4 := by rw [u2_k (by decide), u2_k (by decide)]
    rw [e9, e10, e6, e4]
    refine ⟨q1, q2, ?_⟩
    rw [u2_5a]
    by_cases hkj : k = j
    · subst hkj
      rw [if_pos rfl, if_neg hst, u2_s, u2_s, ← hpay]
      simp
    · rw [if_neg hkj]
      have e11 : ∀ v7 v8 v4 v5 v11, (u2 (u2 (u2 (u2 (u2 XJ 7 (G j) v7) 8 (G j) v8) 4 0 v4) 4 1 v5) 11 j v11) 11 k = XJ 11 k := fun v7 v8 v4 v5 v11 => by simp [u2, hkj]
      have e7 : (u2 (u2 MI 5 j st) 7 j pay) 7 k = MI 7 k := by simp [u2, hkj]
      rw [e11, e7]
      exact q3
end ZSE
