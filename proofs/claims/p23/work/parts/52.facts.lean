/-! what the law asks of a state -/
section ZQ2
variable {np ng : Nat} {G : Nat → Nat} {MI : Nat → Nat → Int32} {MJ : Nat → Nat → Int64} {XI : Nat → Nat → Int32} {XJ : Nat → Nat → Int64}
theorem share_val (hK : sK np ng G MI XI) {R : Int} (hF : sF np G MI MJ XJ R) (hR : 0 ≤ R ∧ R ≤ 20000) {j : Nat} (hj : j < np) (hs : MI 5 j = 0) : (mShare MI MJ np j).toInt = (XJ 8 (G j)).toInt * (MI 3 j).toInt / (XJ 7 (G j)).toInt := by
  obtain ⟨f1, f2, f3, f4⟩ := hF.1 j hj
  have hok := hK.2.2.2.1
  obtain ⟨hp1, hp2⟩ := hok.pr j hj
  have hb := mPr_b hok j
  have hle : (MI 3 j).toInt ≤ (mPr MI np j).toInt := by
    obtain ⟨h1, h2, h3⟩ := mP_iP (b := MI 1) (t := MI 2) (st := MI 5) (pr := MI 3) (y := MI 1 j) (te := MI 2 j) np hok.2.1 hok.pr
    have := iP_in (b := MI 1) (t := MI 2) (st := MI 5) (pr := MI 3) (y := MI 1 j) (te := MI 2 j) np j hj hok.pr rfl rfl hs
    unfold mPr
    rw [h1]; exact this
  unfold mShare
  rw [if_pos hs, f2, f1]
  rw [f1] at f4
  exact (share_z (a := XJ 8 (G j)) (P := mPr MI np j) (p := (MI 3 j).toInt) (R := R) (q := Int32.toInt64 (MI 3 j)) (to64 _) f3 f4 hp1 hle hb.2 hR.1 (by omega)).1
theorem share_off {j : Nat} (hs : ¬ MI 5 j = 0) : (mShare MI MJ np j).toInt = 0 := by
  unfold mShare
  rw [if_neg hs]
  decide
theorem grp (hK : sK np ng G MI XI) {R : Int} (hF : sF np G MI MJ XJ R) (hR : 0 ≤ R ∧ R ≤ 20000) {i : Nat} (hi : i < ng) : iS (fun j => if G j = i then (mShare MI MJ np j).toInt else 0) np ≤ (XJ 8 i).toInt := by
  obtain ⟨k, hk, -, hGk, -⟩ := hK.sur hi
  obtain ⟨f1, f2, f3, f4⟩ := hF.1 k hk
  rw [hGk] at f1 f2 f3 f4
  have hok := hK.2.2.2.1
  obtain ⟨p1, p2, -⟩ := mP_iP (b := MI 1) (t := MI 2) (st := MI 5) (pr := MI 3) (y := MI 1 k) (te := MI 2 k) np hok.2.1 hok.pr
  have hPi : (XJ 7 i).toInt = iP (MI 1) (MI 2) (MI 5) (MI 3) (MI 1 k) (MI 2 k) np := by rw [f1]; exact p1
  have hpos : ∀ j, j < np → G j = i → MI 5 j = 0 → 1 ≤ (XJ 7 i).toInt := fun j hj hg hs => by
    have := hok.pos hj hs
    rw [← (hF.1 j hj).1, hg] at this
    exact this
  have key : ∀ n, n ≤ np → iS (fun j => if G j = i then (mShare MI MJ np j).toInt else 0) n * (XJ 7 i).toInt ≤ (XJ 8 i).toInt * iP (MI 1) (MI 2) (MI 5) (MI 3) (MI 1 k) (MI 2 k) n := by
    intro n
    induction n with
    | zero => intro _; simp [iS, iP]
    | succ n ih =>
      intro hn
      have hn2 : n < np := hn
      have h0 := ih (by omega)
      simp only [iS, iP]
      by_cases hg : G n = i
      · have hkey := (hK.key hn2 hk).mp (hg.trans hGk.symm)
        rw [if_pos hg]
        by_cases hs : MI 5 n = 0
        · rw [if_pos ⟨hkey.1, hkey.2, hs⟩, Int.add_mul, Int.mul_add]
          have h1 := hpos n hn2 hg hs
          have h2 : (mShare MI MJ np n).toInt * (XJ 7 i).toInt ≤ (XJ 8 i).toInt * (MI 3 n).toInt := by
            rw [share_val hK hF hR hn2 hs, hg]
            exact Int.ediv_mul_le _ (by omega)
          omega
        · rw [if_neg (fun q => hs q.2.2), share_off hs]
          simpa using h0
      · rw [if_neg hg, if_neg (fun q => hg (((hK.key hn2 hk).mpr ⟨q.1, q.2.1⟩).trans hGk))]
        simpa using h0
  have h1 := key np (Nat.le_refl _)
  rw [← hPi] at h1
  by_cases hP : 0 < (XJ 7 i).toInt
  · exact Int.le_of_mul_le_mul_right h1 hP
  · have h2 : iS (fun j => if G j = i then (mShare MI MJ np j).toInt else 0) np = iS (fun _ => 0) np := iS_congr np (fun j hj => by
      by_cases hg : G j = i
      · rw [if_pos hg]
        exact share_off (fun hs => hP (by have := hpos j hj hg hs; omega))
      · rw [if_neg hg])
    rw [h2, iS_zero]
    exact f3
theorem share_sum (hK : sK np ng G MI XI) {R : Int} (hF : sF np G MI MJ XJ R) (hR : 0 ≤ R ∧ R ≤ 20000) : iS (fun j => (mShare MI MJ np j).toInt) np ≤ iS (fun i => (XJ 8 i).toInt) ng := by
  rw [iS_swap (f := fun j => (mShare MI MJ np j).toInt) (G := G) (ng := ng) np (fun j hj => (hK.1 j hj).2.2.2.2.2)]
  exact iS_le ng (fun i hi => grp hK hF hR hi)
/-- the shares, as the law adds them up -/
def shN (XI : Nat → Nat → Int32) (XJ : Nat → Nat → Int64) (G : Nat → Nat) : Nat → Int32
  | 0 => 0
  | k + 1 => shN XI XJ G k + Int64.toInt32 (fAsset (XI 15 k) (XJ 8 (G k)) (XI 13 k) (XJ 7 (G k)))
theorem share_32 (hK : sK np ng G MI XI) {R : Int} (hF : sF np G MI MJ XJ R) (hR : 0 ≤ R ∧ R ≤ 20000) {j : Nat} (hj : j < np) : (Int64.toInt32 (fAsset (XI 15 j) (XJ 8 (G j)) (XI 13 j) (XJ 7 (G j)))).toInt = (mShare MI MJ np j).toInt ∧ 0 ≤ (mShare MI MJ np j).toInt ∧ (mShare MI MJ np j).toInt ≤ 20000000 := by
  obtain ⟨e, -, h0, h1⟩ := share_eq hK hF hR hj
  have h2 : (mShare MI MJ np j).toInt ≤ 20000000 := by omega
  rw [e]
  exact ⟨to32 (by omega) (by omega), h0, h2⟩
theorem shN_z (hK : sK np ng G MI XI) {R : Int} (hF : sF np G MI MJ XJ R) (hR : 0 ≤ R ∧ R ≤ 20000) : ∀ n, n ≤ np → (shN XI XJ G n).toInt = iS (fun j => (mShare MI MJ np j).toInt) n := by
  intro n
  induction n with
  | zero => intro _; rfl
  | succ n ih =>
    intro hn
    have h0 := ih (by omega)
    obtain ⟨e, h1, h2⟩ := share_32 hK hF hR (show n < np from hn)
    have hN := hK.2.2.2.1.2.1
    obtain ⟨b1, b2⟩ := iS_b (f := fun j => (mShare MI MJ np j).toInt) (B := 20000000) n (fun k hk => (share_32 hK hF hR (show k < np by omega)).2)
    simp only [shN, iS]
    rw [i_add (by rw [h0, e]; omega) (by rw [h0, e]; omega), h0, e]
theorem amt_b (hK : sK np ng G MI XI) {R : Int} (hF : sF np G MI MJ XJ R) (hR : 0 ≤ R ∧ R ≤ 20000) {i : Nat} (hi : i < ng) : 0 ≤ (XJ 8 i).toInt ∧ (XJ 8 i).toInt ≤ 600000000 := by
  obtain ⟨k, hk, -, hGk, -⟩ := hK.sur hi
  obtain ⟨f1, f2, f3, f4⟩ := hF.1 k hk
  rw [f1] at f4
  rw [hGk] at f3 f4
  have hb := mPr_b hK.2.2.2.1 k
  have := (i_mulb hR.1 hR.2 hb.1 hb.2).2
  exact ⟨f3, by omega⟩
/-- shares of policies are no more than those of generations -/
theorem h_shares (hK : sK np ng G MI XI) {R : Int} (hF : sF np G MI MJ XJ R) (hR : 0 ≤ R ∧ R ≤ 20000) : ¬ (xSh XJ ng 30 - XJ 4 0 < Int32.toInt64 (shN XI XJ G np)) := by
  have hng : ng ≤ 30 := Nat.le_trans hK.gle hK.2.2.2.1.2.1
  have e : xSh XJ ng 30 - XJ 4 0 = sJ (XJ 8) ng := by rw [xSh_30 hng]; grind
  have h1 := sJ_z (f := XJ 8) (B := 600000000) (by omega) ng hng (fun k hk => amt_b hK hF hR hk)
  rw [e, Int64.lt_iff_toInt_lt, to64, h1, shN_z hK hF hR np (Nat.le_refl _)]
  have := share_sum hK hF hR
  omega
theorem Bb20 : ∀ a, a < 20 → Bb a ≤ 4000000 := by decide +kernel
/-- what is guaranteed -/
theorem gu_z {y : Nat} (h : sim np ng G MI MJ XI XJ y) (h4 : ∀ j, j < np → XI 15 j = 0 → (XI 14 j).toInt + (XJ 10 j).toInt ≤ Bb (y - (XI 11 (G j)).toInt.toNat)) {j : Nat} (hj : j < np) (hs : XI 15 j = 0) : (Int32.toInt64 (XI 14 j) + XJ 10 j).toInt = (XI 14 j).toInt + (XJ 10 j).toInt ∧ 0 ≤ (XJ 10 j).toInt ∧ 0 ≤ (XI 14 j).toInt ∧ (XI 14 j).toInt + (XJ 10 j).toInt ≤ 4000000 := by
  obtain ⟨⟨hy1, hy2⟩, hK, hF, hP, hC, hT, hr, hcnt, hfr⟩ := h
  obtain ⟨a1, a2, a3, a4, a5, a6⟩ := hK.1 j hj
  obtain ⟨-, ⟨q1, q2, q3⟩, -⟩ := hP j hj
  have hsm := hK.2.2.2.2 j hj
  obtain ⟨t1, t2, t3⟩ := hT.2 j hj
  have t4 := t3 (a5.trans hs)
  have te := (hK.2.2.2.1.2.2 j hj).1
  have hx : (XJ 10 j).toInt = (MI 6 j).toInt := by rw [← q1, to64]
  have h5 := h4 j hj hs
  rw [← a1] at h5
  have h6 := Bb20 (y - (MI 1 j).toInt.toNat) (by omega)
  rw [a4] at hsm
  have h7 : (XI 14 j).toInt + (XJ 10 j).toInt ≤ 4000000 := by omega
  exact ⟨by rw [l_add (by rw [to64]; omega) (by rw [to64]; omega), to64], by omega, hsm.1, h7⟩
theorem h_short {y : Nat} (h : sim np ng G MI MJ XI XJ y) (h4 : ∀ j, j < np → XI 15 j = 0 → (XI 14 j).toInt + (XJ 10 j).toInt ≤ Bb (y - (XI 11 (G j)).toInt.toNat)) : ¬ Int64.toInt32 (xSf XI XJ G np 30) < 0 := by
  have hRy := (RBb y (by have := h.1.1; omega)).1
  have key : ∀ n, n ≤ 30 → 0 ≤ (xSf XI XJ G np n).toInt ∧ (xSf XI XJ G np n).toInt ≤ 4000000 * n := by
    intro n
    induction n with
    | zero => intro _; show 0 ≤ (0 : Int64).toInt ∧ (0 : Int64).toInt ≤ 4000000 * ((0 : Nat) : Int); exact ⟨by decide, by decide⟩
    | succ n ih =>
      intro hn
      obtain ⟨h1, h2⟩ := ih (by omega)
      simp only [xSf]
      by_cases c : n < np ∧ XI 15 n = 0
      · rw [if_pos c]
        obtain ⟨g1, g2, g3, g5⟩ := gu_z h h4 c.1 c.2
        obtain ⟨e, -, s0, s1⟩ := share_eq h.2.1 h.2.2.1 hRy c.1
        have s2 : (mShare MI MJ np n).toInt ≤ 20000000 := by omega
        have hz : 0 ≤ (xSf1 XI XJ G n).toInt ∧ (xSf1 XI XJ G n).toInt ≤ 4000000 := by
          unfold xSf1
          rw [e]
          have e2 : (Int32.toInt64 (XI 14 n) + XJ 10 n - mShare MI MJ np n).toInt = (XI 14 n).toInt + (XJ 10 n).toInt - (mShare MI MJ np n).toInt := by rw [l_sub (by rw [g1]; omega) (by rw [g1]; omega), g1]
          generalize Int32.toInt64 (XI 14 n) + XJ 10 n - mShare MI MJ np n = z at e2 ⊢
          show 0 ≤ (if z < 0 then (0 : Int64) else z).toInt ∧ (if z < 0 then (0 : Int64) else z).toInt ≤ 4000000
          by_cases c2 : z < 0
          · rw [if_pos c2]; exact ⟨by decide, by decide⟩
          · rw [if_neg c2]
            have := Int.not_lt.mp (fun q => c2 ((q_neg z).mpr q))
            omega
        rw [l_add (by omega) (by omega)]
        omega
      · rw [if_neg c]
        omega
  obtain ⟨h1, h2⟩ := key 30 (Nat.le_refl _)
  have h3 := to32 (x := xSf XI XJ G np 30) (by omega) (by omega)
  rw [Int32.lt_iff_toInt_lt, h3]
  have hz : (0 : Int32).toInt = 0 := by decide
  omega
/-- the value that a generation's call gives -/
def genV (XI : Nat → Nat → Int32) (XJ : Nat → Nat → Int64) (ng : Nat) (y te : Int32) : Int32 := match xF (XI 11) (XI 12) y te ng 0 with
  | some i => Int64.toInt32 (XJ 8 i)
  | none => 0
theorem gen_val (hK : sK np ng G MI XI) {R : Int} (hF : sF np G MI MJ XJ R) (hR : 0 ≤ R ∧ R ≤ 20000) (y te : Int32) : Int32.toInt64 (genV XI XJ ng y te) = sJ (fun i => if XI 11 i = y ∧ XI 12 i = te then XJ 8 i else 0) ng := by
  unfold genV
  rcases xF_spec (b := XI 11) (t := XI 12) (y := y) (te := te) ng 0 with ⟨i, -, h2, ⟨h3, h4⟩, h5⟩ | ⟨h1, h2⟩
  · have hi : i < ng := by omega
    rw [h5]
    have hb := amt_b hK hF hR hi
    have e : sJ (fun k => if XI 11 k = y ∧ XI 12 k = te then XJ 8 k else 0) ng = sJ (fun k => if k = i then XJ 8 i else 0) ng := sJ_congr ng (fun k hk => by
      by_cases c : k = i
      · subst c; rw [if_pos ⟨h3, h4⟩, if_pos rfl]
      · rw [if_neg c, if_neg (fun q => c (hK.2.1 k i hk hi (q.1.trans h3.symm) (q.2.trans h4.symm)))])
    rw [e, sJ_one, if_pos hi]
    apply Int64.toInt_inj.mp
    show (Int32.toInt64 (Int64.toInt32 (XJ 8 i))).toInt = _
    rw [to64, to32 (by omega) (by omega)]
  · rw [h1]
    have e : sJ (fun k => if XI 11 k = y ∧ XI 12 k = te then XJ 8 k else 0) ng = sJ (fun _ => 0) ng := sJ_congr ng (fun k hk => by rw [if_neg (h2 k (Nat.zero_le _) (by omega))])
    rw [e, sJ_zero]
    rfl
theorem gen_all (hK : sK np ng G MI XI) (hT : sT np MI) : ∀ n, n ≤ ng → sJ (fun y => sJ (fun t => sJ (fun i => if XI 11 i = nI y ∧ XI 12 i = nI (t + 2) then XJ 8 i else 0) n) 19) 41 = sJ (XJ 8) n := by
  intro n
  induction n with
  | zero =>
    intro _
    show sJ (fun y => sJ (fun t => (0 : Int64)) 19) 41 = 0
    simp only [sJ_zero]
  | succ n ih =>
    intro hn
    have h0 := ih (by omega)
    obtain ⟨k, hk, -, hGk, -⟩ := hK.sur (show n < ng from hn)
    obtain ⟨a1, a2, -⟩ := hK.1 k hk
    rw [hGk] at a1 a2
    obtain ⟨t1, t2, -⟩ := hT.2 k hk
    have te := (hK.2.2.2.1.2.2 k hk).1
    have hT0 := hT.1
    rw [a1] at t1 t2
    rw [a2] at te
    obtain ⟨Y, hY, eY⟩ : ∃ Y : Nat, Y < 41 ∧ XI 11 n = nI Y := ⟨(XI 11 n).toInt.toNat, by omega, by apply Int32.toInt_inj.mp; rw [nI_toInt (by omega)]; omega⟩
    obtain ⟨U, hU, eU⟩ : ∃ U : Nat, U < 19 ∧ XI 12 n = nI (U + 2) := ⟨(XI 12 n).toInt.toNat - 2, by omega, by apply Int32.toInt_inj.mp; rw [nI_toInt (by omega)]; omega⟩
    have e1 : ∀ y t, sJ (fun i => if XI 11 i = nI y ∧ XI 12 i = nI (t + 2) then XJ 8 i else 0) (n + 1) = sJ (fun i => if XI 11 i = nI y ∧ XI 12 i = nI (t + 2) then XJ 8 i else 0) n + (if XI 11 n = nI y ∧ XI 12 n = nI (t + 2) then XJ 8 n else 0) := fun y t => rfl
    simp only [e1]
    have e2 : ∀ y, sJ (fun t => sJ (fun i => if XI 11 i = nI y ∧ XI 12 i = nI (t + 2) then XJ 8 i else 0) n + (if XI 11 n = nI y ∧ XI 12 n = nI (t + 2) then XJ 8 n else 0)) 19 = sJ (fun t => sJ (fun i => if XI 11 i = nI y ∧ XI 12 i = nI (t + 2) then XJ 8 i else 0) n) 19 + sJ (fun t => if XI 11 n = nI y ∧ XI 12 n = nI (t + 2) then XJ 8 n else 0) 19 := fun y => sJ_add 19
    simp only [e2]
    rw [sJ_add, h0]
    have e3 : sJ (fun y => sJ (fun t => if XI 11 n = nI y ∧ XI 12 n = nI (t + 2) then XJ 8 n else 0) 19) 41 = sJ (fun y => if y = Y then XJ 8 n else 0) 41 := sJ_congr 41 (fun y hy => by
      by_cases c : y = Y
      · subst c
        rw [if_pos rfl]
        have e4 : sJ (fun t => if XI 11 n = nI y ∧ XI 12 n = nI (t + 2) then XJ 8 n else 0) 19 = sJ (fun t => if t = U then XJ 8 n else 0) 19 := sJ_congr 19 (fun t ht => by
          by_cases d : t = U
          · subst d; rw [if_pos rfl, if_pos ⟨eY, eU⟩]
          · rw [if_neg d, if_neg (fun q => d (by
              have := (nI_eq (a := U + 2) (b := t + 2) (by omega) (by omega)).mp (eU.symm.trans q.2)
              omega))])
        rw [e4, sJ_one, if_pos hU]
      · rw [if_neg c]
        have e4 : sJ (fun t => if XI 11 n = nI y ∧ XI 12 n = nI (t + 2) then XJ 8 n else 0) 19 = sJ (fun _ => 0) 19 := sJ_congr 19 (fun t ht => by
          rw [if_neg (fun q => c ((nI_eq (a := Y) (b := y) (by omega) (by omega)).mp (eY.symm.trans q.1)).symm)])
        rw [e4, sJ_zero])
    rw [e3, sJ_one, if_pos hY]
    rfl
/-- all generations together are the shares -/
theorem h_gen (hK : sK np ng G MI XI) {R : Int} (hF : sF np G MI MJ XJ R) (hR : 0 ≤ R ∧ R ≤ 20000) (hT : sT np MI) : sJ (fun y => sJ (fun t => Int32.toInt64 (genV XI XJ ng (nI y) (nI (t + 2)))) 19) 41 = xSh XJ ng 30 - XJ 4 0 := by
  have hng : ng ≤ 30 := Nat.le_trans hK.gle hK.2.2.2.1.2.1
  have e : xSh XJ ng 30 - XJ 4 0 = sJ (XJ 8) ng := by rw [xSh_30 hng]; grind
  simp only [gen_val hK hF hR]
  rw [gen_all hK hT ng (Nat.le_refl _), e]
end ZQ2
