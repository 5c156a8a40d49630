/-! the two sides agree: a policy begins -/
section ZSI
variable {np ng : Nat} {G : Nat → Nat} {MI : Nat → Nat → Int32} {MJ : Nat → Nat → Int64} {XI : Nat → Nat → Int32} {XJ : Nat → Nat → Int64}
theorem mP_congr {b t st pr b' t' st' pr' : Nat → Int32} {y te : Int32} : ∀ (n : Nat), (∀ k, k < n → b' k = b k ∧ t' k = t k ∧ st' k = st k ∧ pr' k = pr k) → mP b' t' st' pr' y te n = mP b t st pr y te n := by
  intro n
  induction n with
  | zero => intro _; rfl
  | succ n ih =>
    intro h
    obtain ⟨h1, h2, h3, h4⟩ := h n (Nat.lt_succ_self n)
    simp only [mP]
    rw [ih (fun k hk => h k (by omega)), h1, h2, h3, h4]
theorem mP_none {b t st pr : Nat → Int32} {y te : Int32} : ∀ (n : Nat), (∀ k, k < n → ¬ (b k = y ∧ t k = te)) → mP b t st pr y te n = 0 := by
  intro n
  induction n with
  | zero => intro _; rfl
  | succ n ih =>
    intro h
    simp only [mP]
    rw [ih (fun k hk => h k (by omega)), if_neg (fun q => h n (Nat.lt_succ_self n) ⟨q.1, q.2.1⟩)]
    rfl
set_option maxHeartbeats 1000000 in
theorem sim_begin {y : Nat} (h : sim np ng G MI MJ XI XJ y) (hn : np < 30) {te pr su : Int32} (hte : 2 ≤ te.toInt ∧ te.toInt ≤ 20) (hpr : 1 ≤ pr.toInt ∧ pr.toInt ≤ 1000) (hsu : 0 ≤ su.toInt ∧ su.toInt ≤ 100000)
    {ng' i : Nat} {G' : Nat → Nat} {M X : Nat → Nat → Int32} {X' : Nat → Nat → Int64} (hi : (i < ng ∧ ng' = ng) ∨ (i = ng ∧ ng' = ng + 1 ∧ ∀ k, k < ng → ¬ (XI 11 k = MI 0 0 ∧ XI 12 k = te)))
    (m1 : ∀ j, M 1 j = if j = np then MI 0 0 else MI 1 j) (m2 : ∀ j, M 2 j = if j = np then te else MI 2 j) (m3 : ∀ j, M 3 j = if j = np then pr else MI 3 j) (m4 : ∀ j, M 4 j = if j = np then su else MI 4 j) (m5 : M 5 = MI 5) (m6 : M 6 = MI 6) (m7 : M 7 = MI 7) (m8 : M 8 = MI 8) (m0 : ∀ c, c < 6 → M 0 c = MI 0 c) (m06 : M 0 6 = nI (np + 1))
    (gj : ∀ j, j < np → G' j = G j) (gn : G' np = i) (x11 : ∀ k, k < ng → X 11 k = XI 11 k) (x12 : ∀ k, k < ng → X 12 k = XI 12 k) (x11i : X 11 i = MI 0 0) (x12i : X 12 i = te) (x13 : ∀ j, X 13 j = if j = np then pr else XI 13 j) (x14 : ∀ j, X 14 j = if j = np then su else XI 14 j) (x15 : ∀ j, X 15 j = if j = np then 0 else XI 15 j)
    (x10 : ∀ c, 2 ≤ c → X 10 c = XI 10 c) (x100 : X 10 0 = nI (np + 1)) (x101 : X 10 1 = nI ng')
    (j4 : X' 4 = XJ 4) (j5 : X' 5 = XJ 5) (j7 : ∀ k, k < ng → k ≠ i → X' 7 k = XJ 7 k) (j7i : X' 7 i = (if i < ng then XJ 7 i else 0) + Int32.toInt64 pr) (j8 : ∀ k, k < ng → X' 8 k = XJ 8 k) (j8i : i = ng → X' 8 i = 0) (j9 : ∀ j, X' 9 j = if j = np then 0 else XJ 9 j) (j10 : ∀ j, X' 10 j = if j = np then 0 else XJ 10 j) (j11 : ∀ j, X' 11 j = if j = np then -1 else XJ 11 j) :
    sim (np + 1) ng' G' M MJ X X' y := by
  obtain ⟨⟨hy1, hy2⟩, hK, hF, hP, hC, hT, hr, hcnt, hfr⟩ := h
  have hok := hK.2.2.2.1
  have hRy := (RBb y (by omega)).1
  have hBy := (RBb y (by omega)).2
  have m1j : ∀ j, j < np → M 1 j = MI 1 j := fun j hj => by rw [m1, if_neg (by omega)]
  have m2j : ∀ j, j < np → M 2 j = MI 2 j := fun j hj => by rw [m2, if_neg (by omega)]
  have m3j : ∀ j, j < np → M 3 j = MI 3 j := fun j hj => by rw [m3, if_neg (by omega)]
  have m4j : ∀ j, j < np → M 4 j = MI 4 j := fun j hj => by rw [m4, if_neg (by omega)]
  have m1n : M 1 np = MI 0 0 := by rw [m1, if_pos rfl]
  have m2n : M 2 np = te := by rw [m2, if_pos rfl]
  have m3n : M 3 np = pr := by rw [m3, if_pos rfl]
  have m4n : M 4 np = su := by rw [m4, if_pos rfl]
  have hing : i < ng' := by rcases hi with ⟨a, b⟩ | ⟨a, b, -⟩ <;> omega
  have hngle : ng ≤ ng' := by rcases hi with ⟨a, b⟩ | ⟨a, b, -⟩ <;> omega
  -- the key of an older policy is the new one's just when its generation is i
  have hkey : ∀ j, j < np → (G j = i ↔ (MI 1 j = MI 0 0 ∧ MI 2 j = te)) := fun j hj => by
    obtain ⟨a1, a2, -, -, -, a6⟩ := hK.1 j hj
    constructor
    · intro e
      rw [a1, a2, ← x11 _ a6, ← x12 _ a6, e]
      exact ⟨x11i, x12i⟩
    · rintro ⟨e1, e2⟩
      rcases hi with ⟨b1, b2⟩ | ⟨b1, b2, b3⟩
      · exact hK.2.1 _ _ a6 b1 (by rw [← a1, e1, ← x11 i b1, x11i]) (by rw [← a2, e2, ← x12 i b1, x12i])
      · exact absurd ⟨by rw [← a1, e1], by rw [← a2, e2]⟩ (b3 _ a6)
  -- homes of older policies
  have hhm : ∀ j, j < np → hm M (np + 1) j = hm MI np j := fun j hj => by
    obtain ⟨a1, a2, a3, a4⟩ := hm_spec (MI := MI) hj
    obtain ⟨b1, b2, b3, b4⟩ := hm_spec (MI := M) (np := np + 1) (j := j) (by omega)
    rcases Nat.lt_trichotomy (hm M (np + 1) j) (hm MI np j) with q | q | q
    · exact absurd ⟨by rw [← m1j _ (by omega), b2, m1j j hj], by rw [← m2j _ (by omega), b3, m2j j hj]⟩ (a4 _ q)
    · exact q
    · exact absurd ⟨by rw [m1j _ (by omega), a2, m1j j hj], by rw [m2j _ (by omega), a3, m2j j hj]⟩ (b4 _ q)
  have hcn : ∀ k, k ≤ np → cnt M (np + 1) k = cnt MI np k := fun k => by
    induction k with
    | zero => intro _; rfl
    | succ k ih => intro hk; simp only [cnt]; rw [ih (by omega), hhm k (by omega)]
  -- the new one's home
  have hnew : (i < ng → ∃ k, k < np ∧ hm MI np k = k ∧ G k = i ∧ hm M (np + 1) np = k) ∧ (¬ i < ng → hm M (np + 1) np = np) := by
    obtain ⟨b1, b2, b3, b4⟩ := hm_spec (MI := M) (np := np + 1) (j := np) (by omega)
    rw [m1n, m2n] at b4
    rw [m1n] at b2
    rw [m2n] at b3
    constructor
    · intro hlt
      obtain ⟨k, c1, c2, c3, -⟩ := hK.sur hlt
      have hkk := (hkey k c1).mp c3
      refine ⟨k, c1, c2, c3, ?_⟩
      rcases Nat.lt_trichotomy (hm M (np + 1) np) k with q | q | q
      · have hlt2 : hm M (np + 1) np < np := by omega
        obtain ⟨-, -, -, a4⟩ := hm_spec (MI := MI) c1
        rw [c2] at a4
        exact absurd ⟨by rw [← m1j _ hlt2, b2, hkk.1], by rw [← m2j _ hlt2, b3, hkk.2]⟩ (a4 _ q)
      · exact q
      · exact absurd ⟨by rw [m1j k c1]; exact hkk.1, by rw [m2j k c1]; exact hkk.2⟩ (b4 k q)
    · intro hge
      rcases Nat.lt_or_ge (hm M (np + 1) np) np with q | q
      · have e := (hkey _ q).mpr ⟨by rw [← m1j _ q, b2], by rw [← m2j _ q, b3]⟩
        have := (hK.1 _ q).2.2.2.2.2
        omega
      · omega
  have hpm : ∀ j, mPr M (np + 1) j = mP (MI 1) (MI 2) (MI 5) (MI 3) (M 1 j) (M 2 j) np + (if M 1 j = MI 0 0 ∧ M 2 j = te then Int32.toInt64 pr else 0) := fun j => by
    unfold mPr
    simp only [mP]
    rw [mP_congr np (fun k hk => ⟨m1j k hk, m2j k hk, by rw [m5], m3j k hk⟩), m1n, m2n, m3n, m5, (hfr np (Nat.le_refl _)).1]
    congr 1
    by_cases q : M 1 j = MI 0 0 ∧ M 2 j = te
    · rw [if_pos q, if_pos ⟨q.1.symm, q.2.symm, rfl⟩]
    · rw [if_neg q, if_neg (fun z => q ⟨z.1.symm, z.2.1.symm⟩)]
  have hpj : ∀ j, j < np → mPr M (np + 1) j = mPr MI np j + (if G j = i then Int32.toInt64 pr else 0) := fun j hj => by
    rw [hpm j, m1j j hj, m2j j hj]
    show mPr MI np j + _ = _
    congr 1
    by_cases q : G j = i
    · rw [if_pos q, if_pos ((hkey j hj).mp q)]
    · rw [if_neg q, if_neg (fun z => q ((hkey j hj).mpr z))]
  have hadd : ∀ (P : Int64), 0 ≤ P.toInt → P.toInt ≤ 30000 → (P + Int32.toInt64 pr).toInt = P.toInt + pr.toInt := fun P h0 h1 => by rw [l_add (by rw [to64]; omega) (by rw [to64]; omega), to64]
  -- funds of a generation with an older policy
  have hfund : ∀ j, j < np → X' 7 (G j) = mPr MI np j + (if G j = i then Int32.toInt64 pr else 0) ∧ X' 8 (G j) = XJ 8 (G j) ∧ (XJ 8 (G j)).toInt ≤ Rb y * (mPr MI np j + (if G j = i then Int32.toInt64 pr else 0)).toInt := fun j hj => by
    obtain ⟨f1, f2, f3, f4⟩ := hF.1 j hj
    have a6 := (hK.1 j hj).2.2.2.2.2
    have hb := mPr_b hok j
    by_cases q : G j = i
    · rw [if_pos q, q, j7i, if_pos (by omega), ← q, f1, j8 _ a6]
      refine ⟨rfl, rfl, ?_⟩
      rw [hadd _ hb.1 hb.2, Int.mul_add]
      rw [f1] at f4
      have := Int.mul_nonneg hRy.1 (show 0 ≤ pr.toInt by omega)
      omega
    · rw [if_neg q, j7 _ a6 q, j8 _ a6, f1]
      rw [f1] at f4
      simp only [Int64.add_zero]
      exact ⟨trivial, trivial, f4⟩
  refine ⟨⟨hy1, by rw [m0 0 (by omega)]; exact hy2⟩, ⟨fun j hj => ?_, fun a b ha hb e1 e2 => ?_, ⟨fun k hk hh => ?_, ?_⟩, ⟨m06, by omega, fun k hk => ?_⟩, fun j hj => ?_⟩, ⟨fun j hj => ?_, fun k hk => ?_, ?_, ?_⟩, fun j hj => ?_, ?_, ⟨?_, fun j hj => ?_⟩, fun t ht => ?_, ⟨x100, x101⟩, fun m hm => ?_⟩
  · by_cases q : j = np
    · subst q
      rw [m1n, m2n, m3n, m4n, m5, gn, x11i, x12i, x13, x14, x15, if_pos rfl, if_pos rfl, if_pos rfl, (hfr j (Nat.le_refl _)).1]
      exact ⟨rfl, rfl, rfl, rfl, rfl, hing⟩
    · have hj2 : j < np := by omega
      obtain ⟨a1, a2, a3, a4, a5, a6⟩ := hK.1 j hj2
      rw [m1j j hj2, m2j j hj2, m3j j hj2, m4j j hj2, m5, gj j hj2, x11 _ a6, x12 _ a6, x13, x14, x15, if_neg q, if_neg q, if_neg q]
      exact ⟨a1, a2, a3, a4, a5, by omega⟩
  · rcases hi with ⟨b1, b2⟩ | ⟨b1, b2, b3⟩
    · rw [b2] at ha hb
      rw [x11 a ha, x11 b hb] at e1
      rw [x12 a ha, x12 b hb] at e2
      exact hK.2.1 a b ha hb e1 e2
    · by_cases qa : a < ng <;> by_cases qb : b < ng
      · rw [x11 a qa, x11 b qb] at e1
        rw [x12 a qa, x12 b qb] at e2
        exact hK.2.1 a b qa qb e1 e2
      · have hbi : b = i := by omega
        rw [hbi, x11i, x11 a qa] at e1
        rw [hbi, x12i, x12 a qa] at e2
        exact absurd ⟨e1, e2⟩ (b3 a qa)
      · have hai : a = i := by omega
        rw [hai, x11i, x11 b qb] at e1
        rw [hai, x12i, x12 b qb] at e2
        exact absurd ⟨e1.symm, e2.symm⟩ (b3 b qb)
      · omega
  · rw [hcn k (by omega)]
    by_cases q : k = np
    · subst q
      rw [gn, hK.2.2.1.2]
      rcases Nat.lt_or_ge i ng with c | c
      · obtain ⟨k2, d1, -, -, d4⟩ := hnew.1 c
        omega
      · rcases hi with ⟨b1, b2⟩ | ⟨b1, b2, b3⟩ <;> omega
    · have hk2 : k < np := by omega
      rw [hhm k hk2] at hh
      rw [gj k hk2]
      exact hK.2.2.1.1 k hk2 hh
  · simp only [cnt]
    rw [hcn np (Nat.le_refl _), hK.2.2.1.2]
    rcases Nat.lt_or_ge i ng with c | c
    · obtain ⟨k2, d1, -, -, d4⟩ := hnew.1 c
      rw [if_neg (by omega)]
      rcases hi with ⟨b1, b2⟩ | ⟨b1, b2, b3⟩ <;> omega
    · rw [if_pos (hnew.2 (by omega))]
      rcases hi with ⟨b1, b2⟩ | ⟨b1, b2, b3⟩ <;> omega
  · by_cases q : k = np
    · subst q; rw [m2n, m3n]; exact ⟨hte, hpr⟩
    · rw [m2j k (by omega), m3j k (by omega)]; exact hok.2.2 k (by omega)
  · by_cases q : j = np
    · subst q; rw [m4n]; exact hsu
    · rw [m4j j (by omega)]; exact hK.2.2.2.2 j (by omega)
  · by_cases q : j = np
    · subst q
      rw [gn]
      have hp1 := hpm j
      rw [m1n, m2n, if_pos ⟨rfl, rfl⟩] at hp1
      rw [hp1]
      rcases Nat.lt_or_ge i ng with c | c
      · obtain ⟨k2, d1, d2, d3, d4⟩ := hnew.1 c
        obtain ⟨f1, f2, f3, f4⟩ := hF.1 k2 d1
        obtain ⟨u1, u2', u3⟩ := hfund k2 d1
        rw [if_pos d3, d3] at u1
        rw [if_pos d3] at u3
        rw [d3] at u2' u3 f2 f3
        have hkk := (hkey k2 d1).mp d3
        have hpp : mPr MI j k2 = mP (MI 1) (MI 2) (MI 5) (MI 3) (MI 0 0) te j := by unfold mPr; rw [hkk.1, hkk.2]
        rw [d4, ← hpp, u1, u2', ← f2, d2]
        refine ⟨rfl, rfl, by rw [f2.symm, d2] at f3; exact f3, ?_⟩
        rw [← f2, d2] at u3; exact u3
      · have hz : mP (MI 1) (MI 2) (MI 5) (MI 3) (MI 0 0) te j = 0 := mP_none j (fun k hk q => by
          have e := (hkey k hk).mpr q
          have := (hK.1 k hk).2.2.2.2.2
          omega)
        rw [hz, hnew.2 (by omega), j7i, if_neg (by omega), j8i (by rcases hi with ⟨b1, b2⟩ | ⟨b1, b2, b3⟩ <;> omega), hF.2.1 j (Or.inl (Nat.le_refl _))]
        refine ⟨rfl, rfl, by decide, ?_⟩
        have e0 : (0 + Int32.toInt64 pr).toInt = pr.toInt := by rw [Int64.zero_add, to64]
        rw [e0]
        exact Int.mul_nonneg hRy.1 (by omega)
    · have hj2 : j < np := by omega
      obtain ⟨f1, f2, f3, f4⟩ := hF.1 j hj2
      obtain ⟨u1, u2', u3⟩ := hfund j hj2
      rw [gj j hj2, hhm j hj2, hpj j hj2, u1, u2']
      exact ⟨rfl, f2, f3, u3⟩
  · rcases Nat.lt_or_ge k np with c | c
    · rw [hhm k c] at hk
      exact hF.2.1 k (Or.inr (by rcases hk with q | q; omega; exact q))
    · exact hF.2.1 k (Or.inl c)
  · rw [j4]; exact hF.2.2.1
  · rw [j4]; exact hF.2.2.2
  · by_cases q : j = np
    · subst q
      obtain ⟨z1, z2, z3⟩ := hfr j (Nat.le_refl _)
      rw [j9, j10, j11, if_pos rfl, if_pos rfl, if_pos rfl, m4n, m5, m6, z1, z2, z3, if_pos rfl]
      have hz : (0 : Int32).toInt = 0 := by decide
      have hz6 : (0 : Int64).toInt = 0 := by decide
      refine ⟨⟨rfl, by decide, by rw [hz6]; omega⟩, ⟨by decide, by decide, by rw [hz]; omega⟩, rfl⟩
    · rw [j9, j10, j11, if_neg q, if_neg q, if_neg q, m4j j (by omega), m5, m6, m7]
      exact hP j (by omega)
  · unfold sC
    rw [m0 0 (by omega), m0 1 (by omega), m0 2 (by omega), m0 3 (by omega), m0 4 (by omega), m0 5 (by omega), x10 2 (by omega), x10 3 (by omega), x10 4 (by omega), x10 5 (by omega), x10 6 (by omega), x10 7 (by omega)]
    exact hC
  · rw [m0 0 (by omega)]; exact hT.1
  · rw [m0 0 (by omega)]
    by_cases q : j = np
    · subst q
      rw [m1n, m2n]
      have := hT.1
      exact ⟨this.1, Int.le_refl _, fun _ => by omega⟩
    · rw [m1j j (by omega), m2j j (by omega), m5]
      exact hT.2 j (by omega)
  · rw [m8, j5]; exact hr t ht
  · rw [m5, m6]
    exact hfr m (by omega)
end ZSI
