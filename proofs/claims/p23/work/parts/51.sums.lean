/-! sums -/
section ZQ1
variable {np ng : Nat} {G : Nat → Nat} {MI : Nat → Nat → Int32} {MJ : Nat → Nat → Int64} {XI : Nat → Nat → Int32} {XJ : Nat → Nat → Int64}
def sJ (f : Nat → Int64) : Nat → Int64
  | 0 => 0
  | k + 1 => sJ f k + f k
def iS (f : Nat → Int) : Nat → Int
  | 0 => 0
  | k + 1 => iS f k + f k
theorem sJ_congr {f g : Nat → Int64} : ∀ (n : Nat), (∀ k, k < n → g k = f k) → sJ g n = sJ f n := by
  intro n
  induction n with
  | zero => intro _; rfl
  | succ n ih => intro h; simp only [sJ]; rw [ih (fun k hk => h k (by omega)), h n (Nat.lt_succ_self n)]
theorem iS_congr {f g : Nat → Int} : ∀ (n : Nat), (∀ k, k < n → g k = f k) → iS g n = iS f n := by
  intro n
  induction n with
  | zero => intro _; rfl
  | succ n ih => intro h; simp only [iS]; rw [ih (fun k hk => h k (by omega)), h n (Nat.lt_succ_self n)]
theorem sJ_upd {f g : Nat → Int64} {i : Nat} {b : Int64} (h : ∀ k, k ≠ i → g k = f k) (hi : g i = f i + b) : ∀ (n : Nat), sJ g n = sJ f n + (if i < n then b else 0) := by
  intro n
  induction n with
  | zero => simp [sJ]
  | succ n ih =>
    simp only [sJ]
    rw [ih]
    by_cases e : n = i
    · subst e
      rw [if_neg (Nat.lt_irrefl _), if_pos (Nat.lt_succ_self n), hi]
      grind
    · rw [h n e]
      by_cases c : i < n
      · rw [if_pos c, if_pos (by omega)]; grind
      · rw [if_neg c, if_neg (by omega)]; grind
theorem sJ_add {f g : Nat → Int64} : ∀ (n : Nat), sJ (fun k => f k + g k) n = sJ f n + sJ g n := by
  intro n
  induction n with
  | zero => rfl
  | succ n ih => simp only [sJ]; rw [ih]; grind
theorem sJ_zero : ∀ (n : Nat), sJ (fun _ => 0) n = 0 := by
  intro n
  induction n with
  | zero => rfl
  | succ n ih => simp only [sJ]; rw [ih]; rfl
theorem sJ_one {x : Int64} {i : Nat} : ∀ (n : Nat), sJ (fun k => if k = i then x else 0) n = if i < n then x else 0 := by
  intro n
  induction n with
  | zero => rfl
  | succ n ih =>
    simp only [sJ]
    rw [ih]
    by_cases e : n = i
    · subst e
      rw [if_neg (Nat.lt_irrefl _), if_pos rfl, if_pos (Nat.lt_succ_self n)]; grind
    · rw [if_neg e]
      by_cases c : i < n
      · rw [if_pos c, if_pos (by omega)]; grind
      · rw [if_neg c, if_neg (by omega)]; grind
theorem iS_add {f g : Nat → Int} : ∀ (n : Nat), iS (fun k => f k + g k) n = iS f n + iS g n := by
  intro n
  induction n with
  | zero => rfl
  | succ n ih => simp only [iS]; rw [ih]; omega
theorem iS_zero : ∀ (n : Nat), iS (fun _ => 0) n = 0 := by
  intro n
  induction n with
  | zero => rfl
  | succ n ih => simp only [iS]; rw [ih]; rfl
theorem iS_one {x : Int} {i : Nat} : ∀ (n : Nat), iS (fun k => if i = k then x else 0) n = if i < n then x else 0 := by
  intro n
  induction n with
  | zero => rfl
  | succ n ih =>
    simp only [iS]
    rw [ih]
    by_cases e : i = n
    · subst e
      rw [if_neg (Nat.lt_irrefl _), if_pos rfl, if_pos (Nat.lt_succ_self i)]; omega
    · rw [if_neg e]
      by_cases c : i < n
      · rw [if_pos c, if_pos (by omega)]; omega
      · rw [if_neg c, if_neg (by omega)]; omega
theorem iS_le {f g : Nat → Int} : ∀ (n : Nat), (∀ k, k < n → f k ≤ g k) → iS f n ≤ iS g n := by
  intro n
  induction n with
  | zero => intro _; exact Int.le_refl _
  | succ n ih =>
    intro h
    have h1 := ih (fun k hk => h k (by omega))
    have h2 := h n (Nat.lt_succ_self n)
    simp only [iS]; omega
/-- by groups -/
theorem iS_swap {f : Nat → Int} {G : Nat → Nat} {ng : Nat} : ∀ (n : Nat), (∀ j, j < n → G j < ng) → iS f n = iS (fun i => iS (fun j => if G j = i then f j else 0) n) ng := by
  intro n
  induction n with
  | zero => intro _; simp only [iS]; exact (iS_zero ng).symm
  | succ n ih =>
    intro h
    simp only [iS]
    rw [iS_add, ← ih (fun j hj => h j (by omega)), iS_one, if_pos (h n (Nat.lt_succ_self n))]
theorem iS_b {f : Nat → Int} {B : Int} : ∀ (n : Nat), (∀ k, k < n → 0 ≤ f k ∧ f k ≤ B) → 0 ≤ iS f n ∧ iS f n ≤ n * B := by
  intro n
  induction n with
  | zero => intro _; simp [iS]
  | succ n ih =>
    intro h
    obtain ⟨h1, h2⟩ := ih (fun k hk => h k (by omega))
    obtain ⟨h3, h4⟩ := h n (Nat.lt_succ_self n)
    have e : ((n + 1 : Nat) : Int) * B = n * B + B := by rw [Int.natCast_succ, Int.add_mul, Int.one_mul]
    simp only [iS]; rw [e]; omega
theorem sJ_z {f : Nat → Int64} {B : Int} (hB : 0 ≤ B ∧ B ≤ 2 ^ 40) : ∀ (n : Nat), n ≤ 30 → (∀ k, k < n → 0 ≤ (f k).toInt ∧ (f k).toInt ≤ B) → (sJ f n).toInt = iS (fun k => (f k).toInt) n := by
  intro n
  induction n with
  | zero => intro _ _; rfl
  | succ n ih =>
    intro hn h
    have h1 := ih (by omega) (fun k hk => h k (by omega))
    obtain ⟨h2, h3⟩ := iS_b (f := fun k => (f k).toInt) (B := B) n (fun k hk => h k (by omega))
    obtain ⟨h4, h5⟩ := h n (Nat.lt_succ_self n)
    have e : (n : Int) * B ≤ 30 * 2 ^ 40 := (i_mulb (by omega) (by omega) hB.1 hB.2).2
    simp only [sJ, iS]
    rw [l_add (by rw [h1]; omega) (by rw [h1]; omega), h1]
theorem xSh_sJ : ∀ (n : Nat), n ≤ ng → xSh XJ ng n = XJ 4 0 + sJ (XJ 8) n := by
  intro n
  induction n with
  | zero => intro _; simp [xSh, sJ]
  | succ n ih =>
    intro h
    simp only [xSh, sJ]
    rw [if_pos (by omega), ih (by omega)]
    grind
theorem xSh_30 (h : ng ≤ 30) : xSh XJ ng 30 = XJ 4 0 + sJ (XJ 8) ng := by rw [xSh_ge 30 h, xSh_sJ ng (Nat.le_refl _)]
/-- what came in and went out is what there is -/
def bal (ng : Nat) (XJ : Nat → Nat → Int64) : Prop := XJ 4 1 = XJ 4 0 + sJ (XJ 8) ng
theorem bal.to {J : Nat → Nat → Int64} (h : bal ng XJ) (h4 : J 4 = XJ 4) (h8 : J 8 = XJ 8) : bal ng J := by unfold bal; rw [h4, h8]; exact h
theorem bal_GG {rt : Int32} : ∀ (n : Nat), bal ng XJ → bal ng (xGG XI ng rt n XJ) := by
  intro n
  induction n with
  | zero => intro h; exact h
  | succ n ih =>
    intro h
    have h1 := ih h
    show bal ng (xGG1 XI ng rt n (xGG XI ng rt n XJ))
    generalize xGG XI ng rt n XJ = J at h1
    unfold xGG1
    by_cases c : n < ng ∧ 0 < J 7 n
    · rw [if_pos c]
      generalize fThou (J 8 n + J 7 n) (Int32.toInt64 rt) = e
      generalize fChg (J 8 n + J 7 n + e) (Int32.toInt64 (XI 10 4)) = ch
      unfold bal at h1 ⊢
      rw [sJ_upd (f := J 8) (i := n) (b := J 7 n + e - ch) (fun k hk => by simp [u2, hk]) (by simp [u2]; grind) ng, if_pos c.1]
      simp [u2]
      rw [h1]
      grind
    · rw [if_neg c]; exact h1
theorem bal_clo {J : Nat → Nat → Int64} {XI : Nat → Nat → Int32} {j : Nat} {pay : Int64} (hG : G j < ng) (h : bal ng J) : bal ng (xCloJ XI G j pay J) := by
  unfold xCloJ
  generalize fRel (J 8 (G j)) (XI 13 j) (J 7 (G j)) = r
  unfold bal at h ⊢
  rw [sJ_upd (f := J 8) (i := G j) (b := -r) (fun k hk => by simp [u2, hk]) (by simp [u2]; grind) ng, if_pos hG]
  simp [u2]
  rw [h]
  grind
theorem bal_Mt (hG : ∀ j, j < np → G j < ng) : ∀ (n : Nat) (T : xST), bal ng T.2 → bal ng (xMtS np G n T).2 := by
  intro n
  induction n with
  | zero => intro T h; exact h
  | succ n ih =>
    intro T h
    simp only [xMtS]
    by_cases c : n < np ∧ (xMtS np G n T).1 15 n = 0 ∧ (xMtS np G n T).1 12 (G n) ≤ (xMtS np G n T).1 10 2 - (xMtS np G n T).1 11 (G n) + 1
    · rw [if_pos c]
      show bal ng (xMatJ _ _ _ _ _)
      unfold xMatJ
      refine bal_clo (hG n c.1) ?_
      exact (ih T h).to (u2_k (by decide)) (u2_k (by decide))
    · rw [if_neg c]; exact ih T h
theorem bal_run {rt : Int32} (hG : ∀ j, j < np → G j < ng) (h : bal ng XJ) : bal ng (xRunJ XI XJ G rt np ng) := by
  unfold xRunJ
  refine bal_Mt hG 30 _ ?_
  show bal ng (xCpy 21 (xJ3 XI XJ rt np ng))
  have h1 := bal_GG (XI := XI) (rt := rt) 30 h
  unfold xJ3
  generalize xGG XI ng rt 30 XJ = J at *
  generalize fThou (XJ 4 0) (Int32.toInt64 rt) = e
  refine bal.to (XJ := u2 (u2 J 4 0 (J 4 0 + e)) 4 1 (J 4 1 + e)) ?_ ?_ ?_
  · unfold bal at h1 ⊢
    simp [u2]
    rw [h1]
    grind
  · rw [xCpy_k (by decide), xGB_a (by decide), xPA_a (by decide)]
  · rw [xCpy_k (by decide), xGB_a (by decide), xPA_a (by decide)]
end ZQ1
