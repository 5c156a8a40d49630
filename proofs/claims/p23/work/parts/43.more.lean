/-! what the law's loop wants besides -/
section ZLC
variable {D : va_G} {ks : Nat → ClassId} {ad : Nat → Nat} {np ng : Nat} {G : Nat → Nat} {MI : Nat → Nat → Int32} {MJ : Nat → Nat → Int64} {XI : Nat → Nat → Int32} {XJ : Nat → Nat → Int64} {Rs : List Nat}
theorem sim.out {y : Nat} (h : sim np ng G MI MJ XI XJ y) (v : Int64) : sim np ng G MI (u2 MJ 3 0 v) XI XJ y :=
  ⟨h.1, h.2.1, h.2.2.1.cast rfl rfl rfl rfl rfl rfl rfl rfl rfl, h.2.2.2.1.cast rfl rfl rfl rfl rfl rfl rfl rfl, h.2.2.2.2.1, h.2.2.2.2.2.1, h.2.2.2.2.2.2.1, h.2.2.2.2.2.2.2⟩
theorem lvJ_3 {z : Int64} {h : Nat} {sh : Int64} {pay : Int32} : lvJ z MJ h sh pay 3 = MJ 3 := by
  unfold lvJ
  split <;> simp [u2]
theorem mGrow_3 {rt : Int32} : ∀ (k : Nat) (J : Nat → Nat → Int64), mGrow MI rt np k J 3 = J 3 := by
  intro k
  induction k with
  | zero => intro J; rfl
  | succ k ih =>
    intro J
    simp only [mGrow]
    unfold mGrow1
    split
    · rw [u2_k (by decide), u2_k (by decide), u2_k (by decide), u2_k (by decide)]; exact ih J
    · exact ih J
theorem mMtS_3 : ∀ (k : Nat) (S : mST), (mMtS np k S).2 3 = S.2 3 := by
  intro k
  induction k with
  | zero => intro S; rfl
  | succ k ih =>
    intro S
    simp only [mMtS]
    split
    · show lvJ _ _ _ _ _ 3 = _
      rw [lvJ_3]; exact ih S
    · exact ih S
theorem mRunJ_3 {rt : Int32} : mRunJ MI MJ rt np 3 = MJ 3 := by
  unfold mRunJ
  rw [mMtS_3]
  unfold mS0
  show mGrJ rt np (u2 MI 0 7 0) _ 3 = _
  rw [mGrJ_a (by decide), u2_k (by decide), u2_k (by decide), mGrow_3]
theorem mRunI_7 {rt : Int32} : mRunI MI MJ rt np 0 7 = 0 := by
  unfold mRunI
  rw [u2_n (by decide), mCpy_k (by decide), mMtS_k (by decide) (by decide) (by decide)]
  unfold mS0
  show mCpy 9 8 21 (mGrI np (u2 MI 0 7 0)) 0 7 = 0
  rw [mCpy_k (by decide), mGrI_k (by decide)]
  rfl
/-- who may leave -/
theorem leav_eq {y : Nat} (h : sim np ng G MI MJ XI XJ y) {j : Nat} (hj : j < np) : (MI 5 j = 0 ∧ MI 1 j < MI 0 0) ↔ (XI 15 j = 0 ∧ 1 ≤ XI 10 2 - XI 11 (G j)) := by
  obtain ⟨a1, a2, a3, a4, a5, a6⟩ := h.2.1.1 j hj
  obtain ⟨t1, t2, t3⟩ := h.2.2.2.2.2.1.2 j hj
  obtain ⟨ag, -⟩ := age1 h.2.2.2.2.2.1.1 ⟨t1, t2⟩
  rw [← a5, ← a1, ← h.2.2.2.2.1.1.1]
  have hone : (1 : Int32).toInt = 1 := by decide
  rw [Int32.lt_iff_toInt_lt, Int32.le_iff_toInt_le, ag, hone]
  constructor
  · rintro ⟨p1, p2⟩; exact ⟨p1, by omega⟩
  · rintro ⟨p1, p2⟩; exact ⟨p1, by omega⟩
/-- what the two start with -/
def MI0 : Nat → Nat → Int32 := fun a b => if a = 0 then (if b = 1 then 20 else if b = 2 then 5 else if b = 3 then 1000 else if b = 4 then 100 else if b = 5 then 500 else 0) else 0
def XI0 : Nat → Nat → Int32 := fun a b => if a = 10 then (if b = 3 then 20 else if b = 4 then 5 else if b = 5 then 1000 else if b = 6 then 100 else if b = 7 then 500 else 0) else 0
def XJ0 : Nat → Nat → Int64 := fun a => if a = 5 then cF 21 else fun _ => 0
theorem sim_start : sim 0 0 (fun _ => 0) MI0 (fun _ _ => 0) XI0 XJ0 0 := by
  have z : ∀ {P : Nat → Prop}, ∀ j, j < 0 → P j := fun j h => absurd h (Nat.not_lt_zero _)
  refine ⟨⟨by decide, by decide⟩, ⟨z, fun i k h => absurd h (Nat.not_lt_zero _), ⟨z, rfl⟩, ⟨rfl, by decide, z⟩, z⟩, ⟨z, fun k _ => rfl, rfl, rfl⟩, z, ⟨⟨rfl, rfl, rfl, rfl, rfl, rfl⟩, by decide, by decide, by decide, by decide, by decide⟩, ⟨by decide, z⟩, fun t ht => ?_, ⟨rfl, rfl⟩, fun m _ => ⟨rfl, rfl, rfl⟩⟩
  refine ⟨?_, by show 0 ≤ (0 : Int32).toInt; decide, by show (0 : Int32).toInt ≤ _; decide⟩
  show cF 21 t = Int32.toInt64 0 - 1
  unfold cF
  rw [if_pos ht]
  decide
theorem pd_eq {y : Nat} (h : sim np ng G MI MJ XI XJ y) {j : Nat} (hj : j < np) : Int64.toInt32 (XJ 11 j) = (if MI 5 j = 0 then -1 else MI 7 j) := by
  have := (h.2.2.2.1 j hj).2.2
  by_cases h5 : MI 5 j = 0
  · rw [if_pos h5] at this ⊢
    rw [this]; decide
  · rw [if_neg h5] at this ⊢
    exact this.symm
end ZLC
