/-! the reference: a year run, sums over all -/
section ZM4
variable {D : va_G} {ks : Nat → ClassId} {ad : Nat → Nat} {np ng : Nat} {G : Nat → Nat} {MI : Nat → Nat → Int32} {MJ : Nat → Nat → Int64} {XI : Nat → Nat → Int32} {XJ : Nat → Nat → Int64} {Rs : List Nat}
theorem mOK.tn {MI : Nat → Nat → Int32} {np j : Nat} (h : mOK MI np) (hj : j < np) : MI 2 j = nI (MI 2 j).toInt.toNat ∧ (MI 2 j).toInt.toNat < 21 := by
  obtain ⟨⟨h1, h2⟩, -⟩ := h.2.2 j hj
  refine ⟨?_, by omega⟩
  apply Int32.toInt_inj.mp
  rw [nI_toInt (by omega)]
  omega
def mCpy (a b : Nat) : Nat → (Nat → Nat → Int32) → Nat → Nat → Int32
  | 0, M => M
  | t + 1, M => u2 (mCpy a b t M) a t (mCpy a b t M b t)
theorem mCpy_k {a b c : Nat} (h : c ≠ a) : ∀ (n : Nat) (M : Nat → Nat → Int32), mCpy a b n M c = M c := by
  intro n
  induction n with
  | zero => intro M; rfl
  | succ n ih => intro M; simp only [mCpy]; rw [u2_k h]; exact ih M
abbrev mST : Type := (Nat → Nat → Int32) × (Nat → Nat → Int64)
def mDue (M : Nat → Nat → Int32) (k : Nat) : Prop := M 5 k = 0 ∧ M 0 0 - M 1 k + 1 = M 2 k
abbrev mTn (M : Nat → Nat → Int32) (k : Nat) : Nat := (M 2 k).toInt.toNat
def mMtS (np : Nat) : Nat → mST → mST
  | 0, S => S
  | k + 1, S => if (mMtS np k S).1 5 k = 0 ∧ (mMtS np k S).1 0 0 - (mMtS np k S).1 1 k + 1 = (mMtS np k S).1 2 k then
      (mMatI np k (mTn (mMtS np k S).1 k) (mMtS np k S).1 (mMtS np k S).2, mMatJ np k (mTn (mMtS np k S).1 k) (mMtS np k S).1 (mMtS np k S).2) else mMtS np k S
def mMtN (np : Nat) : Nat → mST → Nat
  | 0, _ => 0
  | k + 1, S => mMtN np k S + (if (mMtS np k S).1 5 k = 0 ∧ (mMtS np k S).1 0 0 - (mMtS np k S).1 1 k + 1 = (mMtS np k S).1 2 k then 1 else 0)
theorem mMtS_k {np a : Nat} (h5 : a ≠ 5) (h7 : a ≠ 7) (h9 : a ≠ 9) : ∀ (n : Nat) (S : mST), (mMtS np n S).1 a = S.1 a := by
  intro n
  induction n with
  | zero => intro S; rfl
  | succ n ih =>
    intro S
    simp only [mMtS]
    split
    · show mMatI _ _ _ _ _ a = _
      unfold mMatI
      rw [u2_k h7, u2_k h5, u2_k h9]
      exact ih S
    · exact ih S
def mS0 (MI : Nat → Nat → Int32) (MJ : Nat → Nat → Int64) (rt : Int32) (np : Nat) : mST :=
  (mCpy 9 8 21 (mGrI np (u2 MI 0 7 0)), mGrJ rt np (u2 MI 0 7 0) (u2 (u2 (mGrow (u2 MI 0 7 0) rt np np MJ) 0 0 (mGrow (u2 MI 0 7 0) rt np np MJ 0 0 + fPart (MJ 0 0) (Int32.toInt64 rt))) 0 1 (mGrow (u2 MI 0 7 0) rt np np MJ 0 1 + fPart (MJ 0 0) (Int32.toInt64 rt))))
def mRunI (MI : Nat → Nat → Int32) (MJ : Nat → Nat → Int64) (rt : Int32) (np : Nat) : Nat → Nat → Int32 := u2 (mCpy 8 9 21 (mMtS np np (mS0 MI MJ rt np)).1) 0 0 (mCpy 8 9 21 (mMtS np np (mS0 MI MJ rt np)).1 0 0 + 1)
def mRunJ (MI : Nat → Nat → Int32) (MJ : Nat → Nat → Int64) (rt : Int32) (np : Nat) : Nat → Nat → Int64 := (mMtS np np (mS0 MI MJ rt np)).2
def mSf1 (M : Nat → Nat → Int32) (J : Nat → Nat → Int64) (np k : Nat) : Int64 := if M 5 k = 0 then Int32.toInt64 (M 4 k + M 6 k) - mShare M J np k else 0
def mSf (M : Nat → Nat → Int32) (J : Nat → Nat → Int64) (np : Nat) : Nat → Int64
  | 0 => 0
  | k + 1 => mSf M J np k + (if 0 < mSf1 M J np k then mSf1 M J np k else 0)
def mSh (J : Nat → Nat → Int64) : Nat → Int64
  | 0 => J 0 0
  | k + 1 => mSh J k + J 2 k
end ZM4
