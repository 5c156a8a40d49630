/-! the law's state, and what it gives -/
section ZQ4
variable {np ng : Nat} {G : Nat → Nat} {MI : Nat → Nat → Int32} {MJ : Nat → Nat → Int64} {XI : Nat → Nat → Int32} {XJ : Nat → Nat → Int64}
def sI (np ng : Nat) (G : Nat → Nat) (XI : Nat → Nat → Int32) (XJ : Nat → Nat → Int64) (y : Nat) : Prop := ∃ (MI : Nat → Nat → Int32) (MJ : Nat → Nat → Int64), sim np ng G MI MJ XI XJ y ∧ ext np ng G XI XJ y
/-- a share, as it is told -/
abbrev shT (XI : Nat → Nat → Int32) (XJ : Nat → Nat → Int64) (G : Nat → Nat) (k : Nat) : Int32 := Int64.toInt32 (fAsset (XI 15 k) (XJ 8 (G k)) (XI 13 k) (XJ 7 (G k)))
theorem neg1_32 {x : Int64} (h0 : 0 ≤ x.toInt) (h1 : x.toInt < 2 ^ 31) : ¬ Int64.toInt32 x = -1 := fun q => by
  have := congrArg Int32.toInt q
  rw [to32 (by omega) h1] at this
  have e : (-1 : Int32).toInt = -1 := by decide
  omega
theorem hold_f {y : Nat} (hs : sI np ng G XI XJ y) : (XI 10 0 = nI np ∧ np ≤ 30 ∧ xOK XI G np ng ∧ XJ 4 1 = xSh XJ ng 30 ∧ ¬ Int64.toInt32 (xSf XI XJ G np 30) < 0 ∧ ¬ (xSh XJ ng 30 - XJ 4 0 < Int32.toInt64 (shN XI XJ G np))) ∧
    ∀ k, k < np → (¬ XI 15 k < 0 ∧ ¬ 2 < XI 15 k) ∧ ¬ shT XI XJ G k < 0 ∧ (¬ XI 15 k = 0 → shT XI XJ G k = 0) ∧ (XI 15 k = 0 → Int64.toInt32 (XJ 11 k) = -1) ∧ (¬ XI 15 k = 0 → ¬ Int64.toInt32 (XJ 11 k) = -1) ∧ ¬ Int64.toInt32 (XJ 10 k) < 0 := by
  obtain ⟨MI, MJ, h, e1, e2, e3, e4⟩ := hs
  have hK := h.2.1
  have hRy := (RBb y (by have := h.1.1; omega)).1
  have hF := h.2.2.1
  have hz : (0 : Int32).toInt = 0 := by decide
  have h2z : (2 : Int32).toInt = 2 := by decide
  have hng : ng ≤ 30 := Nat.le_trans hK.gle h.np30
  refine ⟨⟨h.2.2.2.2.2.2.2.1.1, h.np30, hK.xOK, ?_, h_short h e4, h_shares hK hF hRy⟩, fun k hk => ⟨?_, ?_, ?_, ?_, ?_, ?_⟩⟩
  · rw [xSh_30 hng]; exact e1
  · rcases e3 k hk with q | ⟨q | q, -⟩ <;> rw [q] <;> decide
  · obtain ⟨c1, c2, -⟩ := share_32 hK hF hRy hk
    rw [Int32.lt_iff_toInt_lt, c1, hz]
    omega
  · intro q
    unfold shT fAsset
    rw [if_neg q]
    rfl
  · intro q
    have := (h.2.2.2.1 k hk).2.2
    rw [if_pos ((hK.1 k hk).2.2.2.2.1.trans q)] at this
    rw [this]
    decide
  · intro q
    rcases e3 k hk with q2 | ⟨-, q3, q4⟩
    · exact absurd q2 q
    · exact neg1_32 q3 q4
  · obtain ⟨-, ⟨q1, q2, q3⟩, -⟩ := h.2.2.2.1 k hk
    have hsm := hK.2.2.2.2 k hk
    have hB := (RBb y (by have := h.1.1; omega)).2
    have hx : (XJ 10 k).toInt = (MI 6 k).toInt := by rw [← q1, to64]
    rw [Int32.lt_iff_toInt_lt, to32 (by omega) (by omega), hz]
    omega
theorem gen_f {y : Nat} (hs : sI np ng G XI XJ y) : ng ≤ 30 ∧ sJ (fun y => sJ (fun t => Int32.toInt64 (genV XI XJ ng (nI y) (nI (t + 2)))) 19) 41 = xSh XJ ng 30 - XJ 4 0 := by
  obtain ⟨MI, MJ, h, -⟩ := hs
  have hRy := (RBb y (by have := h.1.1; omega)).1
  exact ⟨Nat.le_trans h.2.1.gle h.np30, h_gen h.2.1 h.2.2.1 hRy h.2.2.2.2.2.1⟩
end ZQ4
