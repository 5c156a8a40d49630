/-! the reference: its calls but the year -/
section ZM2
variable {D : va_G} {ks : Nat → ClassId} {ad : Nat → Nat} {np ng : Nat} {G : Nat → Nat} {MI : Nat → Nat → Int32} {MJ : Nat → Nat → Int64} {XI : Nat → Nat → Int32} {XJ : Nat → Nat → Int64} {Rs : List Nat}
theorem isP_j {np j : Nat} {x : Int32} (hx : x = nI np) (hj : j < np) (hN : np ≤ 30) : fIn (nI j) 0 (x - 1) = 1 := by
  subst hx
  obtain ⟨k, rfl⟩ : ∃ k, np = k + 1 := ⟨np - 1, by omega⟩
  rw [nI_pred]
  exact if_pos ⟨nI_pos' (by omega), nI_le (by omega) (by omega)⟩
end ZM2
