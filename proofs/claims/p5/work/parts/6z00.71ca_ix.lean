theorem ezp_ix_48 (l : List Int) : -1 ≤ ezp_ix l ∧ ezp_ix l < 48 := by
  rcases ezp_ix_r l with ⟨h, _⟩ | ⟨h1, h2, _⟩ <;> omega
