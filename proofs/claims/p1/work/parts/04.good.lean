theorem ezq_gd336 : ezq_Good ezq_re336 := sorry
theorem ezq_good : ∀ j, ezq_Good (ezq_sel j) := sorry
