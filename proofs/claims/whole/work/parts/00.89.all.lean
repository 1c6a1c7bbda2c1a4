/-- the 48 steps under a relation of the two memories that holds at first -/
theorem x_all : ∃ Rel : Nat → g_M → g_M → Prop, x_Steps Rel ∧ Rel 0 x_M0 m_M0 := by
  sorry
