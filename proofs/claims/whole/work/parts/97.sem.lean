theorem sem : SEM := by
  sorry
