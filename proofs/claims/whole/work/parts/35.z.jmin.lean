theorem J_minute {s : Nat → Int32} (h : g_J s) (h1 : (s 3).toInt < 100000) : g_J (R_X8_minute s).2 := by
  sorry
theorem t_minute {s : Nat → Int32} (h : g_J s) (h1 : (s 3).toInt < 100000) : ((R_X8_minute s).2 3).toInt = (s 3).toInt + 1 := by
  sorry
