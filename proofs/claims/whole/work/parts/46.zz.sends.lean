theorem J_sends {s : Nat → Int32} {x1 : Int32} (a : g_J s) : g_J (R_X8_sends s x1).2 := by
  have n6 := a.1.2.2.2.2.2.2.1
  have n0 := a.1.1
  have n3 := a.1.2.2.2.1
  unfold R_X8_sends
  split
  · exact a
  next ch =>
  have z := isHelper_ne ch
  have q := (a.h z.1 z.2).1
  have k43 : (s (6)).toInt ≠ 10 ∨ s (58 + 9 * x1.toNatClampNeg + 1) = 0 → g_J (R_X8_sends_43 s x1).2 := by
    intro h
    unfold R_X8_sends_43 R_X8_sends_115
    split
    · refine J_hi (by omega) ?_
      refine J_msgs a (fun n _ _ _ _ h7 => g_upd_ne h7) ?_ ?_ (fun i hi => ?_)
      · rw [g_upd_ne (by omega)]; exact n3
      · rw [g_upd_ne (by omega)]; exact n6
      · rw [g_upd_ne (by omega)] at hi
        rw [g_upd_ne (by omega)]; exact a.2.2.2.2 i hi
    next c =>
    have c0 : (s (58 + 9 * x1.toNatClampNeg + 1)).toInt ≠ 0 := j_neR c rfl
    have h6 : (s 6).toInt < 10 := by
      rcases h with h | h
      · omega
      · exact absurd h c
    have n6' := j_nat n6.1
    have ix : ∀ (w : Int32) (v : Nat), w.toInt = v → v ≤ 2 → ((112 + 3 * s 6) + w).toNatClampNeg = 112 + 3 * (s 6).toNatClampNeg + v := fun w v hw hv => by
      have q1 : (3 * s 6).toInt = 3 * (s 6).toInt := j_mulE rfl rfl (by omega) (by omega)
      have q3 : (112 + 3 * s 6).toInt = 112 + 3 * (s 6).toInt := j_addE rfl q1 (by omega) (by omega)
      have q4 : ((112 + 3 * s 6) + w).toInt = 112 + 3 * (s 6).toInt + v := j_addE q3 hw (by omega) (by omega)
      have := j_nat (x := (112 + 3 * s 6) + w) (by omega)
      omega
    have i0 : (112 + 3 * s 6).toNatClampNeg = 112 + 3 * (s 6).toNatClampNeg := by
      have := ix 0 0 rfl (by decide)
      rwa [show (112 + 3 * s 6) + 0 = 112 + 3 * s 6 by simp] at this
    rw [ix 1 1 rfl (by decide), ix 2 2 rfl (by decide), i0]
    refine J_hi (by omega) ?_
    have es : (s 6 + 1).toInt = (s 6).toInt + 1 := j_addE rfl rfl (by omega) (by omega)
    generalize hv : upd s (112 + 3 * (s 6).toNatClampNeg) x1 3 = v
    generalize hT : upd (upd (upd s (112 + 3 * (s 6).toNatClampNeg) x1) (112 + 3 * (s 6).toNatClampNeg + 1) v) (112 + 3 * (s 6).toNatClampNeg + 2) (s (58 + 9 * x1.toNatClampNeg + 1)) = T
    have t6 : T 6 = s 6 := by rw [← hT, g_upd_ne (by omega), g_upd_ne (by omega), g_upd_ne (by omega)]
    rw [t6]
    refine J_msgs a (fun n h1 h2 _ h6 _ => ?_) ?_ ?_ (fun i hi => ?_)
    · rw [g_upd_ne h6, ← hT, g_upd_ne (by omega), g_upd_ne (by omega), g_upd_ne (by omega)]
    · rw [g_upd_ne (by omega), ← hT, g_upd_ne (by omega), g_upd_ne (by omega), g_upd_ne (by omega)]; exact n3
    · rw [g_upd_eq, es]; omega
    · rw [g_upd_eq, es] at hi
      rw [g_upd_ne (by omega), ← hT]
      by_cases e : i = (s 6).toNatClampNeg
      · rw [show 114 + 3 * i = 112 + 3 * (s 6).toNatClampNeg + 2 by omega, g_upd_eq]; omega
      · rw [g_upd_ne (by omega), g_upd_ne (by omega), g_upd_ne (by omega)]; exact a.2.2.2.2 i (by omega)
  split
  · exact a
  split
  · next c =>
    have c' := j_leR c (b := 0) rfl
    exact k43 (Or.inr (Int32.toInt_inj.mp (by have : (0 : Int32).toInt = 0 := rfl; omega)))
  split
  · exact a
  · next c => exact k43 (Or.inl (j_neR c rfl))
