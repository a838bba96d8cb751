/-! ===== the invariant through the orders ===== -/
theorem J_goes {s : Nat → Int32} {x1 x2 : Int32} (a : g_J s) : g_J (R_X8_goes s x1 x2).2 := by
  unfold R_X8_goes
  split
  · exact a
  next c =>
  have z := isHelper_ne c
  have n := j_nat z.1
  have n2 := a.1.2.2.1.2
  split
  · next d => exact J_hi (by omega) (J_sets a (by omega) (by omega) d).1
  · exact a
theorem J_takes {s : Nat → Int32} {x1 x2 : Int32} (a : g_J s) : g_J (R_X8_takes s x1 x2).2 := by
  unfold R_X8_takes
  split
  · exact a
  next c =>
  split
  · exact a
  next d =>
  have z := isHelper_ne c
  have n := j_nat z.1
  have n2 := a.1.2.2.1.2
  have z' := isRope_ne d
  have n1 := a.1.2.1.2
  have n' := j_nat z'.1
  have hx : x1.toNatClampNeg < 6 := by omega
  have hx' : (x1.toNatClampNeg : Int) < (s 2).toInt := by omega
  repeat' split
  all_goals try exact a
  refine J_hi (by omega) ?_
  unfold R_X8_gives
  rw [ix_rope (w := 1) z'.1 (by omega) (by decide) (by decide), ix_rope (w := 2) z'.1 (by omega) (by decide) (by decide)]
  have K := g_K.of a hx'
  have Q := K.2.2.2.1
  have Z := (a.2.2.1 _ hx').z
  generalize hT : upd (upd (upd s (34 + 3 * x2.toNatClampNeg + 1) 1) (34 + 3 * x2.toNatClampNeg + 2) x1) (58 + 9 * x1.toNatClampNeg + 5) x2 = T
  have lo : ∀ j, j < 34 → T j = s j := fun j h => by rw [← hT, g_upd_ne (by omega), g_upd_ne (by omega), g_upd_ne (by omega)]
  have bl : ∀ j, j < 9 → j ≠ 5 → T (58 + 9 * x1.toNatClampNeg + j) = s (58 + 9 * x1.toNatClampNeg + j) := fun j h h' => by rw [← hT, g_upd_ne (by omega), g_upd_ne (by omega), g_upd_ne (by omega)]
  have b5 : T (58 + 9 * x1.toNatClampNeg + 5) = x2 := by rw [← hT, g_upd_eq]
  have O : g_Out s T x1.toNatClampNeg := by rw [← hT]; exact ((g_Out.refl.upd (by omega)).upd (by omega)).upd (by omega)
  refine (K.step hx O ?_ ?_ (fun p hp => ?_) ?_ ?_).j ?_
  · rw [lo 4 (by decide)]; exact a.1.2.2.2.2.1
  · rw [lo 5 (by decide)]; exact a.1.2.2.2.2.2.1
  · rw [lo _ (by omega)]; exact (a.2.1 p hp).2.2
  · unfold g_Hq
    rw [bl 1 (by decide) (by decide), bl 2 (by decide) (by decide), bl 3 (by decide) (by decide), bl 4 (by decide) (by decide), bl 8 (by decide) (by decide), b5, lo 0 (by decide), lo 1 (by decide)]
    exact ⟨Q.1, Q.2.1, ⟨by omega, z'.2⟩, Q.2.2.2.1, Q.2.2.2.2.1, fun h => ⟨(Q.2.2.2.2.2 h).1, z'.1, (Q.2.2.2.2.2 h).2.2⟩⟩
  · rw [bl 2 (by decide) (by decide), bl 1 (by decide) (by decide)]
    exact fun h => ⟨h, rfl⟩
  · unfold g_H7 at Z ⊢
    rw [bl 2 (by decide) (by decide), bl 1 (by decide) (by decide), bl 7 (by decide) (by decide)]
    exact Z
