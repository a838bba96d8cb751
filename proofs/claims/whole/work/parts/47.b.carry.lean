/-- the log's writes keep the invariant -/
theorem J_245 {s t : Nat → Int32} {x1 v : Int32} (a : g_J t) (hv : 0 ≤ v.toInt ∧ (t 12).toInt + v.toInt ≤ 12) : g_J (R_X8_carries_245 s x1 t v).2 := by
  have n12 := a.1.2.2.2.2.2.2.2.2
  unfold R_X8_carries_245
  refine J_hi (by omega) ?_
  have e12 : (upd (upd (upd t 142 (t 3)) 143 ((upd t 142 (t 3)) 4)) 144 x1) 12 = t 12 := by rw [g_upd_ne (by decide), g_upd_ne (by decide), g_upd_ne (by decide)]
  rw [e12]
  generalize hL : upd (upd (upd t 142 (t 3)) 143 ((upd t 142 (t 3)) 4)) 144 x1 = L
  have l : ∀ n, n < 142 → L n = t n := fun n h => by rw [← hL, g_upd_ne (by omega), g_upd_ne (by omega), g_upd_ne (by omega)]
  have ea : (t 12 + v).toInt = (t 12).toInt + v.toInt := j_addE rfl rfl (by omega) (by omega)
  generalize hw : upd L 12 (t 12 + v) 8 + 1 = w
  generalize hT : upd (upd (upd L 12 (t 12 + v)) 8 w) 5 1 = T
  have e : ∀ n, n < 142 → n ≠ 5 → n ≠ 8 → n ≠ 12 → T n = t n := fun n h a b c => by rw [← hT, g_upd_ne a, g_upd_ne b, g_upd_ne c, l n h]
  have t5 : T 5 = 1 := by rw [← hT, g_upd_eq]
  have t12 : T 12 = t 12 + v := by rw [← hT, g_upd_ne (by decide), g_upd_ne (by decide), g_upd_eq]
  obtain ⟨h1, h2, h3, h4, h5⟩ := a
  have q2 : (t 2).toInt ≤ 6 := h1.2.2.1.2
  have q6 : (t 6).toInt ≤ 10 := h1.2.2.2.2.2.2.1.2
  have f : ∀ k j : Nat, k < 6 → j < 9 → T (58 + 9 * k + j) = t (58 + 9 * k + j) := fun k j a b => e _ (by omega) (by omega) (by omega) (by omega)
  refine ⟨?_, fun p hp => ?_, fun k hk => ?_, fun k k' hk hk' x y z => ?_, fun i hi => ?_⟩
  · rw [e 0, e 1, e 2, e 3, e 4, e 6, e 9, e 10, t5, t12, ea]
    · exact ⟨h1.1, h1.2.1, h1.2.2.1, h1.2.2.2.1, h1.2.2.2.2.1, Or.inr rfl, h1.2.2.2.2.2.2.1, h1.2.2.2.2.2.2.2.1, by omega, hv.2⟩
    all_goals decide
  · rw [e (13 + p) (by omega) (by omega) (by omega) (by omega), e (20 + p) (by omega) (by omega) (by omega) (by omega), e (27 + p) (by omega) (by omega) (by omega) (by omega), e 1 (by decide) (by decide) (by decide) (by decide)]
    exact h2 p hp
  · rw [e 2 (by decide) (by decide) (by decide) (by decide)] at hk
    have hk6 : k < 6 := by omega
    have := h3 k hk
    unfold g_Hp at this ⊢
    rw [e 0 (by decide) (by decide) (by decide) (by decide), e 1 (by decide) (by decide) (by decide) (by decide), f k 1 hk6 (by decide), f k 2 hk6 (by decide), f k 3 hk6 (by decide), f k 4 hk6 (by decide), f k 5 hk6 (by decide), f k 7 hk6 (by decide), f k 8 hk6 (by decide)]
    exact this
  · rw [e 2 (by decide) (by decide) (by decide) (by decide)] at hk hk'
    rw [f k 2 (by omega) (by decide)] at x
    rw [f k' 2 (by omega) (by decide)] at y
    rw [f k 1 (by omega) (by decide), f k' 1 (by omega) (by decide)] at z
    exact h4 k k' hk hk' x y z
  · rw [e 6 (by decide) (by decide) (by decide) (by decide)] at hi
    rw [e (114 + 3 * i) (by omega) (by omega) (by omega) (by omega)]
    exact h5 i hi
