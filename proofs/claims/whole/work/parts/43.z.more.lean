/-! ===== what laying, giving leave alone; places in the row ===== -/
theorem ix_p {x : Int32} {b : Nat} {w : Int32} (hw : w.toInt = b) (hb : b ≤ 100) (h0 : 0 ≤ x.toInt) (h1 : x.toInt ≤ 7) : (w + x).toNatClampNeg = b + x.toNatClampNeg ∧ x.toNatClampNeg ≤ 7 := by
  have q : (w + x).toInt = b + x.toInt := j_addE hw rfl (by omega) (by omega)
  have := j_nat (x := w + x) (by omega)
  have := j_nat h0
  omega
theorem fr_leaves_hi {s : Nat → Int32} {x a b : Int32} {n : Nat} (h : -1 ≤ (s (58 + 9 * x.toNatClampNeg + 5)).toInt) (h' : (s (58 + 9 * x.toNatClampNeg + 5)).toInt ≤ 7) (hx : x.toNatClampNeg < 6) (hn : 178 ≤ n) : R_X8_leaves s x a b n = s n := by
  have rr : ∀ j : Int32, ∀ v : Int, j.toInt = v → 1 ≤ v → v ≤ 2 → ((34 + 3 * s (58 + 9 * x.toNatClampNeg + 5)) + j).toNatClampNeg < 58 := by
    intro j v hj v0 v2
    have q1 : (3 * s (58 + 9 * x.toNatClampNeg + 5)).toInt = 3 * (s (58 + 9 * x.toNatClampNeg + 5)).toInt := j_mulE rfl rfl (by omega) (by omega)
    have q3 : (34 + 3 * s (58 + 9 * x.toNatClampNeg + 5)).toInt = 34 + 3 * (s (58 + 9 * x.toNatClampNeg + 5)).toInt := j_addE rfl q1 (by omega) (by omega)
    have q4 : ((34 + 3 * s (58 + 9 * x.toNatClampNeg + 5)) + j).toInt = 34 + 3 * (s (58 + 9 * x.toNatClampNeg + 5)).toInt + v := j_addE q3 hj (by omega) (by omega)
    have := j_nat (x := (34 + 3 * s (58 + 9 * x.toNatClampNeg + 5)) + j) (by omega)
    omega
  have r1 := rr 1 1 rfl (by decide) (by decide)
  have r2 := rr 2 2 rfl (by decide) (by decide)
  unfold R_X8_leaves
  rw [g_upd_ne (by omega), g_upd_ne (by omega), g_upd_ne (by omega)]
theorem fr_gives_hi {s : Nat → Int32} {x y : Int32} {n : Nat} (h : 0 ≤ x.toInt) (h' : x.toInt ≤ 7) (hy : y.toNatClampNeg < 6) (hn : 178 ≤ n) : R_X8_gives s x y n = s n := by
  have := j_nat h
  unfold R_X8_gives
  rw [ix_rope (w := 1) h (by omega) (by decide) (by decide), ix_rope (w := 2) h (by omega) (by decide) (by decide)]
  rw [g_upd_ne (by omega), g_upd_ne (by omega), g_upd_ne (by omega)]
theorem J_rig {s : Nat → Int32} {x : Int32} (a : g_J s) (h0 : 0 ≤ x.toInt) (h1 : x.toInt < 7) : -1 ≤ (s ((27 + x).toNatClampNeg)).toInt ∧ (s ((27 + x).toNatClampNeg)).toInt ≤ 7 := by
  rw [(ix_p (b := 27) rfl (by decide) h0 (by omega)).1]
  have := j_nat h0
  have := (a.2.1 x.toNatClampNeg (by omega)).2.2
  have := a.1.2.1
  omega
