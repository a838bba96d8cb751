/-! ===== what the holding keeps, and what an order leaves alone above the row ===== -/
theorem hold_2_at {s : Nat → Int32} : ∀ (f k : Nat) (t : Nat → Int32), k ≤ 178 → 178 < f + k → ∀ n, R_X8_hold_2 s f k t n = if 200 + k ≤ n ∧ n < 378 then t (n - 200) else t n := by
  intro f
  induction f with
  | zero => intro k t h1 h2; exact absurd h2 (by omega)
  | succ f ih =>
    intro k t h1 h2 n
    have qk : (nI k).toInt = k := nI_toInt (by omega)
    have q178 : (178 : Int32).toInt = 178 := rfl
    rw [R_X8_hold_2]
    split
    · next c =>
      have c' := j_le c
      rw [if_neg (by omega)]
    · next c =>
      have c' := j_nle c
      have nk : (nI k).toNatClampNeg = k := by have := j_nat (x := nI k) (by omega); omega
      rw [ih (k + 1) _ (by omega) (by omega) n, nk]
      by_cases e : n = 200 + k
      · subst e
        rw [if_neg (by omega), if_pos (by omega), g_upd_eq, Nat.add_sub_cancel_left]
      · by_cases d : 200 + (k + 1) ≤ n ∧ n < 378
        · rw [if_pos d, if_pos (by omega), g_upd_ne (by omega)]
        · rw [if_neg d, if_neg (by omega), g_upd_ne e]
theorem hold_at {s : Nat → Int32} (n : Nat) : R_X8_hold s n = if 200 ≤ n ∧ n < 378 then s (n - 200) else s n :=
  hold_2_at 179 0 s (by omega) (by omega) n
theorem hold_ne {s : Nat → Int32} {n : Nat} (h : n < 200 ∨ 378 ≤ n) : R_X8_hold s n = s n := by rw [hold_at, if_neg (by omega)]
theorem J_hold {s : Nat → Int32} (h : g_J s) : g_J (R_X8_hold s) := h.congr fun n hn => hold_ne (by omega)
/-- above the row nothing but the answer -/
def g_Up (s t : Nat → Int32) : Prop := ∀ n, 178 ≤ n → n ≠ 1303 → t n = s n
theorem g_Up.refl {s : Nat → Int32} : g_Up s s := fun _ _ _ => rfl
theorem g_Up.upd {s t : Nat → Int32} {n : Nat} {x : Int32} (a : g_Up s t) (h : n < 178 ∨ n = 1303) : g_Up s (upd t n x) := fun k p q => by
  rw [g_upd_ne (by omega)]; exact a k p q
theorem g_Up.trans {s t u : Nat → Int32} (a : g_Up s t) (b : g_Up t u) : g_Up s u := fun n h p => (b n h p).trans (a n h p)
theorem isHelper_ne {s : Nat → Int32} {x : Int32} (h : ¬ R_X8_isHelper s x = 0) : 0 ≤ x.toInt ∧ x.toInt < (s 2).toInt := by
  unfold R_X8_isHelper at h
  split at h
  · exact absurd rfl h
  next c1 =>
  split at h
  · exact absurd rfl h
  next c2 => exact ⟨j_nlt c1, j_nle c2⟩
theorem U_walks {s t : Nat → Int32} {a b c d : Int32} (u : g_Up s t) (h : a.toNatClampNeg < 6) : g_Up s (R_X8_walks t a b c d) := by
  unfold R_X8_walks
  exact (((u.upd (by omega)).upd (by omega)).upd (by omega)).upd (by omega)
theorem U_goes {s : Nat → Int32} {x1 x2 : Int32} (a : g_J s) : g_Up s (R_X8_goes s x1 x2).2 := by
  unfold R_X8_goes
  split
  · exact g_Up.refl
  next c =>
  have z := isHelper_ne c
  have n := j_nat z.1
  have n2 := a.1.2.2.1.2
  split
  · refine g_Up.upd ?_ (by omega)
    unfold R_X8_sets R_X8_sets_26
    split
    · exact U_walks g_Up.refl (by omega)
    · exact U_walks g_Up.refl (by omega)
  · exact g_Up.refl
theorem U_rigsAt {s : Nat → Int32} {x1 : Int32} (a : g_J s) : g_Up s (R_X8_rigsAt s x1).2 := by
  unfold R_X8_rigsAt
  split
  · exact g_Up.refl
  next c =>
  have z := isHelper_ne c
  have n := j_nat z.1
  have n2 := a.1.2.2.1.2
  repeat' split
  all_goals first
    | exact ((g_Up.refl.upd (by omega)).upd (by omega)).upd (by omega)
    | exact g_Up.refl
theorem isRope_ne {s : Nat → Int32} {x : Int32} (h : ¬ R_X8_isRope s x = 0) : 0 ≤ x.toInt ∧ x.toInt < (s 1).toInt := by
  unfold R_X8_isRope at h
  split at h
  · exact absurd rfl h
  next c1 =>
  split at h
  · exact absurd rfl h
  next c2 => exact ⟨j_nlt c1, j_nle c2⟩
theorem ix_rope {x j : Int32} {w : Nat} (h0 : 0 ≤ x.toInt) (h1 : x.toInt < 8) (hj : j.toInt = w) (hw : w ≤ 2) : ((34 + 3 * x) + j).toNatClampNeg = 34 + 3 * x.toNatClampNeg + w := by
  have q1 : (3 * x).toInt = 3 * x.toInt := j_mulE rfl rfl (by omega) (by omega)
  have q3 : (34 + 3 * x).toInt = 34 + 3 * x.toInt := j_addE rfl q1 (by omega) (by omega)
  have q4 : ((34 + 3 * x) + j).toInt = 34 + 3 * x.toInt + w := j_addE q3 hj (by omega) (by omega)
  have := j_nat (x := (34 + 3 * x) + j) (by omega)
  have := j_nat h0
  omega
theorem U_takes {s : Nat → Int32} {x1 x2 : Int32} (a : g_J s) : g_Up s (R_X8_takes s x1 x2).2 := by
  unfold R_X8_takes
  split
  · exact g_Up.refl
  next c =>
  split
  · exact g_Up.refl
  next d =>
  have z := isHelper_ne c
  have n := j_nat z.1
  have n2 := a.1.2.2.1.2
  have z' := isRope_ne d
  have n1 := a.1.2.1.2
  have n' := j_nat z'.1
  repeat' split
  all_goals try exact g_Up.refl
  unfold R_X8_gives
  rw [ix_rope (w := 1) z'.1 (by omega) (by decide) (by decide), ix_rope (w := 2) z'.1 (by omega) (by decide) (by decide)]
  exact (((g_Up.refl.upd (by omega)).upd (by omega)).upd (by omega)).upd (by omega)
