/-- the invariant hangs on nothing behind the messages -/
theorem J_low {s t : Nat → Int32} (a : g_J s) (o : ∀ n, n < 112 → n ≠ 3 → n ≠ 6 → n ≠ 7 → t n = s n) (t3 : 0 ≤ (t 3).toInt ∧ (t 3).toInt ≤ 100000) (t6 : 0 ≤ (t 6).toInt ∧ (t 6).toInt ≤ 10) (tm : ∀ i : Nat, (i : Int) < (t 6).toInt → 1 ≤ (t (114 + 3 * i)).toInt ∧ (t (114 + 3 * i)).toInt ≤ 7) : g_J t := by
  obtain ⟨h1, h2, h3, h4, h5⟩ := a
  have q2 : (s 2).toInt ≤ 6 := h1.2.2.1.2
  have e : ∀ n, n < 112 → n ≠ 3 → n ≠ 6 → n ≠ 7 → t n = s n := fun n a b c d => o n (by omega) b c d
  refine ⟨?_, fun p hp => ?_, fun k hk => ?_, fun k k' hk hk' a b c => ?_, tm⟩
  · rw [e 0, e 1, e 2, e 4, e 5, e 9, e 10, e 12]
    · exact ⟨h1.1, h1.2.1, h1.2.2.1, t3, h1.2.2.2.2.1, h1.2.2.2.2.2.1, t6, h1.2.2.2.2.2.2.2⟩
    all_goals decide
  · rw [e (13 + p) (by omega) (by omega) (by omega) (by omega), e (20 + p) (by omega) (by omega) (by omega) (by omega), e (27 + p) (by omega) (by omega) (by omega) (by omega), e 1 (by decide) (by decide) (by decide) (by decide)]
    exact h2 p hp
  · rw [e 2 (by decide) (by decide) (by decide) (by decide)] at hk
    have hk6 : k < 6 := by omega
    have := h3 k hk
    unfold g_Hp at this ⊢
    have f : ∀ j, j < 9 → t (58 + 9 * k + j) = s (58 + 9 * k + j) := fun j _ => e _ (by omega) (by omega) (by omega) (by omega)
    rw [e 0 (by decide) (by decide) (by decide) (by decide), e 1 (by decide) (by decide) (by decide) (by decide), f 1 (by decide), f 2 (by decide), f 3 (by decide), f 4 (by decide), f 5 (by decide), f 7 (by decide), f 8 (by decide)]
    exact this
  · rw [e 2 (by decide) (by decide) (by decide) (by decide)] at hk hk'
    have hk6 : k < 6 := by omega
    have hk6' : k' < 6 := by omega
    rw [e (58 + 9 * k + 2) (by omega) (by omega) (by omega) (by omega)] at a
    rw [e (58 + 9 * k' + 2) (by omega) (by omega) (by omega) (by omega)] at b
    rw [e (58 + 9 * k + 1) (by omega) (by omega) (by omega) (by omega), e (58 + 9 * k' + 1) (by omega) (by omega) (by omega) (by omega)] at c
    exact h4 k k' hk hk' a b c
theorem J_153 {s : Nat → Int32} {x1 : Int32} : ∀ (f d : Nat) (t : Nat → Int32), d ≤ 177 → 144 ≤ d → d < f + 144 → g_J t → g_J (R_X8_carries_153 s x1 f d t).2 := by
  intro f
  induction f with
  | zero => intro d t _ h1 h2; exact absurd h2 (by omega)
  | succ f ih =>
    intro d t h1 h2 h3 a
    have qd : (nI d).toInt = d := nI_toInt (by omega)
    have nd := j_nat (x := nI d) (by omega)
    have q : (145 : Int32).toInt = 145 := rfl
    have n12 := a.1.2.2.2.2.2.2.2.2
    rw [R_X8_carries_153]
    split
    · have e12 : (upd (upd (upd t 142 (t 3)) 143 ((upd t 142 (t 3)) 4)) 144 x1) 12 = t 12 := by rw [g_upd_ne (by decide), g_upd_ne (by decide), g_upd_ne (by decide)]
      rw [e12]
      have z0 : (0 : Int32).toInt = 0 := rfl
      have z1 : (1 : Int32).toInt = 1 := rfl
      split
      · exact J_245 a ⟨by decide, by omega⟩
      · next c =>
        have c' := j_nle c
        have z12 : (12 : Int32).toInt = 12 := rfl
        exact J_245 a ⟨by decide, by omega⟩
    · next c =>
      have c' := j_nlt c
      have q6 : (t 6).toInt ≤ 10 := a.1.2.2.2.2.2.2.1.2
      have q2 := a.1.2.2.1.2
      refine ih (d - 1) _ (by omega) (by omega) (by omega) (J_low a (fun n h _ _ _ => g_upd_ne (by omega)) ?_ ?_ (fun i hi => ?_))
      · rw [g_upd_ne (by omega)]; exact a.1.2.2.2.1
      · rw [g_upd_ne (by omega)]; exact a.1.2.2.2.2.2.2.1
      · rw [g_upd_ne (by omega)] at hi
        rw [g_upd_ne (by omega)]; exact a.2.2.2.2 i hi
