theorem rigger_nobody {s : Nat → Int32} {x : Int32} (h2 : (s 2).toInt ≤ 6) : ∀ (f : Nat) (v : Int32) (n : Nat), n ≤ 6 → 6 < f + n → R_X8_rigger_4 s x f v n = -1 → v = -1 ∧ ∀ k : Nat, n ≤ k → (k : Int) < (s 2).toInt → s (58 + 9 * k + 2) = 2 → s (58 + 9 * k + 1) ≠ x := by
  intro f
  induction f with
  | zero => intro v n h1 h2; exact absurd h2 (by omega)
  | succ f ih =>
    intro v n h1 h3 hr
    have qn : (nI n).toInt = n := nI_toInt (by omega)
    have nn : (nI n).toNatClampNeg = n := by have := j_nat (x := nI n) (by omega); omega
    rw [R_X8_rigger_4, nn] at hr
    unfold R_X8_rigger_38 R_X8_rigger_39 at hr
    split at hr
    · next c =>
      have c' := j_le c
      exact ⟨hr, fun k hk hk' => absurd hk' (by omega)⟩
    next c =>
    have c' := j_nle c
    have other : R_X8_rigger_4 s x f v (n + 1) = -1 → (s (58 + 9 * n + 2) = 2 → s (58 + 9 * n + 1) ≠ x) → v = -1 ∧ ∀ k : Nat, n ≤ k → (k : Int) < (s 2).toInt → s (58 + 9 * k + 2) = 2 → s (58 + 9 * k + 1) ≠ x := fun h g => by
      have := ih v (n + 1) (by omega) (by omega) h
      refine ⟨this.1, fun k hk hk' => ?_⟩
      by_cases e : k = n
      · subst e; exact g
      · exact this.2 k (by omega) hk'
    split at hr
    · split at hr
      · have := (ih (nI n) (n + 1) (by omega) (by omega) hr).1
        have : (nI n).toInt = -1 := by rw [this]; rfl
        omega
      · next d => exact other hr (fun _ => d)
    · next d => exact other hr (fun h => absurd h d)
theorem J_rigs {s : Nat → Int32} {h : Nat} {w : Int32} (a : g_J s) (hh : (h : Int) < (s 2).toInt) (h0 : s (58 + 9 * h + 2) = 0) (hr : 0 ≤ (s (58 + 9 * h + 5)).toInt) (hs : (s (58 + 9 * h + 1)).toInt < (s 0).toInt) (hw : 1 ≤ w.toInt) (nb : ∀ k : Nat, (k : Int) < (s 2).toInt → s (58 + 9 * k + 2) = 2 → s (58 + 9 * k + 1) ≠ s (58 + 9 * h + 1)) : g_J (upd (upd s (58 + 9 * h + 2) 2) (58 + 9 * h + 4) w) := by
  obtain ⟨h1, h2, h3, h4, h5⟩ := a
  have q2 : (s 2).toInt ≤ 6 := h1.2.2.1.2
  have q6 : (s 6).toInt ≤ 10 := h1.2.2.2.2.2.2.1.2
  generalize hT : upd (upd s (58 + 9 * h + 2) 2) (58 + 9 * h + 4) w = T
  have e : ∀ n, n ≠ 58 + 9 * h + 2 → n ≠ 58 + 9 * h + 4 → T n = s n := fun n a b => by rw [← hT, g_upd_ne b, g_upd_ne a]
  have t2 : T (58 + 9 * h + 2) = 2 := by rw [← hT, g_upd_ne (by omega), g_upd_eq]
  have t4 : T (58 + 9 * h + 4) = w := by rw [← hT, g_upd_eq]
  have lo : ∀ n, n < 58 → T n = s n := fun n hn => e n (by omega) (by omega)
  have ek : ∀ k j : Nat, k ≠ h → j < 9 → T (58 + 9 * k + j) = s (58 + 9 * k + j) := fun k j a b => e _ (by omega) (by omega)
  have eh : ∀ j : Nat, j < 9 → j ≠ 2 → j ≠ 4 → T (58 + 9 * h + j) = s (58 + 9 * h + j) := fun j a b c => e _ (by omega) (by omega)
  refine ⟨?_, fun p hp => ?_, fun k hk => ?_, fun k k' hk hk' x y z => ?_, fun i hi => ?_⟩
  · rw [lo 0, lo 1, lo 2, lo 3, lo 4, lo 5, lo 6, lo 9, lo 10, lo 12]
    · exact h1
    all_goals decide
  · rw [lo (13 + p) (by omega), lo (20 + p) (by omega), lo (27 + p) (by omega), lo 1 (by decide)]
    exact h2 p hp
  · rw [lo 2 (by decide)] at hk
    have := h3 k hk
    by_cases c : k = h
    · subst c
      unfold g_Hp at this ⊢
      rw [lo 0 (by decide), lo 1 (by decide), eh 1 (by decide) (by decide) (by decide), t2, eh 3 (by decide) (by decide) (by decide), t4, eh 5 (by decide) (by decide) (by decide), eh 7 (by decide) (by decide) (by decide), eh 8 (by decide) (by decide) (by decide)]
      exact ⟨this.1, Or.inr (Or.inr rfl), this.2.2.1, this.2.2.2.1, fun h => absurd h (by decide), fun _ => ⟨hs, hr, hw⟩, fun _ z => this.2.2.2.2.2.2 (by rw [h0]; decide) z⟩
    · unfold g_Hp at this ⊢
      rw [lo 0 (by decide), lo 1 (by decide), ek k 1 c (by decide), ek k 2 c (by decide), ek k 3 c (by decide), ek k 4 c (by decide), ek k 5 c (by decide), ek k 7 c (by decide), ek k 8 c (by decide)]
      exact this
  · rw [lo 2 (by decide)] at hk hk'
    by_cases c : k = h <;> by_cases c' : k' = h
    · rw [c, c']
    · subst c
      rw [ek k' 2 c' (by decide)] at y
      rw [ek k' 1 c' (by decide), eh 1 (by decide) (by decide) (by decide)] at z
      exact absurd z.symm (nb k' hk' y)
    · subst c'
      rw [ek k 2 c (by decide)] at x
      rw [ek k 1 c (by decide), eh 1 (by decide) (by decide) (by decide)] at z
      exact absurd z (nb k hk x)
    · rw [ek k 2 c (by decide)] at x
      rw [ek k' 2 c' (by decide)] at y
      rw [ek k 1 c (by decide), ek k' 1 c' (by decide)] at z
      exact h4 k k' hk hk' x y z
  · rw [lo 6 (by decide)] at hi
    have : (h : Int) < 6 := by omega
    rw [e (114 + 3 * i) (by omega) (by omega)]
    exact h5 i hi
theorem isPassage_ne {s : Nat → Int32} {x : Int32} (h : ¬ R_X8_isPassage s x = 0) : 0 ≤ x.toInt ∧ x.toInt < (s 0).toInt := by
  unfold R_X8_isPassage at h
  split at h
  · exact absurd rfl h
  next c1 =>
  split at h
  · exact absurd rfl h
  next c2 => exact ⟨j_nlt c1, j_nle c2⟩
theorem J_rigsAt {s : Nat → Int32} {x1 : Int32} (a : g_J s) : g_J (R_X8_rigsAt s x1).2 := by
  unfold R_X8_rigsAt
  split
  · exact a
  next c =>
  have z := isHelper_ne c
  have n := j_nat z.1
  have n2 := a.1.2.2.1.2
  have hx' : (x1.toNatClampNeg : Int) < (s 2).toInt := by omega
  have Q := (a.2.2.1 _ hx').q
  split
  · exact a
  next st =>
  split
  · exact a
  next rp =>
  split
  · exact a
  next ps =>
  split
  · exact a
  split
  · next rg =>
    split
    · exact a
    split
    · exact a
    · refine J_hi (by omega) (J_rigs a hx' ?_ ?_ (isPassage_ne ps).2 (by decide) ?_)
      · unfold R_X8_stands at st
        split at st
        · next h => exact h
        · exact absurd rfl st
      · have := j_neR rp (b := -1) rfl
        have := Q.2.2.1.1
        omega
      · intro k hk
        exact (rigger_nobody n2 7 (-1) 0 (by omega) (by omega) rg).2 k (by omega) hk
  · exact a
