theorem J_105 {s : Nat → Int32} {x1 : Int32} (a0 : g_J s) (s4 : 1 ≤ (s 4).toInt) : ∀ (f i : Nat) (t : Nat → Int32), g_J t → t 0 = s 0 → t 2 = s 2 → t 4 = s 4 → i ≤ 6 → 6 < f + i → (∀ k : Nat, i ≤ k → (k : Int) < (s 2).toInt → (x1 >>> ((nI k) &&& 31)) &&& 1 ≠ 0 → t (58 + 9 * k + 1) = s 4) → g_J (R_X8_carries_105 s x1 f i t).2 := by
  have n4 := a0.1.2.2.2.2.1
  have n0 := a0.1.1
  have n2 := a0.1.2.2.1
  have e20 : ((20 + s 4) - 1).toNatClampNeg = 20 + ((s 4).toInt - 1).toNat := by
    have q1 : (20 + s 4).toInt = 20 + (s 4).toInt := j_addE rfl rfl (by omega) (by omega)
    have q2 : ((20 + s 4) - 1).toInt = 20 + (s 4).toInt - 1 := j_subE q1 rfl (by omega) (by omega)
    have := j_nat (x := (20 + s 4) - 1) (by omega)
    omega
  have m := (a0.2.1 ((s 4).toInt - 1).toNat (by omega)).2.1
  rw [← e20] at m
  have m3 : (3 * s ((20 + s 4) - 1).toNatClampNeg).toInt = 3 * (s ((20 + s 4) - 1).toNatClampNeg).toInt := j_mulE rfl rfl (by omega) (by omega)
  have b4 : (s 4 - 1).toInt = (s 4).toInt - 1 := j_subE rfl rfl (by omega) (by omega)
  intro f
  induction f with
  | zero => intro i t _ _ _ _ h1 h2; exact absurd h2 (by omega)
  | succ f ih =>
    intro i t a t0 t2 t4 h1 h2 hk
    have qi : (nI i).toInt = i := nI_toInt (by omega)
    have ni := j_nat (x := nI i) (by omega)
    have nn : (nI i).toNatClampNeg = i := by omega
    rw [R_X8_carries_105]
    split
    · exact J_153 34 177 t (by omega) (by omega) (by omega) a
    next c =>
    have c' := j_nle c
    rw [t2] at c'
    unfold R_X8_carries_142
    split
    · next b =>
      have st : t (58 + 9 * (nI i).toNatClampNeg + 1) = s 4 := by rw [nn]; exact hk i (Nat.le_refl _) (by omega) (by rw [b]; decide)
      have w : g_J (R_X8_walks t (nI i) (t 4 - 1) (3 * s ((20 + s 4) - 1).toNatClampNeg) 1) := J_walks a (by omega) (by rw [t2]; omega) (by rw [t4, t0, b4]; omega) (Or.inr (by rw [t4, st, b4])) (by omega) (Or.inr rfl)
      refine ih (i + 1) _ w ?_ ?_ ?_ (by omega) (by omega) (fun k h h' hb => ?_)
      · rw [fr_X8_walks (by omega) (by omega) (by omega) (by omega)]; exact t0
      · rw [fr_X8_walks (by omega) (by omega) (by omega) (by omega)]; exact t2
      · rw [fr_X8_walks (by omega) (by omega) (by omega) (by omega)]; exact t4
      · rw [fr_X8_walks (by omega) (by omega) (by omega) (by omega)]; exact hk k (by omega) h' hb
    · exact ih (i + 1) _ a t0 t2 t4 (by omega) (by omega) (fun k h h' hb => hk k (by omega) h' hb)
theorem J_carries {s : Nat → Int32} {x1 : Int32} (a : g_J s) : g_J (R_X8_carries s x1).2 := by
  have n2 := a.1.2.2.1.2
  have n0 := a.1.1
  have n4 := a.1.2.2.2.2.1
  unfold R_X8_carries
  split
  · exact a
  split
  · rcases can_35 (x1 := x1) n2 7 (R_X8_isCarryable s) 0 (by omega) (by omega) with e | ⟨e1, e2, e3⟩
    · rw [e]; exact a
    · rw [e2]
      have s4 : 1 ≤ (s 4).toInt := by
        unfold R_X8_isCarryable at e1
        split at e1
        · split at e1
          · exact absurd rfl e1
          · next c =>
            have := j_nleR c (b := 0) rfl
            omega
        · exact absurd rfl e1
      refine J_105 a s4 7 0 s a rfl rfl rfl (by omega) (by omega) (fun k _ hk hb => ?_)
      have g := e3 k (by omega) hk hb
      have qk : (nI k).toInt = k := nI_toInt (by omega)
      have nk : (nI k).toNatClampNeg = k := by have := j_nat (x := nI k) (by omega); omega
      unfold R_X8_canCarry at g
      rw [nk] at g
      split at g
      · exact absurd rfl g
      split at g
      · next c => exact c
      · exact absurd rfl g
  · exact a
