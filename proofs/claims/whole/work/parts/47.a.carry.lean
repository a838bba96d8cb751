/-- who a carrying walks with: all whose bit is set can carry -/
theorem can_35 {s : Nat → Int32} {x1 : Int32} (h2 : (s 2).toInt ≤ 6) : ∀ (f : Nat) (v : Int32) (h : Nat), h ≤ 6 → 6 < f + h → R_X8_carries_35 s x1 f v h = (2, s) ∨ (v ≠ 0 ∧ R_X8_carries_35 s x1 f v h = R_X8_carries_105 s x1 7 0 s ∧ ∀ k : Nat, h ≤ k → (k : Int) < (s 2).toInt → (x1 >>> ((nI k) &&& 31)) &&& 1 ≠ 0 → R_X8_canCarry s (nI k) ≠ 0) := by
  intro f
  induction f with
  | zero => intro v h h1 h2; exact absurd h2 (by omega)
  | succ f ih =>
    intro v h h1 h3
    have qh : (nI h).toInt = h := nI_toInt (by omega)
    rw [R_X8_carries_35]
    unfold R_X8_carries_65 R_X8_carries_70 R_X8_carries_77
    by_cases c : s 2 ≤ nI h
    · rw [if_pos c]
      have c' := j_le c
      by_cases d : v = 0
      · rw [if_pos d]; exact Or.inl rfl
      · rw [if_neg d]; exact Or.inr ⟨d, rfl, fun k hk hk' => absurd hk' (by omega)⟩
    rw [if_neg c]
    have c' := j_nle c
    by_cases d : v = 0
    · rw [if_pos d, if_pos d]; exact Or.inl rfl
    rw [if_neg d]
    have step : ∀ w, (w ≠ 0 → (x1 >>> ((nI h) &&& 31)) &&& 1 ≠ 0 → R_X8_canCarry s (nI h) ≠ 0) → R_X8_carries_35 s x1 f w (h + 1) = (2, s) ∨ (v ≠ 0 ∧ R_X8_carries_35 s x1 f w (h + 1) = R_X8_carries_105 s x1 7 0 s ∧ ∀ k : Nat, h ≤ k → (k : Int) < (s 2).toInt → (x1 >>> ((nI k) &&& 31)) &&& 1 ≠ 0 → R_X8_canCarry s (nI k) ≠ 0) := fun w g => by
      rcases ih w (h + 1) (by omega) (by omega) with e | ⟨e1, e2, e3⟩
      · exact Or.inl e
      · refine Or.inr ⟨d, e2, fun k hk hk' => ?_⟩
        by_cases e : k = h
        · subst e; exact g e1
        · exact e3 k (by omega) hk'
    by_cases b : (x1 >>> ((nI h) &&& 31)) &&& 1 = 0
    · rw [if_pos b]; exact step 1 (fun _ z => absurd b z)
    rw [if_neg b]
    by_cases e : R_X8_canCarry s (nI h) = 0
    · rw [if_pos e]; exact step 0 (fun z => absurd rfl z)
    · rw [if_neg e]; exact step 1 (fun _ _ => e)
