theorem rigger_nobody {s : Nat → Int32} {x : Int32} (h2 : (s 2).toInt ≤ 6) : ∀ (f : Nat) (v : Int32) (n : Nat), n ≤ 6 → 6 < f + n → R_X8_rigger_4 s x f v n = -1 → v = -1 ∧ ∀ k : Nat, n ≤ k → (k : Int) < (s 2).toInt → s (58 + 9 * k + 2) = 2 → s (58 + 9 * k + 1) ≠ x := by
  intro f
  induction f with
  | zero => intro v n h1 h2; exact absurd h2 (by omega)
  | succ f ih =>
    intro v n h1 h3 hr
    have qn : (nI n).toInt = n := nI_toInt (by omega)
    have nn : (nI n).toNatClampNeg = n := by have := j_nat (x := nI n) (by omega); omega
    rw [R_X8_rigger_4, nn] at hr
    unfold R_X8_rigger_38 R_X8_rigger_39 at hr
    split at hr
    · next c =>
      have c' := j_le c
      exact ⟨hr, fun k hk hk' => absurd hk' (by omega)⟩
    next c =>
    have c' := j_nle c
    have other : R_X8_rigger_4 s x f v (n + 1) = -1 → (s (58 + 9 * n + 2) = 2 → s (58 + 9 * n + 1) ≠ x) → v = -1 ∧ ∀ k : Nat, n ≤ k → (k : Int) < (s 2).toInt → s (58 + 9 * k + 2) = 2 → s (58 + 9 * k + 1) ≠ x := fun h g => by
      have := ih v (n + 1) (by omega) (by omega) h
      refine ⟨this.1, fun k hk hk' => ?_⟩
      by_cases e : k = n
      · subst e; exact g
      · exact this.2 k (by omega) hk'
    split at hr
    · split at hr
      · have := (ih (nI n) (n + 1) (by omega) (by omega) hr).1
        have : (nI n).toInt = -1 := by rw [this]; rfl
        omega
      · next d => exact other hr (fun _ => d)
    · next d => exact other hr (fun h => absurd h d)
