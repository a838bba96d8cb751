/-! ===== the invariant of a cave (the model's row, or the class's main cave) ===== -/
/-- helper h is well-formed -/
def g_Hp (s : Nat → Int32) (h : Nat) : Prop :=
  (0 ≤ (s (58 + 9 * h + 1)).toInt ∧ (s (58 + 9 * h + 1)).toInt ≤ (s 0).toInt) ∧
  (s (58 + 9 * h + 2) = 0 ∨ s (58 + 9 * h + 2) = 1 ∨ s (58 + 9 * h + 2) = 2) ∧
  (-1 ≤ (s (58 + 9 * h + 5)).toInt ∧ (s (58 + 9 * h + 5)).toInt < (s 1).toInt) ∧
  (s (58 + 9 * h + 8) = 0 ∨ s (58 + 9 * h + 8) = 1) ∧
  (s (58 + 9 * h + 2) = 1 → (0 ≤ (s (58 + 9 * h + 3)).toInt ∧ (s (58 + 9 * h + 3)).toInt ≤ (s 0).toInt) ∧ ((s (58 + 9 * h + 3)).toInt = (s (58 + 9 * h + 1)).toInt + 1 ∨ (s (58 + 9 * h + 3)).toInt = (s (58 + 9 * h + 1)).toInt - 1) ∧ 1 ≤ (s (58 + 9 * h + 4)).toInt) ∧
  (s (58 + 9 * h + 2) = 2 → (s (58 + 9 * h + 1)).toInt < (s 0).toInt ∧ 0 ≤ (s (58 + 9 * h + 5)).toInt ∧ 1 ≤ (s (58 + 9 * h + 4)).toInt) ∧
  (s (58 + 9 * h + 2) ≠ 1 → s (58 + 9 * h + 1) = 0 → s (58 + 9 * h + 7) = 0)
def g_J (s : Nat → Int32) : Prop :=
  ((1 ≤ (s 0).toInt ∧ (s 0).toInt ≤ 7) ∧ (0 ≤ (s 1).toInt ∧ (s 1).toInt ≤ 8) ∧ (0 ≤ (s 2).toInt ∧ (s 2).toInt ≤ 6) ∧ (0 ≤ (s 3).toInt ∧ (s 3).toInt ≤ 100000) ∧
   (0 ≤ (s 4).toInt ∧ (s 4).toInt ≤ (s 0).toInt) ∧ (s 5 = 0 ∨ s 5 = 1) ∧ (0 ≤ (s 6).toInt ∧ (s 6).toInt ≤ 10) ∧ (0 ≤ (s 9).toInt ∧ (s 9).toInt ≤ (s 10).toInt ∧ (s 10).toInt ≤ 100000) ∧ (0 ≤ (s 12).toInt ∧ (s 12).toInt ≤ 12)) ∧
  (∀ p : Nat, p < 7 → (0 ≤ (s (13 + p)).toInt ∧ (s (13 + p)).toInt ≤ 60) ∧ (1 ≤ (s (20 + p)).toInt ∧ (s (20 + p)).toInt ≤ 30) ∧ -1 ≤ (s (27 + p)).toInt ∧ (s (27 + p)).toInt < (s 1).toInt) ∧
  (∀ h : Nat, (h : Int) < (s 2).toInt → g_Hp s h) ∧
  (∀ h h' : Nat, (h : Int) < (s 2).toInt → (h' : Int) < (s 2).toInt → s (58 + 9 * h + 2) = 2 → s (58 + 9 * h' + 2) = 2 → s (58 + 9 * h + 1) = s (58 + 9 * h' + 1) → h = h') ∧
  (∀ i : Nat, (i : Int) < (s 6).toInt → 1 ≤ (s (114 + 3 * i)).toInt ∧ (s (114 + 3 * i)).toInt ≤ 7)
/-- it hangs on the row's 178 numbers alone -/
theorem g_J.congr {s t : Nat → Int32} (h : ∀ n, n < 178 → t n = s n) (hs : g_J s) : g_J t := by
  have e : ∀ n, n < 178 → t n = s n := h
  obtain ⟨h1, h2, h3, h4, h5⟩ := hs
  have q2 : (t 2).toInt ≤ 6 := by rw [e 2 (by omega)]; exact h1.2.2.1.2
  have q6 : (t 6).toInt ≤ 10 := by rw [e 6 (by omega)]; exact h1.2.2.2.2.2.2.1.2
  refine ⟨?_, fun p hp => ?_, fun k hk => ?_, fun k k' hk hk' a b c => ?_, fun i hi => ?_⟩
  · simpa only [e 0 (by omega), e 1 (by omega), e 2 (by omega), e 3 (by omega), e 4 (by omega), e 5 (by omega), e 6 (by omega), e 9 (by omega), e 10 (by omega), e 12 (by omega)] using h1
  · rw [e (13 + p) (by omega), e (20 + p) (by omega), e (27 + p) (by omega), e 1 (by omega)]
    exact h2 p hp
  · have hk6 : k < 6 := by omega
    rw [e 2 (by omega)] at hk
    have := h3 k hk
    unfold g_Hp at this ⊢
    rw [e 0 (by omega), e 1 (by omega), e (58 + 9 * k + 1) (by omega), e (58 + 9 * k + 2) (by omega), e (58 + 9 * k + 3) (by omega), e (58 + 9 * k + 4) (by omega), e (58 + 9 * k + 5) (by omega), e (58 + 9 * k + 7) (by omega), e (58 + 9 * k + 8) (by omega)]
    exact this
  · have hk6 : k < 6 := by omega
    have hk6' : k' < 6 := by omega
    rw [e 2 (by omega)] at hk hk'
    rw [e (58 + 9 * k + 2) (by omega)] at a
    rw [e (58 + 9 * k' + 2) (by omega)] at b
    rw [e (58 + 9 * k + 1) (by omega), e (58 + 9 * k' + 1) (by omega)] at c
    exact h4 k k' hk hk' a b c
  · have hi10 : i < 10 := by omega
    rw [e 6 (by omega)] at hi
    rw [e (114 + 3 * i) (by omega)]
    exact h5 i hi
/-- the fields of the model besides its row -/
def g_F (s : Nat → Int32) : Prop := (0 ≤ (s 1300).toInt ∧ (s 1300).toInt ≤ 4) ∧ (0 ≤ (s 1301).toInt ∧ (s 1301).toInt ≤ 90)
/-- the plain facts out of it, as a walk wants them -/
theorem g_J.n {s : Nat → Int32} (h : g_J s) : (1 ≤ (s 0).toInt ∧ (s 0).toInt ≤ 7) ∧ (0 ≤ (s 1).toInt ∧ (s 1).toInt ≤ 8) ∧ (0 ≤ (s 2).toInt ∧ (s 2).toInt ≤ 6) ∧ (0 ≤ (s 4).toInt ∧ (s 4).toInt ≤ 7) ∧ (0 ≤ (s 6).toInt ∧ (s 6).toInt ≤ 10) ∧ (0 ≤ (s 12).toInt ∧ (s 12).toInt ≤ 12) ∧ (0 ≤ (s 3).toInt ∧ (s 3).toInt ≤ 100000) := by
  obtain ⟨⟨a0, a1, a2, a3, a4, -, a6, -, a12⟩, -⟩ := h
  refine ⟨a0, a1, a2, ⟨a4.1, by omega⟩, a6, a12, a3⟩
theorem g_J.h {s : Nat → Int32} (h : g_J s) {x : Int32} (h0 : 0 ≤ x.toInt) (h1 : x.toInt < (s 2).toInt) : (0 ≤ (s (58 + 9 * x.toNatClampNeg + 1)).toInt ∧ (s (58 + 9 * x.toNatClampNeg + 1)).toInt ≤ 7) ∧ (-1 ≤ (s (58 + 9 * x.toNatClampNeg + 5)).toInt ∧ (s (58 + 9 * x.toNatClampNeg + 5)).toInt ≤ 7) := by
  have hx := j_nat h0
  have hp := h.2.2.1 x.toNatClampNeg (by omega)
  have hn := h.n
  obtain ⟨a, -, b, -⟩ := hp
  omega
