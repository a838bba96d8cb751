/-! ===== a copy of some numbers of cave d into cave c ===== -/
def g_Cp (c d : Nat) (S : Nat → Prop) (m m' : Nat → Int32) : Prop := (∀ k, k < 178 → S k → m' (178 * c + k) = m (178 * d + k)) ∧ (∀ n, (∀ k, k < 178 → S k → n ≠ 178 * c + k) → m' n = m n)
theorem g_Cp.rf {c d : Nat} {m : Nat → Int32} : g_Cp c d (fun _ => False) m m := ⟨fun _ _ h => h.elim, fun _ _ => rfl⟩
theorem g_Cp.iff {c d : Nat} {S S' : Nat → Prop} {m m' : Nat → Int32} (h : g_Cp c d S m m') (e : ∀ k, k < 178 → (S k ↔ S' k)) : g_Cp c d S' m m' := ⟨fun k hk hs => h.1 k hk ((e k hk).mpr hs), fun n hn => h.2 n (fun k hk hs => hn k hk ((e k hk).mp hs))⟩
theorem g_Cp.d {c d : Nat} {S : Nat → Prop} {m m' : Nat → Int32} (h : g_Cp c d S m m') (hcd : c ≠ d) {k : Nat} (hk : k < 178) : m' (178 * d + k) = m (178 * d + k) := h.2 _ (fun j hj _ => by omega)
theorem g_Cp.step {c d : Nat} {S : Nat → Prop} {m m' : Nat → Int32} (h : g_Cp c d S m m') (hcd : c ≠ d) {k : Nat} (hk : k < 178) : g_Cp c d (fun j => S j ∨ j = k) m (upd m' (178 * c + k) (m' (178 * d + k))) := by
  refine ⟨fun j hj hs => ?_, fun n hn => ?_⟩
  · by_cases e : j = k
    · subst e
      rw [g_upd_eq, h.d hcd hk]
    · rw [g_upd_ne (by omega)]
      exact h.1 j hj (hs.resolve_right e)
  · rw [g_upd_ne (hn k hk (Or.inr rfl))]
    exact h.2 n (fun j hj hs => hn j hj (Or.inl hs))
theorem g_Cp.trans {c d : Nat} {S S' : Nat → Prop} {m m' m'' : Nat → Int32} (h : g_Cp c d S m m') (h' : g_Cp c d S' m' m'') (hcd : c ≠ d) : g_Cp c d (fun j => S j ∨ S' j) m m'' := by
  refine ⟨fun j hj hs => ?_, fun n hn => ?_⟩
  · by_cases e : S' j
    · rw [h'.1 j hj e, h.d hcd hj]
    · rw [h'.2 _ (fun i hi hs' => fun z => e (by have : j = i := by omega
                                                 rw [this]; exact hs'))]
      exact h.1 j hj (hs.resolve_right e)
  · rw [h'.2 n (fun j hj hs => hn j hj (Or.inr hs)), h.2 n (fun j hj hs => hn j hj (Or.inl hs))]
theorem cp_X4_2 {m : Nat → Int32} {c d : Nat} (hcd : c ≠ d) : ∀ (f i : Nat) (t : Nat → Int32), i ≤ 7 → 7 < f + i → g_Cp c d (fun k => (13 ≤ k ∧ k < 13 + i) ∨ (20 ≤ k ∧ k < 20 + i) ∨ (27 ≤ k ∧ k < 27 + i)) m t → g_Cp c d (fun k => k = 0 ∨ (13 ≤ k ∧ k < 34)) m (R_X4_copyFrom_2 m c d f i t)
  | 0, i, t, h1, h2, _ => absurd h2 (by omega)
  | f + 1, i, t, h1, h2, h => by
    unfold R_X4_copyFrom_2
    have hi : (nI i).toInt = (i : Int) := nI_toInt (by omega)
    split
    · rename_i q
      have q : (7 : Int) ≤ (nI i).toInt := j_leL q rfl
      have e : i = 7 := by omega
      subst e
      exact (h.step hcd (k := 0) (by omega)).iff (fun k hk => by first | (dsimp only; omega) | (simp only [false_or, false_iff]; omega) | omega)
    · rename_i q
      have q : (nI i).toInt < (7 : Int) := j_nleL q rfl
      rw [nI_clamp (by omega)]
      exact cp_X4_2 hcd f (i + 1) _ (by omega) (by omega) ((((h.step hcd (k := 13 + i) (by omega)).step hcd (k := 20 + i) (by omega)).step hcd (k := 27 + i) (by omega)).iff (fun k hk => by first | (dsimp only; omega) | (simp only [false_or, false_iff]; omega) | omega))
theorem cp_X4 {m : Nat → Int32} {c d : Nat} (hcd : c ≠ d) : g_Cp c d (fun k => k = 0 ∨ (13 ≤ k ∧ k < 34)) m (R_X4_copyFrom m c d) := cp_X4_2 hcd _ _ _ (by omega) (by omega) (g_Cp.rf.iff (fun k hk => by first | (dsimp only; omega) | (simp only [false_or, false_iff]; omega) | omega))
theorem cp_X5_2 {m : Nat → Int32} {c d : Nat} (hcd : c ≠ d) : ∀ (f i : Nat) (t : Nat → Int32), i ≤ 8 → 8 < f + i → g_Cp c d (fun k => 34 ≤ k ∧ k < 34 + 3 * i) m t → g_Cp c d (fun k => k = 1 ∨ (34 ≤ k ∧ k < 58)) m (R_X5_copyFrom_2 m c d f i t)
  | 0, i, t, h1, h2, _ => absurd h2 (by omega)
  | f + 1, i, t, h1, h2, h => by
    unfold R_X5_copyFrom_2
    have hi : (nI i).toInt = (i : Int) := nI_toInt (by omega)
    split
    · rename_i q
      have q : (8 : Int) ≤ (nI i).toInt := j_leL q rfl
      have e : i = 8 := by omega
      subst e
      exact (h.step hcd (k := 1) (by omega)).iff (fun k hk => by first | (dsimp only; omega) | (simp only [false_or, false_iff]; omega) | omega)
    · rename_i q
      have q : (nI i).toInt < (8 : Int) := j_nleL q rfl
      rw [nI_clamp (by omega)]
      exact cp_X5_2 hcd f (i + 1) _ (by omega) (by omega) ((((h.step hcd (k := 34 + 3 * i) (by omega)).step hcd (k := 35 + 3 * i) (by omega)).step hcd (k := 36 + 3 * i) (by omega)).iff (fun k hk => by first | (dsimp only; omega) | (simp only [false_or, false_iff]; omega) | omega))
theorem cp_X5 {m : Nat → Int32} {c d : Nat} (hcd : c ≠ d) : g_Cp c d (fun k => k = 1 ∨ (34 ≤ k ∧ k < 58)) m (R_X5_copyFrom m c d) := cp_X5_2 hcd _ _ _ (by omega) (by omega) (g_Cp.rf.iff (fun k hk => by first | (dsimp only; omega) | (simp only [false_or, false_iff]; omega) | omega))
theorem cp_X3_2 {m : Nat → Int32} {c d : Nat} (hcd : c ≠ d) : ∀ (f i : Nat) (t : Nat → Int32), i ≤ 10 → 10 < f + i → g_Cp c d (fun k => 112 ≤ k ∧ k < 112 + 3 * i) m t → g_Cp c d (fun k => k = 6 ∨ k = 7 ∨ (112 ≤ k ∧ k < 142)) m (R_X3_copyFrom_2 m c d f i t)
  | 0, i, t, h1, h2, _ => absurd h2 (by omega)
  | f + 1, i, t, h1, h2, h => by
    unfold R_X3_copyFrom_2
    have hi : (nI i).toInt = (i : Int) := nI_toInt (by omega)
    split
    · rename_i q
      have q : (10 : Int) ≤ (nI i).toInt := j_leL q rfl
      have e : i = 10 := by omega
      subst e
      exact ((h.step hcd (k := 6) (by omega)).step hcd (k := 7) (by omega)).iff (fun k hk => by first | (dsimp only; omega) | (simp only [false_or, false_iff]; omega) | omega)
    · rename_i q
      have q : (nI i).toInt < (10 : Int) := j_nleL q rfl
      rw [nI_clamp (by omega)]
      exact cp_X3_2 hcd f (i + 1) _ (by omega) (by omega) ((((h.step hcd (k := 112 + 3 * i) (by omega)).step hcd (k := 113 + 3 * i) (by omega)).step hcd (k := 114 + 3 * i) (by omega)).iff (fun k hk => by first | (dsimp only; omega) | (simp only [false_or, false_iff]; omega) | omega))
theorem cp_X3 {m : Nat → Int32} {c d : Nat} (hcd : c ≠ d) : g_Cp c d (fun k => k = 6 ∨ k = 7 ∨ (112 ≤ k ∧ k < 142)) m (R_X3_copyFrom m c d) := cp_X3_2 hcd _ _ _ (by omega) (by omega) (g_Cp.rf.iff (fun k hk => by first | (dsimp only; omega) | (simp only [false_or, false_iff]; omega) | omega))
theorem cp_X2_2 {m : Nat → Int32} {c d : Nat} (hcd : c ≠ d) : ∀ (f i : Nat) (t : Nat → Int32), i ≤ 12 → 12 < f + i → g_Cp c d (fun k => 142 ≤ k ∧ k < 142 + 3 * i) m t → g_Cp c d (fun k => k = 12 ∨ k = 8 ∨ (142 ≤ k ∧ k < 178)) m (R_X2_copyFrom_2 m c d f i t)
  | 0, i, t, h1, h2, _ => absurd h2 (by omega)
  | f + 1, i, t, h1, h2, h => by
    unfold R_X2_copyFrom_2
    have hi : (nI i).toInt = (i : Int) := nI_toInt (by omega)
    split
    · rename_i q
      have q : (12 : Int) ≤ (nI i).toInt := j_leL q rfl
      have e : i = 12 := by omega
      subst e
      exact ((h.step hcd (k := 12) (by omega)).step hcd (k := 8) (by omega)).iff (fun k hk => by first | (dsimp only; omega) | (simp only [false_or, false_iff]; omega) | omega)
    · rename_i q
      have q : (nI i).toInt < (12 : Int) := j_nleL q rfl
      rw [nI_clamp (by omega)]
      exact cp_X2_2 hcd f (i + 1) _ (by omega) (by omega) ((((h.step hcd (k := 142 + 3 * i) (by omega)).step hcd (k := 143 + 3 * i) (by omega)).step hcd (k := 144 + 3 * i) (by omega)).iff (fun k hk => by first | (dsimp only; omega) | (simp only [false_or, false_iff]; omega) | omega))
theorem cp_X2 {m : Nat → Int32} {c d : Nat} (hcd : c ≠ d) : g_Cp c d (fun k => k = 12 ∨ k = 8 ∨ (142 ≤ k ∧ k < 178)) m (R_X2_copyFrom m c d) := cp_X2_2 hcd _ _ _ (by omega) (by omega) (g_Cp.rf.iff (fun k hk => by first | (dsimp only; omega) | (simp only [false_or, false_iff]; omega) | omega))
theorem cp_X1 {m : Nat → Int32} {c d h : Nat} (hcd : c ≠ d) (hh : h < 6) : g_Cp c d (fun k => 58 + 9 * h ≤ k ∧ k < 58 + 9 * h + 9) m (R_X1_copyFrom m c d h) := by
  unfold R_X1_copyFrom
  exact ((((((((((g_Cp.rf (c := c) (d := d) (m := m)).step hcd (k := 58 + 9 * h + 0) (by omega)).step hcd (k := 58 + 9 * h + 1) (by omega)).step hcd (k := 58 + 9 * h + 2) (by omega)).step hcd (k := 58 + 9 * h + 3) (by omega)).step hcd (k := 58 + 9 * h + 4) (by omega)).step hcd (k := 58 + 9 * h + 5) (by omega)).step hcd (k := 58 + 9 * h + 6) (by omega)).step hcd (k := 58 + 9 * h + 7) (by omega)).step hcd (k := 58 + 9 * h + 8) (by omega)).iff (fun k hk => by first | (dsimp only; omega) | (simp only [false_or, false_iff]; omega) | omega)
theorem frd_X4 {m : Nat → Int32} {c d k : Nat} (hcd : c ≠ d) (hk : k < 178) : R_X4_copyFrom m c d (178 * d + k) = m (178 * d + k) := (cp_X4 hcd).d hcd hk
theorem frd_X5 {m : Nat → Int32} {c d k : Nat} (hcd : c ≠ d) (hk : k < 178) : R_X5_copyFrom m c d (178 * d + k) = m (178 * d + k) := (cp_X5 hcd).d hcd hk
theorem frd_X3 {m : Nat → Int32} {c d k : Nat} (hcd : c ≠ d) (hk : k < 178) : R_X3_copyFrom m c d (178 * d + k) = m (178 * d + k) := (cp_X3 hcd).d hcd hk
theorem frd_X2 {m : Nat → Int32} {c d k : Nat} (hcd : c ≠ d) (hk : k < 178) : R_X2_copyFrom m c d (178 * d + k) = m (178 * d + k) := (cp_X2 hcd).d hcd hk
theorem frd_X1 {m : Nat → Int32} {c d h k : Nat} (hcd : c ≠ d) (hh : h < 6) (hk : k < 178) : R_X1_copyFrom m c d h (178 * d + k) = m (178 * d + k) := (cp_X1 hcd hh).d hcd hk
