/-! ===== the reference, as functions: what is said of it without the machine ===== -/
def R_X8_in (s : Nat → Int32) (x0 : Int32) (x1 : Int32) (x2 : Int32) : Int32 := (if x0 < x1 then 0 else (if x2 < x0 then 0 else 1))
theorem nz_X8_in {s : Nat → Int32} {x0 x1 x2 : Int32} (h : ¬ R_X8_in s x0 x1 x2 = 0) : x1.toInt ≤ x0.toInt ∧ x0.toInt ≤ x2.toInt := by
  unfold R_X8_in at h
  by_cases a : x0 < x1
  · simp [a] at h
  · by_cases b : x2 < x0
    · simp [a, b] at h
    · exact ⟨j_nlt a, j_nlt b⟩
def R_X8_fails (s : Nat → Int32) (x1 : Int32) : (Int32 × (Nat → Int32)) := (0, (upd s 1302 x1))
def R_X8_tells (s : Nat → Int32) (x1 : Int32) : (Int32 × (Nat → Int32)) := (x1, (upd s 1302 0))
def R_X8_isPassage (s : Nat → Int32) (x1 : Int32) : Int32 := (if x1 < 0 then 0 else (if (s (0)) ≤ x1 then 0 else 1))
def R_X8_isRope (s : Nat → Int32) (x1 : Int32) : Int32 := (if x1 < 0 then 0 else (if (s (1)) ≤ x1 then 0 else 1))
def R_X8_isHelper (s : Nat → Int32) (x1 : Int32) : Int32 := (if x1 < 0 then 0 else (if (s (2)) ≤ x1 then 0 else 1))
def R_X8_of (s : Nat → Int32) (x1 : Int32) (x2 : Int32) : Int32 := (s (((58 + (9 * x1)) + x2).toNatClampNeg))
theorem of_ix {x1 : Int32} {w : Nat} (p0 : 0 ≤ x1.toInt) (p1 : x1.toInt < 6) (hw : w < 9) : ((58 + (9 * x1)) + nI w).toNatClampNeg = 58 + 9 * x1.toNatClampNeg + w := by
  have h1 : (nI w).toInt = (w : Int) := nI_toInt (by omega)
  have h2 : ((58 + (9 * x1)) + nI w).toInt = (((58 : Int) + ((9 : Int) * x1.toInt)) + (w : Int)) := j_addE (j_addE rfl (j_mulE rfl rfl (by omega) (by omega)) (by omega) (by omega)) h1 (by omega) (by omega)
  have h3 := j_nat p0
  have h4 := j_nat (x := (58 + (9 * x1)) + nI w) (by omega)
  omega
def R_X8_lays (s : Nat → Int32) (x1 : Int32) (x2 : Int32) (x3 : Int32) : (Nat → Int32) := (upd s (((58 + (9 * x1)) + x2).toNatClampNeg) x3)
/-! ===== the model: looks ===== -/
def R_X8_isShut (s : Nat → Int32) (x1 : Int32) : Int32 := (if (s ((13 + x1).toNatClampNeg)) ≤ 0 then 0 else (if (s ((27 + x1).toNatClampNeg)) = (-1) then 1 else 0))
def R_X8_stands (s : Nat → Int32) (x1 : Int32) : Int32 := (if (s (58 + 9 * x1.toNatClampNeg + 2)) = 0 then 1 else 0)
def R_X8_isBelow (s : Nat → Int32) (x1 : Int32) : Int32 := (if (s (58 + 9 * x1.toNatClampNeg + 2)) = 1 then 1 else (if (s (58 + 9 * x1.toNatClampNeg + 1)) ≤ 0 then 0 else 1))
def R_X8_passageOf (s : Nat → Int32) (x1 : Int32) : Int32 := (if (s (58 + 9 * x1.toNatClampNeg + 2)) = 1 then (if (s (58 + 9 * x1.toNatClampNeg + 1)) ≤ (s (58 + 9 * x1.toNatClampNeg + 3)) then (s (58 + 9 * x1.toNatClampNeg + 1)) else ((s (58 + 9 * x1.toNatClampNeg + 1)) - 1)) else (-1))
def R_X8_walkers_29 (K_4 : Int32 → Nat → Int32) (v2_4 : Int32) (n : Nat) (t0_29 : Int32) : Int32 := (K_4 (v2_4 + t0_29) (n + 1))
def R_X8_walkers_4 (s : Nat → Int32) (x1 : Int32) : Nat → Int32 → Nat → Int32
  | 0, _, _ => 0
  | f + 1, v2_4, n => (if (s (2)) ≤ (nI n) then v2_4 else (if (R_X8_passageOf s (nI n)) = x1 then (R_X8_walkers_29 (R_X8_walkers_4 s x1 f) v2_4 n 1) else (R_X8_walkers_29 (R_X8_walkers_4 s x1 f) v2_4 n 0)))
def R_X8_walkers (s : Nat → Int32) (x1 : Int32) : Int32 := (R_X8_walkers_4 s x1 7 0 0)
def R_X8_rigger_39 (K_4 : Int32 → Nat → Int32) (n : Nat) (t0_39 : Int32) : Int32 := (K_4 t0_39 (n + 1))
def R_X8_rigger_38 (K_4 : Int32 → Nat → Int32) (v2_4 : Int32) (n : Nat) : Int32 := (R_X8_rigger_39 K_4 n v2_4)
def R_X8_rigger_4 (s : Nat → Int32) (x1 : Int32) : Nat → Int32 → Nat → Int32
  | 0, _, _ => 0
  | f + 1, v2_4, n => (if (s (2)) ≤ (nI n) then v2_4 else (if (s (58 + 9 * (nI n).toNatClampNeg + 2)) = 2 then (if (s (58 + 9 * (nI n).toNatClampNeg + 1)) = x1 then (R_X8_rigger_39 (R_X8_rigger_4 s x1 f) n (nI n)) else (R_X8_rigger_38 (R_X8_rigger_4 s x1 f) v2_4 n )) else (R_X8_rigger_38 (R_X8_rigger_4 s x1 f) v2_4 n )))
def R_X8_rigger (s : Nat → Int32) (x1 : Int32) : Int32 := (R_X8_rigger_4 s x1 7 (-1) 0)
def R_X8_upFrom_4 (s : Nat → Int32) (x1 : Int32) : Nat → Int32 → Nat → Int32
  | 0, _, _ => 0
  | f + 1, v2_4, n => (if x1 ≤ (nI n) then v2_4 else ((R_X8_upFrom_4 s x1 f) (v2_4 + (s ((20 + (nI n)).toNatClampNeg))) (n + 1)))
def R_X8_upFrom (s : Nat → Int32) (x1 : Int32) : Int32 := (R_X8_upFrom_4 s x1 8 0 0)
def R_X8_isShutAbove_26 (K_4 : Int32 → Nat → Int32) (n : Nat) (t0_26 : Int32) : Int32 := (K_4 t0_26 (n + 1))
def R_X8_isShutAbove_21 (K_4 : Int32 → Nat → Int32) (n : Nat) : Int32 := (R_X8_isShutAbove_26 K_4 n 1)
def R_X8_isShutAbove_4 (s : Nat → Int32) (x1 : Int32) : Nat → Int32 → Nat → Int32
  | 0, _, _ => 0
  | f + 1, v2_4, n => (if x1 ≤ (nI n) then v2_4 else (if v2_4 = 0 then (if (R_X8_isShut s (nI n)) = 0 then (R_X8_isShutAbove_26 (R_X8_isShutAbove_4 s x1 f) n 0) else (R_X8_isShutAbove_21 (R_X8_isShutAbove_4 s x1 f) n )) else (R_X8_isShutAbove_21 (R_X8_isShutAbove_4 s x1 f) n )))
def R_X8_isInTime_19 (s : Nat → Int32) (x1 : Int32) (x2 : Int32) (x3 : Int32) (t0_19 : Int32) : Int32 := (if (s (58 + 9 * x1.toNatClampNeg + 0)) < ((t0_19 + x3) + (R_X8_upFrom s x2)) then 0 else 1)
def R_X8_isInTime (s : Nat → Int32) (x1 : Int32) (x2 : Int32) (x3 : Int32) : Int32 := (if (R_X8_isBelow s x1) = 0 then (R_X8_isInTime_19 s x1 x2 x3 0) else (R_X8_isInTime_19 s x1 x2 x3 (s (58 + 9 * x1.toNatClampNeg + 7))))
def R_X8_effort (s : Nat → Int32) (x1 : Int32) (x2 : Int32) : Int32 := (if x2 = 0 then ((s ((20 + x1).toNatClampNeg)) * 1) else (if (s ((13 + x1).toNatClampNeg)) ≤ 0 then ((s ((20 + x1).toNatClampNeg)) * 1) else ((s ((20 + x1).toNatClampNeg)) * 2)))
def R_X8_reason_69 (s : Nat → Int32) (x1 : Int32) (x2 : Int32) (t0_57 : Int32) (t0_69 : Int32) : Int32 := (if (R_X8_isShut s t0_69) = 0 then (if ((s (58 + 9 * x1.toNatClampNeg + 6)) + (R_X8_effort s t0_69 t0_57)) ≤ 100 then (if t0_57 = 0 then (if (R_X8_isInTime s x1 x2 (s ((20 + t0_69).toNatClampNeg))) = 0 then 5 else 0) else 0) else 4) else 3)
def R_X8_reason_57 (s : Nat → Int32) (x1 : Int32) (x2 : Int32) (t0_57 : Int32) : Int32 := (if t0_57 = 0 then (R_X8_reason_69 s x1 x2 t0_57 (s (58 + 9 * x1.toNatClampNeg + 1))) else (R_X8_reason_69 s x1 x2 t0_57 x2))
def R_X8_reason_47 (s : Nat → Int32) (x1 : Int32) (x2 : Int32) : Int32 := (if (s (58 + 9 * x1.toNatClampNeg + 1)) ≤ x2 then (R_X8_reason_57 s x1 x2 0) else (R_X8_reason_57 s x1 x2 1))
def R_X8_reason (s : Nat → Int32) (x1 : Int32) (x2 : Int32) : Int32 := (if (R_X8_stands s x1) = 0 then 1 else (if (R_X8_in s x2 0 (s (0))) = 0 then 2 else (if x2 = ((s (58 + 9 * x1.toNatClampNeg + 1)) - 1) then (R_X8_reason_47 s x1 x2 ) else (if x2 = ((s (58 + 9 * x1.toNatClampNeg + 1)) + 1) then (R_X8_reason_47 s x1 x2 ) else 2))))
def R_X8_walks (s : Nat → Int32) (x1 : Int32) (x2 : Int32) (x3 : Int32) (x4 : Int32) : (Nat → Int32) := (upd (upd (upd (upd s (58 + 9 * x1.toNatClampNeg + 2) 1) (58 + 9 * x1.toNatClampNeg + 3) x2) (58 + 9 * x1.toNatClampNeg + 4) x3) (58 + 9 * x1.toNatClampNeg + 8) x4)
theorem fr_X8_walks {s : Nat → Int32} {a b c d : Int32} {n : Nat} (h2 : n ≠ 58 + 9 * a.toNatClampNeg + 2) (h3 : n ≠ 58 + 9 * a.toNatClampNeg + 3) (h4 : n ≠ 58 + 9 * a.toNatClampNeg + 4) (h8 : n ≠ 58 + 9 * a.toNatClampNeg + 8) : R_X8_walks s a b c d n = s n := by
  unfold R_X8_walks
  rw [g_upd_ne h8, g_upd_ne h4, g_upd_ne h3, g_upd_ne h2]
def R_X8_sets_26 (s : Nat → Int32) (x1 : Int32) (x2 : Int32) (t0_26 : Int32) : (Nat → Int32) := (R_X8_walks s x1 x2 (s ((20 + t0_26).toNatClampNeg)) 0)
def R_X8_sets (s : Nat → Int32) (x1 : Int32) (x2 : Int32) : (Nat → Int32) := (if (s (58 + 9 * x1.toNatClampNeg + 1)) ≤ x2 then (R_X8_sets_26 s x1 x2 (x2 - 1)) else (R_X8_sets_26 s x1 x2 x2))
def R_X8_gives (s : Nat → Int32) (x1 : Int32) (x2 : Int32) : (Nat → Int32) := (upd (upd (upd s (((34 + (3 * x1)) + 1).toNatClampNeg) 1) (((34 + (3 * x1)) + 2).toNatClampNeg) x2) (58 + 9 * x2.toNatClampNeg + 5) x1)
def R_X8_leaves (s : Nat → Int32) (x1 : Int32) (x2 : Int32) (x3 : Int32) : (Nat → Int32) := (upd (upd (upd s (((34 + (3 * (s (58 + 9 * x1.toNatClampNeg + 5)))) + 1).toNatClampNeg) x2) (((34 + (3 * (s (58 + 9 * x1.toNatClampNeg + 5)))) + 2).toNatClampNeg) x3) (58 + 9 * x1.toNatClampNeg + 5) (-1))
def R_X8_holdsAt (s : Nat → Int32) (x1 : Int32) (x2 : Int32) : Int32 := (if (s ((34 + (3 * x1)).toNatClampNeg)) < ((s ((13 + x2).toNatClampNeg)) + 3) then 0 else 1)
def R_X8_isCarryable (s : Nat → Int32) : Int32 := (if (s (5)) = 0 then (if (s (4)) ≤ 0 then 0 else (if (R_X8_isShut s ((s (4)) - 1)) = 0 then 1 else 0)) else 0)
def R_X8_canCarry (s : Nat → Int32) (x1 : Int32) : Int32 := (if (R_X8_stands s x1) = 0 then 0 else (if (s (58 + 9 * x1.toNatClampNeg + 1)) = (s (4)) then (if 100 < ((s (58 + 9 * x1.toNatClampNeg + 6)) + (2 * (3 * (s (((20 + (s (4))) - 1).toNatClampNeg))))) then 0 else (if (R_X8_isInTime s x1 ((s (4)) - 1) (3 * (s (((20 + (s (4))) - 1).toNatClampNeg)))) = 0 then 0 else 1)) else 0))
def R_X8_ones_4 (x0 : Int32) : Nat → Int32 → Nat → Int32
  | 0, _, _ => 0
  | f + 1, v1_4, n => (if 6 ≤ (nI n) then v1_4 else ((R_X8_ones_4 x0 f) (v1_4 + ((x0 >>> ((nI n) &&& 31)) &&& 1)) (n + 1)))
def R_X8_ones (s : Nat → Int32) (x0 : Int32) : Int32 := (R_X8_ones_4 x0 7 0 0)
def R_X8_arrives_32 (s : Nat → Int32) (x1 : Int32) (s_32 : Nat → Int32) : (Nat → Int32) := (upd (upd (upd (upd s_32 (58 + 9 * x1.toNatClampNeg + 1) (s (58 + 9 * x1.toNatClampNeg + 3))) (58 + 9 * x1.toNatClampNeg + 3) (-1)) (58 + 9 * x1.toNatClampNeg + 8) 0) (58 + 9 * x1.toNatClampNeg + 2) 0)
def R_X8_arrives (s : Nat → Int32) (x1 : Int32) : (Nat → Int32) := (if (s (58 + 9 * x1.toNatClampNeg + 8)) = 1 then (R_X8_arrives_32 s x1 (upd (upd s (4) (s (58 + 9 * x1.toNatClampNeg + 3))) (5) 0)) else (R_X8_arrives_32 s x1 s))
def R_X8_hasRigged (s : Nat → Int32) (x1 : Int32) : (Nat → Int32) := (upd (R_X8_leaves (upd s ((27 + (s (58 + 9 * x1.toNatClampNeg + 1))).toNatClampNeg) (s (58 + 9 * x1.toNatClampNeg + 5))) x1 2 (s (58 + 9 * x1.toNatClampNeg + 1))) (58 + 9 * x1.toNatClampNeg + 2) 0)
/-! ===== the invariant of a cave (the model's row, or the class's main cave) ===== -/
/-- helper h is well-formed -/
def g_Hp (s : Nat → Int32) (h : Nat) : Prop :=
  (0 ≤ (s (58 + 9 * h + 1)).toInt ∧ (s (58 + 9 * h + 1)).toInt ≤ (s 0).toInt) ∧
  (s (58 + 9 * h + 2) = 0 ∨ s (58 + 9 * h + 2) = 1 ∨ s (58 + 9 * h + 2) = 2) ∧
  (-1 ≤ (s (58 + 9 * h + 5)).toInt ∧ (s (58 + 9 * h + 5)).toInt < (s 1).toInt) ∧
  (s (58 + 9 * h + 8) = 0 ∨ s (58 + 9 * h + 8) = 1) ∧
  (s (58 + 9 * h + 2) = 1 → (0 ≤ (s (58 + 9 * h + 3)).toInt ∧ (s (58 + 9 * h + 3)).toInt ≤ (s 0).toInt) ∧ ((s (58 + 9 * h + 3)).toInt = (s (58 + 9 * h + 1)).toInt + 1 ∨ (s (58 + 9 * h + 3)).toInt = (s (58 + 9 * h + 1)).toInt - 1) ∧ 1 ≤ (s (58 + 9 * h + 4)).toInt) ∧
  (s (58 + 9 * h + 2) = 2 → (s (58 + 9 * h + 1)).toInt < (s 0).toInt ∧ 0 ≤ (s (58 + 9 * h + 5)).toInt ∧ 1 ≤ (s (58 + 9 * h + 4)).toInt) ∧
  (s (58 + 9 * h + 2) ≠ 1 → s (58 + 9 * h + 1) = 0 → s (58 + 9 * h + 7) = 0)
def g_J (s : Nat → Int32) : Prop :=
  ((1 ≤ (s 0).toInt ∧ (s 0).toInt ≤ 7) ∧ (0 ≤ (s 1).toInt ∧ (s 1).toInt ≤ 8) ∧ (0 ≤ (s 2).toInt ∧ (s 2).toInt ≤ 6) ∧ (0 ≤ (s 3).toInt ∧ (s 3).toInt ≤ 100000) ∧
   (0 ≤ (s 4).toInt ∧ (s 4).toInt ≤ (s 0).toInt) ∧ (s 5 = 0 ∨ s 5 = 1) ∧ (0 ≤ (s 6).toInt ∧ (s 6).toInt ≤ 10) ∧ (0 ≤ (s 9).toInt ∧ (s 9).toInt ≤ (s 10).toInt ∧ (s 10).toInt ≤ 100000) ∧ (0 ≤ (s 12).toInt ∧ (s 12).toInt ≤ 12)) ∧
  (∀ p : Nat, p < 7 → (0 ≤ (s (13 + p)).toInt ∧ (s (13 + p)).toInt ≤ 60) ∧ (1 ≤ (s (20 + p)).toInt ∧ (s (20 + p)).toInt ≤ 30) ∧ -1 ≤ (s (27 + p)).toInt ∧ (s (27 + p)).toInt < (s 1).toInt) ∧
  (∀ h : Nat, (h : Int) < (s 2).toInt → g_Hp s h) ∧
  (∀ h h' : Nat, (h : Int) < (s 2).toInt → (h' : Int) < (s 2).toInt → s (58 + 9 * h + 2) = 2 → s (58 + 9 * h' + 2) = 2 → s (58 + 9 * h + 1) = s (58 + 9 * h' + 1) → h = h') ∧
  (∀ i : Nat, (i : Int) < (s 6).toInt → 1 ≤ (s (114 + 3 * i)).toInt ∧ (s (114 + 3 * i)).toInt ≤ 7)
/-- it hangs on the row's 178 numbers alone -/
theorem g_J.congr {s t : Nat → Int32} (h : ∀ n, n < 178 → t n = s n) (hs : g_J s) : g_J t := by
  have e : ∀ n, n < 178 → t n = s n := h
  obtain ⟨h1, h2, h3, h4, h5⟩ := hs
  have q2 : (t 2).toInt ≤ 6 := by rw [e 2 (by omega)]; exact h1.2.2.1.2
  have q6 : (t 6).toInt ≤ 10 := by rw [e 6 (by omega)]; exact h1.2.2.2.2.2.2.1.2
  refine ⟨?_, fun p hp => ?_, fun k hk => ?_, fun k k' hk hk' a b c => ?_, fun i hi => ?_⟩
  · simpa only [e 0 (by omega), e 1 (by omega), e 2 (by omega), e 3 (by omega), e 4 (by omega), e 5 (by omega), e 6 (by omega), e 9 (by omega), e 10 (by omega), e 12 (by omega)] using h1
  · rw [e (13 + p) (by omega), e (20 + p) (by omega), e (27 + p) (by omega), e 1 (by omega)]
    exact h2 p hp
  · have hk6 : k < 6 := by omega
    rw [e 2 (by omega)] at hk
    have := h3 k hk
    unfold g_Hp at this ⊢
    rw [e 0 (by omega), e 1 (by omega), e (58 + 9 * k + 1) (by omega), e (58 + 9 * k + 2) (by omega), e (58 + 9 * k + 3) (by omega), e (58 + 9 * k + 4) (by omega), e (58 + 9 * k + 5) (by omega), e (58 + 9 * k + 7) (by omega), e (58 + 9 * k + 8) (by omega)]
    exact this
  · have hk6 : k < 6 := by omega
    have hk6' : k' < 6 := by omega
    rw [e 2 (by omega)] at hk hk'
    rw [e (58 + 9 * k + 2) (by omega)] at a
    rw [e (58 + 9 * k' + 2) (by omega)] at b
    rw [e (58 + 9 * k + 1) (by omega), e (58 + 9 * k' + 1) (by omega)] at c
    exact h4 k k' hk hk' a b c
  · have hi10 : i < 10 := by omega
    rw [e 6 (by omega)] at hi
    rw [e (114 + 3 * i) (by omega)]
    exact h5 i hi
/-- the plain facts out of it, as a walk wants them -/
theorem g_J.n {s : Nat → Int32} (h : g_J s) : (1 ≤ (s 0).toInt ∧ (s 0).toInt ≤ 7) ∧ (0 ≤ (s 1).toInt ∧ (s 1).toInt ≤ 8) ∧ (0 ≤ (s 2).toInt ∧ (s 2).toInt ≤ 6) ∧ (0 ≤ (s 4).toInt ∧ (s 4).toInt ≤ 7) ∧ (0 ≤ (s 6).toInt ∧ (s 6).toInt ≤ 10) ∧ (0 ≤ (s 12).toInt ∧ (s 12).toInt ≤ 12) ∧ (0 ≤ (s 3).toInt ∧ (s 3).toInt ≤ 100000) := by
  obtain ⟨⟨a0, a1, a2, a3, a4, -, a6, -, a12⟩, -⟩ := h
  refine ⟨a0, a1, a2, ⟨a4.1, by omega⟩, a6, a12, a3⟩
theorem g_J.h {s : Nat → Int32} (h : g_J s) {x : Int32} (h0 : 0 ≤ x.toInt) (h1 : x.toInt < (s 2).toInt) : (0 ≤ (s (58 + 9 * x.toNatClampNeg + 1)).toInt ∧ (s (58 + 9 * x.toNatClampNeg + 1)).toInt ≤ 7) ∧ (-1 ≤ (s (58 + 9 * x.toNatClampNeg + 5)).toInt ∧ (s (58 + 9 * x.toNatClampNeg + 5)).toInt ≤ 7) := by
  have hx := j_nat h0
  have hp := h.2.2.1 x.toNatClampNeg (by omega)
  have hn := h.n
  obtain ⟨a, -, b, -⟩ := hp
  omega

/-! ===== the model: deeds ===== -/
theorem z_X8_reason {s : Nat → Int32} {x1 x2 : Int32} (h : R_X8_reason s x1 x2 = 0) : 0 ≤ x2.toInt ∧ x2.toInt ≤ (s 0).toInt := by
  unfold R_X8_reason at h
  by_cases a : R_X8_stands s x1 = 0
  · simp [a] at h
  · by_cases b : R_X8_in s x2 0 (s 0) = 0
    · simp [a, b] at h
    · have := nz_X8_in b
      exact this
theorem fr_X8_sets {s : Nat → Int32} {a b : Int32} {n : Nat} (h2 : n ≠ 58 + 9 * a.toNatClampNeg + 2) (h3 : n ≠ 58 + 9 * a.toNatClampNeg + 3) (h4 : n ≠ 58 + 9 * a.toNatClampNeg + 4) (h8 : n ≠ 58 + 9 * a.toNatClampNeg + 8) : R_X8_sets s a b n = s n := by
  unfold R_X8_sets R_X8_sets_26
  simp only [apply_ite (fun f : Nat → Int32 => f n)]
  simp only [fr_X8_walks h2 h3 h4 h8, ite_self]
def R_X8_goes (s : Nat → Int32) (x1 : Int32) (x2 : Int32) : (Int32 × (Nat → Int32)) := (if (R_X8_isHelper s x1) = 0 then (1, s) else (if (R_X8_reason s x1 x2) = 0 then (0, (upd (R_X8_sets s x1 x2) 1303 ((R_X8_sets s x1 x2) (58 + 9 * x1.toNatClampNeg + 4)))) else (2, s)))
def R_X8_takes (s : Nat → Int32) (x1 : Int32) (x2 : Int32) : (Int32 × (Nat → Int32)) := (if (R_X8_isHelper s x1) = 0 then (1, s) else (if (R_X8_isRope s x2) = 0 then (1, s) else (if (R_X8_stands s x1) = 0 then (2, s) else (if (s (58 + 9 * x1.toNatClampNeg + 5)) = (-1) then (if (s (((34 + (3 * x2)) + 1).toNatClampNeg)) = 0 then (if (s (((34 + (3 * x2)) + 2).toNatClampNeg)) = (s (58 + 9 * x1.toNatClampNeg + 1)) then (0, (upd (R_X8_gives s x2 x1) 1303 ((R_X8_gives s x2 x1) ((34 + (3 * x2)).toNatClampNeg)))) else (2, s)) else (2, s)) else (2, s)))))
def R_X8_rigsAt (s : Nat → Int32) (x1 : Int32) : (Int32 × (Nat → Int32)) := (if (R_X8_isHelper s x1) = 0 then (1, s) else (if (R_X8_stands s x1) = 0 then (2, s) else (if (s (58 + 9 * x1.toNatClampNeg + 5)) = (-1) then (2, s) else (if (R_X8_isPassage s (s (58 + 9 * x1.toNatClampNeg + 1))) = 0 then (2, s) else (if (R_X8_isShut s (s (58 + 9 * x1.toNatClampNeg + 1))) = 0 then (2, s) else (if (R_X8_rigger s (s (58 + 9 * x1.toNatClampNeg + 1))) = (-1) then (if (R_X8_holdsAt s (s (58 + 9 * x1.toNatClampNeg + 5)) (s (58 + 9 * x1.toNatClampNeg + 1))) = 0 then (2, s) else (if (R_X8_isInTime s x1 (s (58 + 9 * x1.toNatClampNeg + 1)) 10) = 0 then (2, s) else (0, (upd (upd (upd s (58 + 9 * x1.toNatClampNeg + 2) 2) (58 + 9 * x1.toNatClampNeg + 4) 10) 1303 (s (58 + 9 * x1.toNatClampNeg + 1)))))) else (2, s)))))))
def R_X8_sends_115 (s_115 : Nat → Int32) : (Int32 × (Nat → Int32)) := (0, (upd s_115 1303 (s_115 (6))))
def R_X8_sends_43 (s : Nat → Int32) (x1 : Int32) : (Int32 × (Nat → Int32)) := (if (s (58 + 9 * x1.toNatClampNeg + 1)) = 0 then (R_X8_sends_115  (upd s (7) ((s (7)) + 1))) else (R_X8_sends_115  (upd (upd (upd (upd s ((112 + (3 * (s (6)))).toNatClampNeg) x1) (((112 + (3 * (s (6)))) + 1).toNatClampNeg) ((upd s ((112 + (3 * (s (6)))).toNatClampNeg) x1) (3))) (((112 + (3 * (s (6)))) + 2).toNatClampNeg) (s (58 + 9 * x1.toNatClampNeg + 1))) (6) (((upd (upd (upd s ((112 + (3 * (s (6)))).toNatClampNeg) x1) (((112 + (3 * (s (6)))) + 1).toNatClampNeg) ((upd s ((112 + (3 * (s (6)))).toNatClampNeg) x1) (3))) (((112 + (3 * (s (6)))) + 2).toNatClampNeg) (s (58 + 9 * x1.toNatClampNeg + 1))) (6)) + 1))))
def R_X8_sends (s : Nat → Int32) (x1 : Int32) : (Int32 × (Nat → Int32)) := (if (R_X8_isHelper s x1) = 0 then (1, s) else (if (R_X8_stands s x1) = 0 then (2, s) else (if (s (58 + 9 * x1.toNatClampNeg + 1)) ≤ 0 then (R_X8_sends_43 s x1 ) else (if (s (6)) = 10 then (2, s) else (R_X8_sends_43 s x1 )))))
def R_X8_minuteOf_306 (x1 : Int32) (s_249 : Nat → Int32) (t0_274 : Int32) (t0_306 : Int32) : (Nat → Int32) := (upd (upd s_249 (58 + 9 * x1.toNatClampNeg + 7) t0_274) (11) (((upd s_249 (58 + 9 * x1.toNatClampNeg + 7) t0_274) (11)) + t0_306))
def R_X8_minuteOf_274 (x1 : Int32) (s_249 : Nat → Int32) (t0_274 : Int32) : (Nat → Int32) := (if ((upd s_249 (58 + 9 * x1.toNatClampNeg + 7) t0_274) (58 + 9 * x1.toNatClampNeg + 7)) ≤ ((upd s_249 (58 + 9 * x1.toNatClampNeg + 7) t0_274) (58 + 9 * x1.toNatClampNeg + 0)) then (R_X8_minuteOf_306 x1 s_249 t0_274 0) else (R_X8_minuteOf_306 x1 s_249 t0_274 1))
def R_X8_minuteOf_249 (x1 : Int32) (s_249 : Nat → Int32) : (Nat → Int32) := (if (R_X8_isBelow s_249 x1) = 0 then (R_X8_minuteOf_274 x1 s_249 0) else (R_X8_minuteOf_274 x1 s_249 ((s_249 (58 + 9 * x1.toNatClampNeg + 7)) + 1)))
def R_X8_minuteOf_219 (x1 : Int32) (t0_24 : Int32) (s_219 : Nat → Int32) : (Nat → Int32) := (if t0_24 = 0 then (R_X8_minuteOf_249 x1 s_219) else (if (s_219 (58 + 9 * x1.toNatClampNeg + 6)) ≤ 0 then (R_X8_minuteOf_249 x1 s_219) else (R_X8_minuteOf_249 x1 (upd s_219 (58 + 9 * x1.toNatClampNeg + 6) ((s_219 (58 + 9 * x1.toNatClampNeg + 6)) - 1)))))
def R_X8_minuteOf_205 (x1 : Int32) (t0_24 : Int32) (s_66 : Nat → Int32) (t0_178 : Int32) : (Nat → Int32) := (if ((upd (upd s_66 (58 + 9 * x1.toNatClampNeg + 4) ((s_66 (58 + 9 * x1.toNatClampNeg + 4)) - 1)) (58 + 9 * x1.toNatClampNeg + 6) (((upd s_66 (58 + 9 * x1.toNatClampNeg + 4) ((s_66 (58 + 9 * x1.toNatClampNeg + 4)) - 1)) (58 + 9 * x1.toNatClampNeg + 6)) + t0_178)) (58 + 9 * x1.toNatClampNeg + 4)) = 0 then (R_X8_minuteOf_219 x1 t0_24 (R_X8_hasRigged (upd (upd s_66 (58 + 9 * x1.toNatClampNeg + 4) ((s_66 (58 + 9 * x1.toNatClampNeg + 4)) - 1)) (58 + 9 * x1.toNatClampNeg + 6) (((upd s_66 (58 + 9 * x1.toNatClampNeg + 4) ((s_66 (58 + 9 * x1.toNatClampNeg + 4)) - 1)) (58 + 9 * x1.toNatClampNeg + 6)) + t0_178)) x1)) else (R_X8_minuteOf_219 x1 t0_24 (upd (upd s_66 (58 + 9 * x1.toNatClampNeg + 4) ((s_66 (58 + 9 * x1.toNatClampNeg + 4)) - 1)) (58 + 9 * x1.toNatClampNeg + 6) (((upd s_66 (58 + 9 * x1.toNatClampNeg + 4) ((s_66 (58 + 9 * x1.toNatClampNeg + 4)) - 1)) (58 + 9 * x1.toNatClampNeg + 6)) + t0_178))))
def R_X8_minuteOf_178 (x1 : Int32) (t0_24 : Int32) (s_66 : Nat → Int32) (t0_178 : Int32) : (Nat → Int32) := (if ((upd (upd s_66 (58 + 9 * x1.toNatClampNeg + 4) ((s_66 (58 + 9 * x1.toNatClampNeg + 4)) - 1)) (58 + 9 * x1.toNatClampNeg + 6) (((upd s_66 (58 + 9 * x1.toNatClampNeg + 4) ((s_66 (58 + 9 * x1.toNatClampNeg + 4)) - 1)) (58 + 9 * x1.toNatClampNeg + 6)) + t0_178)) (58 + 9 * x1.toNatClampNeg + 4)) = 0 then (if (s_66 (58 + 9 * x1.toNatClampNeg + 2)) = 1 then (R_X8_minuteOf_219 x1 t0_24 (R_X8_arrives (upd (upd s_66 (58 + 9 * x1.toNatClampNeg + 4) ((s_66 (58 + 9 * x1.toNatClampNeg + 4)) - 1)) (58 + 9 * x1.toNatClampNeg + 6) (((upd s_66 (58 + 9 * x1.toNatClampNeg + 4) ((s_66 (58 + 9 * x1.toNatClampNeg + 4)) - 1)) (58 + 9 * x1.toNatClampNeg + 6)) + t0_178)) x1)) else (R_X8_minuteOf_205 x1 t0_24 s_66 t0_178 )) else (R_X8_minuteOf_205 x1 t0_24 s_66 t0_178 ))
def R_X8_minuteOf_131 (x1 : Int32) (t0_24 : Int32) (s_66 : Nat → Int32) (t0_131 : Int32) : (Nat → Int32) := (if (s_66 (58 + 9 * x1.toNatClampNeg + 2)) = 2 then (R_X8_minuteOf_178 x1 t0_24 s_66 0) else (if t0_131 = 0 then (R_X8_minuteOf_178 x1 t0_24 s_66 1) else (R_X8_minuteOf_178 x1 t0_24 s_66 2)))
def R_X8_minuteOf_126 (x1 : Int32) (t0_24 : Int32) (s_66 : Nat → Int32) : (Nat → Int32) := (R_X8_minuteOf_131 x1 t0_24 s_66 1)
def R_X8_minuteOf_130 (x1 : Int32) (t0_24 : Int32) (s_66 : Nat → Int32) : (Nat → Int32) := (R_X8_minuteOf_131 x1 t0_24 s_66 0)
def R_X8_minuteOf_94 (s : Nat → Int32) (x1 : Int32) (t0_24 : Int32) (s_66 : Nat → Int32) (t0_94 : Int32) : (Nat → Int32) := (if (s_66 (58 + 9 * x1.toNatClampNeg + 8)) = 1 then (R_X8_minuteOf_126 x1 t0_24 s_66 ) else (if t0_94 = 0 then (R_X8_minuteOf_130 x1 t0_24 s_66 ) else (if (s_66 (((13 + (s (58 + 9 * x1.toNatClampNeg + 1))) - 1).toNatClampNeg)) ≤ 0 then (R_X8_minuteOf_130 x1 t0_24 s_66 ) else (R_X8_minuteOf_126 x1 t0_24 s_66 ))))
def R_X8_minuteOf_66 (s : Nat → Int32) (x1 : Int32) (t0_24 : Int32) (s_66 : Nat → Int32) : (Nat → Int32) := (if (s_66 (58 + 9 * x1.toNatClampNeg + 2)) = 0 then (R_X8_minuteOf_219 x1 t0_24 s_66) else (if (s (58 + 9 * x1.toNatClampNeg + 1)) ≤ (s_66 (58 + 9 * x1.toNatClampNeg + 3)) then (R_X8_minuteOf_94 s x1 t0_24 s_66 0) else (R_X8_minuteOf_94 s x1 t0_24 s_66 1)))
def R_X8_minuteOf_24 (s : Nat → Int32) (x1 : Int32) (t0_24 : Int32) : (Nat → Int32) := (if (R_X8_stands s x1) = 0 then (R_X8_minuteOf_66 s x1 t0_24 s) else (if (s (58 + 9 * x1.toNatClampNeg + 1)) ≤ 0 then (R_X8_minuteOf_66 s x1 t0_24 s) else (if (R_X8_isInTime s x1 (s (58 + 9 * x1.toNatClampNeg + 1)) 1) = 0 then (if (R_X8_reason s x1 ((s (58 + 9 * x1.toNatClampNeg + 1)) - 1)) = 0 then (R_X8_minuteOf_66 s x1 t0_24 (R_X8_sets s x1 ((s (58 + 9 * x1.toNatClampNeg + 1)) - 1))) else (R_X8_minuteOf_66 s x1 t0_24 s)) else (R_X8_minuteOf_66 s x1 t0_24 s))))
def R_X8_minuteOf_23 (s : Nat → Int32) (x1 : Int32) : (Nat → Int32) := (R_X8_minuteOf_24 s x1 0)
def R_X8_minuteOf (s : Nat → Int32) (x1 : Int32) : (Nat → Int32) := (if (R_X8_stands s x1) = 0 then (R_X8_minuteOf_23 s x1 ) else (if (s (58 + 9 * x1.toNatClampNeg + 1)) = 0 then (R_X8_minuteOf_24 s x1 1) else (R_X8_minuteOf_23 s x1 )))
/-! ===== the model: holding, carrying ===== -/
def R_X8_hold_2 (s : Nat → Int32) : Nat → Nat → (Nat → Int32) → (Nat → Int32)
  | 0, _, _ => s
  | f + 1, k, s_2 => (if 178 ≤ (nI k) then s_2 else ((R_X8_hold_2 s f) (k + 1) (upd s_2 (200 + (nI k).toNatClampNeg) (s_2 ((nI k).toNatClampNeg)))))
def R_X8_hold (s : Nat → Int32) : (Nat → Int32) := (R_X8_hold_2 s 179 0 s)
def R_X8_ends_51 (s : Nat → Int32) (x1 : Int32) : Nat → Nat → (Nat → Int32) → (Int32 × (Nat → Int32))
  | 0, _, _ => (0, s)
  | f + 1, k, s_51 => (if 178 ≤ (nI k) then ((R_X8_tells (upd s_51 1300 ((s_51 1300) + 1)) x1).1, (R_X8_tells (upd s_51 1300 ((s_51 1300) + 1)) x1).2) else ((R_X8_ends_51 s x1 f) (k + 1) (upd s_51 (400 + ((178 * (s_51 1300)) + (nI k)).toNatClampNeg) (s_51 (200 + (nI k).toNatClampNeg)))))
def R_X8_ends_49 (s : Nat → Int32) (x1 : Int32) (s_49 : Nat → Int32) : (Int32 × (Nat → Int32)) := (R_X8_ends_51 s x1 179 0 s_49)
def R_X8_ends_10 (s : Nat → Int32) (x1 : Int32) : Nat → Nat → (Nat → Int32) → (Int32 × (Nat → Int32))
  | 0, _, _ => (0, s)
  | f + 1, k, s_10 => (if 534 ≤ (nI k) then (R_X8_ends_49 s x1 (upd s_10 1300 ((s_10 1300) - 1))) else ((R_X8_ends_10 s x1 f) (k + 1) (upd s_10 (400 + (nI k).toNatClampNeg) (s_10 (400 + ((nI k) + 178).toNatClampNeg)))))
def R_X8_ends (s : Nat → Int32) (x1 : Int32) : (Int32 × (Nat → Int32)) := (if (s 1300) = 4 then (R_X8_ends_10 s x1 535 0 s) else (R_X8_ends_49 s x1 s))
def R_X8_begins_113 (K_38 : Nat → (Nat → Int32) → (Nat → Int32)) (p : Nat) (s_38 : Nat → Int32) (t0_73 : Int32) (t0_113 : Int32) : (Nat → Int32) := (K_38 (p + 1) (upd (upd (upd s_38 ((13 + (nI p)).toNatClampNeg) t0_73) ((20 + (nI p)).toNatClampNeg) t0_113) ((27 + (nI p)).toNatClampNeg) (-1)))
def R_X8_begins_73 (K_38 : Nat → (Nat → Int32) → (Nat → Int32)) (p : Nat) (s_38 : Nat → Int32) (t0_73 : Int32) : (Nat → Int32) := (if (nI p) = 1 then (R_X8_begins_113 K_38 p s_38 t0_73 8) else (if (nI p) = 2 then (R_X8_begins_113 K_38 p s_38 t0_73 6) else (if (nI p) = 3 then (R_X8_begins_113 K_38 p s_38 t0_73 10) else (R_X8_begins_113 K_38 p s_38 t0_73 5))))
def R_X8_begins_38 (s : Nat → Int32) : Nat → Nat → (Nat → Int32) → (Nat → Int32)
  | 0, _, _ => s
  | f + 1, p, s_38 => (if 7 ≤ (nI p) then s_38 else (if (nI p) = 1 then (R_X8_begins_73 (R_X8_begins_38 s f) p s_38 20) else (if (nI p) = 3 then (R_X8_begins_73 (R_X8_begins_38 s f) p s_38 35) else (R_X8_begins_73 (R_X8_begins_38 s f) p s_38 0))))
def R_X8_begins_2 (s : Nat → Int32) (x1 : Int32) : Nat → Nat → (Nat → Int32) → (Nat → Int32)
  | 0, _, _ => s
  | f + 1, k, s_2 => (if 178 ≤ (nI k) then (R_X8_begins_38 s 8 0 (upd (upd s_2 (0) x1) (4) x1)) else ((R_X8_begins_2 s x1 f) (k + 1) (upd s_2 ((nI k).toNatClampNeg) 0)))
def R_X8_begins (s : Nat → Int32) (x1 : Int32) : (Nat → Int32) := (R_X8_begins_2 s x1 179 0 s)
def R_X8_carries_245 (s : Nat → Int32) (x1 : Int32) (s_153 : Nat → Int32) (t0_245 : Int32) : (Int32 × (Nat → Int32)) := (0, (upd (upd (upd (upd (upd (upd (upd s_153 (142) (s_153 (3))) (143) ((upd s_153 (142) (s_153 (3))) (4))) (144) x1) (12) (((upd (upd (upd s_153 (142) (s_153 (3))) (143) ((upd s_153 (142) (s_153 (3))) (4))) (144) x1) (12)) + t0_245)) (8) (((upd (upd (upd (upd s_153 (142) (s_153 (3))) (143) ((upd s_153 (142) (s_153 (3))) (4))) (144) x1) (12) (((upd (upd (upd s_153 (142) (s_153 (3))) (143) ((upd s_153 (142) (s_153 (3))) (4))) (144) x1) (12)) + t0_245)) (8)) + 1)) (5) 1) 1303 (3 * (s (((20 + (s (4))) - 1).toNatClampNeg)))))
def R_X8_carries_153 (s : Nat → Int32) (x1 : Int32) : Nat → Nat → (Nat → Int32) → (Int32 × (Nat → Int32))
  | 0, _, _ => (0, s)
  | f + 1, d, s_153 => (if (nI d) < 145 then (if 12 ≤ ((upd (upd (upd s_153 (142) (s_153 (3))) (143) ((upd s_153 (142) (s_153 (3))) (4))) (144) x1) (12)) then (R_X8_carries_245 s x1 s_153 0) else (R_X8_carries_245 s x1 s_153 1)) else ((R_X8_carries_153 s x1 f) (d - 1) (upd s_153 ((nI d).toNatClampNeg) (s_153 (((nI d) - 3).toNatClampNeg)))))
def R_X8_carries_142 (K_105 : Nat → (Nat → Int32) → (Int32 × (Nat → Int32))) (i : Nat) (s_142 : Nat → Int32) : (Int32 × (Nat → Int32)) := (K_105 (i + 1) s_142)
def R_X8_carries_105 (s : Nat → Int32) (x1 : Int32) : Nat → Nat → (Nat → Int32) → (Int32 × (Nat → Int32))
  | 0, _, _ => (0, s)
  | f + 1, i, s_105 => (if (s_105 (2)) ≤ (nI i) then (R_X8_carries_153 s x1 34 177 s_105) else (if ((x1 >>> ((nI i) &&& 31)) &&& 1) = 1 then (R_X8_carries_142 (R_X8_carries_105 s x1 f) i (R_X8_walks s_105 (nI i) ((s_105 (4)) - 1) (3 * (s (((20 + (s (4))) - 1).toNatClampNeg))) 1)) else (R_X8_carries_142 (R_X8_carries_105 s x1 f) i s_105)))
def R_X8_carries_77 (s : Nat → Int32) (x1 : Int32) (v2_35 : Int32) : (Int32 × (Nat → Int32)) := (if v2_35 = 0 then (2, s) else (R_X8_carries_105 s x1 7 0 s))
def R_X8_carries_70 (K_35 : Int32 → Nat → (Int32 × (Nat → Int32))) (h : Nat) (t0_70 : Int32) : (Int32 × (Nat → Int32)) := (K_35 t0_70 (h + 1))
def R_X8_carries_65 (K_35 : Int32 → Nat → (Int32 × (Nat → Int32))) (h : Nat) : (Int32 × (Nat → Int32)) := (R_X8_carries_70 K_35 h 1)
def R_X8_carries_35 (s : Nat → Int32) (x1 : Int32) : Nat → Int32 → Nat → (Int32 × (Nat → Int32))
  | 0, _, _ => (0, s)
  | f + 1, v2_35, h => (if (s (2)) ≤ (nI h) then (R_X8_carries_77 s x1 v2_35 ) else (if v2_35 = 0 then (R_X8_carries_77 s x1 v2_35 ) else (if ((x1 >>> ((nI h) &&& 31)) &&& 1) = 0 then (R_X8_carries_65 (R_X8_carries_35 s x1 f) h ) else (if (R_X8_canCarry s (nI h)) = 0 then (R_X8_carries_70 (R_X8_carries_35 s x1 f) h 0) else (R_X8_carries_65 (R_X8_carries_35 s x1 f) h )))))
def R_X8_carries (s : Nat → Int32) (x1 : Int32) : (Int32 × (Nat → Int32)) := (if (R_X8_in s x1 0 ((1 <<< ((s (2)) &&& 31)) - 1)) = 0 then (1, s) else (if 3 ≤ (R_X8_ones s x1) then (R_X8_carries_35 s x1 7 (R_X8_isCarryable s) 0) else (1, s)))
/-! ===== the invariant through one helper's minute ===== -/
def g_Hq (s : Nat → Int32) (h : Nat) : Prop :=
  (0 ≤ (s (58 + 9 * h + 1)).toInt ∧ (s (58 + 9 * h + 1)).toInt ≤ (s 0).toInt) ∧
  (s (58 + 9 * h + 2) = 0 ∨ s (58 + 9 * h + 2) = 1 ∨ s (58 + 9 * h + 2) = 2) ∧
  (-1 ≤ (s (58 + 9 * h + 5)).toInt ∧ (s (58 + 9 * h + 5)).toInt < (s 1).toInt) ∧
  (s (58 + 9 * h + 8) = 0 ∨ s (58 + 9 * h + 8) = 1) ∧
  (s (58 + 9 * h + 2) = 1 → (0 ≤ (s (58 + 9 * h + 3)).toInt ∧ (s (58 + 9 * h + 3)).toInt ≤ (s 0).toInt) ∧ ((s (58 + 9 * h + 3)).toInt = (s (58 + 9 * h + 1)).toInt + 1 ∨ (s (58 + 9 * h + 3)).toInt = (s (58 + 9 * h + 1)).toInt - 1) ∧ 1 ≤ (s (58 + 9 * h + 4)).toInt) ∧
  (s (58 + 9 * h + 2) = 2 → (s (58 + 9 * h + 1)).toInt < (s 0).toInt ∧ 0 ≤ (s (58 + 9 * h + 5)).toInt ∧ 1 ≤ (s (58 + 9 * h + 4)).toInt)
def g_H7 (s : Nat → Int32) (h : Nat) : Prop := s (58 + 9 * h + 2) ≠ 1 → s (58 + 9 * h + 1) = 0 → s (58 + 9 * h + 7) = 0
theorem g_Hp.q {s : Nat → Int32} {h : Nat} (a : g_Hp s h) : g_Hq s h := ⟨a.1, a.2.1, a.2.2.1, a.2.2.2.1, a.2.2.2.2.1, a.2.2.2.2.2.1⟩
theorem g_Hp.z {s : Nat → Int32} {h : Nat} (a : g_Hp s h) : g_H7 s h := a.2.2.2.2.2.2
theorem g_Hq.p {s : Nat → Int32} {h : Nat} (a : g_Hq s h) (b : g_H7 s h) : g_Hp s h := ⟨a.1, a.2.1, a.2.2.1, a.2.2.2.1, a.2.2.2.2.1, a.2.2.2.2.2, b⟩
/-- the invariant, but helper h's minutes below -/
def g_K (s : Nat → Int32) (h : Nat) : Prop :=
  ((1 ≤ (s 0).toInt ∧ (s 0).toInt ≤ 7) ∧ (0 ≤ (s 1).toInt ∧ (s 1).toInt ≤ 8) ∧ (0 ≤ (s 2).toInt ∧ (s 2).toInt ≤ 6) ∧ (0 ≤ (s 3).toInt ∧ (s 3).toInt ≤ 100000) ∧
   (0 ≤ (s 4).toInt ∧ (s 4).toInt ≤ (s 0).toInt) ∧ (s 5 = 0 ∨ s 5 = 1) ∧ (0 ≤ (s 6).toInt ∧ (s 6).toInt ≤ 10) ∧ (0 ≤ (s 9).toInt ∧ (s 9).toInt ≤ (s 10).toInt ∧ (s 10).toInt ≤ 100000) ∧ (0 ≤ (s 12).toInt ∧ (s 12).toInt ≤ 12)) ∧
  (∀ p : Nat, p < 7 → (0 ≤ (s (13 + p)).toInt ∧ (s (13 + p)).toInt ≤ 60) ∧ (1 ≤ (s (20 + p)).toInt ∧ (s (20 + p)).toInt ≤ 30) ∧ -1 ≤ (s (27 + p)).toInt ∧ (s (27 + p)).toInt < (s 1).toInt) ∧
  (∀ k : Nat, (k : Int) < (s 2).toInt → k ≠ h → g_Hp s k) ∧ g_Hq s h ∧
  (∀ h h' : Nat, (h : Int) < (s 2).toInt → (h' : Int) < (s 2).toInt → s (58 + 9 * h + 2) = 2 → s (58 + 9 * h' + 2) = 2 → s (58 + 9 * h + 1) = s (58 + 9 * h' + 1) → h = h') ∧
  (∀ i : Nat, (i : Int) < (s 6).toInt → 1 ≤ (s (114 + 3 * i)).toInt ∧ (s (114 + 3 * i)).toInt ≤ 7)
theorem g_K.of {s : Nat → Int32} {h : Nat} (a : g_J s) (hh : (h : Int) < (s 2).toInt) : g_K s h :=
  ⟨a.1, a.2.1, fun k hk _ => a.2.2.1 k hk, (a.2.2.1 h hh).q, a.2.2.2.1, a.2.2.2.2⟩
theorem g_K.j {s : Nat → Int32} {h : Nat} (a : g_K s h) (z : g_H7 s h) : g_J s :=
  ⟨a.1, a.2.1, fun k hk => if e : k = h then e ▸ a.2.2.2.1.p z else a.2.2.1 k hk e, a.2.2.2.2.1, a.2.2.2.2.2⟩
/-- what a step of helper h leaves alone -/
def g_Out (s t : Nat → Int32) (h : Nat) : Prop := ∀ n, n < 178 → n ≠ 4 → n ≠ 5 → n ≠ 11 → (n < 27 ∨ 58 ≤ n) → (n < 58 + 9 * h ∨ 58 + 9 * h + 9 ≤ n) → t n = s n
theorem g_K.step {s t : Nat → Int32} {h : Nat} (a : g_K s h) (hh : h < 6) (o : g_Out s t h)
    (b4 : 0 ≤ (t 4).toInt ∧ (t 4).toInt ≤ (s 0).toInt) (b5 : t 5 = 0 ∨ t 5 = 1)
    (b27 : ∀ p : Nat, p < 7 → -1 ≤ (t (27 + p)).toInt ∧ (t (27 + p)).toInt < (s 1).toInt)
    (q : g_Hq t h) (u : t (58 + 9 * h + 2) = 2 → s (58 + 9 * h + 2) = 2 ∧ t (58 + 9 * h + 1) = s (58 + 9 * h + 1)) : g_K t h := by
  obtain ⟨h1, h2, h3, h4, h5, h6⟩ := a
  have e : ∀ n, n < 13 → n ≠ 4 → n ≠ 5 → n ≠ 11 → t n = s n := fun n a b c d => o n (by omega) b c d (by omega) (by omega)
  have q2 : (s 2).toInt ≤ 6 := h1.2.2.1.2
  have q6 : (s 6).toInt ≤ 10 := h1.2.2.2.2.2.2.1.2
  have ek : ∀ k j : Nat, k < 6 → k ≠ h → j < 9 → t (58 + 9 * k + j) = s (58 + 9 * k + j) := fun k j a b c => o _ (by omega) (by omega) (by omega) (by omega) (by omega) (by omega)
  refine ⟨?_, fun p hp => ?_, fun k hk hn => ?_, q, fun k k' hk hk' x y z => ?_, fun i hi => ?_⟩
  · rw [e 0, e 1, e 2, e 3, e 6, e 9, e 10, e 12]
    · exact ⟨h1.1, h1.2.1, h1.2.2.1, h1.2.2.2.1, b4, b5, h1.2.2.2.2.2.2⟩
    all_goals decide
  · rw [e 1 (by decide) (by decide) (by decide) (by decide), o (13 + p) (by omega) (by omega) (by omega) (by omega) (by omega) (by omega), o (20 + p) (by omega) (by omega) (by omega) (by omega) (by omega) (by omega)]
    exact ⟨(h2 p hp).1, (h2 p hp).2.1, b27 p hp⟩
  · rw [e 2 (by decide) (by decide) (by decide) (by decide)] at hk
    have hk6 : k < 6 := by omega
    have := h3 k hk hn
    unfold g_Hp at this ⊢
    rw [e 0 (by decide) (by decide) (by decide) (by decide), e 1 (by decide) (by decide) (by decide) (by decide), ek k 1 hk6 hn (by decide), ek k 2 hk6 hn (by decide), ek k 3 hk6 hn (by decide), ek k 4 hk6 hn (by decide), ek k 5 hk6 hn (by decide), ek k 7 hk6 hn (by decide), ek k 8 hk6 hn (by decide)]
    exact this
  · rw [e 2 (by decide) (by decide) (by decide) (by decide)] at hk hk'
    have hk6 : k < 6 := by omega
    have hk6' : k' < 6 := by omega
    by_cases c : k = h <;> by_cases c' : k' = h
    · rw [c, c']
    · subst c
      rw [ek k' 2 hk6' c' (by decide)] at y
      rw [ek k' 1 hk6' c' (by decide), (u x).2] at z
      exact h5 k k' hk hk' (u x).1 y z
    · subst c'
      rw [ek k 2 hk6 c (by decide)] at x
      rw [ek k 1 hk6 c (by decide), (u y).2] at z
      exact h5 k k' hk hk' x (u y).1 z
    · rw [ek k 2 hk6 c (by decide)] at x
      rw [ek k' 2 hk6' c' (by decide)] at y
      rw [ek k 1 hk6 c (by decide), ek k' 1 hk6' c' (by decide)] at z
      exact h5 k k' hk hk' x y z
  · rw [e 6 (by decide) (by decide) (by decide) (by decide)] at hi
    rw [o (114 + 3 * i) (by omega) (by omega) (by omega) (by omega) (by omega) (by omega)]
    exact h6 i hi
theorem g_Out.refl {s : Nat → Int32} {h : Nat} : g_Out s s h := fun _ _ _ _ _ _ _ => rfl
/-- one more write, into helper h's numbers, or where nothing is asked -/
theorem g_Out.upd {s t : Nat → Int32} {h n : Nat} {x : Int32} (o : g_Out s t h) (hn : n = 4 ∨ n = 5 ∨ n = 11 ∨ (27 ≤ n ∧ n < 58) ∨ (58 + 9 * h ≤ n ∧ n < 58 + 9 * h + 9)) : g_Out s (upd t n x) h := fun k a b c d e f => by
  rw [g_upd_ne (by omega)]; exact o k a b c d e f
/-- a write that only counts: effort, minutes below, those late -/
theorem g_K.tail {s : Nat → Int32} {h n : Nat} {x : Int32} (a : g_K s h) (hh : h < 6) (hn : n = 11 ∨ n = 58 + 9 * h ∨ n = 58 + 9 * h + 6 ∨ n = 58 + 9 * h + 7) : g_K (upd s n x) h := by
  have e : ∀ j, j < 9 → j ≠ 0 → j ≠ 6 → j ≠ 7 → upd s n x (58 + 9 * h + j) = s (58 + 9 * h + j) := fun j a b c d => g_upd_ne (by omega)
  have e' : ∀ j, j < 58 → j ≠ 11 → upd s n x j = s j := fun j a b => g_upd_ne (by omega)
  refine a.step hh (g_Out.refl.upd (by omega)) ?_ ?_ (fun p hp => ?_) ?_ ?_
  · rw [e' 4 (by omega) (by omega)]; exact a.1.2.2.2.2.1
  · rw [e' 5 (by omega) (by omega)]; exact a.1.2.2.2.2.2.1
  · rw [e' (27 + p) (by omega) (by omega)]; exact (a.2.1 p hp).2.2
  · have := a.2.2.2.1
    unfold g_Hq at this ⊢
    rw [e 1 (by decide) (by decide) (by decide) (by decide), e 2 (by decide) (by decide) (by decide) (by decide), e 3 (by decide) (by decide) (by decide) (by decide), e 4 (by decide) (by decide) (by decide) (by decide), e 5 (by decide) (by decide) (by decide) (by decide), e 8 (by decide) (by decide) (by decide) (by decide), e' 0 (by decide) (by decide), e' 1 (by decide) (by decide)]
    exact this
  · rw [e 2 (by decide) (by decide) (by decide) (by decide), e 1 (by decide) (by decide) (by decide) (by decide)]
    exact fun z => ⟨z, rfl⟩
theorem K_274 {s : Nat → Int32} {x t : Int32} (hx : x.toNatClampNeg < 6) (a : g_K s x.toNatClampNeg) (z : s (58 + 9 * x.toNatClampNeg + 2) ≠ 1 → s (58 + 9 * x.toNatClampNeg + 1) = 0 → t = 0) : g_J (R_X8_minuteOf_274 x s t) := by
  have b := a.tail (n := 58 + 9 * x.toNatClampNeg + 7) (x := t) hx (by omega)
  have e : ∀ w, g_J (R_X8_minuteOf_306 x s t w) := fun w => by
    unfold R_X8_minuteOf_306
    refine (b.tail (n := 11) hx (by omega)).j ?_
    intro h2 h1
    rw [g_upd_ne (by omega), g_upd_ne (by omega)] at h2
    rw [g_upd_ne (by omega), g_upd_ne (by omega)] at h1
    rw [g_upd_ne (by omega), g_upd_eq]
    exact z h2 h1
  unfold R_X8_minuteOf_274
  split
  · exact e 0
  · exact e 1
theorem K_249 {s : Nat → Int32} {x : Int32} (hx : x.toNatClampNeg < 6) (a : g_K s x.toNatClampNeg) : g_J (R_X8_minuteOf_249 x s) := by
  unfold R_X8_minuteOf_249
  split
  · exact K_274 hx a (fun _ _ => rfl)
  · next c =>
    refine K_274 hx a (fun h2 h1 => ?_)
    exfalso
    apply c
    unfold R_X8_isBelow
    rw [if_neg h2, h1, if_pos (by decide)]
theorem K_219 {s : Nat → Int32} {x t : Int32} (hx : x.toNatClampNeg < 6) (a : g_K s x.toNatClampNeg) : g_J (R_X8_minuteOf_219 x t s) := by
  unfold R_X8_minuteOf_219
  split
  · exact K_249 hx a
  split
  · exact K_249 hx a
  · exact K_249 hx (a.tail hx (by omega))
/-- the effort of a minute, and a minute less of what is left -/
theorem K_left {s : Nat → Int32} {x w : Int32} (hx : x.toNatClampNeg < 6) (a : g_K s x.toNatClampNeg) : g_Out s (upd (upd s (58 + 9 * x.toNatClampNeg + 4) (s (58 + 9 * x.toNatClampNeg + 4) - 1)) (58 + 9 * x.toNatClampNeg + 6) w) x.toNatClampNeg := (g_Out.refl.upd (by omega)).upd (by omega)
theorem K_178 {s : Nat → Int32} {x t w : Int32} (hx : x.toNatClampNeg < 6) (hx' : (x.toNatClampNeg : Int) < (s 2).toInt) (a : g_J s) (n0 : s (58 + 9 * x.toNatClampNeg + 2) ≠ 0) : g_J (R_X8_minuteOf_178 x t s w) := by
  have K := g_K.of a hx'
  have Q := K.2.2.2.1
  have h4 : 1 ≤ (s (58 + 9 * x.toNatClampNeg + 4)).toInt := by
    rcases Q.2.1 with c | c | c
    · exact absurd c n0
    · exact (Q.2.2.2.2.1 c).2.2
    · exact (Q.2.2.2.2.2 c).2.2
  have B := a.1
  have O := K_left (w := s (58 + 9 * x.toNatClampNeg + 6) + w) hx K
  have e4 : ∀ y, (upd (upd s (58 + 9 * x.toNatClampNeg + 4) (s (58 + 9 * x.toNatClampNeg + 4) - 1)) (58 + 9 * x.toNatClampNeg + 6) y) (58 + 9 * x.toNatClampNeg + 4) = s (58 + 9 * x.toNatClampNeg + 4) - 1 := fun y => by rw [g_upd_ne (by omega), g_upd_eq]
  have e6 : (upd s (58 + 9 * x.toNatClampNeg + 4) (s (58 + 9 * x.toNatClampNeg + 4) - 1)) (58 + 9 * x.toNatClampNeg + 6) = s (58 + 9 * x.toNatClampNeg + 6) := g_upd_ne (by omega)
  have el : (s (58 + 9 * x.toNatClampNeg + 4) - 1).toInt = (s (58 + 9 * x.toNatClampNeg + 4)).toInt - 1 := j_subE rfl rfl (by have := Int32.toInt_lt (s (58 + 9 * x.toNatClampNeg + 4)); omega) (by have := Int32.toInt_lt (s (58 + 9 * x.toNatClampNeg + 4)); omega)
  unfold R_X8_minuteOf_178
  simp only [e4, e6]
  generalize hT : (upd (upd s (58 + 9 * x.toNatClampNeg + 4) (s (58 + 9 * x.toNatClampNeg + 4) - 1)) (58 + 9 * x.toNatClampNeg + 6) (s (58 + 9 * x.toNatClampNeg + 6) + w)) = T at O
  have f : ∀ n, n ≠ 58 + 9 * x.toNatClampNeg + 4 → n ≠ 58 + 9 * x.toNatClampNeg + 6 → T n = s n := fun n p q => by rw [← hT, g_upd_ne q, g_upd_ne p]
  have fk : ∀ j, j < 9 → j ≠ 4 → j ≠ 6 → T (58 + 9 * x.toNatClampNeg + j) = s (58 + 9 * x.toNatClampNeg + j) := fun j _ p q => f _ (by omega) (by omega)
  have t4 : T (58 + 9 * x.toNatClampNeg + 4) = s (58 + 9 * x.toNatClampNeg + 4) - 1 := by rw [← hT]; exact e4 _
  have g219 : ∀ T', g_K T' x.toNatClampNeg → g_J (R_X8_minuteOf_219 x t T') := fun T' k => K_219 hx k
  have tb : ∀ j, j < 58 → T j = s j := fun j h => f j (by omega) (by omega)
  have p27 : ∀ p : Nat, p < 7 → -1 ≤ (T (27 + p)).toInt ∧ (T (27 + p)).toInt < (s 1).toInt := fun p hp => by rw [tb _ (by omega)]; exact (a.2.1 p hp).2.2
  have r205 : (s (58 + 9 * x.toNatClampNeg + 4) - 1 = 0 → s (58 + 9 * x.toNatClampNeg + 2) ≠ 1) → g_J (R_X8_minuteOf_205 x t s w) := by
    intro nc
    unfold R_X8_minuteOf_205
    simp only [e4, e6, hT]
    split
    · next c =>
      have s2 : s (58 + 9 * x.toNatClampNeg + 2) = 2 := by
        rcases Q.2.1 with d | d | d
        · exact absurd d n0
        · exact absurd d (nc c)
        · exact d
      have q2 := Q.2.2.2.2.2 s2
      have ni := j_nat Q.1.1
      have nr := j_nat q2.2.1
      have b0 := B.1
      have b1 := B.2.1
      have i27 : (27 + s (58 + 9 * x.toNatClampNeg + 1)).toNatClampNeg = 27 + (s (58 + 9 * x.toNatClampNeg + 1)).toNatClampNeg := by
        have : (27 + s (58 + 9 * x.toNatClampNeg + 1)).toInt = 27 + (s (58 + 9 * x.toNatClampNeg + 1)).toInt := j_addE rfl rfl (by omega) (by omega)
        have := j_nat (x := 27 + s (58 + 9 * x.toNatClampNeg + 1)) (by omega)
        omega
      refine g219 _ ?_
      unfold R_X8_hasRigged
      rw [fk 1 (by decide) (by decide) (by decide), fk 5 (by decide) (by decide) (by decide), i27]
      unfold R_X8_leaves
      rw [g_upd_ne (a := 27 + (s (58 + 9 * x.toNatClampNeg + 1)).toNatClampNeg) (by omega), fk 5 (by decide) (by decide) (by decide)]
      have rl : (s (58 + 9 * x.toNatClampNeg + 5)).toInt < (s 1).toInt := Q.2.2.1.2
      have rr : ∀ j : Int32, ∀ v : Int, j.toInt = v → 0 ≤ v → v ≤ 2 → ((34 + 3 * s (58 + 9 * x.toNatClampNeg + 5)) + j).toNatClampNeg = 34 + 3 * (s (58 + 9 * x.toNatClampNeg + 5)).toNatClampNeg + v.toNat := by
        intro j v hj v0 v2
        have q1 : (3 * s (58 + 9 * x.toNatClampNeg + 5)).toInt = 3 * (s (58 + 9 * x.toNatClampNeg + 5)).toInt := j_mulE rfl rfl (by omega) (by omega)
        have q3 : (34 + 3 * s (58 + 9 * x.toNatClampNeg + 5)).toInt = 34 + 3 * (s (58 + 9 * x.toNatClampNeg + 5)).toInt := j_addE rfl q1 (by omega) (by omega)
        have q4 : ((34 + 3 * s (58 + 9 * x.toNatClampNeg + 5)) + j).toInt = 34 + 3 * (s (58 + 9 * x.toNatClampNeg + 5)).toInt + v := j_addE q3 hj (by omega) (by omega)
        have := j_nat (x := (34 + 3 * s (58 + 9 * x.toNatClampNeg + 5)) + j) (by omega)
        omega
      rw [rr 1 1 rfl (by decide) (by decide), rr 2 2 rfl (by decide) (by decide)]
      have o1 : (1 : Int).toNat = 1 := rfl
      have o2 : (2 : Int).toNat = 2 := rfl
      rw [o1, o2]
      refine K.step hx (((((O.upd (by omega)).upd (by omega)).upd (by omega)).upd (by omega)).upd (by omega)) ?_ ?_ (fun p hp => ?_) ?_ ?_
      · repeat rw [g_upd_ne (by omega)]
        rw [tb 4 (by omega)]; exact B.2.2.2.2.1
      · repeat rw [g_upd_ne (by omega)]
        rw [tb 5 (by omega)]; exact B.2.2.2.2.2.1
      · rw [g_upd_ne (by omega), g_upd_ne (by omega), g_upd_ne (by omega), g_upd_ne (by omega)]
        by_cases c27 : 27 + p = 27 + (s (58 + 9 * x.toNatClampNeg + 1)).toNatClampNeg
        · rw [c27, g_upd_eq]; omega
        · rw [g_upd_ne c27]; exact p27 p hp
      · have w : ∀ v1 v2 v3 : Int32, ∀ a1 a2 a3, 27 ≤ a1 ∧ a1 < 58 → 27 ≤ a2 ∧ a2 < 58 → 27 ≤ a3 ∧ a3 < 58 → g_Hq (upd (upd (upd (upd (upd T a1 v1) a2 v2) a3 v3) (58 + 9 * x.toNatClampNeg + 5) (-1)) (58 + 9 * x.toNatClampNeg + 2) 0) x.toNatClampNeg := by
          intro v1 v2 v3 a1 a2 a3 h1 h2 h3
          have y : ∀ j, j < 9 → j ≠ 2 → j ≠ 5 → (upd (upd (upd (upd (upd T a1 v1) a2 v2) a3 v3) (58 + 9 * x.toNatClampNeg + 5) (-1)) (58 + 9 * x.toNatClampNeg + 2) 0) (58 + 9 * x.toNatClampNeg + j) = T (58 + 9 * x.toNatClampNeg + j) := fun j _ _ _ => by
            rw [g_upd_ne (by omega), g_upd_ne (by omega), g_upd_ne (by omega), g_upd_ne (by omega), g_upd_ne (by omega)]
          have y0 : ∀ j, j < 27 → (upd (upd (upd (upd (upd T a1 v1) a2 v2) a3 v3) (58 + 9 * x.toNatClampNeg + 5) (-1)) (58 + 9 * x.toNatClampNeg + 2) 0) j = T j := fun j _ => by
            rw [g_upd_ne (by omega), g_upd_ne (by omega), g_upd_ne (by omega), g_upd_ne (by omega), g_upd_ne (by omega)]
          have y5 : (upd (upd (upd (upd (upd T a1 v1) a2 v2) a3 v3) (58 + 9 * x.toNatClampNeg + 5) (-1)) (58 + 9 * x.toNatClampNeg + 2) 0) (58 + 9 * x.toNatClampNeg + 5) = -1 := by rw [g_upd_ne (by omega), g_upd_eq]
          unfold g_Hq
          rw [y 1 (by decide) (by decide) (by decide), y 3 (by decide) (by decide) (by decide), y 4 (by decide) (by decide) (by decide), y 8 (by decide) (by decide) (by decide), y5, g_upd_eq, y0 0 (by decide), y0 1 (by decide), tb 0 (by decide), tb 1 (by decide), fk 1 (by decide) (by decide) (by decide), fk 8 (by decide) (by decide) (by decide)]
          refine ⟨Q.1, Or.inl rfl, ⟨by decide, ?_⟩, Q.2.2.2.1, fun h => absurd h (by decide), fun h => absurd h (by decide)⟩
          have : (-1 : Int32).toInt = -1 := rfl
          omega
        exact w _ _ _ _ _ _ (by omega) (by omega) (by omega)
      · intro h
        rw [g_upd_eq] at h
        exact absurd h (by decide)
    · next c =>
      refine g219 _ (K.step hx O ?_ ?_ p27 ?_ ?_)
      · rw [tb 4 (by omega)]; exact B.2.2.2.2.1
      · rw [tb 5 (by omega)]; exact B.2.2.2.2.2.1
      · have l1 : 1 ≤ (s (58 + 9 * x.toNatClampNeg + 4) - 1).toInt := by
          have := j_neR c rfl
          have z : (0 : Int32).toInt = 0 := rfl
          omega
        unfold g_Hq at Q ⊢
        rw [fk 1 (by decide) (by decide) (by decide), fk 2 (by decide) (by decide) (by decide), fk 3 (by decide) (by decide) (by decide), fk 5 (by decide) (by decide) (by decide), fk 8 (by decide) (by decide) (by decide), t4, tb 0 (by decide), tb 1 (by decide)]
        exact ⟨Q.1, Q.2.1, Q.2.2.1, Q.2.2.2.1, fun h => ⟨(Q.2.2.2.2.1 h).1, (Q.2.2.2.2.1 h).2.1, l1⟩, fun h => ⟨(Q.2.2.2.2.2 h).1, (Q.2.2.2.2.2 h).2.1, l1⟩⟩
      · rw [fk 2 (by decide) (by decide) (by decide), fk 1 (by decide) (by decide) (by decide)]
        exact fun h => ⟨h, rfl⟩
  split
  · next c =>
    split
    · next d =>
      have q1 := Q.2.2.2.2.1 d
      have aa : ∀ U : Nat → Int32, g_Out s U x.toNatClampNeg → (∀ j, j < 27 → j ≠ 4 → j ≠ 5 → U j = s j) → (∀ p : Nat, p < 7 → U (27 + p) = s (27 + p)) → (0 ≤ (U 4).toInt ∧ (U 4).toInt ≤ (s 0).toInt) → (U 5 = 0 ∨ U 5 = 1) → (U (58 + 9 * x.toNatClampNeg + 5) = s (58 + 9 * x.toNatClampNeg + 5)) → g_K (R_X8_arrives_32 T x U) x.toNatClampNeg := by
        intro U oU u0 u27 u4 u5 ur
        unfold R_X8_arrives_32
        rw [fk 3 (by decide) (by decide) (by decide)]
        refine K.step hx ((((oU.upd (by omega)).upd (by omega)).upd (by omega)).upd (by omega)) ?_ ?_ (fun p hp => ?_) ?_ ?_
        · rw [g_upd_ne (by omega), g_upd_ne (by omega), g_upd_ne (by omega), g_upd_ne (by omega)]; exact u4
        · rw [g_upd_ne (by omega), g_upd_ne (by omega), g_upd_ne (by omega), g_upd_ne (by omega)]; exact u5
        · rw [g_upd_ne (by omega), g_upd_ne (by omega), g_upd_ne (by omega), g_upd_ne (by omega), u27 p hp]; exact (a.2.1 p hp).2.2
        · have y0 : ∀ j, j < 27 → (upd (upd (upd (upd U (58 + 9 * x.toNatClampNeg + 1) (s (58 + 9 * x.toNatClampNeg + 3))) (58 + 9 * x.toNatClampNeg + 3) (-1)) (58 + 9 * x.toNatClampNeg + 8) 0) (58 + 9 * x.toNatClampNeg + 2) 0) j = U j := fun j _ => by
            rw [g_upd_ne (by omega), g_upd_ne (by omega), g_upd_ne (by omega), g_upd_ne (by omega)]
          have y1 : (upd (upd (upd (upd U (58 + 9 * x.toNatClampNeg + 1) (s (58 + 9 * x.toNatClampNeg + 3))) (58 + 9 * x.toNatClampNeg + 3) (-1)) (58 + 9 * x.toNatClampNeg + 8) 0) (58 + 9 * x.toNatClampNeg + 2) 0) (58 + 9 * x.toNatClampNeg + 1) = s (58 + 9 * x.toNatClampNeg + 3) := by
            rw [g_upd_ne (by omega), g_upd_ne (by omega), g_upd_ne (by omega), g_upd_eq]
          have y5 : (upd (upd (upd (upd U (58 + 9 * x.toNatClampNeg + 1) (s (58 + 9 * x.toNatClampNeg + 3))) (58 + 9 * x.toNatClampNeg + 3) (-1)) (58 + 9 * x.toNatClampNeg + 8) 0) (58 + 9 * x.toNatClampNeg + 2) 0) (58 + 9 * x.toNatClampNeg + 5) = s (58 + 9 * x.toNatClampNeg + 5) := by
            rw [g_upd_ne (by omega), g_upd_ne (by omega), g_upd_ne (by omega), g_upd_ne (by omega), ur]
          have y8 : (upd (upd (upd (upd U (58 + 9 * x.toNatClampNeg + 1) (s (58 + 9 * x.toNatClampNeg + 3))) (58 + 9 * x.toNatClampNeg + 3) (-1)) (58 + 9 * x.toNatClampNeg + 8) 0) (58 + 9 * x.toNatClampNeg + 2) 0) (58 + 9 * x.toNatClampNeg + 8) = 0 := by
            rw [g_upd_ne (by omega), g_upd_eq]
          unfold g_Hq
          rw [y1, y5, y8, g_upd_eq, y0 0 (by decide), y0 1 (by decide), u0 0 (by decide) (by decide) (by decide), u0 1 (by decide) (by decide) (by decide)]
          exact ⟨q1.1, Or.inl rfl, Q.2.2.1, Or.inl rfl, fun h => absurd h (by decide), fun h => absurd h (by decide)⟩
        · intro h
          rw [g_upd_eq] at h
          exact absurd h (by decide)
      refine g219 _ ?_
      unfold R_X8_arrives
      split
      · refine aa _ ((O.upd (by omega)).upd (by omega)) (fun j h h4 h5 => ?_) (fun p hp => ?_) ?_ ?_ ?_
        · rw [g_upd_ne (by omega), g_upd_ne (by omega)]; exact tb j (by omega)
        · rw [g_upd_ne (by omega), g_upd_ne (by omega)]; exact tb _ (by omega)
        · rw [g_upd_ne (by omega), g_upd_eq, fk 3 (by decide) (by decide) (by decide)]; exact q1.1
        · rw [g_upd_eq]; exact Or.inl rfl
        · rw [g_upd_ne (by omega), g_upd_ne (by omega)]; exact fk 5 (by decide) (by decide) (by decide)
      · refine aa _ O (fun j h h4 h5 => tb j (by omega)) (fun p hp => tb _ (by omega)) ?_ ?_ (fk 5 (by decide) (by decide) (by decide))
        · rw [tb 4 (by omega)]; exact B.2.2.2.2.1
        · rw [tb 5 (by omega)]; exact B.2.2.2.2.2.1
    · next d => exact r205 (fun _ => d)
  · next c => exact r205 (fun h => absurd h c)
theorem K_66 {s t : Nat → Int32} {x w : Int32} (hx : x.toNatClampNeg < 6) (hx' : (x.toNatClampNeg : Int) < (t 2).toInt) (a : g_J t) : g_J (R_X8_minuteOf_66 s x w t) := by
  unfold R_X8_minuteOf_66
  split
  · exact K_219 hx (g_K.of a hx')
  · next n0 =>
    have r131 : ∀ v, g_J (R_X8_minuteOf_131 x w t v) := fun v => by
      unfold R_X8_minuteOf_131
      split
      · exact K_178 hx hx' a n0
      split
      · exact K_178 hx hx' a n0
      · exact K_178 hx hx' a n0
    have r94 : ∀ v, g_J (R_X8_minuteOf_94 s x w t v) := fun v => by
      unfold R_X8_minuteOf_94 R_X8_minuteOf_126 R_X8_minuteOf_130
      repeat' split
      all_goals exact r131 _
    split
    · exact r94 _
    · exact r94 _
theorem in_ne {s : Nat → Int32} {a b c : Int32} (h : ¬ R_X8_in s a b c = 0) : b.toInt ≤ a.toInt ∧ a.toInt ≤ c.toInt := by
  unfold R_X8_in at h
  split at h
  · exact absurd rfl h
  · next c1 =>
    split at h
    · exact absurd rfl h
    · next c2 => exact ⟨j_nlt c1, j_nlt c2⟩
theorem J_walks {s : Nat → Int32} {x b c d : Int32} (a : g_J s) (hx : x.toNatClampNeg < 6) (hx' : (x.toNatClampNeg : Int) < (s 2).toInt) (hb : 0 ≤ b.toInt ∧ b.toInt ≤ (s 0).toInt) (hb' : b.toInt = (s (58 + 9 * x.toNatClampNeg + 1)).toInt + 1 ∨ b.toInt = (s (58 + 9 * x.toNatClampNeg + 1)).toInt - 1) (hc : 1 ≤ c.toInt) (hd : d = 0 ∨ d = 1) : g_J (R_X8_walks s x b c d) := by
  have K := g_K.of a hx'
  have Q := K.2.2.2.1
  have e1 : ∀ n, n < 58 → R_X8_walks s x b c d n = s n := fun n h => fr_X8_walks (by omega) (by omega) (by omega) (by omega)
  have e2 : ∀ j, j < 9 → j ≠ 2 → j ≠ 3 → j ≠ 4 → j ≠ 8 → R_X8_walks s x b c d (58 + 9 * x.toNatClampNeg + j) = s (58 + 9 * x.toNatClampNeg + j) := fun n h _ _ _ _ => fr_X8_walks (by omega) (by omega) (by omega) (by omega)
  have f2 : R_X8_walks s x b c d (58 + 9 * x.toNatClampNeg + 2) = 1 := by
    unfold R_X8_walks
    rw [g_upd_ne (by omega), g_upd_ne (by omega), g_upd_ne (by omega), g_upd_eq]
  have f3 : R_X8_walks s x b c d (58 + 9 * x.toNatClampNeg + 3) = b := by
    unfold R_X8_walks
    rw [g_upd_ne (by omega), g_upd_ne (by omega), g_upd_eq]
  have f4 : R_X8_walks s x b c d (58 + 9 * x.toNatClampNeg + 4) = c := by
    unfold R_X8_walks
    rw [g_upd_ne (by omega), g_upd_eq]
  have f8 : R_X8_walks s x b c d (58 + 9 * x.toNatClampNeg + 8) = d := by
    unfold R_X8_walks
    rw [g_upd_eq]
  refine (g_K.step (t := R_X8_walks s x b c d) K hx (fun n _ _ _ _ _ h => fr_X8_walks (by omega) (by omega) (by omega) (by omega)) ?_ ?_ (fun p hp => ?_) ?_ ?_).j ?_
  · rw [e1 4 (by decide)]; exact a.1.2.2.2.2.1
  · rw [e1 5 (by decide)]; exact a.1.2.2.2.2.2.1
  · rw [e1 _ (by omega)]; exact (a.2.1 p hp).2.2
  · unfold g_Hq
    rw [f2, f3, f4, f8, e2 1 (by decide) (by decide) (by decide) (by decide) (by decide), e2 5 (by decide) (by decide) (by decide) (by decide) (by decide), e1 0 (by decide), e1 1 (by decide)]
    exact ⟨Q.1, Or.inr (Or.inl rfl), Q.2.2.1, hd, fun _ => ⟨hb, hb', hc⟩, fun h => absurd h (by decide)⟩
  · intro h; rw [f2] at h; exact absurd h (by decide)
  · intro h; exact absurd f2 h
theorem J_sets {s : Nat → Int32} {x b : Int32} (a : g_J s) (hx : x.toNatClampNeg < 6) (hx' : (x.toNatClampNeg : Int) < (s 2).toInt) (hr : R_X8_reason s x b = 0) : g_J (R_X8_sets s x b) ∧ (R_X8_sets s x b) 2 = s 2 := by
  have B := a.1
  have Q := (a.2.2.1 _ hx').1
  unfold R_X8_reason at hr
  split at hr
  · exact absurd hr (by decide)
  split at hr
  · exact absurd hr (by decide)
  next c =>
  have ⟨i1, i2⟩ := in_ne c
  have z0 : (0 : Int32).toInt = 0 := rfl
  have em : ((s (58 + 9 * x.toNatClampNeg + 1)) - 1).toInt = (s (58 + 9 * x.toNatClampNeg + 1)).toInt - 1 := j_subE rfl rfl (by omega) (by omega)
  have ep : ((s (58 + 9 * x.toNatClampNeg + 1)) + 1).toInt = (s (58 + 9 * x.toNatClampNeg + 1)).toInt + 1 := j_addE rfl rfl (by omega) (by omega)
  have hb' : b.toInt = (s (58 + 9 * x.toNatClampNeg + 1)).toInt + 1 ∨ b.toInt = (s (58 + 9 * x.toNatClampNeg + 1)).toInt - 1 := by
    split at hr
    · next d => right; rw [d, em]
    split at hr
    · next d => left; rw [d, ep]
    · exact absurd hr (by decide)
  have key : ∀ t : Int32, 0 ≤ t.toInt → t.toInt < 7 → g_J (R_X8_sets_26 s x b t) := fun t h0 h7 => by
    unfold R_X8_sets_26
    have e20 : (20 + t).toNatClampNeg = 20 + t.toNatClampNeg := by
      have q : (20 + t).toInt = 20 + t.toInt := j_addE rfl rfl (by omega) (by omega)
      have := j_nat (x := 20 + t) (by omega)
      have := j_nat h0
      omega
    have h7' : t.toNatClampNeg < 7 := by have := j_nat h0; omega
    rw [e20]
    exact J_walks a hx hx' ⟨by omega, i2⟩ hb' (a.2.1 _ h7').2.1.1 (Or.inl rfl)
  refine ⟨?_, fr_X8_sets (by omega) (by omega) (by omega) (by omega)⟩
  unfold R_X8_sets
  split
  · next d =>
    have d' := j_le d
    have eb : (b - 1).toInt = b.toInt - 1 := j_subE rfl rfl (by omega) (by omega)
    exact key _ (by omega) (by omega)
  · next d =>
    have d' := j_nle d
    exact key _ (by omega) (by omega)
theorem J_minuteOf {s : Nat → Int32} {x : Int32} (h : g_J s) (h0 : 0 ≤ x.toInt) (h1 : x.toInt < (s 2).toInt) : g_J (R_X8_minuteOf s x) := by
  have n := j_nat h0
  have hx' : (x.toNatClampNeg : Int) < (s 2).toInt := by omega
  have hx : x.toNatClampNeg < 6 := by have := h.1.2.2.1.2; omega
  have r24 : ∀ v, g_J (R_X8_minuteOf_24 s x v) := fun v => by
    unfold R_X8_minuteOf_24
    split
    · exact K_66 hx hx' h
    split
    · exact K_66 hx hx' h
    split
    · split
      · next c =>
        have j := J_sets h hx hx' c
        exact K_66 hx (by rw [j.2]; exact hx') j.1
      · exact K_66 hx hx' h
    · exact K_66 hx hx' h
  unfold R_X8_minuteOf R_X8_minuteOf_23
  split
  · exact r24 _
  split
  · exact r24 _
  · exact r24 _

/-! ===== the model: minutes ===== -/
theorem J_hi {s : Nat → Int32} {n : Nat} {x : Int32} (hn : 178 ≤ n) (h : g_J s) : g_J (upd s n x) := h.congr fun k hk => g_upd_ne (by omega)
def R_X8_minute_180 (v1_65 : Int32) (s_65 : Nat → Int32) (t0_180 : Int32) : (Int32 × (Nat → Int32)) := (v1_65, (upd (upd (upd s_65 (6) t0_180) (7) (((upd s_65 (6) t0_180) (7)) + v1_65)) (3) (((upd (upd s_65 (6) t0_180) (7) (((upd s_65 (6) t0_180) (7)) + v1_65)) (3)) + 1)))
def R_X8_minute_164 (s_2 : Nat → Int32) (v1_65 : Int32) (y : Nat) (s_65 : Nat → Int32) : (Int32 × (Nat → Int32)) := (if (R_X8_in s_2 (s_2 (3)) (s_2 (9)) ((s_2 (10)) - 1)) = 0 then (R_X8_minute_180 v1_65 s_65 (nI y)) else (R_X8_minute_180 v1_65 s_65 (s_2 (6))))
def R_X8_minute_158 (K_65 : Int32 → Nat → Nat → (Nat → Int32) → (Int32 × (Nat → Int32))) (k : Nat) (v1_158 : Int32) (y2 : Nat) (s_158 : Nat → Int32) : (Int32 × (Nat → Int32)) := (K_65 v1_158 y2 (k + 1) s_158)
def R_X8_minute_118 (s : Nat → Int32) (K_65 : Int32 → Nat → Nat → (Nat → Int32) → (Int32 × (Nat → Int32))) (v1_65 : Int32) (y : Nat) (k : Nat) : Nat → Nat → (Nat → Int32) → (Int32 × (Nat → Int32))
  | 0, _, _ => (0, s)
  | f + 1, j, s_118 => (if 3 ≤ (nI j) then (R_X8_minute_158 K_65 k v1_65 (y + 1) s_118) else ((R_X8_minute_118 s K_65 v1_65 y k f) (j + 1) (upd s_118 (((112 + (3 * (nI y))) + (nI j)).toNatClampNeg) (s_118 (((112 + (3 * (nI k))) + (nI j)).toNatClampNeg)))))
def R_X8_minute_65 (s : Nat → Int32) (s_2 : Nat → Int32) : Nat → Int32 → Nat → Nat → (Nat → Int32) → (Int32 × (Nat → Int32))
  | 0, _, _, _, _ => (0, s)
  | f + 1, v1_65, y, k, s_65 => (if (s_2 (6)) ≤ (nI k) then (R_X8_minute_164 s_2 v1_65 y s_65 ) else (if (R_X8_in s_2 (s_2 (3)) (s_2 (9)) ((s_2 (10)) - 1)) = 0 then (if ((upd s_65 (((112 + (3 * (nI k))) + 2).toNatClampNeg) ((s_65 (((112 + (3 * (nI k))) + 2).toNatClampNeg)) - 1)) (((112 + (3 * (nI k))) + 2).toNatClampNeg)) = 0 then (R_X8_minute_158 (R_X8_minute_65 s s_2 f) k (v1_65 + 1) y (upd s_65 (((112 + (3 * (nI k))) + 2).toNatClampNeg) ((s_65 (((112 + (3 * (nI k))) + 2).toNatClampNeg)) - 1))) else (R_X8_minute_118 s (R_X8_minute_65 s s_2 f) v1_65 y k 4 0 (upd s_65 (((112 + (3 * (nI k))) + 2).toNatClampNeg) ((s_65 (((112 + (3 * (nI k))) + 2).toNatClampNeg)) - 1)))) else (R_X8_minute_164 s_2 v1_65 y s_65 )))
def R_X8_minute_2 (s : Nat → Int32) : Nat → Nat → (Nat → Int32) → (Int32 × (Nat → Int32))
  | 0, _, _ => (0, s)
  | f + 1, h, s_2 => (if (s_2 (2)) ≤ (nI h) then (R_X8_minute_65 s s_2 11 0 0 0 s_2) else ((R_X8_minute_2 s f) (h + 1) (R_X8_minuteOf s_2 (nI h))))
def R_X8_minute (s : Nat → Int32) : (Int32 × (Nat → Int32)) := (R_X8_minute_2 s 7 0 s)
/-! ===== the invariant through a minute ===== -/
theorem J_msgs {s t : Nat → Int32} (a : g_J s) (o : ∀ n, n < 178 → n < 112 ∨ 142 ≤ n → n ≠ 3 → n ≠ 6 → n ≠ 7 → t n = s n) (t3 : 0 ≤ (t 3).toInt ∧ (t 3).toInt ≤ 100000) (t6 : 0 ≤ (t 6).toInt ∧ (t 6).toInt ≤ 10) (tm : ∀ i : Nat, (i : Int) < (t 6).toInt → 1 ≤ (t (114 + 3 * i)).toInt ∧ (t (114 + 3 * i)).toInt ≤ 7) : g_J t := by
  obtain ⟨h1, h2, h3, h4, h5⟩ := a
  have q2 : (s 2).toInt ≤ 6 := h1.2.2.1.2
  have e : ∀ n, n < 112 → n ≠ 3 → n ≠ 6 → n ≠ 7 → t n = s n := fun n a b c d => o n (by omega) (by omega) b c d
  refine ⟨?_, fun p hp => ?_, fun k hk => ?_, fun k k' hk hk' a b c => ?_, tm⟩
  · rw [e 0, e 1, e 2, e 4, e 5, e 9, e 10, e 12]
    · exact ⟨h1.1, h1.2.1, h1.2.2.1, t3, h1.2.2.2.2.1, h1.2.2.2.2.2.1, t6, h1.2.2.2.2.2.2.2⟩
    all_goals decide
  · rw [e (13 + p) (by omega) (by omega) (by omega) (by omega), e (20 + p) (by omega) (by omega) (by omega) (by omega), e (27 + p) (by omega) (by omega) (by omega) (by omega), e 1 (by decide) (by decide) (by decide) (by decide)]
    exact h2 p hp
  · rw [e 2 (by decide) (by decide) (by decide) (by decide)] at hk
    have hk6 : k < 6 := by omega
    have := h3 k hk
    unfold g_Hp at this ⊢
    have f : ∀ j, j < 9 → t (58 + 9 * k + j) = s (58 + 9 * k + j) := fun j _ => e _ (by omega) (by omega) (by omega) (by omega)
    rw [e 0 (by decide) (by decide) (by decide) (by decide), e 1 (by decide) (by decide) (by decide) (by decide), f 1 (by decide), f 2 (by decide), f 3 (by decide), f 4 (by decide), f 5 (by decide), f 7 (by decide), f 8 (by decide)]
    exact this
  · rw [e 2 (by decide) (by decide) (by decide) (by decide)] at hk hk'
    have hk6 : k < 6 := by omega
    have hk6' : k' < 6 := by omega
    rw [e (58 + 9 * k + 2) (by omega) (by omega) (by omega) (by omega)] at a
    rw [e (58 + 9 * k' + 2) (by omega) (by omega) (by omega) (by omega)] at b
    rw [e (58 + 9 * k + 1) (by omega) (by omega) (by omega) (by omega), e (58 + 9 * k' + 1) (by omega) (by omega) (by omega) (by omega)] at c
    exact h4 k k' hk hk' a b c
theorem ix_msg {k j : Nat} (hk : k ≤ 10) (hj : j ≤ 2) {w : Int32} (hw : w.toInt = j) : ((112 + 3 * nI k) + w).toNatClampNeg = 112 + 3 * k + j := by
  have q0 : (nI k).toInt = k := nI_toInt (by omega)
  have q1 : (3 * nI k).toInt = 3 * k := j_mulE rfl q0 (by omega) (by omega)
  have q3 : (112 + 3 * nI k).toInt = 112 + 3 * k := j_addE rfl q1 (by omega) (by omega)
  have q4 : ((112 + 3 * nI k) + w).toInt = 112 + 3 * k + j := j_addE q3 hw (by omega) (by omega)
  have := j_nat (x := (112 + 3 * nI k) + w) (by omega)
  omega
theorem R_118 {s S : Nat → Int32} {K : Int32 → Nat → Nat → (Nat → Int32) → (Int32 × (Nat → Int32))} {v : Int32} {y k : Nat} (hy : y ≤ 10) (hk : k ≤ 10) : R_X8_minute_118 s K v y k 4 0 S = K v (y + 1) (k + 1) (upd (upd (upd S (112 + 3 * y) (S (112 + 3 * k))) (112 + 3 * y + 1) ((upd S (112 + 3 * y) (S (112 + 3 * k))) (112 + 3 * k + 1))) (112 + 3 * y + 2) ((upd (upd S (112 + 3 * y) (S (112 + 3 * k))) (112 + 3 * y + 1) ((upd S (112 + 3 * y) (S (112 + 3 * k))) (112 + 3 * k + 1))) (112 + 3 * k + 2))) := by
  rw [R_X8_minute_118, if_neg (by decide), R_X8_minute_118, if_neg (by decide), R_X8_minute_118, if_neg (by decide), R_X8_minute_118, if_pos (by decide)]
  unfold R_X8_minute_158
  rw [ix_msg (k := y) (j := 0) hy (by decide) (by decide), ix_msg (k := k) (j := 0) hk (by decide) (by decide), ix_msg (k := y) (j := 1) hy (by decide) (by decide), ix_msg (k := k) (j := 1) hk (by decide) (by decide), ix_msg (k := y) (j := 2) hy (by decide) (by decide), ix_msg (k := k) (j := 2) hk (by decide) (by decide)]
  rfl
theorem t_180 {v w : Int32} {t : Nat → Int32} : (R_X8_minute_180 v t w).2 3 = t 3 + 1 := by
  unfold R_X8_minute_180; dsimp only
  rw [g_upd_eq, g_upd_ne (by decide), g_upd_ne (by decide)]
theorem c_180 {v w : Int32} {t : Nat → Int32} : (R_X8_minute_180 v t w).2 6 = w := by
  unfold R_X8_minute_180; dsimp only
  rw [g_upd_ne (by decide), g_upd_ne (by decide), g_upd_eq]
theorem o_180 {v w : Int32} {t : Nat → Int32} {n : Nat} (h3 : n ≠ 3) (h6 : n ≠ 6) (h7 : n ≠ 7) : (R_X8_minute_180 v t w).2 n = t n := by
  unfold R_X8_minute_180; dsimp only
  rw [g_upd_ne h3, g_upd_ne h7, g_upd_ne h6]
theorem K_164 {p t : Nat → Int32} {v : Int32} {y : Nat} (a : g_J p) (h3 : (p 3).toInt < 100000) (hy : (y : Int) ≤ (p 6).toInt) (o : ∀ n, n < 178 → n < 112 ∨ 142 ≤ n → t n = p n) (ty : ∀ i : Nat, i < y → 1 ≤ (t (114 + 3 * i)).toInt ∧ (t (114 + 3 * i)).toInt ≤ 7) (tq : R_X8_in p (p 3) (p 9) ((p 10) - 1) ≠ 0 → ∀ i : Nat, (i : Int) < (p 6).toInt → t (114 + 3 * i) = p (114 + 3 * i)) : g_J (R_X8_minute_164 p v y t).2 ∧ ((R_X8_minute_164 p v y t).2 3).toInt = (p 3).toInt + 1 := by
  have B := a.1
  have q6 : (p 6).toInt ≤ 10 := B.2.2.2.2.2.2.1.2
  have key : ∀ w : Int32, (0 ≤ w.toInt ∧ w.toInt ≤ 10) → (∀ i : Nat, (i : Int) < w.toInt → 1 ≤ (t (114 + 3 * i)).toInt ∧ (t (114 + 3 * i)).toInt ≤ 7) → g_J (R_X8_minute_180 v t w).2 ∧ ((R_X8_minute_180 v t w).2 3).toInt = (p 3).toInt + 1 := by
    intro w hw hm
    have e3 : ((R_X8_minute_180 v t w).2 3).toInt = (p 3).toInt + 1 := by
      rw [t_180, o 3 (by decide) (by decide)]
      exact j_addE rfl rfl (by omega) (by omega)
    refine ⟨J_msgs a (fun n h h' h3 h6 h7 => ?_) ?_ ?_ (fun i hi => ?_), e3⟩
    · rw [o_180 h3 h6 h7]; exact o n h h'
    · rw [e3]; omega
    · rw [c_180]; exact hw
    · rw [c_180] at hi
      rw [o_180 (by omega) (by omega) (by omega)]
      exact hm i hi
  unfold R_X8_minute_164
  split
  · have q : (nI y).toInt = y := nI_toInt (by omega)
    exact key _ ⟨by omega, by omega⟩ (fun i hi => ty i (by omega))
  · next c =>
    exact key _ B.2.2.2.2.2.2.1 (fun i hi => by rw [tq c i hi]; exact a.2.2.2.2 i hi)
theorem K_65 {s p : Nat → Int32} (a : g_J p) (h3 : (p 3).toInt < 100000) : ∀ (f : Nat) (v : Int32) (y k : Nat) (t : Nat → Int32), y ≤ k → (k : Int) ≤ (p 6).toInt → (p 6).toInt < f + k → (∀ n, n < 178 → n < 112 ∨ 142 ≤ n → t n = p n) → (∀ i : Nat, i < y → 1 ≤ (t (114 + 3 * i)).toInt ∧ (t (114 + 3 * i)).toInt ≤ 7) → (∀ i : Nat, k ≤ i → (i : Int) < (p 6).toInt → t (114 + 3 * i) = p (114 + 3 * i)) → (R_X8_in p (p 3) (p 9) ((p 10) - 1) ≠ 0 → ∀ i : Nat, (i : Int) < (p 6).toInt → t (114 + 3 * i) = p (114 + 3 * i)) → g_J (R_X8_minute_65 s p f v y k t).2 ∧ ((R_X8_minute_65 s p f v y k t).2 3).toInt = (p 3).toInt + 1 := by
  have q6 : (p 6).toInt ≤ 10 := a.1.2.2.2.2.2.2.1.2
  intro f
  induction f with
  | zero => intro v y k t _ h1 h2; exact absurd h2 (by omega)
  | succ f ih =>
    intro v y k t hy hk hf o ty tk tq
    have qk : (nI k).toInt = k := nI_toInt (by omega)
    rw [R_X8_minute_65]
    split
    · exact K_164 a h3 (by omega) o ty tq
    next c =>
    have c' := j_nle c
    split
    next d =>
      have ek : ((112 + 3 * nI k) + 2).toNatClampNeg = 114 + 3 * k := by rw [ix_msg (j := 2) (by omega) (by decide) (by decide)]; omega
      rw [ek, g_upd_eq]
      have m1 : t (114 + 3 * k) = p (114 + 3 * k) := tk k (Nat.le_refl _) (by omega)
      have m2 := a.2.2.2.2 k (by omega)
      have e1 : (t (114 + 3 * k) - 1).toInt = (p (114 + 3 * k)).toInt - 1 := by
        rw [m1]; exact j_subE rfl rfl (by omega) (by omega)
      split
      · unfold R_X8_minute_158
        refine ih _ y (k + 1) _ (by omega) (by omega) (by omega) (fun n h h' => ?_) (fun i hi => ?_) (fun i h h' => ?_) (fun h => absurd d h)
        · rw [g_upd_ne (by omega)]; exact o n h h'
        · rw [g_upd_ne (by omega)]; exact ty i hi
        · rw [g_upd_ne (by omega)]; exact tk i (by omega) h'
      · next c0 =>
        have c0' := j_neR c0 (b := 0) rfl
        rw [R_118 (by omega) (by omega)]
        refine ih _ (y + 1) (k + 1) _ (by omega) (by omega) (by omega) (fun n h h' => ?_) (fun i hi => ?_) (fun i h h' => ?_) (fun h => absurd d h)
        · rw [g_upd_ne (by omega), g_upd_ne (by omega), g_upd_ne (by omega), g_upd_ne (by omega)]; exact o n h h'
        · by_cases z : i = y
          · subst z
            rw [show 114 + 3 * i = 112 + 3 * i + 2 by omega, g_upd_eq, g_upd_ne (by omega), g_upd_ne (by omega), show 112 + 3 * k + 2 = 114 + 3 * k by omega, g_upd_eq, e1]
            omega
          · rw [g_upd_ne (by omega), g_upd_ne (by omega), g_upd_ne (by omega), g_upd_ne (by omega)]; exact ty i (by omega)
        · rw [g_upd_ne (by omega), g_upd_ne (by omega), g_upd_ne (by omega), g_upd_ne (by omega)]; exact tk i (by omega) h'
    next d =>
      exact K_164 a h3 (by omega) o ty tq
/-- what a helper's minute leaves alone -/
def g_Fr (s t : Nat → Int32) : Prop := ∀ n, (n < 27 ∨ 178 ≤ n) → n ≠ 4 → n ≠ 5 → n ≠ 11 → t n = s n
theorem g_Fr.trans {s t u : Nat → Int32} (a : g_Fr s t) (b : g_Fr t u) : g_Fr s u := fun n h p q r => (b n h p q r).trans (a n h p q r)
theorem g_Fr.refl {s : Nat → Int32} : g_Fr s s := fun _ _ _ _ _ => rfl
theorem g_Fr.upd {s t : Nat → Int32} {n : Nat} {x : Int32} (a : g_Fr s t) (h : n = 4 ∨ n = 5 ∨ n = 11 ∨ (27 ≤ n ∧ n < 178)) : g_Fr s (upd t n x) := fun k p q r w => by
  rw [g_upd_ne (by omega)]; exact a k p q r w
theorem F_274 {s : Nat → Int32} {x t : Int32} (hx : x.toNatClampNeg < 6) : g_Fr s (R_X8_minuteOf_274 x s t) := by
  unfold R_X8_minuteOf_274 R_X8_minuteOf_306
  split
  · exact (g_Fr.refl.upd (by omega)).upd (by omega)
  · exact (g_Fr.refl.upd (by omega)).upd (by omega)
theorem F_219 {s : Nat → Int32} {x t : Int32} (hx : x.toNatClampNeg < 6) : g_Fr s (R_X8_minuteOf_219 x t s) := by
  have h : ∀ s : Nat → Int32, g_Fr s (R_X8_minuteOf_249 x s) := fun s => by
    unfold R_X8_minuteOf_249
    split
    · exact F_274 hx
    · exact F_274 hx
  unfold R_X8_minuteOf_219
  split
  · exact h s
  split
  · exact h s
  · exact (g_Fr.refl.upd (by omega)).trans (h _)
theorem F_178 {s : Nat → Int32} {x t w : Int32} (hx : x.toNatClampNeg < 6) (hx' : (x.toNatClampNeg : Int) < (s 2).toInt) (a : g_J s) : g_Fr s (R_X8_minuteOf_178 x t s w) := by
  have Q := (a.2.2.1 _ hx').q
  have B := a.1
  have b0 := B.1
  have b1 := B.2.1
  have q5 := Q.2.2.1
  have qs := Q.1
  have ni := j_nat Q.1.1
  have i27 : (27 + s (58 + 9 * x.toNatClampNeg + 1)).toNatClampNeg = 27 + (s (58 + 9 * x.toNatClampNeg + 1)).toNatClampNeg := by
    have : (27 + s (58 + 9 * x.toNatClampNeg + 1)).toInt = 27 + (s (58 + 9 * x.toNatClampNeg + 1)).toInt := j_addE rfl rfl (by omega) (by omega)
    have := j_nat (x := 27 + s (58 + 9 * x.toNatClampNeg + 1)) (by omega)
    omega
  have rr : ∀ j : Int32, ∀ v : Int, j.toInt = v → 1 ≤ v → v ≤ 2 → 32 ≤ ((34 + 3 * s (58 + 9 * x.toNatClampNeg + 5)) + j).toNatClampNeg ∧ ((34 + 3 * s (58 + 9 * x.toNatClampNeg + 5)) + j).toNatClampNeg < 58 := by
    intro j v hj v0 v2
    have q1 : (3 * s (58 + 9 * x.toNatClampNeg + 5)).toInt = 3 * (s (58 + 9 * x.toNatClampNeg + 5)).toInt := j_mulE rfl rfl (by omega) (by omega)
    have q3 : (34 + 3 * s (58 + 9 * x.toNatClampNeg + 5)).toInt = 34 + 3 * (s (58 + 9 * x.toNatClampNeg + 5)).toInt := j_addE rfl q1 (by omega) (by omega)
    have q4 : ((34 + 3 * s (58 + 9 * x.toNatClampNeg + 5)) + j).toInt = 34 + 3 * (s (58 + 9 * x.toNatClampNeg + 5)).toInt + v := j_addE q3 hj (by omega) (by omega)
    have := j_nat (x := (34 + 3 * s (58 + 9 * x.toNatClampNeg + 5)) + j) (by omega)
    omega
  have r1 := rr 1 1 rfl (by decide) (by decide)
  have r2 := rr 2 2 rfl (by decide) (by decide)
  have O : ∀ v v', g_Fr s (upd (upd s (58 + 9 * x.toNatClampNeg + 4) v) (58 + 9 * x.toNatClampNeg + 6) v') := fun v v' => (g_Fr.refl.upd (by omega)).upd (by omega)
  have hr : ∀ v v', g_Fr s (R_X8_hasRigged (upd (upd s (58 + 9 * x.toNatClampNeg + 4) v) (58 + 9 * x.toNatClampNeg + 6) v') x) := fun v v' => by
    have e1 : (upd (upd s (58 + 9 * x.toNatClampNeg + 4) v) (58 + 9 * x.toNatClampNeg + 6) v') (58 + 9 * x.toNatClampNeg + 1) = s (58 + 9 * x.toNatClampNeg + 1) := by rw [g_upd_ne (by omega), g_upd_ne (by omega)]
    have e5 : (upd (upd s (58 + 9 * x.toNatClampNeg + 4) v) (58 + 9 * x.toNatClampNeg + 6) v') (58 + 9 * x.toNatClampNeg + 5) = s (58 + 9 * x.toNatClampNeg + 5) := by rw [g_upd_ne (by omega), g_upd_ne (by omega)]
    unfold R_X8_hasRigged R_X8_leaves
    rw [e1, e5, i27, g_upd_ne (a := 27 + (s (58 + 9 * x.toNatClampNeg + 1)).toNatClampNeg) (by omega), e5]
    exact (((((O v v').upd (by omega)).upd (by omega)).upd (by omega)).upd (by omega)).upd (by omega)
  have ar : ∀ v v', g_Fr s (R_X8_arrives (upd (upd s (58 + 9 * x.toNatClampNeg + 4) v) (58 + 9 * x.toNatClampNeg + 6) v') x) := fun v v' => by
    unfold R_X8_arrives R_X8_arrives_32
    split
    · exact ((((((O v v').upd (by omega)).upd (by omega)).upd (by omega)).upd (by omega)).upd (by omega)).upd (by omega)
    · exact ((((O v v').upd (by omega)).upd (by omega)).upd (by omega)).upd (by omega)
  have r205 : g_Fr s (R_X8_minuteOf_205 x t s w) := by
    unfold R_X8_minuteOf_205
    split
    · exact (hr _ _).trans (F_219 hx)
    · exact (O _ _).trans (F_219 hx)
  unfold R_X8_minuteOf_178
  split
  · split
    · exact (ar _ _).trans (F_219 hx)
    · exact r205
  · exact r205
theorem F_66 {s t : Nat → Int32} {x w : Int32} (hx : x.toNatClampNeg < 6) (hx' : (x.toNatClampNeg : Int) < (t 2).toInt) (a : g_J t) : g_Fr t (R_X8_minuteOf_66 s x w t) := by
  unfold R_X8_minuteOf_66
  split
  · exact F_219 hx
  · have r131 : ∀ v, g_Fr t (R_X8_minuteOf_131 x w t v) := fun v => by
      unfold R_X8_minuteOf_131
      split
      · exact F_178 hx hx' a
      split
      · exact F_178 hx hx' a
      · exact F_178 hx hx' a
    have r94 : ∀ v, g_Fr t (R_X8_minuteOf_94 s x w t v) := fun v => by
      unfold R_X8_minuteOf_94 R_X8_minuteOf_126 R_X8_minuteOf_130
      repeat' split
      all_goals exact r131 _
    split
    · exact r94 _
    · exact r94 _
theorem F_minuteOf {s : Nat → Int32} {x : Int32} (h : g_J s) (h0 : 0 ≤ x.toInt) (h1 : x.toInt < (s 2).toInt) : g_Fr s (R_X8_minuteOf s x) := by
  have n := j_nat h0
  have hx' : (x.toNatClampNeg : Int) < (s 2).toInt := by omega
  have hx : x.toNatClampNeg < 6 := by have := h.1.2.2.1.2; omega
  have r24 : ∀ v, g_Fr s (R_X8_minuteOf_24 s x v) := fun v => by
    unfold R_X8_minuteOf_24
    split
    · exact F_66 hx hx' h
    split
    · exact F_66 hx hx' h
    split
    · split
      · next c =>
        have j := J_sets h hx hx' c
        exact (show g_Fr s (R_X8_sets s x (s (58 + 9 * x.toNatClampNeg + 1) - 1)) from fun k a b c d => fr_X8_sets (by omega) (by omega) (by omega) (by omega)).trans (F_66 hx (by rw [j.2]; exact hx') j.1)
      · exact F_66 hx hx' h
    · exact F_66 hx hx' h
  unfold R_X8_minuteOf R_X8_minuteOf_23
  split
  · exact r24 _
  split
  · exact r24 _
  · exact r24 _
theorem J_minute_2 {s : Nat → Int32} : ∀ (f h : Nat) (t : Nat → Int32), g_J t → (t 3).toInt < 100000 → (h : Int) ≤ (t 2).toInt → (t 2).toInt < f + h → g_J (R_X8_minute_2 s f h t).2 ∧ ((R_X8_minute_2 s f h t).2 3).toInt = (t 3).toInt + 1 := by
  intro f
  induction f with
  | zero => intro h t _ _ h1 h2; exact absurd h2 (by omega)
  | succ f ih =>
    intro h t a h3 h1 h2
    have q2 := a.1.2.2.1.2
    have qh : (nI h).toInt = h := nI_toInt (by omega)
    rw [R_X8_minute_2]
    split
    · have q6 := a.1.2.2.2.2.2.2.1
      exact K_65 a h3 11 0 0 0 t (Nat.le_refl _) (by omega) (by omega) (fun _ _ _ => rfl) (fun i hi => absurd hi (by omega)) (fun _ _ _ => rfl) (fun _ _ _ => rfl)
    · next c =>
      have c' := j_nle c
      have F := F_minuteOf a (x := nI h) (by omega) (by omega)
      have f3 := F 3 (by decide) (by decide) (by decide) (by decide)
      have f2 := F 2 (by decide) (by decide) (by decide) (by decide)
      have := ih (h + 1) _ (J_minuteOf a (x := nI h) (by omega) (by omega)) (by rw [f3]; exact h3) (by rw [f2]; omega) (by rw [f2]; omega)
      rw [f3] at this
      exact this
theorem J_minute {s : Nat → Int32} (h : g_J s) (h1 : (s 3).toInt < 100000) : g_J (R_X8_minute s).2 :=
  (J_minute_2 7 0 s h h1 (by have := h.1.2.2.1; omega) (by have := h.1.2.2.1; omega)).1
theorem t_minute {s : Nat → Int32} (h : g_J s) (h1 : (s 3).toInt < 100000) : ((R_X8_minute s).2 3).toInt = (s 3).toInt + 1 :=
  (J_minute_2 7 0 s h h1 (by have := h.1.2.2.1; omega) (by have := h.1.2.2.1; omega)).2

/-! ===== the model: passing ===== -/
def R_X8_passes_35 (s : Nat → Int32) (x1 : Int32) : Nat → Nat → (Nat → Int32) → (Int32 × (Nat → Int32))
  | 0, _, _ => (0, s)
  | f + 1, k, s_35 => (if x1 ≤ (nI k) then (0, s_35) else ((R_X8_passes_35 s x1 f) (k + 1) (upd (R_X8_minute s_35).2 1303 ((s_35 1303) + (R_X8_minute s_35).1))))
def R_X8_passes (s : Nat → Int32) (x1 : Int32) : (Int32 × (Nat → Int32)) := (if (R_X8_in s x1 1 600) = 0 then (1, s) else (if ((s (3)) + x1) ≤ 100000 then (R_X8_passes_35 s x1 601 0 (upd s 1303 0)) else (2, s)))
/-! ===== the model: values and what-ifs ===== -/
def R_X8_passageFact (s : Nat → Int32) (x1 : Int32) (x2 : Int32) : Int32 := (if x2 = 0 then (s ((13 + x1).toNatClampNeg)) else (if x2 = 1 then (s ((20 + x1).toNatClampNeg)) else (if x2 = 2 then (s ((27 + x1).toNatClampNeg)) else (if x2 = 3 then (R_X8_walkers s x1) else (R_X8_rigger s x1)))))
def R_X8_below_28 (K_4 : Int32 → Nat → Int32) (v1_4 : Int32) (n : Nat) (t0_28 : Int32) : Int32 := (K_4 (v1_4 + t0_28) (n + 1))
def R_X8_below_4 (s : Nat → Int32) : Nat → Int32 → Nat → Int32
  | 0, _, _ => 0
  | f + 1, v1_4, n => (if (s (2)) ≤ (nI n) then v1_4 else (if (R_X8_isBelow s (nI n)) = 0 then (R_X8_below_28 (R_X8_below_4 s f) v1_4 n 0) else (R_X8_below_28 (R_X8_below_4 s f) v1_4 n 1)))
def R_X8_below (s : Nat → Int32) : Int32 := (R_X8_below_4 s 7 0 0)
def R_X8_shut_28 (K_4 : Int32 → Nat → Int32) (v1_4 : Int32) (n : Nat) (t0_28 : Int32) : Int32 := (K_4 (v1_4 + t0_28) (n + 1))
def R_X8_shut_4 (s : Nat → Int32) : Nat → Int32 → Nat → Int32
  | 0, _, _ => 0
  | f + 1, v1_4, n => (if (s (0)) ≤ (nI n) then v1_4 else (if (R_X8_isShut s (nI n)) = 0 then (R_X8_shut_28 (R_X8_shut_4 s f) v1_4 n 0) else (R_X8_shut_28 (R_X8_shut_4 s f) v1_4 n 1)))
def R_X8_shut (s : Nat → Int32) : Int32 := (R_X8_shut_4 s 8 0 0)
def R_X8_valueOf (s : Nat → Int32) (x1 : Int32) : Int32 := (if 6 ≤ x1 then (if x1 = 6 then (R_X8_below s) else (if 10 ≤ x1 then (if x1 = 10 then (R_X8_shut s) else (s ((x1 - 2).toNatClampNeg))) else (s ((x1 - 1).toNatClampNeg)))) else (s (x1.toNatClampNeg)))
def R_X8_passage (s : Nat → Int32) (x1 : Int32) (x2 : Int32) : (Int32 × (Nat → Int32)) := (if (R_X8_isPassage s x1) = 0 then ((R_X8_fails s 1).1, (R_X8_fails s 1).2) else (if (R_X8_in s x2 0 4) = 0 then ((R_X8_fails s 2).1, (R_X8_fails s 2).2) else ((R_X8_tells s (R_X8_passageFact s x1 x2)).1, (R_X8_tells s (R_X8_passageFact s x1 x2)).2)))
def R_X8_rope (s : Nat → Int32) (x1 : Int32) (x2 : Int32) : (Int32 × (Nat → Int32)) := (if (R_X8_isRope s x1) = 0 then ((R_X8_fails s 1).1, (R_X8_fails s 1).2) else (if (R_X8_in s x2 0 2) = 0 then ((R_X8_fails s 2).1, (R_X8_fails s 2).2) else ((R_X8_tells s (s (((34 + (3 * x1)) + x2).toNatClampNeg))).1, (R_X8_tells s (s (((34 + (3 * x1)) + x2).toNatClampNeg))).2)))
def R_X8_helper (s : Nat → Int32) (x1 : Int32) (x2 : Int32) : (Int32 × (Nat → Int32)) := (if (R_X8_isHelper s x1) = 0 then ((R_X8_fails s 1).1, (R_X8_fails s 1).2) else (if (R_X8_in s x2 0 8) = 0 then ((R_X8_fails s 2).1, (R_X8_fails s 2).2) else ((R_X8_tells s (R_X8_of s x1 x2)).1, (R_X8_tells s (R_X8_of s x1 x2)).2)))
def R_X8_value (s : Nat → Int32) (x1 : Int32) : (Int32 × (Nat → Int32)) := (if (R_X8_in s x1 0 13) = 0 then ((R_X8_fails s 1).1, (R_X8_fails s 1).2) else ((R_X8_tells s (R_X8_valueOf s x1)).1, (R_X8_tells s (R_X8_valueOf s x1)).2))
def R_X8_message (s : Nat → Int32) (x1 : Int32) (x2 : Int32) : (Int32 × (Nat → Int32)) := (if (R_X8_in s x1 0 ((s (6)) - 1)) = 0 then ((R_X8_fails s 1).1, (R_X8_fails s 1).2) else (if (R_X8_in s x2 0 2) = 0 then ((R_X8_fails s 2).1, (R_X8_fails s 2).2) else ((R_X8_tells s (s (((112 + (3 * x1)) + x2).toNatClampNeg))).1, (R_X8_tells s (s (((112 + (3 * x1)) + x2).toNatClampNeg))).2)))
def R_X8_carried (s : Nat → Int32) (x1 : Int32) (x2 : Int32) : (Int32 × (Nat → Int32)) := (if (R_X8_in s x1 0 ((s (12)) - 1)) = 0 then ((R_X8_fails s 1).1, (R_X8_fails s 1).2) else (if (R_X8_in s x2 0 2) = 0 then ((R_X8_fails s 2).1, (R_X8_fails s 2).2) else ((R_X8_tells s (s (((142 + (3 * x1)) + x2).toNatClampNeg))).1, (R_X8_tells s (s (((142 + (3 * x1)) + x2).toNatClampNeg))).2)))
/-! ===== what the holding keeps, and what an order leaves alone above the row ===== -/
theorem hold_2_at {s : Nat → Int32} : ∀ (f k : Nat) (t : Nat → Int32), k ≤ 178 → 178 < f + k → ∀ n, R_X8_hold_2 s f k t n = if 200 + k ≤ n ∧ n < 378 then t (n - 200) else t n := by
  intro f
  induction f with
  | zero => intro k t h1 h2; exact absurd h2 (by omega)
  | succ f ih =>
    intro k t h1 h2 n
    have qk : (nI k).toInt = k := nI_toInt (by omega)
    have q178 : (178 : Int32).toInt = 178 := rfl
    rw [R_X8_hold_2]
    split
    · next c =>
      have c' := j_le c
      rw [if_neg (by omega)]
    · next c =>
      have c' := j_nle c
      have nk : (nI k).toNatClampNeg = k := by have := j_nat (x := nI k) (by omega); omega
      rw [ih (k + 1) _ (by omega) (by omega) n, nk]
      by_cases e : n = 200 + k
      · subst e
        rw [if_neg (by omega), if_pos (by omega), g_upd_eq, Nat.add_sub_cancel_left]
      · by_cases d : 200 + (k + 1) ≤ n ∧ n < 378
        · rw [if_pos d, if_pos (by omega), g_upd_ne (by omega)]
        · rw [if_neg d, if_neg (by omega), g_upd_ne e]
theorem hold_at {s : Nat → Int32} (n : Nat) : R_X8_hold s n = if 200 ≤ n ∧ n < 378 then s (n - 200) else s n :=
  hold_2_at 179 0 s (by omega) (by omega) n
theorem hold_ne {s : Nat → Int32} {n : Nat} (h : n < 200 ∨ 378 ≤ n) : R_X8_hold s n = s n := by rw [hold_at, if_neg (by omega)]
theorem J_hold {s : Nat → Int32} (h : g_J s) : g_J (R_X8_hold s) := h.congr fun n hn => hold_ne (by omega)
/-- above the row nothing but the answer -/
def g_Up (s t : Nat → Int32) : Prop := ∀ n, 178 ≤ n → n ≠ 1303 → t n = s n
theorem g_Up.refl {s : Nat → Int32} : g_Up s s := fun _ _ _ => rfl
theorem g_Up.upd {s t : Nat → Int32} {n : Nat} {x : Int32} (a : g_Up s t) (h : n < 178 ∨ n = 1303) : g_Up s (upd t n x) := fun k p q => by
  rw [g_upd_ne (by omega)]; exact a k p q
theorem g_Up.trans {s t u : Nat → Int32} (a : g_Up s t) (b : g_Up t u) : g_Up s u := fun n h p => (b n h p).trans (a n h p)
theorem isHelper_ne {s : Nat → Int32} {x : Int32} (h : ¬ R_X8_isHelper s x = 0) : 0 ≤ x.toInt ∧ x.toInt < (s 2).toInt := by
  unfold R_X8_isHelper at h
  split at h
  · exact absurd rfl h
  next c1 =>
  split at h
  · exact absurd rfl h
  next c2 => exact ⟨j_nlt c1, j_nle c2⟩
theorem U_walks {s t : Nat → Int32} {a b c d : Int32} (u : g_Up s t) (h : a.toNatClampNeg < 6) : g_Up s (R_X8_walks t a b c d) := by
  unfold R_X8_walks
  exact (((u.upd (by omega)).upd (by omega)).upd (by omega)).upd (by omega)
theorem U_goes {s : Nat → Int32} {x1 x2 : Int32} (a : g_J s) : g_Up s (R_X8_goes s x1 x2).2 := by
  unfold R_X8_goes
  split
  · exact g_Up.refl
  next c =>
  have z := isHelper_ne c
  have n := j_nat z.1
  have n2 := a.1.2.2.1.2
  split
  · refine g_Up.upd ?_ (by omega)
    unfold R_X8_sets R_X8_sets_26
    split
    · exact U_walks g_Up.refl (by omega)
    · exact U_walks g_Up.refl (by omega)
  · exact g_Up.refl
theorem U_rigsAt {s : Nat → Int32} {x1 : Int32} (a : g_J s) : g_Up s (R_X8_rigsAt s x1).2 := by
  unfold R_X8_rigsAt
  split
  · exact g_Up.refl
  next c =>
  have z := isHelper_ne c
  have n := j_nat z.1
  have n2 := a.1.2.2.1.2
  repeat' split
  all_goals first
    | exact ((g_Up.refl.upd (by omega)).upd (by omega)).upd (by omega)
    | exact g_Up.refl
theorem isRope_ne {s : Nat → Int32} {x : Int32} (h : ¬ R_X8_isRope s x = 0) : 0 ≤ x.toInt ∧ x.toInt < (s 1).toInt := by
  unfold R_X8_isRope at h
  split at h
  · exact absurd rfl h
  next c1 =>
  split at h
  · exact absurd rfl h
  next c2 => exact ⟨j_nlt c1, j_nle c2⟩
theorem ix_rope {x j : Int32} {w : Nat} (h0 : 0 ≤ x.toInt) (h1 : x.toInt < 8) (hj : j.toInt = w) (hw : w ≤ 2) : ((34 + 3 * x) + j).toNatClampNeg = 34 + 3 * x.toNatClampNeg + w := by
  have q1 : (3 * x).toInt = 3 * x.toInt := j_mulE rfl rfl (by omega) (by omega)
  have q3 : (34 + 3 * x).toInt = 34 + 3 * x.toInt := j_addE rfl q1 (by omega) (by omega)
  have q4 : ((34 + 3 * x) + j).toInt = 34 + 3 * x.toInt + w := j_addE q3 hj (by omega) (by omega)
  have := j_nat (x := (34 + 3 * x) + j) (by omega)
  have := j_nat h0
  omega
theorem U_takes {s : Nat → Int32} {x1 x2 : Int32} (a : g_J s) : g_Up s (R_X8_takes s x1 x2).2 := by
  unfold R_X8_takes
  split
  · exact g_Up.refl
  next c =>
  split
  · exact g_Up.refl
  next d =>
  have z := isHelper_ne c
  have n := j_nat z.1
  have n2 := a.1.2.2.1.2
  have z' := isRope_ne d
  have n1 := a.1.2.1.2
  have n' := j_nat z'.1
  repeat' split
  all_goals try exact g_Up.refl
  unfold R_X8_gives
  rw [ix_rope (w := 1) z'.1 (by omega) (by decide) (by decide), ix_rope (w := 2) z'.1 (by omega) (by decide) (by decide)]
  exact (((g_Up.refl.upd (by omega)).upd (by omega)).upd (by omega)).upd (by omega)
theorem U_sends {s : Nat → Int32} {x1 : Int32} (a : g_J s) : g_Up s (R_X8_sends s x1).2 := by
  have n6 := a.1.2.2.2.2.2.2.1
  have k43 : (s (6)).toInt ≠ 10 ∨ s (58 + 9 * x1.toNatClampNeg + 1) = 0 → g_Up s (R_X8_sends_43 s x1).2 := by
    intro h
    unfold R_X8_sends_43 R_X8_sends_115
    split
    · exact (g_Up.refl.upd (by omega)).upd (by omega)
    next c =>
    have h6 : (s 6).toInt < 10 := by
      rcases h with h | h
      · omega
      · exact absurd h c
    have ix : ∀ (w : Int32) (v : Nat), w.toInt = v → v ≤ 2 → ((112 + 3 * s 6) + w).toNatClampNeg < 178 := fun w v hw hv => by
      have q1 : (3 * s 6).toInt = 3 * (s 6).toInt := j_mulE rfl rfl (by omega) (by omega)
      have q3 : (112 + 3 * s 6).toInt = 112 + 3 * (s 6).toInt := j_addE rfl q1 (by omega) (by omega)
      have q4 : ((112 + 3 * s 6) + w).toInt = 112 + 3 * (s 6).toInt + v := j_addE q3 hw (by omega) (by omega)
      have := j_nat (x := (112 + 3 * s 6) + w) (by omega)
      omega
    have i0 : (112 + 3 * s 6).toNatClampNeg < 178 := by
      have := ix 0 0 rfl (by decide)
      rwa [show (112 + 3 * s 6) + 0 = 112 + 3 * s 6 by simp] at this
    have i1 := ix 1 1 rfl (by decide)
    have i2 := ix 2 2 rfl (by decide)
    exact ((((g_Up.refl.upd (.inl i0)).upd (.inl i1)).upd (.inl i2)).upd (by omega)).upd (by omega)
  unfold R_X8_sends
  split
  · exact g_Up.refl
  next ch =>
  have z := isHelper_ne ch
  have q := (a.h z.1 z.2).1
  split
  · exact g_Up.refl
  split
  · next c =>
    have c' := j_leR c (b := 0) rfl
    exact k43 (Or.inr (Int32.toInt_inj.mp (by have : (0 : Int32).toInt = 0 := rfl; omega)))
  split
  · exact g_Up.refl
  · next c =>
    exact k43 (Or.inl (j_neR c rfl))
theorem U_65 {s p : Nat → Int32} (h6 : (p 6).toInt ≤ 10) : ∀ (f : Nat) (v : Int32) (y k : Nat) (t : Nat → Int32), y ≤ k → (k : Int) ≤ (p 6).toInt → (p 6).toInt < f + k → g_Up t (R_X8_minute_65 s p f v y k t).2 := by
  have U164 : ∀ (v : Int32) (y : Nat) (t : Nat → Int32), g_Up t (R_X8_minute_164 p v y t).2 := fun v y t => by
    unfold R_X8_minute_164 R_X8_minute_180
    split
    · exact ((g_Up.refl.upd (by omega)).upd (by omega)).upd (by omega)
    · exact ((g_Up.refl.upd (by omega)).upd (by omega)).upd (by omega)
  intro f
  induction f with
  | zero => intro v y k t _ h1 h2; exact absurd h2 (by omega)
  | succ f ih =>
    intro v y k t hy hk hf
    have qk : (nI k).toInt = k := nI_toInt (by omega)
    rw [R_X8_minute_65]
    split
    · exact U164 _ _ _
    next c =>
    have c' := j_nle c
    split
    · have ek : ((112 + 3 * nI k) + 2).toNatClampNeg = 114 + 3 * k := by rw [ix_msg (j := 2) (by omega) (by decide) (by decide)]; omega
      rw [ek, g_upd_eq]
      split
      · unfold R_X8_minute_158
        exact g_Up.trans (g_Up.refl.upd (by omega)) (ih _ y (k + 1) _ (by omega) (by omega) (by omega))
      · rw [R_118 (by omega) (by omega)]
        exact g_Up.trans ((((g_Up.refl.upd (by omega)).upd (by omega)).upd (by omega)).upd (by omega)) (ih _ (y + 1) (k + 1) _ (by omega) (by omega) (by omega))
    · exact U164 _ _ _
theorem U_minute_2 {s : Nat → Int32} : ∀ (f h : Nat) (t : Nat → Int32), g_J t → (h : Int) ≤ (t 2).toInt → (t 2).toInt < f + h → g_Up t (R_X8_minute_2 s f h t).2 := by
  intro f
  induction f with
  | zero => intro h t _ h1 h2; exact absurd h2 (by omega)
  | succ f ih =>
    intro h t a h1 h2
    have q2 := a.1.2.2.1.2
    have qh : (nI h).toInt = h := nI_toInt (by omega)
    rw [R_X8_minute_2]
    split
    · have q6 := a.1.2.2.2.2.2.2.1
      exact U_65 (by omega) 11 0 0 0 t (Nat.le_refl _) (by omega) (by omega)
    · next c =>
      have c' := j_nle c
      have F := F_minuteOf a (x := nI h) (by omega) (by omega)
      have f2 := F 2 (by decide) (by decide) (by decide) (by decide)
      exact g_Up.trans (fun n h h' => F n (by omega) (by omega) (by omega) (by omega)) (ih (h + 1) _ (J_minuteOf a (x := nI h) (by omega) (by omega)) (by rw [f2]; omega) (by rw [f2]; omega))
theorem U_minute {s : Nat → Int32} (h : g_J s) (_ : True) : g_Up s (R_X8_minute s).2 :=
  U_minute_2 7 0 s h (by have := h.1.2.2.1; omega) (by have := h.1.2.2.1; omega)
theorem U_passes_35 {s : Nat → Int32} {x1 : Int32} (h6 : x1.toInt ≤ 600) (h0 : 0 ≤ x1.toInt) : ∀ (f k : Nat) (t : Nat → Int32), k ≤ 600 → 600 < f + k → g_J t → (t 3).toInt + x1.toInt ≤ 100000 + k → g_Up t (R_X8_passes_35 s x1 f k t).2 ∧ g_J (R_X8_passes_35 s x1 f k t).2 := by
  intro f
  induction f with
  | zero => intro k t h1 h2; exact absurd h2 (by omega)
  | succ f ih =>
    intro k t h1 h2 a h3
    have qk : (nI k).toInt = k := nI_toInt (by omega)
    rw [R_X8_passes_35]
    split
    · exact ⟨g_Up.refl, a⟩
    · next c =>
      have c' := j_nle c
      have b := J_hi (n := 1303) (x := t 1303 + (R_X8_minute t).1) (by omega) (J_minute a (by omega))
      have e3 : (upd (R_X8_minute t).2 1303 (t 1303 + (R_X8_minute t).1) 3).toInt = (t 3).toInt + 1 := by rw [g_upd_ne (by omega)]; exact t_minute a (by omega)
      have := ih (k + 1) _ (by omega) (by omega) b (by rw [e3]; omega)
      refine ⟨g_Up.trans (g_Up.upd (U_minute a trivial) (by omega)) this.1, this.2⟩
theorem U_passes {s : Nat → Int32} {x1 : Int32} (a : g_J s) : g_Up s (R_X8_passes s x1).2 ∧ g_J (R_X8_passes s x1).2 := by
  unfold R_X8_passes
  split
  · exact ⟨g_Up.refl, a⟩
  next c =>
  have z := in_ne c
  have e1 : (1 : Int32).toInt = 1 := rfl
  have e6 : (600 : Int32).toInt = 600 := rfl
  have n3 := a.1.2.2.2.1
  split
  · next d =>
    have d' := j_leR d (b := 100000) rfl
    have es : (s 3 + x1).toInt = (s 3).toInt + x1.toInt := j_addE rfl rfl (by omega) (by omega)
    have := U_passes_35 (s := s) (x1 := x1) (by omega) (by omega) 601 0 (upd s 1303 0) (by omega) (by omega) (J_hi (by omega) a) (by rw [g_upd_ne (by omega)]; omega)
    exact ⟨g_Up.trans (g_Up.refl.upd (by omega)) this.1, this.2⟩
  · exact ⟨g_Up.refl, a⟩
theorem U_245 {s t : Nat → Int32} {x1 v : Int32} : g_Up t (R_X8_carries_245 s x1 t v).2 := by
  unfold R_X8_carries_245
  exact ((((((g_Up.refl.upd (by omega)).upd (by omega)).upd (by omega)).upd (by omega)).upd (by omega)).upd (by omega)).upd (by omega)
theorem U_153 {s : Nat → Int32} {x1 : Int32} : ∀ (f d : Nat) (t : Nat → Int32), d ≤ 177 → 144 ≤ d → d < f + 144 → g_Up t (R_X8_carries_153 s x1 f d t).2 := by
  intro f
  induction f with
  | zero => intro d t _ h1 h2; exact absurd h2 (by omega)
  | succ f ih =>
    intro d t h1 h2 h3
    have qd : (nI d).toInt = d := nI_toInt (by omega)
    have nd := j_nat (x := nI d) (by omega)
    have q : (145 : Int32).toInt = 145 := rfl
    rw [R_X8_carries_153]
    split
    · split
      · exact U_245
      · exact U_245
    · next c =>
      have c' := j_nlt c
      exact g_Up.trans (g_Up.refl.upd (by omega)) (ih (d - 1) _ (by omega) (by omega) (by omega))
theorem U_105 {s : Nat → Int32} {x1 : Int32} : ∀ (f i : Nat) (t : Nat → Int32), (t 2).toInt ≤ 6 → i ≤ 6 → 6 < f + i → g_Up t (R_X8_carries_105 s x1 f i t).2 := by
  intro f
  induction f with
  | zero => intro i t _ h1 h2; exact absurd h2 (by omega)
  | succ f ih =>
    intro i t h1 h2 h3
    have qi : (nI i).toInt = i := nI_toInt (by omega)
    have ni := j_nat (x := nI i) (by omega)
    rw [R_X8_carries_105]
    split
    · exact U_153 34 177 t (by omega) (by omega) (by omega)
    next c =>
    have c' := j_nle c
    unfold R_X8_carries_142
    split
    · exact g_Up.trans (U_walks g_Up.refl (by omega)) (ih (i + 1) _ (by rw [fr_X8_walks (by omega) (by omega) (by omega) (by omega)]; exact h1) (by omega) (by omega))
    · exact ih (i + 1) _ h1 (by omega) (by omega)
theorem U_35 {s : Nat → Int32} {x1 : Int32} (h2 : (s 2).toInt ≤ 6) : ∀ (f : Nat) (v : Int32) (h : Nat), h ≤ 6 → 6 < f + h → g_Up s (R_X8_carries_35 s x1 f v h).2 := by
  have u77 : ∀ v, g_Up s (R_X8_carries_77 s x1 v).2 := fun v => by
    unfold R_X8_carries_77
    split
    · exact g_Up.refl
    · exact U_105 7 0 s h2 (by omega) (by omega)
  intro f
  induction f with
  | zero => intro v h h1 h2; exact absurd h2 (by omega)
  | succ f ih =>
    intro v h h1 h3
    have qh : (nI h).toInt = h := nI_toInt (by omega)
    rw [R_X8_carries_35]
    split
    · exact u77 _
    next c =>
    have c' := j_nle c
    unfold R_X8_carries_65 R_X8_carries_70
    split
    · exact u77 _
    split
    · exact ih _ _ (by omega) (by omega)
    split
    · exact ih _ _ (by omega) (by omega)
    · exact ih _ _ (by omega) (by omega)
theorem U_carries {s : Nat → Int32} {x1 : Int32} (a : g_J s) : g_Up s (R_X8_carries s x1).2 := by
  have n2 := a.1.2.2.1.2
  unfold R_X8_carries
  split
  · exact g_Up.refl
  split
  · exact U_35 n2 7 _ 0 (by omega) (by omega)
  · exact g_Up.refl

/-! ===== the model: orders ===== -/
def R_X8_done (s : Nat → Int32) (x1 : Int32) : (Int32 × (Nat → Int32)) := (if x1 ≤ 0 then ((R_X8_ends s (s 1303)).1, (R_X8_ends s (s 1303)).2) else ((R_X8_fails s x1).1, (R_X8_fails s x1).2))
def R_X8_go (s : Nat → Int32) (x1 : Int32) (x2 : Int32) : (Int32 × (Nat → Int32)) := ((R_X8_done ((R_X8_goes (R_X8_hold s) x1 x2).2) ((R_X8_goes (R_X8_hold s) x1 x2).1)).1, (R_X8_done ((R_X8_goes (R_X8_hold s) x1 x2).2) ((R_X8_goes (R_X8_hold s) x1 x2).1)).2)
def R_X8_take (s : Nat → Int32) (x1 : Int32) (x2 : Int32) : (Int32 × (Nat → Int32)) := ((R_X8_done ((R_X8_takes (R_X8_hold s) x1 x2).2) ((R_X8_takes (R_X8_hold s) x1 x2).1)).1, (R_X8_done ((R_X8_takes (R_X8_hold s) x1 x2).2) ((R_X8_takes (R_X8_hold s) x1 x2).1)).2)
def R_X8_rig (s : Nat → Int32) (x1 : Int32) : (Int32 × (Nat → Int32)) := ((R_X8_done ((R_X8_rigsAt (R_X8_hold s) x1).2) ((R_X8_rigsAt (R_X8_hold s) x1).1)).1, (R_X8_done ((R_X8_rigsAt (R_X8_hold s) x1).2) ((R_X8_rigsAt (R_X8_hold s) x1).1)).2)
def R_X8_send (s : Nat → Int32) (x1 : Int32) : (Int32 × (Nat → Int32)) := ((R_X8_done ((R_X8_sends (R_X8_hold s) x1).2) ((R_X8_sends (R_X8_hold s) x1).1)).1, (R_X8_done ((R_X8_sends (R_X8_hold s) x1).2) ((R_X8_sends (R_X8_hold s) x1).1)).2)
def R_X8_carry (s : Nat → Int32) (x1 : Int32) : (Int32 × (Nat → Int32)) := ((R_X8_done ((R_X8_carries (R_X8_hold s) x1).2) ((R_X8_carries (R_X8_hold s) x1).1)).1, (R_X8_done ((R_X8_carries (R_X8_hold s) x1).2) ((R_X8_carries (R_X8_hold s) x1).1)).2)
def R_X8_pass (s : Nat → Int32) (x1 : Int32) : (Int32 × (Nat → Int32)) := ((R_X8_done ((R_X8_passes (R_X8_hold s) x1).2) ((R_X8_passes (R_X8_hold s) x1).1)).1, (R_X8_done ((R_X8_passes (R_X8_hold s) x1).2) ((R_X8_passes (R_X8_hold s) x1).1)).2)
/-! ===== what laying, giving leave alone; places in the row ===== -/
theorem ix_p {x : Int32} {b : Nat} {w : Int32} (hw : w.toInt = b) (hb : b ≤ 100) (h0 : 0 ≤ x.toInt) (h1 : x.toInt ≤ 7) : (w + x).toNatClampNeg = b + x.toNatClampNeg ∧ x.toNatClampNeg ≤ 7 := by
  have q : (w + x).toInt = b + x.toInt := j_addE hw rfl (by omega) (by omega)
  have := j_nat (x := w + x) (by omega)
  have := j_nat h0
  omega
theorem fr_leaves_hi {s : Nat → Int32} {x a b : Int32} {n : Nat} (h : -1 ≤ (s (58 + 9 * x.toNatClampNeg + 5)).toInt) (h' : (s (58 + 9 * x.toNatClampNeg + 5)).toInt ≤ 7) (hx : x.toNatClampNeg < 6) (hn : 178 ≤ n) : R_X8_leaves s x a b n = s n := by
  have rr : ∀ j : Int32, ∀ v : Int, j.toInt = v → 1 ≤ v → v ≤ 2 → ((34 + 3 * s (58 + 9 * x.toNatClampNeg + 5)) + j).toNatClampNeg < 58 := by
    intro j v hj v0 v2
    have q1 : (3 * s (58 + 9 * x.toNatClampNeg + 5)).toInt = 3 * (s (58 + 9 * x.toNatClampNeg + 5)).toInt := j_mulE rfl rfl (by omega) (by omega)
    have q3 : (34 + 3 * s (58 + 9 * x.toNatClampNeg + 5)).toInt = 34 + 3 * (s (58 + 9 * x.toNatClampNeg + 5)).toInt := j_addE rfl q1 (by omega) (by omega)
    have q4 : ((34 + 3 * s (58 + 9 * x.toNatClampNeg + 5)) + j).toInt = 34 + 3 * (s (58 + 9 * x.toNatClampNeg + 5)).toInt + v := j_addE q3 hj (by omega) (by omega)
    have := j_nat (x := (34 + 3 * s (58 + 9 * x.toNatClampNeg + 5)) + j) (by omega)
    omega
  have r1 := rr 1 1 rfl (by decide) (by decide)
  have r2 := rr 2 2 rfl (by decide) (by decide)
  unfold R_X8_leaves
  rw [g_upd_ne (by omega), g_upd_ne (by omega), g_upd_ne (by omega)]
theorem fr_gives_hi {s : Nat → Int32} {x y : Int32} {n : Nat} (h : 0 ≤ x.toInt) (h' : x.toInt ≤ 7) (hy : y.toNatClampNeg < 6) (hn : 178 ≤ n) : R_X8_gives s x y n = s n := by
  have := j_nat h
  unfold R_X8_gives
  rw [ix_rope (w := 1) h (by omega) (by decide) (by decide), ix_rope (w := 2) h (by omega) (by decide) (by decide)]
  rw [g_upd_ne (by omega), g_upd_ne (by omega), g_upd_ne (by omega)]
/-! ===== the model: laying, taking off, the cave ===== -/
def R_X8_lay_34 (s : Nat → Int32) : (Int32 × (Nat → Int32)) := ((R_X8_fails s 2).1, (R_X8_fails s 2).2)
def R_X8_lay (s : Nat → Int32) (x1 : Int32) : (Int32 × (Nat → Int32)) := (if (R_X8_isHelper s x1) = 0 then ((R_X8_fails s 1).1, (R_X8_fails s 1).2) else (if (R_X8_stands s x1) = 0 then (R_X8_lay_34 s ) else (if (s (58 + 9 * x1.toNatClampNeg + 5)) = (-1) then (R_X8_lay_34 s ) else ((R_X8_ends (R_X8_leaves (R_X8_hold s) x1 0 ((R_X8_hold s) (58 + 9 * x1.toNatClampNeg + 1))) (s (58 + 9 * x1.toNatClampNeg + 5))).1, (R_X8_ends (R_X8_leaves (R_X8_hold s) x1 0 ((R_X8_hold s) (58 + 9 * x1.toNatClampNeg + 1))) (s (58 + 9 * x1.toNatClampNeg + 5))).2))))
def R_X8_takeOff_68 (s : Nat → Int32) : (Int32 × (Nat → Int32)) := ((R_X8_fails s 2).1, (R_X8_fails s 2).2)
def R_X8_takeOff (s : Nat → Int32) (x1 : Int32) : (Int32 × (Nat → Int32)) := (if (R_X8_isHelper s x1) = 0 then ((R_X8_fails s 1).1, (R_X8_fails s 1).2) else (if (R_X8_stands s x1) = 0 then (R_X8_takeOff_68 s ) else (if (s (58 + 9 * x1.toNatClampNeg + 5)) = (-1) then (if (R_X8_isPassage s (s (58 + 9 * x1.toNatClampNeg + 1))) = 0 then (R_X8_takeOff_68 s ) else (if (s ((27 + (s (58 + 9 * x1.toNatClampNeg + 1))).toNatClampNeg)) = (-1) then (R_X8_takeOff_68 s ) else (if (R_X8_walkers s (s (58 + 9 * x1.toNatClampNeg + 1))) ≤ 0 then ((R_X8_ends (R_X8_gives (upd (R_X8_hold s) ((27 + (s (58 + 9 * x1.toNatClampNeg + 1))).toNatClampNeg) (-1)) ((R_X8_hold s) ((27 + (s (58 + 9 * x1.toNatClampNeg + 1))).toNatClampNeg)) x1) ((R_X8_hold s) ((27 + (s (58 + 9 * x1.toNatClampNeg + 1))).toNatClampNeg))).1, (R_X8_ends (R_X8_gives (upd (R_X8_hold s) ((27 + (s (58 + 9 * x1.toNatClampNeg + 1))).toNatClampNeg) (-1)) ((R_X8_hold s) ((27 + (s (58 + 9 * x1.toNatClampNeg + 1))).toNatClampNeg)) x1) ((R_X8_hold s) ((27 + (s (58 + 9 * x1.toNatClampNeg + 1))).toNatClampNeg))).2) else (R_X8_takeOff_68 s )))) else (R_X8_takeOff_68 s ))))
def R_X8_setPassage_34 (s : Nat → Int32) : (Int32 × (Nat → Int32)) := ((R_X8_fails s 2).1, (R_X8_fails s 2).2)
def R_X8_setPassage_70 (s : Nat → Int32) : (Int32 × (Nat → Int32)) := ((R_X8_fails s 3).1, (R_X8_fails s 3).2)
def R_X8_setPassage (s : Nat → Int32) (x1 : Int32) (x2 : Int32) (x3 : Int32) : (Int32 × (Nat → Int32)) := (if (R_X8_isPassage s x1) = 0 then ((R_X8_fails s 1).1, (R_X8_fails s 1).2) else (if (R_X8_in s x2 0 60) = 0 then (R_X8_setPassage_34 s ) else (if (R_X8_in s x3 1 30) = 0 then (R_X8_setPassage_34 s ) else (if (s ((27 + x1).toNatClampNeg)) = (-1) then (if (R_X8_rigger s x1) = (-1) then (if (R_X8_walkers s x1) ≤ 0 then ((R_X8_ends (upd (upd (R_X8_hold s) ((13 + x1).toNatClampNeg) x2) ((20 + x1).toNatClampNeg) x3) ((upd (upd (R_X8_hold s) ((13 + x1).toNatClampNeg) x2) ((20 + x1).toNatClampNeg) x3) (200 + (13 + x1).toNatClampNeg))).1, (R_X8_ends (upd (upd (R_X8_hold s) ((13 + x1).toNatClampNeg) x2) ((20 + x1).toNatClampNeg) x3) ((upd (upd (R_X8_hold s) ((13 + x1).toNatClampNeg) x2) ((20 + x1).toNatClampNeg) x3) (200 + (13 + x1).toNatClampNeg))).2) else (R_X8_setPassage_70 s )) else (R_X8_setPassage_70 s )) else (R_X8_setPassage_70 s )))))
/-! ===== the model: silence, undo ===== -/
def R_X8_setSilence_20 (s : Nat → Int32) : (Int32 × (Nat → Int32)) := ((R_X8_fails s 1).1, (R_X8_fails s 1).2)
def R_X8_setSilence (s : Nat → Int32) (x1 : Int32) (x2 : Int32) : (Int32 × (Nat → Int32)) := (if (R_X8_in s x1 0 100000) = 0 then (R_X8_setSilence_20 s ) else (if (R_X8_in s x2 x1 100000) = 0 then (R_X8_setSilence_20 s ) else ((R_X8_ends (upd (upd (R_X8_hold s) (9) x1) (10) x2) ((upd (upd (R_X8_hold s) (9) x1) (10) x2) (210))).1, (R_X8_ends (upd (upd (R_X8_hold s) (9) x1) (10) x2) ((upd (upd (R_X8_hold s) (9) x1) (10) x2) (210))).2)))
def R_X8_undo_25 (s : Nat → Int32) : Nat → Nat → (Nat → Int32) → (Int32 × (Nat → Int32))
  | 0, _, _ => (0, s)
  | f + 1, k, s_25 => (if 178 ≤ (nI k) then ((R_X8_tells s_25 (s_25 1300)).1, (R_X8_tells s_25 (s_25 1300)).2) else ((R_X8_undo_25 s f) (k + 1) (upd s_25 ((nI k).toNatClampNeg) (s_25 (400 + ((178 * (s_25 1300)) + (nI k)).toNatClampNeg)))))
/-! ===== the invariant through the orders ===== -/
theorem J_goes {s : Nat → Int32} {x1 x2 : Int32} (a : g_J s) : g_J (R_X8_goes s x1 x2).2 := by
  unfold R_X8_goes
  split
  · exact a
  next c =>
  have z := isHelper_ne c
  have n := j_nat z.1
  have n2 := a.1.2.2.1.2
  split
  · next d => exact J_hi (by omega) (J_sets a (by omega) (by omega) d).1
  · exact a
theorem J_takes {s : Nat → Int32} {x1 x2 : Int32} (a : g_J s) : g_J (R_X8_takes s x1 x2).2 := by
  unfold R_X8_takes
  split
  · exact a
  next c =>
  split
  · exact a
  next d =>
  have z := isHelper_ne c
  have n := j_nat z.1
  have n2 := a.1.2.2.1.2
  have z' := isRope_ne d
  have n1 := a.1.2.1.2
  have n' := j_nat z'.1
  have hx : x1.toNatClampNeg < 6 := by omega
  have hx' : (x1.toNatClampNeg : Int) < (s 2).toInt := by omega
  repeat' split
  all_goals try exact a
  refine J_hi (by omega) ?_
  unfold R_X8_gives
  rw [ix_rope (w := 1) z'.1 (by omega) (by decide) (by decide), ix_rope (w := 2) z'.1 (by omega) (by decide) (by decide)]
  have K := g_K.of a hx'
  have Q := K.2.2.2.1
  have Z := (a.2.2.1 _ hx').z
  generalize hT : upd (upd (upd s (34 + 3 * x2.toNatClampNeg + 1) 1) (34 + 3 * x2.toNatClampNeg + 2) x1) (58 + 9 * x1.toNatClampNeg + 5) x2 = T
  have lo : ∀ j, j < 34 → T j = s j := fun j h => by rw [← hT, g_upd_ne (by omega), g_upd_ne (by omega), g_upd_ne (by omega)]
  have bl : ∀ j, j < 9 → j ≠ 5 → T (58 + 9 * x1.toNatClampNeg + j) = s (58 + 9 * x1.toNatClampNeg + j) := fun j h h' => by rw [← hT, g_upd_ne (by omega), g_upd_ne (by omega), g_upd_ne (by omega)]
  have b5 : T (58 + 9 * x1.toNatClampNeg + 5) = x2 := by rw [← hT, g_upd_eq]
  have O : g_Out s T x1.toNatClampNeg := by rw [← hT]; exact ((g_Out.refl.upd (by omega)).upd (by omega)).upd (by omega)
  refine (K.step hx O ?_ ?_ (fun p hp => ?_) ?_ ?_).j ?_
  · rw [lo 4 (by decide)]; exact a.1.2.2.2.2.1
  · rw [lo 5 (by decide)]; exact a.1.2.2.2.2.2.1
  · rw [lo _ (by omega)]; exact (a.2.1 p hp).2.2
  · unfold g_Hq
    rw [bl 1 (by decide) (by decide), bl 2 (by decide) (by decide), bl 3 (by decide) (by decide), bl 4 (by decide) (by decide), bl 8 (by decide) (by decide), b5, lo 0 (by decide), lo 1 (by decide)]
    exact ⟨Q.1, Q.2.1, ⟨by omega, z'.2⟩, Q.2.2.2.1, Q.2.2.2.2.1, fun h => ⟨(Q.2.2.2.2.2 h).1, z'.1, (Q.2.2.2.2.2 h).2.2⟩⟩
  · rw [bl 2 (by decide) (by decide), bl 1 (by decide) (by decide)]
    exact fun h => ⟨h, rfl⟩
  · unfold g_H7 at Z ⊢
    rw [bl 2 (by decide) (by decide), bl 1 (by decide) (by decide), bl 7 (by decide) (by decide)]
    exact Z

theorem J_sends {s : Nat → Int32} {x1 : Int32} (a : g_J s) : g_J (R_X8_sends s x1).2 := by
  have n6 := a.1.2.2.2.2.2.2.1
  have n0 := a.1.1
  have n3 := a.1.2.2.2.1
  unfold R_X8_sends
  split
  · exact a
  next ch =>
  have z := isHelper_ne ch
  have q := (a.h z.1 z.2).1
  have k43 : (s (6)).toInt ≠ 10 ∨ s (58 + 9 * x1.toNatClampNeg + 1) = 0 → g_J (R_X8_sends_43 s x1).2 := by
    intro h
    unfold R_X8_sends_43 R_X8_sends_115
    split
    · refine J_hi (by omega) ?_
      refine J_msgs a (fun n _ _ _ _ h7 => g_upd_ne h7) ?_ ?_ (fun i hi => ?_)
      · rw [g_upd_ne (by omega)]; exact n3
      · rw [g_upd_ne (by omega)]; exact n6
      · rw [g_upd_ne (by omega)] at hi
        rw [g_upd_ne (by omega)]; exact a.2.2.2.2 i hi
    next c =>
    have c0 : (s (58 + 9 * x1.toNatClampNeg + 1)).toInt ≠ 0 := j_neR c rfl
    have h6 : (s 6).toInt < 10 := by
      rcases h with h | h
      · omega
      · exact absurd h c
    have n6' := j_nat n6.1
    have ix : ∀ (w : Int32) (v : Nat), w.toInt = v → v ≤ 2 → ((112 + 3 * s 6) + w).toNatClampNeg = 112 + 3 * (s 6).toNatClampNeg + v := fun w v hw hv => by
      have q1 : (3 * s 6).toInt = 3 * (s 6).toInt := j_mulE rfl rfl (by omega) (by omega)
      have q3 : (112 + 3 * s 6).toInt = 112 + 3 * (s 6).toInt := j_addE rfl q1 (by omega) (by omega)
      have q4 : ((112 + 3 * s 6) + w).toInt = 112 + 3 * (s 6).toInt + v := j_addE q3 hw (by omega) (by omega)
      have := j_nat (x := (112 + 3 * s 6) + w) (by omega)
      omega
    have i0 : (112 + 3 * s 6).toNatClampNeg = 112 + 3 * (s 6).toNatClampNeg := by
      have := ix 0 0 rfl (by decide)
      rwa [show (112 + 3 * s 6) + 0 = 112 + 3 * s 6 by simp] at this
    rw [ix 1 1 rfl (by decide), ix 2 2 rfl (by decide), i0]
    refine J_hi (by omega) ?_
    have es : (s 6 + 1).toInt = (s 6).toInt + 1 := j_addE rfl rfl (by omega) (by omega)
    generalize hv : upd s (112 + 3 * (s 6).toNatClampNeg) x1 3 = v
    generalize hT : upd (upd (upd s (112 + 3 * (s 6).toNatClampNeg) x1) (112 + 3 * (s 6).toNatClampNeg + 1) v) (112 + 3 * (s 6).toNatClampNeg + 2) (s (58 + 9 * x1.toNatClampNeg + 1)) = T
    have t6 : T 6 = s 6 := by rw [← hT, g_upd_ne (by omega), g_upd_ne (by omega), g_upd_ne (by omega)]
    rw [t6]
    refine J_msgs a (fun n h1 h2 _ h6 _ => ?_) ?_ ?_ (fun i hi => ?_)
    · rw [g_upd_ne h6, ← hT, g_upd_ne (by omega), g_upd_ne (by omega), g_upd_ne (by omega)]
    · rw [g_upd_ne (by omega), ← hT, g_upd_ne (by omega), g_upd_ne (by omega), g_upd_ne (by omega)]; exact n3
    · rw [g_upd_eq, es]; omega
    · rw [g_upd_eq, es] at hi
      rw [g_upd_ne (by omega), ← hT]
      by_cases e : i = (s 6).toNatClampNeg
      · rw [show 114 + 3 * i = 112 + 3 * (s 6).toNatClampNeg + 2 by omega, g_upd_eq]; omega
      · rw [g_upd_ne (by omega), g_upd_ne (by omega), g_upd_ne (by omega)]; exact a.2.2.2.2 i (by omega)
  split
  · exact a
  split
  · next c =>
    have c' := j_leR c (b := 0) rfl
    exact k43 (Or.inr (Int32.toInt_inj.mp (by have : (0 : Int32).toInt = 0 := rfl; omega)))
  split
  · exact a
  · next c => exact k43 (Or.inl (j_neR c rfl))

theorem rigger_nobody {s : Nat → Int32} {x : Int32} (h2 : (s 2).toInt ≤ 6) : ∀ (f : Nat) (v : Int32) (n : Nat), n ≤ 6 → 6 < f + n → R_X8_rigger_4 s x f v n = -1 → v = -1 ∧ ∀ k : Nat, n ≤ k → (k : Int) < (s 2).toInt → s (58 + 9 * k + 2) = 2 → s (58 + 9 * k + 1) ≠ x := by
  intro f
  induction f with
  | zero => intro v n h1 h2; exact absurd h2 (by omega)
  | succ f ih =>
    intro v n h1 h3 hr
    have qn : (nI n).toInt = n := nI_toInt (by omega)
    have nn : (nI n).toNatClampNeg = n := by have := j_nat (x := nI n) (by omega); omega
    rw [R_X8_rigger_4, nn] at hr
    unfold R_X8_rigger_38 R_X8_rigger_39 at hr
    split at hr
    · next c =>
      have c' := j_le c
      exact ⟨hr, fun k hk hk' => absurd hk' (by omega)⟩
    next c =>
    have c' := j_nle c
    have other : R_X8_rigger_4 s x f v (n + 1) = -1 → (s (58 + 9 * n + 2) = 2 → s (58 + 9 * n + 1) ≠ x) → v = -1 ∧ ∀ k : Nat, n ≤ k → (k : Int) < (s 2).toInt → s (58 + 9 * k + 2) = 2 → s (58 + 9 * k + 1) ≠ x := fun h g => by
      have := ih v (n + 1) (by omega) (by omega) h
      refine ⟨this.1, fun k hk hk' => ?_⟩
      by_cases e : k = n
      · subst e; exact g
      · exact this.2 k (by omega) hk'
    split at hr
    · split at hr
      · have := (ih (nI n) (n + 1) (by omega) (by omega) hr).1
        have : (nI n).toInt = -1 := by rw [this]; rfl
        omega
      · next d => exact other hr (fun _ => d)
    · next d => exact other hr (fun h => absurd h d)
theorem J_rigs {s : Nat → Int32} {h : Nat} {w : Int32} (a : g_J s) (hh : (h : Int) < (s 2).toInt) (h0 : s (58 + 9 * h + 2) = 0) (hr : 0 ≤ (s (58 + 9 * h + 5)).toInt) (hs : (s (58 + 9 * h + 1)).toInt < (s 0).toInt) (hw : 1 ≤ w.toInt) (nb : ∀ k : Nat, (k : Int) < (s 2).toInt → s (58 + 9 * k + 2) = 2 → s (58 + 9 * k + 1) ≠ s (58 + 9 * h + 1)) : g_J (upd (upd s (58 + 9 * h + 2) 2) (58 + 9 * h + 4) w) := by
  obtain ⟨h1, h2, h3, h4, h5⟩ := a
  have q2 : (s 2).toInt ≤ 6 := h1.2.2.1.2
  have q6 : (s 6).toInt ≤ 10 := h1.2.2.2.2.2.2.1.2
  generalize hT : upd (upd s (58 + 9 * h + 2) 2) (58 + 9 * h + 4) w = T
  have e : ∀ n, n ≠ 58 + 9 * h + 2 → n ≠ 58 + 9 * h + 4 → T n = s n := fun n a b => by rw [← hT, g_upd_ne b, g_upd_ne a]
  have t2 : T (58 + 9 * h + 2) = 2 := by rw [← hT, g_upd_ne (by omega), g_upd_eq]
  have t4 : T (58 + 9 * h + 4) = w := by rw [← hT, g_upd_eq]
  have lo : ∀ n, n < 58 → T n = s n := fun n hn => e n (by omega) (by omega)
  have ek : ∀ k j : Nat, k ≠ h → j < 9 → T (58 + 9 * k + j) = s (58 + 9 * k + j) := fun k j a b => e _ (by omega) (by omega)
  have eh : ∀ j : Nat, j < 9 → j ≠ 2 → j ≠ 4 → T (58 + 9 * h + j) = s (58 + 9 * h + j) := fun j a b c => e _ (by omega) (by omega)
  refine ⟨?_, fun p hp => ?_, fun k hk => ?_, fun k k' hk hk' x y z => ?_, fun i hi => ?_⟩
  · rw [lo 0, lo 1, lo 2, lo 3, lo 4, lo 5, lo 6, lo 9, lo 10, lo 12]
    · exact h1
    all_goals decide
  · rw [lo (13 + p) (by omega), lo (20 + p) (by omega), lo (27 + p) (by omega), lo 1 (by decide)]
    exact h2 p hp
  · rw [lo 2 (by decide)] at hk
    have := h3 k hk
    by_cases c : k = h
    · subst c
      unfold g_Hp at this ⊢
      rw [lo 0 (by decide), lo 1 (by decide), eh 1 (by decide) (by decide) (by decide), t2, eh 3 (by decide) (by decide) (by decide), t4, eh 5 (by decide) (by decide) (by decide), eh 7 (by decide) (by decide) (by decide), eh 8 (by decide) (by decide) (by decide)]
      exact ⟨this.1, Or.inr (Or.inr rfl), this.2.2.1, this.2.2.2.1, fun h => absurd h (by decide), fun _ => ⟨hs, hr, hw⟩, fun _ z => this.2.2.2.2.2.2 (by rw [h0]; decide) z⟩
    · unfold g_Hp at this ⊢
      rw [lo 0 (by decide), lo 1 (by decide), ek k 1 c (by decide), ek k 2 c (by decide), ek k 3 c (by decide), ek k 4 c (by decide), ek k 5 c (by decide), ek k 7 c (by decide), ek k 8 c (by decide)]
      exact this
  · rw [lo 2 (by decide)] at hk hk'
    by_cases c : k = h <;> by_cases c' : k' = h
    · rw [c, c']
    · subst c
      rw [ek k' 2 c' (by decide)] at y
      rw [ek k' 1 c' (by decide), eh 1 (by decide) (by decide) (by decide)] at z
      exact absurd z.symm (nb k' hk' y)
    · subst c'
      rw [ek k 2 c (by decide)] at x
      rw [ek k 1 c (by decide), eh 1 (by decide) (by decide) (by decide)] at z
      exact absurd z (nb k hk x)
    · rw [ek k 2 c (by decide)] at x
      rw [ek k' 2 c' (by decide)] at y
      rw [ek k 1 c (by decide), ek k' 1 c' (by decide)] at z
      exact h4 k k' hk hk' x y z
  · rw [lo 6 (by decide)] at hi
    have : (h : Int) < 6 := by omega
    rw [e (114 + 3 * i) (by omega) (by omega)]
    exact h5 i hi
theorem isPassage_ne {s : Nat → Int32} {x : Int32} (h : ¬ R_X8_isPassage s x = 0) : 0 ≤ x.toInt ∧ x.toInt < (s 0).toInt := by
  unfold R_X8_isPassage at h
  split at h
  · exact absurd rfl h
  next c1 =>
  split at h
  · exact absurd rfl h
  next c2 => exact ⟨j_nlt c1, j_nle c2⟩
theorem J_rigsAt {s : Nat → Int32} {x1 : Int32} (a : g_J s) : g_J (R_X8_rigsAt s x1).2 := by
  unfold R_X8_rigsAt
  split
  · exact a
  next c =>
  have z := isHelper_ne c
  have n := j_nat z.1
  have n2 := a.1.2.2.1.2
  have hx' : (x1.toNatClampNeg : Int) < (s 2).toInt := by omega
  have Q := (a.2.2.1 _ hx').q
  split
  · exact a
  next st =>
  split
  · exact a
  next rp =>
  split
  · exact a
  next ps =>
  split
  · exact a
  split
  · next rg =>
    split
    · exact a
    split
    · exact a
    · refine J_hi (by omega) (J_rigs a hx' ?_ ?_ (isPassage_ne ps).2 (by decide) ?_)
      · unfold R_X8_stands at st
        split at st
        · next h => exact h
        · exact absurd rfl st
      · have := j_neR rp (b := -1) rfl
        have := Q.2.2.1.1
        omega
      · intro k hk
        exact (rigger_nobody n2 7 (-1) 0 (by omega) (by omega) rg).2 k (by omega) hk
  · exact a

/-- who a carrying walks with: all whose bit is set can carry -/
theorem can_35 {s : Nat → Int32} {x1 : Int32} (h2 : (s 2).toInt ≤ 6) : ∀ (f : Nat) (v : Int32) (h : Nat), h ≤ 6 → 6 < f + h → R_X8_carries_35 s x1 f v h = (2, s) ∨ (v ≠ 0 ∧ R_X8_carries_35 s x1 f v h = R_X8_carries_105 s x1 7 0 s ∧ ∀ k : Nat, h ≤ k → (k : Int) < (s 2).toInt → (x1 >>> ((nI k) &&& 31)) &&& 1 ≠ 0 → R_X8_canCarry s (nI k) ≠ 0) := by
  intro f
  induction f with
  | zero => intro v h h1 h2; exact absurd h2 (by omega)
  | succ f ih =>
    intro v h h1 h3
    have qh : (nI h).toInt = h := nI_toInt (by omega)
    rw [R_X8_carries_35]
    unfold R_X8_carries_65 R_X8_carries_70 R_X8_carries_77
    by_cases c : s 2 ≤ nI h
    · rw [if_pos c]
      have c' := j_le c
      by_cases d : v = 0
      · rw [if_pos d]; exact Or.inl rfl
      · rw [if_neg d]; exact Or.inr ⟨d, rfl, fun k hk hk' => absurd hk' (by omega)⟩
    rw [if_neg c]
    have c' := j_nle c
    by_cases d : v = 0
    · rw [if_pos d, if_pos d]; exact Or.inl rfl
    rw [if_neg d]
    have step : ∀ w, (w ≠ 0 → (x1 >>> ((nI h) &&& 31)) &&& 1 ≠ 0 → R_X8_canCarry s (nI h) ≠ 0) → R_X8_carries_35 s x1 f w (h + 1) = (2, s) ∨ (v ≠ 0 ∧ R_X8_carries_35 s x1 f w (h + 1) = R_X8_carries_105 s x1 7 0 s ∧ ∀ k : Nat, h ≤ k → (k : Int) < (s 2).toInt → (x1 >>> ((nI k) &&& 31)) &&& 1 ≠ 0 → R_X8_canCarry s (nI k) ≠ 0) := fun w g => by
      rcases ih w (h + 1) (by omega) (by omega) with e | ⟨e1, e2, e3⟩
      · exact Or.inl e
      · refine Or.inr ⟨d, e2, fun k hk hk' => ?_⟩
        by_cases e : k = h
        · subst e; exact g e1
        · exact e3 k (by omega) hk'
    by_cases b : (x1 >>> ((nI h) &&& 31)) &&& 1 = 0
    · rw [if_pos b]; exact step 1 (fun _ z => absurd b z)
    rw [if_neg b]
    by_cases e : R_X8_canCarry s (nI h) = 0
    · rw [if_pos e]; exact step 0 (fun z => absurd rfl z)
    · rw [if_neg e]; exact step 1 (fun _ _ => e)

/-- the log's writes keep the invariant -/
theorem J_245 {s t : Nat → Int32} {x1 v : Int32} (a : g_J t) (hv : 0 ≤ v.toInt ∧ (t 12).toInt + v.toInt ≤ 12) : g_J (R_X8_carries_245 s x1 t v).2 := by
  have n12 := a.1.2.2.2.2.2.2.2.2
  unfold R_X8_carries_245
  refine J_hi (by omega) ?_
  have e12 : (upd (upd (upd t 142 (t 3)) 143 ((upd t 142 (t 3)) 4)) 144 x1) 12 = t 12 := by rw [g_upd_ne (by decide), g_upd_ne (by decide), g_upd_ne (by decide)]
  rw [e12]
  generalize hL : upd (upd (upd t 142 (t 3)) 143 ((upd t 142 (t 3)) 4)) 144 x1 = L
  have l : ∀ n, n < 142 → L n = t n := fun n h => by rw [← hL, g_upd_ne (by omega), g_upd_ne (by omega), g_upd_ne (by omega)]
  have ea : (t 12 + v).toInt = (t 12).toInt + v.toInt := j_addE rfl rfl (by omega) (by omega)
  generalize hw : upd L 12 (t 12 + v) 8 + 1 = w
  generalize hT : upd (upd (upd L 12 (t 12 + v)) 8 w) 5 1 = T
  have e : ∀ n, n < 142 → n ≠ 5 → n ≠ 8 → n ≠ 12 → T n = t n := fun n h a b c => by rw [← hT, g_upd_ne a, g_upd_ne b, g_upd_ne c, l n h]
  have t5 : T 5 = 1 := by rw [← hT, g_upd_eq]
  have t12 : T 12 = t 12 + v := by rw [← hT, g_upd_ne (by decide), g_upd_ne (by decide), g_upd_eq]
  obtain ⟨h1, h2, h3, h4, h5⟩ := a
  have q2 : (t 2).toInt ≤ 6 := h1.2.2.1.2
  have q6 : (t 6).toInt ≤ 10 := h1.2.2.2.2.2.2.1.2
  have f : ∀ k j : Nat, k < 6 → j < 9 → T (58 + 9 * k + j) = t (58 + 9 * k + j) := fun k j a b => e _ (by omega) (by omega) (by omega) (by omega)
  refine ⟨?_, fun p hp => ?_, fun k hk => ?_, fun k k' hk hk' x y z => ?_, fun i hi => ?_⟩
  · rw [e 0, e 1, e 2, e 3, e 4, e 6, e 9, e 10, t5, t12, ea]
    · exact ⟨h1.1, h1.2.1, h1.2.2.1, h1.2.2.2.1, h1.2.2.2.2.1, Or.inr rfl, h1.2.2.2.2.2.2.1, h1.2.2.2.2.2.2.2.1, by omega, hv.2⟩
    all_goals decide
  · rw [e (13 + p) (by omega) (by omega) (by omega) (by omega), e (20 + p) (by omega) (by omega) (by omega) (by omega), e (27 + p) (by omega) (by omega) (by omega) (by omega), e 1 (by decide) (by decide) (by decide) (by decide)]
    exact h2 p hp
  · rw [e 2 (by decide) (by decide) (by decide) (by decide)] at hk
    have hk6 : k < 6 := by omega
    have := h3 k hk
    unfold g_Hp at this ⊢
    rw [e 0 (by decide) (by decide) (by decide) (by decide), e 1 (by decide) (by decide) (by decide) (by decide), f k 1 hk6 (by decide), f k 2 hk6 (by decide), f k 3 hk6 (by decide), f k 4 hk6 (by decide), f k 5 hk6 (by decide), f k 7 hk6 (by decide), f k 8 hk6 (by decide)]
    exact this
  · rw [e 2 (by decide) (by decide) (by decide) (by decide)] at hk hk'
    rw [f k 2 (by omega) (by decide)] at x
    rw [f k' 2 (by omega) (by decide)] at y
    rw [f k 1 (by omega) (by decide), f k' 1 (by omega) (by decide)] at z
    exact h4 k k' hk hk' x y z
  · rw [e 6 (by decide) (by decide) (by decide) (by decide)] at hi
    rw [e (114 + 3 * i) (by omega) (by omega) (by omega) (by omega)]
    exact h5 i hi

/-- the invariant hangs on nothing behind the messages -/
theorem J_low {s t : Nat → Int32} (a : g_J s) (o : ∀ n, n < 112 → n ≠ 3 → n ≠ 6 → n ≠ 7 → t n = s n) (t3 : 0 ≤ (t 3).toInt ∧ (t 3).toInt ≤ 100000) (t6 : 0 ≤ (t 6).toInt ∧ (t 6).toInt ≤ 10) (tm : ∀ i : Nat, (i : Int) < (t 6).toInt → 1 ≤ (t (114 + 3 * i)).toInt ∧ (t (114 + 3 * i)).toInt ≤ 7) : g_J t := by
  obtain ⟨h1, h2, h3, h4, h5⟩ := a
  have q2 : (s 2).toInt ≤ 6 := h1.2.2.1.2
  have e : ∀ n, n < 112 → n ≠ 3 → n ≠ 6 → n ≠ 7 → t n = s n := fun n a b c d => o n (by omega) b c d
  refine ⟨?_, fun p hp => ?_, fun k hk => ?_, fun k k' hk hk' a b c => ?_, tm⟩
  · rw [e 0, e 1, e 2, e 4, e 5, e 9, e 10, e 12]
    · exact ⟨h1.1, h1.2.1, h1.2.2.1, t3, h1.2.2.2.2.1, h1.2.2.2.2.2.1, t6, h1.2.2.2.2.2.2.2⟩
    all_goals decide
  · rw [e (13 + p) (by omega) (by omega) (by omega) (by omega), e (20 + p) (by omega) (by omega) (by omega) (by omega), e (27 + p) (by omega) (by omega) (by omega) (by omega), e 1 (by decide) (by decide) (by decide) (by decide)]
    exact h2 p hp
  · rw [e 2 (by decide) (by decide) (by decide) (by decide)] at hk
    have hk6 : k < 6 := by omega
    have := h3 k hk
    unfold g_Hp at this ⊢
    have f : ∀ j, j < 9 → t (58 + 9 * k + j) = s (58 + 9 * k + j) := fun j _ => e _ (by omega) (by omega) (by omega) (by omega)
    rw [e 0 (by decide) (by decide) (by decide) (by decide), e 1 (by decide) (by decide) (by decide) (by decide), f 1 (by decide), f 2 (by decide), f 3 (by decide), f 4 (by decide), f 5 (by decide), f 7 (by decide), f 8 (by decide)]
    exact this
  · rw [e 2 (by decide) (by decide) (by decide) (by decide)] at hk hk'
    have hk6 : k < 6 := by omega
    have hk6' : k' < 6 := by omega
    rw [e (58 + 9 * k + 2) (by omega) (by omega) (by omega) (by omega)] at a
    rw [e (58 + 9 * k' + 2) (by omega) (by omega) (by omega) (by omega)] at b
    rw [e (58 + 9 * k + 1) (by omega) (by omega) (by omega) (by omega), e (58 + 9 * k' + 1) (by omega) (by omega) (by omega) (by omega)] at c
    exact h4 k k' hk hk' a b c
theorem J_153 {s : Nat → Int32} {x1 : Int32} : ∀ (f d : Nat) (t : Nat → Int32), d ≤ 177 → 144 ≤ d → d < f + 144 → g_J t → g_J (R_X8_carries_153 s x1 f d t).2 := by
  intro f
  induction f with
  | zero => intro d t _ h1 h2; exact absurd h2 (by omega)
  | succ f ih =>
    intro d t h1 h2 h3 a
    have qd : (nI d).toInt = d := nI_toInt (by omega)
    have nd := j_nat (x := nI d) (by omega)
    have q : (145 : Int32).toInt = 145 := rfl
    have n12 := a.1.2.2.2.2.2.2.2.2
    rw [R_X8_carries_153]
    split
    · have e12 : (upd (upd (upd t 142 (t 3)) 143 ((upd t 142 (t 3)) 4)) 144 x1) 12 = t 12 := by rw [g_upd_ne (by decide), g_upd_ne (by decide), g_upd_ne (by decide)]
      rw [e12]
      have z0 : (0 : Int32).toInt = 0 := rfl
      have z1 : (1 : Int32).toInt = 1 := rfl
      split
      · exact J_245 a ⟨by decide, by omega⟩
      · next c =>
        have c' := j_nle c
        have z12 : (12 : Int32).toInt = 12 := rfl
        exact J_245 a ⟨by decide, by omega⟩
    · next c =>
      have c' := j_nlt c
      have q6 : (t 6).toInt ≤ 10 := a.1.2.2.2.2.2.2.1.2
      have q2 := a.1.2.2.1.2
      refine ih (d - 1) _ (by omega) (by omega) (by omega) (J_low a (fun n h _ _ _ => g_upd_ne (by omega)) ?_ ?_ (fun i hi => ?_))
      · rw [g_upd_ne (by omega)]; exact a.1.2.2.2.1
      · rw [g_upd_ne (by omega)]; exact a.1.2.2.2.2.2.2.1
      · rw [g_upd_ne (by omega)] at hi
        rw [g_upd_ne (by omega)]; exact a.2.2.2.2 i hi

theorem J_105 {s : Nat → Int32} {x1 : Int32} (a0 : g_J s) (s4 : 1 ≤ (s 4).toInt) : ∀ (f i : Nat) (t : Nat → Int32), g_J t → t 0 = s 0 → t 2 = s 2 → t 4 = s 4 → i ≤ 6 → 6 < f + i → (∀ k : Nat, i ≤ k → (k : Int) < (s 2).toInt → (x1 >>> ((nI k) &&& 31)) &&& 1 ≠ 0 → t (58 + 9 * k + 1) = s 4) → g_J (R_X8_carries_105 s x1 f i t).2 := by
  have n4 := a0.1.2.2.2.2.1
  have n0 := a0.1.1
  have n2 := a0.1.2.2.1
  have e20 : ((20 + s 4) - 1).toNatClampNeg = 20 + ((s 4).toInt - 1).toNat := by
    have q1 : (20 + s 4).toInt = 20 + (s 4).toInt := j_addE rfl rfl (by omega) (by omega)
    have q2 : ((20 + s 4) - 1).toInt = 20 + (s 4).toInt - 1 := j_subE q1 rfl (by omega) (by omega)
    have := j_nat (x := (20 + s 4) - 1) (by omega)
    omega
  have m := (a0.2.1 ((s 4).toInt - 1).toNat (by omega)).2.1
  rw [← e20] at m
  have m3 : (3 * s ((20 + s 4) - 1).toNatClampNeg).toInt = 3 * (s ((20 + s 4) - 1).toNatClampNeg).toInt := j_mulE rfl rfl (by omega) (by omega)
  have b4 : (s 4 - 1).toInt = (s 4).toInt - 1 := j_subE rfl rfl (by omega) (by omega)
  intro f
  induction f with
  | zero => intro i t _ _ _ _ h1 h2; exact absurd h2 (by omega)
  | succ f ih =>
    intro i t a t0 t2 t4 h1 h2 hk
    have qi : (nI i).toInt = i := nI_toInt (by omega)
    have ni := j_nat (x := nI i) (by omega)
    have nn : (nI i).toNatClampNeg = i := by omega
    rw [R_X8_carries_105]
    split
    · exact J_153 34 177 t (by omega) (by omega) (by omega) a
    next c =>
    have c' := j_nle c
    rw [t2] at c'
    unfold R_X8_carries_142
    split
    · next b =>
      have st : t (58 + 9 * (nI i).toNatClampNeg + 1) = s 4 := by rw [nn]; exact hk i (Nat.le_refl _) (by omega) (by rw [b]; decide)
      have w : g_J (R_X8_walks t (nI i) (t 4 - 1) (3 * s ((20 + s 4) - 1).toNatClampNeg) 1) := J_walks a (by omega) (by rw [t2]; omega) (by rw [t4, t0, b4]; omega) (Or.inr (by rw [t4, st, b4])) (by omega) (Or.inr rfl)
      refine ih (i + 1) _ w ?_ ?_ ?_ (by omega) (by omega) (fun k h h' hb => ?_)
      · rw [fr_X8_walks (by omega) (by omega) (by omega) (by omega)]; exact t0
      · rw [fr_X8_walks (by omega) (by omega) (by omega) (by omega)]; exact t2
      · rw [fr_X8_walks (by omega) (by omega) (by omega) (by omega)]; exact t4
      · rw [fr_X8_walks (by omega) (by omega) (by omega) (by omega)]; exact hk k (by omega) h' hb
    · exact ih (i + 1) _ a t0 t2 t4 (by omega) (by omega) (fun k h h' hb => hk k (by omega) h' hb)
theorem J_carries {s : Nat → Int32} {x1 : Int32} (a : g_J s) : g_J (R_X8_carries s x1).2 := by
  have n2 := a.1.2.2.1.2
  have n0 := a.1.1
  have n4 := a.1.2.2.2.2.1
  unfold R_X8_carries
  split
  · exact a
  split
  · rcases can_35 (x1 := x1) n2 7 (R_X8_isCarryable s) 0 (by omega) (by omega) with e | ⟨e1, e2, e3⟩
    · rw [e]; exact a
    · rw [e2]
      have s4 : 1 ≤ (s 4).toInt := by
        unfold R_X8_isCarryable at e1
        split at e1
        · split at e1
          · exact absurd rfl e1
          · next c =>
            have := j_nleR c (b := 0) rfl
            omega
        · exact absurd rfl e1
      refine J_105 a s4 7 0 s a rfl rfl rfl (by omega) (by omega) (fun k _ hk hb => ?_)
      have g := e3 k (by omega) hk hb
      have qk : (nI k).toInt = k := nI_toInt (by omega)
      have nk : (nI k).toNatClampNeg = k := by have := j_nat (x := nI k) (by omega); omega
      unfold R_X8_canCarry at g
      rw [nk] at g
      split at g
      · exact absurd rfl g
      split at g
      · next c => exact c
      · exact absurd rfl g
  · exact a

/-! ===== the model: ropes, helpers, a new exercise ===== -/
/-- a new exercise's row -/
def g_new (x : Int32) (n : Nat) : Int32 := if n = 0 ∨ n = 4 then x else if 13 ≤ n ∧ n < 20 then g_d0 (n - 13) else if 20 ≤ n ∧ n < 27 then g_m0 (n - 20) else if 27 ≤ n ∧ n < 34 then -1 else 0
theorem begins_38_at {s : Nat → Int32} : ∀ (f p : Nat) (t : Nat → Int32), p ≤ 7 → 7 < f + p → ∀ n, R_X8_begins_38 s f p t n = if 13 + p ≤ n ∧ n < 20 then g_d0 (n - 13) else if 20 + p ≤ n ∧ n < 27 then g_m0 (n - 20) else if 27 + p ≤ n ∧ n < 34 then -1 else t n
  | 0, p, t, h, h' => absurd h' (by omega)
  | f + 1, p, t, h, h' => by
    intro n
    unfold R_X8_begins_38
    by_cases c : p = 7
    · subst c
      rw [if_pos (by decide), if_neg (by omega), if_neg (by omega), if_neg (by omega)]
    · have key : ∀ a b : Int32, g_d0 p = a → g_m0 p = b → R_X8_begins_38 s f (p + 1) (upd (upd (upd t ((13 + nI p).toNatClampNeg) a) ((20 + nI p).toNatClampNeg) b) ((27 + nI p).toNatClampNeg) (-1)) n = if 13 + p ≤ n ∧ n < 20 then g_d0 (n - 13) else if 20 + p ≤ n ∧ n < 27 then g_m0 (n - 20) else if 27 + p ≤ n ∧ n < 34 then -1 else t n := by
        intro a b ha hb
        have hc : (nI p).toInt = (p : Int) := nI_toInt (by omega)
        have i1 := (ix_p (x := nI p) (b := 13) (w := 13) rfl (by decide) (by omega) (by omega)).1
        have i2 := (ix_p (x := nI p) (b := 20) (w := 20) rfl (by decide) (by omega) (by omega)).1
        have i3 := (ix_p (x := nI p) (b := 27) (w := 27) rfl (by decide) (by omega) (by omega)).1
        rw [nI_clamp (by omega)] at i1 i2 i3
        rw [i1, i2, i3, begins_38_at f (p + 1) _ (by omega) (by omega)]
        by_cases e1 : n = 13 + p
        · subst e1
          rw [if_neg (by omega), if_neg (by omega), if_neg (by omega), if_pos (by omega), g_upd_ne (by omega), g_upd_ne (by omega), g_upd_eq, ← ha]
          congr 1; omega
        · by_cases e2 : n = 20 + p
          · subst e2
            rw [if_neg (by omega), if_neg (by omega), if_neg (by omega), if_neg (by omega), if_pos (by omega), g_upd_ne (by omega), g_upd_eq, ← hb]
            congr 1; omega
          · by_cases e3 : n = 27 + p
            · subst e3
              rw [if_neg (by omega), if_neg (by omega), if_neg (by omega), if_neg (by omega), if_neg (by omega), if_pos (by omega), g_upd_eq]
            · rw [g_upd_ne e3, g_upd_ne e2, g_upd_ne e1]
              by_cases d1 : 13 + p ≤ n ∧ n < 20
              · rw [if_pos d1, if_pos (by omega)]
              · rw [if_neg d1, if_neg (by omega)]
                by_cases d2 : 20 + p ≤ n ∧ n < 27
                · rw [if_pos d2, if_pos (by omega)]
                · rw [if_neg d2, if_neg (by omega)]
                  by_cases d3 : 27 + p ≤ n ∧ n < 34
                  · rw [if_pos d3, if_pos (by omega)]
                  · rw [if_neg d3, if_neg (by omega)]
      have : p = 0 ∨ p = 1 ∨ p = 2 ∨ p = 3 ∨ p = 4 ∨ p = 5 ∨ p = 6 := by omega
      unfold R_X8_begins_73 R_X8_begins_113
      rcases this with rfl | rfl | rfl | rfl | rfl | rfl | rfl
      · rw [if_neg (by decide), if_neg (by decide), if_neg (by decide), if_neg (by decide), if_neg (by decide), if_neg (by decide)]; exact key 0 5 rfl rfl
      · rw [if_neg (by decide), if_pos (by decide), if_pos (by decide)]; exact key 20 8 rfl rfl
      · rw [if_neg (by decide), if_neg (by decide), if_neg (by decide), if_neg (by decide), if_pos (by decide)]; exact key 0 6 rfl rfl
      · rw [if_neg (by decide), if_neg (by decide), if_pos (by decide), if_neg (by decide), if_neg (by decide), if_pos (by decide)]; exact key 35 10 rfl rfl
      · rw [if_neg (by decide), if_neg (by decide), if_neg (by decide), if_neg (by decide), if_neg (by decide), if_neg (by decide)]; exact key 0 5 rfl rfl
      · rw [if_neg (by decide), if_neg (by decide), if_neg (by decide), if_neg (by decide), if_neg (by decide), if_neg (by decide)]; exact key 0 5 rfl rfl
      · rw [if_neg (by decide), if_neg (by decide), if_neg (by decide), if_neg (by decide), if_neg (by decide), if_neg (by decide)]; exact key 0 5 rfl rfl
theorem begins_2_at {s : Nat → Int32} {x : Int32} : ∀ (f k : Nat) (t : Nat → Int32), k ≤ 178 → 178 < f + k → (∀ n, n < k → t n = 0) → ∀ n, R_X8_begins_2 s x f k t n = if n < 178 then g_new x n else t n
  | 0, k, t, h, h', _ => absurd h' (by omega)
  | f + 1, k, t, h, h', z => by
    intro n
    have hc : (nI k).toInt = (k : Int) := nI_toInt (by omega)
    unfold R_X8_begins_2
    split
    · rename_i q
      have q : (178 : Int) ≤ (nI k).toInt := j_leL q rfl
      have e : k = 178 := by omega
      subst e
      rw [begins_38_at 8 0 _ (by omega) (by omega)]
      unfold g_new
      by_cases a : n < 178
      · rw [if_pos a]
        by_cases d1 : 13 + 0 ≤ n ∧ n < 20
        · rw [if_pos d1, if_neg (by omega), if_pos d1]
        · rw [if_neg d1]
          by_cases d2 : 20 + 0 ≤ n ∧ n < 27
          · rw [if_pos d2, if_neg (by omega), if_neg (by omega), if_pos d2]
          · rw [if_neg d2]
            by_cases d3 : 27 + 0 ≤ n ∧ n < 34
            · rw [if_pos d3, if_neg (by omega), if_neg (by omega), if_neg (by omega), if_pos d3]
            · rw [if_neg d3]
              by_cases e4 : n = 4
              · subst e4; rw [g_upd_eq, if_pos (Or.inr rfl)]
              · by_cases e0 : n = 0
                · subst e0; rw [g_upd_ne (by omega), g_upd_eq, if_pos (Or.inl rfl)]
                · rw [g_upd_ne e4, g_upd_ne e0, z n a, if_neg (by omega), if_neg d1, if_neg d2, if_neg d3]
      · rw [if_neg a, if_neg (by omega), if_neg (by omega), if_neg (by omega), g_upd_ne (by omega), g_upd_ne (by omega)]
    · rename_i q
      have q : (nI k).toInt < (178 : Int) := j_nleL q rfl
      rw [nI_clamp (by omega), begins_2_at f (k + 1) _ (by omega) (by omega) (fun n hn => ?_)]
      · by_cases a : n < 178
        · rw [if_pos a, if_pos a]
        · rw [if_neg a, if_neg a, g_upd_ne (by omega)]
      · by_cases e : n = k
        · subst e; exact g_upd_eq
        · rw [g_upd_ne e]; exact z n (by omega)
theorem begins_at {s : Nat → Int32} {x : Int32} (n : Nat) : R_X8_begins s x n = if n < 178 then g_new x n else s n := begins_2_at _ _ _ (by omega) (by omega) (fun n h => absurd h (by omega)) n
def R_X8_addRope_75 (s_75 : Nat → Int32) : (Int32 × (Nat → Int32)) := ((R_X8_ends (upd s_75 (1) ((s_75 (1)) + 1)) ((upd s_75 (1) ((s_75 (1)) + 1)) (201))).1, (R_X8_ends (upd s_75 (1) ((s_75 (1)) + 1)) ((upd s_75 (1) ((s_75 (1)) + 1)) (201))).2)
def R_X8_addRope (s : Nat → Int32) (x1 : Int32) : (Int32 × (Nat → Int32)) := (if (R_X8_in s x1 10 80) = 0 then ((R_X8_fails s 1).1, (R_X8_fails s 1).2) else (if (s (1)) = 8 then ((R_X8_fails s 2).1, (R_X8_fails s 2).2) else (R_X8_addRope_75  (upd (upd (upd (R_X8_hold s) ((34 + (3 * ((R_X8_hold s) (1)))).toNatClampNeg) x1) (((34 + (3 * ((R_X8_hold s) (1)))) + 1).toNatClampNeg) 0) (((34 + (3 * ((R_X8_hold s) (1)))) + 2).toNatClampNeg) 0))))
def R_X8_addHelper_80 (s : Nat → Int32) (K_48 : Nat → (Nat → Int32) → (Int32 × (Nat → Int32))) (k : Nat) (s_48 : Nat → Int32) (t0_80 : Int32) : (Int32 × (Nat → Int32)) := (K_48 (k + 1) (R_X8_lays s_48 ((R_X8_hold s) (2)) (nI k) t0_80))
def R_X8_addHelper_75 (s : Nat → Int32) (K_48 : Nat → (Nat → Int32) → (Int32 × (Nat → Int32))) (k : Nat) (s_48 : Nat → Int32) : (Int32 × (Nat → Int32)) := (R_X8_addHelper_80 s K_48 k s_48 (-1))
def R_X8_addHelper_48 (s : Nat → Int32) (x1 : Int32) : Nat → Nat → (Nat → Int32) → (Int32 × (Nat → Int32))
  | 0, _, _ => (0, s)
  | f + 1, k, s_48 => (if 9 ≤ (nI k) then ((R_X8_ends (upd s_48 (2) ((s_48 (2)) + 1)) ((R_X8_hold s) (2))).1, (R_X8_ends (upd s_48 (2) ((s_48 (2)) + 1)) ((R_X8_hold s) (2))).2) else (if (nI k) = 0 then (R_X8_addHelper_80 s (R_X8_addHelper_48 s x1 f) k s_48 x1) else (if (nI k) = 3 then (R_X8_addHelper_75 s (R_X8_addHelper_48 s x1 f) k s_48 ) else (if (nI k) = 5 then (R_X8_addHelper_75 s (R_X8_addHelper_48 s x1 f) k s_48 ) else (R_X8_addHelper_80 s (R_X8_addHelper_48 s x1 f) k s_48 0)))))
def R_X8_addHelper (s : Nat → Int32) (x1 : Int32) : (Int32 × (Nat → Int32)) := (if (R_X8_in s x1 30 600) = 0 then ((R_X8_fails s 1).1, (R_X8_fails s 1).2) else (if (s (2)) = 6 then ((R_X8_fails s 2).1, (R_X8_fails s 2).2) else (R_X8_addHelper_48 s x1 10 0 (R_X8_hold s))))
def R_X8_begin (s : Nat → Int32) (x1 : Int32) : (Int32 × (Nat → Int32)) := (if (R_X8_in s x1 1 7) = 0 then ((R_X8_fails s 1).1, (R_X8_fails s 1).2) else ((R_X8_ends (R_X8_begins (R_X8_hold s) x1) ((R_X8_begins (R_X8_hold s) x1) (203))).1, (R_X8_ends (R_X8_begins (R_X8_hold s) x1) ((R_X8_begins (R_X8_hold s) x1) (203))).2))
/-! ===== the model: orders carried out ===== -/
/-- reading writes nothing below its own fields -/
def g_Ro (s t : Nat → Int32) : Prop := ∀ n, n < 1304 → t n = s n
theorem g_Ro.refl {s : Nat → Int32} : g_Ro s s := fun _ _ => rfl
theorem g_Ro.trans {s t u : Nat → Int32} (a : g_Ro s t) (b : g_Ro t u) : g_Ro s u := fun n h => (b n h).trans (a n h)
theorem g_Ro.upd {s t : Nat → Int32} {n : Nat} {x : Int32} (a : g_Ro s t) (h : 1304 ≤ n) : g_Ro s (upd t n x) := fun k hk => by rw [g_upd_ne (by omega)]; exact a k hk
theorem g_Ro.J {s t : Nat → Int32} (a : g_Ro s t) (h : g_J s) : g_J t := h.congr fun n hn => a n (by omega)
