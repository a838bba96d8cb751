/-! ===== class beside model: counts ===== -/
section PB
variable {m s : Nat → Int32}
theorem E_wt (E : g_E m s) {n : Nat} (hn : (n : Int) < (s 2).toInt) {p : Int32} (p0 : 0 ≤ p.toInt) : R_X1_walksThrough m n p = if R_X8_passageOf s (nI n) = p then 1 else 0 := by
  have hj := E.J.n
  have hp := E.J.2.2.1 n hn
  have hp1 := hp.1
  unfold R_X1_walksThrough R_X8_passageOf
  rw [nI_clamp (by omega), E.hp (j := 1) hn (by omega), E.hp (j := 2) hn (by omega), E.hp (j := 3) hn (by omega)]
  by_cases a : s (58 + 9 * n + 2) = 1
  · have hw := hp.2.2.2.2.1 a
    simp only [if_pos a]
    unfold g_min
    by_cases b : s (58 + 9 * n + 1) ≤ s (58 + 9 * n + 3)
    · simp only [if_pos b, if_neg (Int32.not_lt.mpr b)]
    · have b' := j_nle b
      have e : s (58 + 9 * n + 3) = s (58 + 9 * n + 1) - 1 := Int32.toInt_inj.mp (by rw [j_sub1 (by omega)]; omega)
      simp only [if_neg b, if_pos (Int32.not_le.mp b)]
      rw [e]
  · simp only [if_neg a]
    rw [if_neg (fun z => by rw [← z] at p0; exact absurd p0 (by decide))]
theorem E_walk4 (E : g_E m s) {p : Int32} (p0 : 0 ≤ p.toInt) : ∀ (f n : Nat) (v : Int32), n + f ≤ 7 → R_X0_walkersThrough_4 m p f v n = R_X8_walkers_4 s p f v n
  | 0, _, _, _ => rfl
  | f + 1, n, v, h => by
    have hc : (nI n).toInt = (n : Int) := nI_toInt (by omega)
    unfold R_X0_walkersThrough_4 R_X8_walkers_4 R_X0_walkersThrough_28 R_X8_walkers_29
    rw [E.lo (n := 2) (by omega)]
    by_cases a : s 2 ≤ nI n
    · simp only [if_pos a]
    · have a' := j_nle a
      rw [nI_clamp (by omega), E_wt E (n := n) (by omega) p0]
      simp only [if_neg a]
      by_cases b : R_X8_passageOf s (nI n) = p
      · simp only [if_pos b, i10]
        exact E_walk4 E p0 f (n + 1) _ (by omega)
      · simp only [if_neg b, ↓reduceIte, Int32.add_zero]
        exact E_walk4 E p0 f (n + 1) _ (by omega)
theorem E_walkers (E : g_E m s) {p : Int32} (p0 : 0 ≤ p.toInt) : R_X0_walkersThrough m p = R_X8_walkers s p := E_walk4 E p0 _ _ _ (by omega)
theorem rig_none {p : Int32} : ∀ (f n : Nat) (v : Int32), n ≤ 6 → 6 < f + n → (s 2).toInt ≤ 6 → (∀ k : Nat, n ≤ k → (k : Int) < (s 2).toInt → s (58 + 9 * k + 2) = 2 → s (58 + 9 * k + 1) ≠ p) → R_X8_rigger_4 s p f v n = v
  | 0, n, _, h, h', _, _ => absurd h' (by omega)
  | f + 1, n, v, h, h', h2, hn => by
    have hc : (nI n).toInt = (n : Int) := nI_toInt (by omega)
    unfold R_X8_rigger_4 R_X8_rigger_39 R_X8_rigger_38 R_X8_rigger_39
    by_cases a : s 2 ≤ nI n
    · simp only [if_pos a]
    · have a' := j_nle a
      rw [nI_clamp (by omega)]
      have ih := rig_none (p := p) f (n + 1) v (by omega) (by omega) h2 (fun k hk => hn k (by omega))
      simp only [if_neg a]
      by_cases b : s (58 + 9 * n + 2) = 2
      · simp only [if_pos b, if_neg (hn n (Nat.le_refl _) (by omega) b)]
        exact ih
      · simp only [if_neg b]
        exact ih
theorem E_rig2 (E : g_E m s) {p : Int32} : ∀ (f n : Nat), n ≤ 6 → 6 < f + n → n + f ≤ 7 → R_X0_riggerOf_2 m p f n = R_X8_rigger_4 s p f (-1) n
  | 0, n, h, h', _ => absurd h' (by omega)
  | f + 1, n, h, h', h3 => by
    have hj := E.J.n
    have hc : (nI n).toInt = (n : Int) := nI_toInt (by omega)
    unfold R_X0_riggerOf_2 R_X8_rigger_4 R_X0_riggerOf_38 R_X8_rigger_39 R_X8_rigger_38 R_X8_rigger_39
    rw [E.lo (n := 2) (by omega)]
    by_cases a : s 2 ≤ nI n
    · simp only [if_pos a]
    · have a' := j_nle a
      rw [nI_clamp (by omega), E.hp (j := 2) (by omega) (by omega), E.hp (j := 1) (by omega) (by omega)]
      have ih := E_rig2 E (p := p) f (n + 1) (by omega) (by omega) (by omega)
      simp only [if_neg a]
      by_cases b : s (58 + 9 * n + 2) = 2
      · simp only [if_pos b]
        by_cases c : s (58 + 9 * n + 1) = p
        · simp only [if_pos c]
          rw [rig_none f (n + 1) (nI n) (by omega) (by omega) hj.2.2.1.2 (fun k hk hk2 hk3 hk4 => ?_)]
          have := E.J.2.2.2.1 k n hk2 (by omega) hk3 b (hk4.trans c.symm)
          omega
        · simp only [if_neg c]
          exact ih
      · simp only [if_neg b]
        exact ih
theorem E_rigger (E : g_E m s) (p : Int32) : R_X0_riggerOf m p = R_X8_rigger s p := E_rig2 E _ _ (by omega) (by omega) (by omega)
theorem E_below1 (E : g_E m s) {n : Nat} (hn : (n : Int) < (s 2).toInt) : R_X1_isBelow m n = R_X8_isBelow s (nI n) := by
  have hj := E.J.n
  have hp1 := (E.J.2.2.1 n hn).1
  unfold R_X1_isBelow R_X8_isBelow
  rw [nI_clamp (by omega), E.hp (j := 1) hn (by omega), E.hp (j := 2) hn (by omega)]
  by_cases a : s (58 + 9 * n + 2) = 1
  · simp only [if_pos a]
  · simp only [if_neg a]
    by_cases b : s (58 + 9 * n + 1) = 0
    · rw [if_pos b, if_pos (show s (58 + 9 * n + 1) ≤ 0 by rw [b]; decide)]
    · rw [if_neg b, if_neg (show ¬ s (58 + 9 * n + 1) ≤ 0 from fun z => b (Int32.toInt_inj.mp (by have : (s (58 + 9 * n + 1)).toInt ≤ 0 := j_leR z rfl; rw [j_0]; omega)))]
theorem E_below4 (E : g_E m s) : ∀ (f n : Nat) (v : Int32), n + f ≤ 7 → R_X0_countOfBelow_4 m f v n = R_X8_below_4 s f v n
  | 0, _, _, _ => rfl
  | f + 1, n, v, h => by
    have hc : (nI n).toInt = (n : Int) := nI_toInt (by omega)
    unfold R_X0_countOfBelow_4 R_X8_below_4 R_X0_countOfBelow_27 R_X8_below_28
    rw [E.lo (n := 2) (by omega)]
    by_cases a : s 2 ≤ nI n
    · simp only [if_pos a]
    · have a' := j_nle a
      rw [nI_clamp (by omega), E_below1 E (n := n) (by omega)]
      simp only [if_neg a]
      by_cases b : R_X8_isBelow s (nI n) = 0
      · simp only [if_pos b, Int32.add_zero]
        exact E_below4 E f (n + 1) _ (by omega)
      · simp only [if_neg b]
        exact E_below4 E f (n + 1) _ (by omega)
theorem E_below (E : g_E m s) : R_X0_countOfBelow m = R_X8_below s := E_below4 E _ _ _ (by omega)
theorem E_shut4 (E : g_E m s) : ∀ (f n : Nat) (v : Int32), n + f ≤ 8 → R_X4_countOfClosed_4 m f v n = R_X8_shut_4 s f v n
  | 0, _, _, _ => rfl
  | f + 1, n, v, h => by
    have hc : (nI n).toInt = (n : Int) := nI_toInt (by omega)
    unfold R_X4_countOfClosed_4 R_X8_shut_4 R_X4_countOfClosed_23 R_X8_shut_28
    rw [E.lo (n := 0) (by omega)]
    by_cases a : s 0 ≤ nI n
    · simp only [if_pos a]
    · have a' := j_nle a
      rw [E_open E (x := nI n) (by omega) (by omega)]
      simp only [if_neg a]
      by_cases b : R_X8_isShut s (nI n) = 0
      · simp only [if_pos b, i10, Int32.add_zero]
        exact E_shut4 E f (n + 1) _ (by omega)
      · simp only [if_neg b, ↓reduceIte]
        exact E_shut4 E f (n + 1) _ (by omega)
theorem E_shut (E : g_E m s) : R_X4_countOfClosed m = R_X8_shut s := E_shut4 E _ _ _ (by omega)
theorem shutAbove_1 {x : Int32} (hx : x.toInt ≤ 7) : ∀ (f n : Nat), n ≤ 7 → 7 < f + n → R_X8_isShutAbove_4 s x f 1 n = 1
  | 0, n, h, h' => absurd h' (by omega)
  | f + 1, n, h, h' => by
    have hc : (nI n).toInt = (n : Int) := nI_toInt (by omega)
    unfold R_X8_isShutAbove_4 R_X8_isShutAbove_21 R_X8_isShutAbove_26
    by_cases a : x ≤ nI n
    · simp only [if_pos a]
    · have a' := j_nle a
      simp only [if_neg a, i10]
      exact shutAbove_1 hx f (n + 1) (by omega) (by omega)
theorem E_inUse (E : g_E m s) {x : Int32} (h0 : 0 ≤ x.toInt) (h1 : x.toInt < (s 0).toInt) : R_X0_isInUse m x = if s (27 + x.toNatClampNeg) = -1 then (if R_X8_rigger s x = -1 then (if R_X8_walkers s x ≤ 0 then 0 else 1) else 1) else 1 := by
  unfold R_X0_isInUse
  rw [E_rope E h0 h1, E_rigger E, E_walkers E h0]
end PB
