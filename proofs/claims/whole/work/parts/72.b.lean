/-! ===== readers: the best rope, the reach, the team, the mean ===== -/
section RB
variable {m s : Nat → Int32} {pm : Nat → Nat}
theorem best_loop (E : g_E m s) {x : Int32} (h0 : 0 ≤ x.toInt) (h1 : x.toInt < (s 0).toInt) (hd : ¬ s (13 + x.toNatClampNeg) ≤ 0) : ∀ (f n : Nat) (v : Int32), n ≤ 8 → 8 < f + n → (v = -1 ∨ (0 ≤ v.toInt ∧ v.toInt < (s 1).toInt)) →
    R_X8_bestRope_18 s x f v n = R_X8_tells s (R_X5_shortestFree_4 m (s (13 + x.toNatClampNeg)) f v n)
  | 0, n, v, h, h', _ => absurd h' (by omega)
  | f + 1, n, v, h, h', hv => by
    have hj := E.J.n
    have hi : (nI n).toInt = (n : Int) := nI_toInt (by omega)
    unfold R_X8_bestRope_18 R_X5_shortestFree_4 R_X8_bestRope_120 R_X8_bestRope_70 R_X8_bestRope_71 R_X8_bestRope_112 R_X8_bestRope_108 R_X8_bestRope_113 R_X5_shortestFree_31 R_X5_shortestFree_36 R_X5_shortestFree_64
    rw [E.lo (n := 1) (by omega), s13 h0 (by omega)]
    by_cases a : s 1 ≤ nI n
    · rw [if_pos a, if_pos a]
    have a' := j_nle a
    have hc := nI_clamp (n := n) (by omega)
    rw [if_neg a, if_neg a, if_neg hd, sr1 (r := nI n) (by omega) (by omega), sr0 (r := nI n) (by omega) (by omega), hc, E.r0 (r := n) (by omega), E.r1 (r := n) (by omega)]
    have eh : R_X5_holds m (nI n) (s (13 + x.toNatClampNeg)) = R_X8_holdsAt s (nI n) x := by
      unfold R_X5_holds R_X8_holdsAt
      rw [if_neg (has5_1 E (by omega) (by omega)), s13 h0 (by omega), sr0 (by omega) (by omega), hc, E.r0 (r := n) (by omega)]
    rw [eh]
    have keep := best_loop E h0 h1 hd f (n + 1) v (by omega) (by omega) hv
    have new := best_loop E h0 h1 hd f (n + 1) (nI n) (by omega) (by omega) (Or.inr ⟨by omega, by omega⟩)
    by_cases b : s (35 + 3 * n) = 2
    · simp only [if_pos b, i00, i10, ↓reduceIte, ite_self]
      exact keep
    · by_cases d : R_X8_holdsAt s (nI n) x = 0
      · simp only [if_neg b, if_pos d, i00, i10, ↓reduceIte, ite_self]
        exact keep
      · simp only [if_neg b, if_neg d, i00, i10, ↓reduceIte]
        by_cases c : v = -1
        · rw [if_pos c, if_pos c, new]
        · obtain ⟨v0, v1⟩ := hv.resolve_left c
          have q := j_nat v0
          have el : R_X5_lengthOf m v = s (34 + 3 * v.toNatClampNeg) := by
            unfold R_X5_lengthOf
            rw [if_neg (has5_1 E v0 v1), E.r0 (by omega)]
          rw [if_neg c, if_neg c, el, sr0 v0 (by omega)]
          by_cases e : s (34 + 3 * v.toNatClampNeg) ≤ s (34 + 3 * n)
          · rw [if_pos e, if_pos e, keep]
          · rw [if_neg e, if_neg e, new]
theorem Ref_bestRope (R : g_Rel m s pm) (x : Int32) : g_Ref ["java/lang/IndexOutOfBoundsException"] (R_X7_bestRope m pm x) (R_X8_bestRope s x) := by
  have hj := R.J.n
  unfold R_X7_bestRope R_X8_bestRope
  by_cases a : R_X8_isPassage s x = 0
  · rw [if_pos ((bad_p R x).mpr a), if_pos a]
    exact fail_s R (by decide +kernel) (by decide +kernel)
  rw [if_neg (mt (bad_p R x).mp a), if_neg a]
  obtain ⟨h0, h1⟩ := isPassage_ne a
  rw [E_pitch R.E h0 h1, E_drop R.E h0 h1]
  by_cases d : s (13 + x.toNatClampNeg) ≤ 0
  · rw [if_pos d, if_pos rfl]
    unfold R_X8_bestRope_18 R_X8_bestRope_120
    rw [s13 h0 (by omega), if_pos d, ite_self]
    exact tell_ref R rfl
  · rw [if_neg d, i10, best_loop R.E h0 h1 d 9 0 (-1) (by omega) (by omega) (Or.inl rfl)]
    exact tell_ref R rfl
theorem reach_loop (J : g_J s) {w : Int} (w0 : 1 ≤ w) (w1 : w ≤ 7) {T : Nat} (hT : (T : Int) = if (s 9).toInt < (s 3).toInt + w then w + max 0 ((s 10).toInt - max (s 3).toInt (s 9).toInt) else w) : ∀ (f n : Nat) (v : Int32), n ≤ 1001 → 1001 < f + n → n ≤ T → 0 ≤ v.toInt → v.toInt = w - n + max 0 (min ((s 3).toInt + n) (s 10).toInt - max (s 3).toInt (s 9).toInt) →
    R_X8_reach_37 s f v n = R_X8_tells s (if T ≤ 1000 then nI T else -1)
  | 0, n, v, h, h', _, _, _ => absurd h' (by omega)
  | f + 1, n, v, h, h', hn, v0, hv => by
    have h3 := J.1.2.2.2.1
    have h9 := J.1.2.2.2.2.2.2.2.1
    have hi : (nI n).toInt = (n : Int) := nI_toInt (by omega)
    have c1000 : (1000 : Int32).toInt = 1000 := rfl
    unfold R_X8_reach_37 R_X8_reach_92 R_X8_reach_84 R_X8_reach_104 R_X8_reach_109
    by_cases a : v ≤ 0
    · have a' := j_leR a j_0
      have eT : T = n := by
        split at hT <;> omega
      rw [if_pos a, if_neg (fun z => by have := j_lt z; rw [j_0] at this; omega), eT]
      by_cases b : n ≤ 1000
      · rw [if_pos (Int32.le_iff_toInt_le.mpr (by omega)), if_pos b]
      · rw [if_neg (fun z => by have := j_le z; omega), if_neg b]
    · have a' := j_nle a
      rw [j_0] at a'
      rw [if_neg a]
      by_cases b : 1000 < nI n
      · have b' := j_lt b
        have eT : 1000 < T := by
          split at hT <;> omega
        rw [if_pos b, if_pos (Int32.lt_iff_toInt_lt.mpr (by rw [j_0]; omega)), if_neg (by omega)]
      · have b' := j_nlt b
        rw [if_neg b]
        have e1 := j_add (x := s 3) (y := nI n) (by omega) (by omega)
        have e2 : (s 10 - 1).toInt = (s 10).toInt - 1 := j_sub1 (by omega)
        have nT : n + 1 ≤ T := by
          split at hT <;> omega
        by_cases c : R_X8_in s (s 3 + nI n) (s 9) (s 10 - 1) = 0
        · rw [if_pos c]
          have e3 := j_sub1 (x := v) (by omega)
          refine reach_loop J w0 w1 hT f (n + 1) _ (by omega) (by omega) nT (by omega) ?_
          have := in_no c
          rw [e3]
          omega
        · rw [if_neg c, Int32.sub_zero]
          obtain ⟨c0, c1⟩ := nz_X8_in c
          refine reach_loop J w0 w1 hT f (n + 1) _ (by omega) (by omega) nT (by omega) ?_
          omega
theorem g_max_toInt {x y : Int32} : (g_max x y).toInt = max x.toInt y.toInt := by
  unfold g_max
  split
  · next h => have := j_lt h; omega
  · next h => have := j_nlt h; omega
theorem Ref_reach (R : g_Rel m s pm) (x : Int32) : g_Ref ["java/lang/IndexOutOfBoundsException"] (R_X7_reach m pm x) (R_X8_reach s x) := by
  unfold R_X7_reach R_X8_reach
  by_cases a : R_X8_isHelper s x = 0
  · rw [if_pos ((bad_h' R x).mpr a), if_pos a]
    exact fail_s R (by decide +kernel) (by decide +kernel)
  rw [if_neg (mt (bad_h' R x).mp a), if_neg a]
  obtain ⟨h0, h1⟩ := isHelper_ne a
  have hx := j_nat h0
  have hj := R.J.n
  have h3 := R.J.1.2.2.2.1
  have h9 := R.J.1.2.2.2.2.2.2.2.1
  have hp := R.J.2.2.1 x.toNatClampNeg (by omega)
  have hp1 := hp.1
  unfold R_X0_reachOf R_X8_stands
  rw [R.E.hp (j := 2) (by omega) (by omega), R.E.hp (j := 1) (by omega) (by omega), R.E.lo (n := 3) (by omega), R.E.lo (n := 9) (by omega), R.E.lo (n := 10) (by omega)]
  by_cases b : s (58 + 9 * x.toNatClampNeg + 2) = 0
  case neg =>
    rw [if_neg b, if_neg b, if_pos rfl]
    exact tell_ref R rfl
  rw [if_pos b, if_pos b, i10]
  by_cases c : s (58 + 9 * x.toNatClampNeg + 1) = 0
  · rw [if_pos c, c]
    unfold R_X8_reach_37 R_X8_reach_92 R_X8_reach_109
    rw [if_pos (by decide), if_neg (by decide), if_pos (by decide)]
    exact tell_ref R rfl
  rw [if_neg c]
  have c' := j_ne c
  rw [j_0] at c'
  generalize hw : s (58 + 9 * x.toNatClampNeg + 1) = w at *
  have eL : (g_max (0 : Int32) (s 10 - g_max (s 3) (s 9))).toInt = max 0 ((s 10).toInt - max (s 3).toInt (s 9).toInt) := by
    rw [g_max_toInt, j_0]
    have := g_max_toInt (x := s 3) (y := s 9)
    have e := j_subE (x := s 10) (y := g_max (s 3) (s 9)) rfl this (by omega) (by omega)
    rw [e]
  have e3 := j_add (x := s 3) (y := w) (by omega) (by omega)
  have eS := j_addE (x := w) (y := g_max (0 : Int32) (s 10 - g_max (s 3) (s 9))) rfl eL (by omega) (by omega)
  have c1000 : (1000 : Int32).toInt = 1000 := rfl
  obtain ⟨T, hT⟩ : ∃ T : Nat, (T : Int) = if (s 9).toInt < (s 3).toInt + w.toInt then w.toInt + max 0 ((s 10).toInt - max (s 3).toInt (s 9).toInt) else w.toInt := ⟨(if (s 9).toInt < (s 3).toInt + w.toInt then w.toInt + max 0 ((s 10).toInt - max (s 3).toInt (s 9).toInt) else w.toInt).toNat, by split <;> omega⟩
  have T1 : T < 200000 := by split at hT <;> omega
  rw [reach_loop R.J (w := w.toInt) (by omega) (by omega) hT 1002 0 w (by omega) (by omega) (by omega) (by omega) (by omega)]
  refine tell_ref R ?_
  by_cases d : s 9 < s 3 + w
  · have d' := j_lt d
    rw [if_pos (by omega)] at hT
    rw [if_pos d]
    by_cases e : w + g_max 0 (s 10 - g_max (s 3) (s 9)) ≤ 1000
    · have e' := j_le e
      rw [if_pos e, if_pos (by omega)]
      exact Int32.toInt_inj.mp (by rw [nI_toInt (by omega)]; omega)
    · have e' := j_nle e
      rw [if_neg e, if_neg (by omega)]
  · have d' := j_nlt d
    rw [if_neg (by omega)] at hT
    rw [if_neg d, if_pos (by omega)]
    exact Int32.toInt_inj.mp (by rw [nI_toInt (by omega)]; omega)
theorem Ref_carryMinutes (R : g_Rel m s pm) : R_X7_carryMinutes m = (R_X8_carryMinutes s).1 ∧ g_Rel m (R_X8_carryMinutes s).2 pm := by
  have hj := R.J.n
  have h4 := R.J.1.2.2.2.2.1
  have o : ∀ v, g_Rel m (R_X8_tells s v).2 pm := fun v => R.over (fun n hn => g_upd_ne (by omega))
  unfold R_X7_carryMinutes R_X8_carryMinutes R_X8_carryMinutes_24 R_X8_carryMinutes_40
  rw [R.E.lo (n := 5) (by omega), R.E.lo (n := 4) (by omega), E_openUp R.E h4.2, E_wayUp R.E h4.2]
  rcases R.J.1.2.2.2.2.2.1 with h | h
  · rw [if_pos h, if_neg (show ¬ s 5 = 1 by rw [h]; decide)]
    by_cases a : R_X8_isShutAbove s (s 4) = 0
    · rw [if_pos a, i10, if_pos a]
      exact ⟨rfl, o _⟩
    · rw [if_neg a, if_pos rfl, if_neg a]
      exact ⟨rfl, o _⟩
  · rw [if_neg (show ¬ s 5 = 0 by rw [h]; decide), if_pos h]
    exact ⟨rfl, o _⟩
theorem team_loop (E : g_E m s) (hc : 1 ≤ (s 4).toInt) (hi : ¬ R_X8_isCarryable s = 0) : ∀ (f n : Nat) (v : Int32), n ≤ 6 → 6 < f + n → R_X8_team_4 s f v n = R_X8_tells s (R_X0_fitCarriers_52 m f v n)
  | 0, n, v, h, h' => absurd h' (by omega)
  | f + 1, n, v, h, h' => by
    have hj := E.J.n
    have hq : (nI n).toInt = (n : Int) := nI_toInt (by omega)
    unfold R_X8_team_4 R_X8_team_45 R_X8_team_37 R_X0_fitCarriers_52
    by_cases a : s 2 ≤ nI n
    · rw [E.lo (n := 2) (by omega), if_pos a, if_pos a]
    · have a' := j_nle a
      rw [E_can E hc (n := n) (by omega), E.lo (n := 2) (by omega), if_neg a, if_neg a, if_neg hi]
      by_cases b : R_X8_canCarry s (nI n) = 0
      · rw [if_pos b, if_pos b, Int32.or_zero]
        exact team_loop E hc hi f (n + 1) v (by omega) (by omega)
      · rw [if_neg b, if_neg b]
        exact team_loop E hc hi f (n + 1) _ (by omega) (by omega)
theorem Ref_team (R : g_Rel m s pm) : R_X7_team m = (R_X8_team s).1 ∧ g_Rel m (R_X8_team s).2 pm := by
  have hj := R.J.n
  have h4 := R.J.1.2.2.2.2.1
  have o : ∀ v, g_Rel m (R_X8_tells s v).2 pm := fun v => R.over (fun n hn => g_upd_ne (by omega))
  have z : R_X8_isCarryable s = 0 → R_X8_team s = R_X8_tells s 0 := fun h => by
    unfold R_X8_team R_X8_team_4 R_X8_team_45
    rw [if_pos h, ite_self]
  unfold R_X7_team R_X0_fitCarriers
  rw [R.E.lo (n := 5) (by omega), R.E.lo (n := 4) (by omega)]
  by_cases d : s 5 = 0
  · rw [if_pos d]
    by_cases e : (s 4).toInt = 0
    · have e4 : s 4 = 0 := Int32.toInt_inj.mp (by rw [j_0]; exact e)
      rw [if_pos e4, z (by unfold R_X8_isCarryable; rw [if_pos d, if_pos (by rw [e4]; decide)])]
      exact ⟨rfl, o _⟩
    · have e4 : ¬ s 4 = 0 := fun z => e (by rw [z]; rfl)
      have h4' : (s 4 - 1).toInt = (s 4).toInt - 1 := j_sub1 (by omega)
      have hO := E_open R.E (x := s 4 - 1) (by omega) (by omega)
      have ne : ¬ s 4 ≤ 0 := fun z => by have := j_leR z j_0; omega
      by_cases g : R_X8_isShut s (s 4 - 1) = 0
      · rw [if_pos g] at hO
        rw [if_neg e4, hO, i10]
        unfold R_X8_team
        rw [team_loop R.E (by omega) (by unfold R_X8_isCarryable; rw [if_pos d, if_neg ne, if_pos g]; decide) 7 0 0 (by omega) (by omega)]
        exact ⟨rfl, o _⟩
      · rw [if_neg g] at hO
        rw [if_neg e4, hO, if_pos rfl, z (by unfold R_X8_isCarryable; rw [if_pos d, if_neg ne, if_neg g])]
        exact ⟨rfl, o _⟩
  · rw [if_neg d, z (by unfold R_X8_isCarryable; rw [if_neg d])]
    exact ⟨rfl, o _⟩
theorem mean_loop (E : g_E m s) : ∀ (f n : Nat) (v : Int32), n ≤ 6 → 6 < f + n → R_X8_meanTiredness_9 s f v n = (if s 2 = 0 then FP.dconst0 else FP.ddiv (FP.i2d (R_X0_sumOfTiredness_4 m f v n)) (FP.i2d (s 2)), upd s 1302 0)
  | 0, n, v, h, h' => absurd h' (by omega)
  | f + 1, n, v, h, h' => by
    have hj := E.J.n
    have hq : (nI n).toInt = (n : Int) := nI_toInt (by omega)
    unfold R_X8_meanTiredness_9 R_X0_sumOfTiredness_4
    rw [E.lo (n := 2) (by omega), g_upd_ne (show 2 ≠ 1302 by omega)]
    by_cases a : s 2 ≤ nI n
    · rw [if_pos a, if_pos a]
      by_cases b : s 2 = 0
      · rw [if_pos b, if_pos b]
      · rw [if_neg b, if_neg b]
    · have a' := j_nle a
      rw [if_neg a, if_neg a, nI_clamp (by omega), g_upd_ne (by omega), E.hp (j := 6) (by omega) (by omega)]
      exact mean_loop E f (n + 1) _ (by omega) (by omega)
theorem Ref_mean (R : g_Rel m s pm) : R_X7_meanTiredness m = (R_X8_meanTiredness s).1 ∧ g_Rel m (R_X8_meanTiredness s).2 pm := by
  unfold R_X7_meanTiredness R_X8_meanTiredness R_X0_sumOfTiredness
  rw [mean_loop R.E 7 0 0 (by omega) (by omega), R.E.lo (n := 2) (by omega)]
  exact ⟨rfl, R.over (fun n hn => g_upd_ne (by omega))⟩
end RB
