/-! ===== class beside model: one helper's minute ===== -/
section PF
variable {m s : Nat → Int32}
theorem L_hp (L : g_L m s) (h6 : (s 2).toInt ≤ 6) {h j : Nat} (hh : (h : Int) < (s 2).toInt) (hj : j < 9) : m (58 + 9 * h + j) = s (58 + 9 * h + j) := L _ (Or.inr (Or.inr (Or.inl ⟨by omega, by omega, by omega⟩)))
theorem L_lo (L : g_L m s) {n : Nat} (h : n < 34) : m n = s n := L n (Or.inl h)
/-- a minute is counted -/
theorem T_130p (L : g_L m s) (N : g_N s) (h6 : (s 2).toInt ≤ 6) {x : Int32} (hh : (x.toNatClampNeg : Int) < (s 2).toInt) (h0 : 0 ≤ (s (58 + 9 * x.toNatClampNeg + 1)).toInt) : g_L (R_X0_letMinutePass_130 x m) (R_X8_minuteOf_249 x s) ∧ g_N (R_X8_minuteOf_249 x s) := by
  have e0 := L_hp L h6 hh (j := 0) (by omega)
  have e1 := L_hp L h6 hh (j := 1) (by omega)
  have e2 := L_hp L h6 hh (j := 2) (by omega)
  have e7 := L_hp L h6 hh (j := 7) (by omega)
  have e11 := L_lo L (n := 11) (by omega)
  have key : ∀ t : Int32, g_L (if (R_X1_countBelow_18 m x.toNatClampNeg t).1 = 0 then (R_X1_countBelow_18 m x.toNatClampNeg t).2 else upd (R_X1_countBelow_18 m x.toNatClampNeg t).2 11 ((R_X1_countBelow_18 m x.toNatClampNeg t).2 11 + 1)) (R_X8_minuteOf_274 x s t) ∧ g_N (R_X8_minuteOf_274 x s t) := by
    intro t
    have L2 : g_L (upd m (58 + 9 * x.toNatClampNeg + 7) t) (upd s (58 + 9 * x.toNatClampNeg + 7) t) := L.both (by omega) (by omega) (by omega) (by omega)
    have N2 : ∀ w, g_N (R_X8_minuteOf_306 x s t w) := fun w => by
      unfold R_X8_minuteOf_306
      exact (N.updj (by omega) (by omega) (by omega) (by omega) h6).hi (by rw [g_upd_ne (by omega)]; exact h6) (by omega) (by omega)
    unfold R_X1_countBelow_18 R_X8_minuteOf_274
    rw [g_upd_eq, g_upd_ne (by omega), e0, g_upd_eq, g_upd_ne (by omega)]
    by_cases c : t ≤ s (58 + 9 * x.toNatClampNeg + 0)
    · simp only [if_pos c, ↓reduceIte]
      refine ⟨?_, N2 _⟩
      unfold R_X8_minuteOf_306
      refine L2.updR ?_ (by omega) (by omega) (by omega) (by omega)
      rw [Int32.add_zero, g_upd_ne (by omega), g_upd_ne (by omega), e11]
    · simp only [if_neg c, i10]
      refine ⟨?_, N2 _⟩
      unfold R_X8_minuteOf_306
      rw [g_upd_ne (show 11 ≠ 58 + 9 * x.toNatClampNeg + 7 by omega), g_upd_ne (show 11 ≠ 58 + 9 * x.toNatClampNeg + 7 by omega), e11]
      exact L2.both (by omega) (by omega) (by omega) (by omega)
  have eb : R_X1_isBelow m x.toNatClampNeg = R_X8_isBelow s x := by
    unfold R_X1_isBelow R_X8_isBelow
    rw [e1, e2]
    by_cases a : s (58 + 9 * x.toNatClampNeg + 2) = 1
    · simp only [if_pos a]
    · simp only [if_neg a]
      by_cases b : s (58 + 9 * x.toNatClampNeg + 1) = 0
      · rw [if_pos b, if_pos (show s (58 + 9 * x.toNatClampNeg + 1) ≤ 0 by rw [b]; decide)]
      · rw [if_neg b, if_neg (show ¬ s (58 + 9 * x.toNatClampNeg + 1) ≤ 0 from fun z => b (Int32.toInt_inj.mp (by have : (s (58 + 9 * x.toNatClampNeg + 1)).toInt ≤ 0 := j_leR z rfl; rw [j_0]; omega)))]
  unfold R_X0_letMinutePass_130 R_X8_minuteOf_249 R_X1_countBelow
  rw [eb, e7]
  by_cases b : R_X8_isBelow s x = 0
  · rw [if_pos b, if_pos b]; exact key 0
  · rw [if_neg b, if_neg b]; exact key _
theorem T_109 (L : g_L m s) (N : g_N s) (h6 : (s 2).toInt ≤ 6) {x t : Int32} (hh : (x.toNatClampNeg : Int) < (s 2).toInt) (h0 : 0 ≤ (s (58 + 9 * x.toNatClampNeg + 1)).toInt) : g_L (R_X0_letMinutePass_109 x t m) (R_X8_minuteOf_219 x t s) ∧ g_N (R_X8_minuteOf_219 x t s) := by
  have e6 := L_hp L h6 hh (j := 6) (by omega)
  unfold R_X0_letMinutePass_109 R_X8_minuteOf_219
  rw [e6]
  by_cases a : t = 0
  · rw [if_pos a, if_pos a]; exact T_130p L N h6 hh h0
  · rw [if_neg a, if_neg a]
    by_cases b : s (58 + 9 * x.toNatClampNeg + 6) ≤ 0
    · rw [if_pos b, if_pos b]; exact T_130p L N h6 hh h0
    · rw [if_neg b, if_neg b]
      refine T_130p (L.both (by omega) (by omega) (by omega) (by omega)) (N.updj (by omega) (by omega) (by omega) (by omega) h6) ?_ ?_ ?_
      · rw [g_upd_ne (by omega)]; exact h6
      · rw [g_upd_ne (by omega)]; exact hh
      · rw [g_upd_ne (by omega)]; exact h0
/-- what a walker's minute costs -/
theorem twice_eq (E : g_E m s) {x : Int32} (h0 : 0 ≤ x.toInt) (h1 : x.toInt < (s 2).toInt) (hd : s (58 + 9 * x.toNatClampNeg + 2) = 1) : ∃ w : Int32, R_X0_walkOn m x.toNatClampNeg = R_X0_walkOn_52 m x.toNatClampNeg w ∧ ∀ t, (if s (58 + 9 * x.toNatClampNeg + 1) ≤ s (58 + 9 * x.toNatClampNeg + 3) then R_X8_minuteOf_94 s x t s 0 else R_X8_minuteOf_94 s x t s 1) = R_X8_minuteOf_178 x t s w := by
  have hj := E.J.n
  have hx := j_nat h0
  have hp := E.J.2.2.1 x.toNatClampNeg (by omega)
  have hp1 := hp.1
  have hw := hp.2.2.2.2.1 hd
  have hb := hp.2.2.2.1
  have hn2 : ¬ s (58 + 9 * x.toNatClampNeg + 2) = 2 := by rw [hd]; decide
  unfold R_X0_walkOn R_X0_walkOn_29 R_X0_walkOn_30 R_X0_walkOn_47 R_X8_minuteOf_94 R_X8_minuteOf_126 R_X8_minuteOf_130 R_X8_minuteOf_131
  rw [E.hp (j := 1) (by omega) (by omega), E.hp (j := 3) (by omega) (by omega), E.hp (j := 8) (by omega) (by omega)]
  simp only [if_neg hn2]
  rcases hb with hb | hb
  · rw [hb]
    simp only [↓reduceIte, i10, if_neg (show ¬ (0 : Int32) = 1 by decide)]
    by_cases a : s (58 + 9 * x.toNatClampNeg + 1) ≤ s (58 + 9 * x.toNatClampNeg + 3)
    · exact ⟨1, by simp only [if_pos a], fun t => by simp only [if_pos a]⟩
    · have a' := j_nle a
      have e3 : s (58 + 9 * x.toNatClampNeg + 3) = s (58 + 9 * x.toNatClampNeg + 1) - 1 := Int32.toInt_inj.mp (by rw [j_sub1 (by omega)]; omega)
      have q3 := j_nat (x := s (58 + 9 * x.toNatClampNeg + 3)) (by omega)
      have ei : (13 + s (58 + 9 * x.toNatClampNeg + 1) - 1).toNatClampNeg = 13 + (s (58 + 9 * x.toNatClampNeg + 3)).toNatClampNeg := by
        have z1 : (13 + s (58 + 9 * x.toNatClampNeg + 1) - 1).toInt = (13 + (s (58 + 9 * x.toNatClampNeg + 1)).toInt) - 1 := j_subE (j_addE rfl rfl (by omega) (by omega)) rfl (by omega) (by omega)
        have z2 := j_nat (x := 13 + s (58 + 9 * x.toNatClampNeg + 1) - 1) (by omega)
        omega
      rw [E_pitch E (by omega) (by omega), ei]
      by_cases b : s (13 + (s (58 + 9 * x.toNatClampNeg + 3)).toNatClampNeg) ≤ 0
      · exact ⟨1, by simp only [if_neg a, if_pos b, ↓reduceIte], fun t => by simp only [if_neg a, if_pos b]⟩
      · exact ⟨2, by simp only [if_neg a, if_neg b, i10], fun t => by simp only [if_neg a, if_neg b]⟩
  · rw [hb]
    simp only [↓reduceIte, i10, ite_self]
    exact ⟨2, rfl, fun t => rfl⟩
/-- a walker's minute -/
theorem M_walk (E : g_E m s) {x t w : Int32} (h0 : 0 ≤ x.toInt) (h1 : x.toInt < (s 2).toInt) (hd : s (58 + 9 * x.toNatClampNeg + 2) = 1) : g_L (R_X0_letMinutePass_109 x t (R_X0_walkOn_52 m x.toNatClampNeg w)) (R_X8_minuteOf_178 x t s w) ∧ g_N (R_X8_minuteOf_178 x t s w) := by
  have hj := E.J.n
  have hx := j_nat h0
  have hp := E.J.2.2.1 x.toNatClampNeg (by omega)
  have hp1 := hp.1
  have hw := hp.2.2.2.2.1 hd
  have hb := hp.2.2.2.1
  have h6 : (s 2).toInt ≤ 6 := by omega
  have m1 := E.hp (h := x.toNatClampNeg) (j := 1) (by omega) (by omega)
  have m2 := E.hp (h := x.toNatClampNeg) (j := 2) (by omega) (by omega)
  have m3 := E.hp (h := x.toNatClampNeg) (j := 3) (by omega) (by omega)
  have m4 := E.hp (h := x.toNatClampNeg) (j := 4) (by omega) (by omega)
  have m6 := E.hp (h := x.toNatClampNeg) (j := 6) (by omega) (by omega)
  have m8 := E.hp (h := x.toNatClampNeg) (j := 8) (by omega) (by omega)
  have hl := j_sub1 (x := s (58 + 9 * x.toNatClampNeg + 4)) (by omega)
  generalize hH : x.toNatClampNeg = h at *
  unfold R_X0_walkOn_52 R_X8_minuteOf_178 R_X8_minuteOf_205
  rw [hH]
  rw [g_upd_ne (show 58 + 9 * h + 4 ≠ 58 + 9 * h + 6 by omega), g_upd_ne (show 58 + 9 * h + 4 ≠ 58 + 9 * h + 6 by omega), g_upd_ne (show 58 + 9 * h + 6 ≠ 58 + 9 * h + 4 by omega), g_upd_eq, g_upd_eq, m4, m6, hd]
  rw [upd_comm (f := m) (a := 58 + 9 * h + 6) (by omega)]
  have L2 : g_L (upd (upd m (58 + 9 * h + 4) (s (58 + 9 * h + 4) - 1)) (58 + 9 * h + 6) (s (58 + 9 * h + 6) + w)) (upd (upd s (58 + 9 * h + 4) (s (58 + 9 * h + 4) - 1)) (58 + 9 * h + 6) (s (58 + 9 * h + 6) + w)) := (E.L.both (by omega) (by omega) (by omega) (by omega)).both (by omega) (by omega) (by omega) (by omega)
  have N2 : g_N (upd (upd s (58 + 9 * h + 4) (s (58 + 9 * h + 4) - 1)) (58 + 9 * h + 6) (s (58 + 9 * h + 6) + w)) := (E.N.updj (by omega) (by omega) (by omega) (by omega) h6).updj (by omega) (by omega) (by omega) (by omega) (by rw [g_upd_ne (by omega)]; exact h6)
  have r1 : ∀ n, n ≠ 58 + 9 * h + 4 → n ≠ 58 + 9 * h + 6 → (upd (upd m (58 + 9 * h + 4) (s (58 + 9 * h + 4) - 1)) (58 + 9 * h + 6) (s (58 + 9 * h + 6) + w)) n = m n := fun n a b => by rw [g_upd_ne b, g_upd_ne a]
  have r2 : ∀ n, n ≠ 58 + 9 * h + 4 → n ≠ 58 + 9 * h + 6 → (upd (upd s (58 + 9 * h + 4) (s (58 + 9 * h + 4) - 1)) (58 + 9 * h + 6) (s (58 + 9 * h + 6) + w)) n = s n := fun n a b => by rw [g_upd_ne b, g_upd_ne a]
  generalize upd (upd m (58 + 9 * h + 4) (s (58 + 9 * h + 4) - 1)) (58 + 9 * h + 6) (s (58 + 9 * h + 6) + w) = M at L2 r1 ⊢
  generalize upd (upd s (58 + 9 * h + 4) (s (58 + 9 * h + 4) - 1)) (58 + 9 * h + 6) (s (58 + 9 * h + 6) + w) = S at L2 N2 r2 ⊢
  have S2 : (S 2).toInt = (s 2).toInt := by rw [r2 2 (by omega) (by omega)]
  by_cases c : s (58 + 9 * h + 4) - 1 = 0
  · have c1 : s (58 + 9 * h + 4) - 1 ≤ 0 := by rw [c]; decide
    simp only [if_pos c, if_pos c1, ↓reduceIte]
    -- the state behind an arrival, carried or not
    have LA : g_L (upd (upd (upd (upd M (58 + 9 * h + 1) (s (58 + 9 * h + 3))) (58 + 9 * h + 3) (-1)) (58 + 9 * h + 2) 0) (58 + 9 * h + 8) 0) (upd (upd (upd (upd S (58 + 9 * h + 1) (s (58 + 9 * h + 3))) (58 + 9 * h + 3) (-1)) (58 + 9 * h + 2) 0) (58 + 9 * h + 8) 0) := (((L2.both (by omega) (by omega) (by omega) (by omega)).both (by omega) (by omega) (by omega) (by omega)).both (by omega) (by omega) (by omega) (by omega)).both (by omega) (by omega) (by omega) (by omega)
    have NA : ∀ T : Nat → Int32, (∀ n, 58 ≤ n → T n = S n) → T 2 = S 2 → g_N (upd (upd (upd (upd T (58 + 9 * h + 1) (s (58 + 9 * h + 3))) (58 + 9 * h + 3) (-1)) (58 + 9 * h + 8) 0) (58 + 9 * h + 2) 0) := by
      intro T hT hT2 k hk hdk
      rw [g_upd_ne (by omega), g_upd_ne (by omega), g_upd_ne (by omega), g_upd_ne (by omega), hT2] at hk
      by_cases e : k = h
      · subst e
        rw [g_upd_ne (by omega), g_upd_eq]
      · rw [g_upd_ne (by omega), g_upd_ne (by omega), g_upd_ne (by omega), g_upd_ne (by omega), hT _ (by omega)] at hdk
        rw [g_upd_ne (by omega), g_upd_ne (by omega), g_upd_ne (by omega), g_upd_ne (by omega), hT _ (by omega)]
        exact N2 k hk hdk
    have ea : R_X1_arrive M h = upd (upd (upd M (58 + 9 * h + 1) (s (58 + 9 * h + 3))) (58 + 9 * h + 3) (-1)) (58 + 9 * h + 2) 0 := by
      unfold R_X1_arrive
      rw [r1 (58 + 9 * h + 3) (by omega) (by omega), m3]
    have e8 : R_X1_arrive M h (58 + 9 * h + 8) = s (58 + 9 * h + 8) := by
      rw [ea, g_upd_ne (by omega), g_upd_ne (by omega), g_upd_ne (by omega), r1 _ (by omega) (by omega), m8]
    have eo : ∀ T : Nat → Int32, upd (upd (upd (upd T (58 + 9 * h + 1) (s (58 + 9 * h + 3))) (58 + 9 * h + 3) (-1)) (58 + 9 * h + 8) 0) (58 + 9 * h + 2) 0 = upd (upd (upd (upd T (58 + 9 * h + 1) (s (58 + 9 * h + 3))) (58 + 9 * h + 3) (-1)) (58 + 9 * h + 2) 0) (58 + 9 * h + 8) 0 := fun T => upd_comm (by omega)
    have hz : ∀ T : Nat → Int32, T 2 = S 2 → ((upd (upd (upd (upd T (58 + 9 * h + 1) (s (58 + 9 * h + 3))) (58 + 9 * h + 3) (-1)) (58 + 9 * h + 8) 0) (58 + 9 * h + 2) 0) 2).toInt = (s 2).toInt ∧ 0 ≤ ((upd (upd (upd (upd T (58 + 9 * h + 1) (s (58 + 9 * h + 3))) (58 + 9 * h + 3) (-1)) (58 + 9 * h + 8) 0) (58 + 9 * h + 2) 0) (58 + 9 * h + 1)).toInt := by
      intro T hT
      refine ⟨?_, ?_⟩
      · rw [g_upd_ne (by omega), g_upd_ne (by omega), g_upd_ne (by omega), g_upd_ne (by omega), hT, S2]
      · rw [g_upd_ne (by omega), g_upd_ne (by omega), g_upd_ne (by omega), g_upd_eq]; omega
    unfold R_X8_arrives R_X8_arrives_32
    rw [hH, r2 (58 + 9 * h + 8) (by omega) (by omega), r2 (58 + 9 * h + 3) (by omega) (by omega), e8]
    rcases hb with hb | hb
    · rw [hb]
      simp only [↓reduceIte, if_neg (show ¬ (0 : Int32) = 1 by decide)]
      have hz1 := hz S rfl
      refine T_109 ?_ (NA S (fun _ _ => rfl) rfl) (by omega) (by rw [hH]; omega) (by rw [hH]; exact hz1.2)
      rw [ea, eo S]
      refine g_L.updR (((L2.both (by omega) (by omega) (by omega) (by omega)).both (by omega) (by omega) (by omega) (by omega)).both (by omega) (by omega) (by omega) (by omega)) ?_ (by omega) (by omega) (by omega) (by omega)
      rw [g_upd_ne (by omega), g_upd_ne (by omega), g_upd_ne (by omega), r1 _ (by omega) (by omega), m8, hb]
    · rw [hb]
      simp only [↓reduceIte, i10]
      have hz1 := hz (upd (upd S 4 (s (58 + 9 * h + 3))) 5 0) (by rw [g_upd_ne (by omega), g_upd_ne (by omega)])
      refine T_109 ?_ (NA _ (fun n hn => by rw [g_upd_ne (by omega), g_upd_ne (by omega)]) (by rw [g_upd_ne (by omega), g_upd_ne (by omega)])) (by omega) (by rw [hH]; omega) (by rw [hH]; exact hz1.2)
      rw [ea, g_upd_ne (show 58 + 9 * h + 1 ≠ 58 + 9 * h + 8 by omega), g_upd_ne (show 58 + 9 * h + 1 ≠ 58 + 9 * h + 2 by omega), g_upd_ne (show 58 + 9 * h + 1 ≠ 58 + 9 * h + 3 by omega), g_upd_eq, eo]
      have L4 := (LA.both (n := 4) (x := s (58 + 9 * h + 3)) (by omega) (by omega) (by omega) (by omega)).both (n := 5) (x := 0) (by omega) (by omega) (by omega) (by omega)
      have ec : upd (upd (upd (upd (upd (upd S 4 (s (58 + 9 * h + 3))) 5 0) (58 + 9 * h + 1) (s (58 + 9 * h + 3))) (58 + 9 * h + 3) (-1)) (58 + 9 * h + 2) 0) (58 + 9 * h + 8) 0 = upd (upd (upd (upd (upd (upd S (58 + 9 * h + 1) (s (58 + 9 * h + 3))) (58 + 9 * h + 3) (-1)) (58 + 9 * h + 2) 0) (58 + 9 * h + 8) 0) 4 (s (58 + 9 * h + 3))) 5 0 := by
        funext n
        by_cases e5 : n = 5
        · subst e5
          simp (disch := omega) only [g_upd_ne, g_upd_eq]
        · by_cases e4 : n = 4
          · subst e4
            simp (disch := omega) only [g_upd_ne, g_upd_eq]
          · simp only [upd, if_neg e5, if_neg e4]
      rw [ec]
      exact L4
  · have c1 : ¬ s (58 + 9 * h + 4) - 1 ≤ 0 := fun z => c (Int32.toInt_inj.mp (by have z' : (s (58 + 9 * h + 4) - 1).toInt ≤ 0 := j_leR z rfl; rw [j_0]; omega))
    simp only [if_neg c, if_neg c1]
    exact T_109 L2 N2 (by omega) (by rw [hH]; omega) (by rw [hH, r2 _ (by omega) (by omega)]; omega)
/-- a rigger's minute -/
theorem M_rig (E : g_E m s) {x t : Int32} (h0 : 0 ≤ x.toInt) (h1 : x.toInt < (s 2).toInt) (hd : s (58 + 9 * x.toNatClampNeg + 2) = 2) : g_L (R_X0_letMinutePass_109 x t (R_X0_rigOn m x.toNatClampNeg)) (R_X8_minuteOf_178 x t s 0) ∧ g_N (R_X8_minuteOf_178 x t s 0) := by
  have hj := E.J.n
  have hx := j_nat h0
  have hp := E.J.2.2.1 x.toNatClampNeg (by omega)
  have hp1 := hp.1
  have hp5 := hp.2.2.1
  have hw := hp.2.2.2.2.2.1 hd
  have h6 : (s 2).toInt ≤ 6 := by omega
  have hn8 : s (58 + 9 * x.toNatClampNeg + 8) = 0 := E.N _ (by omega) (by rw [hd]; decide)
  have m1 := E.hp (h := x.toNatClampNeg) (j := 1) (by omega) (by omega)
  have m4 := E.hp (h := x.toNatClampNeg) (j := 4) (by omega) (by omega)
  have m5 := E.hp (h := x.toNatClampNeg) (j := 5) (by omega) (by omega)
  have m6 := E.hp (h := x.toNatClampNeg) (j := 6) (by omega) (by omega)
  have m01 := E.lo (n := 1) (by omega)
  have m00 := E.lo (n := 0) (by omega)
  have hl := j_sub1 (x := s (58 + 9 * x.toNatClampNeg + 4)) (by omega)
  have q1 := j_nat (x := s (58 + 9 * x.toNatClampNeg + 1)) (by omega)
  have q5 := j_nat (x := s (58 + 9 * x.toNatClampNeg + 5)) (by omega)
  have p1 : (s (58 + 9 * x.toNatClampNeg + 1)).toNatClampNeg < 7 := by omega
  have p5 : (s (58 + 9 * x.toNatClampNeg + 5)).toNatClampNeg < 8 := by omega
  generalize hH : x.toNatClampNeg = h at *
  have hn1 : ¬ s (58 + 9 * h + 2) = 1 := by rw [hd]; decide
  unfold R_X0_rigOn R_X8_minuteOf_178 R_X8_minuteOf_205
  rw [hH]
  rw [g_upd_ne (show 58 + 9 * h + 4 ≠ 58 + 9 * h + 6 by omega), g_upd_ne (show 58 + 9 * h + 6 ≠ 58 + 9 * h + 4 by omega), g_upd_eq, g_upd_eq, m4, Int32.add_zero]
  have L2 : g_L (upd m (58 + 9 * h + 4) (s (58 + 9 * h + 4) - 1)) (upd (upd s (58 + 9 * h + 4) (s (58 + 9 * h + 4) - 1)) (58 + 9 * h + 6) (s (58 + 9 * h + 6))) := (E.L.both (by omega) (by omega) (by omega) (by omega)).updR (by rw [g_upd_ne (by omega), m6]) (by omega) (by omega) (by omega) (by omega)
  have N2 : g_N (upd (upd s (58 + 9 * h + 4) (s (58 + 9 * h + 4) - 1)) (58 + 9 * h + 6) (s (58 + 9 * h + 6))) := (E.N.updj (by omega) (by omega) (by omega) (by omega) h6).updj (by omega) (by omega) (by omega) (by omega) (by rw [g_upd_ne (by omega)]; exact h6)
  have r1 : ∀ n, n ≠ 58 + 9 * h + 4 → (upd m (58 + 9 * h + 4) (s (58 + 9 * h + 4) - 1)) n = m n := fun n a => by rw [g_upd_ne a]
  have r2 : ∀ n, n ≠ 58 + 9 * h + 4 → n ≠ 58 + 9 * h + 6 → (upd (upd s (58 + 9 * h + 4) (s (58 + 9 * h + 4) - 1)) (58 + 9 * h + 6) (s (58 + 9 * h + 6))) n = s n := fun n a b => by rw [g_upd_ne b, g_upd_ne a]
  generalize upd m (58 + 9 * h + 4) (s (58 + 9 * h + 4) - 1) = M at L2 r1 ⊢
  generalize upd (upd s (58 + 9 * h + 4) (s (58 + 9 * h + 4) - 1)) (58 + 9 * h + 6) (s (58 + 9 * h + 6)) = S at L2 N2 r2 ⊢
  have S2 : (S 2).toInt = (s 2).toInt := by rw [r2 2 (by omega) (by omega)]
  simp only [if_neg hn1]
  by_cases c : s (58 + 9 * h + 4) - 1 = 0
  · have c1 : s (58 + 9 * h + 4) - 1 ≤ 0 := by rw [c]; decide
    simp only [if_pos c, if_pos c1]
    rw [r1 (58 + 9 * h + 5) (by omega), r1 (58 + 9 * h + 1) (by omega), m5, m1]
    have ep : R_X5_put M (s (58 + 9 * h + 5)) 2 (s (58 + 9 * h + 1)) = upd (upd M (35 + 3 * (s (58 + 9 * h + 5)).toNatClampNeg) 2) (36 + 3 * (s (58 + 9 * h + 5)).toNatClampNeg) (s (58 + 9 * h + 1)) := put_eq (s := s) (by rw [r1 1 (by omega), m01]) (by omega) (by omega)
    have ef : ∀ T : Nat → Int32, T 0 = s 0 → ∀ v, R_X4_fix T (s (58 + 9 * h + 1)) v = upd T (27 + (s (58 + 9 * h + 1)).toNatClampNeg) v := by
      intro T hT v
      unfold R_X4_fix
      have hh : ¬ R_X4_has T (s (58 + 9 * h + 1)) = 0 := by
        unfold R_X4_has
        rw [hT, if_neg (fun z => by have := j_ltR z j_0; omega), if_neg (fun z => by have := j_le z; omega)]
        decide
      rw [if_neg hh]
    rw [ep, g_upd_ne (show 58 + 9 * h + 1 ≠ 36 + 3 * (s (58 + 9 * h + 5)).toNatClampNeg by omega), g_upd_ne (show 58 + 9 * h + 1 ≠ 35 + 3 * (s (58 + 9 * h + 5)).toNatClampNeg by omega), r1 (58 + 9 * h + 1) (by omega), m1, g_upd_ne (show 58 + 9 * h + 5 ≠ 36 + 3 * (s (58 + 9 * h + 5)).toNatClampNeg by omega), g_upd_ne (show 58 + 9 * h + 5 ≠ 35 + 3 * (s (58 + 9 * h + 5)).toNatClampNeg by omega), r1 (58 + 9 * h + 5) (by omega), m5, ef _ (by rw [g_upd_ne (by omega), g_upd_ne (by omega), r1 0 (by omega), m00])]
    have eh : R_X8_hasRigged S x = upd (upd (upd (upd (upd S (35 + 3 * (s (58 + 9 * h + 5)).toNatClampNeg) 2) (36 + 3 * (s (58 + 9 * h + 5)).toNatClampNeg) (s (58 + 9 * h + 1))) (27 + (s (58 + 9 * h + 1)).toNatClampNeg) (s (58 + 9 * h + 5))) (58 + 9 * h + 5) (-1)) (58 + 9 * h + 2) 0 := by
      unfold R_X8_hasRigged
      rw [hH, r2 (58 + 9 * h + 1) (by omega) (by omega), r2 (58 + 9 * h + 5) (by omega) (by omega), s27 (by omega) (by omega)]
      have e5 : upd S (27 + (s (58 + 9 * h + 1)).toNatClampNeg) (s (58 + 9 * h + 5)) (58 + 9 * x.toNatClampNeg + 5) = s (58 + 9 * h + 5) := by rw [hH, g_upd_ne (by omega), r2 _ (by omega) (by omega)]
      rw [leave_eq (by rw [e5]; omega) (by rw [e5]; omega), e5, hH]
      congr 2
      rw [upd_comm (f := S) (by omega), upd_comm (f := upd S _ _) (by omega)]
    rw [eh]
    have z0 : ((upd (upd (upd (upd (upd S (35 + 3 * (s (58 + 9 * h + 5)).toNatClampNeg) 2) (36 + 3 * (s (58 + 9 * h + 5)).toNatClampNeg) (s (58 + 9 * h + 1))) (27 + (s (58 + 9 * h + 1)).toNatClampNeg) (s (58 + 9 * h + 5))) (58 + 9 * h + 5) (-1)) (58 + 9 * h + 2) 0) 2).toInt = (s 2).toInt := by
      rw [g_upd_ne (by omega), g_upd_ne (by omega), g_upd_ne (by omega), g_upd_ne (by omega), g_upd_ne (by omega), S2]
    refine T_109 (((((L2.both (by omega) (by omega) (by omega) (by omega)).both (by omega) (by omega) (by omega) (by omega)).both (by omega) (by omega) (by omega) (by omega)).both (by omega) (by omega) (by omega) (by omega)).both (by omega) (by omega) (by omega) (by omega)) ?_ (by omega) (by rw [hH]; omega) ?_
    · intro k hk hdk
      rw [z0] at hk
      have N3 := N2 k (by omega)
      rw [g_upd_ne (by omega), g_upd_ne (by omega), g_upd_ne (by omega), g_upd_ne (by omega), g_upd_ne (by omega)]
      by_cases e : k = h
      · subst e
        rw [r2 _ (by omega) (by omega)]
        exact hn8
      · rw [g_upd_ne (by omega), g_upd_ne (by omega), g_upd_ne (by omega), g_upd_ne (by omega), g_upd_ne (by omega)] at hdk
        exact N3 hdk
    · rw [hH, g_upd_ne (by omega), g_upd_ne (by omega), g_upd_ne (by omega), g_upd_ne (by omega), g_upd_ne (by omega), r2 _ (by omega) (by omega)]
      omega
  · have c1 : ¬ s (58 + 9 * h + 4) - 1 ≤ 0 := fun z => c (Int32.toInt_inj.mp (by have z' : (s (58 + 9 * h + 4) - 1).toInt ≤ 0 := j_leR z rfl; rw [j_0]; omega))
    simp only [if_neg c, if_neg c1]
    exact T_109 L2 N2 (by omega) (by rw [hH]; omega) (by rw [hH, r2 _ (by omega) (by omega)]; omega)
/-- a helper's minute, from where it is settled whether the helper turns back -/
theorem M_66 (E : g_E m s) {x t : Int32} {s0 : Nat → Int32} (h0 : 0 ≤ x.toInt) (h1 : x.toInt < (s 2).toInt) (hs : s0 (58 + 9 * x.toNatClampNeg + 1) = s (58 + 9 * x.toNatClampNeg + 1)) : g_L (R_X0_letMinutePass_80 x t m) (R_X8_minuteOf_66 s0 x t s) ∧ g_N (R_X8_minuteOf_66 s0 x t s) := by
  have hj := E.J.n
  have hx := j_nat h0
  have hp := E.J.2.2.1 x.toNatClampNeg (by omega)
  have hp1 := hp.1
  have m2 := E.hp (h := x.toNatClampNeg) (j := 2) (by omega) (by omega)
  have e94 : ∀ v, R_X8_minuteOf_94 s0 x t s v = R_X8_minuteOf_94 s x t s v := fun v => by
    unfold R_X8_minuteOf_94
    rw [hs]
  unfold R_X0_letMinutePass_80 R_X8_minuteOf_66
  rw [m2, hs, e94, e94]
  rcases hp.2.1 with hd | hd | hd
  · rw [if_neg (by rw [hd]; decide), if_neg (by rw [hd]; decide), if_pos hd]
    exact T_109 E.L E.N (by omega) (by omega) (by omega)
  · obtain ⟨w, w1, w2⟩ := twice_eq E h0 h1 hd
    rw [if_pos hd, if_neg (by rw [hd]; decide), w1, w2]
    exact M_walk E h0 h1 hd
  · rw [if_neg (by rw [hd]; decide), if_pos hd, if_neg (by rw [hd]; decide)]
    have er : ∀ v, R_X8_minuteOf_94 s x t s v = R_X8_minuteOf_178 x t s 0 := fun v => by
      unfold R_X8_minuteOf_94 R_X8_minuteOf_126 R_X8_minuteOf_130 R_X8_minuteOf_131
      simp only [if_pos hd, ite_self]
    rw [er, er, ite_self]
    exact M_rig E h0 h1 hd
theorem M_26 (E : g_E m s) {x t : Int32} (h0 : 0 ≤ x.toInt) (h1 : x.toInt < (s 2).toInt) : g_L (R_X0_letMinutePass_26 m x t) (R_X8_minuteOf_24 s x t) ∧ g_N (R_X8_minuteOf_24 s x t) := by
  have hj := E.J.n
  have hx := j_nat h0
  have hp := E.J.2.2.1 x.toNatClampNeg (by omega)
  have hp1 := hp.1
  have m1 := E.hp (h := x.toNatClampNeg) (j := 1) (by omega) (by omega)
  have m2 := E.hp (h := x.toNatClampNeg) (j := 2) (by omega) (by omega)
  have base := M_66 E (t := t) (s0 := s) h0 h1 rfl
  unfold R_X0_letMinutePass_26 R_X8_minuteOf_24
  rw [m2, m1, E_inTime E h0 h1 (by omega), E_refusal E h0 h1]
  by_cases a : s (58 + 9 * x.toNatClampNeg + 2) = 0
  · have a2 : ¬ R_X8_stands s x = 0 := by
      unfold R_X8_stands
      rw [if_pos a]
      decide
    rw [if_pos a, if_neg a2]
    by_cases b : s (58 + 9 * x.toNatClampNeg + 1) ≤ 0
    · rw [if_pos b, if_pos b]; exact base
    · rw [if_neg b, if_neg b]
      by_cases c : R_X8_isInTime s x (s (58 + 9 * x.toNatClampNeg + 1)) 1 = 0
      · rw [if_pos c, if_pos c]
        by_cases d : R_X8_reason s x (s (58 + 9 * x.toNatClampNeg + 1) - 1) = 0
        · rw [if_pos d, if_pos d]
          have JS := J_sets E.J (x := x) (b := s (58 + 9 * x.toNatClampNeg + 1) - 1) (by omega) (by omega) d
          have E2 : g_E (R_X0_startWalk m x (s (58 + 9 * x.toNatClampNeg + 1) - 1)).2 (R_X8_sets s x (s (58 + 9 * x.toNatClampNeg + 1) - 1)) := by
            refine ⟨?_, JS.1, ?_⟩
            · rw [sets_eq E h0 h1 d]
              exact walk_L E h0 h1 a
            · rw [sets_eq E h0 h1 d]
              exact g_N.walk E.N (by omega) (by omega)
          exact M_66 E2 h0 (by rw [JS.2]; exact h1) (by rw [fr_X8_sets (by omega) (by omega) (by omega) (by omega)])
        · rw [if_neg d, if_neg d]; exact base
      · rw [if_neg c, if_neg c]; exact base
  · have a2 : R_X8_stands s x = 0 := by
      unfold R_X8_stands
      rw [if_neg a]
    rw [if_neg a, if_pos a2]; exact base
theorem E_minuteOf (E : g_E m s) {x : Int32} (h0 : 0 ≤ x.toInt) (h1 : x.toInt < (s 2).toInt) : g_E (R_X0_letMinutePass m x) (R_X8_minuteOf s x) := by
  have hj := E.J.n
  have hx := j_nat h0
  have m1 := E.hp (h := x.toNatClampNeg) (j := 1) (by omega) (by omega)
  have m2 := E.hp (h := x.toNatClampNeg) (j := 2) (by omega) (by omega)
  have key : g_L (R_X0_letMinutePass m x) (R_X8_minuteOf s x) ∧ g_N (R_X8_minuteOf s x) := by
    unfold R_X0_letMinutePass R_X0_letMinutePass_25 R_X8_minuteOf R_X8_minuteOf_23 R_X8_stands
    rw [m1, m2]
    by_cases a : s (58 + 9 * x.toNatClampNeg + 2) = 0
    · simp only [if_pos a, i10]
      by_cases b : s (58 + 9 * x.toNatClampNeg + 1) = 0
      · simp only [if_pos b]; exact M_26 E h0 h1
      · simp only [if_neg b]; exact M_26 E h0 h1
    · simp only [if_neg a, ↓reduceIte]; exact M_26 E h0 h1
  exact ⟨key.1, J_minuteOf E.J h0 h1, key.2⟩
end PF
