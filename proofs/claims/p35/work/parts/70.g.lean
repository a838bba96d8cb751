/-! ===== class beside model: minutes ===== -/
section PG
variable {m s : Nat → Int32}
theorem U_put {a b c : Int32} (h : (m 1).toInt ≤ 8) : g_U m (R_X5_put m a b c) := by
  unfold R_X5_put
  by_cases z : R_X5_has m a = 0
  · rw [if_pos z]; exact g_U.refl
  · rw [if_neg z]
    obtain ⟨b0, b1⟩ := nz_X5_has z
    have := j_nat b0
    exact (g_U.refl.upd (by omega)).upd (by omega)
theorem U_fix {a b : Int32} (h : (m 0).toInt ≤ 7) : g_U m (R_X4_fix m a b) := by
  unfold R_X4_fix
  by_cases z : R_X4_has m a = 0
  · rw [if_pos z]; exact g_U.refl
  · rw [if_neg z]
    have hz : 0 ≤ a.toInt ∧ a.toInt < (m 0).toInt := by
      unfold R_X4_has at z
      by_cases q : a < 0
      · rw [if_pos q] at z; exact absurd rfl z
      · rw [if_neg q] at z
        by_cases w : m 0 ≤ a
        · rw [if_pos w] at z; exact absurd rfl z
        · exact ⟨j_nltR q rfl, j_nle w⟩
    have := j_nat hz.1
    exact g_U.refl.upd (by omega)
theorem U_arrive {h : Nat} (hh : h < 6) : g_U m (R_X1_arrive m h) := ((g_U.refl.upd (by omega)).upd (by omega)).upd (by omega)
theorem U_130 {x : Int32} (hh : x.toNatClampNeg < 6) : g_U m (R_X0_letMinutePass_130 x m) := by
  have k : ∀ t, g_U m (upd m (58 + 9 * x.toNatClampNeg + 7) t) := fun t => g_U.refl.upd (by omega)
  unfold R_X0_letMinutePass_130 R_X1_countBelow R_X1_countBelow_18
  repeat' split
  all_goals first | exact k _ | exact (k _).upd (by omega)
theorem U_109 {x t : Int32} (hh : x.toNatClampNeg < 6) : g_U m (R_X0_letMinutePass_109 x t m) := by
  unfold R_X0_letMinutePass_109
  by_cases a : t = 0
  · rw [if_pos a]; exact U_130 hh
  · rw [if_neg a]
    by_cases b : m (58 + 9 * x.toNatClampNeg + 6) ≤ 0
    · rw [if_pos b]; exact U_130 hh
    · rw [if_neg b]
      have k : g_U m (upd m (58 + 9 * x.toNatClampNeg + 6) (m (58 + 9 * x.toNatClampNeg + 6) - 1)) := g_U.refl.upd (by omega)
      exact k.trans (U_130 hh)
theorem U_walkOn {h : Nat} (hh : h < 6) : g_U m (R_X0_walkOn m h) := by
  have k : ∀ w, g_U m (R_X0_walkOn_52 m h w) := by
    intro w
    have k0 : g_U m (upd (upd m (58 + 9 * h + 6) (m (58 + 9 * h + 6) + w)) (58 + 9 * h + 4) (upd m (58 + 9 * h + 6) (m (58 + 9 * h + 6) + w) (58 + 9 * h + 4) - 1)) := (g_U.refl.upd (by omega)).upd (by omega)
    have k1 := k0.trans (U_arrive hh)
    unfold R_X0_walkOn_52
    split
    · split
      · exact k1
      · exact ((k1.upd (by omega)).upd (by omega)).upd (by omega)
    · exact k0
  unfold R_X0_walkOn R_X0_walkOn_29 R_X0_walkOn_30 R_X0_walkOn_47
  repeat' split
  all_goals exact k _
theorem U_rigOn {h : Nat} (hh : h < 6) (h0 : (m 0).toInt ≤ 7) (h1 : (m 1).toInt ≤ 8) : g_U m (R_X0_rigOn m h) := by
  unfold R_X0_rigOn
  generalize hM : upd m (58 + 9 * h + 4) (m (58 + 9 * h + 4) - 1) = M
  have k0 : g_U m M := by rw [← hM]; exact g_U.refl.upd (by omega)
  have e0 : (M 0).toInt ≤ 7 := by rw [← hM, g_upd_ne (by omega)]; exact h0
  have e1 : (M 1).toInt ≤ 8 := by rw [← hM, g_upd_ne (by omega)]; exact h1
  split
  · exact (((k0.trans (U_put e1)).trans (U_fix (by rw [fr_X5_put (by omega)]; exact e0))).upd (by omega)).upd (by omega)
  · exact k0
theorem U_lmp {x : Int32} (hh : x.toNatClampNeg < 6) (h0 : (m 0).toInt ≤ 7) (h1 : (m 1).toInt ≤ 8) : g_U m (R_X0_letMinutePass m x) := by
  have k80 : ∀ (M : Nat → Int32) (t : Int32), (M 0).toInt ≤ 7 → (M 1).toInt ≤ 8 → g_U M (R_X0_letMinutePass_80 x t M) := by
    intro M t a b
    unfold R_X0_letMinutePass_80
    split
    · exact (U_walkOn hh).trans (U_109 hh)
    split
    · exact (U_rigOn hh a b).trans (U_109 hh)
    · exact U_109 hh
  have k26 : ∀ t, g_U m (R_X0_letMinutePass_26 m x t) := by
    intro t
    have kw : g_U m (R_X0_startWalk m x (m (58 + 9 * x.toNatClampNeg + 1) - 1)).2 := ((g_U.refl.upd (by omega)).upd (by omega)).upd (by omega)
    unfold R_X0_letMinutePass_26
    repeat' split
    all_goals first | exact k80 m t h0 h1 | exact kw.trans (k80 _ t (by rw [fr_X0_startWalk (by omega)]; exact h0) (by rw [fr_X0_startWalk (by omega)]; exact h1))
  unfold R_X0_letMinutePass R_X0_letMinutePass_25
  repeat' split
  all_goals exact k26 _
/-- messages: the class's walk over them beside the model's -/
theorem up_loop {M S s0 : Nat → Int32} (E : g_E M S) (h3 : R_X8_in S (S 3) (S 9) (S 10 - 1) = 0) : ∀ (f y k : Nat) (m t : Nat → Int32), y ≤ k → (k : Int) ≤ (S 6).toInt → (S 6).toInt < f + k →
    (∀ n, n < 112 ∨ 142 ≤ n → m n = M n) → (∀ n, n < 112 ∨ 142 ≤ n → t n = S n) →
    (∀ i j, i < y → j < 3 → m (112 + 3 * i + j) = t (112 + 3 * i + j)) → (∀ i j, k ≤ i → (i : Int) < (S 6).toInt → j < 3 → m (112 + 3 * i + j) = t (112 + 3 * i + j)) → (∀ i, k ≤ i → (i : Int) < (S 6).toInt → 1 ≤ (t (112 + 3 * i + 2)).toInt) →
    ∃ m' v, R_X3_goUp_4 M f y k m = m' ∧ (R_X8_minute_65 s0 S f (nI (k - y)) y k t).1 = v ∧ m' 3 = M 3 ∧ m' 7 = M 7 + v ∧ g_U M m' ∧ g_L (upd m' 3 (M 3 + 1)) (R_X8_minute_65 s0 S f (nI (k - y)) y k t).2 ∧ ∀ n, n < 112 → n ≠ 3 → n ≠ 6 → n ≠ 7 → (R_X8_minute_65 s0 S f (nI (k - y)) y k t).2 n = S n
  | 0, y, k, m, t, h1, h2, h4, _, _, _, _, _ => absurd h4 (by omega)
  | f + 1, y, k, m, t, h1, h2, h4, hm, ht, hy, hk, hst => by
    have hj := E.J.n
    have hc : (nI k).toInt = (k : Int) := nI_toInt (by omega)
    have hcy : (nI y).toInt = (y : Int) := nI_toInt (by omega)
    have hcd : (nI (k - y)).toInt = ((k - y : Nat) : Int) := nI_toInt (by omega)
    have m6 : m 6 = S 6 := by rw [hm 6 (by omega), E.lo (by omega)]
    unfold R_X3_goUp_4 R_X8_minute_65 R_X3_goUp_46 R_X8_minute_164 R_X8_minute_158
    rw [m6]
    by_cases a : S 6 ≤ nI k
    · have a' := j_le a
      simp only [if_pos a, if_pos h3]
      have ek : (k : Int) = (S 6).toInt := by omega
      have ev : S 6 - nI y = nI (k - y) := Int32.toInt_inj.mp (by rw [j_sub (by omega) (by omega), hcd]; omega)
      refine ⟨_, _, rfl, rfl, ?_, ?_, ?_, ?_, ?_⟩
      · rw [g_upd_ne (by omega), g_upd_ne (by omega), hm 3 (by omega)]
      · rw [g_upd_ne (by omega), g_upd_eq, hm 7 (by omega), ev]
        rfl
      · intro n hn
        rw [g_upd_ne (by omega), g_upd_ne (by omega), hm n (by omega)]
      · unfold R_X8_minute_180
        have t6 : ∀ v : Int32, upd t 6 v 7 = S 7 := fun v => by rw [g_upd_ne (by omega), ht 7 (by omega)]
        have t3 : ∀ v w : Int32, upd (upd t 6 v) 7 w 3 = S 3 := fun v w => by rw [g_upd_ne (by omega), g_upd_ne (by omega), ht 3 (by omega)]
        show g_L _ (upd (upd (upd t 6 (nI y)) 7 (upd t 6 (nI y) 7 + nI (k - y))) 3 (upd (upd t 6 (nI y)) 7 (upd t 6 (nI y) 7 + nI (k - y)) 3 + 1))
        rw [t6, t3, ev, hm 7 (by omega), E.lo (n := 7) (by omega), E.lo (n := 3) (by omega)]
        intro n hn
        by_cases e3 : n = 3
        · subst e3; rw [g_upd_eq, g_upd_eq]
        rw [g_upd_ne e3, g_upd_ne e3]
        by_cases e6 : n = 6
        · subst e6; rw [g_upd_eq, g_upd_ne (by omega), g_upd_eq]
        rw [g_upd_ne e6]
        by_cases e7 : n = 7
        · subst e7; rw [g_upd_eq, g_upd_eq]
        rw [g_upd_ne e7, g_upd_ne e7, g_upd_ne e6]
        unfold g_Lv at hn
        rw [g_upd_ne (by omega), g_upd_ne (by omega), g_upd_ne (by omega), g_upd_ne (by omega), g_upd_ne (by omega), g_upd_ne (by omega), g_upd_ne (by omega), g_upd_ne (by omega), g_upd_eq, g_upd_ne (by omega), g_upd_ne (by omega), g_upd_ne (by omega), ht 1 (by omega), ht 2 (by omega), ht 12 (by omega), hcy] at hn
        by_cases q : n < 112 ∨ 142 ≤ n
        · rw [hm n q, ht n q]
          refine E.L n ?_
          unfold g_Lv
          omega
        · have := hy ((n - 112) / 3) ((n - 112) % 3) (by omega) (by omega)
          rwa [show 112 + 3 * ((n - 112) / 3) + (n - 112) % 3 = n by omega] at this
      · intro n hn h3' h6' h7'
        unfold R_X8_minute_180
        show upd (upd (upd t 6 _) 7 _) 3 _ n = _
        rw [g_upd_ne h3', g_upd_ne h7', g_upd_ne h6', ht n (by omega)]
    · have a' := j_nle a
      have hkl : (k : Int) < (S 6).toInt := by omega
      simp only [if_neg a, if_pos h3]
      have i2 : (112 + 3 * nI k + 2).toNatClampNeg = 112 + 3 * k + 2 := ix_msg (j := 2) (by omega) (by omega) (w := 2) rfl
      rw [i2, nI_clamp (by omega), g_upd_eq]
      have em0 : m (112 + 3 * k) = t (112 + 3 * k) := hk k 0 (Nat.le_refl _) hkl (by omega)
      have em1 : m (113 + 3 * k) = t (112 + 3 * k + 1) := by have := hk k 1 (Nat.le_refl _) hkl (by omega); rwa [show 112 + 3 * k + 1 = 113 + 3 * k by omega] at this ⊢
      have em2 : m (114 + 3 * k) = t (112 + 3 * k + 2) := by have := hk k 2 (Nat.le_refl _) hkl (by omega); rwa [show 112 + 3 * k + 2 = 114 + 3 * k by omega] at this ⊢
      have s1 := hst k (Nat.le_refl _) hkl
      have hl := Int32.toInt_le (t (112 + 3 * k + 2))
      have hsub := j_sub1 (x := t (112 + 3 * k + 2)) (by omega)
      rw [em2]
      by_cases b : t (112 + 3 * k + 2) - 1 = 0
      · have b1 : t (112 + 3 * k + 2) - 1 ≤ 0 := by rw [b]; decide
        simp only [if_pos b, if_pos b1]
        have ev : nI (k - y) + 1 = nI (k + 1 - y) := by rw [show k + 1 - y = (k - y) + 1 by omega]; exact (nI_succ _).symm
        rw [ev]
        refine up_loop E h3 f y (k + 1) m (upd t (112 + 3 * k + 2) (t (112 + 3 * k + 2) - 1)) (by omega) (by omega) (by omega) hm (fun n hn => by rw [g_upd_ne (by omega)]; exact ht n hn) (fun i j hi hj => ?_) (fun i j hi hi2 hj => ?_) (fun i hi hi2 => ?_)
        · rw [g_upd_ne (by omega)]; exact hy i j hi hj
        · rw [g_upd_ne (by omega)]; exact hk i j (by omega) hi2 hj
        · rw [g_upd_ne (by omega)]; exact hst i (by omega) hi2
      · have b' : (t (112 + 3 * k + 2) - 1).toInt ≠ 0 := j_neR b rfl
        have b1 : ¬ t (112 + 3 * k + 2) - 1 ≤ 0 := fun z => by have z' : (t (112 + 3 * k + 2) - 1).toInt ≤ 0 := j_leR z rfl; omega
        simp only [if_neg b, if_neg b1]
        rw [R_118 (by omega) (by omega)]
        unfold R_X3_set
        have q0 : upd t (112 + 3 * k + 2) (t (112 + 3 * k + 2) - 1) (112 + 3 * k) = t (112 + 3 * k) := g_upd_ne (by omega)
        have q1 : upd (upd t (112 + 3 * k + 2) (t (112 + 3 * k + 2) - 1)) (112 + 3 * y) (t (112 + 3 * k)) (112 + 3 * k + 1) = t (112 + 3 * k + 1) := by rw [g_upd_ne (by omega), g_upd_ne (by omega)]
        have q2 : upd (upd (upd t (112 + 3 * k + 2) (t (112 + 3 * k + 2) - 1)) (112 + 3 * y) (t (112 + 3 * k))) (112 + 3 * y + 1) (t (112 + 3 * k + 1)) (112 + 3 * k + 2) = t (112 + 3 * k + 2) - 1 := by rw [g_upd_ne (by omega), g_upd_ne (by omega), g_upd_eq]
        rw [q0, q1, q2, nI_clamp (by omega), em0, em1, show 113 + 3 * y = 112 + 3 * y + 1 by omega, show 114 + 3 * y = 112 + 3 * y + 2 by omega]
        have ev : nI (k - y) = nI (k + 1 - (y + 1)) := by rw [show k + 1 - (y + 1) = k - y by omega]
        rw [ev]
        refine up_loop E h3 f (y + 1) (k + 1) _ _ (by omega) (by omega) (by omega) (fun n hn => ?_) (fun n hn => ?_) (fun i j hi hj => ?_) (fun i j hi hi2 hj => ?_) (fun i hi hi2 => ?_)
        · rw [g_upd_ne (by omega), g_upd_ne (by omega), g_upd_ne (by omega)]; exact hm n hn
        · rw [g_upd_ne (by omega), g_upd_ne (by omega), g_upd_ne (by omega), g_upd_ne (by omega)]; exact ht n hn
        · by_cases e : i = y
          · subst e
            rcases (show j = 0 ∨ j = 1 ∨ j = 2 by omega) with rfl | rfl | rfl
            · rw [g_upd_ne (by omega), g_upd_ne (by omega), Nat.add_zero, g_upd_eq, g_upd_ne (by omega), g_upd_ne (by omega), g_upd_eq]
            · rw [g_upd_ne (by omega), g_upd_eq, g_upd_ne (by omega), g_upd_eq]
            · rw [g_upd_eq, g_upd_eq]
          · rw [g_upd_ne (by omega), g_upd_ne (by omega), g_upd_ne (by omega), g_upd_ne (by omega), g_upd_ne (by omega), g_upd_ne (by omega), g_upd_ne (by omega)]
            exact hy i j (by omega) hj
        · rw [g_upd_ne (by omega), g_upd_ne (by omega), g_upd_ne (by omega), g_upd_ne (by omega), g_upd_ne (by omega), g_upd_ne (by omega), g_upd_ne (by omega)]
          exact hk i j (by omega) hi2 hj
        · rw [g_upd_ne (by omega), g_upd_ne (by omega), g_upd_ne (by omega), g_upd_ne (by omega)]
          exact hst i (by omega) hi2
end PG
