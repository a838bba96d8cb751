/-! ===== the text: teams and orders ===== -/
section SB
variable {m s t u : Nat → Int32} {L : Nat}
theorem or_ones : ∀ x < 64, ∀ d < 6, x < 2 ^ d → ∃ y < 64, y < 2 ^ (d + 1) ∧ (nI x ||| (1 <<< (nI d &&& 31))) = nI y ∧ R_X8_ones_4 (nI y) 7 0 0 = R_X8_ones_4 (nI x) 7 0 0 + 1 := by decide +kernel
theorem team_stop {v w : Int32} {n : Nat} {x : Nat} {t : Nat → Int32} (hw : w ≤ v) (h6 : t 1306 = nI x) (ho : R_X8_ones_4 (nI x) 7 0 0 = nI n) (hn : n ≤ 6) (f : Nat) {p : Nat} (hp : p ≤ 300) (h4 : t 1304 = if w = -1 then nI p else nI (p + 1)) :
    R_X8_readsTeam_13 s (f + 1) v w t = (if w = -1 then (if n ≤ 2 then 0 else 1) else 0, upd t 1304 (nI p)) := by
  have c2 : (2 : Int32).toInt = 2 := rfl
  have hq : (nI n).toInt = (n : Int) := nI_toInt (by omega)
  unfold R_X8_readsTeam_13 R_X8_readsTeam_56 R_X8_ones
  rw [if_pos hw, h4]
  by_cases a : w = -1
  · rw [if_pos a, if_pos a, if_pos a, if_pos a, Int32.sub_zero, g_upd_ne (show 1306 ≠ 1304 by omega), h6, ho]
    by_cases b : n ≤ 2
    · rw [if_pos (Int32.le_iff_toInt_le.mpr (by omega)), if_pos b]
    · rw [if_neg (fun z => by have := j_le z; omega), if_neg b]
  · have e : nI (p + 1) - 1 = nI p := Int32.toInt_inj.mp (by rw [j_sub1 (by rw [nI_toInt (by omega)]; omega), nI_toInt (by omega), nI_toInt (by omega)]; omega)
    rw [if_neg a, if_neg a, if_neg a, if_neg a, e]
theorem set_loop (T0 : g_Tl m s L) {a : Nat} (ha : a ≤ 200) : ∀ (fc fm n lo x : Nat) (v : Int32) (t : Nat → Int32), n ≤ lo → lo ≤ 6 → 6 < fc + n → 7 < fm + n → g_Ro s t → v.toInt + 1 = lo → x < 2 ^ lo → x < 64 → R_X8_ones_4 (nI x) 7 0 0 = nI n → t 1306 = nI x →
    ∀ w, (w = (if 0 ≤ (R_X6_digitAt m (nI (a + n))).toInt ∧ (R_X6_digitAt m (nI (a + n))).toInt ≤ 5 then R_X6_digitAt m (nI (a + n)) else -1)) → t 1304 = (if w = -1 then nI (a + n) else nI (a + n + 1)) →
    ∃ k x', n ≤ k ∧ k ≤ 6 ∧ R_X6_digitsOfSet_4 m (nI a) fc v n = nI k ∧ (∀ j, n ≤ j → j < k → a + j < L) ∧
      (∀ fs, 6 < fs + n → R_X6_digitsOfSet m (nI a) = nI k → R_X6_setAt_11 m (nI a) fs (nI x) n = nI x') ∧
      ∃ z w, z 1304 = nI (a + k) ∧ z 1306 = nI x' ∧ g_Ro s z ∧ (∀ n, n ≠ 1304 → n ≠ 1306 → z n = t n) ∧ R_X8_readsTeam_13 s fm v w t = R_X8_readsTeam_13 s fm v w t ∧
        R_X8_readsTeam_13 s fm v (if 0 ≤ (R_X6_digitAt m (nI (a + n))).toInt ∧ (R_X6_digitAt m (nI (a + n))).toInt ≤ 5 then R_X6_digitAt m (nI (a + n)) else -1) t = (if 0 ≤ (R_X6_digitAt m (nI (a + k))).toInt ∧ (R_X6_digitAt m (nI (a + k))).toInt ≤ 5 then 0 else if k ≤ 2 then 0 else 1, z)
  | 0, fm, n, lo, x, v, t, h1, h2, h3, _, _, _, _, _, _, _, _, _, _ => absurd h3 (by omega)
  | fc + 1, 0, n, lo, x, v, t, h1, h2, _, h4, _, _, _, _, _, _, _, _, _ => absurd h4 (by omega)
  | fc + 1, fm + 1, n, lo, x, v, t, h1, h2, h3, h4, r, hv, hx, hx6, ho, h6, w, hw, hp => by
    have T := T0.ro r
    have hq : (nI n).toInt = (n : Int) := nI_toInt (by omega)
    have c6 : (6 : Int32).toInt = 6 := rfl
    have n1 : (-1 : Int32).toInt = -1 := rfl
    have setstop : ∀ fs, 6 < fs + n → R_X6_digitsOfSet m (nI a) = nI n → R_X6_setAt_11 m (nI a) fs (nI x) n = nI x := fun fs hf hk => by
      obtain ⟨g, rfl⟩ : ∃ g, fs = g + 1 := ⟨fs - 1, by omega⟩
      unfold R_X6_setAt_11
      rw [hk, if_pos (Int32.le_iff_toInt_le.mpr (Int.le_refl _))]
    by_cases d : 0 ≤ (R_X6_digitAt m (nI (a + n))).toInt ∧ (R_X6_digitAt m (nI (a + n))).toInt ≤ 5
    · rw [if_pos d] at hw
      have nz : ¬ R_X6_digitAt m (nI (a + n)) = -1 := fun z => by rw [z, n1] at d; omega
      rw [hw, if_neg nz] at hp
      have dL : a + n < L := by
        rcases dig_9 T (p := a + n) (by omega) with z | z
        · exact absurd z nz
        · exact z.2.2
      by_cases e : R_X6_digitAt m (nI (a + n)) ≤ v
      · -- a digit that doesn't grow
        refine ⟨n, x, Nat.le_refl _, by omega, ?_, fun j h h' => absurd h' (by omega), setstop, upd t 1304 (nI (a + n)), 0, g_upd_eq, ?_, r.upd (by omega), fun n h h' => g_upd_ne h, rfl, ?_⟩
        · unfold R_X6_digitsOfSet_4
          rw [nI_n (by omega) (by omega), if_pos e]
          by_cases g : n = 6
          · subst g; rw [if_pos (by decide)]; rfl
          · rw [if_neg (fun z => by have := j_le z; omega)]
        · rw [g_upd_ne (by omega)]; exact h6
        · rw [if_pos d, if_pos d, team_stop e h6 ho (by omega) fm (p := a + n) (by omega) (by rw [if_neg nz]; exact hp), if_neg nz]
      · have e' := j_nle e
        obtain ⟨dd, hd⟩ : ∃ dd : Nat, (R_X6_digitAt m (nI (a + n))).toInt = dd := ⟨(R_X6_digitAt m (nI (a + n))).toInt.toNat, by omega⟩
        have ed : R_X6_digitAt m (nI (a + n)) = nI dd := as_nI hd (by omega)
        have xd : x < 2 ^ dd := Nat.lt_of_lt_of_le hx (Nat.pow_le_pow_right (by omega) (by omega))
        obtain ⟨y, y1, y2, y3, y4⟩ := or_ones x hx6 dd (by omega) xd
        have r1 : g_Ro s (upd t 1306 (nI y)) := r.upd (by omega)
        have T1 := T0.ro r1
        have p4 : (upd t 1306 (nI y)) 1304 = nI (a + (n + 1)) := by rw [g_upd_ne (by omega), hp]; rfl
        have yo : R_X8_ones_4 (nI y) 7 0 0 = nI (n + 1) := by rw [y4, ho, nI_p1 (by omega)]
        have step : ∃ t2, R_X8_digit (upd t 1306 (nI y)) 5 = ((if 0 ≤ (R_X6_digitAt m (nI (a + (n + 1)))).toInt ∧ (R_X6_digitAt m (nI (a + (n + 1)))).toInt ≤ 5 then R_X6_digitAt m (nI (a + (n + 1))) else -1), t2) ∧ g_Ro s t2 ∧ t2 1304 = (if (if 0 ≤ (R_X6_digitAt m (nI (a + (n + 1)))).toInt ∧ (R_X6_digitAt m (nI (a + (n + 1)))).toInt ≤ 5 then R_X6_digitAt m (nI (a + (n + 1))) else -1) = -1 then nI (a + (n + 1)) else nI (a + (n + 1) + 1)) ∧ t2 1306 = nI y ∧ ∀ k, k ≠ 1304 → k ≠ 1306 → t2 k = t k := by
          by_cases g : 0 ≤ (R_X6_digitAt m (nI (a + (n + 1)))).toInt ∧ (R_X6_digitAt m (nI (a + (n + 1)))).toInt ≤ 5
          · have nz' : ¬ R_X6_digitAt m (nI (a + (n + 1))) = -1 := fun z => by rw [z, n1] at g; omega
            rw [if_pos g, if_neg nz']
            refine ⟨_, digit_ok T1 (p := a + (n + 1)) (by omega) p4 g.1 (show _ ≤ (5 : Int32).toInt from g.2), r1.upd (by omega), g_upd_eq, ?_, fun k h h' => ?_⟩
            · rw [g_upd_ne (by omega), g_upd_eq]
            · rw [g_upd_ne h, g_upd_ne h']
          · rw [if_neg g, if_pos rfl]
            refine ⟨_, digit_no T1 (p := a + (n + 1)) (by omega) p4 (by decide) ?_, r1.upd (by omega), g_upd_eq, ?_, fun k h h' => ?_⟩
            · rcases dig_9 T1 (p := a + (n + 1)) (by omega) with z | z
              · exact Or.inl z
              · exact Or.inr (show (5 : Int32).toInt < _ by rw [show (5 : Int32).toInt = 5 from rfl]; omega)
            · rw [g_upd_ne (by omega), g_upd_eq]
            · rw [g_upd_ne h, g_upd_ne h']
        obtain ⟨t2, s1, s2, s3, s4, s5⟩ := step
        obtain ⟨k, x', k1, k2, k3, k4, k5, z, w', z1, z2, z3, z4, z5, z6⟩ := set_loop T0 ha fc fm (n + 1) (dd + 1) y (R_X6_digitAt m (nI (a + n))) t2 (by omega) (by omega) (by omega) (by omega) s2 (by omega) y2 y1 yo s4 _ rfl s3
        refine ⟨k, x', by omega, k2, ?_, fun j h h' => ?_, fun fs hf hk => ?_, z, 0, z1, z2, z3, fun n h h' => (z4 n h h').trans (s5 n h h'), rfl, ?_⟩
        · unfold R_X6_digitsOfSet_4
          rw [if_neg (fun z => by have := j_le z; omega), nI_n (by omega) (by omega), if_neg e, if_pos (Int32.lt_iff_toInt_lt.mpr (by omega))]
          exact k3
        · by_cases g : j = n
          · subst g; exact dL
          · exact k4 j (by omega) h'
        · obtain ⟨g, rfl⟩ : ∃ g, fs = g + 1 := ⟨fs - 1, by omega⟩
          have kk : (nI k).toInt = (k : Int) := nI_toInt (by omega)
          unfold R_X6_setAt_11
          rw [hk, if_neg (fun z => by have := j_le z; omega), nI_n (by omega) (by omega), ed, y3]
          exact k5 g (by omega) hk
        · rw [if_pos d]
          have : R_X8_readsTeam_13 s (fm + 1) v (R_X6_digitAt m (nI (a + n))) t = R_X8_readsTeam_13 s fm (R_X6_digitAt m (nI (a + n))) (R_X8_digit (upd t 1306 (nI y)) 5).1 (R_X8_digit (upd t 1306 (nI y)) 5).2 := by
            conv => lhs; unfold R_X8_readsTeam_13
            rw [if_neg e, h6, ed, y3]
          rw [this, s1]
          exact z6
    · rw [if_neg d] at hw
      rw [hw, if_pos rfl] at hp
      have dn : R_X6_digitAt m (nI (a + n)) = -1 ∨ 5 < (R_X6_digitAt m (nI (a + n))).toInt := by
        rcases dig_9 T (p := a + n) (by omega) with z | z
        · exact Or.inl z
        · exact Or.inr (by omega)
      refine ⟨n, x, Nat.le_refl _, by omega, ?_, fun j h h' => absurd h' (by omega), setstop, upd t 1304 (nI (a + n)), 0, g_upd_eq, ?_, r.upd (by omega), fun n h h' => g_upd_ne h, rfl, ?_⟩
      · unfold R_X6_digitsOfSet_4
        rw [nI_n (by omega) (by omega)]
        by_cases g : n = 6
        · subst g; rw [if_pos (by decide)]; rfl
        · rw [if_neg (fun z => by have := j_le z; omega)]
          rcases dn with z | z
          · rw [z, if_pos (Int32.le_iff_toInt_le.mpr (by omega))]
          · rw [if_neg (fun y => by have := j_le y; omega), if_neg (fun y => by have := j_lt y; omega)]
      · rw [g_upd_ne (by omega)]; exact h6
      · rw [if_neg d, if_neg d, team_stop (w := -1) (Int32.le_iff_toInt_le.mpr (by omega)) h6 ho (by omega) fm (p := a + n) (by omega) (by rw [if_pos rfl]; exact hp), if_pos rfl]
end SB
