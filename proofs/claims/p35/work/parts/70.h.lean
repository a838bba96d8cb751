/-! ===== class beside model: letting minutes pass ===== -/
section PH
variable {m s : Nat → Int32}
theorem g_E.hi (E : g_E m s) {n : Nat} {x : Int32} (h : 178 ≤ n) : g_E m (upd s n x) := ⟨E.L.hi h, J_hi h E.J, E.N.hi (by have := E.J.n; omega) (by omega) (by omega)⟩
theorem in_no {x a b : Int32} (h : R_X8_in s x a b = 0) : x.toInt < a.toInt ∨ b.toInt < x.toInt := by
  unfold R_X8_in at h
  by_cases c : x < a
  · exact Or.inl (j_lt c)
  · by_cases d : b < x
    · exact Or.inr (j_lt d)
    · rw [if_neg c, if_neg d] at h; exact absurd h (by decide)
theorem g_N.same {t : Nat → Int32} (N : g_N s) (h6 : (s 2).toInt ≤ 6) (h : ∀ n, n < 112 → n ≠ 3 → n ≠ 6 → n ≠ 7 → t n = s n) : g_N t := fun k hk hd => by
  rw [h 2 (by omega) (by omega) (by omega) (by omega)] at hk
  rw [h _ (by omega) (by omega) (by omega) (by omega)] at hd
  rw [h _ (by omega) (by omega) (by omega) (by omega)]
  exact N k hk hd
theorem min_loop {m0 s0 : Nat → Int32} {K : Nat → (Nat → Int32) → Int32 × (Nat → Int32)} {i : Nat} : ∀ (f k : Nat) (m s : Nat → Int32), g_E m s → (s 3).toInt < 100000 → k ≤ 6 → 6 < f + k →
    ∃ m', R_X0_letPass_18 m0 K i f k m = K (i + 1) m' ∧ g_L m' (R_X8_minute_2 s0 f k s).2 ∧ g_N (R_X8_minute_2 s0 f k s).2 ∧ m' 7 = m 7 + (R_X8_minute_2 s0 f k s).1 ∧ g_U m m'
  | 0, k, m, s, _, _, h, h' => absurd h' (by omega)
  | f + 1, k, m, s, E, h3, h, h' => by
    have hj := E.J.n
    have hc : (nI k).toInt = (k : Int) := nI_toInt (by omega)
    have m2 := E.lo (n := 2) (by omega)
    have m3 := E.lo (n := 3) (by omega)
    have m9 := E.lo (n := 9) (by omega)
    have m10 := E.lo (n := 10) (by omega)
    have h910 := E.J.1.2.2.2.2.2.2.2.1
    unfold R_X0_letPass_18 R_X8_minute_2 R_X0_letPass_61 R_X0_letPass_68
    rw [m2]
    by_cases a : s 2 ≤ nI k
    · simp only [if_pos a]
      by_cases b : R_X8_in s (s 3) (s 9) (s 10 - 1) = 0
      · have hs := j_sub1 (x := s 10) (by omega)
        have hk : ∀ i j : Nat, 0 ≤ i → (i : Int) < (s 6).toInt → j < 3 → m (112 + 3 * i + j) = s (112 + 3 * i + j) := fun i j _ hi2 hj2 => by
          have := E.ms (i := i) (j := j) hi2 hj2
          rwa [show 112 + j + 3 * i = 112 + 3 * i + j by omega] at this
        have hst := fun (i : Nat) (_ : 0 ≤ i) (hi2 : (i : Int) < (s 6).toInt) => (E.J.2.2.2.2 i hi2).1
        have hst' : ∀ i : Nat, 0 ≤ i → (i : Int) < (s 6).toInt → (1 : Int) ≤ (s (112 + 3 * i + 2)).toInt := fun i h0 hi2 => by
          have := hst i h0 hi2
          rwa [show 114 + 3 * i = 112 + 3 * i + 2 by omega] at this
        obtain ⟨m', v, e1, e2, e3, e7, eu, eL, eF⟩ := up_loop (s0 := s0) E b 11 0 0 m s (Nat.le_refl _) (by omega) (by omega) (fun _ _ => rfl) (fun _ _ => rfl) (fun i j hi => absurd hi (by omega)) hk hst'
        · have eK : (if m 3 < m 9 then K (i + 1) (upd (R_X3_goUp m) 3 (R_X3_goUp m 3 + 1)) else if m 3 < m 10 then K (i + 1) (upd m 3 (m 3 + 1)) else K (i + 1) (upd (R_X3_goUp m) 3 (R_X3_goUp m 3 + 1))) = K (i + 1) (upd (R_X3_goUp m) 3 (R_X3_goUp m 3 + 1)) := by
            rw [m3, m9, m10]
            by_cases c : s 3 < s 9
            · rw [if_pos c]
            · have c' := j_nlt c
              have hin := in_no b
              rw [if_neg c, if_neg (fun z => by have := j_lt z; omega)]
          rw [eK]
          have eg : R_X3_goUp m = m' := e1
          rw [eg, e3]
          refine ⟨_, rfl, eL, ?_, ?_, ?_⟩
          · exact g_N.same E.N (by omega) eF
          · rw [g_upd_ne (by omega), e7]
            exact congrArg _ e2.symm
          · exact eu.upd (by omega)
      · have hn := nz_X8_in b
        have hs := j_sub1 (x := s 10) (by omega)
        have eK : (if m 3 < m 9 then K (i + 1) (upd (R_X3_goUp m) 3 (R_X3_goUp m 3 + 1)) else if m 3 < m 10 then K (i + 1) (upd m 3 (m 3 + 1)) else K (i + 1) (upd (R_X3_goUp m) 3 (R_X3_goUp m 3 + 1))) = K (i + 1) (upd m 3 (m 3 + 1)) := by
          rw [m3, m9, m10, if_neg (fun z => by have := j_lt z; omega), if_pos (Int32.lt_iff_toInt_lt.mpr (by omega))]
        have e65 : R_X8_minute_65 s0 s 11 0 0 0 s = (0, upd (upd (upd s 6 (s 6)) 7 (s 7)) 3 (s 3 + 1)) := by
          unfold R_X8_minute_65 R_X8_minute_164 R_X8_minute_180
          simp only [if_neg b, ite_self]
          rw [g_upd_ne (show 7 ≠ 6 by omega), Int32.add_zero, g_upd_ne (show 3 ≠ 7 by omega), g_upd_ne (show 3 ≠ 6 by omega)]
        rw [eK, e65]
        refine ⟨_, rfl, ?_, ?_, ?_, ?_⟩
        · show g_L (upd m 3 (m 3 + 1)) (upd (upd (upd s 6 (s 6)) 7 (s 7)) 3 (s 3 + 1))
          intro n hn'
          by_cases e3 : n = 3
          · subst e3; rw [g_upd_eq, g_upd_eq, m3]
          rw [g_upd_ne e3, g_upd_ne e3]
          have hl : g_Lv s n := by
            refine hn'.congr ?_ ?_ ?_ ?_
            · rw [g_upd_ne (by omega), g_upd_ne (by omega), g_upd_ne (by omega)]
            · rw [g_upd_ne (by omega), g_upd_ne (by omega), g_upd_ne (by omega)]
            · rw [g_upd_ne (by omega), g_upd_ne (by omega), g_upd_eq]
            · rw [g_upd_ne (by omega), g_upd_ne (by omega), g_upd_ne (by omega)]
          by_cases e7 : n = 7
          · subst e7; rw [g_upd_eq]; exact E.L 7 hl
          rw [g_upd_ne e7]
          by_cases e6 : n = 6
          · subst e6; rw [g_upd_eq]; exact E.L 6 hl
          rw [g_upd_ne e6]
          exact E.L n hl
        · refine g_N.same E.N (by omega) (fun n h1 h2 h4 h5 => ?_)
          show upd (upd (upd s 6 (s 6)) 7 (s 7)) 3 (s 3 + 1) n = s n
          rw [g_upd_ne h2, g_upd_ne h5, g_upd_ne h4]
        · rw [g_upd_ne (by omega)]
          exact (Int32.add_zero _).symm
        · exact g_U.refl.upd (by omega)
    · have a' := j_nle a
      have hx := nI_clamp (n := k) (by omega)
      simp only [if_neg a]
      have E2 := E_minuteOf E (x := nI k) (by omega) (by omega)
      have F := F_minuteOf E.J (x := nI k) (by omega) (by omega)
      obtain ⟨m', e1, e2, e3, e4, e5⟩ := min_loop (m0 := m0) (s0 := s0) (K := K) (i := i) f (k + 1) _ _ E2 (by rw [F 3 (by omega) (by omega) (by omega) (by omega)]; exact h3) (by omega) (by omega)
      refine ⟨m', e1, e2, e3, ?_, ?_⟩
      · rw [e4, fr_X0_letMinutePass (by omega) (by omega) (by omega) (by omega)]
      · exact (U_lmp (by omega) (by rw [E.lo (by omega)]; omega) (by rw [E.lo (by omega)]; omega)).trans e5
theorem pass_loop {m0 s0 : Nat → Int32} {x : Int32} (hx : x.toInt ≤ 600) (hx0 : 0 ≤ x.toInt) : ∀ (f i : Nat) (m s : Nat → Int32), g_E m s → (i : Int) ≤ x.toInt → 600 < f + i → (s 3).toInt + x.toInt ≤ 100000 + i → m 7 = m0 7 + s 1303 →
    (R_X8_passes_35 s0 x f i s).1 = 0 ∧ g_E (R_X0_letPass_10 m0 x f i m).2 (R_X8_passes_35 s0 x f i s).2 ∧ (R_X0_letPass_10 m0 x f i m).1 = (R_X8_passes_35 s0 x f i s).2 1303 ∧ g_U m (R_X0_letPass_10 m0 x f i m).2
  | 0, i, m, s, _, h, h', _, _ => absurd h' (by omega)
  | f + 1, i, m, s, E, h, h', ht, h7 => by
    have hc : (nI i).toInt = (i : Int) := nI_toInt (by omega)
    unfold R_X0_letPass_10 R_X8_passes_35
    by_cases a : x ≤ nI i
    · rw [if_pos a, if_pos a]
      refine ⟨rfl, E, ?_, g_U.refl⟩
      show m 7 - m0 7 = s 1303
      rw [h7, Int32.add_comm, Int32.add_sub_cancel]
    · have a' := j_nle a
      rw [if_neg a, if_neg a]
      have h3 : (s 3).toInt < 100000 := by omega
      obtain ⟨m', e1, e2, e3, e4, e5⟩ := min_loop (m0 := m0) (s0 := s) (K := R_X0_letPass_10 m0 x f) (i := i) 7 0 m s E h3 (by omega) (by omega)
      have E2 : g_E m' (R_X8_minute s).2 := ⟨e2, J_minute E.J h3, e3⟩
      have ih := pass_loop (m0 := m0) (s0 := s0) hx hx0 f (i + 1) m' (upd (R_X8_minute s).2 1303 (s 1303 + (R_X8_minute s).1)) (E2.hi (by omega)) (by omega) (by omega) (by
        rw [g_upd_ne (by omega), t_minute E.J h3]; omega) (by
        rw [g_upd_eq, e4, h7, Int32.add_assoc]; rfl)
      rw [e1]
      exact ⟨ih.1, ih.2.1, ih.2.2.1, e5.trans ih.2.2.2⟩
theorem E_passes (E : g_E m s) (x : Int32) : g_Dd m s (R_X8_in s x 1 600 = 0) (R_X0_canPass m x) (R_X0_letPass m x) (R_X8_passes s x) := by
  have hj := E.J.n
  have m3 := E.lo (n := 3) (by omega)
  unfold R_X8_passes
  by_cases a : R_X8_in s x 1 600 = 0
  · exact Or.inl ⟨a, by rw [if_pos a]⟩
  · obtain ⟨a0, a1⟩ := nz_X8_in a
    have a0' : 1 ≤ x.toInt := a0
    have a1' : x.toInt ≤ 600 := a1
    have ha := j_add (x := s 3) (y := x) (by omega) (by omega)
    refine Or.inr ?_
    rw [if_neg a]
    unfold R_X0_canPass
    rw [m3]
    by_cases b : s 3 + x ≤ 100000
    · have b' : (s 3 + x).toInt ≤ 100000 := j_leR b rfl
      rw [if_pos b, if_neg (Int32.not_lt.mpr b)]
      have := pass_loop (m0 := m) (s0 := s) (x := x) a1' (by omega) 601 0 m (upd s 1303 0) (E.hi (by omega)) (by omega) (by omega) (by rw [g_upd_ne (by omega)]; omega) (by rw [g_upd_eq, Int32.add_zero])
      exact Or.inr ⟨a, by decide, this.1, this.2.1, this.2.2.1, this.2.2.2⟩
    · rw [if_neg b, if_pos (Int32.not_le.mp b)]
      exact Or.inl ⟨a, rfl, rfl⟩
end PH
