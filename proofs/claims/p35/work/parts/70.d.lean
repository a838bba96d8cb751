/-! ===== class beside model: rigging, messages ===== -/
section PD
variable {m s : Nat → Int32}
theorem E_rigsAt (E : g_E m s) (x : Int32) : g_Dd m s (R_X8_isHelper s x = 0) (R_X0_canRig m x) (R_X0_startRig m x) (R_X8_rigsAt s x) := by
  have hj := E.J.n
  have JG := J_rigsAt (x1 := x) E.J
  unfold R_X8_rigsAt at JG ⊢
  by_cases a : R_X8_isHelper s x = 0
  · exact Or.inl ⟨a, by rw [if_pos a]⟩
  · obtain ⟨h0, h1⟩ := isHelper_ne a
    have hx := j_nat h0
    have hp := E.J.2.2.1 x.toNatClampNeg (by omega)
    have hp1 := hp.1
    have hp5 := hp.2.2.1
    refine Or.inr ?_
    rw [if_neg a] at JG ⊢
    have e0 : R_X0_canRig m x = if R_X8_stands s x = 0 then 0 else (if s (58 + 9 * x.toNatClampNeg + 5) = -1 then 0 else (if R_X4_isPitch m (s (58 + 9 * x.toNatClampNeg + 1)) = 0 then 0 else (if R_X4_ropeOf m (s (58 + 9 * x.toNatClampNeg + 1)) = -1 then (if R_X8_rigger s (s (58 + 9 * x.toNatClampNeg + 1)) = -1 then (if R_X5_holds m (s (58 + 9 * x.toNatClampNeg + 5)) (R_X4_dropOf m (s (58 + 9 * x.toNatClampNeg + 1))) = 0 then 0 else (if R_X8_isInTime s x (s (58 + 9 * x.toNatClampNeg + 1)) 10 = 0 then 0 else 1)) else 0) else 0))) := by
      unfold R_X0_canRig R_X0_canLay
      rw [E_stand E, if_neg a, E.hp (j := 5) (by omega) (by omega), E.hp (j := 1) (by omega) (by omega), E_rigger E, E_inTime E h0 h1 (by omega)]
      by_cases b : R_X8_stands s x = 0
      · simp only [if_pos b, ↓reduceIte]
      · by_cases c : s (58 + 9 * x.toNatClampNeg + 5) = -1
        · simp only [if_neg b, if_pos c, ↓reduceIte]
        · simp only [if_neg b, if_neg c, i10]
    by_cases b : R_X8_stands s x = 0
    · rw [if_pos b]
      exact Or.inl ⟨a, by rw [e0, if_pos b], rfl⟩
    rw [if_neg b] at JG ⊢
    by_cases c : s (58 + 9 * x.toNatClampNeg + 5) = -1
    · rw [if_pos c]
      exact Or.inl ⟨a, by rw [e0, if_neg b, if_pos c], rfl⟩
    rw [if_neg c] at JG ⊢
    have c' := j_ne c
    have c'' : (-1 : Int32).toInt = -1 := rfl
    by_cases d : R_X8_isPassage s (s (58 + 9 * x.toNatClampNeg + 1)) = 0
    · rw [if_pos d]
      refine Or.inl ⟨a, ?_, rfl⟩
      rw [e0, if_neg b, if_neg c]
      unfold R_X4_isPitch
      rw [E_has4 E, if_pos d]
      rfl
    rw [if_neg d] at JG ⊢
    obtain ⟨p0, p1⟩ := isPassage_ne d
    have hq := j_nat p0
    have hd := (E.J.2.1 (s (58 + 9 * x.toNatClampNeg + 1)).toNatClampNeg (by omega)).1
    have ho : R_X5_holds m (s (58 + 9 * x.toNatClampNeg + 5)) (R_X4_dropOf m (s (58 + 9 * x.toNatClampNeg + 1))) = R_X8_holdsAt s (s (58 + 9 * x.toNatClampNeg + 5)) (s (58 + 9 * x.toNatClampNeg + 1)) := by
      have q5 := j_nat (x := s (58 + 9 * x.toNatClampNeg + 5)) (by omega)
      unfold R_X5_holds R_X8_holdsAt
      rw [if_neg (has5_1 E (by omega) (by omega)), E_drop E p0 p1, E.r0 (by omega), sr0 (by omega) (by omega), s13 p0 (by omega)]
    have e1 : R_X0_canRig m x = if R_X8_isShut s (s (58 + 9 * x.toNatClampNeg + 1)) = 0 then 0 else (if R_X8_rigger s (s (58 + 9 * x.toNatClampNeg + 1)) = -1 then (if R_X8_holdsAt s (s (58 + 9 * x.toNatClampNeg + 5)) (s (58 + 9 * x.toNatClampNeg + 1)) = 0 then 0 else (if R_X8_isInTime s x (s (58 + 9 * x.toNatClampNeg + 1)) 10 = 0 then 0 else 1)) else 0) := by
      rw [e0, if_neg b, if_neg c, ho, E_pitch E p0 p1, E_rope E p0 p1]
      unfold R_X8_isShut
      rw [s13 p0 (by omega), s27 p0 (by omega)]
      by_cases k1 : s (13 + (s (58 + 9 * x.toNatClampNeg + 1)).toNatClampNeg) ≤ 0
      · simp only [if_pos k1, ↓reduceIte]
      · by_cases k2 : s (27 + (s (58 + 9 * x.toNatClampNeg + 1)).toNatClampNeg) = -1
        · simp only [if_neg k1, if_pos k2, i10]
        · simp only [if_neg k1, if_neg k2, i10, ↓reduceIte]
    by_cases d2 : R_X8_isShut s (s (58 + 9 * x.toNatClampNeg + 1)) = 0
    · rw [if_pos d2]
      exact Or.inl ⟨a, by rw [e1, if_pos d2], rfl⟩
    rw [if_neg d2] at JG ⊢
    by_cases d3 : R_X8_rigger s (s (58 + 9 * x.toNatClampNeg + 1)) = -1
    · rw [if_pos d3] at JG ⊢
      by_cases d4 : R_X8_holdsAt s (s (58 + 9 * x.toNatClampNeg + 5)) (s (58 + 9 * x.toNatClampNeg + 1)) = 0
      · rw [if_pos d4]
        exact Or.inl ⟨a, by rw [e1, if_neg d2, if_pos d3, if_pos d4], rfl⟩
      rw [if_neg d4] at JG ⊢
      by_cases d5 : R_X8_isInTime s x (s (58 + 9 * x.toNatClampNeg + 1)) 10 = 0
      · rw [if_pos d5]
        exact Or.inl ⟨a, by rw [e1, if_neg d2, if_pos d3, if_neg d4, if_pos d5], rfl⟩
      rw [if_neg d5] at JG ⊢
      refine Or.inr ⟨a, by rw [e1, if_neg d2, if_pos d3, if_neg d4, if_neg d5]; decide, rfl, ⟨?_, JG, ?_⟩, ?_, ?_⟩
      · exact ((E.L.both (by omega) (by omega) (by omega) (by omega)).both (by omega) (by omega) (by omega) (by omega)).hi (by omega)
      · show g_N (upd (upd (upd s (58 + 9 * x.toNatClampNeg + 2) 2) (58 + 9 * x.toNatClampNeg + 4) 10) 1303 _)
        intro k hk hdk
        rw [g_upd_ne (by omega), g_upd_ne (by omega), g_upd_ne (by omega)] at hk
        rw [g_upd_ne (by omega), g_upd_ne (by omega), g_upd_ne (by omega)]
        rw [g_upd_ne (by omega), g_upd_ne (by omega)] at hdk
        refine E.N k hk ?_
        by_cases e : k = x.toNatClampNeg
        · rw [e, stands_1 b]; decide
        · rw [g_upd_ne (by omega)] at hdk; exact hdk
      · show upd (upd m (58 + 9 * x.toNatClampNeg + 2) 2) (58 + 9 * x.toNatClampNeg + 4) 10 (58 + 9 * x.toNatClampNeg + 1) = upd (upd (upd s (58 + 9 * x.toNatClampNeg + 2) 2) (58 + 9 * x.toNatClampNeg + 4) 10) 1303 (s (58 + 9 * x.toNatClampNeg + 1)) 1303
        rw [g_upd_eq, g_upd_ne (by omega), g_upd_ne (by omega), E.hp (j := 1) (by omega) (by omega)]
      · show g_U m (upd (upd m _ 2) _ 10)
        exact (g_U.refl.upd (by omega)).upd (by omega)
    · rw [if_neg d3]
      exact Or.inl ⟨a, by rw [e1, if_neg d2, if_neg d3], rfl⟩
theorem sm0 {k : Int32} (h0 : 0 ≤ k.toInt) (h1 : k.toInt ≤ 10) : (112 + 3 * k).toNatClampNeg = 112 + 3 * k.toNatClampNeg := by
  have h := ix_msg (k := k.toNatClampNeg) (j := 0) (by have := j_nat h0; omega) (by omega) (w := 0) rfl
  rw [← j_nI h0, Int32.add_zero] at h
  exact h
theorem sm1 {k : Int32} (h0 : 0 ≤ k.toInt) (h1 : k.toInt ≤ 10) : ((112 + 3 * k) + 1).toNatClampNeg = 113 + 3 * k.toNatClampNeg := by
  have h := ix_msg (k := k.toNatClampNeg) (j := 1) (by have := j_nat h0; omega) (by omega) (w := 1) rfl
  rw [← j_nI h0] at h
  omega
theorem sm2 {k : Int32} (h0 : 0 ≤ k.toInt) (h1 : k.toInt ≤ 10) : ((112 + 3 * k) + 2).toNatClampNeg = 114 + 3 * k.toNatClampNeg := by
  have h := ix_msg (k := k.toNatClampNeg) (j := 2) (by have := j_nat h0; omega) (by omega) (w := 2) rfl
  rw [← j_nI h0] at h
  omega
/-- one more message -/
theorem msg_L (L : g_L m s) {a b c n6 : Int32} {k : Nat} (hk : (k : Int) = (s 6).toInt) (h6 : n6.toInt = (s 6).toInt + 1) (hk9 : k < 10) : g_L (upd (upd (upd (upd m (112 + 3 * k) a) (113 + 3 * k) b) (114 + 3 * k) c) 6 n6) (upd (upd (upd (upd s (112 + 3 * k) a) (113 + 3 * k) b) (114 + 3 * k) c) 6 n6) := by
  intro n hn
  by_cases e6 : n = 6
  · subst e6; rw [g_upd_eq, g_upd_eq]
  rw [g_upd_ne e6, g_upd_ne e6]
  by_cases e1 : n = 114 + 3 * k
  · rw [e1, g_upd_eq, g_upd_eq]
  rw [g_upd_ne e1, g_upd_ne e1]
  by_cases e2 : n = 113 + 3 * k
  · rw [e2, g_upd_eq, g_upd_eq]
  rw [g_upd_ne e2, g_upd_ne e2]
  by_cases e3 : n = 112 + 3 * k
  · rw [e3, g_upd_eq, g_upd_eq]
  rw [g_upd_ne e3, g_upd_ne e3]
  refine L n ?_
  unfold g_Lv at hn ⊢
  rw [g_upd_ne (by omega), g_upd_ne (by omega), g_upd_ne (by omega), g_upd_ne (by omega), g_upd_ne (by omega), g_upd_ne (by omega), g_upd_ne (by omega), g_upd_ne (by omega), g_upd_eq, g_upd_ne (by omega), g_upd_ne (by omega), g_upd_ne (by omega), g_upd_ne (by omega)] at hn
  omega
theorem E_sends (E : g_E m s) (x : Int32) : g_Dd m s (R_X8_isHelper s x = 0) (R_X0_canSend m x) ((R_X0_sendFrom m x) 6, R_X0_sendFrom m x) (R_X8_sends s x) := by
  have hj := E.J.n
  have JG := J_sends (x1 := x) E.J
  unfold R_X8_sends at JG ⊢
  by_cases a : R_X8_isHelper s x = 0
  · exact Or.inl ⟨a, by rw [if_pos a]⟩
  · obtain ⟨h0, h1⟩ := isHelper_ne a
    have hx := j_nat h0
    have hp := E.J.2.2.1 x.toNatClampNeg (by omega)
    have hp1 := hp.1
    refine Or.inr ?_
    rw [if_neg a] at JG ⊢
    have e0 : R_X0_canSend m x = if R_X8_stands s x = 0 then 0 else (if s 6 < 10 then 1 else (if s (58 + 9 * x.toNatClampNeg + 1) = 0 then 1 else 0)) := by
      unfold R_X0_canSend
      rw [E_stand E, if_neg a, E.hp (j := 1) (by omega) (by omega), E.lo (n := 6) (by omega)]
    by_cases b : R_X8_stands s x = 0
    · rw [if_pos b]
      exact Or.inl ⟨a, by rw [e0, if_pos b], rfl⟩
    rw [if_neg b] at JG ⊢
    have m6 := E.lo (n := 6) (by omega)
    have q6 := j_nat (x := s 6) (by omega)
    by_cases c : s (58 + 9 * x.toNatClampNeg + 1) = 0
    · have c1 : s (58 + 9 * x.toNatClampNeg + 1) ≤ 0 := by rw [c]; decide
      have e43 : R_X8_sends_43 s x = (0, upd (upd s 7 (s 7 + 1)) 1303 (upd s 7 (s 7 + 1) 6)) := by
        unfold R_X8_sends_43 R_X8_sends_115
        rw [if_pos c]
      rw [if_pos c1, e43] at JG ⊢
      have es : R_X0_sendFrom m x = upd m 7 (s 7 + 1) := by
        unfold R_X0_sendFrom
        rw [E.hp (j := 1) (by omega) (by omega), if_pos c, E.lo (n := 7) (by omega)]
      rw [es]
      refine Or.inr ⟨a, by rw [e0, if_neg b, if_pos c, ite_self]; decide, rfl, ⟨?_, JG, ?_⟩, ?_, ?_⟩
      · exact (E.L.both (by omega) (by omega) (by omega) (by omega)).hi (by omega)
      · exact (E.N.hi (by omega) (by omega) (by omega)).hi (by rw [g_upd_ne (by omega)]; omega) (by omega) (by omega)
      · show upd m 7 (s 7 + 1) 6 = upd (upd s 7 (s 7 + 1)) 1303 (upd s 7 (s 7 + 1) 6) 1303
        rw [g_upd_eq, g_upd_ne (by omega), g_upd_ne (by omega), m6]
      · exact g_U.refl.upd (by omega)
    · have c1 : ¬ s (58 + 9 * x.toNatClampNeg + 1) ≤ 0 := fun z => c (Int32.toInt_inj.mp (by have : (s (58 + 9 * x.toNatClampNeg + 1)).toInt ≤ 0 := j_leR z rfl; rw [j_0]; omega))
      rw [if_neg c1] at JG ⊢
      by_cases d : s 6 = 10
      · rw [if_pos d]
        exact Or.inl ⟨a, by rw [e0, if_neg b, if_neg (show ¬ s 6 < 10 by rw [d]; decide), if_neg c], rfl⟩
      · have d' : (s 6).toInt ≠ 10 := j_neR d rfl
        have d2 : s 6 < 10 := Int32.lt_iff_toInt_lt.mpr (by rw [show (10 : Int32).toInt = 10 from rfl]; omega)
        rw [if_neg d] at JG ⊢
        have e43 : R_X8_sends_43 s x = (0, upd (upd (upd (upd (upd s (112 + 3 * (s 6).toNatClampNeg) x) (113 + 3 * (s 6).toNatClampNeg) (s 3)) (114 + 3 * (s 6).toNatClampNeg) (s (58 + 9 * x.toNatClampNeg + 1))) 6 (s 6 + 1)) 1303 (s 6 + 1)) := by
          unfold R_X8_sends_43 R_X8_sends_115
          rw [if_neg c, sm0 (by omega) (by omega), sm1 (by omega) (by omega), sm2 (by omega) (by omega), g_upd_ne (show 3 ≠ 112 + 3 * (s 6).toNatClampNeg by omega), g_upd_ne (show 6 ≠ 114 + 3 * (s 6).toNatClampNeg by omega), g_upd_ne (show 6 ≠ 113 + 3 * (s 6).toNatClampNeg by omega), g_upd_ne (show 6 ≠ 112 + 3 * (s 6).toNatClampNeg by omega), g_upd_eq]
        have es : R_X0_sendFrom m x = upd (upd (upd (upd m (112 + 3 * (s 6).toNatClampNeg) x) (113 + 3 * (s 6).toNatClampNeg) (s 3)) (114 + 3 * (s 6).toNatClampNeg) (s (58 + 9 * x.toNatClampNeg + 1))) 6 (s 6 + 1) := by
          unfold R_X0_sendFrom R_X3_add R_X3_set
          rw [E.hp (j := 1) (by omega) (by omega), if_neg c, m6, E.lo (n := 3) (by omega), if_neg (Int32.not_le.mpr d2), g_upd_ne (show 6 ≠ 114 + 3 * (s 6).toNatClampNeg by omega), g_upd_ne (show 6 ≠ 113 + 3 * (s 6).toNatClampNeg by omega), g_upd_ne (show 6 ≠ 112 + 3 * (s 6).toNatClampNeg by omega), m6]
        rw [e43] at JG ⊢
        rw [es]
        refine Or.inr ⟨a, by rw [e0, if_neg b, if_pos d2]; decide, rfl, ⟨?_, JG, ?_⟩, ?_, ?_⟩
        · exact (msg_L E.L (by omega) (j_add1 (by omega)) (by omega)).hi (by omega)
        · have n2 : ∀ (t : Nat → Int32) (k : Nat) (v : Int32), (t 2).toInt ≤ 6 → k ≠ 2 → (upd t k v 2).toInt ≤ 6 := fun t k v h hk => by rw [g_upd_ne hk.symm]; exact h
          have z0 : (s 2).toInt ≤ 6 := by omega
          have z1 := n2 s (112 + 3 * (s 6).toNatClampNeg) x z0 (by omega)
          have z2 := n2 _ (113 + 3 * (s 6).toNatClampNeg) (s 3) z1 (by omega)
          have z3 := n2 _ (114 + 3 * (s 6).toNatClampNeg) (s (58 + 9 * x.toNatClampNeg + 1)) z2 (by omega)
          have z4 := n2 _ 6 (s 6 + 1) z3 (by omega)
          exact ((((E.N.hi z0 (by omega) (by omega)).hi z1 (by omega) (by omega)).hi z2 (by omega) (by omega)).hi z3 (by omega) (by omega)).hi z4 (by omega) (by omega)
        · have q1 : upd (upd (upd (upd (upd s (112 + 3 * (s 6).toNatClampNeg) x) (113 + 3 * (s 6).toNatClampNeg) (s 3)) (114 + 3 * (s 6).toNatClampNeg) (s (58 + 9 * x.toNatClampNeg + 1))) 6 (s 6 + 1)) 1303 (s 6 + 1) 1303 = s 6 + 1 := g_upd_eq
          have q2 : (upd (upd (upd (upd m (112 + 3 * (s 6).toNatClampNeg) x) (113 + 3 * (s 6).toNatClampNeg) (s 3)) (114 + 3 * (s 6).toNatClampNeg) (s (58 + 9 * x.toNatClampNeg + 1))) 6 (s 6 + 1)) 6 = s 6 + 1 := g_upd_eq
          exact Eq.trans q2 q1.symm
        · exact (((g_U.refl.upd (by omega)).upd (by omega)).upd (by omega)).upd (by omega)
end PD
