/-! ===== the other orders ===== -/
section QD
variable {m s : Nat → Int32} {pm : Nat → Nat}
theorem hold_lo {n : Nat} (h : n < 178) : R_X8_hold s n = s n := hold_ne (Or.inl (by omega))
theorem walk_nn {p : Int32} : ∀ (f n : Nat) (v : Int32), n ≤ 6 → 6 < f + n → (s 2).toInt ≤ 6 → 0 ≤ v.toInt → v.toInt ≤ n → 0 ≤ (R_X8_walkers_4 s p f v n).toInt ∧ (R_X8_walkers_4 s p f v n).toInt ≤ 7
  | 0, n, v, h, h', _, _, _ => absurd h' (by omega)
  | f + 1, n, v, h, h', h2, v0, v1 => by
    have hc : (nI n).toInt = (n : Int) := nI_toInt (by omega)
    unfold R_X8_walkers_4 R_X8_walkers_29
    split
    · omega
    · next a =>
      have a' := j_nle a
      split
      · have e := j_add (x := v) (y := 1) (by rw [j_1]; omega) (by rw [j_1]; omega)
        rw [j_1] at e
        exact walk_nn f (n + 1) _ (by omega) (by omega) h2 (by omega) (by omega)
      · rw [Int32.add_zero]
        exact walk_nn f (n + 1) _ (by omega) (by omega) h2 v0 (by omega)
theorem walk_z (h2 : (s 2).toInt ≤ 6) (p : Int32) : (R_X8_walkers s p ≤ 0) ↔ R_X8_walkers s p = 0 := by
  have := walk_nn (s := s) (p := p) 7 0 0 (by omega) (by omega) h2 (by decide) (by decide)
  refine ⟨fun z => ?_, fun z => by rw [z]; decide⟩
  have := j_leR z j_0
  refine Int32.toInt_inj.mp ?_
  rw [j_0]
  unfold R_X8_walkers at this ⊢
  omega
theorem canLay_eq (R : g_Rel m s pm) (x : Int32) : R_X0_canLay m x = if R_X8_isHelper s x = 0 then 0 else if R_X8_stands s x = 0 then 0 else if s (58 + 9 * x.toNatClampNeg + 5) = -1 then 0 else 1 := by
  unfold R_X0_canLay
  rw [E_stand R.E]
  by_cases a : R_X8_isHelper s x = 0
  · simp only [if_pos a, ↓reduceIte]
  · obtain ⟨h0, h1⟩ := isHelper_ne a
    have := j_nat h0
    rw [R.E.hp (j := 5) (by omega) (by omega)]
    simp only [if_neg a]
theorem Ref_lay (R : g_Rel m s pm) (x : Int32) : g_Ref ["java/lang/IndexOutOfBoundsException", "java/lang/IllegalStateException"] (R_X7_lay m pm x) (R_X8_lay s x) := by
  unfold R_X7_lay R_X8_lay R_X8_lay_34
  rw [canLay_eq R]
  by_cases a : R_X8_isHelper s x = 0
  · rw [if_pos ((bad_h' R x).mpr a), if_pos a]
    exact fail_s R (by decide +kernel) (by decide +kernel)
  rw [if_neg (mt (bad_h' R x).mp a), if_neg a, if_neg a]
  by_cases b : R_X8_stands s x = 0
  · rw [if_pos b, if_pos rfl, if_pos b]
    exact fail_s R (by decide +kernel) (by decide +kernel)
  rw [if_neg b, if_neg b]
  by_cases c : s (58 + 9 * x.toNatClampNeg + 5) = -1
  · rw [if_pos c, if_pos rfl, if_pos c]
    exact fail_s R (by decide +kernel) (by decide +kernel)
  rw [if_neg c, i10, if_neg c]
  obtain ⟨h0, h1⟩ := isHelper_ne a
  have hx := j_nat h0
  have hj := R.J.n
  have hp := R.J.2.2.1 x.toNatClampNeg (by omega)
  have hp5 := hp.2.2.1
  obtain ⟨e1, e2, e3⟩ := E_lay R.sE h0 (by rw [hold_lo (by omega)]; exact h1) (by rw [hold_lo (by omega)]; exact c) (by rw [hold_lo (by omega)]; exact stands_1 b)
  refine ends_ref R e1 (B_lay R.sB) e3 (fun n h1 h2 => ?_) ?_
  · rw [fr_leaves_hi (by rw [hold_lo (by omega)]; omega) (by rw [hold_lo (by omega)]; omega) (by omega) h1]
  · rw [e2, hold_lo (by omega)]
theorem canUnrig_eq (R : g_Rel m s pm) (x : Int32) : R_X0_canUnrig m x = if R_X8_isHelper s x = 0 then 0 else if R_X8_stands s x = 0 then 0 else if s (58 + 9 * x.toNatClampNeg + 5) = -1 then (if R_X8_isPassage s (s (58 + 9 * x.toNatClampNeg + 1)) = 0 then 0 else if s (27 + (s (58 + 9 * x.toNatClampNeg + 1)).toNatClampNeg) = -1 then 0 else if R_X8_walkers s (s (58 + 9 * x.toNatClampNeg + 1)) ≤ 0 then 1 else 0) else 0 := by
  unfold R_X0_canUnrig
  rw [E_stand R.E]
  by_cases a : R_X8_isHelper s x = 0
  · simp only [if_pos a, ↓reduceIte]
  · obtain ⟨h0, h1⟩ := isHelper_ne a
    have hx := j_nat h0
    have hj := R.J.n
    have hp := R.J.2.2.1 x.toNatClampNeg (by omega)
    have hp1 := hp.1
    rw [R.E.hp (j := 5) (by omega) (by omega), R.E.hp (j := 1) (by omega) (by omega), E_walkers R.E hp1.1]
    simp only [if_neg a]
    by_cases b : R_X8_stands s x = 0
    · simp only [if_pos b]
    simp only [if_neg b]
    by_cases c : s (58 + 9 * x.toNatClampNeg + 5) = -1
    · simp only [if_pos c]
      by_cases d : R_X8_isPassage s (s (58 + 9 * x.toNatClampNeg + 1)) = 0
      · unfold R_X4_ropeOf
        rw [E_has4 R.E]
        simp only [if_pos d, ↓reduceIte]
      · obtain ⟨p0, p1⟩ := isPassage_ne d
        rw [E_rope R.E p0 p1]
        simp only [if_neg d]
        by_cases e : R_X8_walkers s (s (58 + 9 * x.toNatClampNeg + 1)) = 0
        · simp only [if_pos e, if_pos ((walk_z (by omega) _).mpr e)]
        · simp only [if_neg e, if_neg (mt (walk_z (by omega) _).mp e)]
    · simp only [if_neg c]
theorem Ref_takeOff (R : g_Rel m s pm) (x : Int32) : g_Ref ["java/lang/IndexOutOfBoundsException", "java/lang/IllegalStateException"] (R_X7_takeOff m pm x) (R_X8_takeOff s x) := by
  unfold R_X7_takeOff R_X8_takeOff R_X8_takeOff_68
  rw [canUnrig_eq R]
  by_cases a : R_X8_isHelper s x = 0
  · rw [if_pos ((bad_h' R x).mpr a), if_pos a]
    exact fail_s R (by decide +kernel) (by decide +kernel)
  rw [if_neg (mt (bad_h' R x).mp a), if_neg a, if_neg a]
  by_cases b : R_X8_stands s x = 0
  · rw [if_pos b, if_pos rfl, if_pos b]
    exact fail_s R (by decide +kernel) (by decide +kernel)
  rw [if_neg b, if_neg b]
  by_cases c : s (58 + 9 * x.toNatClampNeg + 5) = -1
  case neg =>
    rw [if_neg c, if_pos rfl, if_neg c]
    exact fail_s R (by decide +kernel) (by decide +kernel)
  rw [if_pos c, if_pos c]
  obtain ⟨h0, h1⟩ := isHelper_ne a
  have hx := j_nat h0
  have hj := R.J.n
  have hp := R.J.2.2.1 x.toNatClampNeg (by omega)
  have hp1 := hp.1
  by_cases d : R_X8_isPassage s (s (58 + 9 * x.toNatClampNeg + 1)) = 0
  · rw [if_pos d, if_pos rfl, if_pos d]
    exact fail_s R (by decide +kernel) (by decide +kernel)
  obtain ⟨p0, p1⟩ := isPassage_ne d
  rw [if_neg d, if_neg d, s27 p0 (by omega)]
  by_cases e : s (27 + (s (58 + 9 * x.toNatClampNeg + 1)).toNatClampNeg) = -1
  · rw [if_pos e, if_pos rfl, if_pos e]
    exact fail_s R (by decide +kernel) (by decide +kernel)
  rw [if_neg e, if_neg e]
  by_cases f : R_X8_walkers s (s (58 + 9 * x.toNatClampNeg + 1)) ≤ 0
  · rw [if_pos f, i10, if_pos f]
    have q0 := j_nat p0
    have h27 := (R.J.2.1 (s (58 + 9 * x.toNatClampNeg + 1)).toNatClampNeg (by omega)).2.2
    have c' := j_ne e
    have c'' : (-1 : Int32).toInt = -1 := rfl
    have eh : R_X8_hold s (58 + 9 * x.toNatClampNeg + 1) = s (58 + 9 * x.toNatClampNeg + 1) := hold_lo (by omega)
    have e27 : R_X8_hold s (27 + (s (58 + 9 * x.toNatClampNeg + 1)).toNatClampNeg) = s (27 + (s (58 + 9 * x.toNatClampNeg + 1)).toNatClampNeg) := hold_lo (by omega)
    have z := E_unrig R.sE h0 (by rw [hold_lo (by omega)]; exact h1) (by rw [eh, hold_lo (by omega)]; exact p1) (by rw [eh, e27]; exact e) (by rw [hold_lo (by omega)]; exact stands_1 b)
    rw [eh, e27] at z
    rw [e27]
    obtain ⟨e1, e2, e3⟩ := z
    refine ends_ref R e1 (B_unrig R.sB) e3 (fun n h1 h2 => ?_) e2
    rw [fr_gives_hi (by omega) (by omega) (by omega) h1, g_upd_ne (by omega)]
  · rw [if_neg f, if_pos rfl, if_neg f]
    exact fail_s R (by decide +kernel) (by decide +kernel)
/-- the invariant when passages or the silence change -/
theorem J_p {t : Nat → Int32} (a : g_J s) (h : ∀ n, n < 178 → ¬ (9 ≤ n ∧ n ≤ 10) → ¬ (13 ≤ n ∧ n < 27) → t n = s n) (h9 : 0 ≤ (t 9).toInt ∧ (t 9).toInt ≤ (t 10).toInt ∧ (t 10).toInt ≤ 100000)
    (hp : ∀ p, p < 7 → (0 ≤ (t (13 + p)).toInt ∧ (t (13 + p)).toInt ≤ 60) ∧ 1 ≤ (t (20 + p)).toInt ∧ (t (20 + p)).toInt ≤ 30) : g_J t := by
  obtain ⟨h1, h2, h3, h4, h5⟩ := a
  have q2 : (s 2).toInt ≤ 6 := h1.2.2.1.2
  have q6 : (s 6).toInt ≤ 10 := h1.2.2.2.2.2.2.1.2
  have e2 := h 2 (by omega) (by omega) (by omega)
  refine ⟨?_, fun k hk => ?_, fun k hk => ?_, fun k k' hk hk' x y z => ?_, fun i hi => ?_⟩
  · rw [h 0 (by omega) (by omega) (by omega), h 1 (by omega) (by omega) (by omega), e2, h 3 (by omega) (by omega) (by omega), h 4 (by omega) (by omega) (by omega), h 5 (by omega) (by omega) (by omega), h 6 (by omega) (by omega) (by omega), h 12 (by omega) (by omega) (by omega)]
    obtain ⟨a0, a1, a2, a3, a4, a5, a6, a7, a8⟩ := h1
    exact ⟨a0, a1, a2, a3, a4, a5, a6, h9, a8⟩
  · rw [h (27 + k) (by omega) (by omega) (by omega), h 1 (by omega) (by omega) (by omega)]
    exact ⟨(hp k hk).1, (hp k hk).2, (h2 k hk).2.2⟩
  · rw [e2] at hk
    have := h3 k hk
    unfold g_Hp at this ⊢
    rw [h 0 (by omega) (by omega) (by omega), h 1 (by omega) (by omega) (by omega), h (58 + 9 * k + 1) (by omega) (by omega) (by omega), h (58 + 9 * k + 2) (by omega) (by omega) (by omega), h (58 + 9 * k + 3) (by omega) (by omega) (by omega), h (58 + 9 * k + 4) (by omega) (by omega) (by omega), h (58 + 9 * k + 5) (by omega) (by omega) (by omega), h (58 + 9 * k + 7) (by omega) (by omega) (by omega), h (58 + 9 * k + 8) (by omega) (by omega) (by omega)]
    exact this
  · rw [e2] at hk hk'
    rw [h _ (by omega) (by omega) (by omega)] at x y
    rw [h (58 + 9 * k + 1) (by omega) (by omega) (by omega), h (58 + 9 * k' + 1) (by omega) (by omega) (by omega)] at z
    exact h4 k k' hk hk' x y z
  · rw [h 6 (by omega) (by omega) (by omega)] at hi
    rw [h _ (by omega) (by omega) (by omega)]
    exact h5 i hi
theorem Ref_setPassage (R : g_Rel m s pm) (x y z : Int32) : g_Ref ["java/lang/IndexOutOfBoundsException", "java/lang/IllegalArgumentException", "java/lang/IllegalStateException"] (R_X7_setPassage m pm x y z) (R_X8_setPassage s x y z) := by
  unfold R_X7_setPassage R_X8_setPassage R_X8_setPassage_34 R_X8_setPassage_70
  by_cases a : R_X8_isPassage s x = 0
  · rw [if_pos ((bad_p R x).mpr a), if_pos a]
    exact fail_s R (by decide +kernel) (by decide +kernel)
  rw [if_neg (mt (bad_p R x).mp a), if_neg a]
  by_cases b : R_X8_in s y 0 60 = 0
  · rw [if_pos ((bad_in s y 0 60).mpr b), if_pos b]
    exact fail_s R (by decide +kernel) (by decide +kernel)
  rw [if_neg (mt (bad_in s y 0 60).mp b), if_neg b]
  by_cases c : R_X8_in s z 1 30 = 0
  · rw [if_pos ((bad_in s z 1 30).mpr c), if_pos c]
    exact fail_s R (by decide +kernel) (by decide +kernel)
  rw [if_neg (mt (bad_in s z 1 30).mp c), if_neg c]
  obtain ⟨h0, h1⟩ := isPassage_ne a
  have hx := j_nat h0
  have hj := R.J.n
  rw [E_inUse R.E h0 h1, s27 h0 (by omega)]
  unfold R_X7_setPassage_44
  by_cases d : s (27 + x.toNatClampNeg) = -1
  case neg =>
    rw [if_neg d, if_neg (by decide), if_pos rfl, if_neg d]
    exact fail_s R (by decide +kernel) (by decide +kernel)
  rw [if_pos d, if_pos d]
  by_cases e : R_X8_rigger s x = -1
  case neg =>
    rw [if_neg e, if_neg (by decide), if_pos rfl, if_neg e]
    exact fail_s R (by decide +kernel) (by decide +kernel)
  rw [if_pos e, if_pos e]
  by_cases f : R_X8_walkers s x ≤ 0
  case neg =>
    rw [if_neg f, if_neg (by decide), if_pos rfl, if_neg f]
    exact fail_s R (by decide +kernel) (by decide +kernel)
  rw [if_pos f, if_pos rfl, if_neg (by decide), if_pos f, s13 h0 (by omega), s20 h0 (by omega)]
  obtain ⟨b0, b1⟩ := nz_X8_in b
  obtain ⟨c0, c1⟩ := nz_X8_in c
  have b0' : 0 ≤ y.toInt := b0
  have b1' : y.toInt ≤ 60 := b1
  have c0' : 1 ≤ z.toInt := c0
  have c1' : z.toInt ≤ 30 := c1
  have E := R.sE
  have hh : ∀ n, n < 178 → R_X8_hold s n = s n := fun n h => hold_lo h
  have ec : R_X4_change (R_X7_save m pm).1 x y z = upd (upd (R_X7_save m pm).1 (13 + x.toNatClampNeg) y) (20 + x.toNatClampNeg) z := by
    unfold R_X4_change
    rw [if_neg (has4_1 E h0 (by rw [hh 0 (by omega)]; exact h1))]
  rw [ec]
  have J' : g_J (upd (upd (R_X8_hold s) (13 + x.toNatClampNeg) y) (20 + x.toNatClampNeg) z) := by
    refine J_p R.hJ (fun n h1 h2 h3 => ?_) ?_ (fun p hp => ?_)
    · rw [g_upd_ne (by omega), g_upd_ne (by omega)]
    · rw [g_upd_ne (by omega), g_upd_ne (by omega), g_upd_ne (by omega), g_upd_ne (by omega)]
      exact R.hJ.1.2.2.2.2.2.2.2.1
    · have o := R.hJ.2.1 p hp
      by_cases q : p = x.toNatClampNeg
      · subst q
        rw [g_upd_ne (by omega), g_upd_eq, g_upd_eq]
        exact ⟨⟨b0', b1'⟩, c0', c1'⟩
      · rw [g_upd_ne (by omega), g_upd_ne (by omega), g_upd_ne (by omega), g_upd_ne (by omega)]
        exact ⟨o.1, o.2.1⟩
  have h6 : (R_X8_hold s 2).toInt ≤ 6 := by rw [hh 2 (by omega)]; omega
  refine ends_ref R ⟨(E.L.both (by omega) (by omega) (by omega) (by omega)).both (by omega) (by omega) (by omega) (by omega), J', (E.N.hi h6 (by omega) (by omega)).hi (by rw [g_upd_ne (by omega)]; exact h6) (by omega) (by omega)⟩ ((R.sB.no (by omega)).no (by omega)) ((g_U.refl.upd (by omega)).upd (by omega)) ((g_Up.refl.upd (by omega)).upd (by omega)) ?_
  rw [E_drop R.E h0 h1, g_upd_ne (by omega), g_upd_ne (by omega), hold_at, if_pos (by omega)]
  exact congrArg s (by omega)
theorem Ref_setSilence (R : g_Rel m s pm) (x y : Int32) : g_Ref ["java/lang/IllegalArgumentException"] (R_X7_setSilence m pm x y) (R_X8_setSilence s x y) := by
  unfold R_X7_setSilence R_X8_setSilence R_X8_setSilence_20
  by_cases b : R_X8_in s x 0 100000 = 0
  · rw [if_pos ((bad_in s x 0 100000).mpr b), if_pos b]
    exact fail_s R (by decide +kernel) (by decide +kernel)
  rw [if_neg (mt (bad_in s x 0 100000).mp b), if_neg b]
  by_cases c : R_X8_in s y x 100000 = 0
  · rw [if_pos ((bad_in s y x 100000).mpr c), if_pos c]
    exact fail_s R (by decide +kernel) (by decide +kernel)
  rw [if_neg (mt (bad_in s y x 100000).mp c), if_neg c]
  obtain ⟨b0, b1⟩ := nz_X8_in b
  obtain ⟨c0, c1⟩ := nz_X8_in c
  have b0' : 0 ≤ x.toInt := b0
  have c1' : y.toInt ≤ 100000 := c1
  have E := R.sE
  have hj := R.J.n
  have J' : g_J (upd (upd (R_X8_hold s) 9 x) 10 y) := by
    refine J_p R.hJ (fun n h1 h2 h3 => ?_) ?_ (fun p hp => ?_)
    · rw [g_upd_ne (by omega), g_upd_ne (by omega)]
    · rw [g_upd_ne (by omega), g_upd_eq, g_upd_eq]
      exact ⟨b0', c0, c1'⟩
    · have o := R.hJ.2.1 p hp
      rw [g_upd_ne (by omega), g_upd_ne (by omega), g_upd_ne (by omega), g_upd_ne (by omega)]
      exact ⟨o.1, o.2.1⟩
  have h6 : (R_X8_hold s 2).toInt ≤ 6 := by rw [hold_lo (by omega)]; omega
  have E' : g_E (upd (upd (R_X7_save m pm).1 9 x) 10 y) (upd (upd (R_X8_hold s) 9 x) 10 y) := ⟨(E.L.both (by omega) (by omega) (by omega) (by omega)).both (by omega) (by omega) (by omega) (by omega), J', (E.N.hi h6 (by omega) (by omega)).hi (by rw [g_upd_ne (by omega)]; exact h6) (by omega) (by omega)⟩
  have B' : g_B7 (upd (upd (R_X7_save m pm).1 9 x) 10 y) := (R.sB.no (by omega)).no (by omega)
  have u' : g_U (R_X7_save m pm).1 (upd (upd (R_X7_save m pm).1 9 x) 10 y) := (g_U.refl.upd (by omega)).upd (by omega)
  have v' : g_Up (R_X8_hold s) (upd (upd (R_X8_hold s) 9 x) 10 y) := (g_Up.refl.upd (by omega)).upd (by omega)
  have e' : m 10 = upd (upd (R_X8_hold s) 9 x) 10 y 210 := by
    rw [R.E.lo (by omega), g_upd_ne (by omega), g_upd_ne (by omega), hold_at, if_pos (by omega)]
  have h := ends_ref (hs := ["java/lang/IllegalArgumentException"]) R E' B' u' v' e'
  generalize R_X8_ends (upd (upd (R_X8_hold s) 9 x) 10 y) (upd (upd (R_X8_hold s) 9 x) 10 y 210) = w at h ⊢
  exact h
end QD
