/-! ===== adding, beginning, undoing ===== -/
section QE
variable {m s : Nat → Int32} {pm : Nat → Nat}
theorem J_rope {t : Nat → Int32} (a : g_J s) (h : ∀ n, n < 178 → n ≠ 1 → ¬ (34 ≤ n ∧ n < 58) → t n = s n) (h1 : (s 1).toInt ≤ (t 1).toInt ∧ (t 1).toInt ≤ 8) : g_J t := by
  obtain ⟨k1, k2, k3, k4, k5⟩ := a
  have q2 : (s 2).toInt ≤ 6 := k1.2.2.1.2
  have q6 : (s 6).toInt ≤ 10 := k1.2.2.2.2.2.2.1.2
  have e2 := h 2 (by omega) (by omega) (by omega)
  refine ⟨?_, fun k hk => ?_, fun k hk => ?_, fun k k' hk hk' x y z => ?_, fun i hi => ?_⟩
  · rw [h 0 (by omega) (by omega) (by omega), e2, h 3 (by omega) (by omega) (by omega), h 4 (by omega) (by omega) (by omega), h 5 (by omega) (by omega) (by omega), h 6 (by omega) (by omega) (by omega), h 9 (by omega) (by omega) (by omega), h 10 (by omega) (by omega) (by omega), h 12 (by omega) (by omega) (by omega)]
    obtain ⟨a0, a1, a2, a3, a4, a5, a6, a7, a8⟩ := k1
    exact ⟨a0, ⟨by omega, h1.2⟩, a2, a3, a4, a5, a6, a7, a8⟩
  · have := k2 k hk
    rw [h (13 + k) (by omega) (by omega) (by omega), h (20 + k) (by omega) (by omega) (by omega), h (27 + k) (by omega) (by omega) (by omega)]
    exact ⟨this.1, this.2.1, this.2.2.1, by omega⟩
  · rw [e2] at hk
    have := k3 k hk
    unfold g_Hp at this ⊢
    rw [h 0 (by omega) (by omega) (by omega), h (58 + 9 * k + 1) (by omega) (by omega) (by omega), h (58 + 9 * k + 2) (by omega) (by omega) (by omega), h (58 + 9 * k + 3) (by omega) (by omega) (by omega), h (58 + 9 * k + 4) (by omega) (by omega) (by omega), h (58 + 9 * k + 5) (by omega) (by omega) (by omega), h (58 + 9 * k + 7) (by omega) (by omega) (by omega), h (58 + 9 * k + 8) (by omega) (by omega) (by omega)]
    obtain ⟨b1, b2, b3, b4, b5, b6⟩ := this
    exact ⟨b1, b2, ⟨b3.1, by omega⟩, b4, b5, b6⟩
  · rw [e2] at hk hk'
    rw [h _ (by omega) (by omega) (by omega)] at x y
    rw [h (58 + 9 * k + 1) (by omega) (by omega) (by omega), h (58 + 9 * k' + 1) (by omega) (by omega) (by omega)] at z
    exact k4 k k' hk hk' x y z
  · rw [h 6 (by omega) (by omega) (by omega)] at hi
    rw [h _ (by omega) (by omega) (by omega)]
    exact k5 i hi
theorem E_addRope (E : g_E m s) {x : Int32} (h8 : (s 1).toInt < 8) : g_E (R_X5_addOne m x).2 (upd (upd (upd (upd s (34 + 3 * (s 1).toNatClampNeg) x) (35 + 3 * (s 1).toNatClampNeg) 0) (36 + 3 * (s 1).toNatClampNeg) 0) 1 (s 1 + 1)) ∧ (R_X5_addOne m x).1 = s 1 ∧ g_U m (R_X5_addOne m x).2 := by
  have hj := E.J.n
  have h1 := E.lo (n := 1) (by omega)
  have q1 := j_nat (x := s 1) (by omega)
  have ea := j_add (x := s 1) (y := 1) (by rw [j_1]; omega) (by rw [j_1]; omega)
  rw [j_1] at ea
  have c8 : (8 : Int32).toInt = 8 := rfl
  have e : R_X5_addOne m x = (s 1, upd (upd (upd (upd m (34 + 3 * (s 1).toNatClampNeg) x) 1 (s 1 + 1)) (35 + 3 * (s 1).toNatClampNeg) 0) (36 + 3 * (s 1).toNatClampNeg) 0) := by
    unfold R_X5_addOne R_X5_put R_X5_has
    rw [h1, if_pos (Int32.lt_iff_toInt_lt.mpr (by omega))]
    simp (disch := omega) only [g_upd_ne, g_upd_eq]
    have hz : ¬ (if s 1 < 0 then (0 : Int32) else if s 1 + 1 ≤ s 1 then 0 else 1) = 0 := by
      rw [if_neg (fun z => by have := j_ltR z j_0; omega), if_neg (fun z => by have := j_le z; omega)]
      decide
    rw [h1, if_neg hz]
  rw [e]
  refine ⟨⟨?_, ?_, ?_⟩, rfl, ?_⟩
  · dsimp only
    rw [upd_comm (a := 1) (b := 35 + 3 * (s 1).toNatClampNeg) (by omega), upd_comm (a := 1) (b := 36 + 3 * (s 1).toNatClampNeg) (by omega)]
    intro n hn
    have hl : g_Lv (upd s 1 (s 1 + 1)) n := by
      refine hn.congr ?_ ?_ ?_ ?_
      · rw [g_upd_eq, g_upd_eq]
      · simp (disch := omega) only [g_upd_ne]
      · simp (disch := omega) only [g_upd_ne]
      · simp (disch := omega) only [g_upd_ne]
    by_cases e1 : n = 1
    · subst e1; rw [g_upd_eq, g_upd_eq]
    rw [g_upd_ne e1, g_upd_ne e1]
    by_cases e2 : n = 36 + 3 * (s 1).toNatClampNeg
    · subst e2; rw [g_upd_eq, g_upd_eq]
    rw [g_upd_ne e2, g_upd_ne e2]
    by_cases e3 : n = 35 + 3 * (s 1).toNatClampNeg
    · subst e3; rw [g_upd_eq, g_upd_eq]
    rw [g_upd_ne e3, g_upd_ne e3]
    by_cases e4 : n = 34 + 3 * (s 1).toNatClampNeg
    · subst e4; rw [g_upd_eq, g_upd_eq]
    rw [g_upd_ne e4, g_upd_ne e4]
    refine E.L n ?_
    unfold g_Lv at hl ⊢
    rw [g_upd_eq, g_upd_ne (by omega), g_upd_ne (by omega), g_upd_ne (by omega), ea] at hl
    omega
  · refine J_rope E.J (fun n a b c => ?_) ?_
    · rw [g_upd_ne b, g_upd_ne (by omega), g_upd_ne (by omega), g_upd_ne (by omega)]
    · rw [g_upd_eq, ea]; omega
  · intro k hk hd
    simp (disch := omega) only [g_upd_ne] at hk hd ⊢
    exact E.N k hk hd
  · exact (((g_U.refl.upd (by omega)).upd (by omega)).upd (by omega)).upd (by omega)
theorem Ref_addRope (R : g_Rel m s pm) (x : Int32) : g_Ref ["java/lang/IllegalArgumentException", "java/lang/IllegalStateException"] (R_X7_addRope m pm x) (R_X8_addRope s x) := by
  have hj := R.J.n
  have c8 : (8 : Int32).toInt = 8 := rfl
  unfold R_X7_addRope R_X7_addRope_28 R_X8_addRope R_X8_addRope_75
  by_cases b : R_X8_in s x 10 80 = 0
  · rw [if_pos ((bad_in s x 10 80).mpr b), if_pos b]
    exact fail_s R (by decide +kernel) (by decide +kernel)
  rw [if_neg (mt (bad_in s x 10 80).mp b), if_neg b, R.E.lo (n := 1) (by omega)]
  by_cases c : s 1 = 8
  · rw [if_pos (by rw [c]; decide), if_pos rfl, if_pos c]
    exact fail_s R (by decide +kernel) (by decide +kernel)
  have c' := j_ne c
  rw [if_neg (fun z => by have := j_le z; omega), if_neg (by decide), if_neg c]
  have q1 := j_nat (x := s 1) (by omega)
  have m3 : ((3 : Int32) * s 1).toInt = 3 * (s 1).toInt := j_mulE rfl rfl (by omega) (by omega)
  have m34 : ((34 : Int32) + 3 * s 1).toInt = 34 + 3 * (s 1).toInt := j_addE rfl m3 (by omega) (by omega)
  have m35 : (((34 : Int32) + 3 * s 1) + 1).toInt = 34 + 3 * (s 1).toInt + 1 := j_addE m34 rfl (by omega) (by omega)
  have m36 : (((34 : Int32) + 3 * s 1) + 2).toInt = 34 + 3 * (s 1).toInt + 2 := j_addE m34 rfl (by omega) (by omega)
  have n34 := j_nat (x := (34 : Int32) + 3 * s 1) (by omega)
  have n35 := j_nat (x := ((34 : Int32) + 3 * s 1) + 1) (by omega)
  have n36 := j_nat (x := ((34 : Int32) + 3 * s 1) + 2) (by omega)
  rw [hold_lo (n := 1) (by omega), show ((34 : Int32) + 3 * s 1).toNatClampNeg = 34 + 3 * (s 1).toNatClampNeg by omega, show (((34 : Int32) + 3 * s 1) + 1).toNatClampNeg = 35 + 3 * (s 1).toNatClampNeg by omega, show (((34 : Int32) + 3 * s 1) + 2).toNatClampNeg = 36 + 3 * (s 1).toNatClampNeg by omega]
  have h1 : R_X8_hold s 1 = s 1 := hold_lo (by omega)
  have z := E_addRope R.sE (x := x) (by rw [h1]; omega)
  rw [h1] at z
  obtain ⟨z1, z2, z3⟩ := z
  have f1 : upd (upd (upd (R_X8_hold s) (34 + 3 * (s 1).toNatClampNeg) x) (35 + 3 * (s 1).toNatClampNeg) 0) (36 + 3 * (s 1).toNatClampNeg) 0 1 = s 1 := by
    rw [g_upd_ne (by omega), g_upd_ne (by omega), g_upd_ne (by omega), h1]
  rw [f1]
  generalize hT : upd (upd (upd (upd (R_X8_hold s) (34 + 3 * (s 1).toNatClampNeg) x) (35 + 3 * (s 1).toNatClampNeg) 0) (36 + 3 * (s 1).toNatClampNeg) 0) 1 (s 1 + 1) = T at z1 ⊢
  have e201 : T 201 = s 1 := by
    rw [← hT, g_upd_ne (by omega), g_upd_ne (by omega), g_upd_ne (by omega), g_upd_ne (by omega), hold_at, if_pos (by omega)]
  have B' := B_addOne5 R.sB (x := x) (by rw [fr_save R.I (Or.inl (by omega)), R.E.lo (by omega)]; omega)
  have v' : g_Up (R_X8_hold s) T := by
    rw [← hT]
    exact (((g_Up.refl.upd (by omega)).upd (by omega)).upd (by omega)).upd (by omega)
  have h := ends_ref (hs := ["java/lang/IllegalArgumentException", "java/lang/IllegalStateException"]) (a := T 201) R z1 B' z3 v' (z2.trans e201.symm)
  generalize R_X8_ends T (T 201) = w at h ⊢
  exact h
def g_hv (x : Int32) (j : Nat) : Int32 := if j = 0 then x else if j = 3 ∨ j = 5 then -1 else 0
theorem addH_loop {x : Int32} {h : Nat} (hh : h < 6) (e2 : (R_X8_hold s) 2 = nI h) : ∀ (f k : Nat) (t : Nat → Int32), k ≤ 9 → 9 < f + k →
    ∃ T, R_X8_addHelper_48 s x f k t = R_X8_ends (upd T 2 (T 2 + 1)) (nI h) ∧ ∀ n, T n = if 58 + 9 * h + k ≤ n ∧ n < 58 + 9 * h + 9 then g_hv x (n - (58 + 9 * h)) else t n
  | 0, k, t, _, h2 => absurd h2 (by omega)
  | f + 1, k, t, h1, h2 => by
    have hi : (nI k).toInt = (k : Int) := nI_toInt (by omega)
    have hq : (nI h).toInt = (h : Int) := nI_toInt (by omega)
    have c9 : (9 : Int32).toInt = 9 := rfl
    unfold R_X8_addHelper_48 R_X8_addHelper_75 R_X8_addHelper_80
    rw [e2]
    by_cases a : k = 9
    · subst a
      rw [if_pos (by decide)]
      exact ⟨t, rfl, fun n => by rw [if_neg (by omega)]⟩
    · rw [if_neg (fun z => by have := j_le z; omega)]
      have hl : ∀ v, R_X8_lays t (nI h) (nI k) v = upd t (58 + 9 * h + k) v := fun v => by
        unfold R_X8_lays
        rw [of_ix (by omega) (by omega) (by omega), nI_clamp (by omega)]
      have hv : (if nI k = 0 then R_X8_addHelper_48 s x f (k + 1) (R_X8_lays t (nI h) (nI k) x) else if nI k = 3 then R_X8_addHelper_48 s x f (k + 1) (R_X8_lays t (nI h) (nI k) (-1)) else if nI k = 5 then R_X8_addHelper_48 s x f (k + 1) (R_X8_lays t (nI h) (nI k) (-1)) else R_X8_addHelper_48 s x f (k + 1) (R_X8_lays t (nI h) (nI k) 0)) = R_X8_addHelper_48 s x f (k + 1) (upd t (58 + 9 * h + k) (g_hv x k)) := by
        unfold g_hv
        have : k = 0 ∨ k = 1 ∨ k = 2 ∨ k = 3 ∨ k = 4 ∨ k = 5 ∨ k = 6 ∨ k = 7 ∨ k = 8 := by omega
        rw [hl, hl, hl]
        rcases this with rfl | rfl | rfl | rfl | rfl | rfl | rfl | rfl | rfl <;> rfl
      rw [hv]
      obtain ⟨T, T1, T2⟩ := addH_loop hh e2 f (k + 1) (upd t (58 + 9 * h + k) (g_hv x k)) (by omega) (by omega)
      refine ⟨T, T1, fun n => ?_⟩
      rw [T2 n]
      by_cases e : n = 58 + 9 * h + k
      · subst e
        rw [if_neg (by omega), if_pos (by omega), g_upd_eq]
        exact congrArg (g_hv x) (by omega)
      · by_cases d : 58 + 9 * h + (k + 1) ≤ n ∧ n < 58 + 9 * h + 9
        · rw [if_pos d, if_pos (by omega)]
        · rw [if_neg d, if_neg (by omega), g_upd_ne e]
theorem new1_at {h : Nat} {x : Int32} (n : Nat) : R_X1_startAnew m h x n = if 58 + 9 * h ≤ n ∧ n < 58 + 9 * h + 9 then g_hv x (n - (58 + 9 * h)) else m n := by
  unfold R_X1_startAnew
  by_cases d : 58 + 9 * h ≤ n ∧ n < 58 + 9 * h + 9
  · rw [if_pos d]
    have : n = 58 + 9 * h + 0 ∨ n = 58 + 9 * h + 1 ∨ n = 58 + 9 * h + 2 ∨ n = 58 + 9 * h + 3 ∨ n = 58 + 9 * h + 4 ∨ n = 58 + 9 * h + 5 ∨ n = 58 + 9 * h + 6 ∨ n = 58 + 9 * h + 7 ∨ n = 58 + 9 * h + 8 := by omega
    rcases this with rfl | rfl | rfl | rfl | rfl | rfl | rfl | rfl | rfl <;> simp (disch := omega) only [g_upd_ne, g_upd_eq] <;> rw [Nat.add_sub_cancel_left] <;> rfl
  · rw [if_neg d]
    simp (disch := omega) only [g_upd_ne]
theorem J_helper {t : Nat → Int32} {h : Nat} {x : Int32} (a : g_J s) (hh : h < 6) (e2 : s 2 = nI h) (ht : ∀ n, n < 178 → n ≠ 2 → t n = if 58 + 9 * h ≤ n ∧ n < 58 + 9 * h + 9 then g_hv x (n - (58 + 9 * h)) else s n) (t2 : (t 2).toInt = h + 1) : g_J t := by
  obtain ⟨k1, k2, k3, k4, k5⟩ := a
  have q2 : (s 2).toInt = h := by rw [e2]; exact nI_toInt (by omega)
  have q6 : (s 6).toInt ≤ 10 := k1.2.2.2.2.2.2.1.2
  have n1 : (-1 : Int32).toInt = -1 := rfl
  have lo : ∀ n, n < 58 → n ≠ 2 → t n = s n := fun n h1 h2 => by rw [ht n (by omega) h2, if_neg (by omega)]
  have hi : ∀ n, 112 ≤ n → n < 178 → t n = s n := fun n h1 h2 => by rw [ht n (by omega) (by omega), if_neg (by omega)]
  have nw : ∀ j, j < 9 → t (58 + 9 * h + j) = g_hv x j := fun j hj => by
    rw [ht _ (by omega) (by omega), if_pos (by omega), Nat.add_sub_cancel_left]
  have od : ∀ k j, k < h → j < 9 → t (58 + 9 * k + j) = s (58 + 9 * k + j) := fun k j hk hj => by
    rw [ht _ (by omega) (by omega), if_neg (by omega)]
  refine ⟨?_, fun k hk => ?_, fun k hk => ?_, fun k k' hk hk' x y z => ?_, fun i hi' => ?_⟩
  · rw [lo 0 (by omega) (by omega), lo 1 (by omega) (by omega), t2, lo 3 (by omega) (by omega), lo 4 (by omega) (by omega), lo 5 (by omega) (by omega), lo 6 (by omega) (by omega), lo 9 (by omega) (by omega), lo 10 (by omega) (by omega), lo 12 (by omega) (by omega)]
    obtain ⟨a0, a1, a2, a3, a4, a5, a6, a7, a8⟩ := k1
    exact ⟨a0, a1, by omega, a3, a4, a5, a6, a7, a8⟩
  · rw [lo (13 + k) (by omega) (by omega), lo (20 + k) (by omega) (by omega), lo (27 + k) (by omega) (by omega), lo 1 (by omega) (by omega)]
    exact k2 k hk
  · by_cases e : k = h
    · subst e
      unfold g_Hp
      have a0 := k1.1
      have a1 := k1.2.1
      rw [lo 0 (by omega) (by omega), lo 1 (by omega) (by omega), nw 1 (by omega), nw 2 (by omega), nw 3 (by omega), nw 4 (by omega), nw 5 (by omega), nw 7 (by omega), nw 8 (by omega)]
      refine ⟨⟨by show (0 : Int) ≤ (0 : Int32).toInt; decide, ?_⟩, Or.inl rfl, ⟨by show (-1 : Int) ≤ (-1 : Int32).toInt; decide, ?_⟩, Or.inl rfl, fun z => absurd z ?_, fun z => absurd z ?_, fun _ _ => rfl⟩
      · show (0 : Int32).toInt ≤ _
        rw [j_0]; omega
      · show (-1 : Int32).toInt < _
        rw [n1]; omega
      · show ¬ (0 : Int32) = 1
        decide
      · show ¬ (0 : Int32) = 2
        decide
    · have hk' : k < h := by omega
      have := k3 k (by omega)
      unfold g_Hp at this ⊢
      rw [lo 0 (by omega) (by omega), lo 1 (by omega) (by omega), od k 1 hk' (by omega), od k 2 hk' (by omega), od k 3 hk' (by omega), od k 4 hk' (by omega), od k 5 hk' (by omega), od k 7 hk' (by omega), od k 8 hk' (by omega)]
      exact this
  · have no : ¬ t (58 + 9 * h + 2) = 2 := by
      rw [nw 2 (by omega)]
      show ¬ (0 : Int32) = 2
      decide
    have kh : k ≠ h := fun e => no (by rw [← e]; exact x)
    have kh' : k' ≠ h := fun e => no (by rw [← e]; exact y)
    rw [od k 2 (by omega) (by omega)] at x
    rw [od k' 2 (by omega) (by omega)] at y
    rw [od k 1 (by omega) (by omega), od k' 1 (by omega) (by omega)] at z
    exact k4 k k' (by omega) (by omega) x y z
  · rw [lo 6 (by omega) (by omega)] at hi'
    rw [hi _ (by omega) (by omega)]
    exact k5 i hi'
theorem Ref_addHelper (R : g_Rel m s pm) (x : Int32) : g_Ref ["java/lang/IllegalArgumentException", "java/lang/IllegalStateException"] (R_X7_addHelper m pm x) (R_X8_addHelper s x) := by
  have hj := R.J.n
  have c6 : (6 : Int32).toInt = 6 := rfl
  unfold R_X7_addHelper R_X7_addHelper_26 R_X8_addHelper
  by_cases b : R_X8_in s x 30 600 = 0
  · rw [if_pos ((bad_in s x 30 600).mpr b), if_pos b]
    exact fail_s R (by decide +kernel) (by decide +kernel)
  rw [if_neg (mt (bad_in s x 30 600).mp b), if_neg b, R.E.lo (n := 2) (by omega)]
  by_cases c : s 2 = 6
  · rw [if_pos (by rw [c]; decide), if_pos rfl, if_pos c]
    exact fail_s R (by decide +kernel) (by decide +kernel)
  have c' := j_ne c
  rw [if_neg (fun z => by have := j_le z; omega), if_neg (by decide), if_neg c]
  obtain ⟨h, hh⟩ : ∃ h : Nat, (s 2).toInt = h := ⟨(s 2).toInt.toNat, by omega⟩
  have e2 : s 2 = nI h := as_nI hh (by omega)
  have hq : (nI h).toInt = (h : Int) := nI_toInt (by omega)
  have eh : R_X8_hold s 2 = nI h := by rw [hold_lo (by omega)]; exact e2
  have ea := j_add (x := nI h) (y := 1) (by rw [j_1]; omega) (by rw [j_1]; omega)
  rw [j_1, hq] at ea
  obtain ⟨T, T1, T2⟩ := addH_loop (x := x) (by omega) eh 10 0 (R_X8_hold s) (by omega) (by omega)
  rw [T1]
  have T2' : T 2 = nI h := by rw [T2, if_neg (by omega)]; exact eh
  have v' : g_Up (R_X8_hold s) (upd T 2 (T 2 + 1)) := fun n h1 h2 => by rw [g_upd_ne (by omega), T2, if_neg (by omega)]
  have sE := R.sE
  have m2 : (R_X7_save m pm).1 2 = nI h := by rw [sE.lo (by omega)]; exact eh
  have eA : R_X0_addOne (R_X7_save m pm).1 x = (nI h, upd (R_X1_startAnew (R_X7_save m pm).1 h x) 2 (nI h + 1)) := by
    unfold R_X0_addOne
    rw [m2, if_pos (Int32.lt_iff_toInt_lt.mpr (by omega)), nI_clamp (by omega), new1_at, if_neg (by omega), m2]
  have B' := B_addOne0 R.sB (x := x)
  rw [eA] at B' ⊢
  have E' : g_E (upd (R_X1_startAnew (R_X7_save m pm).1 h x) 2 (nI h + 1)) (upd T 2 (T 2 + 1)) := by
    refine ⟨fun n hn => ?_, J_helper (x := x) R.hJ (by omega) eh (fun n h1 h2 => ?_) ?_, fun k hk hd => ?_⟩
    · have hl : g_Lv (upd (R_X8_hold s) 2 (nI h + 1)) n := by
        refine hn.congr ?_ ?_ ?_ ?_
        · rw [g_upd_ne (by omega), g_upd_ne (by omega), T2, if_neg (by omega)]
        · rw [g_upd_eq, g_upd_eq, T2']
        · rw [g_upd_ne (by omega), g_upd_ne (by omega), T2, if_neg (by omega)]
        · rw [g_upd_ne (by omega), g_upd_ne (by omega), T2, if_neg (by omega)]
      by_cases e : n = 2
      · subst e; rw [g_upd_eq, g_upd_eq, T2']
      rw [g_upd_ne e, g_upd_ne e, new1_at, T2]
      by_cases d : 58 + 9 * h ≤ n ∧ n < 58 + 9 * h + 9
      · rw [if_pos d, if_pos (by omega)]
      · rw [if_neg d, if_neg (by omega)]
        refine sE.L n ?_
        unfold g_Lv at hl ⊢
        rw [g_upd_eq, g_upd_ne (by omega), g_upd_ne (by omega), g_upd_ne (by omega), ea] at hl
        rw [eh, hq]
        omega
    · rw [g_upd_ne h2, T2]
      rfl
    · rw [g_upd_eq, T2']; exact ea
    · rw [g_upd_eq, T2', ea] at hk
      rw [g_upd_ne (by omega), T2] at hd
      rw [g_upd_ne (by omega), T2]
      by_cases e : k = h
      · subst e
        rw [if_pos (by omega), Nat.add_sub_cancel_left]
        rfl
      · rw [if_neg (by omega)] at hd ⊢
        exact sE.N k (by rw [eh, hq]; omega) hd
  have u' : g_U (R_X7_save m pm).1 (upd (R_X1_startAnew (R_X7_save m pm).1 h x) 2 (nI h + 1)) := fun n hn => by rw [g_upd_ne (by omega), new1_at, if_neg (by omega)]
  have w := ends_ref (hs := ["java/lang/IllegalArgumentException", "java/lang/IllegalStateException"]) (a := nI h) R E' B' u' v' rfl
  generalize R_X8_ends (upd T 2 (T 2 + 1)) (nI h) = w8 at w ⊢
  exact w
end QE
