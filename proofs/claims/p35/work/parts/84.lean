/-! ===== what the law compares is so ===== -/
section VH
variable {m s : Nat → Int32} {pm : Nat → Nat}
theorem isE : ∀ E ∈ ["java/lang/IndexOutOfBoundsException", "java/lang/IllegalArgumentException"], g_k ["java/lang/IndexOutOfBoundsException", "java/lang/IllegalArgumentException"] E 1 ≠ 0 := by decide +kernel
theorem isE1 : ∀ E ∈ ["java/lang/IndexOutOfBoundsException", "java/lang/IllegalArgumentException"], g_k ["java/lang/IndexOutOfBoundsException", "java/lang/IllegalArgumentException"] E 1 = 1 → g_wx E = -2000001 := by decide +kernel
theorem i1E1 : ∀ E ∈ ["java/lang/IllegalArgumentException"], g_k ["java/lang/IllegalArgumentException"] E 1 = 1 → g_wx E = -2000002 := by decide +kernel
theorem v_tells {hs : List String} {r7 : g_P7} {r8 : Int32 × (Nat → Int32)} {v : Int32} (RF : g_Ref hs r7 r8) (e : r8 = R_X8_tells s v) (hne : ∀ E ∈ hs, g_k hs E 1 ≠ 0) : g_wv r7 = v := by
  subst e
  exact val_ok RF (show upd s 1302 0 1302 = 0 from g_upd_eq) hne
theorem v_fails {hs : List String} {r7 : g_P7} {r8 : Int32 × (Nat → Int32)} {k c : Int32} (RF : g_Ref hs r7 r8) (e : r8 = R_X8_fails s k) (k0 : k ≠ 0) (hc : ∀ E ∈ hs, g_k hs E 1 = k → g_wx E = c) : g_wv r7 = c := by
  subst e
  exact val_bad RF (show upd s 1302 k 1302 = k from g_upd_eq) k0 hc
theorem v_value (R : g_Rel m s pm) {x : Int32} (h0 : 0 ≤ x.toInt) (h1 : x.toInt ≤ 13) : g_wv (R_X7_value m pm x) = R_X8_valueOf s x := by
  refine v_tells (s := s) (Ref_value R x) ?_ i1E
  unfold R_X8_value
  rw [in_ok (by rw [j_0]; exact h0) (by have : (13 : Int32).toInt = 13 := rfl; omega), i10]
theorem v_value14 (R : g_Rel m s pm) : g_wv (R_X7_value m pm ((14) : Int32)) = -2000002 := by
  refine v_fails (s := s) (Ref_value R 14) ?_ (by decide) i1E1
  unfold R_X8_value
  have z : R_X8_in s 14 0 13 = 0 := by unfold R_X8_in; decide
  rw [z, if_pos rfl]
theorem v_passage (R : g_Rel m s pm) {p : Nat} {w : Int32} (hp : (p : Int) < (s 0).toInt) (w0 : 0 ≤ w.toInt) (w4 : w.toInt ≤ 4) : g_wv (R_X7_passage m pm (nI p) w) = R_X8_passageFact s (nI p) w := by
  have h7 := R.J.1.1.2
  have hq : (nI p).toInt = (p : Int) := nI_toInt (by omega)
  refine v_tells (s := s) (Ref_passage R (nI p) w) ?_ isE
  unfold R_X8_passage
  rw [is_p (by omega) (by omega), i10, in_ok (by rw [j_0]; exact w0) (by have : (4 : Int32).toInt = 4 := rfl; omega), i10]
theorem v_rope (R : g_Rel m s pm) {k : Nat} (hk : (k : Int) < 3 * (s 1).toInt) : g_wv (R_X7_rope m pm (nI k / 3) (nI k - nI k / 3 * 3)) = s (34 + k) := by
  have h8 := R.J.1.2.1.2
  have e1 : nI k / 3 = nI (k / 3) := pk_div (d := 3) (by omega) (by omega) (by omega)
  have e2 : nI k - nI k / 3 * 3 = nI (k % 3) := pk_rem (d := 3) (by omega) (by omega) (by omega)
  rw [e2, e1]
  have hq : (nI (k / 3)).toInt = ((k / 3 : Nat) : Int) := nI_toInt (by omega)
  have hr : (nI (k % 3)).toInt = ((k % 3 : Nat) : Int) := nI_toInt (by omega)
  refine v_tells (s := s) (Ref_rope R _ _) ?_ isE
  unfold R_X8_rope
  rw [is_r (by omega) (by omega), i10, in_ok (by rw [j_0]; omega) (by have : (2 : Int32).toInt = 2 := rfl; omega), i10, ix_r (by omega) (by omega) (by omega) (show (34 : Int32).toInt = ((34 : Nat) : Int) from rfl) (by omega), nI_clamp (by omega), show 34 + 3 * (k / 3) + k % 3 = 34 + k by omega]
theorem v_helper (R : g_Rel m s pm) {k : Nat} (hk : (k : Int) < 9 * (s 2).toInt) : g_wv (R_X7_helper m pm (nI k / 9) (nI k - nI k / 9 * 9)) = s (58 + k + 0) := by
  have h6 := R.J.1.2.2.1.2
  have e1 : nI k / 9 = nI (k / 9) := pk_div (d := 9) (by omega) (by omega) (by omega)
  have e2 : nI k - nI k / 9 * 9 = nI (k % 9) := pk_rem (d := 9) (by omega) (by omega) (by omega)
  rw [e2, e1]
  have hq : (nI (k / 9)).toInt = ((k / 9 : Nat) : Int) := nI_toInt (by omega)
  have hr : (nI (k % 9)).toInt = ((k % 9 : Nat) : Int) := nI_toInt (by omega)
  refine v_tells (s := s) (Ref_helper R _ _) ?_ isE
  unfold R_X8_helper R_X8_of
  rw [is_h (by omega) (by omega), i10, in_ok (by rw [j_0]; omega) (by have : (8 : Int32).toInt = 8 := rfl; omega), i10, of_ix (by omega) (by omega) (by omega), nI_clamp (by omega), show 58 + 9 * (k / 9) + k % 9 = 58 + k + 0 by omega]
theorem v_message (R : g_Rel m s pm) {k : Nat} (hk : (k : Int) < 3 * (s 6).toInt) : g_wv (R_X7_message m pm (nI k / 3) (nI k - nI k / 3 * 3)) = s (112 + k) := by
  have h10 := R.J.1.2.2.2.2.2.2.1.2
  have e1 : nI k / 3 = nI (k / 3) := pk_div (d := 3) (by omega) (by omega) (by omega)
  have e2 : nI k - nI k / 3 * 3 = nI (k % 3) := pk_rem (d := 3) (by omega) (by omega) (by omega)
  rw [e2, e1]
  have hq : (nI (k / 3)).toInt = ((k / 3 : Nat) : Int) := nI_toInt (by omega)
  have hr : (nI (k % 3)).toInt = ((k % 3 : Nat) : Int) := nI_toInt (by omega)
  have ej := j_sub1 (x := s 6) (by omega)
  refine v_tells (s := s) (Ref_message R _ _) ?_ isE
  unfold R_X8_message
  rw [in_ok (by rw [j_0]; omega) (by omega), i10, in_ok (by rw [j_0]; omega) (by have : (2 : Int32).toInt = 2 := rfl; omega), i10, ix_r (by omega) (by omega) (by omega) (show (112 : Int32).toInt = ((112 : Nat) : Int) from rfl) (by omega), nI_clamp (by omega), show 112 + 3 * (k / 3) + k % 3 = 112 + k by omega]
theorem v_carried (R : g_Rel m s pm) {k : Nat} (hk : (k : Int) < 3 * (s 12).toInt) : g_wv (R_X7_carried m pm (nI k / 3) (nI k - nI k / 3 * 3)) = s (142 + k) := by
  have h12 := R.J.1.2.2.2.2.2.2.2.2.2
  have e1 : nI k / 3 = nI (k / 3) := pk_div (d := 3) (by omega) (by omega) (by omega)
  have e2 : nI k - nI k / 3 * 3 = nI (k % 3) := pk_rem (d := 3) (by omega) (by omega) (by omega)
  rw [e2, e1]
  have hq : (nI (k / 3)).toInt = ((k / 3 : Nat) : Int) := nI_toInt (by omega)
  have hr : (nI (k % 3)).toInt = ((k % 3 : Nat) : Int) := nI_toInt (by omega)
  have ej := j_sub1 (x := s 12) (by omega)
  refine v_tells (s := s) (Ref_carried R _ _) ?_ isE
  unfold R_X8_carried
  rw [in_ok (by rw [j_0]; omega) (by omega), i10, in_ok (by rw [j_0]; omega) (by have : (2 : Int32).toInt = 2 := rfl; omega), i10, ix_r (by omega) (by omega) (by omega) (show (142 : Int32).toInt = ((142 : Nat) : Int) from rfl) (by omega), nI_clamp (by omega), show 142 + 3 * (k / 3) + k % 3 = 142 + k by omega]
theorem S_488 (R : g_Rel m s pm) : R_L_isSo_488 m s pm (R_X8_shut s) (R_X8_below s) 1 = 1 := by
  have J := R.J
  have h6 := J.1.2.2.2.2.2.2.1
  have h12 := J.1.2.2.2.2.2.2.2.2
  have e6 := j_sub1 (x := s 6) (by omega)
  have e12 := j_sub1 (x := s 12) (by omega)
  have vb : g_wv (R_X7_value m pm ((6) : Int32)) = R_X8_below s := by
    rw [v_value R (by decide) (by decide)]
    unfold R_X8_valueOf
    rw [if_pos (by decide), if_pos rfl]
  have vs : g_wv (R_X7_value m pm ((10) : Int32)) = R_X8_shut s := by
    rw [v_value R (by decide) (by decide)]
    unfold R_X8_valueOf
    rw [if_pos (by decide), if_neg (by decide), if_pos (by decide), if_pos rfl]
  have vm : g_wv (R_X7_message m pm (s 6) ((0) : Int32)) = -2000001 := by
    refine v_fails (s := s) (Ref_message R _ _) ?_ (by decide) isE1
    unfold R_X8_message
    have z : R_X8_in s (s 6) 0 (s 6 - 1) = 0 := by
      unfold R_X8_in
      rw [if_neg (fun z => by have := j_ltR z j_0; omega), if_pos (Int32.lt_iff_toInt_lt.mpr (by omega))]
    rw [z, if_pos rfl]
  have vc : g_wv (R_X7_carried m pm (s 12) ((0) : Int32)) = -2000001 := by
    refine v_fails (s := s) (Ref_carried R _ _) ?_ (by decide) isE1
    unfold R_X8_carried
    have z : R_X8_in s (s 12) 0 (s 12 - 1) = 0 := by
      unfold R_X8_in
      rw [if_neg (fun z => by have := j_ltR z j_0; omega), if_pos (Int32.lt_iff_toInt_lt.mpr (by omega))]
    rw [z, if_pos rfl]
  have vh : g_wv (R_X7_helper m pm (s 2) ((0) : Int32)) = -2000001 := by
    refine v_fails (s := s) (Ref_helper R _ _) ?_ (by decide) isE1
    unfold R_X8_helper R_X8_isHelper
    rw [if_pos (Int32.le_refl (s 2)), ite_self, if_pos rfl]
  have vr : g_wv (R_X7_rope m pm (s 1) ((0) : Int32)) = -2000001 := by
    refine v_fails (s := s) (Ref_rope R _ _) ?_ (by decide) isE1
    unfold R_X8_rope R_X8_isRope
    rw [if_pos (Int32.le_refl (s 1)), ite_self, if_pos rfl]
  have vp : g_wv (R_X7_passage m pm (s 0) ((0) : Int32)) = -2000001 := by
    refine v_fails (s := s) (Ref_passage R _ _) ?_ (by decide) isE1
    unfold R_X8_passage R_X8_isPassage
    rw [if_pos (Int32.le_refl (s 0)), ite_self, if_pos rfl]
  unfold R_L_isSo_488
  rw [i10, if_pos vb, if_pos vs, if_pos vm, if_pos vc, if_pos vh, if_pos vr, if_pos vp]
theorem S_439 (R : g_Rel m s pm) {a b : Int32} : ∀ (f k : Nat), k ≤ 36 → 36 < f + k → R_L_isSo_439 m s pm a b f 1 k = R_L_isSo_488 m s pm a b 1
  | 0, k, h, h' => absurd h' (by omega)
  | f + 1, k, h, h' => by
    have h12 := R.J.1.2.2.2.2.2.2.2.2
    have hq : (nI k).toInt = (k : Int) := nI_toInt (by omega)
    have c3 : (3 : Int32).toInt = 3 := rfl
    have em := j_mulE (x := 3) (y := s 12) c3 rfl (by omega) (by omega)
    unfold R_L_isSo_439 R_L_isSo_480
    by_cases c : 3 * s 12 ≤ nI k
    · rw [if_pos c]
    · have c' := j_nle c
      rw [if_neg c, i10, if_pos (v_carried R (by omega))]
      exact S_439 R f (k + 1) (by omega) (by omega)
theorem S_387 (R : g_Rel m s pm) {a b : Int32} : ∀ (f k : Nat), k ≤ 30 → 30 < f + k → R_L_isSo_387 m s pm a b f 1 k = R_L_isSo_488 m s pm a b 1
  | 0, k, h, h' => absurd h' (by omega)
  | f + 1, k, h, h' => by
    have h6 := R.J.1.2.2.2.2.2.2.1
    have hq : (nI k).toInt = (k : Int) := nI_toInt (by omega)
    have c3 : (3 : Int32).toInt = 3 := rfl
    have em := j_mulE (x := 3) (y := s 6) c3 rfl (by omega) (by omega)
    unfold R_L_isSo_387 R_L_isSo_428
    by_cases c : 3 * s 6 ≤ nI k
    · rw [if_pos c]
      unfold R_L_isSo_436
      exact S_439 R 37 0 (by omega) (by omega)
    · have c' := j_nle c
      rw [if_neg c, i10, if_pos (v_message R (by omega))]
      exact S_387 R f (k + 1) (by omega) (by omega)
theorem S_333 (R : g_Rel m s pm) {a : Int32} : ∀ (f h : Nat) (v : Int32), h ≤ 6 → 6 < f + h → h + f ≤ 7 → R_L_isSo_333 m s pm a 1 f v h = R_L_isSo_488 m s pm a (R_X8_below_4 s f v h) 1
  | 0, k, v, h, h', _ => absurd h' (by omega)
  | f + 1, n, v, h, h', h7 => by
    have h2 := R.J.1.2.2.1
    have hq : (nI n).toInt = (n : Int) := nI_toInt (by omega)
    unfold R_L_isSo_333 R_X8_below_4 R_L_isSo_370 R_L_isSo_375 R_X8_below_28
    by_cases c : s 2 ≤ nI n
    · rw [if_pos c, if_pos c]
      exact S_387 R 31 0 (by omega) (by omega)
    · have c' := j_nle c
      have p := R.J.2.2.1 n (by omega)
      rw [if_neg c, if_neg c]
      have ih : ∀ v, R_L_isSo_333 m s pm a 1 f v (n + 1) = R_L_isSo_488 m s pm a (R_X8_below_4 s f v (n + 1)) 1 := fun v => S_333 R f (n + 1) v (by omega) (by omega) (by omega)
      unfold R_X8_isBelow
      rw [nI_clamp (by omega)]
      by_cases d : s (58 + 9 * n + 1) ≤ 0
      · rw [if_neg (Int32.not_lt.mpr d)]
        by_cases e : s (58 + 9 * n + 2) = 1
        · rw [if_pos e, if_pos e, i10]; exact ih _
        · rw [if_neg e, if_neg e, if_pos d, i00]; exact ih _
      · rw [if_pos (Int32.not_le.mp d), if_neg d]
        by_cases e : s (58 + 9 * n + 2) = 1
        · rw [if_pos e, i10]; exact ih _
        · rw [if_neg e, i10]; exact ih _
theorem S_279 (R : g_Rel m s pm) {a : Int32} : ∀ (f k : Nat), k ≤ 54 → 54 < f + k → R_L_isSo_279 m s pm a f 1 k = R_L_isSo_488 m s pm a (R_X8_below s) 1
  | 0, k, h, h' => absurd h' (by omega)
  | f + 1, k, h, h' => by
    have h2 := R.J.1.2.2.1
    have hq : (nI k).toInt = (k : Int) := nI_toInt (by omega)
    have c9 : (9 : Int32).toInt = 9 := rfl
    have em := j_mulE (x := 9) (y := s 2) c9 rfl (by omega) (by omega)
    unfold R_L_isSo_279 R_L_isSo_322
    by_cases c : 9 * s 2 ≤ nI k
    · rw [if_pos c]
      unfold R_L_isSo_330
      exact S_333 R 7 0 0 (by omega) (by omega) (by omega)
    · have c' := j_nle c
      rw [if_neg c, i10, if_pos (v_helper R (by omega))]
      exact S_279 R f (k + 1) (by omega) (by omega)
theorem S_228 (R : g_Rel m s pm) {a : Int32} : ∀ (f k : Nat), k ≤ 24 → 24 < f + k → R_L_isSo_228 m s pm a f 1 k = R_L_isSo_488 m s pm a (R_X8_below s) 1
  | 0, k, h, h' => absurd h' (by omega)
  | f + 1, k, h, h' => by
    have h1 := R.J.1.2.1
    have hq : (nI k).toInt = (k : Int) := nI_toInt (by omega)
    have c3 : (3 : Int32).toInt = 3 := rfl
    have em := j_mulE (x := 3) (y := s 1) c3 rfl (by omega) (by omega)
    unfold R_L_isSo_228 R_L_isSo_268
    by_cases c : 3 * s 1 ≤ nI k
    · rw [if_pos c]
      unfold R_L_isSo_276
      exact S_279 R 55 0 (by omega) (by omega)
    · have c' := j_nle c
      rw [if_neg c, i10, if_pos (v_rope R (by omega))]
      exact S_228 R f (k + 1) (by omega) (by omega)
theorem S_95 (R : g_Rel m s pm) : ∀ (f p : Nat) (v : Int32), p ≤ 7 → 7 < f + p → p + f ≤ 8 → R_L_isSo_95 m s pm f v 1 p = R_L_isSo_488 m s pm (R_X8_shut_4 s f v p) (R_X8_below s) 1
  | 0, p, v, h, h', _ => absurd h' (by omega)
  | f + 1, p, v, h, h', h8 => by
    have h0 := R.J.1.1
    have hq : (nI p).toInt = (p : Int) := nI_toInt (by omega)
    unfold R_L_isSo_95 R_X8_shut_4 R_X8_shut_28
    by_cases c : s 0 ≤ nI p
    · rw [if_pos c, if_pos c]
      unfold R_L_isSo_225
      exact S_228 R 25 0 (by omega) (by omega)
    · have c' := j_nle c
      have q := (R.J.2.1 p (by omega)).2.2.1
      have e0 : g_wv (R_X7_passage m pm (nI p) ((0) : Int32)) = s (13 + p) := by
        rw [v_passage R (by omega) (by decide) (by decide)]
        unfold R_X8_passageFact
        rw [if_pos rfl, s13 (by omega) (by omega), nI_clamp (by omega)]
      have e1 : g_wv (R_X7_passage m pm (nI p) ((1) : Int32)) = s (20 + p) := by
        rw [v_passage R (by omega) (by decide) (by decide)]
        unfold R_X8_passageFact
        rw [if_neg (by decide), if_pos rfl, s20 (by omega) (by omega), nI_clamp (by omega)]
      have e2 : g_wv (R_X7_passage m pm (nI p) ((2) : Int32)) = s (27 + p) := by
        rw [v_passage R (by omega) (by decide) (by decide)]
        unfold R_X8_passageFact
        rw [if_neg (by decide), if_neg (by decide), if_pos rfl, s27 (by omega) (by omega), nI_clamp (by omega)]
      have e3 : g_wv (R_X7_passage m pm (nI p) ((3) : Int32)) = R_L_many s (nI p) := by
        rw [v_passage R (by omega) (by decide) (by decide), Lx_many R.J]
        unfold R_X8_passageFact
        rw [if_neg (by decide), if_neg (by decide), if_neg (by decide), if_pos rfl]
      have e4 : g_wv (R_X7_passage m pm (nI p) ((4) : Int32)) = R_L_rigger s (nI p) := by
        rw [v_passage R (by omega) (by decide) (by decide), Lx_rigger]
        unfold R_X8_passageFact
        rw [if_neg (by decide), if_neg (by decide), if_neg (by decide), if_neg (by decide)]
      have ih : ∀ t, R_L_isSo_130 m s pm (R_L_isSo_95 m s pm f) v p t = R_L_isSo_488 m s pm (R_X8_shut_4 s f (v + t) (p + 1)) (R_X8_below s) 1 := fun t => by
        unfold R_L_isSo_130 R_L_isSo_217
        rw [if_pos e0, if_pos e1, if_pos e2, if_pos e3, if_pos e4]
        exact S_95 R f (p + 1) (v + t) (by omega) (by omega) (by omega)
      unfold R_L_isSo_129
      rw [if_neg c, i10, if_neg c, ih, ih]
      unfold R_X8_isShut
      rw [s13 (by omega) (by omega), s27 (by omega) (by omega), nI_clamp (by omega)]
      by_cases d : s (13 + p) ≤ 0
      · rw [if_pos d, if_pos d, i00]
      · rw [if_neg d, if_neg d]
        by_cases g : s (27 + p) = -1
        · rw [if_neg (fun z => (nn_m1 q).mp z g), if_pos g, i10]
        · rw [if_pos ((nn_m1 q).mpr g), if_neg g, i00]
theorem S_12 (R : g_Rel m s pm) : ∀ (f k : Nat), k ≤ 14 → 14 < f + k → R_L_isSo_12 m s pm f 1 k = R_L_isSo_95 m s pm 8 0 1 0
  | 0, k, h, h' => absurd h' (by omega)
  | f + 1, k, h, h' => by
    have hq : (nI k).toInt = (k : Int) := nI_toInt (by omega)
    have c14 : (14 : Int32).toInt = 14 := rfl
    have c6 : (6 : Int32).toInt = 6 := rfl
    have c10 : (10 : Int32).toInt = 10 := rfl
    unfold R_L_isSo_12 R_L_isSo_79 R_L_isSo_83 R_L_isSo_84
    by_cases c : k = 14
    · subst c
      rw [if_pos (by decide)]
    · have ih := S_12 R f (k + 1) (by omega) (by omega)
      rw [if_neg (fun z => by have := j_leL z c14; omega), i10]
      by_cases d : k = 6
      · subst d
        rw [if_pos (by decide)]
        exact ih
      · rw [if_neg (fun z => d (by have := j_eqR z c6; omega))]
        by_cases e : k = 10
        · subst e
          rw [if_pos (by decide)]
          exact ih
        · rw [if_neg (fun z => e (by have := j_eqR z c10; omega))]
          have v := v_value R (x := nI k) (by omega) (by omega)
          unfold R_X8_valueOf at v
          have key : ∀ t : Int32, g_wv (R_X7_value m pm (nI k)) = s t.toNatClampNeg → R_L_isSo_75 m s pm (R_L_isSo_12 m s pm f) k t = R_L_isSo_95 m s pm 8 0 1 0 := fun t ht => by
            unfold R_L_isSo_75 R_L_isSo_79 R_L_isSo_84
            rw [Nat.zero_add, if_pos ht]
            exact ih
          by_cases g : 6 ≤ nI k
          · rw [if_pos g]
            rw [if_pos g, if_neg (fun z => d (by have := j_eqR z c6; omega))] at v
            by_cases i : 10 ≤ nI k
            · rw [if_pos i]
              rw [if_pos i, if_neg (fun z => e (by have := j_eqR z c10; omega))] at v
              exact key _ v
            · rw [if_neg i]
              rw [if_neg i] at v
              exact key _ v
          · rw [if_neg g]
            rw [if_neg g] at v
            exact key _ v
theorem S_isSo (R : g_Rel m s pm) : R_L_isSo m s pm = 1 := by
  unfold R_L_isSo
  rw [S_12 R 15 0 (by omega) (by omega), S_95 R 8 0 0 (by omega) (by omega) (by omega)]
  exact S_488 R
end VH
