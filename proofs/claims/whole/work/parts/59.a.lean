/-! ===== an order is obeyed ===== -/
theorem d0_dnum2 {m : Nat → Int32} {x : Int32} : ∀ (f n : Nat), n ≤ 3 → 0 ≤ (R_X6_digitsOfNumber_2 m x f n).toInt
  | 0, _, _ => by show (0 : Int) ≤ (0 : Int32).toInt; decide
  | f + 1, n, h => by
    have hc : (nI n).toInt = (n : Int) := nI_toInt (by omega)
    unfold R_X6_digitsOfNumber_2
    split
    · decide
    · rename_i hb
      have hb : (nI n).toInt < (3 : Int) := j_nleL hb rfl
      split
      · omega
      · exact d0_dnum2 f (n + 1) (by omega)
theorem d0_X6_digitsOfNumber {m : Nat → Int32} {x : Int32} : 0 ≤ (R_X6_digitsOfNumber m x).toInt := d0_dnum2 _ _ (by omega)
/-! what the text says hangs on the text alone -/
def g_Tx (t m : Nat → Int32) : Prop := (∀ n, 890 ≤ n → n ≠ 981 → t n = m n) ∧ (m 980).toInt ≤ 90
section TX
variable {t m : Nat → Int32}
theorem cg_len (h : g_Tx t m) : t 980 = m 980 := h.1 980 (by omega) (by omega)
theorem cg_byteAt (h : g_Tx t m) (x : Int32) : R_X6_byteAt t x = R_X6_byteAt m x := by
  unfold R_X6_byteAt
  rw [cg_len h]
  by_cases a : x < 0
  · rw [if_pos a, if_pos a]
  · rw [if_neg a, if_neg a]
    by_cases b : m 980 ≤ x
    · rw [if_pos b, if_pos b]
    · have a' : (0 : Int) ≤ x.toInt := j_nltR a rfl
      have b' := j_nle b
      have := j_nat a'
      have := h.2
      rw [if_neg b, if_neg b, h.1 _ (by omega) (by omega)]
theorem cg_digitAt (h : g_Tx t m) (x : Int32) : R_X6_digitAt t x = R_X6_digitAt m x := by
  unfold R_X6_digitAt
  rw [cg_byteAt h]
theorem cg_behindEnd (h : g_Tx t m) (x : Int32) : R_X6_behindEnd t x = R_X6_behindEnd m x := by
  unfold R_X6_behindEnd R_X6_wrongAt
  rw [cg_byteAt h]
theorem cg_isUpTo (h : g_Tx t m) (k x : Int32) : R_X6_isUpTo t k x = R_X6_isUpTo m k x := by
  unfold R_X6_isUpTo
  rw [cg_digitAt h]
theorem cg_two (h : g_Tx t m) (x : Int32) : R_X6_behindTwoDigits t x = R_X6_behindTwoDigits m x := by
  unfold R_X6_behindTwoDigits R_X6_wrongAt
  rw [cg_isUpTo h, cg_isUpTo h, cg_behindEnd h]
theorem cg_dset4 (h : g_Tx t m) (x : Int32) : ∀ (f n : Nat) (v : Int32), R_X6_digitsOfSet_4 t x f v n = R_X6_digitsOfSet_4 m x f v n
  | 0, _, _ => rfl
  | f + 1, n, v => by
    unfold R_X6_digitsOfSet_4
    rw [cg_digitAt h, cg_dset4 h x f]
theorem cg_dset (h : g_Tx t m) (x : Int32) : R_X6_digitsOfSet t x = R_X6_digitsOfSet m x := cg_dset4 h x _ _ _
theorem cg_behindSet (h : g_Tx t m) (x : Int32) : R_X6_behindSet t x = R_X6_behindSet m x := by
  unfold R_X6_behindSet R_X6_wrongAt
  rw [cg_dset h, cg_behindEnd h]
theorem cg_dnum2 (h : g_Tx t m) (x : Int32) : ∀ (f n : Nat), R_X6_digitsOfNumber_2 t x f n = R_X6_digitsOfNumber_2 m x f n
  | 0, _ => rfl
  | f + 1, n => by
    unfold R_X6_digitsOfNumber_2
    rw [cg_digitAt h, cg_dnum2 h x f]
theorem cg_dnum (h : g_Tx t m) (x : Int32) : R_X6_digitsOfNumber t x = R_X6_digitsOfNumber m x := cg_dnum2 h x _ _
theorem cg_num5 (h : g_Tx t m) (x d : Int32) : ∀ (f n : Nat) (v : Int32), R_X6_numberOf_5 t x d f v n = R_X6_numberOf_5 m x d f v n
  | 0, _, _ => rfl
  | f + 1, n, v => by
    unfold R_X6_numberOf_5
    rw [cg_digitAt h, cg_num5 h x d f]
theorem cg_numOf (h : g_Tx t m) (x d : Int32) : R_X6_numberOf t x d = R_X6_numberOf m x d := cg_num5 h x d _ _ _
theorem cg_num (h : g_Tx t m) (x : Int32) : R_X6_numberAt t x = R_X6_numberAt m x := by
  unfold R_X6_numberAt
  rw [cg_dnum h, cg_numOf h]
theorem num_of {m : Nat → Int32} {x : Int32} : R_X6_numberOf m x (R_X6_digitsOfNumber m x) = R_X6_numberAt m x := rfl
theorem cg_behindNumber (h : g_Tx t m) (x : Int32) : R_X6_behindNumber t x = R_X6_behindNumber m x := by
  unfold R_X6_behindNumber R_X6_behindNumber_21 R_X6_behindNumber_47 R_X6_wrongAt
  rw [cg_dnum h, cg_digitAt h, cg_numOf h, cg_behindEnd h]
theorem cg_order (h : g_Tx t m) (x : Int32) : R_X6_behindOrder t x = R_X6_behindOrder m x := by
  unfold R_X6_behindOrder R_X6_behindOrder_144 R_X6_behindOrder_100 R_X6_behindOrder_92 R_X6_wrongAt
  rw [cg_byteAt h, cg_behindSet h, cg_two h, cg_behindNumber h, cg_isUpTo h, cg_behindEnd h]
/-- where the text has no fault, the order at its place has none either -/
theorem fw_step {f n : Nat} {v : Int32} (h : R_X6_firstWrong_4 m (f + 1) v n = -1) (hn : n < 90) (hv : v.toInt < (m 980).toInt) : 0 ≤ (R_X6_behindOrder m v).toInt ∧ R_X6_firstWrong_4 m f (R_X6_behindOrder m v) (n + 1) = -1 := by
  have hc : (nI n).toInt = (n : Int) := nI_toInt (by omega)
  unfold R_X6_firstWrong_4 at h
  rw [if_neg (fun z => by have z' : (90 : Int) ≤ (nI n).toInt := j_leL z rfl; omega), if_neg (fun z => by have := j_le z; omega)] at h
  by_cases a : 0 ≤ R_X6_behindOrder m v
  · rw [if_pos a] at h
    exact ⟨j_leL a rfl, h⟩
  · rw [if_neg a] at h
    have a' : (R_X6_behindOrder m v).toInt < 0 := j_nleL a rfl
    have hl := Int32.minValue_le_toInt (R_X6_behindOrder m v)
    have hl2 : Int32.minValue.toInt = -2147483648 := rfl
    unfold R_X6_wrongAt at h
    have e := j_subE (x := -1) (y := R_X6_behindOrder m v) (a := -1) (b := (R_X6_behindOrder m v).toInt) rfl rfl (by omega) (by omega)
    rw [h] at e
    have : (-1 : Int32).toInt = -1 := rfl
    omega
/-! what an order that can be obeyed says of its numbers -/
theorem ob_g {x : Int32} (h : ¬ R_X7_canObey m x = 0) (c0 : ¬ R_X6_byteAt m x = 99) (c1 : R_X6_byteAt m x = 103) : 0 ≤ (R_X6_digitAt m (x + 1)).toInt ∧ (R_X6_digitAt m (x + 1)).toInt < (m 2).toInt := by
  unfold R_X7_canObey at h
  rw [if_neg c0, if_pos c1] at h
  unfold R_X0_canWalk at h
  by_cases a : R_X0_isStanding m (R_X6_digitAt m (x + 1)) = 0
  · rw [if_pos a] at h; exact absurd rfl h
  · exact nz_X0_isStanding a
theorem ob_m {x : Int32} (h : ¬ R_X7_canObey m x = 0) (c0 : ¬ R_X6_byteAt m x = 99) (c1 : ¬ R_X6_byteAt m x = 103) (c2 : R_X6_byteAt m x = 109) : 0 ≤ (R_X6_digitAt m (x + 1)).toInt ∧ (R_X6_digitAt m (x + 1)).toInt < (m 2).toInt := by
  unfold R_X7_canObey at h
  rw [if_neg c0, if_neg c1, if_pos c2] at h
  unfold R_X0_canSend at h
  by_cases a : R_X0_isStanding m (R_X6_digitAt m (x + 1)) = 0
  · rw [if_pos a] at h; exact absurd rfl h
  · exact nz_X0_isStanding a
theorem ob_r {x : Int32} (h : ¬ R_X7_canObey m x = 0) (c0 : ¬ R_X6_byteAt m x = 99) (c1 : ¬ R_X6_byteAt m x = 103) (c2 : ¬ R_X6_byteAt m x = 109) (c3 : R_X6_byteAt m x = 114) : 0 ≤ (R_X6_digitAt m (x + 1)).toInt ∧ (R_X6_digitAt m (x + 1)).toInt < (m 2).toInt := by
  unfold R_X7_canObey at h
  rw [if_neg c0, if_neg c1, if_neg c2, if_pos c3] at h
  unfold R_X0_canRig at h
  by_cases a : R_X0_canLay m (R_X6_digitAt m (x + 1)) = 0
  · rw [if_pos a] at h; exact absurd rfl h
  · exact nz_X0_canLay a
theorem ob_t {x : Int32} (h : ¬ R_X7_canObey m x = 0) (c0 : ¬ R_X6_byteAt m x = 99) (c1 : ¬ R_X6_byteAt m x = 103) (c2 : ¬ R_X6_byteAt m x = 109) (c3 : ¬ R_X6_byteAt m x = 114) (c4 : R_X6_byteAt m x = 116) : 0 ≤ (R_X6_digitAt m (x + 1)).toInt ∧ (R_X6_digitAt m (x + 1)).toInt < (m 2).toInt := by
  unfold R_X7_canObey at h
  rw [if_neg c0, if_neg c1, if_neg c2, if_neg c3, if_pos c4] at h
  unfold R_X0_canTake at h
  by_cases a : R_X0_isStanding m (R_X6_digitAt m (x + 1)) = 0
  · rw [if_pos a] at h; exact absurd rfl h
  · exact nz_X0_isStanding a
theorem wrong_neg {x : Int32} (h0 : 0 ≤ x.toInt) : (R_X6_wrongAt m x).toInt < 0 := by
  have hx := Int32.toInt_le x
  have hm : Int32.maxValue.toInt = 2147483647 := rfl
  unfold R_X6_wrongAt
  rw [j_subE (a := -1) (b := x.toInt) rfl rfl (by omega) (by omega)]
  omega
theorem ob_p {x : Int32} (h0 : 0 ≤ x.toInt) (hx : x.toInt < 1000) (h : 0 ≤ (R_X6_behindOrder m x).toInt) (c0 : ¬ R_X6_byteAt m x = 99) (c1 : ¬ R_X6_byteAt m x = 103) (c2 : ¬ R_X6_byteAt m x = 109) (c3 : ¬ R_X6_byteAt m x = 114) (c4 : ¬ R_X6_byteAt m x = 116) : R_X6_byteAt m x = 112 ∧ (R_X6_numberAt m (x + 1)).toInt ≤ 600 := by
  have w := wrong_neg (m := m) h0
  have x1 := j_add1 (x := x) (by omega)
  unfold R_X6_behindOrder R_X6_behindOrder_144 at h
  rw [if_neg c0, if_neg c1, if_neg c2, if_neg c3, if_neg c4] at h
  by_cases a : R_X6_byteAt m x = 112
  · refine ⟨a, ?_⟩
    rw [if_neg (show ¬ R_X6_byteAt m x = 100 by rw [a]; decide), if_neg (show ¬ R_X6_byteAt m x = 101 by rw [a]; decide), if_neg (show ¬ R_X6_byteAt m x = 102 by rw [a]; decide), if_neg (show ¬ R_X6_byteAt m x = 104 by rw [a]; decide), if_neg (show ¬ R_X6_byteAt m x = 105 by rw [a]; decide), if_neg (show ¬ R_X6_byteAt m x = 106 by rw [a]; decide), if_neg (show ¬ R_X6_byteAt m x = 107 by rw [a]; decide), if_neg (show ¬ R_X6_byteAt m x = 108 by rw [a]; decide), if_neg (show ¬ R_X6_byteAt m x = 110 by rw [a]; decide), if_neg (show ¬ R_X6_byteAt m x = 111 by rw [a]; decide), if_pos a] at h
    have w1 := wrong_neg (m := m) (x := x + 1) (by omega)
    unfold R_X6_behindNumber R_X6_behindNumber_47 at h
    rw [num_of] at h
    by_cases z : R_X6_numberAt m (x + 1) ≤ 600
    · exact j_leR z rfl
    · exfalso
      have hd := b_X6_digitsOfNumber (m := m) (x := x + 1)
      by_cases d : R_X6_digitsOfNumber m (x + 1) = 0
      · rw [if_pos d] at h
        unfold R_X6_behindNumber_21 at h
        rw [d, Int32.add_zero] at h
        omega
      · rw [if_neg d] at h
        by_cases g : R_X6_digitAt m (x + 1 + R_X6_digitsOfNumber m (x + 1)) = -1
        · rw [if_pos g, if_neg z, ite_self] at h
          omega
        · rw [if_neg g] at h
          have h : 0 ≤ (R_X6_wrongAt m (x + 1 + R_X6_digitsOfNumber m (x + 1))).toInt := h
          have hd0 := d0_X6_digitsOfNumber (m := m) (x := x + 1)
          have e := j_add (x := x + 1) (y := R_X6_digitsOfNumber m (x + 1)) (by omega) (by omega)
          have w2 := wrong_neg (m := m) (x := x + 1 + R_X6_digitsOfNumber m (x + 1)) (by omega)
          omega
  · exfalso
    rw [if_neg a] at h
    simp only [ite_self] at h
    omega
end TX
def R_X7_obey (m : Nat → Int32) (x1 : Int32) : (Nat → Int32) := (if (R_X6_byteAt m x1) = 99 then (R_X0_startCarry m (R_X6_setAt m (x1 + 1))).2 else (if (R_X6_byteAt m x1) = 103 then (R_X0_startWalk m (R_X6_digitAt m (x1 + 1)) (R_X6_digitAt m (x1 + 2))).2 else (if (R_X6_byteAt m x1) = 109 then (R_X0_sendFrom m (R_X6_digitAt m (x1 + 1))) else (if (R_X6_byteAt m x1) = 114 then (R_X0_startRig m (R_X6_digitAt m (x1 + 1))).2 else (if (R_X6_byteAt m x1) = 116 then (R_X0_takeRope m (R_X6_digitAt m (x1 + 1)) (R_X6_digitAt m (x1 + 2))) else (R_X0_letPass m (R_X6_numberAt m (x1 + 1))).2)))))
set_option maxRecDepth 100000 in
set_option maxHeartbeats 4000000 in
theorem walk_X7_obey {X : g_X} (O : g_ok X cX7_obey RX7 none ({ frames := 5, cells := 0, slots := 0, locals := 120 } : Room)) (hs : (g_xl X).stackTraces = false) (hn : g_xn X = 4) {q : g_q} {m : Nat → Int32} {x1 : Int32} (p0 : (m 0).toInt ≤ 7) (p1 : (m 2).toInt ≤ 6) (p2 : (m 1).toInt ≤ 8) (p3 : 0 ≤ (m 6).toInt) (p4 : (m 6).toInt ≤ 10) (p5 : (m 980).toInt ≤ 90) (p6 : ¬ R_X7_canObey m x1 = 0) (p7 : 0 ≤ (R_X6_behindOrder m x1).toInt) (p8 : 0 ≤ x1.toInt) (p9 : x1.toInt < 1000) : g_V X (fun r : Nat → Int32 => ((.inl none, (r, q)) : g_Res)) (R_X7_obey m x1) 0 0 m q 0 [(0, .ref (g_ad X 122)), (1, .int x1)] [] := by
  have hN : ∀ i, Nat.blt i 4 = true → i < g_xn X := fun i h => by rw [hn]; exact g_blt.mp h
  refine r_aload_n O 0 dX7_obey_0 rfl rfl ?_
  refine r_get O FX7_27 G_122_3 dX7_obey_1 ?_
  refine r_iload_n O 1 dX7_obey_4 rfl rfl ?_
  refine r_iconst (x := 1) O dX7_obey_5 rfl ?_
  refine r_iadd O dX7_obey_6 ?_
  refine r_callVi O [.int (x1 + 1)] [] (met_X6_digitAt (g_xl X) hs q m (x1 + 1) (by first | decide | with_reducible assumption | with_reducible omega | (simp (disch := omega) only [g_upd_ne, g_upd_eq, fr_X4_fix, fr_X5_put, fr_X1_startAnew, fr_X1_walkTo, fr_X1_arrive, fr_X1_countBelow, fr_X3_set, fr_X0_startWalk, fr_X0_letMinutePass, fr_X3_goUp]; first | with_reducible assumption | with_reducible omega | decide) | (simp (disch := first | omega | with_reducible assumption) only [g_upd_ne, fr_save, fr_X0_takeRope]; first | with_reducible assumption | with_reducible omega) | exact (b_X3_goUp (by with_reducible assumption) (by with_reducible assumption)).1 | exact (b_X3_goUp (by with_reducible assumption) (by with_reducible assumption)).2 | exact Or.inl rfl | exact Or.inr rfl)) LX7_276 obj_120 rfl rfl rfl dX7_obey_7 rfl rfl ?_
  refine r_istore_n (lc' := [(2, .int (R_X6_digitAt m (x1 + 1))), (0, .ref (g_ad X 122)), (1, .int x1)]) O dX7_obey_10 rfl (hN 2 rfl) rfl ?_
  refine r_aload_n O 1 dX7_obey_11 rfl rfl ?_
  refine r_get O FX7_27 G_122_3 dX7_obey_12 ?_
  refine r_iload_n O 2 dX7_obey_15 rfl rfl ?_
  refine r_iconst (x := 2) O dX7_obey_16 rfl ?_
  refine r_iadd O dX7_obey_17 ?_
  refine r_callVi O [.int (x1 + 2)] [] (met_X6_digitAt (g_xl X) hs q m (x1 + 2) (by first | decide | with_reducible assumption | with_reducible omega | (simp (disch := omega) only [g_upd_ne, g_upd_eq, fr_X4_fix, fr_X5_put, fr_X1_startAnew, fr_X1_walkTo, fr_X1_arrive, fr_X1_countBelow, fr_X3_set, fr_X0_startWalk, fr_X0_letMinutePass, fr_X3_goUp]; first | with_reducible assumption | with_reducible omega | decide) | (simp (disch := first | omega | with_reducible assumption) only [g_upd_ne, fr_save, fr_X0_takeRope]; first | with_reducible assumption | with_reducible omega) | exact (b_X3_goUp (by with_reducible assumption) (by with_reducible assumption)).1 | exact (b_X3_goUp (by with_reducible assumption) (by with_reducible assumption)).2 | exact Or.inl rfl | exact Or.inr rfl)) LX7_276 obj_120 rfl rfl rfl dX7_obey_18 rfl rfl ?_
  refine r_istore_n (lc' := [(3, .int (R_X6_digitAt m (x1 + 2))), (2, .int (R_X6_digitAt m (x1 + 1))), (0, .ref (g_ad X 122)), (1, .int x1)]) O dX7_obey_21 rfl (hN 3 rfl) rfl ?_
  refine r_aload_n O 2 dX7_obey_22 rfl rfl ?_
  refine r_get O FX7_27 G_122_3 dX7_obey_23 ?_
  refine r_iload_n O 3 dX7_obey_26 rfl rfl ?_
  refine r_callVi O [.int x1] [] (met_X6_byteAt (g_xl X) hs q m x1 (by first | decide | with_reducible assumption | with_reducible omega | (simp (disch := omega) only [g_upd_ne, g_upd_eq, fr_X4_fix, fr_X5_put, fr_X1_startAnew, fr_X1_walkTo, fr_X1_arrive, fr_X1_countBelow, fr_X3_set, fr_X0_startWalk, fr_X0_letMinutePass, fr_X3_goUp]; first | with_reducible assumption | with_reducible omega | decide) | (simp (disch := first | omega | with_reducible assumption) only [g_upd_ne, fr_save, fr_X0_takeRope]; first | with_reducible assumption | with_reducible omega) | exact (b_X3_goUp (by with_reducible assumption) (by with_reducible assumption)).1 | exact (b_X3_goUp (by with_reducible assumption) (by with_reducible assumption)).2 | exact Or.inl rfl | exact Or.inr rfl)) LX7_279 obj_120 rfl rfl rfl dX7_obey_27 rfl rfl ?_
  refine g_if (fun c_30_0 => ?_) (fun c_30_0 => ?_)
  · refine r_lookup O (off := 98) 128 dX7_obey_30 rfl (by show Op.lookupswitch.offset [(99, 98), (103, 50), (109, 87), (114, 75), (116, 63)] 119 _ = 98; rw [c_30_0] <;> rfl) (by decide) ?_
    refine r_aload_n O 2 dX7_obey_128 rfl rfl ?_
    refine r_get O FX7_10 G_122_0 dX7_obey_129 ?_
    refine r_aload_n O 2 dX7_obey_132 rfl rfl ?_
    refine r_get O FX7_27 G_122_3 dX7_obey_133 ?_
    refine r_iload_n O 3 dX7_obey_136 rfl rfl ?_
    refine r_iconst (x := 1) O dX7_obey_137 rfl ?_
    refine r_iadd O dX7_obey_138 ?_
    refine r_callVi O [.int (x1 + 1)] [.ref (g_ad X 0)] (met_X6_setAt (g_xl X) hs q m (x1 + 1) (by first | decide | with_reducible assumption | with_reducible omega | (simp (disch := omega) only [g_upd_ne, g_upd_eq, fr_X4_fix, fr_X5_put, fr_X1_startAnew, fr_X1_walkTo, fr_X1_arrive, fr_X1_countBelow, fr_X3_set, fr_X0_startWalk, fr_X0_letMinutePass, fr_X3_goUp]; first | with_reducible assumption | with_reducible omega | decide) | (simp (disch := first | omega | with_reducible assumption) only [g_upd_ne, fr_save, fr_X0_takeRope]; first | with_reducible assumption | with_reducible omega) | exact (b_X3_goUp (by with_reducible assumption) (by with_reducible assumption)).1 | exact (b_X3_goUp (by with_reducible assumption) (by with_reducible assumption)).2 | exact Or.inl rfl | exact Or.inr rfl)) LX7_282 obj_120 rfl rfl rfl dX7_obey_139 rfl rfl ?_
    refine r_callVi O [.int (R_X6_setAt m (x1 + 1))] [] (met_X0_startCarry (g_xl X) hs q m (R_X6_setAt m (x1 + 1)) (by first | decide | with_reducible assumption | with_reducible omega | (simp (disch := omega) only [g_upd_ne, g_upd_eq, fr_X4_fix, fr_X5_put, fr_X1_startAnew, fr_X1_walkTo, fr_X1_arrive, fr_X1_countBelow, fr_X3_set, fr_X0_startWalk, fr_X0_letMinutePass, fr_X3_goUp]; first | with_reducible assumption | with_reducible omega | decide) | (simp (disch := first | omega | with_reducible assumption) only [g_upd_ne, fr_save, fr_X0_takeRope]; first | with_reducible assumption | with_reducible omega) | exact (b_X3_goUp (by with_reducible assumption) (by with_reducible assumption)).1 | exact (b_X3_goUp (by with_reducible assumption) (by with_reducible assumption)).2 | exact Or.inl rfl | exact Or.inr rfl) (by first | decide | with_reducible assumption | with_reducible omega | (simp (disch := omega) only [g_upd_ne, g_upd_eq, fr_X4_fix, fr_X5_put, fr_X1_startAnew, fr_X1_walkTo, fr_X1_arrive, fr_X1_countBelow, fr_X3_set, fr_X0_startWalk, fr_X0_letMinutePass, fr_X3_goUp]; first | with_reducible assumption | with_reducible omega | decide) | (simp (disch := first | omega | with_reducible assumption) only [g_upd_ne, fr_save, fr_X0_takeRope]; first | with_reducible assumption | with_reducible omega) | exact (b_X3_goUp (by with_reducible assumption) (by with_reducible assumption)).1 | exact (b_X3_goUp (by with_reducible assumption) (by with_reducible assumption)).2 | exact Or.inl rfl | exact Or.inr rfl)) LX7_138 obj_0 rfl rfl rfl dX7_obey_142 rfl rfl ?_
    refine r_pop O dX7_obey_145 rfl ?_
    refine r_goto O 167 dX7_obey_146 (by decide) ?_
    exact r_vret O dX7_obey_167 (Nat.le_of_ble_eq_true rfl) (Nat.le_of_ble_eq_true rfl) rfl
  · refine g_if (fun c_30_1 => ?_) (fun c_30_1 => ?_)
    · obtain ⟨o1, o2⟩ := ob_g p6 c_30_0 c_30_1
      refine r_lookup O (off := 50) 80 dX7_obey_30 rfl (by show Op.lookupswitch.offset [(99, 98), (103, 50), (109, 87), (114, 75), (116, 63)] 119 _ = 50; rw [lv_osw (a := 99) c_30_0 rfl, c_30_1] <;> rfl) (by decide) ?_
      refine r_aload_n O 2 dX7_obey_80 rfl rfl ?_
      refine r_get O FX7_10 G_122_0 dX7_obey_81 ?_
      refine r_iload_n O 1 dX7_obey_84 rfl rfl ?_
      refine r_iload_n O 0 dX7_obey_85 rfl rfl ?_
      refine r_callVi O [.int (R_X6_digitAt m (x1 + 1)), .int (R_X6_digitAt m (x1 + 2))] [] (met_X0_startWalk (g_xl X) hs q m (R_X6_digitAt m (x1 + 1)) (R_X6_digitAt m (x1 + 2)) (by first | decide | with_reducible assumption | with_reducible omega | (simp (disch := omega) only [g_upd_ne, g_upd_eq, fr_X4_fix, fr_X5_put, fr_X1_startAnew, fr_X1_walkTo, fr_X1_arrive, fr_X1_countBelow, fr_X3_set, fr_X0_startWalk, fr_X0_letMinutePass, fr_X3_goUp]; first | with_reducible assumption | with_reducible omega | decide) | (simp (disch := first | omega | with_reducible assumption) only [g_upd_ne, fr_save, fr_X0_takeRope]; first | with_reducible assumption | with_reducible omega) | exact (b_X3_goUp (by with_reducible assumption) (by with_reducible assumption)).1 | exact (b_X3_goUp (by with_reducible assumption) (by with_reducible assumption)).2 | exact Or.inl rfl | exact Or.inr rfl) (by first | decide | with_reducible assumption | with_reducible omega | (simp (disch := omega) only [g_upd_ne, g_upd_eq, fr_X4_fix, fr_X5_put, fr_X1_startAnew, fr_X1_walkTo, fr_X1_arrive, fr_X1_countBelow, fr_X3_set, fr_X0_startWalk, fr_X0_letMinutePass, fr_X3_goUp]; first | with_reducible assumption | with_reducible omega | decide) | (simp (disch := first | omega | with_reducible assumption) only [g_upd_ne, fr_save, fr_X0_takeRope]; first | with_reducible assumption | with_reducible omega) | exact (b_X3_goUp (by with_reducible assumption) (by with_reducible assumption)).1 | exact (b_X3_goUp (by with_reducible assumption) (by with_reducible assumption)).2 | exact Or.inl rfl | exact Or.inr rfl) (by first | decide | with_reducible assumption | with_reducible omega | (simp (disch := omega) only [g_upd_ne, g_upd_eq, fr_X4_fix, fr_X5_put, fr_X1_startAnew, fr_X1_walkTo, fr_X1_arrive, fr_X1_countBelow, fr_X3_set, fr_X0_startWalk, fr_X0_letMinutePass, fr_X3_goUp]; first | with_reducible assumption | with_reducible omega | decide) | (simp (disch := first | omega | with_reducible assumption) only [g_upd_ne, fr_save, fr_X0_takeRope]; first | with_reducible assumption | with_reducible omega) | exact (b_X3_goUp (by with_reducible assumption) (by with_reducible assumption)).1 | exact (b_X3_goUp (by with_reducible assumption) (by with_reducible assumption)).2 | exact Or.inl rfl | exact Or.inr rfl)) LX7_98 obj_0 rfl rfl rfl dX7_obey_86 rfl rfl ?_
      refine r_pop O dX7_obey_89 rfl ?_
      refine r_goto O 167 dX7_obey_90 (by decide) ?_
      exact r_vret O dX7_obey_167 (Nat.le_of_ble_eq_true rfl) (Nat.le_of_ble_eq_true rfl) rfl
    · refine g_if (fun c_30_2 => ?_) (fun c_30_2 => ?_)
      · obtain ⟨o1, o2⟩ := ob_m p6 c_30_0 c_30_1 c_30_2
        refine r_lookup O (off := 87) 117 dX7_obey_30 rfl (by show Op.lookupswitch.offset [(99, 98), (103, 50), (109, 87), (114, 75), (116, 63)] 119 _ = 87; rw [lv_osw (a := 99) c_30_0 rfl, lv_osw (a := 103) c_30_1 rfl, c_30_2] <;> rfl) (by decide) ?_
        refine r_aload_n O 2 dX7_obey_117 rfl rfl ?_
        refine r_get O FX7_10 G_122_0 dX7_obey_118 ?_
        refine r_iload_n O 1 dX7_obey_121 rfl rfl ?_
        refine r_callVv O [.int (R_X6_digitAt m (x1 + 1))] [] (met_X0_sendFrom (g_xl X) hs q m (R_X6_digitAt m (x1 + 1)) (by first | decide | with_reducible assumption | with_reducible omega | (simp (disch := omega) only [g_upd_ne, g_upd_eq, fr_X4_fix, fr_X5_put, fr_X1_startAnew, fr_X1_walkTo, fr_X1_arrive, fr_X1_countBelow, fr_X3_set, fr_X0_startWalk, fr_X0_letMinutePass, fr_X3_goUp]; first | with_reducible assumption | with_reducible omega | decide) | (simp (disch := first | omega | with_reducible assumption) only [g_upd_ne, fr_save, fr_X0_takeRope]; first | with_reducible assumption | with_reducible omega) | exact (b_X3_goUp (by with_reducible assumption) (by with_reducible assumption)).1 | exact (b_X3_goUp (by with_reducible assumption) (by with_reducible assumption)).2 | exact Or.inl rfl | exact Or.inr rfl) (by first | decide | with_reducible assumption | with_reducible omega | (simp (disch := omega) only [g_upd_ne, g_upd_eq, fr_X4_fix, fr_X5_put, fr_X1_startAnew, fr_X1_walkTo, fr_X1_arrive, fr_X1_countBelow, fr_X3_set, fr_X0_startWalk, fr_X0_letMinutePass, fr_X3_goUp]; first | with_reducible assumption | with_reducible omega | decide) | (simp (disch := first | omega | with_reducible assumption) only [g_upd_ne, fr_save, fr_X0_takeRope]; first | with_reducible assumption | with_reducible omega) | exact (b_X3_goUp (by with_reducible assumption) (by with_reducible assumption)).1 | exact (b_X3_goUp (by with_reducible assumption) (by with_reducible assumption)).2 | exact Or.inl rfl | exact Or.inr rfl) (by first | decide | with_reducible assumption | with_reducible omega | (simp (disch := omega) only [g_upd_ne, g_upd_eq, fr_X4_fix, fr_X5_put, fr_X1_startAnew, fr_X1_walkTo, fr_X1_arrive, fr_X1_countBelow, fr_X3_set, fr_X0_startWalk, fr_X0_letMinutePass, fr_X3_goUp]; first | with_reducible assumption | with_reducible omega | decide) | (simp (disch := first | omega | with_reducible assumption) only [g_upd_ne, fr_save, fr_X0_takeRope]; first | with_reducible assumption | with_reducible omega) | exact (b_X3_goUp (by with_reducible assumption) (by with_reducible assumption)).1 | exact (b_X3_goUp (by with_reducible assumption) (by with_reducible assumption)).2 | exact Or.inl rfl | exact Or.inr rfl) (by first | decide | with_reducible assumption | with_reducible omega | (simp (disch := omega) only [g_upd_ne, g_upd_eq, fr_X4_fix, fr_X5_put, fr_X1_startAnew, fr_X1_walkTo, fr_X1_arrive, fr_X1_countBelow, fr_X3_set, fr_X0_startWalk, fr_X0_letMinutePass, fr_X3_goUp]; first | with_reducible assumption | with_reducible omega | decide) | (simp (disch := first | omega | with_reducible assumption) only [g_upd_ne, fr_save, fr_X0_takeRope]; first | with_reducible assumption | with_reducible omega) | exact (b_X3_goUp (by with_reducible assumption) (by with_reducible assumption)).1 | exact (b_X3_goUp (by with_reducible assumption) (by with_reducible assumption)).2 | exact Or.inl rfl | exact Or.inr rfl)) LX7_144 obj_0 rfl rfl rfl dX7_obey_122 rfl rfl ?_
        refine r_goto O 167 dX7_obey_125 (by decide) ?_
        exact r_vret O dX7_obey_167 (Nat.le_of_ble_eq_true rfl) (Nat.le_of_ble_eq_true rfl) rfl
      · refine g_if (fun c_30_3 => ?_) (fun c_30_3 => ?_)
        · obtain ⟨o1, o2⟩ := ob_r p6 c_30_0 c_30_1 c_30_2 c_30_3
          refine r_lookup O (off := 75) 105 dX7_obey_30 rfl (by show Op.lookupswitch.offset [(99, 98), (103, 50), (109, 87), (114, 75), (116, 63)] 119 _ = 75; rw [lv_osw (a := 99) c_30_0 rfl, lv_osw (a := 103) c_30_1 rfl, lv_osw (a := 109) c_30_2 rfl, c_30_3] <;> rfl) (by decide) ?_
          refine r_aload_n O 2 dX7_obey_105 rfl rfl ?_
          refine r_get O FX7_10 G_122_0 dX7_obey_106 ?_
          refine r_iload_n O 1 dX7_obey_109 rfl rfl ?_
          refine r_callVi O [.int (R_X6_digitAt m (x1 + 1))] [] (met_X0_startRig (g_xl X) hs q m (R_X6_digitAt m (x1 + 1)) (by first | decide | with_reducible assumption | with_reducible omega | (simp (disch := omega) only [g_upd_ne, g_upd_eq, fr_X4_fix, fr_X5_put, fr_X1_startAnew, fr_X1_walkTo, fr_X1_arrive, fr_X1_countBelow, fr_X3_set, fr_X0_startWalk, fr_X0_letMinutePass, fr_X3_goUp]; first | with_reducible assumption | with_reducible omega | decide) | (simp (disch := first | omega | with_reducible assumption) only [g_upd_ne, fr_save, fr_X0_takeRope]; first | with_reducible assumption | with_reducible omega) | exact (b_X3_goUp (by with_reducible assumption) (by with_reducible assumption)).1 | exact (b_X3_goUp (by with_reducible assumption) (by with_reducible assumption)).2 | exact Or.inl rfl | exact Or.inr rfl) (by first | decide | with_reducible assumption | with_reducible omega | (simp (disch := omega) only [g_upd_ne, g_upd_eq, fr_X4_fix, fr_X5_put, fr_X1_startAnew, fr_X1_walkTo, fr_X1_arrive, fr_X1_countBelow, fr_X3_set, fr_X0_startWalk, fr_X0_letMinutePass, fr_X3_goUp]; first | with_reducible assumption | with_reducible omega | decide) | (simp (disch := first | omega | with_reducible assumption) only [g_upd_ne, fr_save, fr_X0_takeRope]; first | with_reducible assumption | with_reducible omega) | exact (b_X3_goUp (by with_reducible assumption) (by with_reducible assumption)).1 | exact (b_X3_goUp (by with_reducible assumption) (by with_reducible assumption)).2 | exact Or.inl rfl | exact Or.inr rfl)) LX7_120 obj_0 rfl rfl rfl dX7_obey_110 rfl rfl ?_
          refine r_pop O dX7_obey_113 rfl ?_
          refine r_goto O 167 dX7_obey_114 (by decide) ?_
          exact r_vret O dX7_obey_167 (Nat.le_of_ble_eq_true rfl) (Nat.le_of_ble_eq_true rfl) rfl
        · refine g_if (fun c_30_4 => ?_) (fun c_30_4 => ?_)
          · obtain ⟨o1, o2⟩ := ob_t p6 c_30_0 c_30_1 c_30_2 c_30_3 c_30_4
            refine r_lookup O (off := 63) 93 dX7_obey_30 rfl (by show Op.lookupswitch.offset [(99, 98), (103, 50), (109, 87), (114, 75), (116, 63)] 119 _ = 63; rw [lv_osw (a := 99) c_30_0 rfl, lv_osw (a := 103) c_30_1 rfl, lv_osw (a := 109) c_30_2 rfl, lv_osw (a := 114) c_30_3 rfl, c_30_4] <;> rfl) (by decide) ?_
            refine r_aload_n O 2 dX7_obey_93 rfl rfl ?_
            refine r_get O FX7_10 G_122_0 dX7_obey_94 ?_
            refine r_iload_n O 1 dX7_obey_97 rfl rfl ?_
            refine r_iload_n O 0 dX7_obey_98 rfl rfl ?_
            refine r_callVv O [.int (R_X6_digitAt m (x1 + 1)), .int (R_X6_digitAt m (x1 + 2))] [] (met_X0_takeRope (g_xl X) hs q m (R_X6_digitAt m (x1 + 1)) (R_X6_digitAt m (x1 + 2)) (by first | decide | with_reducible assumption | with_reducible omega | (simp (disch := omega) only [g_upd_ne, g_upd_eq, fr_X4_fix, fr_X5_put, fr_X1_startAnew, fr_X1_walkTo, fr_X1_arrive, fr_X1_countBelow, fr_X3_set, fr_X0_startWalk, fr_X0_letMinutePass, fr_X3_goUp]; first | with_reducible assumption | with_reducible omega | decide) | (simp (disch := first | omega | with_reducible assumption) only [g_upd_ne, fr_save, fr_X0_takeRope]; first | with_reducible assumption | with_reducible omega) | exact (b_X3_goUp (by with_reducible assumption) (by with_reducible assumption)).1 | exact (b_X3_goUp (by with_reducible assumption) (by with_reducible assumption)).2 | exact Or.inl rfl | exact Or.inr rfl) (by first | decide | with_reducible assumption | with_reducible omega | (simp (disch := omega) only [g_upd_ne, g_upd_eq, fr_X4_fix, fr_X5_put, fr_X1_startAnew, fr_X1_walkTo, fr_X1_arrive, fr_X1_countBelow, fr_X3_set, fr_X0_startWalk, fr_X0_letMinutePass, fr_X3_goUp]; first | with_reducible assumption | with_reducible omega | decide) | (simp (disch := first | omega | with_reducible assumption) only [g_upd_ne, fr_save, fr_X0_takeRope]; first | with_reducible assumption | with_reducible omega) | exact (b_X3_goUp (by with_reducible assumption) (by with_reducible assumption)).1 | exact (b_X3_goUp (by with_reducible assumption) (by with_reducible assumption)).2 | exact Or.inl rfl | exact Or.inr rfl) (by first | decide | with_reducible assumption | with_reducible omega | (simp (disch := omega) only [g_upd_ne, g_upd_eq, fr_X4_fix, fr_X5_put, fr_X1_startAnew, fr_X1_walkTo, fr_X1_arrive, fr_X1_countBelow, fr_X3_set, fr_X0_startWalk, fr_X0_letMinutePass, fr_X3_goUp]; first | with_reducible assumption | with_reducible omega | decide) | (simp (disch := first | omega | with_reducible assumption) only [g_upd_ne, fr_save, fr_X0_takeRope]; first | with_reducible assumption | with_reducible omega) | exact (b_X3_goUp (by with_reducible assumption) (by with_reducible assumption)).1 | exact (b_X3_goUp (by with_reducible assumption) (by with_reducible assumption)).2 | exact Or.inl rfl | exact Or.inr rfl)) LX7_105 obj_0 rfl rfl rfl dX7_obey_99 rfl rfl ?_
            refine r_goto O 167 dX7_obey_102 (by decide) ?_
            exact r_vret O dX7_obey_167 (Nat.le_of_ble_eq_true rfl) (Nat.le_of_ble_eq_true rfl) rfl
          · have o1 := (ob_p p8 p9 p7 c_30_0 c_30_1 c_30_2 c_30_3 c_30_4).2
            refine r_lookup O (off := 119) 149 dX7_obey_30 rfl (by show Op.lookupswitch.offset [(99, 98), (103, 50), (109, 87), (114, 75), (116, 63)] 119 _ = 119; rw [lv_osw (a := 99) c_30_0 rfl, lv_osw (a := 103) c_30_1 rfl, lv_osw (a := 109) c_30_2 rfl, lv_osw (a := 114) c_30_3 rfl, lv_osw (a := 116) c_30_4 rfl] <;> rfl) (by decide) ?_
            refine r_aload_n O 2 dX7_obey_149 rfl rfl ?_
            refine r_get O FX7_10 G_122_0 dX7_obey_150 ?_
            refine r_aload_n O 2 dX7_obey_153 rfl rfl ?_
            refine r_get O FX7_27 G_122_3 dX7_obey_154 ?_
            refine r_iload_n O 3 dX7_obey_157 rfl rfl ?_
            refine r_iconst (x := 1) O dX7_obey_158 rfl ?_
            refine r_iadd O dX7_obey_159 ?_
            refine r_callVi O [.int (x1 + 1)] [.ref (g_ad X 0)] (met_X6_numberAt (g_xl X) hs q m (x1 + 1) (by first | decide | with_reducible assumption | with_reducible omega | (simp (disch := omega) only [g_upd_ne, g_upd_eq, fr_X4_fix, fr_X5_put, fr_X1_startAnew, fr_X1_walkTo, fr_X1_arrive, fr_X1_countBelow, fr_X3_set, fr_X0_startWalk, fr_X0_letMinutePass, fr_X3_goUp]; first | with_reducible assumption | with_reducible omega | decide) | (simp (disch := first | omega | with_reducible assumption) only [g_upd_ne, fr_save, fr_X0_takeRope]; first | with_reducible assumption | with_reducible omega) | exact (b_X3_goUp (by with_reducible assumption) (by with_reducible assumption)).1 | exact (b_X3_goUp (by with_reducible assumption) (by with_reducible assumption)).2 | exact Or.inl rfl | exact Or.inr rfl)) LX7_285 obj_120 rfl rfl rfl dX7_obey_160 rfl rfl ?_
            refine r_callVi O [.int (R_X6_numberAt m (x1 + 1))] [] (met_X0_letPass (g_xl X) hs q m (R_X6_numberAt m (x1 + 1)) (by first | decide | with_reducible assumption | with_reducible omega | (simp (disch := omega) only [g_upd_ne, g_upd_eq, fr_X4_fix, fr_X5_put, fr_X1_startAnew, fr_X1_walkTo, fr_X1_arrive, fr_X1_countBelow, fr_X3_set, fr_X0_startWalk, fr_X0_letMinutePass, fr_X3_goUp]; first | with_reducible assumption | with_reducible omega | decide) | (simp (disch := first | omega | with_reducible assumption) only [g_upd_ne, fr_save, fr_X0_takeRope]; first | with_reducible assumption | with_reducible omega) | exact (b_X3_goUp (by with_reducible assumption) (by with_reducible assumption)).1 | exact (b_X3_goUp (by with_reducible assumption) (by with_reducible assumption)).2 | exact Or.inl rfl | exact Or.inr rfl) (by first | decide | with_reducible assumption | with_reducible omega | (simp (disch := omega) only [g_upd_ne, g_upd_eq, fr_X4_fix, fr_X5_put, fr_X1_startAnew, fr_X1_walkTo, fr_X1_arrive, fr_X1_countBelow, fr_X3_set, fr_X0_startWalk, fr_X0_letMinutePass, fr_X3_goUp]; first | with_reducible assumption | with_reducible omega | decide) | (simp (disch := first | omega | with_reducible assumption) only [g_upd_ne, fr_save, fr_X0_takeRope]; first | with_reducible assumption | with_reducible omega) | exact (b_X3_goUp (by with_reducible assumption) (by with_reducible assumption)).1 | exact (b_X3_goUp (by with_reducible assumption) (by with_reducible assumption)).2 | exact Or.inl rfl | exact Or.inr rfl) (by first | decide | with_reducible assumption | with_reducible omega | (simp (disch := omega) only [g_upd_ne, g_upd_eq, fr_X4_fix, fr_X5_put, fr_X1_startAnew, fr_X1_walkTo, fr_X1_arrive, fr_X1_countBelow, fr_X3_set, fr_X0_startWalk, fr_X0_letMinutePass, fr_X3_goUp]; first | with_reducible assumption | with_reducible omega | decide) | (simp (disch := first | omega | with_reducible assumption) only [g_upd_ne, fr_save, fr_X0_takeRope]; first | with_reducible assumption | with_reducible omega) | exact (b_X3_goUp (by with_reducible assumption) (by with_reducible assumption)).1 | exact (b_X3_goUp (by with_reducible assumption) (by with_reducible assumption)).2 | exact Or.inl rfl | exact Or.inr rfl) (by first | decide | with_reducible assumption | with_reducible omega | (simp (disch := omega) only [g_upd_ne, g_upd_eq, fr_X4_fix, fr_X5_put, fr_X1_startAnew, fr_X1_walkTo, fr_X1_arrive, fr_X1_countBelow, fr_X3_set, fr_X0_startWalk, fr_X0_letMinutePass, fr_X3_goUp]; first | with_reducible assumption | with_reducible omega | decide) | (simp (disch := first | omega | with_reducible assumption) only [g_upd_ne, fr_save, fr_X0_takeRope]; first | with_reducible assumption | with_reducible omega) | exact (b_X3_goUp (by with_reducible assumption) (by with_reducible assumption)).1 | exact (b_X3_goUp (by with_reducible assumption) (by with_reducible assumption)).2 | exact Or.inl rfl | exact Or.inr rfl) (by first | decide | with_reducible assumption | with_reducible omega | (simp (disch := omega) only [g_upd_ne, g_upd_eq, fr_X4_fix, fr_X5_put, fr_X1_startAnew, fr_X1_walkTo, fr_X1_arrive, fr_X1_countBelow, fr_X3_set, fr_X0_startWalk, fr_X0_letMinutePass, fr_X3_goUp]; first | with_reducible assumption | with_reducible omega | decide) | (simp (disch := first | omega | with_reducible assumption) only [g_upd_ne, fr_save, fr_X0_takeRope]; first | with_reducible assumption | with_reducible omega) | exact (b_X3_goUp (by with_reducible assumption) (by with_reducible assumption)).1 | exact (b_X3_goUp (by with_reducible assumption) (by with_reducible assumption)).2 | exact Or.inl rfl | exact Or.inr rfl) (by first | decide | with_reducible assumption | with_reducible omega | (simp (disch := omega) only [g_upd_ne, g_upd_eq, fr_X4_fix, fr_X5_put, fr_X1_startAnew, fr_X1_walkTo, fr_X1_arrive, fr_X1_countBelow, fr_X3_set, fr_X0_startWalk, fr_X0_letMinutePass, fr_X3_goUp]; first | with_reducible assumption | with_reducible omega | decide) | (simp (disch := first | omega | with_reducible assumption) only [g_upd_ne, fr_save, fr_X0_takeRope]; first | with_reducible assumption | with_reducible omega) | exact (b_X3_goUp (by with_reducible assumption) (by with_reducible assumption)).1 | exact (b_X3_goUp (by with_reducible assumption) (by with_reducible assumption)).2 | exact Or.inl rfl | exact Or.inr rfl)) LX7_157 obj_0 rfl rfl rfl dX7_obey_163 rfl rfl ?_
            refine r_pop O dX7_obey_166 rfl ?_
            exact r_vret O dX7_obey_167 (Nat.le_of_ble_eq_true rfl) (Nat.le_of_ble_eq_true rfl) rfl
theorem met_X7_obey (l : Launch) (hs : l.stackTraces = false) (q : g_q) (m : Nat → Int32) (x1 : Int32) (p0 : (m 0).toInt ≤ 7) (p1 : (m 2).toInt ≤ 6) (p2 : (m 1).toInt ≤ 8) (p3 : 0 ≤ (m 6).toInt) (p4 : (m 6).toInt ≤ 10) (p5 : (m 980).toInt ≤ 90) (p6 : ¬ R_X7_canObey m x1 = 0) (p7 : 0 ≤ (R_X6_behindOrder m x1).toInt) (p8 : 0 ≤ x1.toInt) (p9 : x1.toInt < 1000) : g_SM l yX7_obey cX7_obey 4 none ({ frames := 5, cells := 0, slots := 0, locals := 120 } : Room) (fun ad => [.ref (ad 122), .int x1]) m q ((fun r : Nat → Int32 => ((.inl none, (r, q)) : g_Res)) (R_X7_obey m x1)) :=
  g_sm_of (by decide) (fun _ => Nat.le_of_ble_eq_true rfl) hs (fun X hl hn O => walk_X7_obey O (by rw [hl]; exact hs) hn p0 p1 p2 p3 p4 p5 p6 p7 p8 p9)
