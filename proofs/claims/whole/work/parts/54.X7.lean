/-! ===== the face of the class: what is told ===== -/
theorem b_canWalk {m : Nat → Int32} {x y : Int32} : R_X0_canWalk m x y = 0 ∨ R_X0_canWalk m x y = 1 := by
  unfold R_X0_canWalk
  repeat' split
  all_goals first | exact Or.inl rfl | exact Or.inr rfl
theorem b_canTake {m : Nat → Int32} {x y : Int32} : R_X0_canTake m x y = 0 ∨ R_X0_canTake m x y = 1 := by
  unfold R_X0_canTake
  repeat' split
  all_goals first | exact Or.inl rfl | exact Or.inr rfl
theorem b_canRig {m : Nat → Int32} {x : Int32} : R_X0_canRig m x = 0 ∨ R_X0_canRig m x = 1 := by
  unfold R_X0_canRig
  repeat' split
  all_goals first | exact Or.inl rfl | exact Or.inr rfl
theorem b_canSend {m : Nat → Int32} {x : Int32} : R_X0_canSend m x = 0 ∨ R_X0_canSend m x = 1 := by
  unfold R_X0_canSend
  repeat' split
  all_goals first | exact Or.inl rfl | exact Or.inr rfl
theorem b_canPass {m : Nat → Int32} {x : Int32} : R_X0_canPass m x = 0 ∨ R_X0_canPass m x = 1 := by
  unfold R_X0_canPass
  repeat' split
  all_goals first | exact Or.inl rfl | exact Or.inr rfl
def R_X7_carryMinutes (m : Nat → Int32) : Int32 := (if (m 5) = 0 then (if (R_X4_isOpenUp m (m 4)) = 0 then (-1) else (3 * (R_X4_wayUp m (m 4)))) else (-1))
set_option maxRecDepth 100000 in
set_option maxHeartbeats 4000000 in
theorem walk_X7_carryMinutes {X : g_X} (O : g_ok X cX7_carryMinutes RX7 (some .int) ({ frames := 3, cells := 0, slots := 0, locals := 64 } : Room)) (hs : (g_xl X).stackTraces = false) (hn : g_xn X = 1) {q : g_q} {m : Nat → Int32} (p0 : (m 0).toInt ≤ 7) : g_V X (fun r : Int32 => ((.inl (some (.int r)), (m, q)) : g_Res)) (R_X7_carryMinutes m) 0 0 m q 0 [(0, .ref (g_ad X 122))] [] := by
  have hN : ∀ i, Nat.blt i 1 = true → i < g_xn X := fun i h => by rw [hn]; exact g_blt.mp h
  refine r_aload_n O 0 dX7_carryMinutes_0 rfl rfl ?_
  refine r_get O FX7_10 G_122_0 dX7_carryMinutes_1 ?_
  refine r_get O FX7_203 G_0_8 dX7_carryMinutes_4 ?_
  refine r_if_ne O 30 dX7_carryMinutes_7 (by decide) (fun c_7 => ?_) (fun c_7 => ?_)
  · have e_7 : (m 5).toInt = (0 : Int) := j_eqR c_7 rfl
    refine r_aload_n O 0 dX7_carryMinutes_10 rfl rfl ?_
    refine r_get O FX7_10 G_122_0 dX7_carryMinutes_11 ?_
    refine r_get O FX7_45 G_0_0 dX7_carryMinutes_14 ?_
    refine r_aload_n O 0 dX7_carryMinutes_17 rfl rfl ?_
    refine r_get O FX7_10 G_122_0 dX7_carryMinutes_18 ?_
    refine r_get O FX7_207 G_0_7 dX7_carryMinutes_21 ?_
    refine r_callVi O [.int (m 4)] [] (met_X4_isOpenUp (g_xl X) hs q m (m 4) (by first | decide | with_reducible assumption | with_reducible omega | (simp (disch := omega) only [g_upd_ne, g_upd_eq, fr_X4_fix, fr_X5_put, fr_X1_startAnew, fr_X1_walkTo, fr_X1_arrive, fr_X1_countBelow, fr_X3_set, fr_X0_startWalk, fr_X0_letMinutePass, fr_X3_goUp]; first | with_reducible assumption | with_reducible omega | decide) | (simp (disch := first | omega | with_reducible assumption) only [g_upd_ne, fr_save, fr_X0_takeRope]; first | with_reducible assumption | with_reducible omega) | exact (b_X3_goUp (by with_reducible assumption) (by with_reducible assumption)).1 | exact (b_X3_goUp (by with_reducible assumption) (by with_reducible assumption)).2 | exact Or.inl rfl | exact Or.inr rfl)) LX7_210 obj_1 rfl rfl rfl dX7_carryMinutes_24 rfl rfl ?_
    refine r_if_ne O 32 dX7_carryMinutes_27 (by decide) (fun c_27 => ?_) (fun c_27 => ?_)
    · have e_27 : (R_X4_isOpenUp m (m 4)).toInt = (0 : Int) := j_eqR c_27 rfl
      refine r_iconst (x := (-1)) O dX7_carryMinutes_30 rfl ?_
      exact r_iret O dX7_carryMinutes_31 rfl (Nat.le_of_ble_eq_true rfl) (Nat.le_of_ble_eq_true rfl) rfl
    · have e_27 : (R_X4_isOpenUp m (m 4)).toInt ≠ (0 : Int) := j_neR c_27 rfl
      refine r_iconst (x := 3) O dX7_carryMinutes_32 rfl ?_
      refine r_aload_n O 0 dX7_carryMinutes_33 rfl rfl ?_
      refine r_get O FX7_10 G_122_0 dX7_carryMinutes_34 ?_
      refine r_get O FX7_45 G_0_0 dX7_carryMinutes_37 ?_
      refine r_aload_n O 0 dX7_carryMinutes_40 rfl rfl ?_
      refine r_get O FX7_10 G_122_0 dX7_carryMinutes_41 ?_
      refine r_get O FX7_207 G_0_7 dX7_carryMinutes_44 ?_
      refine r_callVi O [.int (m 4)] [.int 3] (met_X4_wayUp (g_xl X) hs q m (m 4) (by first | decide | with_reducible assumption | with_reducible omega | (simp (disch := omega) only [g_upd_ne, g_upd_eq, fr_X4_fix, fr_X5_put, fr_X1_startAnew, fr_X1_walkTo, fr_X1_arrive, fr_X1_countBelow, fr_X3_set, fr_X0_startWalk, fr_X0_letMinutePass, fr_X3_goUp]; first | with_reducible assumption | with_reducible omega | decide) | (simp (disch := first | omega | with_reducible assumption) only [g_upd_ne, fr_save, fr_X0_takeRope]; first | with_reducible assumption | with_reducible omega) | exact (b_X3_goUp (by with_reducible assumption) (by with_reducible assumption)).1 | exact (b_X3_goUp (by with_reducible assumption) (by with_reducible assumption)).2 | exact Or.inl rfl | exact Or.inr rfl)) LX7_213 obj_1 rfl rfl rfl dX7_carryMinutes_47 rfl rfl ?_
      refine r_imul O dX7_carryMinutes_50 ?_
      exact r_iret O dX7_carryMinutes_51 rfl (Nat.le_of_ble_eq_true rfl) (Nat.le_of_ble_eq_true rfl) rfl
  · have e_7 : (m 5).toInt ≠ (0 : Int) := j_neR c_7 rfl
    refine r_iconst (x := (-1)) O dX7_carryMinutes_30 rfl ?_
    exact r_iret O dX7_carryMinutes_31 rfl (Nat.le_of_ble_eq_true rfl) (Nat.le_of_ble_eq_true rfl) rfl
theorem met_X7_carryMinutes (l : Launch) (hs : l.stackTraces = false) (q : g_q) (m : Nat → Int32) (p0 : (m 0).toInt ≤ 7) : g_SM l yX7_carryMinutes cX7_carryMinutes 1 (some .int) ({ frames := 3, cells := 0, slots := 0, locals := 64 } : Room) (fun ad => [.ref (ad 122)]) m q ((fun r : Int32 => ((.inl (some (.int r)), (m, q)) : g_Res)) (R_X7_carryMinutes m)) :=
  g_sm_of (by decide) (fun _ => Nat.le_of_ble_eq_true rfl) hs (fun X hl hn O => walk_X7_carryMinutes O (by rw [hl]; exact hs) hn p0)
def R_X7_team (m : Nat → Int32) : Int32 := (R_X0_fitCarriers m)
set_option maxRecDepth 100000 in
set_option maxHeartbeats 4000000 in
theorem walk_X7_team {X : g_X} (O : g_ok X cX7_team RX7 (some .int) ({ frames := 3, cells := 0, slots := 0, locals := 70 } : Room)) (hs : (g_xl X).stackTraces = false) (hn : g_xn X = 1) {q : g_q} {m : Nat → Int32} (p0 : (m 0).toInt ≤ 7) (p1 : (m 2).toInt ≤ 6) : g_V X (fun r : Int32 => ((.inl (some (.int r)), (m, q)) : g_Res)) (R_X7_team m) 0 0 m q 0 [(0, .ref (g_ad X 122))] [] := by
  have hN : ∀ i, Nat.blt i 1 = true → i < g_xn X := fun i h => by rw [hn]; exact g_blt.mp h
  refine r_aload_n O 0 dX7_team_0 rfl rfl ?_
  refine r_get O FX7_10 G_122_0 dX7_team_1 ?_
  refine r_callVi O [] [] (met_X0_fitCarriers (g_xl X) hs q m (by first | decide | with_reducible assumption | with_reducible omega | (simp (disch := omega) only [g_upd_ne, g_upd_eq, fr_X4_fix, fr_X5_put, fr_X1_startAnew, fr_X1_walkTo, fr_X1_arrive, fr_X1_countBelow, fr_X3_set, fr_X0_startWalk, fr_X0_letMinutePass, fr_X3_goUp]; first | with_reducible assumption | with_reducible omega | decide) | (simp (disch := first | omega | with_reducible assumption) only [g_upd_ne, fr_save, fr_X0_takeRope]; first | with_reducible assumption | with_reducible omega) | exact (b_X3_goUp (by with_reducible assumption) (by with_reducible assumption)).1 | exact (b_X3_goUp (by with_reducible assumption) (by with_reducible assumption)).2 | exact Or.inl rfl | exact Or.inr rfl) (by first | decide | with_reducible assumption | with_reducible omega | (simp (disch := omega) only [g_upd_ne, g_upd_eq, fr_X4_fix, fr_X5_put, fr_X1_startAnew, fr_X1_walkTo, fr_X1_arrive, fr_X1_countBelow, fr_X3_set, fr_X0_startWalk, fr_X0_letMinutePass, fr_X3_goUp]; first | with_reducible assumption | with_reducible omega | decide) | (simp (disch := first | omega | with_reducible assumption) only [g_upd_ne, fr_save, fr_X0_takeRope]; first | with_reducible assumption | with_reducible omega) | exact (b_X3_goUp (by with_reducible assumption) (by with_reducible assumption)).1 | exact (b_X3_goUp (by with_reducible assumption) (by with_reducible assumption)).2 | exact Or.inl rfl | exact Or.inr rfl)) LX7_216 obj_0 rfl rfl rfl dX7_team_4 rfl rfl ?_
  exact r_iret O dX7_team_7 rfl (Nat.le_of_ble_eq_true rfl) (Nat.le_of_ble_eq_true rfl) rfl
theorem met_X7_team (l : Launch) (hs : l.stackTraces = false) (q : g_q) (m : Nat → Int32) (p0 : (m 0).toInt ≤ 7) (p1 : (m 2).toInt ≤ 6) : g_SM l yX7_team cX7_team 1 (some .int) ({ frames := 3, cells := 0, slots := 0, locals := 70 } : Room) (fun ad => [.ref (ad 122)]) m q ((fun r : Int32 => ((.inl (some (.int r)), (m, q)) : g_Res)) (R_X7_team m)) :=
  g_sm_of (by decide) (fun _ => Nat.le_of_ble_eq_true rfl) hs (fun X hl hn O => walk_X7_team O (by rw [hl]; exact hs) hn p0 p1)
def R_X7_meanTiredness (m : Nat → Int32) : UInt64 := (if (m 2) = 0 then FP.dconst0 else (FP.ddiv (FP.i2d (R_X0_sumOfTiredness m)) (FP.i2d (m 2))))
set_option maxRecDepth 100000 in
set_option maxHeartbeats 4000000 in
theorem walk_X7_meanTiredness {X : g_X} (O : g_ok X cX7_meanTiredness RX7 (some .double) ({ frames := 1, cells := 0, slots := 0, locals := 22 } : Room)) (hs : (g_xl X).stackTraces = false) (hn : g_xn X = 2) {q : g_q} {m : Nat → Int32} (p0 : (m 2).toInt ≤ 6) : g_V X (fun r : UInt64 => ((.inl (some (.double r)), (m, q)) : g_Res)) (R_X7_meanTiredness m) 0 0 m q 0 [(0, .ref (g_ad X 122))] [] := by
  have hN : ∀ i, Nat.blt i 2 = true → i < g_xn X := fun i h => by rw [hn]; exact g_blt.mp h
  refine r_aload_n O 0 dX7_meanTiredness_0 rfl rfl ?_
  refine r_get O FX7_10 G_122_0 dX7_meanTiredness_1 ?_
  refine r_get O FX7_83 G_0_3 dX7_meanTiredness_4 ?_
  refine r_istore_n (lc' := [(1, .int (m 2)), (0, .ref (g_ad X 122))]) O dX7_meanTiredness_7 rfl (hN 1 rfl) rfl ?_
  refine r_iload_n O 0 dX7_meanTiredness_8 rfl rfl ?_
  refine r_if_ne O 14 dX7_meanTiredness_9 (by decide) (fun c_9 => ?_) (fun c_9 => ?_)
  · have e_9 : (m 2).toInt = (0 : Int) := j_eqR c_9 rfl
    refine r_dconst0 O dX7_meanTiredness_12 ?_
    exact r_dret O dX7_meanTiredness_13 (Nat.le_of_ble_eq_true rfl) (Nat.le_of_ble_eq_true rfl) rfl
  · have e_9 : (m 2).toInt ≠ (0 : Int) := j_neR c_9 rfl
    refine r_aload_n O 1 dX7_meanTiredness_14 rfl rfl ?_
    refine r_get O FX7_10 G_122_0 dX7_meanTiredness_15 ?_
    refine r_callVi O [] [] (met_X0_sumOfTiredness (g_xl X) hs q m (by first | decide | with_reducible assumption | with_reducible omega | (simp (disch := omega) only [g_upd_ne, g_upd_eq, fr_X4_fix, fr_X5_put, fr_X1_startAnew, fr_X1_walkTo, fr_X1_arrive, fr_X1_countBelow, fr_X3_set, fr_X0_startWalk, fr_X0_letMinutePass, fr_X3_goUp]; first | with_reducible assumption | with_reducible omega | decide) | (simp (disch := first | omega | with_reducible assumption) only [g_upd_ne, fr_save, fr_X0_takeRope]; first | with_reducible assumption | with_reducible omega) | exact (b_X3_goUp (by with_reducible assumption) (by with_reducible assumption)).1 | exact (b_X3_goUp (by with_reducible assumption) (by with_reducible assumption)).2 | exact Or.inl rfl | exact Or.inr rfl)) LX7_223 obj_0 rfl rfl rfl dX7_meanTiredness_18 rfl rfl ?_
    refine r_i2d O dX7_meanTiredness_21 ?_
    refine r_iload_n O 0 dX7_meanTiredness_22 rfl rfl ?_
    refine r_i2d O dX7_meanTiredness_23 ?_
    refine r_ddiv O dX7_meanTiredness_24 (d_num c_9) ?_
    exact r_dret O dX7_meanTiredness_25 (Nat.le_of_ble_eq_true rfl) (Nat.le_of_ble_eq_true rfl) rfl
theorem met_X7_meanTiredness (l : Launch) (hs : l.stackTraces = false) (q : g_q) (m : Nat → Int32) (p0 : (m 2).toInt ≤ 6) : g_SM l yX7_meanTiredness cX7_meanTiredness 2 (some .double) ({ frames := 1, cells := 0, slots := 0, locals := 22 } : Room) (fun ad => [.ref (ad 122)]) m q ((fun r : UInt64 => ((.inl (some (.double r)), (m, q)) : g_Res)) (R_X7_meanTiredness m)) :=
  g_sm_of (by decide) (fun _ => Nat.le_of_ble_eq_true rfl) hs (fun X hl hn O => walk_X7_meanTiredness O (by rw [hl]; exact hs) hn p0)
def R_X7_clearText (m : Nat → Int32) : (Int32 × (Nat → Int32)) := ((m 980), (upd m 980 0))
set_option maxRecDepth 100000 in
set_option maxHeartbeats 4000000 in
theorem walk_X7_clearText {X : g_X} (O : g_ok X cX7_clearText RX7 (some .int) ({ frames := 0, cells := 0, slots := 0, locals := 0 } : Room)) (hs : (g_xl X).stackTraces = false) (hn : g_xn X = 2) {q : g_q} {m : Nat → Int32}  : g_V X (fun r : Int32 × (Nat → Int32) => ((.inl (some (.int r.1)), (r.2, q)) : g_Res)) (R_X7_clearText m) 0 0 m q 0 [(0, .ref (g_ad X 122))] [] := by
  have hN : ∀ i, Nat.blt i 2 = true → i < g_xn X := fun i h => by rw [hn]; exact g_blt.mp h
  refine r_aload_n O 0 dX7_clearText_0 rfl rfl ?_
  refine r_get O FX7_27 G_122_3 dX7_clearText_1 ?_
  refine r_get O FX7_226 G_120_1 dX7_clearText_4 ?_
  refine r_istore_n (lc' := [(1, .int (m 980)), (0, .ref (g_ad X 122))]) O dX7_clearText_7 rfl (hN 1 rfl) rfl ?_
  refine r_aload_n O 1 dX7_clearText_8 rfl rfl ?_
  refine r_get O FX7_27 G_122_3 dX7_clearText_9 ?_
  refine r_iconst (x := 0) O dX7_clearText_12 rfl ?_
  refine r_put O (FPX7_226 0) (S_120_1 0) dX7_clearText_13 ?_
  refine r_iload_n O 0 dX7_clearText_16 rfl rfl ?_
  exact r_iret O dX7_clearText_17 rfl (Nat.le_of_ble_eq_true rfl) (Nat.le_of_ble_eq_true rfl) rfl
theorem met_X7_clearText (l : Launch) (hs : l.stackTraces = false) (q : g_q) (m : Nat → Int32)  : g_SM l yX7_clearText cX7_clearText 2 (some .int) ({ frames := 0, cells := 0, slots := 0, locals := 0 } : Room) (fun ad => [.ref (ad 122)]) m q ((fun r : Int32 × (Nat → Int32) => ((.inl (some (.int r.1)), (r.2, q)) : g_Res)) (R_X7_clearText m)) :=
  g_sm_of (by decide) (fun _ => Nat.le_of_ble_eq_true rfl) hs (fun X hl hn O => walk_X7_clearText O (by rw [hl]; exact hs) hn )
def R_X7_digest (m : Nat → Int32) : Int64 := ((31 * (R_X0_hash m (112003 + (m 980).toInt64))) + (m 981).toInt64)
set_option maxRecDepth 100000 in
set_option maxHeartbeats 4000000 in
theorem walk_X7_digest {X : g_X} (O : g_ok X cX7_digest RX7 (some .long) ({ frames := 5, cells := 0, slots := 0, locals := 111 } : Room)) (hs : (g_xl X).stackTraces = false) (hn : g_xn X = 3) {q : g_q} {m : Nat → Int32} (p0 : (m 0).toInt ≤ 7) (p1 : (m 1).toInt ≤ 8) (p2 : (m 2).toInt ≤ 6) (p3 : 0 ≤ (m 6).toInt) (p4 : (m 6).toInt ≤ 10) (p5 : (m 12).toInt ≤ 12) : g_V X (fun r : Int64 => ((.inl (some (.long r)), (m, q)) : g_Res)) (R_X7_digest m) 0 0 m q 0 [(0, .ref (g_ad X 122))] [] := by
  have hN : ∀ i, Nat.blt i 3 = true → i < g_xn X := fun i h => by rw [hn]; exact g_blt.mp h
  refine r_ldc2 O dX7_digest_0 w_con_X7_248 ?_
  refine r_aload_n O 0 dX7_digest_3 rfl rfl ?_
  refine r_get O FX7_27 G_122_3 dX7_digest_4 ?_
  refine r_get O FX7_226 G_120_1 dX7_digest_7 ?_
  refine r_i2l O dX7_digest_10 ?_
  refine r_ladd O dX7_digest_11 ?_
  refine r_lstore_n (lc' := [(1, .long (112003 + (m 980).toInt64)), (0, .ref (g_ad X 122))]) O dX7_digest_12 rfl (hN 2 rfl) rfl ?_
  refine r_aload_n O 1 dX7_digest_13 rfl rfl ?_
  refine r_get O FX7_10 G_122_0 dX7_digest_14 ?_
  refine r_lload_n O 0 dX7_digest_17 rfl rfl ?_
  refine r_callVl O [.long (112003 + (m 980).toInt64)] [] (met_X0_hash (g_xl X) hs q m (112003 + (m 980).toInt64) (by first | decide | with_reducible assumption | with_reducible omega | (simp (disch := omega) only [g_upd_ne, g_upd_eq, fr_X4_fix, fr_X5_put, fr_X1_startAnew, fr_X1_walkTo, fr_X1_arrive, fr_X1_countBelow, fr_X3_set, fr_X0_startWalk, fr_X0_letMinutePass, fr_X3_goUp]; first | with_reducible assumption | with_reducible omega | decide) | (simp (disch := first | omega | with_reducible assumption) only [g_upd_ne, fr_save, fr_X0_takeRope]; first | with_reducible assumption | with_reducible omega) | exact (b_X3_goUp (by with_reducible assumption) (by with_reducible assumption)).1 | exact (b_X3_goUp (by with_reducible assumption) (by with_reducible assumption)).2 | exact Or.inl rfl | exact Or.inr rfl) (by first | decide | with_reducible assumption | with_reducible omega | (simp (disch := omega) only [g_upd_ne, g_upd_eq, fr_X4_fix, fr_X5_put, fr_X1_startAnew, fr_X1_walkTo, fr_X1_arrive, fr_X1_countBelow, fr_X3_set, fr_X0_startWalk, fr_X0_letMinutePass, fr_X3_goUp]; first | with_reducible assumption | with_reducible omega | decide) | (simp (disch := first | omega | with_reducible assumption) only [g_upd_ne, fr_save, fr_X0_takeRope]; first | with_reducible assumption | with_reducible omega) | exact (b_X3_goUp (by with_reducible assumption) (by with_reducible assumption)).1 | exact (b_X3_goUp (by with_reducible assumption) (by with_reducible assumption)).2 | exact Or.inl rfl | exact Or.inr rfl) (by first | decide | with_reducible assumption | with_reducible omega | (simp (disch := omega) only [g_upd_ne, g_upd_eq, fr_X4_fix, fr_X5_put, fr_X1_startAnew, fr_X1_walkTo, fr_X1_arrive, fr_X1_countBelow, fr_X3_set, fr_X0_startWalk, fr_X0_letMinutePass, fr_X3_goUp]; first | with_reducible assumption | with_reducible omega | decide) | (simp (disch := first | omega | with_reducible assumption) only [g_upd_ne, fr_save, fr_X0_takeRope]; first | with_reducible assumption | with_reducible omega) | exact (b_X3_goUp (by with_reducible assumption) (by with_reducible assumption)).1 | exact (b_X3_goUp (by with_reducible assumption) (by with_reducible assumption)).2 | exact Or.inl rfl | exact Or.inr rfl) (by first | decide | with_reducible assumption | with_reducible omega | (simp (disch := omega) only [g_upd_ne, g_upd_eq, fr_X4_fix, fr_X5_put, fr_X1_startAnew, fr_X1_walkTo, fr_X1_arrive, fr_X1_countBelow, fr_X3_set, fr_X0_startWalk, fr_X0_letMinutePass, fr_X3_goUp]; first | with_reducible assumption | with_reducible omega | decide) | (simp (disch := first | omega | with_reducible assumption) only [g_upd_ne, fr_save, fr_X0_takeRope]; first | with_reducible assumption | with_reducible omega) | exact (b_X3_goUp (by with_reducible assumption) (by with_reducible assumption)).1 | exact (b_X3_goUp (by with_reducible assumption) (by with_reducible assumption)).2 | exact Or.inl rfl | exact Or.inr rfl) (by first | decide | with_reducible assumption | with_reducible omega | (simp (disch := omega) only [g_upd_ne, g_upd_eq, fr_X4_fix, fr_X5_put, fr_X1_startAnew, fr_X1_walkTo, fr_X1_arrive, fr_X1_countBelow, fr_X3_set, fr_X0_startWalk, fr_X0_letMinutePass, fr_X3_goUp]; first | with_reducible assumption | with_reducible omega | decide) | (simp (disch := first | omega | with_reducible assumption) only [g_upd_ne, fr_save, fr_X0_takeRope]; first | with_reducible assumption | with_reducible omega) | exact (b_X3_goUp (by with_reducible assumption) (by with_reducible assumption)).1 | exact (b_X3_goUp (by with_reducible assumption) (by with_reducible assumption)).2 | exact Or.inl rfl | exact Or.inr rfl) (by first | decide | with_reducible assumption | with_reducible omega | (simp (disch := omega) only [g_upd_ne, g_upd_eq, fr_X4_fix, fr_X5_put, fr_X1_startAnew, fr_X1_walkTo, fr_X1_arrive, fr_X1_countBelow, fr_X3_set, fr_X0_startWalk, fr_X0_letMinutePass, fr_X3_goUp]; first | with_reducible assumption | with_reducible omega | decide) | (simp (disch := first | omega | with_reducible assumption) only [g_upd_ne, fr_save, fr_X0_takeRope]; first | with_reducible assumption | with_reducible omega) | exact (b_X3_goUp (by with_reducible assumption) (by with_reducible assumption)).1 | exact (b_X3_goUp (by with_reducible assumption) (by with_reducible assumption)).2 | exact Or.inl rfl | exact Or.inr rfl)) LX7_250 obj_0 rfl rfl rfl dX7_digest_18 rfl rfl ?_
  refine r_lstore_n (lc' := [(1, .long (R_X0_hash m (112003 + (m 980).toInt64))), (0, .ref (g_ad X 122))]) O dX7_digest_21 rfl (hN 2 rfl) rfl ?_
  refine r_ldc2 O dX7_digest_22 w_con_X7_254 ?_
  refine r_lload_n O 0 dX7_digest_25 rfl rfl ?_
  refine r_lmul O dX7_digest_26 ?_
  refine r_aload_n O 1 dX7_digest_27 rfl rfl ?_
  refine r_get O FX7_20 G_122_2 dX7_digest_28 ?_
  refine r_i2l O dX7_digest_31 ?_
  refine r_ladd O dX7_digest_32 ?_
  exact r_lret O dX7_digest_33 (Nat.le_of_ble_eq_true rfl) (Nat.le_of_ble_eq_true rfl) rfl
theorem met_X7_digest (l : Launch) (hs : l.stackTraces = false) (q : g_q) (m : Nat → Int32) (p0 : (m 0).toInt ≤ 7) (p1 : (m 1).toInt ≤ 8) (p2 : (m 2).toInt ≤ 6) (p3 : 0 ≤ (m 6).toInt) (p4 : (m 6).toInt ≤ 10) (p5 : (m 12).toInt ≤ 12) : g_SM l yX7_digest cX7_digest 3 (some .long) ({ frames := 5, cells := 0, slots := 0, locals := 111 } : Room) (fun ad => [.ref (ad 122)]) m q ((fun r : Int64 => ((.inl (some (.long r)), (m, q)) : g_Res)) (R_X7_digest m)) :=
  g_sm_of (by decide) (fun _ => Nat.le_of_ble_eq_true rfl) hs (fun X hl hn O => walk_X7_digest O (by rw [hl]; exact hs) hn p0 p1 p2 p3 p4 p5)
def R_X7_canObey (m : Nat → Int32) (x1 : Int32) : Int32 := (if (R_X6_byteAt m x1) = 99 then (if (R_X0_isTeam m (R_X6_setAt m (x1 + 1))) = 0 then 0 else (if (R_X0_canCarry m (R_X6_setAt m (x1 + 1))) = 0 then 0 else 1)) else (if (R_X6_byteAt m x1) = 103 then (R_X0_canWalk m (R_X6_digitAt m (x1 + 1)) (R_X6_digitAt m (x1 + 2))) else (if (R_X6_byteAt m x1) = 109 then (R_X0_canSend m (R_X6_digitAt m (x1 + 1))) else (if (R_X6_byteAt m x1) = 114 then (R_X0_canRig m (R_X6_digitAt m (x1 + 1))) else (if (R_X6_byteAt m x1) = 116 then (R_X0_canTake m (R_X6_digitAt m (x1 + 1)) (R_X6_digitAt m (x1 + 2))) else (R_X0_canPass m (R_X6_numberAt m (x1 + 1))))))))
set_option maxRecDepth 100000 in
set_option maxHeartbeats 4000000 in
theorem walk_X7_canObey {X : g_X} (O : g_ok X cX7_canObey RX7 (some .boolean) ({ frames := 4, cells := 0, slots := 0, locals := 95 } : Room)) (hs : (g_xl X).stackTraces = false) (hn : g_xn X = 4) {q : g_q} {m : Nat → Int32} {x1 : Int32} (p0 : (m 0).toInt ≤ 7) (p1 : (m 2).toInt ≤ 6) (p2 : (m 1).toInt ≤ 8) (p3 : (m 980).toInt ≤ 90) : g_V X (fun r : Int32 => ((.inl (some (.int r)), (m, q)) : g_Res)) (R_X7_canObey m x1) 0 0 m q 0 [(0, .ref (g_ad X 122)), (1, .int x1)] [] := by
  have hN : ∀ i, Nat.blt i 4 = true → i < g_xn X := fun i h => by rw [hn]; exact g_blt.mp h
  refine r_aload_n O 0 dX7_canObey_0 rfl rfl ?_
  refine r_get O FX7_27 G_122_3 dX7_canObey_1 ?_
  refine r_iload_n O 1 dX7_canObey_4 rfl rfl ?_
  refine r_iconst (x := 1) O dX7_canObey_5 rfl ?_
  refine r_iadd O dX7_canObey_6 ?_
  refine r_callVi O [.int (x1 + 1)] [] (met_X6_digitAt (g_xl X) hs q m (x1 + 1) (by first | decide | with_reducible assumption | with_reducible omega | (simp (disch := omega) only [g_upd_ne, g_upd_eq, fr_X4_fix, fr_X5_put, fr_X1_startAnew, fr_X1_walkTo, fr_X1_arrive, fr_X1_countBelow, fr_X3_set, fr_X0_startWalk, fr_X0_letMinutePass, fr_X3_goUp]; first | with_reducible assumption | with_reducible omega | decide) | (simp (disch := first | omega | with_reducible assumption) only [g_upd_ne, fr_save, fr_X0_takeRope]; first | with_reducible assumption | with_reducible omega) | exact (b_X3_goUp (by with_reducible assumption) (by with_reducible assumption)).1 | exact (b_X3_goUp (by with_reducible assumption) (by with_reducible assumption)).2 | exact Or.inl rfl | exact Or.inr rfl)) LX7_276 obj_120 rfl rfl rfl dX7_canObey_7 rfl rfl ?_
  refine r_istore_n (lc' := [(2, .int (R_X6_digitAt m (x1 + 1))), (0, .ref (g_ad X 122)), (1, .int x1)]) O dX7_canObey_10 rfl (hN 2 rfl) rfl ?_
  refine r_aload_n O 1 dX7_canObey_11 rfl rfl ?_
  refine r_get O FX7_27 G_122_3 dX7_canObey_12 ?_
  refine r_iload_n O 2 dX7_canObey_15 rfl rfl ?_
  refine r_iconst (x := 2) O dX7_canObey_16 rfl ?_
  refine r_iadd O dX7_canObey_17 ?_
  refine r_callVi O [.int (x1 + 2)] [] (met_X6_digitAt (g_xl X) hs q m (x1 + 2) (by first | decide | with_reducible assumption | with_reducible omega | (simp (disch := omega) only [g_upd_ne, g_upd_eq, fr_X4_fix, fr_X5_put, fr_X1_startAnew, fr_X1_walkTo, fr_X1_arrive, fr_X1_countBelow, fr_X3_set, fr_X0_startWalk, fr_X0_letMinutePass, fr_X3_goUp]; first | with_reducible assumption | with_reducible omega | decide) | (simp (disch := first | omega | with_reducible assumption) only [g_upd_ne, fr_save, fr_X0_takeRope]; first | with_reducible assumption | with_reducible omega) | exact (b_X3_goUp (by with_reducible assumption) (by with_reducible assumption)).1 | exact (b_X3_goUp (by with_reducible assumption) (by with_reducible assumption)).2 | exact Or.inl rfl | exact Or.inr rfl)) LX7_276 obj_120 rfl rfl rfl dX7_canObey_18 rfl rfl ?_
  refine r_istore_n (lc' := [(3, .int (R_X6_digitAt m (x1 + 2))), (2, .int (R_X6_digitAt m (x1 + 1))), (0, .ref (g_ad X 122)), (1, .int x1)]) O dX7_canObey_21 rfl (hN 3 rfl) rfl ?_
  refine r_aload_n O 2 dX7_canObey_22 rfl rfl ?_
  refine r_get O FX7_27 G_122_3 dX7_canObey_23 ?_
  refine r_iload_n O 3 dX7_canObey_26 rfl rfl ?_
  refine r_callVi O [.int x1] [] (met_X6_byteAt (g_xl X) hs q m x1 (by first | decide | with_reducible assumption | with_reducible omega | (simp (disch := omega) only [g_upd_ne, g_upd_eq, fr_X4_fix, fr_X5_put, fr_X1_startAnew, fr_X1_walkTo, fr_X1_arrive, fr_X1_countBelow, fr_X3_set, fr_X0_startWalk, fr_X0_letMinutePass, fr_X3_goUp]; first | with_reducible assumption | with_reducible omega | decide) | (simp (disch := first | omega | with_reducible assumption) only [g_upd_ne, fr_save, fr_X0_takeRope]; first | with_reducible assumption | with_reducible omega) | exact (b_X3_goUp (by with_reducible assumption) (by with_reducible assumption)).1 | exact (b_X3_goUp (by with_reducible assumption) (by with_reducible assumption)).2 | exact Or.inl rfl | exact Or.inr rfl)) LX7_279 obj_120 rfl rfl rfl dX7_canObey_27 rfl rfl ?_
  refine g_if (fun c_30_0 => ?_) (fun c_30_0 => ?_)
  · refine r_lookup O (off := 88) 118 dX7_canObey_30 rfl (by show Op.lookupswitch.offset [(99, 88), (103, 50), (109, 79), (114, 70), (116, 60)] 134 _ = 88; rw [c_30_0] <;> rfl) (by decide) ?_
    refine r_aload_n O 2 dX7_canObey_118 rfl rfl ?_
    refine r_get O FX7_10 G_122_0 dX7_canObey_119 ?_
    refine r_aload_n O 2 dX7_canObey_122 rfl rfl ?_
    refine r_get O FX7_27 G_122_3 dX7_canObey_123 ?_
    refine r_iload_n O 3 dX7_canObey_126 rfl rfl ?_
    refine r_iconst (x := 1) O dX7_canObey_127 rfl ?_
    refine r_iadd O dX7_canObey_128 ?_
    refine r_callVi O [.int (x1 + 1)] [.ref (g_ad X 0)] (met_X6_setAt (g_xl X) hs q m (x1 + 1) (by first | decide | with_reducible assumption | with_reducible omega | (simp (disch := omega) only [g_upd_ne, g_upd_eq, fr_X4_fix, fr_X5_put, fr_X1_startAnew, fr_X1_walkTo, fr_X1_arrive, fr_X1_countBelow, fr_X3_set, fr_X0_startWalk, fr_X0_letMinutePass, fr_X3_goUp]; first | with_reducible assumption | with_reducible omega | decide) | (simp (disch := first | omega | with_reducible assumption) only [g_upd_ne, fr_save, fr_X0_takeRope]; first | with_reducible assumption | with_reducible omega) | exact (b_X3_goUp (by with_reducible assumption) (by with_reducible assumption)).1 | exact (b_X3_goUp (by with_reducible assumption) (by with_reducible assumption)).2 | exact Or.inl rfl | exact Or.inr rfl)) LX7_282 obj_120 rfl rfl rfl dX7_canObey_129 rfl rfl ?_
    refine r_callVi O [.int (R_X6_setAt m (x1 + 1))] [] (met_X0_isTeam (g_xl X) hs q m (R_X6_setAt m (x1 + 1)) ) LX7_129 obj_0 rfl rfl rfl dX7_canObey_132 rfl rfl ?_
    refine r_if_eq O 162 dX7_canObey_135 (by decide) (fun c_135 => ?_) (fun c_135 => ?_)
    · have e_135 : (R_X0_isTeam m (R_X6_setAt m (x1 + 1))).toInt = (0 : Int) := j_eqR c_135 rfl
      refine r_iconst (x := 0) O dX7_canObey_162 rfl ?_
      exact r_iret O dX7_canObey_163 rfl (Nat.le_of_ble_eq_true rfl) (Nat.le_of_ble_eq_true rfl) rfl
    · have e_135 : (R_X0_isTeam m (R_X6_setAt m (x1 + 1))).toInt ≠ (0 : Int) := j_neR c_135 rfl
      refine r_aload_n O 2 dX7_canObey_138 rfl rfl ?_
      refine r_get O FX7_10 G_122_0 dX7_canObey_139 ?_
      refine r_aload_n O 2 dX7_canObey_142 rfl rfl ?_
      refine r_get O FX7_27 G_122_3 dX7_canObey_143 ?_
      refine r_iload_n O 3 dX7_canObey_146 rfl rfl ?_
      refine r_iconst (x := 1) O dX7_canObey_147 rfl ?_
      refine r_iadd O dX7_canObey_148 ?_
      refine r_callVi O [.int (x1 + 1)] [.ref (g_ad X 0)] (met_X6_setAt (g_xl X) hs q m (x1 + 1) (by first | decide | with_reducible assumption | with_reducible omega | (simp (disch := omega) only [g_upd_ne, g_upd_eq, fr_X4_fix, fr_X5_put, fr_X1_startAnew, fr_X1_walkTo, fr_X1_arrive, fr_X1_countBelow, fr_X3_set, fr_X0_startWalk, fr_X0_letMinutePass, fr_X3_goUp]; first | with_reducible assumption | with_reducible omega | decide) | (simp (disch := first | omega | with_reducible assumption) only [g_upd_ne, fr_save, fr_X0_takeRope]; first | with_reducible assumption | with_reducible omega) | exact (b_X3_goUp (by with_reducible assumption) (by with_reducible assumption)).1 | exact (b_X3_goUp (by with_reducible assumption) (by with_reducible assumption)).2 | exact Or.inl rfl | exact Or.inr rfl)) LX7_282 obj_120 rfl rfl rfl dX7_canObey_149 rfl rfl ?_
      refine r_callVi O [.int (R_X6_setAt m (x1 + 1))] [] (met_X0_canCarry (g_xl X) hs q m (R_X6_setAt m (x1 + 1)) (by first | decide | with_reducible assumption | with_reducible omega | (simp (disch := omega) only [g_upd_ne, g_upd_eq, fr_X4_fix, fr_X5_put, fr_X1_startAnew, fr_X1_walkTo, fr_X1_arrive, fr_X1_countBelow, fr_X3_set, fr_X0_startWalk, fr_X0_letMinutePass, fr_X3_goUp]; first | with_reducible assumption | with_reducible omega | decide) | (simp (disch := first | omega | with_reducible assumption) only [g_upd_ne, fr_save, fr_X0_takeRope]; first | with_reducible assumption | with_reducible omega) | exact (b_X3_goUp (by with_reducible assumption) (by with_reducible assumption)).1 | exact (b_X3_goUp (by with_reducible assumption) (by with_reducible assumption)).2 | exact Or.inl rfl | exact Or.inr rfl) (by first | decide | with_reducible assumption | with_reducible omega | (simp (disch := omega) only [g_upd_ne, g_upd_eq, fr_X4_fix, fr_X5_put, fr_X1_startAnew, fr_X1_walkTo, fr_X1_arrive, fr_X1_countBelow, fr_X3_set, fr_X0_startWalk, fr_X0_letMinutePass, fr_X3_goUp]; first | with_reducible assumption | with_reducible omega | decide) | (simp (disch := first | omega | with_reducible assumption) only [g_upd_ne, fr_save, fr_X0_takeRope]; first | with_reducible assumption | with_reducible omega) | exact (b_X3_goUp (by with_reducible assumption) (by with_reducible assumption)).1 | exact (b_X3_goUp (by with_reducible assumption) (by with_reducible assumption)).2 | exact Or.inl rfl | exact Or.inr rfl)) LX7_135 obj_0 rfl rfl rfl dX7_canObey_152 rfl rfl ?_
      refine r_if_eq O 162 dX7_canObey_155 (by decide) (fun c_155 => ?_) (fun c_155 => ?_)
      · have e_155 : (R_X0_canCarry m (R_X6_setAt m (x1 + 1))).toInt = (0 : Int) := j_eqR c_155 rfl
        refine r_iconst (x := 0) O dX7_canObey_162 rfl ?_
        exact r_iret O dX7_canObey_163 rfl (Nat.le_of_ble_eq_true rfl) (Nat.le_of_ble_eq_true rfl) rfl
      · have e_155 : (R_X0_canCarry m (R_X6_setAt m (x1 + 1))).toInt ≠ (0 : Int) := j_neR c_155 rfl
        refine r_iconst (x := 1) O dX7_canObey_158 rfl ?_
        refine r_goto O 163 dX7_canObey_159 (by decide) ?_
        exact r_iret O dX7_canObey_163 rfl (Nat.le_of_ble_eq_true rfl) (Nat.le_of_ble_eq_true rfl) rfl
  · refine g_if (fun c_30_1 => ?_) (fun c_30_1 => ?_)
    · refine r_lookup O (off := 50) 80 dX7_canObey_30 rfl (by show Op.lookupswitch.offset [(99, 88), (103, 50), (109, 79), (114, 70), (116, 60)] 134 _ = 50; rw [lv_osw (a := 99) c_30_0 rfl, c_30_1] <;> rfl) (by decide) ?_
      refine r_aload_n O 2 dX7_canObey_80 rfl rfl ?_
      refine r_get O FX7_10 G_122_0 dX7_canObey_81 ?_
      refine r_iload_n O 1 dX7_canObey_84 rfl rfl ?_
      refine r_iload_n O 0 dX7_canObey_85 rfl rfl ?_
      refine r_callVi O [.int (R_X6_digitAt m (x1 + 1)), .int (R_X6_digitAt m (x1 + 2))] [] (met_X0_canWalk (g_xl X) hs q m (R_X6_digitAt m (x1 + 1)) (R_X6_digitAt m (x1 + 2)) (by first | decide | with_reducible assumption | with_reducible omega | (simp (disch := omega) only [g_upd_ne, g_upd_eq, fr_X4_fix, fr_X5_put, fr_X1_startAnew, fr_X1_walkTo, fr_X1_arrive, fr_X1_countBelow, fr_X3_set, fr_X0_startWalk, fr_X0_letMinutePass, fr_X3_goUp]; first | with_reducible assumption | with_reducible omega | decide) | (simp (disch := first | omega | with_reducible assumption) only [g_upd_ne, fr_save, fr_X0_takeRope]; first | with_reducible assumption | with_reducible omega) | exact (b_X3_goUp (by with_reducible assumption) (by with_reducible assumption)).1 | exact (b_X3_goUp (by with_reducible assumption) (by with_reducible assumption)).2 | exact Or.inl rfl | exact Or.inr rfl) (by first | decide | with_reducible assumption | with_reducible omega | (simp (disch := omega) only [g_upd_ne, g_upd_eq, fr_X4_fix, fr_X5_put, fr_X1_startAnew, fr_X1_walkTo, fr_X1_arrive, fr_X1_countBelow, fr_X3_set, fr_X0_startWalk, fr_X0_letMinutePass, fr_X3_goUp]; first | with_reducible assumption | with_reducible omega | decide) | (simp (disch := first | omega | with_reducible assumption) only [g_upd_ne, fr_save, fr_X0_takeRope]; first | with_reducible assumption | with_reducible omega) | exact (b_X3_goUp (by with_reducible assumption) (by with_reducible assumption)).1 | exact (b_X3_goUp (by with_reducible assumption) (by with_reducible assumption)).2 | exact Or.inl rfl | exact Or.inr rfl)) LX7_94 obj_0 rfl rfl rfl dX7_canObey_86 rfl rfl ?_
      exact r_iret O dX7_canObey_89 (narrow_b b_canWalk) (Nat.le_of_ble_eq_true rfl) (Nat.le_of_ble_eq_true rfl) rfl
    · refine g_if (fun c_30_2 => ?_) (fun c_30_2 => ?_)
      · refine r_lookup O (off := 79) 109 dX7_canObey_30 rfl (by show Op.lookupswitch.offset [(99, 88), (103, 50), (109, 79), (114, 70), (116, 60)] 134 _ = 79; rw [lv_osw (a := 99) c_30_0 rfl, lv_osw (a := 103) c_30_1 rfl, c_30_2] <;> rfl) (by decide) ?_
        refine r_aload_n O 2 dX7_canObey_109 rfl rfl ?_
        refine r_get O FX7_10 G_122_0 dX7_canObey_110 ?_
        refine r_iload_n O 1 dX7_canObey_113 rfl rfl ?_
        refine r_callVi O [.int (R_X6_digitAt m (x1 + 1))] [] (met_X0_canSend (g_xl X) hs q m (R_X6_digitAt m (x1 + 1)) (by first | decide | with_reducible assumption | with_reducible omega | (simp (disch := omega) only [g_upd_ne, g_upd_eq, fr_X4_fix, fr_X5_put, fr_X1_startAnew, fr_X1_walkTo, fr_X1_arrive, fr_X1_countBelow, fr_X3_set, fr_X0_startWalk, fr_X0_letMinutePass, fr_X3_goUp]; first | with_reducible assumption | with_reducible omega | decide) | (simp (disch := first | omega | with_reducible assumption) only [g_upd_ne, fr_save, fr_X0_takeRope]; first | with_reducible assumption | with_reducible omega) | exact (b_X3_goUp (by with_reducible assumption) (by with_reducible assumption)).1 | exact (b_X3_goUp (by with_reducible assumption) (by with_reducible assumption)).2 | exact Or.inl rfl | exact Or.inr rfl)) LX7_141 obj_0 rfl rfl rfl dX7_canObey_114 rfl rfl ?_
        exact r_iret O dX7_canObey_117 (narrow_b b_canSend) (Nat.le_of_ble_eq_true rfl) (Nat.le_of_ble_eq_true rfl) rfl
      · refine g_if (fun c_30_3 => ?_) (fun c_30_3 => ?_)
        · refine r_lookup O (off := 70) 100 dX7_canObey_30 rfl (by show Op.lookupswitch.offset [(99, 88), (103, 50), (109, 79), (114, 70), (116, 60)] 134 _ = 70; rw [lv_osw (a := 99) c_30_0 rfl, lv_osw (a := 103) c_30_1 rfl, lv_osw (a := 109) c_30_2 rfl, c_30_3] <;> rfl) (by decide) ?_
          refine r_aload_n O 2 dX7_canObey_100 rfl rfl ?_
          refine r_get O FX7_10 G_122_0 dX7_canObey_101 ?_
          refine r_iload_n O 1 dX7_canObey_104 rfl rfl ?_
          refine r_callVi O [.int (R_X6_digitAt m (x1 + 1))] [] (met_X0_canRig (g_xl X) hs q m (R_X6_digitAt m (x1 + 1)) (by first | decide | with_reducible assumption | with_reducible omega | (simp (disch := omega) only [g_upd_ne, g_upd_eq, fr_X4_fix, fr_X5_put, fr_X1_startAnew, fr_X1_walkTo, fr_X1_arrive, fr_X1_countBelow, fr_X3_set, fr_X0_startWalk, fr_X0_letMinutePass, fr_X3_goUp]; first | with_reducible assumption | with_reducible omega | decide) | (simp (disch := first | omega | with_reducible assumption) only [g_upd_ne, fr_save, fr_X0_takeRope]; first | with_reducible assumption | with_reducible omega) | exact (b_X3_goUp (by with_reducible assumption) (by with_reducible assumption)).1 | exact (b_X3_goUp (by with_reducible assumption) (by with_reducible assumption)).2 | exact Or.inl rfl | exact Or.inr rfl) (by first | decide | with_reducible assumption | with_reducible omega | (simp (disch := omega) only [g_upd_ne, g_upd_eq, fr_X4_fix, fr_X5_put, fr_X1_startAnew, fr_X1_walkTo, fr_X1_arrive, fr_X1_countBelow, fr_X3_set, fr_X0_startWalk, fr_X0_letMinutePass, fr_X3_goUp]; first | with_reducible assumption | with_reducible omega | decide) | (simp (disch := first | omega | with_reducible assumption) only [g_upd_ne, fr_save, fr_X0_takeRope]; first | with_reducible assumption | with_reducible omega) | exact (b_X3_goUp (by with_reducible assumption) (by with_reducible assumption)).1 | exact (b_X3_goUp (by with_reducible assumption) (by with_reducible assumption)).2 | exact Or.inl rfl | exact Or.inr rfl) (by first | decide | with_reducible assumption | with_reducible omega | (simp (disch := omega) only [g_upd_ne, g_upd_eq, fr_X4_fix, fr_X5_put, fr_X1_startAnew, fr_X1_walkTo, fr_X1_arrive, fr_X1_countBelow, fr_X3_set, fr_X0_startWalk, fr_X0_letMinutePass, fr_X3_goUp]; first | with_reducible assumption | with_reducible omega | decide) | (simp (disch := first | omega | with_reducible assumption) only [g_upd_ne, fr_save, fr_X0_takeRope]; first | with_reducible assumption | with_reducible omega) | exact (b_X3_goUp (by with_reducible assumption) (by with_reducible assumption)).1 | exact (b_X3_goUp (by with_reducible assumption) (by with_reducible assumption)).2 | exact Or.inl rfl | exact Or.inr rfl)) LX7_117 obj_0 rfl rfl rfl dX7_canObey_105 rfl rfl ?_
          exact r_iret O dX7_canObey_108 (narrow_b b_canRig) (Nat.le_of_ble_eq_true rfl) (Nat.le_of_ble_eq_true rfl) rfl
        · refine g_if (fun c_30_4 => ?_) (fun c_30_4 => ?_)
          · refine r_lookup O (off := 60) 90 dX7_canObey_30 rfl (by show Op.lookupswitch.offset [(99, 88), (103, 50), (109, 79), (114, 70), (116, 60)] 134 _ = 60; rw [lv_osw (a := 99) c_30_0 rfl, lv_osw (a := 103) c_30_1 rfl, lv_osw (a := 109) c_30_2 rfl, lv_osw (a := 114) c_30_3 rfl, c_30_4] <;> rfl) (by decide) ?_
            refine r_aload_n O 2 dX7_canObey_90 rfl rfl ?_
            refine r_get O FX7_10 G_122_0 dX7_canObey_91 ?_
            refine r_iload_n O 1 dX7_canObey_94 rfl rfl ?_
            refine r_iload_n O 0 dX7_canObey_95 rfl rfl ?_
            refine r_callVi O [.int (R_X6_digitAt m (x1 + 1)), .int (R_X6_digitAt m (x1 + 2))] [] (met_X0_canTake (g_xl X) hs q m (R_X6_digitAt m (x1 + 1)) (R_X6_digitAt m (x1 + 2)) (by first | decide | with_reducible assumption | with_reducible omega | (simp (disch := omega) only [g_upd_ne, g_upd_eq, fr_X4_fix, fr_X5_put, fr_X1_startAnew, fr_X1_walkTo, fr_X1_arrive, fr_X1_countBelow, fr_X3_set, fr_X0_startWalk, fr_X0_letMinutePass, fr_X3_goUp]; first | with_reducible assumption | with_reducible omega | decide) | (simp (disch := first | omega | with_reducible assumption) only [g_upd_ne, fr_save, fr_X0_takeRope]; first | with_reducible assumption | with_reducible omega) | exact (b_X3_goUp (by with_reducible assumption) (by with_reducible assumption)).1 | exact (b_X3_goUp (by with_reducible assumption) (by with_reducible assumption)).2 | exact Or.inl rfl | exact Or.inr rfl) (by first | decide | with_reducible assumption | with_reducible omega | (simp (disch := omega) only [g_upd_ne, g_upd_eq, fr_X4_fix, fr_X5_put, fr_X1_startAnew, fr_X1_walkTo, fr_X1_arrive, fr_X1_countBelow, fr_X3_set, fr_X0_startWalk, fr_X0_letMinutePass, fr_X3_goUp]; first | with_reducible assumption | with_reducible omega | decide) | (simp (disch := first | omega | with_reducible assumption) only [g_upd_ne, fr_save, fr_X0_takeRope]; first | with_reducible assumption | with_reducible omega) | exact (b_X3_goUp (by with_reducible assumption) (by with_reducible assumption)).1 | exact (b_X3_goUp (by with_reducible assumption) (by with_reducible assumption)).2 | exact Or.inl rfl | exact Or.inr rfl)) LX7_102 obj_0 rfl rfl rfl dX7_canObey_96 rfl rfl ?_
            exact r_iret O dX7_canObey_99 (narrow_b b_canTake) (Nat.le_of_ble_eq_true rfl) (Nat.le_of_ble_eq_true rfl) rfl
          · refine r_lookup O (off := 134) 164 dX7_canObey_30 rfl (by show Op.lookupswitch.offset [(99, 88), (103, 50), (109, 79), (114, 70), (116, 60)] 134 _ = 134; rw [lv_osw (a := 99) c_30_0 rfl, lv_osw (a := 103) c_30_1 rfl, lv_osw (a := 109) c_30_2 rfl, lv_osw (a := 114) c_30_3 rfl, lv_osw (a := 116) c_30_4 rfl] <;> rfl) (by decide) ?_
            refine r_aload_n O 2 dX7_canObey_164 rfl rfl ?_
            refine r_get O FX7_10 G_122_0 dX7_canObey_165 ?_
            refine r_aload_n O 2 dX7_canObey_168 rfl rfl ?_
            refine r_get O FX7_27 G_122_3 dX7_canObey_169 ?_
            refine r_iload_n O 3 dX7_canObey_172 rfl rfl ?_
            refine r_iconst (x := 1) O dX7_canObey_173 rfl ?_
            refine r_iadd O dX7_canObey_174 ?_
            refine r_callVi O [.int (x1 + 1)] [.ref (g_ad X 0)] (met_X6_numberAt (g_xl X) hs q m (x1 + 1) (by first | decide | with_reducible assumption | with_reducible omega | (simp (disch := omega) only [g_upd_ne, g_upd_eq, fr_X4_fix, fr_X5_put, fr_X1_startAnew, fr_X1_walkTo, fr_X1_arrive, fr_X1_countBelow, fr_X3_set, fr_X0_startWalk, fr_X0_letMinutePass, fr_X3_goUp]; first | with_reducible assumption | with_reducible omega | decide) | (simp (disch := first | omega | with_reducible assumption) only [g_upd_ne, fr_save, fr_X0_takeRope]; first | with_reducible assumption | with_reducible omega) | exact (b_X3_goUp (by with_reducible assumption) (by with_reducible assumption)).1 | exact (b_X3_goUp (by with_reducible assumption) (by with_reducible assumption)).2 | exact Or.inl rfl | exact Or.inr rfl)) LX7_285 obj_120 rfl rfl rfl dX7_canObey_175 rfl rfl ?_
            refine r_callVi O [.int (R_X6_numberAt m (x1 + 1))] [] (met_X0_canPass (g_xl X) hs q m (R_X6_numberAt m (x1 + 1)) ) LX7_154 obj_0 rfl rfl rfl dX7_canObey_178 rfl rfl ?_
            exact r_iret O dX7_canObey_181 (narrow_b b_canPass) (Nat.le_of_ble_eq_true rfl) (Nat.le_of_ble_eq_true rfl) rfl
theorem met_X7_canObey (l : Launch) (hs : l.stackTraces = false) (q : g_q) (m : Nat → Int32) (x1 : Int32) (p0 : (m 0).toInt ≤ 7) (p1 : (m 2).toInt ≤ 6) (p2 : (m 1).toInt ≤ 8) (p3 : (m 980).toInt ≤ 90) : g_SM l yX7_canObey cX7_canObey 4 (some .boolean) ({ frames := 4, cells := 0, slots := 0, locals := 95 } : Room) (fun ad => [.ref (ad 122), .int x1]) m q ((fun r : Int32 => ((.inl (some (.int r)), (m, q)) : g_Res)) (R_X7_canObey m x1)) :=
  g_sm_of (by decide) (fun _ => Nat.le_of_ble_eq_true rfl) hs (fun X hl hn O => walk_X7_canObey O (by rw [hl]; exact hs) hn p0 p1 p2 p3)
