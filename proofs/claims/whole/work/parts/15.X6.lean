/-! ===== Text ===== -/
def R_X6_add (m : Nat → Int32) (x1 : Int32) : (Nat → Int32) := (if 90 ≤ (m 980) then m else (upd (upd m (890 + (m 980).toNatClampNeg) x1) 980 (((upd m (890 + (m 980).toNatClampNeg) x1) 980) + 1)))
set_option maxRecDepth 100000 in
set_option maxHeartbeats 4000000 in
theorem walk_X6_add {X : g_X} (O : g_ok X cX6_add RX6 none ({ frames := 0, cells := 0, slots := 0, locals := 0 } : Room)) (hs : (g_xl X).stackTraces = false) (hn : g_xn X = 2) {q : g_q} {m : Nat → Int32} {x1 : Int32} (p0 : 0 ≤ (m 980).toInt) : g_V X (fun r : Nat → Int32 => ((.inl none, (r, q)) : g_Res)) (R_X6_add m x1) 0 0 m q 0 [(0, .ref (g_ad X 120)), (1, .int x1)] [] := by
  have hN : ∀ i, Nat.blt i 2 = true → i < g_xn X := fun i h => by rw [hn]; exact g_blt.mp h
  refine r_aload_n O 0 dX6_add_0 rfl rfl ?_
  refine r_get O FX6_15 G_120_1 dX6_add_1 ?_
  refine r_bipush (x := 90) O dX6_add_4 rfl ?_
  refine r_icmp_ge O 29 dX6_add_6 (by decide) (fun c_6 => ?_) (fun c_6 => ?_)
  · have e_6 : (90 : Int) ≤ (m 980).toInt := j_leL c_6 rfl
    exact r_vret O dX6_add_29 (Nat.le_of_ble_eq_true rfl) (Nat.le_of_ble_eq_true rfl) rfl
  · have e_6 : (m 980).toInt < (90 : Int) := j_nleL c_6 rfl
    refine r_aload_n O 0 dX6_add_9 rfl rfl ?_
    refine r_get O FX6_9 G_120_0 dX6_add_10 ?_
    refine r_aload_n O 0 dX6_add_13 rfl rfl ?_
    refine r_get O FX6_15 G_120_1 dX6_add_14 ?_
    refine r_iload_n O 1 dX6_add_17 rfl rfl ?_
    refine r_iastc O T_121 (show vp_in (m 980) 90 from g_vin (by with_reducible omega) (by with_reducible omega)) dX6_add_18 ?_
    refine r_aload_n O 0 dX6_add_19 rfl rfl ?_
    refine r_dup O dX6_add_20 rfl ?_
    refine r_get O FX6_15 G_120_1 dX6_add_21 ?_
    refine r_iconst (x := 1) O dX6_add_24 rfl ?_
    refine r_iadd O dX6_add_25 ?_
    refine r_put O (FPX6_15 (((upd m (890 + (m 980).toNatClampNeg) x1) 980) + 1)) (S_120_1 (((upd m (890 + (m 980).toNatClampNeg) x1) 980) + 1)) dX6_add_26 ?_
    exact r_vret O dX6_add_29 (Nat.le_of_ble_eq_true rfl) (Nat.le_of_ble_eq_true rfl) rfl
theorem met_X6_add (l : Launch) (hs : l.stackTraces = false) (q : g_q) (m : Nat → Int32) (x1 : Int32) (p0 : 0 ≤ (m 980).toInt) : g_SM l yX6_add cX6_add 2 none ({ frames := 0, cells := 0, slots := 0, locals := 0 } : Room) (fun ad => [.ref (ad 120), .int x1]) m q ((fun r : Nat → Int32 => ((.inl none, (r, q)) : g_Res)) (R_X6_add m x1)) :=
  g_sm_of (by decide) (fun _ => Nat.le_of_ble_eq_true rfl) hs (fun X hl hn O => walk_X6_add O (by rw [hl]; exact hs) hn p0)
def R_X6_byteAt (m : Nat → Int32) (x1 : Int32) : Int32 := (if x1 < 0 then (-1) else (if (m 980) ≤ x1 then (-1) else (m (890 + x1.toNatClampNeg))))
set_option maxRecDepth 100000 in
set_option maxHeartbeats 4000000 in
theorem walk_X6_byteAt {X : g_X} (O : g_ok X cX6_byteAt RX6 (some .int) ({ frames := 0, cells := 0, slots := 0, locals := 0 } : Room)) (hs : (g_xl X).stackTraces = false) (hn : g_xn X = 2) {q : g_q} {m : Nat → Int32} {x1 : Int32} (p0 : (m 980).toInt ≤ 90) : g_V X (fun r : Int32 => ((.inl (some (.int r)), (m, q)) : g_Res)) (R_X6_byteAt m x1) 0 0 m q 0 [(0, .ref (g_ad X 120)), (1, .int x1)] [] := by
  have hN : ∀ i, Nat.blt i 2 = true → i < g_xn X := fun i h => by rw [hn]; exact g_blt.mp h
  refine r_iload_n O 1 dX6_byteAt_0 rfl rfl ?_
  refine r_if_lt O 21 dX6_byteAt_1 (by decide) (fun c_1 => ?_) (fun c_1 => ?_)
  · have e_1 : (x1).toInt < (0 : Int) := j_ltR c_1 rfl
    refine r_iconst (x := (-1)) O dX6_byteAt_21 rfl ?_
    exact r_iret O dX6_byteAt_22 rfl (Nat.le_of_ble_eq_true rfl) (Nat.le_of_ble_eq_true rfl) rfl
  · have e_1 : (0 : Int) ≤ (x1).toInt := j_nltR c_1 rfl
    refine r_iload_n O 1 dX6_byteAt_4 rfl rfl ?_
    refine r_aload_n O 0 dX6_byteAt_5 rfl rfl ?_
    refine r_get O FX6_15 G_120_1 dX6_byteAt_6 ?_
    refine r_icmp_ge O 21 dX6_byteAt_9 (by decide) (fun c_9 => ?_) (fun c_9 => ?_)
    · have e_9 : (m 980).toInt ≤ (x1).toInt := j_le c_9
      refine r_iconst (x := (-1)) O dX6_byteAt_21 rfl ?_
      exact r_iret O dX6_byteAt_22 rfl (Nat.le_of_ble_eq_true rfl) (Nat.le_of_ble_eq_true rfl) rfl
    · have e_9 : (x1).toInt < (m 980).toInt := j_nle c_9
      refine r_aload_n O 0 dX6_byteAt_12 rfl rfl ?_
      refine r_get O FX6_9 G_120_0 dX6_byteAt_13 ?_
      refine r_iload_n O 1 dX6_byteAt_16 rfl rfl ?_
      refine r_iald O R_121 (show vp_in x1 90 from g_vin (by with_reducible omega) (by with_reducible omega)) dX6_byteAt_17 ?_
      refine r_goto O 22 dX6_byteAt_18 (by decide) ?_
      exact r_iret O dX6_byteAt_22 rfl (Nat.le_of_ble_eq_true rfl) (Nat.le_of_ble_eq_true rfl) rfl
theorem met_X6_byteAt (l : Launch) (hs : l.stackTraces = false) (q : g_q) (m : Nat → Int32) (x1 : Int32) (p0 : (m 980).toInt ≤ 90) : g_SM l yX6_byteAt cX6_byteAt 2 (some .int) ({ frames := 0, cells := 0, slots := 0, locals := 0 } : Room) (fun ad => [.ref (ad 120), .int x1]) m q ((fun r : Int32 => ((.inl (some (.int r)), (m, q)) : g_Res)) (R_X6_byteAt m x1)) :=
  g_sm_of (by decide) (fun _ => Nat.le_of_ble_eq_true rfl) hs (fun X hl hn O => walk_X6_byteAt O (by rw [hl]; exact hs) hn p0)
def R_X6_digitAt (m : Nat → Int32) (x1 : Int32) : Int32 := (if (R_X6_byteAt m x1) < 48 then (-1) else (if 57 < (R_X6_byteAt m x1) then (-1) else ((R_X6_byteAt m x1) - 48)))
set_option maxRecDepth 100000 in
set_option maxHeartbeats 4000000 in
theorem walk_X6_digitAt {X : g_X} (O : g_ok X cX6_digitAt RX6 (some .int) ({ frames := 1, cells := 0, slots := 0, locals := 21 } : Room)) (hs : (g_xl X).stackTraces = false) (hn : g_xn X = 3) {q : g_q} {m : Nat → Int32} {x1 : Int32} (p0 : (m 980).toInt ≤ 90) : g_V X (fun r : Int32 => ((.inl (some (.int r)), (m, q)) : g_Res)) (R_X6_digitAt m x1) 0 0 m q 0 [(0, .ref (g_ad X 120)), (1, .int x1)] [] := by
  have hN : ∀ i, Nat.blt i 3 = true → i < g_xn X := fun i h => by rw [hn]; exact g_blt.mp h
  refine r_aload_n O 0 dX6_digitAt_0 rfl rfl ?_
  refine r_iload_n O 1 dX6_digitAt_1 rfl rfl ?_
  refine r_callVi O [.int x1] [] (met_X6_byteAt (g_xl X) hs q m x1 (by first | decide | with_reducible assumption | with_reducible omega | (simp (disch := omega) only [g_upd_ne, g_upd_eq, fr_X4_fix, fr_X5_put, fr_X1_startAnew, fr_X1_walkTo, fr_X1_arrive, fr_X1_countBelow, fr_X3_set]; first | with_reducible assumption | with_reducible omega | decide) | exact Or.inl rfl | exact Or.inr rfl)) LX6_19 obj_120 rfl rfl rfl dX6_digitAt_2 rfl rfl ?_
  refine r_istore_n (lc' := [(2, .int (R_X6_byteAt m x1)), (0, .ref (g_ad X 120)), (1, .int x1)]) O dX6_digitAt_5 rfl (hN 2 rfl) rfl ?_
  refine r_iload_n O 0 dX6_digitAt_6 rfl rfl ?_
  refine r_bipush (x := 48) O dX6_digitAt_7 rfl ?_
  refine r_icmp_lt O 25 dX6_digitAt_9 (by decide) (fun c_9 => ?_) (fun c_9 => ?_)
  · have e_9 : (R_X6_byteAt m x1).toInt < (48 : Int) := j_ltR c_9 rfl
    refine r_iconst (x := (-1)) O dX6_digitAt_25 rfl ?_
    exact r_iret O dX6_digitAt_26 rfl (Nat.le_of_ble_eq_true rfl) (Nat.le_of_ble_eq_true rfl) rfl
  · have e_9 : (48 : Int) ≤ (R_X6_byteAt m x1).toInt := j_nltR c_9 rfl
    refine r_iload_n O 0 dX6_digitAt_12 rfl rfl ?_
    refine r_bipush (x := 57) O dX6_digitAt_13 rfl ?_
    refine r_icmp_gt O 25 dX6_digitAt_15 (by decide) (fun c_15 => ?_) (fun c_15 => ?_)
    · have e_15 : (57 : Int) < (R_X6_byteAt m x1).toInt := j_ltL c_15 rfl
      refine r_iconst (x := (-1)) O dX6_digitAt_25 rfl ?_
      exact r_iret O dX6_digitAt_26 rfl (Nat.le_of_ble_eq_true rfl) (Nat.le_of_ble_eq_true rfl) rfl
    · have e_15 : (R_X6_byteAt m x1).toInt ≤ (57 : Int) := j_nltL c_15 rfl
      refine r_iload_n O 0 dX6_digitAt_18 rfl rfl ?_
      refine r_bipush (x := 48) O dX6_digitAt_19 rfl ?_
      refine r_isub O dX6_digitAt_21 ?_
      refine r_goto O 26 dX6_digitAt_22 (by decide) ?_
      exact r_iret O dX6_digitAt_26 rfl (Nat.le_of_ble_eq_true rfl) (Nat.le_of_ble_eq_true rfl) rfl
theorem met_X6_digitAt (l : Launch) (hs : l.stackTraces = false) (q : g_q) (m : Nat → Int32) (x1 : Int32) (p0 : (m 980).toInt ≤ 90) : g_SM l yX6_digitAt cX6_digitAt 3 (some .int) ({ frames := 1, cells := 0, slots := 0, locals := 21 } : Room) (fun ad => [.ref (ad 120), .int x1]) m q ((fun r : Int32 => ((.inl (some (.int r)), (m, q)) : g_Res)) (R_X6_digitAt m x1)) :=
  g_sm_of (by decide) (fun _ => Nat.le_of_ble_eq_true rfl) hs (fun X hl hn O => walk_X6_digitAt O (by rw [hl]; exact hs) hn p0)
def R_X6_wrongAt (m : Nat → Int32) (x0 : Int32) : Int32 := ((-1) - x0)
set_option maxRecDepth 100000 in
set_option maxHeartbeats 4000000 in
theorem walk_X6_wrongAt {X : g_X} (O : g_ok X cX6_wrongAt RX6 (some .int) ({ frames := 0, cells := 0, slots := 0, locals := 0 } : Room)) (hs : (g_xl X).stackTraces = false) (hn : g_xn X = 1) {q : g_q} {m : Nat → Int32} {x0 : Int32}  : g_V X (fun r : Int32 => ((.inl (some (.int r)), (m, q)) : g_Res)) (R_X6_wrongAt m x0) 0 0 m q 0 [(0, .int x0)] [] := by
  have hN : ∀ i, Nat.blt i 1 = true → i < g_xn X := fun i h => by rw [hn]; exact g_blt.mp h
  refine r_iconst (x := (-1)) O dX6_wrongAt_0 rfl ?_
  refine r_iload_n O 0 dX6_wrongAt_1 rfl rfl ?_
  refine r_isub O dX6_wrongAt_2 ?_
  exact r_iret O dX6_wrongAt_3 rfl (Nat.le_of_ble_eq_true rfl) (Nat.le_of_ble_eq_true rfl) rfl
theorem met_X6_wrongAt (l : Launch) (hs : l.stackTraces = false) (q : g_q) (m : Nat → Int32) (x0 : Int32)  : g_SM l yX6_wrongAt cX6_wrongAt 1 (some .int) ({ frames := 0, cells := 0, slots := 0, locals := 0 } : Room) (fun ad => [.int x0]) m q ((fun r : Int32 => ((.inl (some (.int r)), (m, q)) : g_Res)) (R_X6_wrongAt m x0)) :=
  g_sm_of (by decide) (fun _ => Nat.le_of_ble_eq_true rfl) hs (fun X hl hn O => walk_X6_wrongAt O (by rw [hl]; exact hs) hn )
def R_X6_behindEnd (m : Nat → Int32) (x1 : Int32) : Int32 := (if (R_X6_byteAt m x1) = 59 then (x1 + 1) else (R_X6_wrongAt m x1))
set_option maxRecDepth 100000 in
set_option maxHeartbeats 4000000 in
theorem walk_X6_behindEnd {X : g_X} (O : g_ok X cX6_behindEnd RX6 (some .int) ({ frames := 1, cells := 0, slots := 0, locals := 21 } : Room)) (hs : (g_xl X).stackTraces = false) (hn : g_xn X = 2) {q : g_q} {m : Nat → Int32} {x1 : Int32} (p0 : (m 980).toInt ≤ 90) : g_V X (fun r : Int32 => ((.inl (some (.int r)), (m, q)) : g_Res)) (R_X6_behindEnd m x1) 0 0 m q 0 [(0, .ref (g_ad X 120)), (1, .int x1)] [] := by
  have hN : ∀ i, Nat.blt i 2 = true → i < g_xn X := fun i h => by rw [hn]; exact g_blt.mp h
  refine r_aload_n O 0 dX6_behindEnd_0 rfl rfl ?_
  refine r_iload_n O 1 dX6_behindEnd_1 rfl rfl ?_
  refine r_callVi O [.int x1] [] (met_X6_byteAt (g_xl X) hs q m x1 (by first | decide | with_reducible assumption | with_reducible omega | (simp (disch := omega) only [g_upd_ne, g_upd_eq, fr_X4_fix, fr_X5_put, fr_X1_startAnew, fr_X1_walkTo, fr_X1_arrive, fr_X1_countBelow, fr_X3_set]; first | with_reducible assumption | with_reducible omega | decide) | exact Or.inl rfl | exact Or.inr rfl)) LX6_19 obj_120 rfl rfl rfl dX6_behindEnd_2 rfl rfl ?_
  refine r_bipush (x := 59) O dX6_behindEnd_5 rfl ?_
  refine r_icmp_ne O 16 dX6_behindEnd_7 (by decide) (fun c_7 => ?_) (fun c_7 => ?_)
  · have e_7 : (R_X6_byteAt m x1).toInt = (59 : Int) := j_eqR c_7 rfl
    refine r_iload_n O 1 dX6_behindEnd_10 rfl rfl ?_
    refine r_iconst (x := 1) O dX6_behindEnd_11 rfl ?_
    refine r_iadd O dX6_behindEnd_12 ?_
    refine r_goto O 20 dX6_behindEnd_13 (by decide) ?_
    exact r_iret O dX6_behindEnd_20 rfl (Nat.le_of_ble_eq_true rfl) (Nat.le_of_ble_eq_true rfl) rfl
  · have e_7 : (R_X6_byteAt m x1).toInt ≠ (59 : Int) := j_neR c_7 rfl
    refine r_iload_n O 1 dX6_behindEnd_16 rfl rfl ?_
    refine r_callSi O [.int x1] [] (met_X6_wrongAt (g_xl X) hs q m x1 ) LX6_26 rfl rfl rfl dX6_behindEnd_17 rfl rfl ?_
    exact r_iret O dX6_behindEnd_20 rfl (Nat.le_of_ble_eq_true rfl) (Nat.le_of_ble_eq_true rfl) rfl
theorem met_X6_behindEnd (l : Launch) (hs : l.stackTraces = false) (q : g_q) (m : Nat → Int32) (x1 : Int32) (p0 : (m 980).toInt ≤ 90) : g_SM l yX6_behindEnd cX6_behindEnd 2 (some .int) ({ frames := 1, cells := 0, slots := 0, locals := 21 } : Room) (fun ad => [.ref (ad 120), .int x1]) m q ((fun r : Int32 => ((.inl (some (.int r)), (m, q)) : g_Res)) (R_X6_behindEnd m x1)) :=
  g_sm_of (by decide) (fun _ => Nat.le_of_ble_eq_true rfl) hs (fun X hl hn O => walk_X6_behindEnd O (by rw [hl]; exact hs) hn p0)
def R_X6_isUpTo (m : Nat → Int32) (x1 : Int32) (x2 : Int32) : Int32 := (if (R_X6_digitAt m x2) = (-1) then 0 else (if x1 < (R_X6_digitAt m x2) then 0 else 1))
set_option maxRecDepth 100000 in
set_option maxHeartbeats 4000000 in
theorem walk_X6_isUpTo {X : g_X} (O : g_ok X cX6_isUpTo RX6 (some .boolean) ({ frames := 2, cells := 0, slots := 0, locals := 43 } : Room)) (hs : (g_xl X).stackTraces = false) (hn : g_xn X = 4) {q : g_q} {m : Nat → Int32} {x1 : Int32} {x2 : Int32} (p0 : (m 980).toInt ≤ 90) : g_V X (fun r : Int32 => ((.inl (some (.int r)), (m, q)) : g_Res)) (R_X6_isUpTo m x1 x2) 0 0 m q 0 [(0, .ref (g_ad X 120)), (1, .int x1), (2, .int x2)] [] := by
  have hN : ∀ i, Nat.blt i 4 = true → i < g_xn X := fun i h => by rw [hn]; exact g_blt.mp h
  refine r_aload_n O 0 dX6_isUpTo_0 rfl rfl ?_
  refine r_iload_n O 2 dX6_isUpTo_1 rfl rfl ?_
  refine r_callVi O [.int x2] [] (met_X6_digitAt (g_xl X) hs q m x2 (by first | decide | with_reducible assumption | with_reducible omega | (simp (disch := omega) only [g_upd_ne, g_upd_eq, fr_X4_fix, fr_X5_put, fr_X1_startAnew, fr_X1_walkTo, fr_X1_arrive, fr_X1_countBelow, fr_X3_set]; first | with_reducible assumption | with_reducible omega | decide) | exact Or.inl rfl | exact Or.inr rfl)) LX6_45 obj_120 rfl rfl rfl dX6_isUpTo_2 rfl rfl ?_
  refine r_istore_n (lc' := [(3, .int (R_X6_digitAt m x2)), (0, .ref (g_ad X 120)), (1, .int x1), (2, .int x2)]) O dX6_isUpTo_5 rfl (hN 3 rfl) rfl ?_
  refine r_iload_n O 0 dX6_isUpTo_6 rfl rfl ?_
  refine r_iconst (x := (-1)) O dX6_isUpTo_7 rfl ?_
  refine r_icmp_eq O 20 dX6_isUpTo_8 (by decide) (fun c_8 => ?_) (fun c_8 => ?_)
  · have e_8 : (R_X6_digitAt m x2).toInt = (-1 : Int) := j_eqR c_8 rfl
    refine r_iconst (x := 0) O dX6_isUpTo_20 rfl ?_
    exact r_iret O dX6_isUpTo_21 rfl (Nat.le_of_ble_eq_true rfl) (Nat.le_of_ble_eq_true rfl) rfl
  · have e_8 : (R_X6_digitAt m x2).toInt ≠ (-1 : Int) := j_neR c_8 rfl
    refine r_iload_n O 0 dX6_isUpTo_11 rfl rfl ?_
    refine r_iload_n O 2 dX6_isUpTo_12 rfl rfl ?_
    refine r_icmp_gt O 20 dX6_isUpTo_13 (by decide) (fun c_13 => ?_) (fun c_13 => ?_)
    · have e_13 : (x1).toInt < (R_X6_digitAt m x2).toInt := j_lt c_13
      refine r_iconst (x := 0) O dX6_isUpTo_20 rfl ?_
      exact r_iret O dX6_isUpTo_21 rfl (Nat.le_of_ble_eq_true rfl) (Nat.le_of_ble_eq_true rfl) rfl
    · have e_13 : (R_X6_digitAt m x2).toInt ≤ (x1).toInt := j_nlt c_13
      refine r_iconst (x := 1) O dX6_isUpTo_16 rfl ?_
      refine r_goto O 21 dX6_isUpTo_17 (by decide) ?_
      exact r_iret O dX6_isUpTo_21 rfl (Nat.le_of_ble_eq_true rfl) (Nat.le_of_ble_eq_true rfl) rfl
theorem met_X6_isUpTo (l : Launch) (hs : l.stackTraces = false) (q : g_q) (m : Nat → Int32) (x1 : Int32) (x2 : Int32) (p0 : (m 980).toInt ≤ 90) : g_SM l yX6_isUpTo cX6_isUpTo 4 (some .boolean) ({ frames := 2, cells := 0, slots := 0, locals := 43 } : Room) (fun ad => [.ref (ad 120), .int x1, .int x2]) m q ((fun r : Int32 => ((.inl (some (.int r)), (m, q)) : g_Res)) (R_X6_isUpTo m x1 x2)) :=
  g_sm_of (by decide) (fun _ => Nat.le_of_ble_eq_true rfl) hs (fun X hl hn O => walk_X6_isUpTo O (by rw [hl]; exact hs) hn p0)
def R_X6_behindTwoDigits (m : Nat → Int32) (x1 : Int32) : Int32 := (if (R_X6_isUpTo m 5 x1) = 0 then (R_X6_wrongAt m x1) else (if (R_X6_isUpTo m 7 (x1 + 1)) = 0 then (R_X6_wrongAt m (x1 + 1)) else (R_X6_behindEnd m (x1 + 2))))
set_option maxRecDepth 100000 in
set_option maxHeartbeats 4000000 in
theorem walk_X6_behindTwoDigits {X : g_X} (O : g_ok X cX6_behindTwoDigits RX6 (some .int) ({ frames := 3, cells := 0, slots := 0, locals := 66 } : Room)) (hs : (g_xl X).stackTraces = false) (hn : g_xn X = 2) {q : g_q} {m : Nat → Int32} {x1 : Int32} (p0 : (m 980).toInt ≤ 90) : g_V X (fun r : Int32 => ((.inl (some (.int r)), (m, q)) : g_Res)) (R_X6_behindTwoDigits m x1) 0 0 m q 0 [(0, .ref (g_ad X 120)), (1, .int x1)] [] := by
  have hN : ∀ i, Nat.blt i 2 = true → i < g_xn X := fun i h => by rw [hn]; exact g_blt.mp h
  refine r_aload_n O 0 dX6_behindTwoDigits_0 rfl rfl ?_
  refine r_iconst (x := 5) O dX6_behindTwoDigits_1 rfl ?_
  refine r_iload_n O 1 dX6_behindTwoDigits_2 rfl rfl ?_
  refine r_callVi O [.int 5, .int x1] [] (met_X6_isUpTo (g_xl X) hs q m 5 x1 (by first | decide | with_reducible assumption | with_reducible omega | (simp (disch := omega) only [g_upd_ne, g_upd_eq, fr_X4_fix, fr_X5_put, fr_X1_startAnew, fr_X1_walkTo, fr_X1_arrive, fr_X1_countBelow, fr_X3_set]; first | with_reducible assumption | with_reducible omega | decide) | exact Or.inl rfl | exact Or.inr rfl)) LX6_32 obj_120 rfl rfl rfl dX6_behindTwoDigits_3 rfl rfl ?_
  refine r_if_ne O 14 dX6_behindTwoDigits_6 (by decide) (fun c_6 => ?_) (fun c_6 => ?_)
  · have e_6 : (R_X6_isUpTo m 5 x1).toInt = (0 : Int) := j_eqR c_6 rfl
    refine r_iload_n O 1 dX6_behindTwoDigits_9 rfl rfl ?_
    refine r_callSi O [.int x1] [] (met_X6_wrongAt (g_xl X) hs q m x1 ) LX6_26 rfl rfl rfl dX6_behindTwoDigits_10 rfl rfl ?_
    exact r_iret O dX6_behindTwoDigits_13 rfl (Nat.le_of_ble_eq_true rfl) (Nat.le_of_ble_eq_true rfl) rfl
  · have e_6 : (R_X6_isUpTo m 5 x1).toInt ≠ (0 : Int) := j_neR c_6 rfl
    refine r_aload_n O 0 dX6_behindTwoDigits_14 rfl rfl ?_
    refine r_bipush (x := 7) O dX6_behindTwoDigits_15 rfl ?_
    refine r_iload_n O 1 dX6_behindTwoDigits_17 rfl rfl ?_
    refine r_iconst (x := 1) O dX6_behindTwoDigits_18 rfl ?_
    refine r_iadd O dX6_behindTwoDigits_19 ?_
    refine r_callVi O [.int 7, .int (x1 + 1)] [] (met_X6_isUpTo (g_xl X) hs q m 7 (x1 + 1) (by first | decide | with_reducible assumption | with_reducible omega | (simp (disch := omega) only [g_upd_ne, g_upd_eq, fr_X4_fix, fr_X5_put, fr_X1_startAnew, fr_X1_walkTo, fr_X1_arrive, fr_X1_countBelow, fr_X3_set]; first | with_reducible assumption | with_reducible omega | decide) | exact Or.inl rfl | exact Or.inr rfl)) LX6_32 obj_120 rfl rfl rfl dX6_behindTwoDigits_20 rfl rfl ?_
    refine r_if_eq O 36 dX6_behindTwoDigits_23 (by decide) (fun c_23 => ?_) (fun c_23 => ?_)
    · have e_23 : (R_X6_isUpTo m 7 (x1 + 1)).toInt = (0 : Int) := j_eqR c_23 rfl
      refine r_iload_n O 1 dX6_behindTwoDigits_36 rfl rfl ?_
      refine r_iconst (x := 1) O dX6_behindTwoDigits_37 rfl ?_
      refine r_iadd O dX6_behindTwoDigits_38 ?_
      refine r_callSi O [.int (x1 + 1)] [] (met_X6_wrongAt (g_xl X) hs q m (x1 + 1) ) LX6_26 rfl rfl rfl dX6_behindTwoDigits_39 rfl rfl ?_
      exact r_iret O dX6_behindTwoDigits_42 rfl (Nat.le_of_ble_eq_true rfl) (Nat.le_of_ble_eq_true rfl) rfl
    · have e_23 : (R_X6_isUpTo m 7 (x1 + 1)).toInt ≠ (0 : Int) := j_neR c_23 rfl
      refine r_aload_n O 0 dX6_behindTwoDigits_26 rfl rfl ?_
      refine r_iload_n O 1 dX6_behindTwoDigits_27 rfl rfl ?_
      refine r_iconst (x := 2) O dX6_behindTwoDigits_28 rfl ?_
      refine r_iadd O dX6_behindTwoDigits_29 ?_
      refine r_callVi O [.int (x1 + 2)] [] (met_X6_behindEnd (g_xl X) hs q m (x1 + 2) (by first | decide | with_reducible assumption | with_reducible omega | (simp (disch := omega) only [g_upd_ne, g_upd_eq, fr_X4_fix, fr_X5_put, fr_X1_startAnew, fr_X1_walkTo, fr_X1_arrive, fr_X1_countBelow, fr_X3_set]; first | with_reducible assumption | with_reducible omega | decide) | exact Or.inl rfl | exact Or.inr rfl)) LX6_36 obj_120 rfl rfl rfl dX6_behindTwoDigits_30 rfl rfl ?_
      refine r_goto O 42 dX6_behindTwoDigits_33 (by decide) ?_
      exact r_iret O dX6_behindTwoDigits_42 rfl (Nat.le_of_ble_eq_true rfl) (Nat.le_of_ble_eq_true rfl) rfl
theorem met_X6_behindTwoDigits (l : Launch) (hs : l.stackTraces = false) (q : g_q) (m : Nat → Int32) (x1 : Int32) (p0 : (m 980).toInt ≤ 90) : g_SM l yX6_behindTwoDigits cX6_behindTwoDigits 2 (some .int) ({ frames := 3, cells := 0, slots := 0, locals := 66 } : Room) (fun ad => [.ref (ad 120), .int x1]) m q ((fun r : Int32 => ((.inl (some (.int r)), (m, q)) : g_Res)) (R_X6_behindTwoDigits m x1)) :=
  g_sm_of (by decide) (fun _ => Nat.le_of_ble_eq_true rfl) hs (fun X hl hn O => walk_X6_behindTwoDigits O (by rw [hl]; exact hs) hn p0)
def R_X6_digitsOfSet_4 (m : Nat → Int32) (x1 : Int32) : Nat → Int32 → Nat → Int32
  | 0, _, _ => 0
  | f + 1, v2_4, n => (if 6 ≤ (nI n) then 6 else (if (R_X6_digitAt m (x1 + (nI n))) ≤ v2_4 then (nI n) else (if (R_X6_digitAt m (x1 + (nI n))) < 6 then ((R_X6_digitsOfSet_4 m x1 f) (R_X6_digitAt m (x1 + (nI n))) (n + 1)) else (nI n))))
def R_X6_digitsOfSet (m : Nat → Int32) (x1 : Int32) : Int32 := (R_X6_digitsOfSet_4 m x1 7 (-1) 0)
set_option maxRecDepth 100000 in
set_option maxHeartbeats 4000000 in
theorem walk_X6_digitsOfSet {X : g_X} (O : g_ok X cX6_digitsOfSet RX6 (some .int) ({ frames := 2, cells := 0, slots := 0, locals := 43 } : Room)) (hs : (g_xl X).stackTraces = false) (hn : g_xn X = 5) {q : g_q} {m : Nat → Int32} {x1 : Int32} (p0 : (m 980).toInt ≤ 90) : g_V X (fun r : Int32 => ((.inl (some (.int r)), (m, q)) : g_Res)) (R_X6_digitsOfSet m x1) 0 0 m q 0 [(0, .ref (g_ad X 120)), (1, .int x1)] [] := by
  have hN : ∀ i, Nat.blt i 5 = true → i < g_xn X := fun i h => by rw [hn]; exact g_blt.mp h
  refine r_iconst (x := (-1)) O dX6_digitsOfSet_0 rfl ?_
  refine r_istore_n (lc' := [(2, .int (-1)), (0, .ref (g_ad X 120)), (1, .int x1)]) O dX6_digitsOfSet_1 rfl (hN 2 rfl) rfl ?_
  refine r_iconst (x := 0) O dX6_digitsOfSet_2 rfl ?_
  refine r_istore_n (lc' := [(3, .int 0), (2, .int (-1)), (0, .ref (g_ad X 120)), (1, .int x1)]) O dX6_digitsOfSet_3 rfl (hN 3 rfl) rfl ?_
  have L_4 : ∀ (f_4 : Nat) (v2_4 : Int32) (n : Nat) (hi_4 : n ≤ 6 ∧ 6 < f_4 + n), g_V X (fun r : Int32 => ((.inl (some (.int r)), (m, q)) : g_Res)) (R_X6_digitsOfSet_4 m x1 f_4 v2_4 n) 0 0 m q 4 [(0, .ref (g_ad X 120)), (1, .int x1), (2, .int v2_4), (3, .int (nI n))] [] := by
    intro f_4
    induction f_4 with
    | zero => intro v2_4 n hi_4; exact absurd hi_4 (by omega)
    | succ f_4 ih_4 =>
      intro v2_4 n hi_4
      have hc_n : (nI n).toInt = (n : Int) := nI_toInt (by omega)
      refine r_iload_n O 3 dX6_digitsOfSet_4 rfl rfl ?_
      refine r_bipush (x := 6) O dX6_digitsOfSet_5 rfl ?_
      refine r_icmp_ge O 43 dX6_digitsOfSet_7 (by decide) (fun c_7 => ?_) (fun c_7 => ?_)
      · have e_7 : (6 : Int) ≤ (nI n).toInt := j_leL c_7 rfl
        refine r_bipush (x := 6) O dX6_digitsOfSet_43 rfl ?_
        exact r_iret O dX6_digitsOfSet_45 rfl (Nat.le_of_ble_eq_true rfl) (Nat.le_of_ble_eq_true rfl) rfl
      · have e_7 : (nI n).toInt < (6 : Int) := j_nleL c_7 rfl
        refine r_aload_n O 0 dX6_digitsOfSet_10 rfl rfl ?_
        refine r_iload_n O 1 dX6_digitsOfSet_11 rfl rfl ?_
        refine r_iload_n O 3 dX6_digitsOfSet_12 rfl rfl ?_
        refine r_iadd O dX6_digitsOfSet_13 ?_
        refine r_callVi O [.int (x1 + (nI n))] [] (met_X6_digitAt (g_xl X) hs q m (x1 + (nI n)) (by first | decide | with_reducible assumption | with_reducible omega | (simp (disch := omega) only [g_upd_ne, g_upd_eq, fr_X4_fix, fr_X5_put, fr_X1_startAnew, fr_X1_walkTo, fr_X1_arrive, fr_X1_countBelow, fr_X3_set]; first | with_reducible assumption | with_reducible omega | decide) | exact Or.inl rfl | exact Or.inr rfl)) LX6_45 obj_120 rfl rfl rfl dX6_digitsOfSet_14 rfl rfl ?_
        refine r_istore (lc' := [(4, .int (R_X6_digitAt m (x1 + (nI n)))), (0, .ref (g_ad X 120)), (1, .int x1), (2, .int v2_4), (3, .int (nI n))]) O dX6_digitsOfSet_17 (hN 4 rfl) rfl ?_
        refine r_iload O 0 dX6_digitsOfSet_19 rfl ?_
        refine r_iload_n O 3 dX6_digitsOfSet_21 rfl rfl ?_
        refine r_icmp_le O 32 dX6_digitsOfSet_22 (by decide) (fun c_22 => ?_) (fun c_22 => ?_)
        · have e_22 : (R_X6_digitAt m (x1 + (nI n))).toInt ≤ (v2_4).toInt := j_le c_22
          refine r_iload_n O 4 dX6_digitsOfSet_32 rfl rfl ?_
          exact r_iret O dX6_digitsOfSet_33 rfl (Nat.le_of_ble_eq_true rfl) (Nat.le_of_ble_eq_true rfl) rfl
        · have e_22 : (v2_4).toInt < (R_X6_digitAt m (x1 + (nI n))).toInt := j_nle c_22
          refine r_iload O 0 dX6_digitsOfSet_25 rfl ?_
          refine r_bipush (x := 6) O dX6_digitsOfSet_27 rfl ?_
          refine r_icmp_lt O 34 dX6_digitsOfSet_29 (by decide) (fun c_29 => ?_) (fun c_29 => ?_)
          · have e_29 : (R_X6_digitAt m (x1 + (nI n))).toInt < (6 : Int) := j_ltR c_29 rfl
            refine r_iload O 0 dX6_digitsOfSet_34 rfl ?_
            refine r_istore_n (lc' := [(2, .int (R_X6_digitAt m (x1 + (nI n)))), (4, .int (R_X6_digitAt m (x1 + (nI n)))), (0, .ref (g_ad X 120)), (1, .int x1), (3, .int (nI n))]) O dX6_digitsOfSet_36 rfl (hN 2 rfl) rfl ?_
            refine r_iinc (lc' := [(3, .int (nI (n + 1))), (2, .int (R_X6_digitAt m (x1 + (nI n)))), (4, .int (R_X6_digitAt m (x1 + (nI n)))), (0, .ref (g_ad X 120)), (1, .int x1)]) O 4 dX6_digitsOfSet_37 rfl (nI_1 n) (hN 3 rfl) rfl ?_
            refine r_goto O 4 dX6_digitsOfSet_40 (by decide) ?_
            refine r_sub [3, 4, 1, 0] rfl ?_
            exact ih_4 (R_X6_digitAt m (x1 + (nI n))) (n + 1) (by with_reducible omega)
          · have e_29 : (6 : Int) ≤ (R_X6_digitAt m (x1 + (nI n))).toInt := j_nltR c_29 rfl
            refine r_iload_n O 4 dX6_digitsOfSet_32 rfl rfl ?_
            exact r_iret O dX6_digitsOfSet_33 rfl (Nat.le_of_ble_eq_true rfl) (Nat.le_of_ble_eq_true rfl) rfl
  refine r_sub [2, 3, 1, 0] rfl ?_
  exact L_4 7 (-1) 0 (by with_reducible omega)
theorem met_X6_digitsOfSet (l : Launch) (hs : l.stackTraces = false) (q : g_q) (m : Nat → Int32) (x1 : Int32) (p0 : (m 980).toInt ≤ 90) : g_SM l yX6_digitsOfSet cX6_digitsOfSet 5 (some .int) ({ frames := 2, cells := 0, slots := 0, locals := 43 } : Room) (fun ad => [.ref (ad 120), .int x1]) m q ((fun r : Int32 => ((.inl (some (.int r)), (m, q)) : g_Res)) (R_X6_digitsOfSet m x1)) :=
  g_sm_of (by decide) (fun _ => Nat.le_of_ble_eq_true rfl) hs (fun X hl hn O => walk_X6_digitsOfSet O (by rw [hl]; exact hs) hn p0)
theorem b_X6_digitsOfSet_4 {m : Nat → Int32} {x : Int32} : ∀ (f n : Nat) (b : Int32), n ≤ 6 → (R_X6_digitsOfSet_4 m x f b n).toInt ≤ 6
  | 0, n, b, _ => by show (0 : Int32).toInt ≤ 6; decide
  | f + 1, n, b, h => by
    unfold R_X6_digitsOfSet_4
    have hc : (nI n).toInt = (n : Int) := nI_toInt (by omega)
    split
    · decide
    · rename_i hb
      have hb := j_nle hb
      have : (6 : Int32).toInt = 6 := rfl
      have hr := b_X6_digitsOfSet_4 (m := m) (x := x) f (n + 1)
      split
      · omega
      · split
        · exact hr _ (by omega)
        · omega
theorem b_X6_digitsOfSet {m : Nat → Int32} {x : Int32} : (R_X6_digitsOfSet m x).toInt ≤ 6 := b_X6_digitsOfSet_4 _ _ _ (by omega)
def R_X6_behindSet (m : Nat → Int32) (x1 : Int32) : Int32 := (if 3 ≤ (R_X6_digitsOfSet m x1) then (R_X6_behindEnd m (x1 + (R_X6_digitsOfSet m x1))) else (R_X6_wrongAt m (x1 + (R_X6_digitsOfSet m x1))))
set_option maxRecDepth 100000 in
set_option maxHeartbeats 4000000 in
theorem walk_X6_behindSet {X : g_X} (O : g_ok X cX6_behindSet RX6 (some .int) ({ frames := 3, cells := 0, slots := 0, locals := 67 } : Room)) (hs : (g_xl X).stackTraces = false) (hn : g_xn X = 3) {q : g_q} {m : Nat → Int32} {x1 : Int32} (p0 : (m 980).toInt ≤ 90) : g_V X (fun r : Int32 => ((.inl (some (.int r)), (m, q)) : g_Res)) (R_X6_behindSet m x1) 0 0 m q 0 [(0, .ref (g_ad X 120)), (1, .int x1)] [] := by
  have hN : ∀ i, Nat.blt i 3 = true → i < g_xn X := fun i h => by rw [hn]; exact g_blt.mp h
  refine r_aload_n O 0 dX6_behindSet_0 rfl rfl ?_
  refine r_iload_n O 1 dX6_behindSet_1 rfl rfl ?_
  refine r_callVi O [.int x1] [] (met_X6_digitsOfSet (g_xl X) hs q m x1 (by first | decide | with_reducible assumption | with_reducible omega | (simp (disch := omega) only [g_upd_ne, g_upd_eq, fr_X4_fix, fr_X5_put, fr_X1_startAnew, fr_X1_walkTo, fr_X1_arrive, fr_X1_countBelow, fr_X3_set]; first | with_reducible assumption | with_reducible omega | decide) | exact Or.inl rfl | exact Or.inr rfl)) LX6_48 obj_120 rfl rfl rfl dX6_behindSet_2 rfl rfl ?_
  refine r_istore_n (lc' := [(2, .int (R_X6_digitsOfSet m x1)), (0, .ref (g_ad X 120)), (1, .int x1)]) O dX6_behindSet_5 rfl (hN 2 rfl) rfl ?_
  refine r_iload_n O 0 dX6_behindSet_6 rfl rfl ?_
  refine r_iconst (x := 3) O dX6_behindSet_7 rfl ?_
  refine r_icmp_ge O 20 dX6_behindSet_8 (by decide) (fun c_8 => ?_) (fun c_8 => ?_)
  · have e_8 : (3 : Int) ≤ (R_X6_digitsOfSet m x1).toInt := j_leL c_8 rfl
    refine r_aload_n O 1 dX6_behindSet_20 rfl rfl ?_
    refine r_iload_n O 2 dX6_behindSet_21 rfl rfl ?_
    refine r_iload_n O 0 dX6_behindSet_22 rfl rfl ?_
    refine r_iadd O dX6_behindSet_23 ?_
    refine r_callVi O [.int (x1 + (R_X6_digitsOfSet m x1))] [] (met_X6_behindEnd (g_xl X) hs q m (x1 + (R_X6_digitsOfSet m x1)) (by first | decide | with_reducible assumption | with_reducible omega | (simp (disch := omega) only [g_upd_ne, g_upd_eq, fr_X4_fix, fr_X5_put, fr_X1_startAnew, fr_X1_walkTo, fr_X1_arrive, fr_X1_countBelow, fr_X3_set]; first | with_reducible assumption | with_reducible omega | decide) | exact Or.inl rfl | exact Or.inr rfl)) LX6_36 obj_120 rfl rfl rfl dX6_behindSet_24 rfl rfl ?_
    exact r_iret O dX6_behindSet_27 rfl (Nat.le_of_ble_eq_true rfl) (Nat.le_of_ble_eq_true rfl) rfl
  · have e_8 : (R_X6_digitsOfSet m x1).toInt < (3 : Int) := j_nleL c_8 rfl
    refine r_iload_n O 2 dX6_behindSet_11 rfl rfl ?_
    refine r_iload_n O 0 dX6_behindSet_12 rfl rfl ?_
    refine r_iadd O dX6_behindSet_13 ?_
    refine r_callSi O [.int (x1 + (R_X6_digitsOfSet m x1))] [] (met_X6_wrongAt (g_xl X) hs q m (x1 + (R_X6_digitsOfSet m x1)) ) LX6_26 rfl rfl rfl dX6_behindSet_14 rfl rfl ?_
    refine r_goto O 27 dX6_behindSet_17 (by decide) ?_
    exact r_iret O dX6_behindSet_27 rfl (Nat.le_of_ble_eq_true rfl) (Nat.le_of_ble_eq_true rfl) rfl
theorem met_X6_behindSet (l : Launch) (hs : l.stackTraces = false) (q : g_q) (m : Nat → Int32) (x1 : Int32) (p0 : (m 980).toInt ≤ 90) : g_SM l yX6_behindSet cX6_behindSet 3 (some .int) ({ frames := 3, cells := 0, slots := 0, locals := 67 } : Room) (fun ad => [.ref (ad 120), .int x1]) m q ((fun r : Int32 => ((.inl (some (.int r)), (m, q)) : g_Res)) (R_X6_behindSet m x1)) :=
  g_sm_of (by decide) (fun _ => Nat.le_of_ble_eq_true rfl) hs (fun X hl hn O => walk_X6_behindSet O (by rw [hl]; exact hs) hn p0)
def R_X6_digitsOfNumber_2 (m : Nat → Int32) (x1 : Int32) : Nat → Nat → Int32
  | 0, _ => 0
  | f + 1, n => (if 3 ≤ (nI n) then 3 else (if (R_X6_digitAt m (x1 + (nI n))) = (-1) then (nI n) else ((R_X6_digitsOfNumber_2 m x1 f) (n + 1))))
def R_X6_digitsOfNumber (m : Nat → Int32) (x1 : Int32) : Int32 := (R_X6_digitsOfNumber_2 m x1 4 0)
set_option maxRecDepth 100000 in
set_option maxHeartbeats 4000000 in
theorem walk_X6_digitsOfNumber {X : g_X} (O : g_ok X cX6_digitsOfNumber RX6 (some .int) ({ frames := 2, cells := 0, slots := 0, locals := 43 } : Room)) (hs : (g_xl X).stackTraces = false) (hn : g_xn X = 3) {q : g_q} {m : Nat → Int32} {x1 : Int32} (p0 : (m 980).toInt ≤ 90) : g_V X (fun r : Int32 => ((.inl (some (.int r)), (m, q)) : g_Res)) (R_X6_digitsOfNumber m x1) 0 0 m q 0 [(0, .ref (g_ad X 120)), (1, .int x1)] [] := by
  have hN : ∀ i, Nat.blt i 3 = true → i < g_xn X := fun i h => by rw [hn]; exact g_blt.mp h
  refine r_iconst (x := 0) O dX6_digitsOfNumber_0 rfl ?_
  refine r_istore_n (lc' := [(2, .int 0), (0, .ref (g_ad X 120)), (1, .int x1)]) O dX6_digitsOfNumber_1 rfl (hN 2 rfl) rfl ?_
  have L_2 : ∀ (f_2 : Nat) (n : Nat) (hi_2 : n ≤ 3 ∧ 3 < f_2 + n), g_V X (fun r : Int32 => ((.inl (some (.int r)), (m, q)) : g_Res)) (R_X6_digitsOfNumber_2 m x1 f_2 n) 0 0 m q 2 [(0, .ref (g_ad X 120)), (1, .int x1), (2, .int (nI n))] [] := by
    intro f_2
    induction f_2 with
    | zero => intro n hi_2; exact absurd hi_2 (by omega)
    | succ f_2 ih_2 =>
      intro n hi_2
      have hc_n : (nI n).toInt = (n : Int) := nI_toInt (by omega)
      refine r_iload_n O 2 dX6_digitsOfNumber_2 rfl rfl ?_
      refine r_iconst (x := 3) O dX6_digitsOfNumber_3 rfl ?_
      refine r_icmp_ge O 26 dX6_digitsOfNumber_4 (by decide) (fun c_4 => ?_) (fun c_4 => ?_)
      · have e_4 : (3 : Int) ≤ (nI n).toInt := j_leL c_4 rfl
        refine r_iconst (x := 3) O dX6_digitsOfNumber_26 rfl ?_
        exact r_iret O dX6_digitsOfNumber_27 rfl (Nat.le_of_ble_eq_true rfl) (Nat.le_of_ble_eq_true rfl) rfl
      · have e_4 : (nI n).toInt < (3 : Int) := j_nleL c_4 rfl
        refine r_aload_n O 0 dX6_digitsOfNumber_7 rfl rfl ?_
        refine r_iload_n O 1 dX6_digitsOfNumber_8 rfl rfl ?_
        refine r_iload_n O 2 dX6_digitsOfNumber_9 rfl rfl ?_
        refine r_iadd O dX6_digitsOfNumber_10 ?_
        refine r_callVi O [.int (x1 + (nI n))] [] (met_X6_digitAt (g_xl X) hs q m (x1 + (nI n)) (by first | decide | with_reducible assumption | with_reducible omega | (simp (disch := omega) only [g_upd_ne, g_upd_eq, fr_X4_fix, fr_X5_put, fr_X1_startAnew, fr_X1_walkTo, fr_X1_arrive, fr_X1_countBelow, fr_X3_set]; first | with_reducible assumption | with_reducible omega | decide) | exact Or.inl rfl | exact Or.inr rfl)) LX6_45 obj_120 rfl rfl rfl dX6_digitsOfNumber_11 rfl rfl ?_
        refine r_iconst (x := (-1)) O dX6_digitsOfNumber_14 rfl ?_
        refine r_icmp_ne O 20 dX6_digitsOfNumber_15 (by decide) (fun c_15 => ?_) (fun c_15 => ?_)
        · have e_15 : (R_X6_digitAt m (x1 + (nI n))).toInt = (-1 : Int) := j_eqR c_15 rfl
          refine r_iload_n O 2 dX6_digitsOfNumber_18 rfl rfl ?_
          exact r_iret O dX6_digitsOfNumber_19 rfl (Nat.le_of_ble_eq_true rfl) (Nat.le_of_ble_eq_true rfl) rfl
        · have e_15 : (R_X6_digitAt m (x1 + (nI n))).toInt ≠ (-1 : Int) := j_neR c_15 rfl
          refine r_iinc (lc' := [(2, .int (nI (n + 1))), (0, .ref (g_ad X 120)), (1, .int x1)]) O 2 dX6_digitsOfNumber_20 rfl (nI_1 n) (hN 2 rfl) rfl ?_
          refine r_goto O 2 dX6_digitsOfNumber_23 (by decide) ?_
          refine r_sub [1, 2, 0] rfl ?_
          exact ih_2 (n + 1) (by with_reducible omega)
  refine r_sub [1, 2, 0] rfl ?_
  exact L_2 4 0 (by with_reducible omega)
theorem met_X6_digitsOfNumber (l : Launch) (hs : l.stackTraces = false) (q : g_q) (m : Nat → Int32) (x1 : Int32) (p0 : (m 980).toInt ≤ 90) : g_SM l yX6_digitsOfNumber cX6_digitsOfNumber 3 (some .int) ({ frames := 2, cells := 0, slots := 0, locals := 43 } : Room) (fun ad => [.ref (ad 120), .int x1]) m q ((fun r : Int32 => ((.inl (some (.int r)), (m, q)) : g_Res)) (R_X6_digitsOfNumber m x1)) :=
  g_sm_of (by decide) (fun _ => Nat.le_of_ble_eq_true rfl) hs (fun X hl hn O => walk_X6_digitsOfNumber O (by rw [hl]; exact hs) hn p0)
theorem b_X6_digitsOfNumber_2 {m : Nat → Int32} {x : Int32} : ∀ (f n : Nat), n ≤ 3 → (R_X6_digitsOfNumber_2 m x f n).toInt ≤ 3
  | 0, n, _ => by show (0 : Int32).toInt ≤ 3; decide
  | f + 1, n, h => by
    unfold R_X6_digitsOfNumber_2
    have hc : (nI n).toInt = (n : Int) := nI_toInt (by omega)
    split
    · decide
    · rename_i hb
      have hb := j_nle hb
      have : (3 : Int32).toInt = 3 := rfl
      have hr := b_X6_digitsOfNumber_2 (m := m) (x := x) f (n + 1)
      split
      · omega
      · exact hr (by omega)
theorem b_X6_digitsOfNumber {m : Nat → Int32} {x : Int32} : (R_X6_digitsOfNumber m x).toInt ≤ 3 := b_X6_digitsOfNumber_2 _ _ (by omega)
def R_X6_numberOf_5 (m : Nat → Int32) (x1 : Int32) (x2 : Int32) : Nat → Int32 → Nat → Int32
  | 0, _, _ => 0
  | f + 1, v3_5, n => (if x2 ≤ (nI n) then v3_5 else ((R_X6_numberOf_5 m x1 x2 f) ((10 * v3_5) + (R_X6_digitAt m (x1 + (nI n)))) (n + 1)))
def R_X6_numberOf (m : Nat → Int32) (x1 : Int32) (x2 : Int32) : Int32 := (R_X6_numberOf_5 m x1 x2 4 0 0)
set_option maxRecDepth 100000 in
set_option maxHeartbeats 4000000 in
theorem walk_X6_numberOf {X : g_X} (O : g_ok X cX6_numberOf RX6 (some .int) ({ frames := 2, cells := 0, slots := 0, locals := 43 } : Room)) (hs : (g_xl X).stackTraces = false) (hn : g_xn X = 5) {q : g_q} {m : Nat → Int32} {x1 : Int32} {x2 : Int32} (p0 : (m 980).toInt ≤ 90) (p1 : x2.toInt ≤ 3) : g_V X (fun r : Int32 => ((.inl (some (.int r)), (m, q)) : g_Res)) (R_X6_numberOf m x1 x2) 0 0 m q 0 [(0, .ref (g_ad X 120)), (1, .int x1), (2, .int x2)] [] := by
  have hN : ∀ i, Nat.blt i 5 = true → i < g_xn X := fun i h => by rw [hn]; exact g_blt.mp h
  refine r_iconst (x := 0) O dX6_numberOf_0 rfl ?_
  refine r_istore_n (lc' := [(3, .int 0), (0, .ref (g_ad X 120)), (1, .int x1), (2, .int x2)]) O dX6_numberOf_1 rfl (hN 3 rfl) rfl ?_
  refine r_iconst (x := 0) O dX6_numberOf_2 rfl ?_
  refine r_istore (lc' := [(4, .int 0), (3, .int 0), (0, .ref (g_ad X 120)), (1, .int x1), (2, .int x2)]) O dX6_numberOf_3 (hN 4 rfl) rfl ?_
  have L_5 : ∀ (f_5 : Nat) (v3_5 : Int32) (n : Nat) (hi_5 : n ≤ 3 ∧ 3 < f_5 + n), g_V X (fun r : Int32 => ((.inl (some (.int r)), (m, q)) : g_Res)) (R_X6_numberOf_5 m x1 x2 f_5 v3_5 n) 0 0 m q 5 [(0, .ref (g_ad X 120)), (1, .int x1), (2, .int x2), (3, .int v3_5), (4, .int (nI n))] [] := by
    intro f_5
    induction f_5 with
    | zero => intro v3_5 n hi_5; exact absurd hi_5 (by omega)
    | succ f_5 ih_5 =>
      intro v3_5 n hi_5
      have hc_n : (nI n).toInt = (n : Int) := nI_toInt (by omega)
      refine r_iload O 4 dX6_numberOf_5 rfl ?_
      refine r_iload_n O 2 dX6_numberOf_7 rfl rfl ?_
      refine r_icmp_ge O 31 dX6_numberOf_8 (by decide) (fun c_8 => ?_) (fun c_8 => ?_)
      · have e_8 : (x2).toInt ≤ (nI n).toInt := j_le c_8
        refine r_iload_n O 3 dX6_numberOf_31 rfl rfl ?_
        exact r_iret O dX6_numberOf_32 rfl (Nat.le_of_ble_eq_true rfl) (Nat.le_of_ble_eq_true rfl) rfl
      · have e_8 : (nI n).toInt < (x2).toInt := j_nle c_8
        refine r_bipush (x := 10) O dX6_numberOf_11 rfl ?_
        refine r_iload_n O 3 dX6_numberOf_13 rfl rfl ?_
        refine r_imul O dX6_numberOf_14 ?_
        refine r_aload_n O 0 dX6_numberOf_15 rfl rfl ?_
        refine r_iload_n O 1 dX6_numberOf_16 rfl rfl ?_
        refine r_iload O 4 dX6_numberOf_17 rfl ?_
        refine r_iadd O dX6_numberOf_19 ?_
        refine r_callVi O [.int (x1 + (nI n))] [.int (10 * v3_5)] (met_X6_digitAt (g_xl X) hs q m (x1 + (nI n)) (by first | decide | with_reducible assumption | with_reducible omega | (simp (disch := omega) only [g_upd_ne, g_upd_eq, fr_X4_fix, fr_X5_put, fr_X1_startAnew, fr_X1_walkTo, fr_X1_arrive, fr_X1_countBelow, fr_X3_set]; first | with_reducible assumption | with_reducible omega | decide) | exact Or.inl rfl | exact Or.inr rfl)) LX6_45 obj_120 rfl rfl rfl dX6_numberOf_20 rfl rfl ?_
        refine r_iadd O dX6_numberOf_23 ?_
        refine r_istore_n (lc' := [(3, .int ((10 * v3_5) + (R_X6_digitAt m (x1 + (nI n))))), (0, .ref (g_ad X 120)), (1, .int x1), (2, .int x2), (4, .int (nI n))]) O dX6_numberOf_24 rfl (hN 3 rfl) rfl ?_
        refine r_iinc (lc' := [(4, .int (nI (n + 1))), (3, .int ((10 * v3_5) + (R_X6_digitAt m (x1 + (nI n))))), (0, .ref (g_ad X 120)), (1, .int x1), (2, .int x2)]) O 4 dX6_numberOf_25 rfl (nI_1 n) (hN 4 rfl) rfl ?_
        refine r_goto O 5 dX6_numberOf_28 (by decide) ?_
        refine r_sub [2, 3, 4, 1, 0] rfl ?_
        exact ih_5 ((10 * v3_5) + (R_X6_digitAt m (x1 + (nI n)))) (n + 1) (by with_reducible omega)
  refine r_sub [2, 3, 4, 1, 0] rfl ?_
  exact L_5 4 0 0 (by with_reducible omega)
theorem met_X6_numberOf (l : Launch) (hs : l.stackTraces = false) (q : g_q) (m : Nat → Int32) (x1 : Int32) (x2 : Int32) (p0 : (m 980).toInt ≤ 90) (p1 : x2.toInt ≤ 3) : g_SM l yX6_numberOf cX6_numberOf 5 (some .int) ({ frames := 2, cells := 0, slots := 0, locals := 43 } : Room) (fun ad => [.ref (ad 120), .int x1, .int x2]) m q ((fun r : Int32 => ((.inl (some (.int r)), (m, q)) : g_Res)) (R_X6_numberOf m x1 x2)) :=
  g_sm_of (by decide) (fun _ => Nat.le_of_ble_eq_true rfl) hs (fun X hl hn O => walk_X6_numberOf O (by rw [hl]; exact hs) hn p0 p1)
def R_X6_numberAt (m : Nat → Int32) (x1 : Int32) : Int32 := (R_X6_numberOf m x1 (R_X6_digitsOfNumber m x1))
set_option maxRecDepth 100000 in
set_option maxHeartbeats 4000000 in
theorem walk_X6_numberAt {X : g_X} (O : g_ok X cX6_numberAt RX6 (some .int) ({ frames := 3, cells := 0, slots := 0, locals := 67 } : Room)) (hs : (g_xl X).stackTraces = false) (hn : g_xn X = 2) {q : g_q} {m : Nat → Int32} {x1 : Int32} (p0 : (m 980).toInt ≤ 90) : g_V X (fun r : Int32 => ((.inl (some (.int r)), (m, q)) : g_Res)) (R_X6_numberAt m x1) 0 0 m q 0 [(0, .ref (g_ad X 120)), (1, .int x1)] [] := by
  have hN : ∀ i, Nat.blt i 2 = true → i < g_xn X := fun i h => by rw [hn]; exact g_blt.mp h
  have hb := b_X6_digitsOfNumber (m := m) (x := x1)
  refine r_aload_n O 0 dX6_numberAt_0 rfl rfl ?_
  refine r_iload_n O 1 dX6_numberAt_1 rfl rfl ?_
  refine r_aload_n O 0 dX6_numberAt_2 rfl rfl ?_
  refine r_iload_n O 1 dX6_numberAt_3 rfl rfl ?_
  refine r_callVi O [.int x1] [.int x1, .ref (g_ad X 120)] (met_X6_digitsOfNumber (g_xl X) hs q m x1 (by first | decide | with_reducible assumption | with_reducible omega | (simp (disch := omega) only [g_upd_ne, g_upd_eq, fr_X4_fix, fr_X5_put, fr_X1_startAnew, fr_X1_walkTo, fr_X1_arrive, fr_X1_countBelow, fr_X3_set]; first | with_reducible assumption | with_reducible omega | decide) | exact Or.inl rfl | exact Or.inr rfl)) LX6_51 obj_120 rfl rfl rfl dX6_numberAt_4 rfl rfl ?_
  refine r_callVi O [.int x1, .int (R_X6_digitsOfNumber m x1)] [] (met_X6_numberOf (g_xl X) hs q m x1 (R_X6_digitsOfNumber m x1) (by first | decide | with_reducible assumption | with_reducible omega | (simp (disch := omega) only [g_upd_ne, g_upd_eq, fr_X4_fix, fr_X5_put, fr_X1_startAnew, fr_X1_walkTo, fr_X1_arrive, fr_X1_countBelow, fr_X3_set]; first | with_reducible assumption | with_reducible omega | decide) | exact Or.inl rfl | exact Or.inr rfl) (by first | decide | with_reducible assumption | with_reducible omega | (simp (disch := omega) only [g_upd_ne, g_upd_eq, fr_X4_fix, fr_X5_put, fr_X1_startAnew, fr_X1_walkTo, fr_X1_arrive, fr_X1_countBelow, fr_X3_set]; first | with_reducible assumption | with_reducible omega | decide) | exact Or.inl rfl | exact Or.inr rfl)) LX6_54 obj_120 rfl rfl rfl dX6_numberAt_7 rfl rfl ?_
  exact r_iret O dX6_numberAt_10 rfl (Nat.le_of_ble_eq_true rfl) (Nat.le_of_ble_eq_true rfl) rfl
theorem met_X6_numberAt (l : Launch) (hs : l.stackTraces = false) (q : g_q) (m : Nat → Int32) (x1 : Int32) (p0 : (m 980).toInt ≤ 90) : g_SM l yX6_numberAt cX6_numberAt 2 (some .int) ({ frames := 3, cells := 0, slots := 0, locals := 67 } : Room) (fun ad => [.ref (ad 120), .int x1]) m q ((fun r : Int32 => ((.inl (some (.int r)), (m, q)) : g_Res)) (R_X6_numberAt m x1)) :=
  g_sm_of (by decide) (fun _ => Nat.le_of_ble_eq_true rfl) hs (fun X hl hn O => walk_X6_numberAt O (by rw [hl]; exact hs) hn p0)
def R_X6_behindNumber_21 (m : Nat → Int32) (x1 : Int32) : Int32 := (R_X6_wrongAt m (x1 + (R_X6_digitsOfNumber m x1)))
def R_X6_behindNumber_47 (m : Nat → Int32) (x1 : Int32) : Int32 := (R_X6_wrongAt m x1)
def R_X6_behindNumber (m : Nat → Int32) (x1 : Int32) : Int32 := (if (R_X6_digitsOfNumber m x1) = 0 then (R_X6_behindNumber_21 m x1 ) else (if (R_X6_digitAt m (x1 + (R_X6_digitsOfNumber m x1))) = (-1) then (if (R_X6_numberOf m x1 (R_X6_digitsOfNumber m x1)) < 1 then (R_X6_behindNumber_47 m x1 ) else (if (R_X6_numberOf m x1 (R_X6_digitsOfNumber m x1)) ≤ 600 then (R_X6_behindEnd m (x1 + (R_X6_digitsOfNumber m x1))) else (R_X6_behindNumber_47 m x1 ))) else (R_X6_behindNumber_21 m x1 )))
set_option maxRecDepth 100000 in
set_option maxHeartbeats 4000000 in
theorem walk_X6_behindNumber {X : g_X} (O : g_ok X cX6_behindNumber RX6 (some .int) ({ frames := 3, cells := 0, slots := 0, locals := 67 } : Room)) (hs : (g_xl X).stackTraces = false) (hn : g_xn X = 4) {q : g_q} {m : Nat → Int32} {x1 : Int32} (p0 : (m 980).toInt ≤ 90) : g_V X (fun r : Int32 => ((.inl (some (.int r)), (m, q)) : g_Res)) (R_X6_behindNumber m x1) 0 0 m q 0 [(0, .ref (g_ad X 120)), (1, .int x1)] [] := by
  have hN : ∀ i, Nat.blt i 4 = true → i < g_xn X := fun i h => by rw [hn]; exact g_blt.mp h
  have hb := b_X6_digitsOfNumber (m := m) (x := x1)
  refine r_aload_n O 0 dX6_behindNumber_0 rfl rfl ?_
  refine r_iload_n O 1 dX6_behindNumber_1 rfl rfl ?_
  refine r_callVi O [.int x1] [] (met_X6_digitsOfNumber (g_xl X) hs q m x1 (by first | decide | with_reducible assumption | with_reducible omega | (simp (disch := omega) only [g_upd_ne, g_upd_eq, fr_X4_fix, fr_X5_put, fr_X1_startAnew, fr_X1_walkTo, fr_X1_arrive, fr_X1_countBelow, fr_X3_set]; first | with_reducible assumption | with_reducible omega | decide) | exact Or.inl rfl | exact Or.inr rfl)) LX6_51 obj_120 rfl rfl rfl dX6_behindNumber_2 rfl rfl ?_
  refine r_istore_n (lc' := [(2, .int (R_X6_digitsOfNumber m x1)), (0, .ref (g_ad X 120)), (1, .int x1)]) O dX6_behindNumber_5 rfl (hN 2 rfl) rfl ?_
  refine r_iload_n O 0 dX6_behindNumber_6 rfl rfl ?_
  have J_21 : g_V X (fun r : Int32 => ((.inl (some (.int r)), (m, q)) : g_Res)) (R_X6_behindNumber_21 m x1 ) 0 0 m q 21 [(1, .int x1), (2, .int (R_X6_digitsOfNumber m x1))] [] := by
    refine r_iload_n O 0 dX6_behindNumber_21 rfl rfl ?_
    refine r_iload_n O 1 dX6_behindNumber_22 rfl rfl ?_
    refine r_iadd O dX6_behindNumber_23 ?_
    refine r_callSi O [.int (x1 + (R_X6_digitsOfNumber m x1))] [] (met_X6_wrongAt (g_xl X) hs q m (x1 + (R_X6_digitsOfNumber m x1)) ) LX6_26 rfl rfl rfl dX6_behindNumber_24 rfl rfl ?_
    exact r_iret O dX6_behindNumber_27 rfl (Nat.le_of_ble_eq_true rfl) (Nat.le_of_ble_eq_true rfl) rfl
  refine r_if_eq O 21 dX6_behindNumber_7 (by decide) (fun c_7 => ?_) (fun c_7 => ?_)
  · have e_7 : (R_X6_digitsOfNumber m x1).toInt = (0 : Int) := j_eqR c_7 rfl
    refine r_sub [2, 0] rfl ?_
    exact J_21
  · have e_7 : (R_X6_digitsOfNumber m x1).toInt ≠ (0 : Int) := j_neR c_7 rfl
    refine r_aload_n O 1 dX6_behindNumber_10 rfl rfl ?_
    refine r_iload_n O 2 dX6_behindNumber_11 rfl rfl ?_
    refine r_iload_n O 0 dX6_behindNumber_12 rfl rfl ?_
    refine r_iadd O dX6_behindNumber_13 ?_
    refine r_callVi O [.int (x1 + (R_X6_digitsOfNumber m x1))] [] (met_X6_digitAt (g_xl X) hs q m (x1 + (R_X6_digitsOfNumber m x1)) (by first | decide | with_reducible assumption | with_reducible omega | (simp (disch := omega) only [g_upd_ne, g_upd_eq, fr_X4_fix, fr_X5_put, fr_X1_startAnew, fr_X1_walkTo, fr_X1_arrive, fr_X1_countBelow, fr_X3_set]; first | with_reducible assumption | with_reducible omega | decide) | exact Or.inl rfl | exact Or.inr rfl)) LX6_45 obj_120 rfl rfl rfl dX6_behindNumber_14 rfl rfl ?_
    refine r_iconst (x := (-1)) O dX6_behindNumber_17 rfl ?_
    refine r_icmp_eq O 28 dX6_behindNumber_18 (by decide) (fun c_18 => ?_) (fun c_18 => ?_)
    · have e_18 : (R_X6_digitAt m (x1 + (R_X6_digitsOfNumber m x1))).toInt = (-1 : Int) := j_eqR c_18 rfl
      refine r_aload_n O 1 dX6_behindNumber_28 rfl rfl ?_
      refine r_iload_n O 2 dX6_behindNumber_29 rfl rfl ?_
      refine r_iload_n O 0 dX6_behindNumber_30 rfl rfl ?_
      refine r_callVi O [.int x1, .int (R_X6_digitsOfNumber m x1)] [] (met_X6_numberOf (g_xl X) hs q m x1 (R_X6_digitsOfNumber m x1) (by first | decide | with_reducible assumption | with_reducible omega | (simp (disch := omega) only [g_upd_ne, g_upd_eq, fr_X4_fix, fr_X5_put, fr_X1_startAnew, fr_X1_walkTo, fr_X1_arrive, fr_X1_countBelow, fr_X3_set]; first | with_reducible assumption | with_reducible omega | decide) | exact Or.inl rfl | exact Or.inr rfl) (by first | decide | with_reducible assumption | with_reducible omega | (simp (disch := omega) only [g_upd_ne, g_upd_eq, fr_X4_fix, fr_X5_put, fr_X1_startAnew, fr_X1_walkTo, fr_X1_arrive, fr_X1_countBelow, fr_X3_set]; first | with_reducible assumption | with_reducible omega | decide) | exact Or.inl rfl | exact Or.inr rfl)) LX6_54 obj_120 rfl rfl rfl dX6_behindNumber_31 rfl rfl ?_
      refine r_istore_n (lc' := [(3, .int (R_X6_numberOf m x1 (R_X6_digitsOfNumber m x1))), (2, .int (R_X6_digitsOfNumber m x1)), (0, .ref (g_ad X 120)), (1, .int x1)]) O dX6_behindNumber_34 rfl (hN 3 rfl) rfl ?_
      refine r_iload_n O 0 dX6_behindNumber_35 rfl rfl ?_
      refine r_iconst (x := 1) O dX6_behindNumber_36 rfl ?_
      have J_47 : g_V X (fun r : Int32 => ((.inl (some (.int r)), (m, q)) : g_Res)) (R_X6_behindNumber_47 m x1 ) 0 0 m q 47 [(1, .int x1)] [] := by
        refine r_iload_n O 0 dX6_behindNumber_47 rfl rfl ?_
        refine r_callSi O [.int x1] [] (met_X6_wrongAt (g_xl X) hs q m x1 ) LX6_26 rfl rfl rfl dX6_behindNumber_48 rfl rfl ?_
        refine r_goto O 61 dX6_behindNumber_51 (by decide) ?_
        exact r_iret O dX6_behindNumber_61 rfl (Nat.le_of_ble_eq_true rfl) (Nat.le_of_ble_eq_true rfl) rfl
      refine r_icmp_lt O 47 dX6_behindNumber_37 (by decide) (fun c_37 => ?_) (fun c_37 => ?_)
      · have e_37 : (R_X6_numberOf m x1 (R_X6_digitsOfNumber m x1)).toInt < (1 : Int) := j_ltR c_37 rfl
        refine r_sub [3] rfl ?_
        exact J_47
      · have e_37 : (1 : Int) ≤ (R_X6_numberOf m x1 (R_X6_digitsOfNumber m x1)).toInt := j_nltR c_37 rfl
        refine r_iload_n O 0 dX6_behindNumber_40 rfl rfl ?_
        refine r_sipush (x := 600) O dX6_behindNumber_41 rfl ?_
        refine r_icmp_le O 54 dX6_behindNumber_44 (by decide) (fun c_44 => ?_) (fun c_44 => ?_)
        · have e_44 : (R_X6_numberOf m x1 (R_X6_digitsOfNumber m x1)).toInt ≤ (600 : Int) := j_leR c_44 rfl
          refine r_aload_n O 2 dX6_behindNumber_54 rfl rfl ?_
          refine r_iload_n O 3 dX6_behindNumber_55 rfl rfl ?_
          refine r_iload_n O 1 dX6_behindNumber_56 rfl rfl ?_
          refine r_iadd O dX6_behindNumber_57 ?_
          refine r_callVi O [.int (x1 + (R_X6_digitsOfNumber m x1))] [] (met_X6_behindEnd (g_xl X) hs q m (x1 + (R_X6_digitsOfNumber m x1)) (by first | decide | with_reducible assumption | with_reducible omega | (simp (disch := omega) only [g_upd_ne, g_upd_eq, fr_X4_fix, fr_X5_put, fr_X1_startAnew, fr_X1_walkTo, fr_X1_arrive, fr_X1_countBelow, fr_X3_set]; first | with_reducible assumption | with_reducible omega | decide) | exact Or.inl rfl | exact Or.inr rfl)) LX6_36 obj_120 rfl rfl rfl dX6_behindNumber_58 rfl rfl ?_
          exact r_iret O dX6_behindNumber_61 rfl (Nat.le_of_ble_eq_true rfl) (Nat.le_of_ble_eq_true rfl) rfl
        · have e_44 : (600 : Int) < (R_X6_numberOf m x1 (R_X6_digitsOfNumber m x1)).toInt := j_nleR c_44 rfl
          refine r_sub [3] rfl ?_
          exact J_47
    · have e_18 : (R_X6_digitAt m (x1 + (R_X6_digitsOfNumber m x1))).toInt ≠ (-1 : Int) := j_neR c_18 rfl
      refine r_sub [2, 0] rfl ?_
      exact J_21
theorem met_X6_behindNumber (l : Launch) (hs : l.stackTraces = false) (q : g_q) (m : Nat → Int32) (x1 : Int32) (p0 : (m 980).toInt ≤ 90) : g_SM l yX6_behindNumber cX6_behindNumber 4 (some .int) ({ frames := 3, cells := 0, slots := 0, locals := 67 } : Room) (fun ad => [.ref (ad 120), .int x1]) m q ((fun r : Int32 => ((.inl (some (.int r)), (m, q)) : g_Res)) (R_X6_behindNumber m x1)) :=
  g_sm_of (by decide) (fun _ => Nat.le_of_ble_eq_true rfl) hs (fun X hl hn O => walk_X6_behindNumber O (by rw [hl]; exact hs) hn p0)
def R_X6_setAt_11 (m : Nat → Int32) (x1 : Int32) : Nat → Int32 → Nat → Int32
  | 0, _, _ => 0
  | f + 1, v2_11, n => (if (R_X6_digitsOfSet m x1) ≤ (nI n) then v2_11 else ((R_X6_setAt_11 m x1 f) (v2_11 ||| (1 <<< ((R_X6_digitAt m (x1 + (nI n))) &&& 31))) (n + 1)))
def R_X6_setAt (m : Nat → Int32) (x1 : Int32) : Int32 := (R_X6_setAt_11 m x1 7 0 0)
set_option maxRecDepth 100000 in
set_option maxHeartbeats 4000000 in
theorem walk_X6_setAt {X : g_X} (O : g_ok X cX6_setAt RX6 (some .int) ({ frames := 3, cells := 0, slots := 0, locals := 67 } : Room)) (hs : (g_xl X).stackTraces = false) (hn : g_xn X = 5) {q : g_q} {m : Nat → Int32} {x1 : Int32} (p0 : (m 980).toInt ≤ 90) : g_V X (fun r : Int32 => ((.inl (some (.int r)), (m, q)) : g_Res)) (R_X6_setAt m x1) 0 0 m q 0 [(0, .ref (g_ad X 120)), (1, .int x1)] [] := by
  have hN : ∀ i, Nat.blt i 5 = true → i < g_xn X := fun i h => by rw [hn]; exact g_blt.mp h
  have hb := b_X6_digitsOfSet (m := m) (x := x1)
  refine r_iconst (x := 0) O dX6_setAt_0 rfl ?_
  refine r_istore_n (lc' := [(2, .int 0), (0, .ref (g_ad X 120)), (1, .int x1)]) O dX6_setAt_1 rfl (hN 2 rfl) rfl ?_
  refine r_aload_n O 1 dX6_setAt_2 rfl rfl ?_
  refine r_iload_n O 2 dX6_setAt_3 rfl rfl ?_
  refine r_callVi O [.int x1] [] (met_X6_digitsOfSet (g_xl X) hs q m x1 (by first | decide | with_reducible assumption | with_reducible omega | (simp (disch := omega) only [g_upd_ne, g_upd_eq, fr_X4_fix, fr_X5_put, fr_X1_startAnew, fr_X1_walkTo, fr_X1_arrive, fr_X1_countBelow, fr_X3_set]; first | with_reducible assumption | with_reducible omega | decide) | exact Or.inl rfl | exact Or.inr rfl)) LX6_48 obj_120 rfl rfl rfl dX6_setAt_4 rfl rfl ?_
  refine r_istore_n (lc' := [(3, .int (R_X6_digitsOfSet m x1)), (2, .int 0), (0, .ref (g_ad X 120)), (1, .int x1)]) O dX6_setAt_7 rfl (hN 3 rfl) rfl ?_
  refine r_iconst (x := 0) O dX6_setAt_8 rfl ?_
  refine r_istore (lc' := [(4, .int 0), (3, .int (R_X6_digitsOfSet m x1)), (2, .int 0), (0, .ref (g_ad X 120)), (1, .int x1)]) O dX6_setAt_9 (hN 4 rfl) rfl ?_
  have L_11 : ∀ (f_11 : Nat) (v2_11 : Int32) (n : Nat) (hi_11 : n ≤ 6 ∧ 6 < f_11 + n), g_V X (fun r : Int32 => ((.inl (some (.int r)), (m, q)) : g_Res)) (R_X6_setAt_11 m x1 f_11 v2_11 n) 0 0 m q 11 [(0, .ref (g_ad X 120)), (1, .int x1), (2, .int v2_11), (3, .int (R_X6_digitsOfSet m x1)), (4, .int (nI n))] [] := by
    intro f_11
    induction f_11 with
    | zero => intro v2_11 n hi_11; exact absurd hi_11 (by omega)
    | succ f_11 ih_11 =>
      intro v2_11 n hi_11
      have hc_n : (nI n).toInt = (n : Int) := nI_toInt (by omega)
      refine r_iload O 4 dX6_setAt_11 rfl ?_
      refine r_iload_n O 3 dX6_setAt_13 rfl rfl ?_
      refine r_icmp_ge O 36 dX6_setAt_14 (by decide) (fun c_14 => ?_) (fun c_14 => ?_)
      · have e_14 : (R_X6_digitsOfSet m x1).toInt ≤ (nI n).toInt := j_le c_14
        refine r_iload_n O 2 dX6_setAt_36 rfl rfl ?_
        exact r_iret O dX6_setAt_37 rfl (Nat.le_of_ble_eq_true rfl) (Nat.le_of_ble_eq_true rfl) rfl
      · have e_14 : (nI n).toInt < (R_X6_digitsOfSet m x1).toInt := j_nle c_14
        refine r_iload_n O 2 dX6_setAt_17 rfl rfl ?_
        refine r_iconst (x := 1) O dX6_setAt_18 rfl ?_
        refine r_aload_n O 0 dX6_setAt_19 rfl rfl ?_
        refine r_iload_n O 1 dX6_setAt_20 rfl rfl ?_
        refine r_iload O 4 dX6_setAt_21 rfl ?_
        refine r_iadd O dX6_setAt_23 ?_
        refine r_callVi O [.int (x1 + (nI n))] [.int 1, .int v2_11] (met_X6_digitAt (g_xl X) hs q m (x1 + (nI n)) (by first | decide | with_reducible assumption | with_reducible omega | (simp (disch := omega) only [g_upd_ne, g_upd_eq, fr_X4_fix, fr_X5_put, fr_X1_startAnew, fr_X1_walkTo, fr_X1_arrive, fr_X1_countBelow, fr_X3_set]; first | with_reducible assumption | with_reducible omega | decide) | exact Or.inl rfl | exact Or.inr rfl)) LX6_45 obj_120 rfl rfl rfl dX6_setAt_24 rfl rfl ?_
        refine r_ishl O dX6_setAt_27 ?_
        refine r_ior O dX6_setAt_28 ?_
        refine r_istore_n (lc' := [(2, .int (v2_11 ||| (1 <<< ((R_X6_digitAt m (x1 + (nI n))) &&& 31)))), (0, .ref (g_ad X 120)), (1, .int x1), (3, .int (R_X6_digitsOfSet m x1)), (4, .int (nI n))]) O dX6_setAt_29 rfl (hN 2 rfl) rfl ?_
        refine r_iinc (lc' := [(4, .int (nI (n + 1))), (2, .int (v2_11 ||| (1 <<< ((R_X6_digitAt m (x1 + (nI n))) &&& 31)))), (0, .ref (g_ad X 120)), (1, .int x1), (3, .int (R_X6_digitsOfSet m x1))]) O 4 dX6_setAt_30 rfl (nI_1 n) (hN 4 rfl) rfl ?_
        refine r_goto O 11 dX6_setAt_33 (by decide) ?_
        refine r_sub [2, 3, 1, 4, 0] rfl ?_
        exact ih_11 (v2_11 ||| (1 <<< ((R_X6_digitAt m (x1 + (nI n))) &&& 31))) (n + 1) (by with_reducible omega)
  refine r_sub [3, 4, 2, 1, 0] rfl ?_
  exact L_11 7 0 0 (by with_reducible omega)
theorem met_X6_setAt (l : Launch) (hs : l.stackTraces = false) (q : g_q) (m : Nat → Int32) (x1 : Int32) (p0 : (m 980).toInt ≤ 90) : g_SM l yX6_setAt cX6_setAt 5 (some .int) ({ frames := 3, cells := 0, slots := 0, locals := 67 } : Room) (fun ad => [.ref (ad 120), .int x1]) m q ((fun r : Int32 => ((.inl (some (.int r)), (m, q)) : g_Res)) (R_X6_setAt m x1)) :=
  g_sm_of (by decide) (fun _ => Nat.le_of_ble_eq_true rfl) hs (fun X hl hn O => walk_X6_setAt O (by rw [hl]; exact hs) hn p0)
def R_X6_behindOrder_144 (m : Nat → Int32) (x1 : Int32) : Int32 := (R_X6_wrongAt m x1)
def R_X6_behindOrder_100 (m : Nat → Int32) (x1 : Int32) : Int32 := (if (R_X6_isUpTo m 5 (x1 + 1)) = 0 then (R_X6_wrongAt m (x1 + 1)) else (R_X6_behindEnd m (x1 + 2)))
def R_X6_behindOrder_92 (m : Nat → Int32) (x1 : Int32) : Int32 := (R_X6_behindTwoDigits m (x1 + 1))
def R_X6_behindOrder (m : Nat → Int32) (x1 : Int32) : Int32 := (if (R_X6_byteAt m x1) = 99 then (R_X6_behindSet m (x1 + 1)) else (if (R_X6_byteAt m x1) = 100 then (R_X6_behindOrder_144 m x1 ) else (if (R_X6_byteAt m x1) = 101 then (R_X6_behindOrder_144 m x1 ) else (if (R_X6_byteAt m x1) = 102 then (R_X6_behindOrder_144 m x1 ) else (if (R_X6_byteAt m x1) = 103 then (R_X6_behindOrder_92 m x1 ) else (if (R_X6_byteAt m x1) = 104 then (R_X6_behindOrder_144 m x1 ) else (if (R_X6_byteAt m x1) = 105 then (R_X6_behindOrder_144 m x1 ) else (if (R_X6_byteAt m x1) = 106 then (R_X6_behindOrder_144 m x1 ) else (if (R_X6_byteAt m x1) = 107 then (R_X6_behindOrder_144 m x1 ) else (if (R_X6_byteAt m x1) = 108 then (R_X6_behindOrder_144 m x1 ) else (if (R_X6_byteAt m x1) = 109 then (R_X6_behindOrder_100 m x1 ) else (if (R_X6_byteAt m x1) = 110 then (R_X6_behindOrder_144 m x1 ) else (if (R_X6_byteAt m x1) = 111 then (R_X6_behindOrder_144 m x1 ) else (if (R_X6_byteAt m x1) = 112 then (R_X6_behindNumber m (x1 + 1)) else (if (R_X6_byteAt m x1) = 113 then (R_X6_behindOrder_144 m x1 ) else (if (R_X6_byteAt m x1) = 114 then (R_X6_behindOrder_100 m x1 ) else (if (R_X6_byteAt m x1) = 115 then (R_X6_behindOrder_144 m x1 ) else (if (R_X6_byteAt m x1) = 116 then (R_X6_behindOrder_92 m x1 ) else (R_X6_behindOrder_144 m x1 )))))))))))))))))))
set_option maxRecDepth 100000 in
set_option maxHeartbeats 4000000 in
theorem walk_X6_behindOrder {X : g_X} (O : g_ok X cX6_behindOrder RX6 (some .int) ({ frames := 4, cells := 0, slots := 0, locals := 90 } : Room)) (hs : (g_xl X).stackTraces = false) (hn : g_xn X = 2) {q : g_q} {m : Nat → Int32} {x1 : Int32} (p0 : (m 980).toInt ≤ 90) : g_V X (fun r : Int32 => ((.inl (some (.int r)), (m, q)) : g_Res)) (R_X6_behindOrder m x1) 0 0 m q 0 [(0, .ref (g_ad X 120)), (1, .int x1)] [] := by
  have hN : ∀ i, Nat.blt i 2 = true → i < g_xn X := fun i h => by rw [hn]; exact g_blt.mp h
  refine r_aload_n O 0 dX6_behindOrder_0 rfl rfl ?_
  refine r_iload_n O 1 dX6_behindOrder_1 rfl rfl ?_
  refine r_callVi O [.int x1] [] (met_X6_byteAt (g_xl X) hs q m x1 (by first | decide | with_reducible assumption | with_reducible omega | (simp (disch := omega) only [g_upd_ne, g_upd_eq, fr_X4_fix, fr_X5_put, fr_X1_startAnew, fr_X1_walkTo, fr_X1_arrive, fr_X1_countBelow, fr_X3_set]; first | with_reducible assumption | with_reducible omega | decide) | exact Or.inl rfl | exact Or.inr rfl)) LX6_19 obj_120 rfl rfl rfl dX6_behindOrder_2 rfl rfl ?_
  have J_144 : g_V X (fun r : Int32 => ((.inl (some (.int r)), (m, q)) : g_Res)) (R_X6_behindOrder_144 m x1 ) 0 0 m q 144 [(1, .int x1)] [] := by
    refine r_iload_n O 0 dX6_behindOrder_144 rfl rfl ?_
    refine r_callSi O [.int x1] [] (met_X6_wrongAt (g_xl X) hs q m x1 ) LX6_26 rfl rfl rfl dX6_behindOrder_145 rfl rfl ?_
    exact r_iret O dX6_behindOrder_148 rfl (Nat.le_of_ble_eq_true rfl) (Nat.le_of_ble_eq_true rfl) rfl
  have J_100 : g_V X (fun r : Int32 => ((.inl (some (.int r)), (m, q)) : g_Res)) (R_X6_behindOrder_100 m x1 ) 0 0 m q 100 [(0, .ref (g_ad X 120)), (1, .int x1)] [] := by
    refine r_aload_n O 0 dX6_behindOrder_100 rfl rfl ?_
    refine r_iconst (x := 5) O dX6_behindOrder_101 rfl ?_
    refine r_iload_n O 1 dX6_behindOrder_102 rfl rfl ?_
    refine r_iconst (x := 1) O dX6_behindOrder_103 rfl ?_
    refine r_iadd O dX6_behindOrder_104 ?_
    refine r_callVi O [.int 5, .int (x1 + 1)] [] (met_X6_isUpTo (g_xl X) hs q m 5 (x1 + 1) (by first | decide | with_reducible assumption | with_reducible omega | (simp (disch := omega) only [g_upd_ne, g_upd_eq, fr_X4_fix, fr_X5_put, fr_X1_startAnew, fr_X1_walkTo, fr_X1_arrive, fr_X1_countBelow, fr_X3_set]; first | with_reducible assumption | with_reducible omega | decide) | exact Or.inl rfl | exact Or.inr rfl)) LX6_32 obj_120 rfl rfl rfl dX6_behindOrder_105 rfl rfl ?_
    refine r_if_eq O 121 dX6_behindOrder_108 (by decide) (fun c_108 => ?_) (fun c_108 => ?_)
    · have e_108 : (R_X6_isUpTo m 5 (x1 + 1)).toInt = (0 : Int) := j_eqR c_108 rfl
      refine r_iload_n O 1 dX6_behindOrder_121 rfl rfl ?_
      refine r_iconst (x := 1) O dX6_behindOrder_122 rfl ?_
      refine r_iadd O dX6_behindOrder_123 ?_
      refine r_callSi O [.int (x1 + 1)] [] (met_X6_wrongAt (g_xl X) hs q m (x1 + 1) ) LX6_26 rfl rfl rfl dX6_behindOrder_124 rfl rfl ?_
      exact r_iret O dX6_behindOrder_127 rfl (Nat.le_of_ble_eq_true rfl) (Nat.le_of_ble_eq_true rfl) rfl
    · have e_108 : (R_X6_isUpTo m 5 (x1 + 1)).toInt ≠ (0 : Int) := j_neR c_108 rfl
      refine r_aload_n O 0 dX6_behindOrder_111 rfl rfl ?_
      refine r_iload_n O 1 dX6_behindOrder_112 rfl rfl ?_
      refine r_iconst (x := 2) O dX6_behindOrder_113 rfl ?_
      refine r_iadd O dX6_behindOrder_114 ?_
      refine r_callVi O [.int (x1 + 2)] [] (met_X6_behindEnd (g_xl X) hs q m (x1 + 2) (by first | decide | with_reducible assumption | with_reducible omega | (simp (disch := omega) only [g_upd_ne, g_upd_eq, fr_X4_fix, fr_X5_put, fr_X1_startAnew, fr_X1_walkTo, fr_X1_arrive, fr_X1_countBelow, fr_X3_set]; first | with_reducible assumption | with_reducible omega | decide) | exact Or.inl rfl | exact Or.inr rfl)) LX6_36 obj_120 rfl rfl rfl dX6_behindOrder_115 rfl rfl ?_
      refine r_goto O 127 dX6_behindOrder_118 (by decide) ?_
      exact r_iret O dX6_behindOrder_127 rfl (Nat.le_of_ble_eq_true rfl) (Nat.le_of_ble_eq_true rfl) rfl
  have J_92 : g_V X (fun r : Int32 => ((.inl (some (.int r)), (m, q)) : g_Res)) (R_X6_behindOrder_92 m x1 ) 0 0 m q 92 [(0, .ref (g_ad X 120)), (1, .int x1)] [] := by
    refine r_aload_n O 0 dX6_behindOrder_92 rfl rfl ?_
    refine r_iload_n O 1 dX6_behindOrder_93 rfl rfl ?_
    refine r_iconst (x := 1) O dX6_behindOrder_94 rfl ?_
    refine r_iadd O dX6_behindOrder_95 ?_
    refine r_callVi O [.int (x1 + 1)] [] (met_X6_behindTwoDigits (g_xl X) hs q m (x1 + 1) (by first | decide | with_reducible assumption | with_reducible omega | (simp (disch := omega) only [g_upd_ne, g_upd_eq, fr_X4_fix, fr_X5_put, fr_X1_startAnew, fr_X1_walkTo, fr_X1_arrive, fr_X1_countBelow, fr_X3_set]; first | with_reducible assumption | with_reducible omega | decide) | exact Or.inl rfl | exact Or.inr rfl)) LX6_29 obj_120 rfl rfl rfl dX6_behindOrder_96 rfl rfl ?_
    exact r_iret O dX6_behindOrder_99 rfl (Nat.le_of_ble_eq_true rfl) (Nat.le_of_ble_eq_true rfl) rfl
  refine g_if (fun c_5_0 => ?_) (fun c_5_0 => ?_)
  · refine r_tabIn O 128 dX6_behindOrder_5 (by rw [c_5_0]; decide) (by rw [c_5_0]; decide) (by rw [c_5_0]; rfl) (by decide) ?_
    refine r_aload_n O 0 dX6_behindOrder_128 rfl rfl ?_
    refine r_iload_n O 1 dX6_behindOrder_129 rfl rfl ?_
    refine r_iconst (x := 1) O dX6_behindOrder_130 rfl ?_
    refine r_iadd O dX6_behindOrder_131 ?_
    refine r_callVi O [.int (x1 + 1)] [] (met_X6_behindSet (g_xl X) hs q m (x1 + 1) (by first | decide | with_reducible assumption | with_reducible omega | (simp (disch := omega) only [g_upd_ne, g_upd_eq, fr_X4_fix, fr_X5_put, fr_X1_startAnew, fr_X1_walkTo, fr_X1_arrive, fr_X1_countBelow, fr_X3_set]; first | with_reducible assumption | with_reducible omega | decide) | exact Or.inl rfl | exact Or.inr rfl)) LX6_39 obj_120 rfl rfl rfl dX6_behindOrder_132 rfl rfl ?_
    exact r_iret O dX6_behindOrder_135 rfl (Nat.le_of_ble_eq_true rfl) (Nat.le_of_ble_eq_true rfl) rfl
  · refine g_if (fun c_5_1 => ?_) (fun c_5_1 => ?_)
    · refine r_tabIn O 144 dX6_behindOrder_5 (by rw [c_5_1]; decide) (by rw [c_5_1]; decide) (by rw [c_5_1]; rfl) (by decide) ?_
      refine r_sub [1] rfl ?_
      exact J_144
    · refine g_if (fun c_5_2 => ?_) (fun c_5_2 => ?_)
      · refine r_tabIn O 144 dX6_behindOrder_5 (by rw [c_5_2]; decide) (by rw [c_5_2]; decide) (by rw [c_5_2]; rfl) (by decide) ?_
        refine r_sub [1] rfl ?_
        exact J_144
      · refine g_if (fun c_5_3 => ?_) (fun c_5_3 => ?_)
        · refine r_tabIn O 144 dX6_behindOrder_5 (by rw [c_5_3]; decide) (by rw [c_5_3]; decide) (by rw [c_5_3]; rfl) (by decide) ?_
          refine r_sub [1] rfl ?_
          exact J_144
        · refine g_if (fun c_5_4 => ?_) (fun c_5_4 => ?_)
          · refine r_tabIn O 92 dX6_behindOrder_5 (by rw [c_5_4]; decide) (by rw [c_5_4]; decide) (by rw [c_5_4]; rfl) (by decide) ?_
            exact J_92
          · refine g_if (fun c_5_5 => ?_) (fun c_5_5 => ?_)
            · refine r_tabIn O 144 dX6_behindOrder_5 (by rw [c_5_5]; decide) (by rw [c_5_5]; decide) (by rw [c_5_5]; rfl) (by decide) ?_
              refine r_sub [1] rfl ?_
              exact J_144
            · refine g_if (fun c_5_6 => ?_) (fun c_5_6 => ?_)
              · refine r_tabIn O 144 dX6_behindOrder_5 (by rw [c_5_6]; decide) (by rw [c_5_6]; decide) (by rw [c_5_6]; rfl) (by decide) ?_
                refine r_sub [1] rfl ?_
                exact J_144
              · refine g_if (fun c_5_7 => ?_) (fun c_5_7 => ?_)
                · refine r_tabIn O 144 dX6_behindOrder_5 (by rw [c_5_7]; decide) (by rw [c_5_7]; decide) (by rw [c_5_7]; rfl) (by decide) ?_
                  refine r_sub [1] rfl ?_
                  exact J_144
                · refine g_if (fun c_5_8 => ?_) (fun c_5_8 => ?_)
                  · refine r_tabIn O 144 dX6_behindOrder_5 (by rw [c_5_8]; decide) (by rw [c_5_8]; decide) (by rw [c_5_8]; rfl) (by decide) ?_
                    refine r_sub [1] rfl ?_
                    exact J_144
                  · refine g_if (fun c_5_9 => ?_) (fun c_5_9 => ?_)
                    · refine r_tabIn O 144 dX6_behindOrder_5 (by rw [c_5_9]; decide) (by rw [c_5_9]; decide) (by rw [c_5_9]; rfl) (by decide) ?_
                      refine r_sub [1] rfl ?_
                      exact J_144
                    · refine g_if (fun c_5_10 => ?_) (fun c_5_10 => ?_)
                      · refine r_tabIn O 100 dX6_behindOrder_5 (by rw [c_5_10]; decide) (by rw [c_5_10]; decide) (by rw [c_5_10]; rfl) (by decide) ?_
                        exact J_100
                      · refine g_if (fun c_5_11 => ?_) (fun c_5_11 => ?_)
                        · refine r_tabIn O 144 dX6_behindOrder_5 (by rw [c_5_11]; decide) (by rw [c_5_11]; decide) (by rw [c_5_11]; rfl) (by decide) ?_
                          refine r_sub [1] rfl ?_
                          exact J_144
                        · refine g_if (fun c_5_12 => ?_) (fun c_5_12 => ?_)
                          · refine r_tabIn O 144 dX6_behindOrder_5 (by rw [c_5_12]; decide) (by rw [c_5_12]; decide) (by rw [c_5_12]; rfl) (by decide) ?_
                            refine r_sub [1] rfl ?_
                            exact J_144
                          · refine g_if (fun c_5_13 => ?_) (fun c_5_13 => ?_)
                            · refine r_tabIn O 136 dX6_behindOrder_5 (by rw [c_5_13]; decide) (by rw [c_5_13]; decide) (by rw [c_5_13]; rfl) (by decide) ?_
                              refine r_aload_n O 0 dX6_behindOrder_136 rfl rfl ?_
                              refine r_iload_n O 1 dX6_behindOrder_137 rfl rfl ?_
                              refine r_iconst (x := 1) O dX6_behindOrder_138 rfl ?_
                              refine r_iadd O dX6_behindOrder_139 ?_
                              refine r_callVi O [.int (x1 + 1)] [] (met_X6_behindNumber (g_xl X) hs q m (x1 + 1) (by first | decide | with_reducible assumption | with_reducible omega | (simp (disch := omega) only [g_upd_ne, g_upd_eq, fr_X4_fix, fr_X5_put, fr_X1_startAnew, fr_X1_walkTo, fr_X1_arrive, fr_X1_countBelow, fr_X3_set]; first | with_reducible assumption | with_reducible omega | decide) | exact Or.inl rfl | exact Or.inr rfl)) LX6_42 obj_120 rfl rfl rfl dX6_behindOrder_140 rfl rfl ?_
                              exact r_iret O dX6_behindOrder_143 rfl (Nat.le_of_ble_eq_true rfl) (Nat.le_of_ble_eq_true rfl) rfl
                            · refine g_if (fun c_5_14 => ?_) (fun c_5_14 => ?_)
                              · refine r_tabIn O 144 dX6_behindOrder_5 (by rw [c_5_14]; decide) (by rw [c_5_14]; decide) (by rw [c_5_14]; rfl) (by decide) ?_
                                refine r_sub [1] rfl ?_
                                exact J_144
                              · refine g_if (fun c_5_15 => ?_) (fun c_5_15 => ?_)
                                · refine r_tabIn O 100 dX6_behindOrder_5 (by rw [c_5_15]; decide) (by rw [c_5_15]; decide) (by rw [c_5_15]; rfl) (by decide) ?_
                                  exact J_100
                                · refine g_if (fun c_5_16 => ?_) (fun c_5_16 => ?_)
                                  · refine r_tabIn O 144 dX6_behindOrder_5 (by rw [c_5_16]; decide) (by rw [c_5_16]; decide) (by rw [c_5_16]; rfl) (by decide) ?_
                                    refine r_sub [1] rfl ?_
                                    exact J_144
                                  · refine g_if (fun c_5_17 => ?_) (fun c_5_17 => ?_)
                                    · refine r_tabIn O 92 dX6_behindOrder_5 (by rw [c_5_17]; decide) (by rw [c_5_17]; decide) (by rw [c_5_17]; rfl) (by decide) ?_
                                      exact J_92
                                    · refine r_tabOut O 144 dX6_behindOrder_5 (by have e0 : (R_X6_byteAt m x1).toInt ≠ 99 := j_neR c_5_0 rfl; have e1 : (R_X6_byteAt m x1).toInt ≠ 100 := j_neR c_5_1 rfl; have e2 : (R_X6_byteAt m x1).toInt ≠ 101 := j_neR c_5_2 rfl; have e3 : (R_X6_byteAt m x1).toInt ≠ 102 := j_neR c_5_3 rfl; have e4 : (R_X6_byteAt m x1).toInt ≠ 103 := j_neR c_5_4 rfl; have e5 : (R_X6_byteAt m x1).toInt ≠ 104 := j_neR c_5_5 rfl; have e6 : (R_X6_byteAt m x1).toInt ≠ 105 := j_neR c_5_6 rfl; have e7 : (R_X6_byteAt m x1).toInt ≠ 106 := j_neR c_5_7 rfl; have e8 : (R_X6_byteAt m x1).toInt ≠ 107 := j_neR c_5_8 rfl; have e9 : (R_X6_byteAt m x1).toInt ≠ 108 := j_neR c_5_9 rfl; have e10 : (R_X6_byteAt m x1).toInt ≠ 109 := j_neR c_5_10 rfl; have e11 : (R_X6_byteAt m x1).toInt ≠ 110 := j_neR c_5_11 rfl; have e12 : (R_X6_byteAt m x1).toInt ≠ 111 := j_neR c_5_12 rfl; have e13 : (R_X6_byteAt m x1).toInt ≠ 112 := j_neR c_5_13 rfl; have e14 : (R_X6_byteAt m x1).toInt ≠ 113 := j_neR c_5_14 rfl; have e15 : (R_X6_byteAt m x1).toInt ≠ 114 := j_neR c_5_15 rfl; have e16 : (R_X6_byteAt m x1).toInt ≠ 115 := j_neR c_5_16 rfl; have e17 : (R_X6_byteAt m x1).toInt ≠ 116 := j_neR c_5_17 rfl; omega) (by decide) ?_
                                      refine r_sub [1] rfl ?_
                                      exact J_144
theorem met_X6_behindOrder (l : Launch) (hs : l.stackTraces = false) (q : g_q) (m : Nat → Int32) (x1 : Int32) (p0 : (m 980).toInt ≤ 90) : g_SM l yX6_behindOrder cX6_behindOrder 2 (some .int) ({ frames := 4, cells := 0, slots := 0, locals := 90 } : Room) (fun ad => [.ref (ad 120), .int x1]) m q ((fun r : Int32 => ((.inl (some (.int r)), (m, q)) : g_Res)) (R_X6_behindOrder m x1)) :=
  g_sm_of (by decide) (fun _ => Nat.le_of_ble_eq_true rfl) hs (fun X hl hn O => walk_X6_behindOrder O (by rw [hl]; exact hs) hn p0)
def R_X6_firstWrong_4 (m : Nat → Int32) : Nat → Int32 → Nat → Int32
  | 0, _, _ => 0
  | f + 1, v1_4, n => (if 90 ≤ (nI n) then (-1) else (if (m 980) ≤ v1_4 then (-1) else (if 0 ≤ (R_X6_behindOrder m v1_4) then ((R_X6_firstWrong_4 m f) (R_X6_behindOrder m v1_4) (n + 1)) else (R_X6_wrongAt m (R_X6_behindOrder m v1_4)))))
def R_X6_firstWrong (m : Nat → Int32) : Int32 := (R_X6_firstWrong_4 m 91 0 0)
set_option maxRecDepth 100000 in
set_option maxHeartbeats 4000000 in
theorem walk_X6_firstWrong {X : g_X} (O : g_ok X cX6_firstWrong RX6 (some .int) ({ frames := 5, cells := 0, slots := 0, locals := 111 } : Room)) (hs : (g_xl X).stackTraces = false) (hn : g_xn X = 3) {q : g_q} {m : Nat → Int32} (p0 : (m 980).toInt ≤ 90) : g_V X (fun r : Int32 => ((.inl (some (.int r)), (m, q)) : g_Res)) (R_X6_firstWrong m) 0 0 m q 0 [(0, .ref (g_ad X 120))] [] := by
  have hN : ∀ i, Nat.blt i 3 = true → i < g_xn X := fun i h => by rw [hn]; exact g_blt.mp h
  refine r_iconst (x := 0) O dX6_firstWrong_0 rfl ?_
  refine r_istore_n (lc' := [(1, .int 0), (0, .ref (g_ad X 120))]) O dX6_firstWrong_1 rfl (hN 1 rfl) rfl ?_
  refine r_iconst (x := 0) O dX6_firstWrong_2 rfl ?_
  refine r_istore_n (lc' := [(2, .int 0), (1, .int 0), (0, .ref (g_ad X 120))]) O dX6_firstWrong_3 rfl (hN 2 rfl) rfl ?_
  have L_4 : ∀ (f_4 : Nat) (v1_4 : Int32) (n : Nat) (hi_4 : n ≤ 90 ∧ 90 < f_4 + n), g_V X (fun r : Int32 => ((.inl (some (.int r)), (m, q)) : g_Res)) (R_X6_firstWrong_4 m f_4 v1_4 n) 0 0 m q 4 [(0, .ref (g_ad X 120)), (1, .int v1_4), (2, .int (nI n))] [] := by
    intro f_4
    induction f_4 with
    | zero => intro v1_4 n hi_4; exact absurd hi_4 (by omega)
    | succ f_4 ih_4 =>
      intro v1_4 n hi_4
      have hc_n : (nI n).toInt = (n : Int) := nI_toInt (by omega)
      refine r_iload_n O 2 dX6_firstWrong_4 rfl rfl ?_
      refine r_bipush (x := 90) O dX6_firstWrong_5 rfl ?_
      refine r_icmp_ge O 39 dX6_firstWrong_7 (by decide) (fun c_7 => ?_) (fun c_7 => ?_)
      · have e_7 : (90 : Int) ≤ (nI n).toInt := j_leL c_7 rfl
        refine r_iconst (x := (-1)) O dX6_firstWrong_39 rfl ?_
        exact r_iret O dX6_firstWrong_40 rfl (Nat.le_of_ble_eq_true rfl) (Nat.le_of_ble_eq_true rfl) rfl
      · have e_7 : (nI n).toInt < (90 : Int) := j_nleL c_7 rfl
        refine r_iload_n O 1 dX6_firstWrong_10 rfl rfl ?_
        refine r_aload_n O 0 dX6_firstWrong_11 rfl rfl ?_
        refine r_get O FX6_15 G_120_1 dX6_firstWrong_12 ?_
        refine r_icmp_ge O 39 dX6_firstWrong_15 (by decide) (fun c_15 => ?_) (fun c_15 => ?_)
        · have e_15 : (m 980).toInt ≤ (v1_4).toInt := j_le c_15
          refine r_iconst (x := (-1)) O dX6_firstWrong_39 rfl ?_
          exact r_iret O dX6_firstWrong_40 rfl (Nat.le_of_ble_eq_true rfl) (Nat.le_of_ble_eq_true rfl) rfl
        · have e_15 : (v1_4).toInt < (m 980).toInt := j_nle c_15
          refine r_aload_n O 0 dX6_firstWrong_18 rfl rfl ?_
          refine r_iload_n O 1 dX6_firstWrong_19 rfl rfl ?_
          refine r_callVi O [.int v1_4] [] (met_X6_behindOrder (g_xl X) hs q m v1_4 (by first | decide | with_reducible assumption | with_reducible omega | (simp (disch := omega) only [g_upd_ne, g_upd_eq, fr_X4_fix, fr_X5_put, fr_X1_startAnew, fr_X1_walkTo, fr_X1_arrive, fr_X1_countBelow, fr_X3_set]; first | with_reducible assumption | with_reducible omega | decide) | exact Or.inl rfl | exact Or.inr rfl)) LX6_23 obj_120 rfl rfl rfl dX6_firstWrong_20 rfl rfl ?_
          refine r_istore_n (lc' := [(1, .int (R_X6_behindOrder m v1_4)), (0, .ref (g_ad X 120)), (2, .int (nI n))]) O dX6_firstWrong_23 rfl (hN 1 rfl) rfl ?_
          refine r_iload_n O 0 dX6_firstWrong_24 rfl rfl ?_
          refine r_if_ge O 33 dX6_firstWrong_25 (by decide) (fun c_25 => ?_) (fun c_25 => ?_)
          · have e_25 : (0 : Int) ≤ (R_X6_behindOrder m v1_4).toInt := j_leL c_25 rfl
            refine r_iinc (lc' := [(2, .int (nI (n + 1))), (1, .int (R_X6_behindOrder m v1_4)), (0, .ref (g_ad X 120))]) O 2 dX6_firstWrong_33 rfl (nI_1 n) (hN 2 rfl) rfl ?_
            refine r_goto O 4 dX6_firstWrong_36 (by decide) ?_
            refine r_sub [2, 1, 0] rfl ?_
            exact ih_4 (R_X6_behindOrder m v1_4) (n + 1) (by with_reducible omega)
          · have e_25 : (R_X6_behindOrder m v1_4).toInt < (0 : Int) := j_nleL c_25 rfl
            refine r_iload_n O 0 dX6_firstWrong_28 rfl rfl ?_
            refine r_callSi O [.int (R_X6_behindOrder m v1_4)] [] (met_X6_wrongAt (g_xl X) hs q m (R_X6_behindOrder m v1_4) ) LX6_26 rfl rfl rfl dX6_firstWrong_29 rfl rfl ?_
            exact r_iret O dX6_firstWrong_32 rfl (Nat.le_of_ble_eq_true rfl) (Nat.le_of_ble_eq_true rfl) rfl
  refine r_sub [2, 1, 0] rfl ?_
  exact L_4 91 0 0 (by with_reducible omega)
theorem met_X6_firstWrong (l : Launch) (hs : l.stackTraces = false) (q : g_q) (m : Nat → Int32) (p0 : (m 980).toInt ≤ 90) : g_SM l yX6_firstWrong cX6_firstWrong 3 (some .int) ({ frames := 5, cells := 0, slots := 0, locals := 111 } : Room) (fun ad => [.ref (ad 120)]) m q ((fun r : Int32 => ((.inl (some (.int r)), (m, q)) : g_Res)) (R_X6_firstWrong m)) :=
  g_sm_of (by decide) (fun _ => Nat.le_of_ble_eq_true rfl) hs (fun X hl hn O => walk_X6_firstWrong O (by rw [hl]; exact hs) hn p0)
