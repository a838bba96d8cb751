/-! ===== the model: looks ===== -/
def R_X8_isShut (s : Nat → Int32) (x1 : Int32) : Int32 := (if (s ((13 + x1).toNatClampNeg)) ≤ 0 then 0 else (if (s ((27 + x1).toNatClampNeg)) = (-1) then 1 else 0))
set_option maxRecDepth 100000 in
set_option maxHeartbeats 4000000 in
theorem walk_X8_isShut {X : g_X} (O : g_ok X cX8_isShut RX8 (some .boolean) ({ frames := 0, cells := 0, slots := 0, locals := 0 } : Room)) (hs : (g_xl X).stackTraces = false) (hn : g_xn X = 2) {m : Nat → Int32} {lm : Nat → Int64} {pm : Nat → Nat} {s : Nat → Int32} {x1 : Int32} (p0 : -1 ≤ x1.toInt) (p1 : x1.toInt ≤ 7) : g_V X (fun r : Int32 => ((.inl (some (.int r)), (m, s, lm, pm)) : g_Res)) (R_X8_isShut s x1) 0 0 m (s, lm, pm) 0 [(0, .ref (g_ad X 124)), (1, .int x1)] [] := by
  have hN : ∀ i, Nat.blt i 2 = true → i < g_xn X := fun i h => by rw [hn]; exact g_blt.mp h
  refine r_aload_n O 0 dX8_isShut_0 rfl rfl ?_
  refine r_get O FX8_7 G_124_0 dX8_isShut_1 ?_
  refine r_bipush (x := 13) O dX8_isShut_4 rfl ?_
  refine r_iload_n O 1 dX8_isShut_6 rfl rfl ?_
  refine r_iadd O dX8_isShut_7 ?_
  have ix_8 : (13 + x1).toInt = ((13 : Int) + x1.toInt) := (j_addE rfl rfl (by with_reducible omega) (by with_reducible omega))
  have iy_8 := j_nat (x := (13 + x1)) (by with_reducible omega)
  refine r_iald O R_125 (show vp_in (13 + x1) 178 from g_vin (by with_reducible omega) (by with_reducible omega)) dX8_isShut_8 ?_
  refine r_if_le O 29 dX8_isShut_9 (by decide) (fun c_9 => ?_) (fun c_9 => ?_)
  · have e_9 : (s ((13 + x1).toNatClampNeg)).toInt ≤ (0 : Int) := j_leR c_9 rfl
    refine r_iconst (x := 0) O dX8_isShut_29 rfl ?_
    exact r_iret O dX8_isShut_30 rfl (Nat.le_of_ble_eq_true rfl) (Nat.le_of_ble_eq_true rfl) rfl
  · have e_9 : (0 : Int) < (s ((13 + x1).toNatClampNeg)).toInt := j_nleR c_9 rfl
    refine r_aload_n O 0 dX8_isShut_12 rfl rfl ?_
    refine r_get O FX8_7 G_124_0 dX8_isShut_13 ?_
    refine r_bipush (x := 27) O dX8_isShut_16 rfl ?_
    refine r_iload_n O 1 dX8_isShut_18 rfl rfl ?_
    refine r_iadd O dX8_isShut_19 ?_
    have ix_20 : (27 + x1).toInt = ((27 : Int) + x1.toInt) := (j_addE rfl rfl (by with_reducible omega) (by with_reducible omega))
    have iy_20 := j_nat (x := (27 + x1)) (by with_reducible omega)
    refine r_iald O R_125 (show vp_in (27 + x1) 178 from g_vin (by with_reducible omega) (by with_reducible omega)) dX8_isShut_20 ?_
    refine r_iconst (x := (-1)) O dX8_isShut_21 rfl ?_
    refine r_icmp_ne O 29 dX8_isShut_22 (by decide) (fun c_22 => ?_) (fun c_22 => ?_)
    · have e_22 : (s ((27 + x1).toNatClampNeg)).toInt = (-1 : Int) := j_eqR c_22 rfl
      refine r_iconst (x := 1) O dX8_isShut_25 rfl ?_
      refine r_goto O 30 dX8_isShut_26 (by decide) ?_
      exact r_iret O dX8_isShut_30 rfl (Nat.le_of_ble_eq_true rfl) (Nat.le_of_ble_eq_true rfl) rfl
    · have e_22 : (s ((27 + x1).toNatClampNeg)).toInt ≠ (-1 : Int) := j_neR c_22 rfl
      refine r_iconst (x := 0) O dX8_isShut_29 rfl ?_
      exact r_iret O dX8_isShut_30 rfl (Nat.le_of_ble_eq_true rfl) (Nat.le_of_ble_eq_true rfl) rfl
theorem met_X8_isShut (l : Launch) (hs : l.stackTraces = false) (lm : Nat → Int64) (pm : Nat → Nat) (m : Nat → Int32) (s : Nat → Int32) (x1 : Int32) (p0 : -1 ≤ x1.toInt) (p1 : x1.toInt ≤ 7) : g_SM l yX8_isShut cX8_isShut 2 (some .boolean) ({ frames := 0, cells := 0, slots := 0, locals := 0 } : Room) (fun ad => [.ref (ad 124), .int x1]) m (s, lm, pm) ((fun r : Int32 => ((.inl (some (.int r)), (m, s, lm, pm)) : g_Res)) (R_X8_isShut s x1)) :=
  g_sm_of (by decide) (fun _ => Nat.le_of_ble_eq_true rfl) hs (fun X hl hn O => walk_X8_isShut O (by rw [hl]; exact hs) hn p0 p1)
def R_X8_stands (s : Nat → Int32) (x1 : Int32) : Int32 := (if (s (58 + 9 * x1.toNatClampNeg + 2)) = 0 then 1 else 0)
set_option maxRecDepth 100000 in
set_option maxHeartbeats 4000000 in
theorem walk_X8_stands {X : g_X} (O : g_ok X cX8_stands RX8 (some .boolean) ({ frames := 1, cells := 0, slots := 0, locals := 22 } : Room)) (hs : (g_xl X).stackTraces = false) (hn : g_xn X = 2) {m : Nat → Int32} {lm : Nat → Int64} {pm : Nat → Nat} {s : Nat → Int32} {x1 : Int32} (p0 : 0 ≤ x1.toInt) (p1 : x1.toInt < 6) : g_V X (fun r : Int32 => ((.inl (some (.int r)), (m, s, lm, pm)) : g_Res)) (R_X8_stands s x1) 0 0 m (s, lm, pm) 0 [(0, .ref (g_ad X 124)), (1, .int x1)] [] := by
  have hN : ∀ i, Nat.blt i 2 = true → i < g_xn X := fun i h => by rw [hn]; exact g_blt.mp h
  refine r_aload_n O 0 dX8_stands_0 rfl rfl ?_
  refine r_iload_n O 1 dX8_stands_1 rfl rfl ?_
  refine r_iconst (x := 2) O dX8_stands_2 rfl ?_
  refine r_callVi O [.int x1, .int 2] [] (metn_X8_of (g_xl X) hs lm pm m s x1 2 (by first | decide | with_reducible assumption | with_reducible omega | (simp (disch := omega) only [g_upd_ne, g_upd_eq]; first | with_reducible assumption | with_reducible omega | decide) | exact Or.inl rfl | exact Or.inr rfl) (by first | decide | with_reducible assumption | with_reducible omega | (simp (disch := omega) only [g_upd_ne, g_upd_eq]; first | with_reducible assumption | with_reducible omega | decide) | exact Or.inl rfl | exact Or.inr rfl) (by decide)) LX8_37 obj_124 rfl rfl rfl dX8_stands_3 rfl rfl ?_
  refine r_if_ne O 13 dX8_stands_6 (by decide) (fun c_6 => ?_) (fun c_6 => ?_)
  · have e_6 : (s (58 + 9 * x1.toNatClampNeg + 2)).toInt = (0 : Int) := j_eqR c_6 rfl
    refine r_iconst (x := 1) O dX8_stands_9 rfl ?_
    refine r_goto O 14 dX8_stands_10 (by decide) ?_
    exact r_iret O dX8_stands_14 rfl (Nat.le_of_ble_eq_true rfl) (Nat.le_of_ble_eq_true rfl) rfl
  · have e_6 : (s (58 + 9 * x1.toNatClampNeg + 2)).toInt ≠ (0 : Int) := j_neR c_6 rfl
    refine r_iconst (x := 0) O dX8_stands_13 rfl ?_
    exact r_iret O dX8_stands_14 rfl (Nat.le_of_ble_eq_true rfl) (Nat.le_of_ble_eq_true rfl) rfl
theorem met_X8_stands (l : Launch) (hs : l.stackTraces = false) (lm : Nat → Int64) (pm : Nat → Nat) (m : Nat → Int32) (s : Nat → Int32) (x1 : Int32) (p0 : 0 ≤ x1.toInt) (p1 : x1.toInt < 6) : g_SM l yX8_stands cX8_stands 2 (some .boolean) ({ frames := 1, cells := 0, slots := 0, locals := 22 } : Room) (fun ad => [.ref (ad 124), .int x1]) m (s, lm, pm) ((fun r : Int32 => ((.inl (some (.int r)), (m, s, lm, pm)) : g_Res)) (R_X8_stands s x1)) :=
  g_sm_of (by decide) (fun _ => Nat.le_of_ble_eq_true rfl) hs (fun X hl hn O => walk_X8_stands O (by rw [hl]; exact hs) hn p0 p1)
def R_X8_isBelow (s : Nat → Int32) (x1 : Int32) : Int32 := (if (s (58 + 9 * x1.toNatClampNeg + 2)) = 1 then 1 else (if (s (58 + 9 * x1.toNatClampNeg + 1)) ≤ 0 then 0 else 1))
set_option maxRecDepth 100000 in
set_option maxHeartbeats 4000000 in
theorem walk_X8_isBelow {X : g_X} (O : g_ok X cX8_isBelow RX8 (some .boolean) ({ frames := 1, cells := 0, slots := 0, locals := 22 } : Room)) (hs : (g_xl X).stackTraces = false) (hn : g_xn X = 2) {m : Nat → Int32} {lm : Nat → Int64} {pm : Nat → Nat} {s : Nat → Int32} {x1 : Int32} (p0 : 0 ≤ x1.toInt) (p1 : x1.toInt < 6) : g_V X (fun r : Int32 => ((.inl (some (.int r)), (m, s, lm, pm)) : g_Res)) (R_X8_isBelow s x1) 0 0 m (s, lm, pm) 0 [(0, .ref (g_ad X 124)), (1, .int x1)] [] := by
  have hN : ∀ i, Nat.blt i 2 = true → i < g_xn X := fun i h => by rw [hn]; exact g_blt.mp h
  refine r_aload_n O 0 dX8_isBelow_0 rfl rfl ?_
  refine r_iload_n O 1 dX8_isBelow_1 rfl rfl ?_
  refine r_iconst (x := 2) O dX8_isBelow_2 rfl ?_
  refine r_callVi O [.int x1, .int 2] [] (metn_X8_of (g_xl X) hs lm pm m s x1 2 (by first | decide | with_reducible assumption | with_reducible omega | (simp (disch := omega) only [g_upd_ne, g_upd_eq]; first | with_reducible assumption | with_reducible omega | decide) | exact Or.inl rfl | exact Or.inr rfl) (by first | decide | with_reducible assumption | with_reducible omega | (simp (disch := omega) only [g_upd_ne, g_upd_eq]; first | with_reducible assumption | with_reducible omega | decide) | exact Or.inl rfl | exact Or.inr rfl) (by decide)) LX8_37 obj_124 rfl rfl rfl dX8_isBelow_3 rfl rfl ?_
  refine r_iconst (x := 1) O dX8_isBelow_6 rfl ?_
  refine r_icmp_eq O 19 dX8_isBelow_7 (by decide) (fun c_7 => ?_) (fun c_7 => ?_)
  · have e_7 : (s (58 + 9 * x1.toNatClampNeg + 2)).toInt = (1 : Int) := j_eqR c_7 rfl
    refine r_iconst (x := 1) O dX8_isBelow_19 rfl ?_
    refine r_goto O 24 dX8_isBelow_20 (by decide) ?_
    exact r_iret O dX8_isBelow_24 rfl (Nat.le_of_ble_eq_true rfl) (Nat.le_of_ble_eq_true rfl) rfl
  · have e_7 : (s (58 + 9 * x1.toNatClampNeg + 2)).toInt ≠ (1 : Int) := j_neR c_7 rfl
    refine r_aload_n O 0 dX8_isBelow_10 rfl rfl ?_
    refine r_iload_n O 1 dX8_isBelow_11 rfl rfl ?_
    refine r_iconst (x := 1) O dX8_isBelow_12 rfl ?_
    refine r_callVi O [.int x1, .int 1] [] (metn_X8_of (g_xl X) hs lm pm m s x1 1 (by first | decide | with_reducible assumption | with_reducible omega | (simp (disch := omega) only [g_upd_ne, g_upd_eq]; first | with_reducible assumption | with_reducible omega | decide) | exact Or.inl rfl | exact Or.inr rfl) (by first | decide | with_reducible assumption | with_reducible omega | (simp (disch := omega) only [g_upd_ne, g_upd_eq]; first | with_reducible assumption | with_reducible omega | decide) | exact Or.inl rfl | exact Or.inr rfl) (by decide)) LX8_37 obj_124 rfl rfl rfl dX8_isBelow_13 rfl rfl ?_
    refine r_if_le O 23 dX8_isBelow_16 (by decide) (fun c_16 => ?_) (fun c_16 => ?_)
    · have e_16 : (s (58 + 9 * x1.toNatClampNeg + 1)).toInt ≤ (0 : Int) := j_leR c_16 rfl
      refine r_iconst (x := 0) O dX8_isBelow_23 rfl ?_
      exact r_iret O dX8_isBelow_24 rfl (Nat.le_of_ble_eq_true rfl) (Nat.le_of_ble_eq_true rfl) rfl
    · have e_16 : (0 : Int) < (s (58 + 9 * x1.toNatClampNeg + 1)).toInt := j_nleR c_16 rfl
      refine r_iconst (x := 1) O dX8_isBelow_19 rfl ?_
      refine r_goto O 24 dX8_isBelow_20 (by decide) ?_
      exact r_iret O dX8_isBelow_24 rfl (Nat.le_of_ble_eq_true rfl) (Nat.le_of_ble_eq_true rfl) rfl
theorem met_X8_isBelow (l : Launch) (hs : l.stackTraces = false) (lm : Nat → Int64) (pm : Nat → Nat) (m : Nat → Int32) (s : Nat → Int32) (x1 : Int32) (p0 : 0 ≤ x1.toInt) (p1 : x1.toInt < 6) : g_SM l yX8_isBelow cX8_isBelow 2 (some .boolean) ({ frames := 1, cells := 0, slots := 0, locals := 22 } : Room) (fun ad => [.ref (ad 124), .int x1]) m (s, lm, pm) ((fun r : Int32 => ((.inl (some (.int r)), (m, s, lm, pm)) : g_Res)) (R_X8_isBelow s x1)) :=
  g_sm_of (by decide) (fun _ => Nat.le_of_ble_eq_true rfl) hs (fun X hl hn O => walk_X8_isBelow O (by rw [hl]; exact hs) hn p0 p1)
def R_X8_passageOf (s : Nat → Int32) (x1 : Int32) : Int32 := (if (s (58 + 9 * x1.toNatClampNeg + 2)) = 1 then (if (s (58 + 9 * x1.toNatClampNeg + 1)) ≤ (s (58 + 9 * x1.toNatClampNeg + 3)) then (s (58 + 9 * x1.toNatClampNeg + 1)) else ((s (58 + 9 * x1.toNatClampNeg + 1)) - 1)) else (-1))
set_option maxRecDepth 100000 in
set_option maxHeartbeats 4000000 in
theorem walk_X8_passageOf {X : g_X} (O : g_ok X cX8_passageOf RX8 (some .int) ({ frames := 1, cells := 0, slots := 0, locals := 22 } : Room)) (hs : (g_xl X).stackTraces = false) (hn : g_xn X = 3) {m : Nat → Int32} {lm : Nat → Int64} {pm : Nat → Nat} {s : Nat → Int32} {x1 : Int32} (p0 : 0 ≤ x1.toInt) (p1 : x1.toInt < 6) : g_V X (fun r : Int32 => ((.inl (some (.int r)), (m, s, lm, pm)) : g_Res)) (R_X8_passageOf s x1) 0 0 m (s, lm, pm) 0 [(0, .ref (g_ad X 124)), (1, .int x1)] [] := by
  have hN : ∀ i, Nat.blt i 3 = true → i < g_xn X := fun i h => by rw [hn]; exact g_blt.mp h
  refine r_aload_n O 0 dX8_passageOf_0 rfl rfl ?_
  refine r_iload_n O 1 dX8_passageOf_1 rfl rfl ?_
  refine r_iconst (x := 1) O dX8_passageOf_2 rfl ?_
  refine r_callVi O [.int x1, .int 1] [] (metn_X8_of (g_xl X) hs lm pm m s x1 1 (by first | decide | with_reducible assumption | with_reducible omega | (simp (disch := omega) only [g_upd_ne, g_upd_eq]; first | with_reducible assumption | with_reducible omega | decide) | exact Or.inl rfl | exact Or.inr rfl) (by first | decide | with_reducible assumption | with_reducible omega | (simp (disch := omega) only [g_upd_ne, g_upd_eq]; first | with_reducible assumption | with_reducible omega | decide) | exact Or.inl rfl | exact Or.inr rfl) (by decide)) LX8_37 obj_124 rfl rfl rfl dX8_passageOf_3 rfl rfl ?_
  refine r_istore_n (lc' := [(2, .int (s (58 + 9 * x1.toNatClampNeg + 1))), (0, .ref (g_ad X 124)), (1, .int x1)]) O dX8_passageOf_6 rfl (hN 2 rfl) rfl ?_
  refine r_aload_n O 1 dX8_passageOf_7 rfl rfl ?_
  refine r_iload_n O 2 dX8_passageOf_8 rfl rfl ?_
  refine r_iconst (x := 2) O dX8_passageOf_9 rfl ?_
  refine r_callVi O [.int x1, .int 2] [] (metn_X8_of (g_xl X) hs lm pm m s x1 2 (by first | decide | with_reducible assumption | with_reducible omega | (simp (disch := omega) only [g_upd_ne, g_upd_eq]; first | with_reducible assumption | with_reducible omega | decide) | exact Or.inl rfl | exact Or.inr rfl) (by first | decide | with_reducible assumption | with_reducible omega | (simp (disch := omega) only [g_upd_ne, g_upd_eq]; first | with_reducible assumption | with_reducible omega | decide) | exact Or.inl rfl | exact Or.inr rfl) (by decide)) LX8_37 obj_124 rfl rfl rfl dX8_passageOf_10 rfl rfl ?_
  refine r_iconst (x := 1) O dX8_passageOf_13 rfl ?_
  refine r_icmp_eq O 21 dX8_passageOf_14 (by decide) (fun c_14 => ?_) (fun c_14 => ?_)
  · have e_14 : (s (58 + 9 * x1.toNatClampNeg + 2)).toInt = (1 : Int) := j_eqR c_14 rfl
    refine r_aload_n O 1 dX8_passageOf_21 rfl rfl ?_
    refine r_iload_n O 2 dX8_passageOf_22 rfl rfl ?_
    refine r_iconst (x := 3) O dX8_passageOf_23 rfl ?_
    refine r_callVi O [.int x1, .int 3] [] (metn_X8_of (g_xl X) hs lm pm m s x1 3 (by first | decide | with_reducible assumption | with_reducible omega | (simp (disch := omega) only [g_upd_ne, g_upd_eq]; first | with_reducible assumption | with_reducible omega | decide) | exact Or.inl rfl | exact Or.inr rfl) (by first | decide | with_reducible assumption | with_reducible omega | (simp (disch := omega) only [g_upd_ne, g_upd_eq]; first | with_reducible assumption | with_reducible omega | decide) | exact Or.inl rfl | exact Or.inr rfl) (by decide)) LX8_37 obj_124 rfl rfl rfl dX8_passageOf_24 rfl rfl ?_
    refine r_iload_n O 0 dX8_passageOf_27 rfl rfl ?_
    refine r_icmp_ge O 37 dX8_passageOf_28 (by decide) (fun c_28 => ?_) (fun c_28 => ?_)
    · have e_28 : (s (58 + 9 * x1.toNatClampNeg + 1)).toInt ≤ (s (58 + 9 * x1.toNatClampNeg + 3)).toInt := j_le c_28
      refine r_iload_n O 0 dX8_passageOf_37 rfl rfl ?_
      exact r_iret O dX8_passageOf_38 rfl (Nat.le_of_ble_eq_true rfl) (Nat.le_of_ble_eq_true rfl) rfl
    · have e_28 : (s (58 + 9 * x1.toNatClampNeg + 3)).toInt < (s (58 + 9 * x1.toNatClampNeg + 1)).toInt := j_nle c_28
      refine r_iload_n O 0 dX8_passageOf_31 rfl rfl ?_
      refine r_iconst (x := 1) O dX8_passageOf_32 rfl ?_
      refine r_isub O dX8_passageOf_33 ?_
      refine r_goto O 38 dX8_passageOf_34 (by decide) ?_
      exact r_iret O dX8_passageOf_38 rfl (Nat.le_of_ble_eq_true rfl) (Nat.le_of_ble_eq_true rfl) rfl
  · have e_14 : (s (58 + 9 * x1.toNatClampNeg + 2)).toInt ≠ (1 : Int) := j_neR c_14 rfl
    refine r_iconst (x := (-1)) O dX8_passageOf_17 rfl ?_
    refine r_goto O 38 dX8_passageOf_18 (by decide) ?_
    exact r_iret O dX8_passageOf_38 rfl (Nat.le_of_ble_eq_true rfl) (Nat.le_of_ble_eq_true rfl) rfl
theorem met_X8_passageOf (l : Launch) (hs : l.stackTraces = false) (lm : Nat → Int64) (pm : Nat → Nat) (m : Nat → Int32) (s : Nat → Int32) (x1 : Int32) (p0 : 0 ≤ x1.toInt) (p1 : x1.toInt < 6) : g_SM l yX8_passageOf cX8_passageOf 3 (some .int) ({ frames := 1, cells := 0, slots := 0, locals := 22 } : Room) (fun ad => [.ref (ad 124), .int x1]) m (s, lm, pm) ((fun r : Int32 => ((.inl (some (.int r)), (m, s, lm, pm)) : g_Res)) (R_X8_passageOf s x1)) :=
  g_sm_of (by decide) (fun _ => Nat.le_of_ble_eq_true rfl) hs (fun X hl hn O => walk_X8_passageOf O (by rw [hl]; exact hs) hn p0 p1)
def R_X8_walkers_29 (K_4 : Int32 → Nat → Int32) (v2_4 : Int32) (n : Nat) (t0_29 : Int32) : Int32 := (K_4 (v2_4 + t0_29) (n + 1))
def R_X8_walkers_4 (s : Nat → Int32) (x1 : Int32) : Nat → Int32 → Nat → Int32
  | 0, _, _ => 0
  | f + 1, v2_4, n => (if (s (2)) ≤ (nI n) then v2_4 else (if (R_X8_passageOf s (nI n)) = x1 then (R_X8_walkers_29 (R_X8_walkers_4 s x1 f) v2_4 n 1) else (R_X8_walkers_29 (R_X8_walkers_4 s x1 f) v2_4 n 0)))
def R_X8_walkers (s : Nat → Int32) (x1 : Int32) : Int32 := (R_X8_walkers_4 s x1 7 0 0)
set_option maxRecDepth 100000 in
set_option maxHeartbeats 4000000 in
theorem walk_X8_walkers {X : g_X} (O : g_ok X cX8_walkers RX8 (some .int) ({ frames := 2, cells := 0, slots := 0, locals := 44 } : Room)) (hs : (g_xl X).stackTraces = false) (hn : g_xn X = 4) {m : Nat → Int32} {lm : Nat → Int64} {pm : Nat → Nat} {s : Nat → Int32} {x1 : Int32} (p0 : (s 2).toInt ≤ 6) : g_V X (fun r : Int32 => ((.inl (some (.int r)), (m, s, lm, pm)) : g_Res)) (R_X8_walkers s x1) 0 0 m (s, lm, pm) 0 [(0, .ref (g_ad X 124)), (1, .int x1)] [] := by
  have hN : ∀ i, Nat.blt i 4 = true → i < g_xn X := fun i h => by rw [hn]; exact g_blt.mp h
  refine r_iconst (x := 0) O dX8_walkers_0 rfl ?_
  refine r_istore_n (lc' := [(2, .int 0), (0, .ref (g_ad X 124)), (1, .int x1)]) O dX8_walkers_1 rfl (hN 2 rfl) rfl ?_
  refine r_iconst (x := 0) O dX8_walkers_2 rfl ?_
  refine r_istore_n (lc' := [(3, .int 0), (2, .int 0), (0, .ref (g_ad X 124)), (1, .int x1)]) O dX8_walkers_3 rfl (hN 3 rfl) rfl ?_
  have L_4 : ∀ (f_4 : Nat) (v2_4 : Int32) (n : Nat) (hi_4 : n ≤ 6 ∧ 6 < f_4 + n), g_V X (fun r : Int32 => ((.inl (some (.int r)), (m, s, lm, pm)) : g_Res)) (R_X8_walkers_4 s x1 f_4 v2_4 n) 0 0 m (s, lm, pm) 4 [(0, .ref (g_ad X 124)), (1, .int x1), (2, .int v2_4), (3, .int (nI n))] [] := by
    intro f_4
    induction f_4 with
    | zero => intro v2_4 n hi_4; exact absurd hi_4 (by omega)
    | succ f_4 ih_4 =>
      intro v2_4 n hi_4
      have hc_n : (nI n).toInt = (n : Int) := nI_toInt (by omega)
      refine r_iload_n O 3 dX8_walkers_4 rfl rfl ?_
      refine r_aload_n O 0 dX8_walkers_5 rfl rfl ?_
      refine r_get O FX8_7 G_124_0 dX8_walkers_6 ?_
      refine r_iconst (x := 2) O dX8_walkers_9 rfl ?_
      refine r_iald O R_125 (g_vin (by decide) (by decide)) dX8_walkers_10 ?_
      refine r_icmp_ge O 37 dX8_walkers_11 (by decide) (fun c_11 => ?_) (fun c_11 => ?_)
      · have e_11 : (s (2)).toInt ≤ (nI n).toInt := j_le c_11
        refine r_iload_n O 2 dX8_walkers_37 rfl rfl ?_
        exact r_iret O dX8_walkers_38 rfl (Nat.le_of_ble_eq_true rfl) (Nat.le_of_ble_eq_true rfl) rfl
      · have e_11 : (nI n).toInt < (s (2)).toInt := j_nle c_11
        refine r_iload_n O 2 dX8_walkers_14 rfl rfl ?_
        refine r_aload_n O 0 dX8_walkers_15 rfl rfl ?_
        refine r_iload_n O 3 dX8_walkers_16 rfl rfl ?_
        refine r_callVi O [.int (nI n)] [.int v2_4] (met_X8_passageOf (g_xl X) hs lm pm m s (nI n) (by first | decide | with_reducible assumption | with_reducible omega | (simp (disch := omega) only [g_upd_ne, g_upd_eq]; first | with_reducible assumption | with_reducible omega | decide) | exact Or.inl rfl | exact Or.inr rfl) (by first | decide | with_reducible assumption | with_reducible omega | (simp (disch := omega) only [g_upd_ne, g_upd_eq]; first | with_reducible assumption | with_reducible omega | decide) | exact Or.inl rfl | exact Or.inr rfl)) LX8_41 obj_124 rfl rfl rfl dX8_walkers_17 rfl rfl ?_
        refine r_iload_n O 1 dX8_walkers_20 rfl rfl ?_
        have J_29 : ∀ (t0_29 : Int32), g_V X (fun r : Int32 => ((.inl (some (.int r)), (m, s, lm, pm)) : g_Res)) (R_X8_walkers_29 ((R_X8_walkers_4 s x1 f_4)) v2_4 n t0_29) 0 0 m (s, lm, pm) 29 [(0, .ref (g_ad X 124)), (1, .int x1), (3, .int (nI n))] [.int t0_29, .int v2_4] := by
          intro t0_29
          refine r_iadd O dX8_walkers_29 ?_
          refine r_istore_n (lc' := [(2, .int (v2_4 + t0_29)), (0, .ref (g_ad X 124)), (1, .int x1), (3, .int (nI n))]) O dX8_walkers_30 rfl (hN 2 rfl) rfl ?_
          refine r_iinc (lc' := [(3, .int (nI (n + 1))), (2, .int (v2_4 + t0_29)), (0, .ref (g_ad X 124)), (1, .int x1)]) O 3 dX8_walkers_31 rfl (nI_1 n) (hN 3 rfl) rfl ?_
          refine r_goto O 4 dX8_walkers_34 (by decide) ?_
          refine r_sub [2, 3, 1, 0] rfl ?_
          exact ih_4 (v2_4 + t0_29) (n + 1) (by with_reducible omega)
        refine r_icmp_ne O 28 dX8_walkers_21 (by decide) (fun c_21 => ?_) (fun c_21 => ?_)
        · have e_21 : (R_X8_passageOf s (nI n)).toInt = (x1).toInt := j_eq c_21
          refine r_iconst (x := 1) O dX8_walkers_24 rfl ?_
          refine r_goto O 29 dX8_walkers_25 (by decide) ?_
          refine r_sub [0, 1, 3] rfl ?_
          exact J_29 1
        · have e_21 : (R_X8_passageOf s (nI n)).toInt ≠ (x1).toInt := j_ne c_21
          refine r_iconst (x := 0) O dX8_walkers_28 rfl ?_
          refine r_sub [0, 1, 3] rfl ?_
          exact J_29 0
  refine r_sub [2, 3, 1, 0] rfl ?_
  exact L_4 7 0 0 (by with_reducible omega)
theorem met_X8_walkers (l : Launch) (hs : l.stackTraces = false) (lm : Nat → Int64) (pm : Nat → Nat) (m : Nat → Int32) (s : Nat → Int32) (x1 : Int32) (p0 : (s 2).toInt ≤ 6) : g_SM l yX8_walkers cX8_walkers 4 (some .int) ({ frames := 2, cells := 0, slots := 0, locals := 44 } : Room) (fun ad => [.ref (ad 124), .int x1]) m (s, lm, pm) ((fun r : Int32 => ((.inl (some (.int r)), (m, s, lm, pm)) : g_Res)) (R_X8_walkers s x1)) :=
  g_sm_of (by decide) (fun _ => Nat.le_of_ble_eq_true rfl) hs (fun X hl hn O => walk_X8_walkers O (by rw [hl]; exact hs) hn p0)
def R_X8_rigger_39 (K_4 : Int32 → Nat → Int32) (n : Nat) (t0_39 : Int32) : Int32 := (K_4 t0_39 (n + 1))
def R_X8_rigger_38 (K_4 : Int32 → Nat → Int32) (v2_4 : Int32) (n : Nat) : Int32 := (R_X8_rigger_39 K_4 n v2_4)
def R_X8_rigger_4 (s : Nat → Int32) (x1 : Int32) : Nat → Int32 → Nat → Int32
  | 0, _, _ => 0
  | f + 1, v2_4, n => (if (s (2)) ≤ (nI n) then v2_4 else (if (s (58 + 9 * (nI n).toNatClampNeg + 2)) = 2 then (if (s (58 + 9 * (nI n).toNatClampNeg + 1)) = x1 then (R_X8_rigger_39 (R_X8_rigger_4 s x1 f) n (nI n)) else (R_X8_rigger_38 (R_X8_rigger_4 s x1 f) v2_4 n )) else (R_X8_rigger_38 (R_X8_rigger_4 s x1 f) v2_4 n )))
def R_X8_rigger (s : Nat → Int32) (x1 : Int32) : Int32 := (R_X8_rigger_4 s x1 7 (-1) 0)
set_option maxRecDepth 100000 in
set_option maxHeartbeats 4000000 in
theorem walk_X8_rigger {X : g_X} (O : g_ok X cX8_rigger RX8 (some .int) ({ frames := 1, cells := 0, slots := 0, locals := 22 } : Room)) (hs : (g_xl X).stackTraces = false) (hn : g_xn X = 4) {m : Nat → Int32} {lm : Nat → Int64} {pm : Nat → Nat} {s : Nat → Int32} {x1 : Int32} (p0 : (s 2).toInt ≤ 6) : g_V X (fun r : Int32 => ((.inl (some (.int r)), (m, s, lm, pm)) : g_Res)) (R_X8_rigger s x1) 0 0 m (s, lm, pm) 0 [(0, .ref (g_ad X 124)), (1, .int x1)] [] := by
  have hN : ∀ i, Nat.blt i 4 = true → i < g_xn X := fun i h => by rw [hn]; exact g_blt.mp h
  refine r_iconst (x := (-1)) O dX8_rigger_0 rfl ?_
  refine r_istore_n (lc' := [(2, .int (-1)), (0, .ref (g_ad X 124)), (1, .int x1)]) O dX8_rigger_1 rfl (hN 2 rfl) rfl ?_
  refine r_iconst (x := 0) O dX8_rigger_2 rfl ?_
  refine r_istore_n (lc' := [(3, .int 0), (2, .int (-1)), (0, .ref (g_ad X 124)), (1, .int x1)]) O dX8_rigger_3 rfl (hN 3 rfl) rfl ?_
  have L_4 : ∀ (f_4 : Nat) (v2_4 : Int32) (n : Nat) (hi_4 : n ≤ 6 ∧ 6 < f_4 + n), g_V X (fun r : Int32 => ((.inl (some (.int r)), (m, s, lm, pm)) : g_Res)) (R_X8_rigger_4 s x1 f_4 v2_4 n) 0 0 m (s, lm, pm) 4 [(0, .ref (g_ad X 124)), (1, .int x1), (2, .int v2_4), (3, .int (nI n))] [] := by
    intro f_4
    induction f_4 with
    | zero => intro v2_4 n hi_4; exact absurd hi_4 (by omega)
    | succ f_4 ih_4 =>
      intro v2_4 n hi_4
      have hc_n : (nI n).toInt = (n : Int) := nI_toInt (by omega)
      refine r_iload_n O 3 dX8_rigger_4 rfl rfl ?_
      refine r_aload_n O 0 dX8_rigger_5 rfl rfl ?_
      refine r_get O FX8_7 G_124_0 dX8_rigger_6 ?_
      refine r_iconst (x := 2) O dX8_rigger_9 rfl ?_
      refine r_iald O R_125 (g_vin (by decide) (by decide)) dX8_rigger_10 ?_
      refine r_icmp_ge O 46 dX8_rigger_11 (by decide) (fun c_11 => ?_) (fun c_11 => ?_)
      · have e_11 : (s (2)).toInt ≤ (nI n).toInt := j_le c_11
        refine r_iload_n O 2 dX8_rigger_46 rfl rfl ?_
        exact r_iret O dX8_rigger_47 rfl (Nat.le_of_ble_eq_true rfl) (Nat.le_of_ble_eq_true rfl) rfl
      · have e_11 : (nI n).toInt < (s (2)).toInt := j_nle c_11
        refine r_aload_n O 0 dX8_rigger_14 rfl rfl ?_
        refine r_iload_n O 3 dX8_rigger_15 rfl rfl ?_
        refine r_iconst (x := 2) O dX8_rigger_16 rfl ?_
        refine r_callVi O [.int (nI n), .int 2] [] (metn_X8_of (g_xl X) hs lm pm m s (nI n) 2 (by first | decide | with_reducible assumption | with_reducible omega | (simp (disch := omega) only [g_upd_ne, g_upd_eq]; first | with_reducible assumption | with_reducible omega | decide) | exact Or.inl rfl | exact Or.inr rfl) (by first | decide | with_reducible assumption | with_reducible omega | (simp (disch := omega) only [g_upd_ne, g_upd_eq]; first | with_reducible assumption | with_reducible omega | decide) | exact Or.inl rfl | exact Or.inr rfl) (by decide)) LX8_37 obj_124 rfl rfl rfl dX8_rigger_17 rfl rfl ?_
        refine r_iconst (x := 2) O dX8_rigger_20 rfl ?_
        have J_39 : ∀ (t0_39 : Int32), g_V X (fun r : Int32 => ((.inl (some (.int r)), (m, s, lm, pm)) : g_Res)) (R_X8_rigger_39 ((R_X8_rigger_4 s x1 f_4)) n t0_39) 0 0 m (s, lm, pm) 39 [(0, .ref (g_ad X 124)), (1, .int x1), (3, .int (nI n))] [.int t0_39] := by
          intro t0_39
          refine r_istore_n (lc' := [(2, .int t0_39), (0, .ref (g_ad X 124)), (1, .int x1), (3, .int (nI n))]) O dX8_rigger_39 rfl (hN 2 rfl) rfl ?_
          refine r_iinc (lc' := [(3, .int (nI (n + 1))), (2, .int t0_39), (0, .ref (g_ad X 124)), (1, .int x1)]) O 3 dX8_rigger_40 rfl (nI_1 n) (hN 3 rfl) rfl ?_
          refine r_goto O 4 dX8_rigger_43 (by decide) ?_
          refine r_sub [2, 3, 1, 0] rfl ?_
          exact ih_4 t0_39 (n + 1) (by with_reducible omega)
        have J_38 : g_V X (fun r : Int32 => ((.inl (some (.int r)), (m, s, lm, pm)) : g_Res)) (R_X8_rigger_38 ((R_X8_rigger_4 s x1 f_4)) v2_4 n ) 0 0 m (s, lm, pm) 38 [(0, .ref (g_ad X 124)), (1, .int x1), (2, .int v2_4), (3, .int (nI n))] [] := by
          refine r_iload_n O 2 dX8_rigger_38 rfl rfl ?_
          refine r_sub [0, 1, 3] rfl ?_
          exact J_39 v2_4
        refine r_icmp_ne O 38 dX8_rigger_21 (by decide) (fun c_21 => ?_) (fun c_21 => ?_)
        · have e_21 : (s (58 + 9 * (nI n).toNatClampNeg + 2)).toInt = (2 : Int) := j_eqR c_21 rfl
          refine r_aload_n O 0 dX8_rigger_24 rfl rfl ?_
          refine r_iload_n O 3 dX8_rigger_25 rfl rfl ?_
          refine r_iconst (x := 1) O dX8_rigger_26 rfl ?_
          refine r_callVi O [.int (nI n), .int 1] [] (metn_X8_of (g_xl X) hs lm pm m s (nI n) 1 (by first | decide | with_reducible assumption | with_reducible omega | (simp (disch := omega) only [g_upd_ne, g_upd_eq]; first | with_reducible assumption | with_reducible omega | decide) | exact Or.inl rfl | exact Or.inr rfl) (by first | decide | with_reducible assumption | with_reducible omega | (simp (disch := omega) only [g_upd_ne, g_upd_eq]; first | with_reducible assumption | with_reducible omega | decide) | exact Or.inl rfl | exact Or.inr rfl) (by decide)) LX8_37 obj_124 rfl rfl rfl dX8_rigger_27 rfl rfl ?_
          refine r_iload_n O 1 dX8_rigger_30 rfl rfl ?_
          refine r_icmp_ne O 38 dX8_rigger_31 (by decide) (fun c_31 => ?_) (fun c_31 => ?_)
          · have e_31 : (s (58 + 9 * (nI n).toNatClampNeg + 1)).toInt = (x1).toInt := j_eq c_31
            refine r_iload_n O 3 dX8_rigger_34 rfl rfl ?_
            refine r_goto O 39 dX8_rigger_35 (by decide) ?_
            refine r_sub [0, 1, 3] rfl ?_
            exact J_39 (nI n)
          · have e_31 : (s (58 + 9 * (nI n).toNatClampNeg + 1)).toInt ≠ (x1).toInt := j_ne c_31
            exact J_38
        · have e_21 : (s (58 + 9 * (nI n).toNatClampNeg + 2)).toInt ≠ (2 : Int) := j_neR c_21 rfl
          exact J_38
  refine r_sub [2, 3, 1, 0] rfl ?_
  exact L_4 7 (-1) 0 (by with_reducible omega)
theorem met_X8_rigger (l : Launch) (hs : l.stackTraces = false) (lm : Nat → Int64) (pm : Nat → Nat) (m : Nat → Int32) (s : Nat → Int32) (x1 : Int32) (p0 : (s 2).toInt ≤ 6) : g_SM l yX8_rigger cX8_rigger 4 (some .int) ({ frames := 1, cells := 0, slots := 0, locals := 22 } : Room) (fun ad => [.ref (ad 124), .int x1]) m (s, lm, pm) ((fun r : Int32 => ((.inl (some (.int r)), (m, s, lm, pm)) : g_Res)) (R_X8_rigger s x1)) :=
  g_sm_of (by decide) (fun _ => Nat.le_of_ble_eq_true rfl) hs (fun X hl hn O => walk_X8_rigger O (by rw [hl]; exact hs) hn p0)
def R_X8_upFrom_4 (s : Nat → Int32) (x1 : Int32) : Nat → Int32 → Nat → Int32
  | 0, _, _ => 0
  | f + 1, v2_4, n => (if x1 ≤ (nI n) then v2_4 else ((R_X8_upFrom_4 s x1 f) (v2_4 + (s ((20 + (nI n)).toNatClampNeg))) (n + 1)))
def R_X8_upFrom (s : Nat → Int32) (x1 : Int32) : Int32 := (R_X8_upFrom_4 s x1 8 0 0)
set_option maxRecDepth 100000 in
set_option maxHeartbeats 4000000 in
theorem walk_X8_upFrom {X : g_X} (O : g_ok X cX8_upFrom RX8 (some .int) ({ frames := 0, cells := 0, slots := 0, locals := 0 } : Room)) (hs : (g_xl X).stackTraces = false) (hn : g_xn X = 4) {m : Nat → Int32} {lm : Nat → Int64} {pm : Nat → Nat} {s : Nat → Int32} {x1 : Int32} (p0 : x1.toInt ≤ 7) : g_V X (fun r : Int32 => ((.inl (some (.int r)), (m, s, lm, pm)) : g_Res)) (R_X8_upFrom s x1) 0 0 m (s, lm, pm) 0 [(0, .ref (g_ad X 124)), (1, .int x1)] [] := by
  have hN : ∀ i, Nat.blt i 4 = true → i < g_xn X := fun i h => by rw [hn]; exact g_blt.mp h
  refine r_iconst (x := 0) O dX8_upFrom_0 rfl ?_
  refine r_istore_n (lc' := [(2, .int 0), (0, .ref (g_ad X 124)), (1, .int x1)]) O dX8_upFrom_1 rfl (hN 2 rfl) rfl ?_
  refine r_iconst (x := 0) O dX8_upFrom_2 rfl ?_
  refine r_istore_n (lc' := [(3, .int 0), (2, .int 0), (0, .ref (g_ad X 124)), (1, .int x1)]) O dX8_upFrom_3 rfl (hN 3 rfl) rfl ?_
  have L_4 : ∀ (f_4 : Nat) (v2_4 : Int32) (n : Nat) (hi_4 : n ≤ 7 ∧ 7 < f_4 + n), g_V X (fun r : Int32 => ((.inl (some (.int r)), (m, s, lm, pm)) : g_Res)) (R_X8_upFrom_4 s x1 f_4 v2_4 n) 0 0 m (s, lm, pm) 4 [(0, .ref (g_ad X 124)), (1, .int x1), (2, .int v2_4), (3, .int (nI n))] [] := by
    intro f_4
    induction f_4 with
    | zero => intro v2_4 n hi_4; exact absurd hi_4 (by omega)
    | succ f_4 ih_4 =>
      intro v2_4 n hi_4
      have hc_n : (nI n).toInt = (n : Int) := nI_toInt (by omega)
      refine r_iload_n O 3 dX8_upFrom_4 rfl rfl ?_
      refine r_iload_n O 1 dX8_upFrom_5 rfl rfl ?_
      refine r_icmp_ge O 27 dX8_upFrom_6 (by decide) (fun c_6 => ?_) (fun c_6 => ?_)
      · have e_6 : (x1).toInt ≤ (nI n).toInt := j_le c_6
        refine r_iload_n O 2 dX8_upFrom_27 rfl rfl ?_
        exact r_iret O dX8_upFrom_28 rfl (Nat.le_of_ble_eq_true rfl) (Nat.le_of_ble_eq_true rfl) rfl
      · have e_6 : (nI n).toInt < (x1).toInt := j_nle c_6
        refine r_iload_n O 2 dX8_upFrom_9 rfl rfl ?_
        refine r_aload_n O 0 dX8_upFrom_10 rfl rfl ?_
        refine r_get O FX8_7 G_124_0 dX8_upFrom_11 ?_
        refine r_bipush (x := 20) O dX8_upFrom_14 rfl ?_
        refine r_iload_n O 3 dX8_upFrom_16 rfl rfl ?_
        refine r_iadd O dX8_upFrom_17 ?_
        have ix_18 : (20 + (nI n)).toInt = ((20 : Int) + (nI n).toInt) := (j_addE rfl rfl (by with_reducible omega) (by with_reducible omega))
        have iy_18 := j_nat (x := (20 + (nI n))) (by with_reducible omega)
        refine r_iald O R_125 (show vp_in (20 + (nI n)) 178 from g_vin (by with_reducible omega) (by with_reducible omega)) dX8_upFrom_18 ?_
        refine r_iadd O dX8_upFrom_19 ?_
        refine r_istore_n (lc' := [(2, .int (v2_4 + (s ((20 + (nI n)).toNatClampNeg)))), (0, .ref (g_ad X 124)), (1, .int x1), (3, .int (nI n))]) O dX8_upFrom_20 rfl (hN 2 rfl) rfl ?_
        refine r_iinc (lc' := [(3, .int (nI (n + 1))), (2, .int (v2_4 + (s ((20 + (nI n)).toNatClampNeg)))), (0, .ref (g_ad X 124)), (1, .int x1)]) O 3 dX8_upFrom_21 rfl (nI_1 n) (hN 3 rfl) rfl ?_
        refine r_goto O 4 dX8_upFrom_24 (by decide) ?_
        refine r_sub [2, 3, 1, 0] rfl ?_
        exact ih_4 (v2_4 + (s ((20 + (nI n)).toNatClampNeg))) (n + 1) (by with_reducible omega)
  refine r_sub [2, 3, 1, 0] rfl ?_
  exact L_4 8 0 0 (by with_reducible omega)
theorem met_X8_upFrom (l : Launch) (hs : l.stackTraces = false) (lm : Nat → Int64) (pm : Nat → Nat) (m : Nat → Int32) (s : Nat → Int32) (x1 : Int32) (p0 : x1.toInt ≤ 7) : g_SM l yX8_upFrom cX8_upFrom 4 (some .int) ({ frames := 0, cells := 0, slots := 0, locals := 0 } : Room) (fun ad => [.ref (ad 124), .int x1]) m (s, lm, pm) ((fun r : Int32 => ((.inl (some (.int r)), (m, s, lm, pm)) : g_Res)) (R_X8_upFrom s x1)) :=
  g_sm_of (by decide) (fun _ => Nat.le_of_ble_eq_true rfl) hs (fun X hl hn O => walk_X8_upFrom O (by rw [hl]; exact hs) hn p0)
def R_X8_isShutAbove_26 (K_4 : Int32 → Nat → Int32) (n : Nat) (t0_26 : Int32) : Int32 := (K_4 t0_26 (n + 1))
def R_X8_isShutAbove_21 (K_4 : Int32 → Nat → Int32) (n : Nat) : Int32 := (R_X8_isShutAbove_26 K_4 n 1)
def R_X8_isShutAbove_4 (s : Nat → Int32) (x1 : Int32) : Nat → Int32 → Nat → Int32
  | 0, _, _ => 0
  | f + 1, v2_4, n => (if x1 ≤ (nI n) then v2_4 else (if v2_4 = 0 then (if (R_X8_isShut s (nI n)) = 0 then (R_X8_isShutAbove_26 (R_X8_isShutAbove_4 s x1 f) n 0) else (R_X8_isShutAbove_21 (R_X8_isShutAbove_4 s x1 f) n )) else (R_X8_isShutAbove_21 (R_X8_isShutAbove_4 s x1 f) n )))
def R_X8_isShutAbove (s : Nat → Int32) (x1 : Int32) : Int32 := (R_X8_isShutAbove_4 s x1 8 0 0)
set_option maxRecDepth 100000 in
set_option maxHeartbeats 4000000 in
theorem walk_X8_isShutAbove {X : g_X} (O : g_ok X cX8_isShutAbove RX8 (some .boolean) ({ frames := 1, cells := 0, slots := 0, locals := 21 } : Room)) (hs : (g_xl X).stackTraces = false) (hn : g_xn X = 4) {m : Nat → Int32} {lm : Nat → Int64} {pm : Nat → Nat} {s : Nat → Int32} {x1 : Int32} (p0 : x1.toInt ≤ 7) : g_V X (fun r : Int32 => ((.inl (some (.int r)), (m, s, lm, pm)) : g_Res)) (R_X8_isShutAbove s x1) 0 0 m (s, lm, pm) 0 [(0, .ref (g_ad X 124)), (1, .int x1)] [] := by
  have hN : ∀ i, Nat.blt i 4 = true → i < g_xn X := fun i h => by rw [hn]; exact g_blt.mp h
  refine r_iconst (x := 0) O dX8_isShutAbove_0 rfl ?_
  refine r_istore_n (lc' := [(2, .int 0), (0, .ref (g_ad X 124)), (1, .int x1)]) O dX8_isShutAbove_1 rfl (hN 2 rfl) rfl ?_
  refine r_iconst (x := 0) O dX8_isShutAbove_2 rfl ?_
  refine r_istore_n (lc' := [(3, .int 0), (2, .int 0), (0, .ref (g_ad X 124)), (1, .int x1)]) O dX8_isShutAbove_3 rfl (hN 3 rfl) rfl ?_
  have L_4 : ∀ (f_4 : Nat) (v2_4 : Int32) (n : Nat) (hi_4 : n ≤ 7 ∧ 7 < f_4 + n ∧ (v2_4 = 0 ∨ v2_4 = 1)), g_V X (fun r : Int32 => ((.inl (some (.int r)), (m, s, lm, pm)) : g_Res)) (R_X8_isShutAbove_4 s x1 f_4 v2_4 n) 0 0 m (s, lm, pm) 4 [(0, .ref (g_ad X 124)), (1, .int x1), (2, .int v2_4), (3, .int (nI n))] [] := by
    intro f_4
    induction f_4 with
    | zero => intro v2_4 n hi_4; exact absurd hi_4 (by omega)
    | succ f_4 ih_4 =>
      intro v2_4 n hi_4
      have hc_n : (nI n).toInt = (n : Int) := nI_toInt (by omega)
      obtain ⟨hi1, hi2, hi3⟩ := hi_4
      refine r_iload_n O 3 dX8_isShutAbove_4 rfl rfl ?_
      refine r_iload_n O 1 dX8_isShutAbove_5 rfl rfl ?_
      refine r_icmp_ge O 33 dX8_isShutAbove_6 (by decide) (fun c_6 => ?_) (fun c_6 => ?_)
      · have e_6 : (x1).toInt ≤ (nI n).toInt := j_le c_6
        refine r_iload_n O 2 dX8_isShutAbove_33 rfl rfl ?_
        exact r_iret O dX8_isShutAbove_34 (narrow_b hi3) (Nat.le_of_ble_eq_true rfl) (Nat.le_of_ble_eq_true rfl) rfl
      · have e_6 : (nI n).toInt < (x1).toInt := j_nle c_6
        refine r_iload_n O 2 dX8_isShutAbove_9 rfl rfl ?_
        have J_26 : ∀ (t0_26 : Int32) (hj0 : (t0_26 = 0 ∨ t0_26 = 1)), g_V X (fun r : Int32 => ((.inl (some (.int r)), (m, s, lm, pm)) : g_Res)) (R_X8_isShutAbove_26 ((R_X8_isShutAbove_4 s x1 f_4)) n t0_26) 0 0 m (s, lm, pm) 26 [(0, .ref (g_ad X 124)), (1, .int x1), (3, .int (nI n))] [.int t0_26] := by
          intro t0_26 hj0
          refine r_istore_n (lc' := [(2, .int t0_26), (0, .ref (g_ad X 124)), (1, .int x1), (3, .int (nI n))]) O dX8_isShutAbove_26 rfl (hN 2 rfl) rfl ?_
          refine r_iinc (lc' := [(3, .int (nI (n + 1))), (2, .int t0_26), (0, .ref (g_ad X 124)), (1, .int x1)]) O 3 dX8_isShutAbove_27 rfl (nI_1 n) (hN 3 rfl) rfl ?_
          refine r_goto O 4 dX8_isShutAbove_30 (by decide) ?_
          refine r_sub [2, 3, 1, 0] rfl ?_
          exact ih_4 t0_26 (n + 1) ⟨(by first | decide | with_reducible assumption | with_reducible omega | (simp (disch := omega) only [g_upd_ne, g_upd_eq]; first | with_reducible assumption | with_reducible omega | decide) | exact Or.inl rfl | exact Or.inr rfl), (by first | decide | with_reducible assumption | with_reducible omega | (simp (disch := omega) only [g_upd_ne, g_upd_eq]; first | with_reducible assumption | with_reducible omega | decide) | exact Or.inl rfl | exact Or.inr rfl), (by first | decide | with_reducible assumption | with_reducible omega | (simp (disch := omega) only [g_upd_ne, g_upd_eq]; first | with_reducible assumption | with_reducible omega | decide) | exact Or.inl rfl | exact Or.inr rfl)⟩
        have J_21 : g_V X (fun r : Int32 => ((.inl (some (.int r)), (m, s, lm, pm)) : g_Res)) (R_X8_isShutAbove_21 ((R_X8_isShutAbove_4 s x1 f_4)) n ) 0 0 m (s, lm, pm) 21 [(0, .ref (g_ad X 124)), (1, .int x1), (3, .int (nI n))] [] := by
          refine r_iconst (x := 1) O dX8_isShutAbove_21 rfl ?_
          refine r_goto O 26 dX8_isShutAbove_22 (by decide) ?_
          exact J_26 1 (by first | decide | with_reducible assumption | with_reducible omega | (simp (disch := omega) only [g_upd_ne, g_upd_eq]; first | with_reducible assumption | with_reducible omega | decide) | exact Or.inl rfl | exact Or.inr rfl)
        refine r_if_ne O 21 dX8_isShutAbove_10 (by decide) (fun c_10 => ?_) (fun c_10 => ?_)
        · have e_10 : (v2_4).toInt = (0 : Int) := j_eqR c_10 rfl
          refine r_aload_n O 0 dX8_isShutAbove_13 rfl rfl ?_
          refine r_iload_n O 3 dX8_isShutAbove_14 rfl rfl ?_
          refine r_callVi O [.int (nI n)] [] (met_X8_isShut (g_xl X) hs lm pm m s (nI n) (by first | decide | with_reducible assumption | with_reducible omega | (simp (disch := omega) only [g_upd_ne, g_upd_eq]; first | with_reducible assumption | with_reducible omega | decide) | exact Or.inl rfl | exact Or.inr rfl) (by first | decide | with_reducible assumption | with_reducible omega | (simp (disch := omega) only [g_upd_ne, g_upd_eq]; first | with_reducible assumption | with_reducible omega | decide) | exact Or.inl rfl | exact Or.inr rfl)) LX8_44 obj_124 rfl rfl rfl dX8_isShutAbove_15 rfl rfl ?_
          refine r_if_eq O 25 dX8_isShutAbove_18 (by decide) (fun c_18 => ?_) (fun c_18 => ?_)
          · have e_18 : (R_X8_isShut s (nI n)).toInt = (0 : Int) := j_eqR c_18 rfl
            refine r_iconst (x := 0) O dX8_isShutAbove_25 rfl ?_
            refine r_sub [0, 1, 3] rfl ?_
            exact J_26 0 (by first | decide | with_reducible assumption | with_reducible omega | (simp (disch := omega) only [g_upd_ne, g_upd_eq]; first | with_reducible assumption | with_reducible omega | decide) | exact Or.inl rfl | exact Or.inr rfl)
          · have e_18 : (R_X8_isShut s (nI n)).toInt ≠ (0 : Int) := j_neR c_18 rfl
            refine r_sub [0, 1, 3] rfl ?_
            exact J_21
        · have e_10 : (v2_4).toInt ≠ (0 : Int) := j_neR c_10 rfl
          refine r_sub [0, 1, 3] rfl ?_
          exact J_21
  refine r_sub [2, 3, 1, 0] rfl ?_
  have hlit_v2_4 : (0 : Int32).toInt = 0 := rfl
  exact L_4 8 0 0 ⟨(by first | decide | with_reducible assumption | with_reducible omega | (simp (disch := omega) only [g_upd_ne, g_upd_eq]; first | with_reducible assumption | with_reducible omega | decide) | exact Or.inl rfl | exact Or.inr rfl), (by first | decide | with_reducible assumption | with_reducible omega | (simp (disch := omega) only [g_upd_ne, g_upd_eq]; first | with_reducible assumption | with_reducible omega | decide) | exact Or.inl rfl | exact Or.inr rfl), (by first | decide | with_reducible assumption | with_reducible omega | (simp (disch := omega) only [g_upd_ne, g_upd_eq]; first | with_reducible assumption | with_reducible omega | decide) | exact Or.inl rfl | exact Or.inr rfl)⟩
theorem met_X8_isShutAbove (l : Launch) (hs : l.stackTraces = false) (lm : Nat → Int64) (pm : Nat → Nat) (m : Nat → Int32) (s : Nat → Int32) (x1 : Int32) (p0 : x1.toInt ≤ 7) : g_SM l yX8_isShutAbove cX8_isShutAbove 4 (some .boolean) ({ frames := 1, cells := 0, slots := 0, locals := 21 } : Room) (fun ad => [.ref (ad 124), .int x1]) m (s, lm, pm) ((fun r : Int32 => ((.inl (some (.int r)), (m, s, lm, pm)) : g_Res)) (R_X8_isShutAbove s x1)) :=
  g_sm_of (by decide) (fun _ => Nat.le_of_ble_eq_true rfl) hs (fun X hl hn O => walk_X8_isShutAbove O (by rw [hl]; exact hs) hn p0)
def R_X8_isInTime_19 (s : Nat → Int32) (x1 : Int32) (x2 : Int32) (x3 : Int32) (t0_19 : Int32) : Int32 := (if (s (58 + 9 * x1.toNatClampNeg + 0)) < ((t0_19 + x3) + (R_X8_upFrom s x2)) then 0 else 1)
def R_X8_isInTime (s : Nat → Int32) (x1 : Int32) (x2 : Int32) (x3 : Int32) : Int32 := (if (R_X8_isBelow s x1) = 0 then (R_X8_isInTime_19 s x1 x2 x3 0) else (R_X8_isInTime_19 s x1 x2 x3 (s (58 + 9 * x1.toNatClampNeg + 7))))
set_option maxRecDepth 100000 in
set_option maxHeartbeats 4000000 in
theorem walk_X8_isInTime {X : g_X} (O : g_ok X cX8_isInTime RX8 (some .boolean) ({ frames := 2, cells := 0, slots := 0, locals := 43 } : Room)) (hs : (g_xl X).stackTraces = false) (hn : g_xn X = 5) {m : Nat → Int32} {lm : Nat → Int64} {pm : Nat → Nat} {s : Nat → Int32} {x1 : Int32} {x2 : Int32} {x3 : Int32} (p0 : 0 ≤ x1.toInt) (p1 : x1.toInt < 6) (p2 : x2.toInt ≤ 7) : g_V X (fun r : Int32 => ((.inl (some (.int r)), (m, s, lm, pm)) : g_Res)) (R_X8_isInTime s x1 x2 x3) 0 0 m (s, lm, pm) 0 [(0, .ref (g_ad X 124)), (1, .int x1), (2, .int x2), (3, .int x3)] [] := by
  have hN : ∀ i, Nat.blt i 5 = true → i < g_xn X := fun i h => by rw [hn]; exact g_blt.mp h
  refine r_aload_n O 0 dX8_isInTime_0 rfl rfl ?_
  refine r_iload_n O 1 dX8_isInTime_1 rfl rfl ?_
  refine r_callVi O [.int x1] [] (met_X8_isBelow (g_xl X) hs lm pm m s x1 (by first | decide | with_reducible assumption | with_reducible omega | (simp (disch := omega) only [g_upd_ne, g_upd_eq]; first | with_reducible assumption | with_reducible omega | decide) | exact Or.inl rfl | exact Or.inr rfl) (by first | decide | with_reducible assumption | with_reducible omega | (simp (disch := omega) only [g_upd_ne, g_upd_eq]; first | with_reducible assumption | with_reducible omega | decide) | exact Or.inl rfl | exact Or.inr rfl)) LX8_48 obj_124 rfl rfl rfl dX8_isInTime_2 rfl rfl ?_
  have J_19 : ∀ (t0_19 : Int32), g_V X (fun r : Int32 => ((.inl (some (.int r)), (m, s, lm, pm)) : g_Res)) (R_X8_isInTime_19 s x1 x2 x3 t0_19) 0 0 m (s, lm, pm) 19 [(0, .ref (g_ad X 124)), (1, .int x1), (2, .int x2), (3, .int x3)] [.int t0_19] := by
    intro t0_19
    refine r_istore (lc' := [(4, .int t0_19), (0, .ref (g_ad X 124)), (1, .int x1), (2, .int x2), (3, .int x3)]) O dX8_isInTime_19 (hN 4 rfl) rfl ?_
    refine r_iload O 0 dX8_isInTime_21 rfl ?_
    refine r_iload_n O 4 dX8_isInTime_23 rfl rfl ?_
    refine r_iadd O dX8_isInTime_24 ?_
    refine r_aload_n O 1 dX8_isInTime_25 rfl rfl ?_
    refine r_iload_n O 3 dX8_isInTime_26 rfl rfl ?_
    refine r_callVi O [.int x2] [.int (t0_19 + x3)] (met_X8_upFrom (g_xl X) hs lm pm m s x2 (by first | decide | with_reducible assumption | with_reducible omega | (simp (disch := omega) only [g_upd_ne, g_upd_eq]; first | with_reducible assumption | with_reducible omega | decide) | exact Or.inl rfl | exact Or.inr rfl)) LX8_51 obj_124 rfl rfl rfl dX8_isInTime_27 rfl rfl ?_
    refine r_iadd O dX8_isInTime_30 ?_
    refine r_aload_n O 1 dX8_isInTime_31 rfl rfl ?_
    refine r_iload_n O 2 dX8_isInTime_32 rfl rfl ?_
    refine r_iconst (x := 0) O dX8_isInTime_33 rfl ?_
    refine r_callVi O [.int x1, .int 0] [.int ((t0_19 + x3) + (R_X8_upFrom s x2))] (metn_X8_of (g_xl X) hs lm pm m s x1 0 (by first | decide | with_reducible assumption | with_reducible omega | (simp (disch := omega) only [g_upd_ne, g_upd_eq]; first | with_reducible assumption | with_reducible omega | decide) | exact Or.inl rfl | exact Or.inr rfl) (by first | decide | with_reducible assumption | with_reducible omega | (simp (disch := omega) only [g_upd_ne, g_upd_eq]; first | with_reducible assumption | with_reducible omega | decide) | exact Or.inl rfl | exact Or.inr rfl) (by decide)) LX8_37 obj_124 rfl rfl rfl dX8_isInTime_34 rfl rfl ?_
    refine r_icmp_gt O 44 dX8_isInTime_37 (by decide) (fun c_37 => ?_) (fun c_37 => ?_)
    · have e_37 : (s (58 + 9 * x1.toNatClampNeg + 0)).toInt < ((t0_19 + x3) + (R_X8_upFrom s x2)).toInt := j_lt c_37
      refine r_iconst (x := 0) O dX8_isInTime_44 rfl ?_
      exact r_iret O dX8_isInTime_45 rfl (Nat.le_of_ble_eq_true rfl) (Nat.le_of_ble_eq_true rfl) rfl
    · have e_37 : ((t0_19 + x3) + (R_X8_upFrom s x2)).toInt ≤ (s (58 + 9 * x1.toNatClampNeg + 0)).toInt := j_nlt c_37
      refine r_iconst (x := 1) O dX8_isInTime_40 rfl ?_
      refine r_goto O 45 dX8_isInTime_41 (by decide) ?_
      exact r_iret O dX8_isInTime_45 rfl (Nat.le_of_ble_eq_true rfl) (Nat.le_of_ble_eq_true rfl) rfl
  refine r_if_eq O 18 dX8_isInTime_5 (by decide) (fun c_5 => ?_) (fun c_5 => ?_)
  · have e_5 : (R_X8_isBelow s x1).toInt = (0 : Int) := j_eqR c_5 rfl
    refine r_iconst (x := 0) O dX8_isInTime_18 rfl ?_
    exact J_19 0
  · have e_5 : (R_X8_isBelow s x1).toInt ≠ (0 : Int) := j_neR c_5 rfl
    refine r_aload_n O 0 dX8_isInTime_8 rfl rfl ?_
    refine r_iload_n O 1 dX8_isInTime_9 rfl rfl ?_
    refine r_bipush (x := 7) O dX8_isInTime_10 rfl ?_
    refine r_callVi O [.int x1, .int 7] [] (metn_X8_of (g_xl X) hs lm pm m s x1 7 (by first | decide | with_reducible assumption | with_reducible omega | (simp (disch := omega) only [g_upd_ne, g_upd_eq]; first | with_reducible assumption | with_reducible omega | decide) | exact Or.inl rfl | exact Or.inr rfl) (by first | decide | with_reducible assumption | with_reducible omega | (simp (disch := omega) only [g_upd_ne, g_upd_eq]; first | with_reducible assumption | with_reducible omega | decide) | exact Or.inl rfl | exact Or.inr rfl) (by decide)) LX8_37 obj_124 rfl rfl rfl dX8_isInTime_12 rfl rfl ?_
    refine r_goto O 19 dX8_isInTime_15 (by decide) ?_
    exact J_19 (s (58 + 9 * x1.toNatClampNeg + 7))
theorem met_X8_isInTime (l : Launch) (hs : l.stackTraces = false) (lm : Nat → Int64) (pm : Nat → Nat) (m : Nat → Int32) (s : Nat → Int32) (x1 : Int32) (x2 : Int32) (x3 : Int32) (p0 : 0 ≤ x1.toInt) (p1 : x1.toInt < 6) (p2 : x2.toInt ≤ 7) : g_SM l yX8_isInTime cX8_isInTime 5 (some .boolean) ({ frames := 2, cells := 0, slots := 0, locals := 43 } : Room) (fun ad => [.ref (ad 124), .int x1, .int x2, .int x3]) m (s, lm, pm) ((fun r : Int32 => ((.inl (some (.int r)), (m, s, lm, pm)) : g_Res)) (R_X8_isInTime s x1 x2 x3)) :=
  g_sm_of (by decide) (fun _ => Nat.le_of_ble_eq_true rfl) hs (fun X hl hn O => walk_X8_isInTime O (by rw [hl]; exact hs) hn p0 p1 p2)
def R_X8_effort (s : Nat → Int32) (x1 : Int32) (x2 : Int32) : Int32 := (if x2 = 0 then ((s ((20 + x1).toNatClampNeg)) * 1) else (if (s ((13 + x1).toNatClampNeg)) ≤ 0 then ((s ((20 + x1).toNatClampNeg)) * 1) else ((s ((20 + x1).toNatClampNeg)) * 2)))
set_option maxRecDepth 100000 in
set_option maxHeartbeats 4000000 in
theorem walk_X8_effort {X : g_X} (O : g_ok X cX8_effort RX8 (some .int) ({ frames := 0, cells := 0, slots := 0, locals := 0 } : Room)) (hs : (g_xl X).stackTraces = false) (hn : g_xn X = 3) {m : Nat → Int32} {lm : Nat → Int64} {pm : Nat → Nat} {s : Nat → Int32} {x1 : Int32} {x2 : Int32} (p0 : -1 ≤ x1.toInt) (p1 : x1.toInt ≤ 7) : g_V X (fun r : Int32 => ((.inl (some (.int r)), (m, s, lm, pm)) : g_Res)) (R_X8_effort s x1 x2) 0 0 m (s, lm, pm) 0 [(0, .ref (g_ad X 124)), (1, .int x1), (2, .int x2)] [] := by
  have hN : ∀ i, Nat.blt i 3 = true → i < g_xn X := fun i h => by rw [hn]; exact g_blt.mp h
  refine r_aload_n O 0 dX8_effort_0 rfl rfl ?_
  refine r_get O FX8_7 G_124_0 dX8_effort_1 ?_
  refine r_bipush (x := 20) O dX8_effort_4 rfl ?_
  refine r_iload_n O 1 dX8_effort_6 rfl rfl ?_
  refine r_iadd O dX8_effort_7 ?_
  have ix_8 : (20 + x1).toInt = ((20 : Int) + x1.toInt) := (j_addE rfl rfl (by with_reducible omega) (by with_reducible omega))
  have iy_8 := j_nat (x := (20 + x1)) (by with_reducible omega)
  refine r_iald O R_125 (show vp_in (20 + x1) 178 from g_vin (by with_reducible omega) (by with_reducible omega)) dX8_effort_8 ?_
  refine r_iload_n O 2 dX8_effort_9 rfl rfl ?_
  refine r_if_eq O 29 dX8_effort_10 (by decide) (fun c_10 => ?_) (fun c_10 => ?_)
  · have e_10 : (x2).toInt = (0 : Int) := j_eqR c_10 rfl
    refine r_iconst (x := 1) O dX8_effort_29 rfl ?_
    refine r_imul O dX8_effort_30 ?_
    exact r_iret O dX8_effort_31 rfl (Nat.le_of_ble_eq_true rfl) (Nat.le_of_ble_eq_true rfl) rfl
  · have e_10 : (x2).toInt ≠ (0 : Int) := j_neR c_10 rfl
    refine r_aload_n O 0 dX8_effort_13 rfl rfl ?_
    refine r_get O FX8_7 G_124_0 dX8_effort_14 ?_
    refine r_bipush (x := 13) O dX8_effort_17 rfl ?_
    refine r_iload_n O 1 dX8_effort_19 rfl rfl ?_
    refine r_iadd O dX8_effort_20 ?_
    have ix_21 : (13 + x1).toInt = ((13 : Int) + x1.toInt) := (j_addE rfl rfl (by with_reducible omega) (by with_reducible omega))
    have iy_21 := j_nat (x := (13 + x1)) (by with_reducible omega)
    refine r_iald O R_125 (show vp_in (13 + x1) 178 from g_vin (by with_reducible omega) (by with_reducible omega)) dX8_effort_21 ?_
    refine r_if_le O 29 dX8_effort_22 (by decide) (fun c_22 => ?_) (fun c_22 => ?_)
    · have e_22 : (s ((13 + x1).toNatClampNeg)).toInt ≤ (0 : Int) := j_leR c_22 rfl
      refine r_iconst (x := 1) O dX8_effort_29 rfl ?_
      refine r_imul O dX8_effort_30 ?_
      exact r_iret O dX8_effort_31 rfl (Nat.le_of_ble_eq_true rfl) (Nat.le_of_ble_eq_true rfl) rfl
    · have e_22 : (0 : Int) < (s ((13 + x1).toNatClampNeg)).toInt := j_nleR c_22 rfl
      refine r_iconst (x := 2) O dX8_effort_25 rfl ?_
      refine r_goto O 30 dX8_effort_26 (by decide) ?_
      refine r_imul O dX8_effort_30 ?_
      exact r_iret O dX8_effort_31 rfl (Nat.le_of_ble_eq_true rfl) (Nat.le_of_ble_eq_true rfl) rfl
theorem met_X8_effort (l : Launch) (hs : l.stackTraces = false) (lm : Nat → Int64) (pm : Nat → Nat) (m : Nat → Int32) (s : Nat → Int32) (x1 : Int32) (x2 : Int32) (p0 : -1 ≤ x1.toInt) (p1 : x1.toInt ≤ 7) : g_SM l yX8_effort cX8_effort 3 (some .int) ({ frames := 0, cells := 0, slots := 0, locals := 0 } : Room) (fun ad => [.ref (ad 124), .int x1, .int x2]) m (s, lm, pm) ((fun r : Int32 => ((.inl (some (.int r)), (m, s, lm, pm)) : g_Res)) (R_X8_effort s x1 x2)) :=
  g_sm_of (by decide) (fun _ => Nat.le_of_ble_eq_true rfl) hs (fun X hl hn O => walk_X8_effort O (by rw [hl]; exact hs) hn p0 p1)
def R_X8_reason_69 (s : Nat → Int32) (x1 : Int32) (x2 : Int32) (t0_57 : Int32) (t0_69 : Int32) : Int32 := (if (R_X8_isShut s t0_69) = 0 then (if ((s (58 + 9 * x1.toNatClampNeg + 6)) + (R_X8_effort s t0_69 t0_57)) ≤ 100 then (if t0_57 = 0 then (if (R_X8_isInTime s x1 x2 (s ((20 + t0_69).toNatClampNeg))) = 0 then 5 else 0) else 0) else 4) else 3)
def R_X8_reason_57 (s : Nat → Int32) (x1 : Int32) (x2 : Int32) (t0_57 : Int32) : Int32 := (if t0_57 = 0 then (R_X8_reason_69 s x1 x2 t0_57 (s (58 + 9 * x1.toNatClampNeg + 1))) else (R_X8_reason_69 s x1 x2 t0_57 x2))
def R_X8_reason_47 (s : Nat → Int32) (x1 : Int32) (x2 : Int32) : Int32 := (if (s (58 + 9 * x1.toNatClampNeg + 1)) ≤ x2 then (R_X8_reason_57 s x1 x2 0) else (R_X8_reason_57 s x1 x2 1))
def R_X8_reason (s : Nat → Int32) (x1 : Int32) (x2 : Int32) : Int32 := (if (R_X8_stands s x1) = 0 then 1 else (if (R_X8_in s x2 0 (s (0))) = 0 then 2 else (if x2 = ((s (58 + 9 * x1.toNatClampNeg + 1)) - 1) then (R_X8_reason_47 s x1 x2 ) else (if x2 = ((s (58 + 9 * x1.toNatClampNeg + 1)) + 1) then (R_X8_reason_47 s x1 x2 ) else 2))))
set_option maxRecDepth 100000 in
set_option maxHeartbeats 4000000 in
theorem walk_X8_reason {X : g_X} (O : g_ok X cX8_reason RX8 (some .int) ({ frames := 3, cells := 0, slots := 0, locals := 67 } : Room)) (hs : (g_xl X).stackTraces = false) (hn : g_xn X = 6) {m : Nat → Int32} {lm : Nat → Int64} {pm : Nat → Nat} {s : Nat → Int32} {x1 : Int32} {x2 : Int32} (p0 : 0 ≤ x1.toInt) (p1 : x1.toInt < 6) (p2 : (s 0).toInt ≤ 7) (p3 : 0 ≤ (s (58 + 9 * x1.toNatClampNeg + 1)).toInt) (p4 : (s (58 + 9 * x1.toNatClampNeg + 1)).toInt ≤ 7) : g_V X (fun r : Int32 => ((.inl (some (.int r)), (m, s, lm, pm)) : g_Res)) (R_X8_reason s x1 x2) 0 0 m (s, lm, pm) 0 [(0, .ref (g_ad X 124)), (1, .int x1), (2, .int x2)] [] := by
  have hN : ∀ i, Nat.blt i 6 = true → i < g_xn X := fun i h => by rw [hn]; exact g_blt.mp h
  refine r_aload_n O 0 dX8_reason_0 rfl rfl ?_
  refine r_iload_n O 1 dX8_reason_1 rfl rfl ?_
  refine r_iconst (x := 1) O dX8_reason_2 rfl ?_
  refine r_callVi O [.int x1, .int 1] [] (metn_X8_of (g_xl X) hs lm pm m s x1 1 (by first | decide | with_reducible assumption | with_reducible omega | (simp (disch := omega) only [g_upd_ne, g_upd_eq]; first | with_reducible assumption | with_reducible omega | decide) | exact Or.inl rfl | exact Or.inr rfl) (by first | decide | with_reducible assumption | with_reducible omega | (simp (disch := omega) only [g_upd_ne, g_upd_eq]; first | with_reducible assumption | with_reducible omega | decide) | exact Or.inl rfl | exact Or.inr rfl) (by decide)) LX8_37 obj_124 rfl rfl rfl dX8_reason_3 rfl rfl ?_
  refine r_istore_n (lc' := [(3, .int (s (58 + 9 * x1.toNatClampNeg + 1))), (0, .ref (g_ad X 124)), (1, .int x1), (2, .int x2)]) O dX8_reason_6 rfl (hN 3 rfl) rfl ?_
  refine r_aload_n O 1 dX8_reason_7 rfl rfl ?_
  refine r_iload_n O 2 dX8_reason_8 rfl rfl ?_
  refine r_callVi O [.int x1] [] (met_X8_stands (g_xl X) hs lm pm m s x1 (by first | decide | with_reducible assumption | with_reducible omega | (simp (disch := omega) only [g_upd_ne, g_upd_eq]; first | with_reducible assumption | with_reducible omega | decide) | exact Or.inl rfl | exact Or.inr rfl) (by first | decide | with_reducible assumption | with_reducible omega | (simp (disch := omega) only [g_upd_ne, g_upd_eq]; first | with_reducible assumption | with_reducible omega | decide) | exact Or.inl rfl | exact Or.inr rfl)) LX8_81 obj_124 rfl rfl rfl dX8_reason_9 rfl rfl ?_
  refine r_if_ne O 17 dX8_reason_12 (by decide) (fun c_12 => ?_) (fun c_12 => ?_)
  · have e_12 : (R_X8_stands s x1).toInt = (0 : Int) := j_eqR c_12 rfl
    refine r_iconst (x := 1) O dX8_reason_15 rfl ?_
    exact r_iret O dX8_reason_16 rfl (Nat.le_of_ble_eq_true rfl) (Nat.le_of_ble_eq_true rfl) rfl
  · have e_12 : (R_X8_stands s x1).toInt ≠ (0 : Int) := j_neR c_12 rfl
    refine r_iload_n O 3 dX8_reason_17 rfl rfl ?_
    refine r_iconst (x := 0) O dX8_reason_18 rfl ?_
    refine r_aload_n O 1 dX8_reason_19 rfl rfl ?_
    refine r_get O FX8_7 G_124_0 dX8_reason_20 ?_
    refine r_iconst (x := 0) O dX8_reason_23 rfl ?_
    refine r_iald O R_125 (g_vin (by decide) (by decide)) dX8_reason_24 ?_
    refine r_callSi O [.int x2, .int 0, .int (s (0))] [] (met_X8_in (g_xl X) hs lm pm m s x2 0 (s (0)) ) LX8_54 rfl rfl rfl dX8_reason_25 rfl rfl ?_
    refine r_if_eq O 45 dX8_reason_28 (by decide) (fun c_28 => ?_) (fun c_28 => ?_)
    · have e_28 : (R_X8_in s x2 0 (s (0))).toInt = (0 : Int) := j_eqR c_28 rfl
      refine r_iconst (x := 2) O dX8_reason_45 rfl ?_
      exact r_iret O dX8_reason_46 rfl (Nat.le_of_ble_eq_true rfl) (Nat.le_of_ble_eq_true rfl) rfl
    · have e_28 : (R_X8_in s x2 0 (s (0))).toInt ≠ (0 : Int) := j_neR c_28 rfl
      have z_28a : (0 : Int) ≤ (x2).toInt := (nz_X8_in c_28).1
      have z_28b : (x2).toInt ≤ (s (0)).toInt := (nz_X8_in c_28).2
      refine r_iload_n O 3 dX8_reason_31 rfl rfl ?_
      refine r_iload_n O 0 dX8_reason_32 rfl rfl ?_
      refine r_iconst (x := 1) O dX8_reason_33 rfl ?_
      refine r_isub O dX8_reason_34 ?_
      have J_47 : g_V X (fun r : Int32 => ((.inl (some (.int r)), (m, s, lm, pm)) : g_Res)) (R_X8_reason_47 s x1 x2 ) 0 0 m (s, lm, pm) 47 [(0, .ref (g_ad X 124)), (1, .int x1), (2, .int x2), (3, .int (s (58 + 9 * x1.toNatClampNeg + 1)))] [] := by
        refine r_iload_n O 2 dX8_reason_47 rfl rfl ?_
        refine r_iload_n O 3 dX8_reason_48 rfl rfl ?_
        have J_57 : ∀ (t0_57 : Int32), g_V X (fun r : Int32 => ((.inl (some (.int r)), (m, s, lm, pm)) : g_Res)) (R_X8_reason_57 s x1 x2 t0_57) 0 0 m (s, lm, pm) 57 [(0, .ref (g_ad X 124)), (1, .int x1), (2, .int x2), (3, .int (s (58 + 9 * x1.toNatClampNeg + 1)))] [.int t0_57] := by
          intro t0_57
          refine r_istore (lc' := [(4, .int t0_57), (0, .ref (g_ad X 124)), (1, .int x1), (2, .int x2), (3, .int (s (58 + 9 * x1.toNatClampNeg + 1)))]) O dX8_reason_57 (hN 4 rfl) rfl ?_
          refine r_iload O 0 dX8_reason_59 rfl ?_
          have J_69 : ∀ (t0_69 : Int32) (hj0 : -1 ≤ t0_69.toInt) (hj1 : t0_69.toInt ≤ 7), g_V X (fun r : Int32 => ((.inl (some (.int r)), (m, s, lm, pm)) : g_Res)) (R_X8_reason_69 s x1 x2 t0_57 t0_69) 0 0 m (s, lm, pm) 69 [(0, .ref (g_ad X 124)), (1, .int x1), (2, .int x2), (4, .int t0_57)] [.int t0_69] := by
            intro t0_69 hj0 hj1
            refine r_istore (lc' := [(5, .int t0_69), (0, .ref (g_ad X 124)), (1, .int x1), (2, .int x2), (4, .int t0_57)]) O dX8_reason_69 (hN 5 rfl) rfl ?_
            refine r_aload_n O 1 dX8_reason_71 rfl rfl ?_
            refine r_iload O 0 dX8_reason_72 rfl ?_
            refine r_callVi O [.int t0_69] [] (met_X8_isShut (g_xl X) hs lm pm m s t0_69 (by first | decide | with_reducible assumption | with_reducible omega | (simp (disch := omega) only [g_upd_ne, g_upd_eq]; first | with_reducible assumption | with_reducible omega | decide) | exact Or.inl rfl | exact Or.inr rfl) (by first | decide | with_reducible assumption | with_reducible omega | (simp (disch := omega) only [g_upd_ne, g_upd_eq]; first | with_reducible assumption | with_reducible omega | decide) | exact Or.inl rfl | exact Or.inr rfl)) LX8_44 obj_124 rfl rfl rfl dX8_reason_74 rfl rfl ?_
            refine r_if_eq O 82 dX8_reason_77 (by decide) (fun c_77 => ?_) (fun c_77 => ?_)
            · have e_77 : (R_X8_isShut s t0_69).toInt = (0 : Int) := j_eqR c_77 rfl
              refine r_aload_n O 1 dX8_reason_82 rfl rfl ?_
              refine r_iload_n O 2 dX8_reason_83 rfl rfl ?_
              refine r_bipush (x := 6) O dX8_reason_84 rfl ?_
              refine r_callVi O [.int x1, .int 6] [] (metn_X8_of (g_xl X) hs lm pm m s x1 6 (by first | decide | with_reducible assumption | with_reducible omega | (simp (disch := omega) only [g_upd_ne, g_upd_eq]; first | with_reducible assumption | with_reducible omega | decide) | exact Or.inl rfl | exact Or.inr rfl) (by first | decide | with_reducible assumption | with_reducible omega | (simp (disch := omega) only [g_upd_ne, g_upd_eq]; first | with_reducible assumption | with_reducible omega | decide) | exact Or.inl rfl | exact Or.inr rfl) (by decide)) LX8_37 obj_124 rfl rfl rfl dX8_reason_86 rfl rfl ?_
              refine r_aload_n O 1 dX8_reason_89 rfl rfl ?_
              refine r_iload O 0 dX8_reason_90 rfl ?_
              refine r_iload O 4 dX8_reason_92 rfl ?_
              refine r_callVi O [.int t0_69, .int t0_57] [.int (s (58 + 9 * x1.toNatClampNeg + 6))] (met_X8_effort (g_xl X) hs lm pm m s t0_69 t0_57 (by first | decide | with_reducible assumption | with_reducible omega | (simp (disch := omega) only [g_upd_ne, g_upd_eq]; first | with_reducible assumption | with_reducible omega | decide) | exact Or.inl rfl | exact Or.inr rfl) (by first | decide | with_reducible assumption | with_reducible omega | (simp (disch := omega) only [g_upd_ne, g_upd_eq]; first | with_reducible assumption | with_reducible omega | decide) | exact Or.inl rfl | exact Or.inr rfl)) LX8_84 obj_124 rfl rfl rfl dX8_reason_94 rfl rfl ?_
              refine r_iadd O dX8_reason_97 ?_
              refine r_bipush (x := 100) O dX8_reason_98 rfl ?_
              refine r_icmp_le O 105 dX8_reason_100 (by decide) (fun c_100 => ?_) (fun c_100 => ?_)
              · have e_100 : ((s (58 + 9 * x1.toNatClampNeg + 6)) + (R_X8_effort s t0_69 t0_57)).toInt ≤ (100 : Int) := j_leR c_100 rfl
                refine r_iload O 4 dX8_reason_105 rfl ?_
                refine r_if_ne O 133 dX8_reason_107 (by decide) (fun c_107 => ?_) (fun c_107 => ?_)
                · have e_107 : (t0_57).toInt = (0 : Int) := j_eqR c_107 rfl
                  refine r_aload_n O 1 dX8_reason_110 rfl rfl ?_
                  refine r_iload_n O 2 dX8_reason_111 rfl rfl ?_
                  refine r_iload_n O 3 dX8_reason_112 rfl rfl ?_
                  refine r_aload_n O 1 dX8_reason_113 rfl rfl ?_
                  refine r_get O FX8_7 G_124_0 dX8_reason_114 ?_
                  refine r_bipush (x := 20) O dX8_reason_117 rfl ?_
                  refine r_iload O 0 dX8_reason_119 rfl ?_
                  refine r_iadd O dX8_reason_121 ?_
                  have ix_122 : (20 + t0_69).toInt = ((20 : Int) + t0_69.toInt) := (j_addE rfl rfl (by with_reducible omega) (by with_reducible omega))
                  have iy_122 := j_nat (x := (20 + t0_69)) (by with_reducible omega)
                  refine r_iald O R_125 (show vp_in (20 + t0_69) 178 from g_vin (by with_reducible omega) (by with_reducible omega)) dX8_reason_122 ?_
                  refine r_callVi O [.int x1, .int x2, .int (s ((20 + t0_69).toNatClampNeg))] [] (met_X8_isInTime (g_xl X) hs lm pm m s x1 x2 (s ((20 + t0_69).toNatClampNeg)) (by first | decide | with_reducible assumption | with_reducible omega | (simp (disch := omega) only [g_upd_ne, g_upd_eq]; first | with_reducible assumption | with_reducible omega | decide) | exact Or.inl rfl | exact Or.inr rfl) (by first | decide | with_reducible assumption | with_reducible omega | (simp (disch := omega) only [g_upd_ne, g_upd_eq]; first | with_reducible assumption | with_reducible omega | decide) | exact Or.inl rfl | exact Or.inr rfl) (by first | decide | with_reducible assumption | with_reducible omega | (simp (disch := omega) only [g_upd_ne, g_upd_eq]; first | with_reducible assumption | with_reducible omega | decide) | exact Or.inl rfl | exact Or.inr rfl)) LX8_88 obj_124 rfl rfl rfl dX8_reason_123 rfl rfl ?_
                  refine r_if_ne O 133 dX8_reason_126 (by decide) (fun c_126 => ?_) (fun c_126 => ?_)
                  · have e_126 : (R_X8_isInTime s x1 x2 (s ((20 + t0_69).toNatClampNeg))).toInt = (0 : Int) := j_eqR c_126 rfl
                    refine r_iconst (x := 5) O dX8_reason_129 rfl ?_
                    refine r_goto O 134 dX8_reason_130 (by decide) ?_
                    exact r_iret O dX8_reason_134 rfl (Nat.le_of_ble_eq_true rfl) (Nat.le_of_ble_eq_true rfl) rfl
                  · have e_126 : (R_X8_isInTime s x1 x2 (s ((20 + t0_69).toNatClampNeg))).toInt ≠ (0 : Int) := j_neR c_126 rfl
                    refine r_iconst (x := 0) O dX8_reason_133 rfl ?_
                    exact r_iret O dX8_reason_134 rfl (Nat.le_of_ble_eq_true rfl) (Nat.le_of_ble_eq_true rfl) rfl
                · have e_107 : (t0_57).toInt ≠ (0 : Int) := j_neR c_107 rfl
                  refine r_iconst (x := 0) O dX8_reason_133 rfl ?_
                  exact r_iret O dX8_reason_134 rfl (Nat.le_of_ble_eq_true rfl) (Nat.le_of_ble_eq_true rfl) rfl
              · have e_100 : (100 : Int) < ((s (58 + 9 * x1.toNatClampNeg + 6)) + (R_X8_effort s t0_69 t0_57)).toInt := j_nleR c_100 rfl
                refine r_iconst (x := 4) O dX8_reason_103 rfl ?_
                exact r_iret O dX8_reason_104 rfl (Nat.le_of_ble_eq_true rfl) (Nat.le_of_ble_eq_true rfl) rfl
            · have e_77 : (R_X8_isShut s t0_69).toInt ≠ (0 : Int) := j_neR c_77 rfl
              refine r_iconst (x := 3) O dX8_reason_80 rfl ?_
              exact r_iret O dX8_reason_81 rfl (Nat.le_of_ble_eq_true rfl) (Nat.le_of_ble_eq_true rfl) rfl
          refine r_if_eq O 68 dX8_reason_61 (by decide) (fun c_61 => ?_) (fun c_61 => ?_)
          · have e_61 : (t0_57).toInt = (0 : Int) := j_eqR c_61 rfl
            refine r_iload_n O 4 dX8_reason_68 rfl rfl ?_
            refine r_sub [1, 2, 3, 0] rfl ?_
            exact J_69 (s (58 + 9 * x1.toNatClampNeg + 1)) (by first | decide | with_reducible assumption | with_reducible omega | (simp (disch := omega) only [g_upd_ne, g_upd_eq]; first | with_reducible assumption | with_reducible omega | decide) | exact Or.inl rfl | exact Or.inr rfl) (by first | decide | with_reducible assumption | with_reducible omega | (simp (disch := omega) only [g_upd_ne, g_upd_eq]; first | with_reducible assumption | with_reducible omega | decide) | exact Or.inl rfl | exact Or.inr rfl)
          · have e_61 : (t0_57).toInt ≠ (0 : Int) := j_neR c_61 rfl
            refine r_iload_n O 3 dX8_reason_64 rfl rfl ?_
            refine r_goto O 69 dX8_reason_65 (by decide) ?_
            refine r_sub [1, 2, 3, 0] rfl ?_
            exact J_69 x2 (by first | decide | with_reducible assumption | with_reducible omega | (simp (disch := omega) only [g_upd_ne, g_upd_eq]; first | with_reducible assumption | with_reducible omega | decide) | exact Or.inl rfl | exact Or.inr rfl) (by first | decide | with_reducible assumption | with_reducible omega | (simp (disch := omega) only [g_upd_ne, g_upd_eq]; first | with_reducible assumption | with_reducible omega | decide) | exact Or.inl rfl | exact Or.inr rfl)
        refine r_icmp_ge O 56 dX8_reason_49 (by decide) (fun c_49 => ?_) (fun c_49 => ?_)
        · have e_49 : (s (58 + 9 * x1.toNatClampNeg + 1)).toInt ≤ (x2).toInt := j_le c_49
          refine r_iconst (x := 0) O dX8_reason_56 rfl ?_
          exact J_57 0
        · have e_49 : (x2).toInt < (s (58 + 9 * x1.toNatClampNeg + 1)).toInt := j_nle c_49
          refine r_iconst (x := 1) O dX8_reason_52 rfl ?_
          refine r_goto O 57 dX8_reason_53 (by decide) ?_
          exact J_57 1
      have ix_35r : ((s (58 + 9 * x1.toNatClampNeg + 1)) - 1).toInt = ((s (58 + 9 * x1.toNatClampNeg + 1)).toInt - (1 : Int)) := (j_subE rfl rfl (by with_reducible omega) (by with_reducible omega))
      refine r_icmp_eq O 47 dX8_reason_35 (by decide) (fun c_35 => ?_) (fun c_35 => ?_)
      · have e_35 : (x2).toInt = ((s (58 + 9 * x1.toNatClampNeg + 1)) - 1).toInt := j_eq c_35
        refine r_sub [1, 2, 3, 0] rfl ?_
        exact J_47
      · have e_35 : (x2).toInt ≠ ((s (58 + 9 * x1.toNatClampNeg + 1)) - 1).toInt := j_ne c_35
        refine r_iload_n O 3 dX8_reason_38 rfl rfl ?_
        refine r_iload_n O 0 dX8_reason_39 rfl rfl ?_
        refine r_iconst (x := 1) O dX8_reason_40 rfl ?_
        refine r_iadd O dX8_reason_41 ?_
        have ix_42r : ((s (58 + 9 * x1.toNatClampNeg + 1)) + 1).toInt = ((s (58 + 9 * x1.toNatClampNeg + 1)).toInt + (1 : Int)) := (j_addE rfl rfl (by with_reducible omega) (by with_reducible omega))
        refine r_icmp_eq O 47 dX8_reason_42 (by decide) (fun c_42 => ?_) (fun c_42 => ?_)
        · have e_42 : (x2).toInt = ((s (58 + 9 * x1.toNatClampNeg + 1)) + 1).toInt := j_eq c_42
          refine r_sub [1, 2, 3, 0] rfl ?_
          exact J_47
        · have e_42 : (x2).toInt ≠ ((s (58 + 9 * x1.toNatClampNeg + 1)) + 1).toInt := j_ne c_42
          refine r_iconst (x := 2) O dX8_reason_45 rfl ?_
          exact r_iret O dX8_reason_46 rfl (Nat.le_of_ble_eq_true rfl) (Nat.le_of_ble_eq_true rfl) rfl
theorem met_X8_reason (l : Launch) (hs : l.stackTraces = false) (lm : Nat → Int64) (pm : Nat → Nat) (m : Nat → Int32) (s : Nat → Int32) (x1 : Int32) (x2 : Int32) (p0 : 0 ≤ x1.toInt) (p1 : x1.toInt < 6) (p2 : (s 0).toInt ≤ 7) (p3 : 0 ≤ (s (58 + 9 * x1.toNatClampNeg + 1)).toInt) (p4 : (s (58 + 9 * x1.toNatClampNeg + 1)).toInt ≤ 7) : g_SM l yX8_reason cX8_reason 6 (some .int) ({ frames := 3, cells := 0, slots := 0, locals := 67 } : Room) (fun ad => [.ref (ad 124), .int x1, .int x2]) m (s, lm, pm) ((fun r : Int32 => ((.inl (some (.int r)), (m, s, lm, pm)) : g_Res)) (R_X8_reason s x1 x2)) :=
  g_sm_of (by decide) (fun _ => Nat.le_of_ble_eq_true rfl) hs (fun X hl hn O => walk_X8_reason O (by rw [hl]; exact hs) hn p0 p1 p2 p3 p4)
def R_X8_walks (s : Nat → Int32) (x1 : Int32) (x2 : Int32) (x3 : Int32) (x4 : Int32) : (Nat → Int32) := (upd (upd (upd (upd s (58 + 9 * x1.toNatClampNeg + 2) 1) (58 + 9 * x1.toNatClampNeg + 3) x2) (58 + 9 * x1.toNatClampNeg + 4) x3) (58 + 9 * x1.toNatClampNeg + 8) x4)
set_option maxRecDepth 100000 in
set_option maxHeartbeats 4000000 in
theorem walk_X8_walks {X : g_X} (O : g_ok X cX8_walks RX8 none ({ frames := 1, cells := 0, slots := 0, locals := 23 } : Room)) (hs : (g_xl X).stackTraces = false) (hn : g_xn X = 5) {m : Nat → Int32} {lm : Nat → Int64} {pm : Nat → Nat} {s : Nat → Int32} {x1 : Int32} {x2 : Int32} {x3 : Int32} {x4 : Int32} (p0 : 0 ≤ x1.toInt) (p1 : x1.toInt < 6) : g_V X (fun r : Nat → Int32 => ((.inl none, (m, r, lm, pm)) : g_Res)) (R_X8_walks s x1 x2 x3 x4) 0 0 m (s, lm, pm) 0 [(0, .ref (g_ad X 124)), (1, .int x1), (2, .int x2), (3, .int x3), (4, .int x4)] [] := by
  have hN : ∀ i, Nat.blt i 5 = true → i < g_xn X := fun i h => by rw [hn]; exact g_blt.mp h
  refine r_aload_n O 0 dX8_walks_0 rfl rfl ?_
  refine r_iload_n O 1 dX8_walks_1 rfl rfl ?_
  refine r_iconst (x := 2) O dX8_walks_2 rfl ?_
  refine r_iconst (x := 1) O dX8_walks_3 rfl ?_
  refine r_callVv O [.int x1, .int 2, .int 1] [] (metn_X8_lays (g_xl X) hs lm pm m s x1 2 1 (by first | decide | with_reducible assumption | with_reducible omega | (simp (disch := omega) only [g_upd_ne, g_upd_eq]; first | with_reducible assumption | with_reducible omega | decide) | exact Or.inl rfl | exact Or.inr rfl) (by first | decide | with_reducible assumption | with_reducible omega | (simp (disch := omega) only [g_upd_ne, g_upd_eq]; first | with_reducible assumption | with_reducible omega | decide) | exact Or.inl rfl | exact Or.inr rfl) (by decide)) LX8_76 obj_124 rfl rfl rfl dX8_walks_4 rfl rfl ?_
  refine r_aload_n O 0 dX8_walks_7 rfl rfl ?_
  refine r_iload_n O 1 dX8_walks_8 rfl rfl ?_
  refine r_iconst (x := 3) O dX8_walks_9 rfl ?_
  refine r_iload_n O 2 dX8_walks_10 rfl rfl ?_
  refine r_callVv O [.int x1, .int 3, .int x2] [] (metn_X8_lays (g_xl X) hs lm pm m (upd s (58 + 9 * x1.toNatClampNeg + 2) 1) x1 3 x2 (by first | decide | with_reducible assumption | with_reducible omega | (simp (disch := omega) only [g_upd_ne, g_upd_eq]; first | with_reducible assumption | with_reducible omega | decide) | exact Or.inl rfl | exact Or.inr rfl) (by first | decide | with_reducible assumption | with_reducible omega | (simp (disch := omega) only [g_upd_ne, g_upd_eq]; first | with_reducible assumption | with_reducible omega | decide) | exact Or.inl rfl | exact Or.inr rfl) (by decide)) LX8_76 obj_124 rfl rfl rfl dX8_walks_11 rfl rfl ?_
  refine r_aload_n O 0 dX8_walks_14 rfl rfl ?_
  refine r_iload_n O 1 dX8_walks_15 rfl rfl ?_
  refine r_iconst (x := 4) O dX8_walks_16 rfl ?_
  refine r_iload_n O 3 dX8_walks_17 rfl rfl ?_
  refine r_callVv O [.int x1, .int 4, .int x3] [] (metn_X8_lays (g_xl X) hs lm pm m (upd (upd s (58 + 9 * x1.toNatClampNeg + 2) 1) (58 + 9 * x1.toNatClampNeg + 3) x2) x1 4 x3 (by first | decide | with_reducible assumption | with_reducible omega | (simp (disch := omega) only [g_upd_ne, g_upd_eq]; first | with_reducible assumption | with_reducible omega | decide) | exact Or.inl rfl | exact Or.inr rfl) (by first | decide | with_reducible assumption | with_reducible omega | (simp (disch := omega) only [g_upd_ne, g_upd_eq]; first | with_reducible assumption | with_reducible omega | decide) | exact Or.inl rfl | exact Or.inr rfl) (by decide)) LX8_76 obj_124 rfl rfl rfl dX8_walks_18 rfl rfl ?_
  refine r_aload_n O 0 dX8_walks_21 rfl rfl ?_
  refine r_iload_n O 1 dX8_walks_22 rfl rfl ?_
  refine r_bipush (x := 8) O dX8_walks_23 rfl ?_
  refine r_iload O 4 dX8_walks_25 rfl ?_
  refine r_callVv O [.int x1, .int 8, .int x4] [] (metn_X8_lays (g_xl X) hs lm pm m (upd (upd (upd s (58 + 9 * x1.toNatClampNeg + 2) 1) (58 + 9 * x1.toNatClampNeg + 3) x2) (58 + 9 * x1.toNatClampNeg + 4) x3) x1 8 x4 (by first | decide | with_reducible assumption | with_reducible omega | (simp (disch := omega) only [g_upd_ne, g_upd_eq]; first | with_reducible assumption | with_reducible omega | decide) | exact Or.inl rfl | exact Or.inr rfl) (by first | decide | with_reducible assumption | with_reducible omega | (simp (disch := omega) only [g_upd_ne, g_upd_eq]; first | with_reducible assumption | with_reducible omega | decide) | exact Or.inl rfl | exact Or.inr rfl) (by decide)) LX8_76 obj_124 rfl rfl rfl dX8_walks_27 rfl rfl ?_
  exact r_vret O dX8_walks_30 (Nat.le_of_ble_eq_true rfl) (Nat.le_of_ble_eq_true rfl) rfl
theorem met_X8_walks (l : Launch) (hs : l.stackTraces = false) (lm : Nat → Int64) (pm : Nat → Nat) (m : Nat → Int32) (s : Nat → Int32) (x1 : Int32) (x2 : Int32) (x3 : Int32) (x4 : Int32) (p0 : 0 ≤ x1.toInt) (p1 : x1.toInt < 6) : g_SM l yX8_walks cX8_walks 5 none ({ frames := 1, cells := 0, slots := 0, locals := 23 } : Room) (fun ad => [.ref (ad 124), .int x1, .int x2, .int x3, .int x4]) m (s, lm, pm) ((fun r : Nat → Int32 => ((.inl none, (m, r, lm, pm)) : g_Res)) (R_X8_walks s x1 x2 x3 x4)) :=
  g_sm_of (by decide) (fun _ => Nat.le_of_ble_eq_true rfl) hs (fun X hl hn O => walk_X8_walks O (by rw [hl]; exact hs) hn p0 p1)
theorem fr_X8_walks {s : Nat → Int32} {a b c d : Int32} {n : Nat} (h2 : n ≠ 58 + 9 * a.toNatClampNeg + 2) (h3 : n ≠ 58 + 9 * a.toNatClampNeg + 3) (h4 : n ≠ 58 + 9 * a.toNatClampNeg + 4) (h8 : n ≠ 58 + 9 * a.toNatClampNeg + 8) : R_X8_walks s a b c d n = s n := by
  unfold R_X8_walks
  rw [g_upd_ne h8, g_upd_ne h4, g_upd_ne h3, g_upd_ne h2]
def R_X8_sets_26 (s : Nat → Int32) (x1 : Int32) (x2 : Int32) (t0_26 : Int32) : (Nat → Int32) := (R_X8_walks s x1 x2 (s ((20 + t0_26).toNatClampNeg)) 0)
def R_X8_sets (s : Nat → Int32) (x1 : Int32) (x2 : Int32) : (Nat → Int32) := (if (s (58 + 9 * x1.toNatClampNeg + 1)) ≤ x2 then (R_X8_sets_26 s x1 x2 (x2 - 1)) else (R_X8_sets_26 s x1 x2 x2))
set_option maxRecDepth 100000 in
set_option maxHeartbeats 4000000 in
theorem walk_X8_sets {X : g_X} (O : g_ok X cX8_sets RX8 none ({ frames := 2, cells := 0, slots := 0, locals := 47 } : Room)) (hs : (g_xl X).stackTraces = false) (hn : g_xn X = 3) {m : Nat → Int32} {lm : Nat → Int64} {pm : Nat → Nat} {s : Nat → Int32} {x1 : Int32} {x2 : Int32} (p0 : 0 ≤ x1.toInt) (p1 : x1.toInt < 6) (p2 : 0 ≤ x2.toInt) (p3 : x2.toInt ≤ 8) : g_V X (fun r : Nat → Int32 => ((.inl none, (m, r, lm, pm)) : g_Res)) (R_X8_sets s x1 x2) 0 0 m (s, lm, pm) 0 [(0, .ref (g_ad X 124)), (1, .int x1), (2, .int x2)] [] := by
  have hN : ∀ i, Nat.blt i 3 = true → i < g_xn X := fun i h => by rw [hn]; exact g_blt.mp h
  refine r_aload_n O 0 dX8_sets_0 rfl rfl ?_
  refine r_iload_n O 1 dX8_sets_1 rfl rfl ?_
  refine r_iload_n O 2 dX8_sets_2 rfl rfl ?_
  refine r_aload_n O 0 dX8_sets_3 rfl rfl ?_
  refine r_get O FX8_7 G_124_0 dX8_sets_4 ?_
  refine r_bipush (x := 20) O dX8_sets_7 rfl ?_
  refine r_iload_n O 2 dX8_sets_9 rfl rfl ?_
  refine r_aload_n O 0 dX8_sets_10 rfl rfl ?_
  refine r_iload_n O 1 dX8_sets_11 rfl rfl ?_
  refine r_iconst (x := 1) O dX8_sets_12 rfl ?_
  refine r_callVi O [.int x1, .int 1] [.int x2, .int 20, .ref (g_ad X 125), .int x2, .int x1, .ref (g_ad X 124)] (metn_X8_of (g_xl X) hs lm pm m s x1 1 (by first | decide | with_reducible assumption | with_reducible omega | (simp (disch := omega) only [g_upd_ne, g_upd_eq]; first | with_reducible assumption | with_reducible omega | decide) | exact Or.inl rfl | exact Or.inr rfl) (by first | decide | with_reducible assumption | with_reducible omega | (simp (disch := omega) only [g_upd_ne, g_upd_eq]; first | with_reducible assumption | with_reducible omega | decide) | exact Or.inl rfl | exact Or.inr rfl) (by decide)) LX8_37 obj_124 rfl rfl rfl dX8_sets_13 rfl rfl ?_
  have J_26 : ∀ (t0_26 : Int32) (hj0 : -1 ≤ t0_26.toInt) (hj1 : t0_26.toInt ≤ 8), g_V X (fun r : Nat → Int32 => ((.inl none, (m, r, lm, pm)) : g_Res)) (R_X8_sets_26 s x1 x2 t0_26) 0 0 m (s, lm, pm) 26 [] [.int t0_26, .int 20, .ref (g_ad X 125), .int x2, .int x1, .ref (g_ad X 124)] := by
    intro t0_26 hj0 hj1
    refine r_iadd O dX8_sets_26 ?_
    have ix_27 : (20 + t0_26).toInt = ((20 : Int) + t0_26.toInt) := (j_addE rfl rfl (by with_reducible omega) (by with_reducible omega))
    have iy_27 := j_nat (x := (20 + t0_26)) (by with_reducible omega)
    refine r_iald O R_125 (show vp_in (20 + t0_26) 178 from g_vin (by with_reducible omega) (by with_reducible omega)) dX8_sets_27 ?_
    refine r_iconst (x := 0) O dX8_sets_28 rfl ?_
    refine r_callVv O [.int x1, .int x2, .int (s ((20 + t0_26).toNatClampNeg)), .int 0] [] (met_X8_walks (g_xl X) hs lm pm m s x1 x2 (s ((20 + t0_26).toNatClampNeg)) 0 (by first | decide | with_reducible assumption | with_reducible omega | (simp (disch := omega) only [g_upd_ne, g_upd_eq]; first | with_reducible assumption | with_reducible omega | decide) | exact Or.inl rfl | exact Or.inr rfl) (by first | decide | with_reducible assumption | with_reducible omega | (simp (disch := omega) only [g_upd_ne, g_upd_eq]; first | with_reducible assumption | with_reducible omega | decide) | exact Or.inl rfl | exact Or.inr rfl)) LX8_91 obj_124 rfl rfl rfl dX8_sets_29 rfl rfl ?_
    exact r_vret O dX8_sets_32 (Nat.le_of_ble_eq_true rfl) (Nat.le_of_ble_eq_true rfl) rfl
  refine r_icmp_ge O 23 dX8_sets_16 (by decide) (fun c_16 => ?_) (fun c_16 => ?_)
  · have e_16 : (s (58 + 9 * x1.toNatClampNeg + 1)).toInt ≤ (x2).toInt := j_le c_16
    refine r_iload_n O 2 dX8_sets_23 rfl rfl ?_
    refine r_iconst (x := 1) O dX8_sets_24 rfl ?_
    refine r_isub O dX8_sets_25 ?_
    refine r_sub [] rfl ?_
    have ix_26_t0_26 : (x2 - 1).toInt = (x2.toInt - (1 : Int)) := (j_subE rfl rfl (by with_reducible omega) (by with_reducible omega))
    exact J_26 (x2 - 1) (by first | decide | with_reducible assumption | with_reducible omega | (simp (disch := omega) only [g_upd_ne, g_upd_eq]; first | with_reducible assumption | with_reducible omega | decide) | exact Or.inl rfl | exact Or.inr rfl) (by first | decide | with_reducible assumption | with_reducible omega | (simp (disch := omega) only [g_upd_ne, g_upd_eq]; first | with_reducible assumption | with_reducible omega | decide) | exact Or.inl rfl | exact Or.inr rfl)
  · have e_16 : (x2).toInt < (s (58 + 9 * x1.toNatClampNeg + 1)).toInt := j_nle c_16
    refine r_iload_n O 2 dX8_sets_19 rfl rfl ?_
    refine r_goto O 26 dX8_sets_20 (by decide) ?_
    refine r_sub [] rfl ?_
    exact J_26 x2 (by first | decide | with_reducible assumption | with_reducible omega | (simp (disch := omega) only [g_upd_ne, g_upd_eq]; first | with_reducible assumption | with_reducible omega | decide) | exact Or.inl rfl | exact Or.inr rfl) (by first | decide | with_reducible assumption | with_reducible omega | (simp (disch := omega) only [g_upd_ne, g_upd_eq]; first | with_reducible assumption | with_reducible omega | decide) | exact Or.inl rfl | exact Or.inr rfl)
theorem met_X8_sets (l : Launch) (hs : l.stackTraces = false) (lm : Nat → Int64) (pm : Nat → Nat) (m : Nat → Int32) (s : Nat → Int32) (x1 : Int32) (x2 : Int32) (p0 : 0 ≤ x1.toInt) (p1 : x1.toInt < 6) (p2 : 0 ≤ x2.toInt) (p3 : x2.toInt ≤ 8) : g_SM l yX8_sets cX8_sets 3 none ({ frames := 2, cells := 0, slots := 0, locals := 47 } : Room) (fun ad => [.ref (ad 124), .int x1, .int x2]) m (s, lm, pm) ((fun r : Nat → Int32 => ((.inl none, (m, r, lm, pm)) : g_Res)) (R_X8_sets s x1 x2)) :=
  g_sm_of (by decide) (fun _ => Nat.le_of_ble_eq_true rfl) hs (fun X hl hn O => walk_X8_sets O (by rw [hl]; exact hs) hn p0 p1 p2 p3)
def R_X8_gives (s : Nat → Int32) (x1 : Int32) (x2 : Int32) : (Nat → Int32) := (upd (upd (upd s (((34 + (3 * x1)) + 1).toNatClampNeg) 1) (((34 + (3 * x1)) + 2).toNatClampNeg) x2) (58 + 9 * x2.toNatClampNeg + 5) x1)
set_option maxRecDepth 100000 in
set_option maxHeartbeats 4000000 in
theorem walk_X8_gives {X : g_X} (O : g_ok X cX8_gives RX8 none ({ frames := 1, cells := 0, slots := 0, locals := 23 } : Room)) (hs : (g_xl X).stackTraces = false) (hn : g_xn X = 3) {m : Nat → Int32} {lm : Nat → Int64} {pm : Nat → Nat} {s : Nat → Int32} {x1 : Int32} {x2 : Int32} (p0 : 0 ≤ x1.toInt) (p1 : x1.toInt < 8) (p2 : 0 ≤ x2.toInt) (p3 : x2.toInt < 6) : g_V X (fun r : Nat → Int32 => ((.inl none, (m, r, lm, pm)) : g_Res)) (R_X8_gives s x1 x2) 0 0 m (s, lm, pm) 0 [(0, .ref (g_ad X 124)), (1, .int x1), (2, .int x2)] [] := by
  have hN : ∀ i, Nat.blt i 3 = true → i < g_xn X := fun i h => by rw [hn]; exact g_blt.mp h
  refine r_aload_n O 0 dX8_gives_0 rfl rfl ?_
  refine r_get O FX8_7 G_124_0 dX8_gives_1 ?_
  refine r_bipush (x := 34) O dX8_gives_4 rfl ?_
  refine r_iconst (x := 3) O dX8_gives_6 rfl ?_
  refine r_iload_n O 1 dX8_gives_7 rfl rfl ?_
  refine r_imul O dX8_gives_8 ?_
  refine r_iadd O dX8_gives_9 ?_
  refine r_iconst (x := 1) O dX8_gives_10 rfl ?_
  refine r_iadd O dX8_gives_11 ?_
  refine r_iconst (x := 1) O dX8_gives_12 rfl ?_
  have ix_13 : ((34 + (3 * x1)) + 1).toInt = (((34 : Int) + ((3 : Int) * x1.toInt)) + (1 : Int)) := (j_addE (j_addE rfl (j_mulE rfl rfl (by with_reducible omega) (by with_reducible omega)) (by with_reducible omega) (by with_reducible omega)) rfl (by with_reducible omega) (by with_reducible omega))
  have iy_13 := j_nat (x := ((34 + (3 * x1)) + 1)) (by with_reducible omega)
  refine r_iastM O T_125 (show vp_in ((34 + (3 * x1)) + 1) 178 from g_vin (by with_reducible omega) (by with_reducible omega)) dX8_gives_13 ?_
  refine r_aload_n O 0 dX8_gives_14 rfl rfl ?_
  refine r_get O FX8_7 G_124_0 dX8_gives_15 ?_
  refine r_bipush (x := 34) O dX8_gives_18 rfl ?_
  refine r_iconst (x := 3) O dX8_gives_20 rfl ?_
  refine r_iload_n O 1 dX8_gives_21 rfl rfl ?_
  refine r_imul O dX8_gives_22 ?_
  refine r_iadd O dX8_gives_23 ?_
  refine r_iconst (x := 2) O dX8_gives_24 rfl ?_
  refine r_iadd O dX8_gives_25 ?_
  refine r_iload_n O 2 dX8_gives_26 rfl rfl ?_
  have ix_27 : ((34 + (3 * x1)) + 2).toInt = (((34 : Int) + ((3 : Int) * x1.toInt)) + (2 : Int)) := (j_addE (j_addE rfl (j_mulE rfl rfl (by with_reducible omega) (by with_reducible omega)) (by with_reducible omega) (by with_reducible omega)) rfl (by with_reducible omega) (by with_reducible omega))
  have iy_27 := j_nat (x := ((34 + (3 * x1)) + 2)) (by with_reducible omega)
  refine r_iastM O T_125 (show vp_in ((34 + (3 * x1)) + 2) 178 from g_vin (by with_reducible omega) (by with_reducible omega)) dX8_gives_27 ?_
  refine r_aload_n O 0 dX8_gives_28 rfl rfl ?_
  refine r_iload_n O 2 dX8_gives_29 rfl rfl ?_
  refine r_iconst (x := 5) O dX8_gives_30 rfl ?_
  refine r_iload_n O 1 dX8_gives_31 rfl rfl ?_
  refine r_callVv O [.int x2, .int 5, .int x1] [] (metn_X8_lays (g_xl X) hs lm pm m (upd (upd s (((34 + (3 * x1)) + 1).toNatClampNeg) 1) (((34 + (3 * x1)) + 2).toNatClampNeg) x2) x2 5 x1 (by first | decide | with_reducible assumption | with_reducible omega | (simp (disch := omega) only [g_upd_ne, g_upd_eq]; first | with_reducible assumption | with_reducible omega | decide) | exact Or.inl rfl | exact Or.inr rfl) (by first | decide | with_reducible assumption | with_reducible omega | (simp (disch := omega) only [g_upd_ne, g_upd_eq]; first | with_reducible assumption | with_reducible omega | decide) | exact Or.inl rfl | exact Or.inr rfl) (by decide)) LX8_76 obj_124 rfl rfl rfl dX8_gives_32 rfl rfl ?_
  exact r_vret O dX8_gives_35 (Nat.le_of_ble_eq_true rfl) (Nat.le_of_ble_eq_true rfl) rfl
theorem met_X8_gives (l : Launch) (hs : l.stackTraces = false) (lm : Nat → Int64) (pm : Nat → Nat) (m : Nat → Int32) (s : Nat → Int32) (x1 : Int32) (x2 : Int32) (p0 : 0 ≤ x1.toInt) (p1 : x1.toInt < 8) (p2 : 0 ≤ x2.toInt) (p3 : x2.toInt < 6) : g_SM l yX8_gives cX8_gives 3 none ({ frames := 1, cells := 0, slots := 0, locals := 23 } : Room) (fun ad => [.ref (ad 124), .int x1, .int x2]) m (s, lm, pm) ((fun r : Nat → Int32 => ((.inl none, (m, r, lm, pm)) : g_Res)) (R_X8_gives s x1 x2)) :=
  g_sm_of (by decide) (fun _ => Nat.le_of_ble_eq_true rfl) hs (fun X hl hn O => walk_X8_gives O (by rw [hl]; exact hs) hn p0 p1 p2 p3)
def R_X8_leaves (s : Nat → Int32) (x1 : Int32) (x2 : Int32) (x3 : Int32) : (Nat → Int32) := (upd (upd (upd s (((34 + (3 * (s (58 + 9 * x1.toNatClampNeg + 5)))) + 1).toNatClampNeg) x2) (((34 + (3 * (s (58 + 9 * x1.toNatClampNeg + 5)))) + 2).toNatClampNeg) x3) (58 + 9 * x1.toNatClampNeg + 5) (-1))
set_option maxRecDepth 100000 in
set_option maxHeartbeats 4000000 in
theorem walk_X8_leaves {X : g_X} (O : g_ok X cX8_leaves RX8 none ({ frames := 1, cells := 0, slots := 0, locals := 23 } : Room)) (hs : (g_xl X).stackTraces = false) (hn : g_xn X = 5) {m : Nat → Int32} {lm : Nat → Int64} {pm : Nat → Nat} {s : Nat → Int32} {x1 : Int32} {x2 : Int32} {x3 : Int32} (p0 : 0 ≤ x1.toInt) (p1 : x1.toInt < 6) (p2 : -1 ≤ (s (58 + 9 * x1.toNatClampNeg + 5)).toInt) (p3 : (s (58 + 9 * x1.toNatClampNeg + 5)).toInt ≤ 7) : g_V X (fun r : Nat → Int32 => ((.inl none, (m, r, lm, pm)) : g_Res)) (R_X8_leaves s x1 x2 x3) 0 0 m (s, lm, pm) 0 [(0, .ref (g_ad X 124)), (1, .int x1), (2, .int x2), (3, .int x3)] [] := by
  have hN : ∀ i, Nat.blt i 5 = true → i < g_xn X := fun i h => by rw [hn]; exact g_blt.mp h
  refine r_aload_n O 0 dX8_leaves_0 rfl rfl ?_
  refine r_iload_n O 1 dX8_leaves_1 rfl rfl ?_
  refine r_iconst (x := 5) O dX8_leaves_2 rfl ?_
  refine r_callVi O [.int x1, .int 5] [] (metn_X8_of (g_xl X) hs lm pm m s x1 5 (by first | decide | with_reducible assumption | with_reducible omega | (simp (disch := omega) only [g_upd_ne, g_upd_eq]; first | with_reducible assumption | with_reducible omega | decide) | exact Or.inl rfl | exact Or.inr rfl) (by first | decide | with_reducible assumption | with_reducible omega | (simp (disch := omega) only [g_upd_ne, g_upd_eq]; first | with_reducible assumption | with_reducible omega | decide) | exact Or.inl rfl | exact Or.inr rfl) (by decide)) LX8_37 obj_124 rfl rfl rfl dX8_leaves_3 rfl rfl ?_
  refine r_istore (lc' := [(4, .int (s (58 + 9 * x1.toNatClampNeg + 5))), (0, .ref (g_ad X 124)), (1, .int x1), (2, .int x2), (3, .int x3)]) O dX8_leaves_6 (hN 4 rfl) rfl ?_
  refine r_aload_n O 1 dX8_leaves_8 rfl rfl ?_
  refine r_get O FX8_7 G_124_0 dX8_leaves_9 ?_
  refine r_bipush (x := 34) O dX8_leaves_12 rfl ?_
  refine r_iconst (x := 3) O dX8_leaves_14 rfl ?_
  refine r_iload O 0 dX8_leaves_15 rfl ?_
  refine r_imul O dX8_leaves_17 ?_
  refine r_iadd O dX8_leaves_18 ?_
  refine r_iconst (x := 1) O dX8_leaves_19 rfl ?_
  refine r_iadd O dX8_leaves_20 ?_
  refine r_iload_n O 3 dX8_leaves_21 rfl rfl ?_
  have ix_22 : ((34 + (3 * (s (58 + 9 * x1.toNatClampNeg + 5)))) + 1).toInt = (((34 : Int) + ((3 : Int) * (s (58 + 9 * x1.toNatClampNeg + 5)).toInt)) + (1 : Int)) := (j_addE (j_addE rfl (j_mulE rfl rfl (by with_reducible omega) (by with_reducible omega)) (by with_reducible omega) (by with_reducible omega)) rfl (by with_reducible omega) (by with_reducible omega))
  have iy_22 := j_nat (x := ((34 + (3 * (s (58 + 9 * x1.toNatClampNeg + 5)))) + 1)) (by with_reducible omega)
  refine r_iastM O T_125 (show vp_in ((34 + (3 * (s (58 + 9 * x1.toNatClampNeg + 5)))) + 1) 178 from g_vin (by with_reducible omega) (by with_reducible omega)) dX8_leaves_22 ?_
  refine r_aload_n O 1 dX8_leaves_23 rfl rfl ?_
  refine r_get O FX8_7 G_124_0 dX8_leaves_24 ?_
  refine r_bipush (x := 34) O dX8_leaves_27 rfl ?_
  refine r_iconst (x := 3) O dX8_leaves_29 rfl ?_
  refine r_iload O 0 dX8_leaves_30 rfl ?_
  refine r_imul O dX8_leaves_32 ?_
  refine r_iadd O dX8_leaves_33 ?_
  refine r_iconst (x := 2) O dX8_leaves_34 rfl ?_
  refine r_iadd O dX8_leaves_35 ?_
  refine r_iload_n O 4 dX8_leaves_36 rfl rfl ?_
  have ix_37 : ((34 + (3 * (s (58 + 9 * x1.toNatClampNeg + 5)))) + 2).toInt = (((34 : Int) + ((3 : Int) * (s (58 + 9 * x1.toNatClampNeg + 5)).toInt)) + (2 : Int)) := (j_addE (j_addE rfl (j_mulE rfl rfl (by with_reducible omega) (by with_reducible omega)) (by with_reducible omega) (by with_reducible omega)) rfl (by with_reducible omega) (by with_reducible omega))
  have iy_37 := j_nat (x := ((34 + (3 * (s (58 + 9 * x1.toNatClampNeg + 5)))) + 2)) (by with_reducible omega)
  refine r_iastM O T_125 (show vp_in ((34 + (3 * (s (58 + 9 * x1.toNatClampNeg + 5)))) + 2) 178 from g_vin (by with_reducible omega) (by with_reducible omega)) dX8_leaves_37 ?_
  refine r_aload_n O 1 dX8_leaves_38 rfl rfl ?_
  refine r_iload_n O 2 dX8_leaves_39 rfl rfl ?_
  refine r_iconst (x := 5) O dX8_leaves_40 rfl ?_
  refine r_iconst (x := (-1)) O dX8_leaves_41 rfl ?_
  refine r_callVv O [.int x1, .int 5, .int (-1)] [] (metn_X8_lays (g_xl X) hs lm pm m (upd (upd s (((34 + (3 * (s (58 + 9 * x1.toNatClampNeg + 5)))) + 1).toNatClampNeg) x2) (((34 + (3 * (s (58 + 9 * x1.toNatClampNeg + 5)))) + 2).toNatClampNeg) x3) x1 5 (-1) (by first | decide | with_reducible assumption | with_reducible omega | (simp (disch := omega) only [g_upd_ne, g_upd_eq]; first | with_reducible assumption | with_reducible omega | decide) | exact Or.inl rfl | exact Or.inr rfl) (by first | decide | with_reducible assumption | with_reducible omega | (simp (disch := omega) only [g_upd_ne, g_upd_eq]; first | with_reducible assumption | with_reducible omega | decide) | exact Or.inl rfl | exact Or.inr rfl) (by decide)) LX8_76 obj_124 rfl rfl rfl dX8_leaves_42 rfl rfl ?_
  exact r_vret O dX8_leaves_45 (Nat.le_of_ble_eq_true rfl) (Nat.le_of_ble_eq_true rfl) rfl
theorem met_X8_leaves (l : Launch) (hs : l.stackTraces = false) (lm : Nat → Int64) (pm : Nat → Nat) (m : Nat → Int32) (s : Nat → Int32) (x1 : Int32) (x2 : Int32) (x3 : Int32) (p0 : 0 ≤ x1.toInt) (p1 : x1.toInt < 6) (p2 : -1 ≤ (s (58 + 9 * x1.toNatClampNeg + 5)).toInt) (p3 : (s (58 + 9 * x1.toNatClampNeg + 5)).toInt ≤ 7) : g_SM l yX8_leaves cX8_leaves 5 none ({ frames := 1, cells := 0, slots := 0, locals := 23 } : Room) (fun ad => [.ref (ad 124), .int x1, .int x2, .int x3]) m (s, lm, pm) ((fun r : Nat → Int32 => ((.inl none, (m, r, lm, pm)) : g_Res)) (R_X8_leaves s x1 x2 x3)) :=
  g_sm_of (by decide) (fun _ => Nat.le_of_ble_eq_true rfl) hs (fun X hl hn O => walk_X8_leaves O (by rw [hl]; exact hs) hn p0 p1 p2 p3)
def R_X8_holdsAt (s : Nat → Int32) (x1 : Int32) (x2 : Int32) : Int32 := (if (s ((34 + (3 * x1)).toNatClampNeg)) < ((s ((13 + x2).toNatClampNeg)) + 3) then 0 else 1)
set_option maxRecDepth 100000 in
set_option maxHeartbeats 4000000 in
theorem walk_X8_holdsAt {X : g_X} (O : g_ok X cX8_holdsAt RX8 (some .boolean) ({ frames := 0, cells := 0, slots := 0, locals := 0 } : Room)) (hs : (g_xl X).stackTraces = false) (hn : g_xn X = 3) {m : Nat → Int32} {lm : Nat → Int64} {pm : Nat → Nat} {s : Nat → Int32} {x1 : Int32} {x2 : Int32} (p0 : -1 ≤ x1.toInt) (p1 : x1.toInt ≤ 7) (p2 : -1 ≤ x2.toInt) (p3 : x2.toInt ≤ 7) : g_V X (fun r : Int32 => ((.inl (some (.int r)), (m, s, lm, pm)) : g_Res)) (R_X8_holdsAt s x1 x2) 0 0 m (s, lm, pm) 0 [(0, .ref (g_ad X 124)), (1, .int x1), (2, .int x2)] [] := by
  have hN : ∀ i, Nat.blt i 3 = true → i < g_xn X := fun i h => by rw [hn]; exact g_blt.mp h
  refine r_aload_n O 0 dX8_holdsAt_0 rfl rfl ?_
  refine r_get O FX8_7 G_124_0 dX8_holdsAt_1 ?_
  refine r_bipush (x := 34) O dX8_holdsAt_4 rfl ?_
  refine r_iconst (x := 3) O dX8_holdsAt_6 rfl ?_
  refine r_iload_n O 1 dX8_holdsAt_7 rfl rfl ?_
  refine r_imul O dX8_holdsAt_8 ?_
  refine r_iadd O dX8_holdsAt_9 ?_
  have ix_10 : (34 + (3 * x1)).toInt = ((34 : Int) + ((3 : Int) * x1.toInt)) := (j_addE rfl (j_mulE rfl rfl (by with_reducible omega) (by with_reducible omega)) (by with_reducible omega) (by with_reducible omega))
  have iy_10 := j_nat (x := (34 + (3 * x1))) (by with_reducible omega)
  refine r_iald O R_125 (show vp_in (34 + (3 * x1)) 178 from g_vin (by with_reducible omega) (by with_reducible omega)) dX8_holdsAt_10 ?_
  refine r_aload_n O 0 dX8_holdsAt_11 rfl rfl ?_
  refine r_get O FX8_7 G_124_0 dX8_holdsAt_12 ?_
  refine r_bipush (x := 13) O dX8_holdsAt_15 rfl ?_
  refine r_iload_n O 2 dX8_holdsAt_17 rfl rfl ?_
  refine r_iadd O dX8_holdsAt_18 ?_
  have ix_19 : (13 + x2).toInt = ((13 : Int) + x2.toInt) := (j_addE rfl rfl (by with_reducible omega) (by with_reducible omega))
  have iy_19 := j_nat (x := (13 + x2)) (by with_reducible omega)
  refine r_iald O R_125 (show vp_in (13 + x2) 178 from g_vin (by with_reducible omega) (by with_reducible omega)) dX8_holdsAt_19 ?_
  refine r_iconst (x := 3) O dX8_holdsAt_20 rfl ?_
  refine r_iadd O dX8_holdsAt_21 ?_
  refine r_icmp_lt O 29 dX8_holdsAt_22 (by decide) (fun c_22 => ?_) (fun c_22 => ?_)
  · have e_22 : (s ((34 + (3 * x1)).toNatClampNeg)).toInt < ((s ((13 + x2).toNatClampNeg)) + 3).toInt := j_lt c_22
    refine r_iconst (x := 0) O dX8_holdsAt_29 rfl ?_
    exact r_iret O dX8_holdsAt_30 rfl (Nat.le_of_ble_eq_true rfl) (Nat.le_of_ble_eq_true rfl) rfl
  · have e_22 : ((s ((13 + x2).toNatClampNeg)) + 3).toInt ≤ (s ((34 + (3 * x1)).toNatClampNeg)).toInt := j_nlt c_22
    refine r_iconst (x := 1) O dX8_holdsAt_25 rfl ?_
    refine r_goto O 30 dX8_holdsAt_26 (by decide) ?_
    exact r_iret O dX8_holdsAt_30 rfl (Nat.le_of_ble_eq_true rfl) (Nat.le_of_ble_eq_true rfl) rfl
theorem met_X8_holdsAt (l : Launch) (hs : l.stackTraces = false) (lm : Nat → Int64) (pm : Nat → Nat) (m : Nat → Int32) (s : Nat → Int32) (x1 : Int32) (x2 : Int32) (p0 : -1 ≤ x1.toInt) (p1 : x1.toInt ≤ 7) (p2 : -1 ≤ x2.toInt) (p3 : x2.toInt ≤ 7) : g_SM l yX8_holdsAt cX8_holdsAt 3 (some .boolean) ({ frames := 0, cells := 0, slots := 0, locals := 0 } : Room) (fun ad => [.ref (ad 124), .int x1, .int x2]) m (s, lm, pm) ((fun r : Int32 => ((.inl (some (.int r)), (m, s, lm, pm)) : g_Res)) (R_X8_holdsAt s x1 x2)) :=
  g_sm_of (by decide) (fun _ => Nat.le_of_ble_eq_true rfl) hs (fun X hl hn O => walk_X8_holdsAt O (by rw [hl]; exact hs) hn p0 p1 p2 p3)
def R_X8_isCarryable (s : Nat → Int32) : Int32 := (if (s (5)) = 0 then (if (s (4)) ≤ 0 then 0 else (if (R_X8_isShut s ((s (4)) - 1)) = 0 then 1 else 0)) else 0)
set_option maxRecDepth 100000 in
set_option maxHeartbeats 4000000 in
theorem walk_X8_isCarryable {X : g_X} (O : g_ok X cX8_isCarryable RX8 (some .boolean) ({ frames := 1, cells := 0, slots := 0, locals := 21 } : Room)) (hs : (g_xl X).stackTraces = false) (hn : g_xn X = 1) {m : Nat → Int32} {lm : Nat → Int64} {pm : Nat → Nat} {s : Nat → Int32} (p0 : 0 ≤ (s 4).toInt) (p1 : (s 4).toInt ≤ 7) : g_V X (fun r : Int32 => ((.inl (some (.int r)), (m, s, lm, pm)) : g_Res)) (R_X8_isCarryable s) 0 0 m (s, lm, pm) 0 [(0, .ref (g_ad X 124))] [] := by
  have hN : ∀ i, Nat.blt i 1 = true → i < g_xn X := fun i h => by rw [hn]; exact g_blt.mp h
  refine r_aload_n O 0 dX8_isCarryable_0 rfl rfl ?_
  refine r_get O FX8_7 G_124_0 dX8_isCarryable_1 ?_
  refine r_iconst (x := 5) O dX8_isCarryable_4 rfl ?_
  refine r_iald O R_125 (g_vin (by decide) (by decide)) dX8_isCarryable_5 ?_
  refine r_if_ne O 37 dX8_isCarryable_6 (by decide) (fun c_6 => ?_) (fun c_6 => ?_)
  · have e_6 : (s (5)).toInt = (0 : Int) := j_eqR c_6 rfl
    refine r_aload_n O 0 dX8_isCarryable_9 rfl rfl ?_
    refine r_get O FX8_7 G_124_0 dX8_isCarryable_10 ?_
    refine r_iconst (x := 4) O dX8_isCarryable_13 rfl ?_
    refine r_iald O R_125 (g_vin (by decide) (by decide)) dX8_isCarryable_14 ?_
    refine r_if_le O 37 dX8_isCarryable_15 (by decide) (fun c_15 => ?_) (fun c_15 => ?_)
    · have e_15 : (s (4)).toInt ≤ (0 : Int) := j_leR c_15 rfl
      refine r_iconst (x := 0) O dX8_isCarryable_37 rfl ?_
      exact r_iret O dX8_isCarryable_38 rfl (Nat.le_of_ble_eq_true rfl) (Nat.le_of_ble_eq_true rfl) rfl
    · have e_15 : (0 : Int) < (s (4)).toInt := j_nleR c_15 rfl
      refine r_aload_n O 0 dX8_isCarryable_18 rfl rfl ?_
      refine r_aload_n O 0 dX8_isCarryable_19 rfl rfl ?_
      refine r_get O FX8_7 G_124_0 dX8_isCarryable_20 ?_
      refine r_iconst (x := 4) O dX8_isCarryable_23 rfl ?_
      refine r_iald O R_125 (g_vin (by decide) (by decide)) dX8_isCarryable_24 ?_
      refine r_iconst (x := 1) O dX8_isCarryable_25 rfl ?_
      refine r_isub O dX8_isCarryable_26 ?_
      have ix_27x1 : ((s (4)) - 1).toInt = ((s (4)).toInt - (1 : Int)) := (j_subE rfl rfl (by with_reducible omega) (by with_reducible omega))
      refine r_callVi O [.int ((s (4)) - 1)] [] (met_X8_isShut (g_xl X) hs lm pm m s ((s (4)) - 1) (by first | decide | with_reducible assumption | with_reducible omega | (simp (disch := omega) only [g_upd_ne, g_upd_eq]; first | with_reducible assumption | with_reducible omega | decide) | exact Or.inl rfl | exact Or.inr rfl) (by first | decide | with_reducible assumption | with_reducible omega | (simp (disch := omega) only [g_upd_ne, g_upd_eq]; first | with_reducible assumption | with_reducible omega | decide) | exact Or.inl rfl | exact Or.inr rfl)) LX8_44 obj_124 rfl rfl rfl dX8_isCarryable_27 rfl rfl ?_
      refine r_if_ne O 37 dX8_isCarryable_30 (by decide) (fun c_30 => ?_) (fun c_30 => ?_)
      · have e_30 : (R_X8_isShut s ((s (4)) - 1)).toInt = (0 : Int) := j_eqR c_30 rfl
        refine r_iconst (x := 1) O dX8_isCarryable_33 rfl ?_
        refine r_goto O 38 dX8_isCarryable_34 (by decide) ?_
        exact r_iret O dX8_isCarryable_38 rfl (Nat.le_of_ble_eq_true rfl) (Nat.le_of_ble_eq_true rfl) rfl
      · have e_30 : (R_X8_isShut s ((s (4)) - 1)).toInt ≠ (0 : Int) := j_neR c_30 rfl
        refine r_iconst (x := 0) O dX8_isCarryable_37 rfl ?_
        exact r_iret O dX8_isCarryable_38 rfl (Nat.le_of_ble_eq_true rfl) (Nat.le_of_ble_eq_true rfl) rfl
  · have e_6 : (s (5)).toInt ≠ (0 : Int) := j_neR c_6 rfl
    refine r_iconst (x := 0) O dX8_isCarryable_37 rfl ?_
    exact r_iret O dX8_isCarryable_38 rfl (Nat.le_of_ble_eq_true rfl) (Nat.le_of_ble_eq_true rfl) rfl
theorem met_X8_isCarryable (l : Launch) (hs : l.stackTraces = false) (lm : Nat → Int64) (pm : Nat → Nat) (m : Nat → Int32) (s : Nat → Int32) (p0 : 0 ≤ (s 4).toInt) (p1 : (s 4).toInt ≤ 7) : g_SM l yX8_isCarryable cX8_isCarryable 1 (some .boolean) ({ frames := 1, cells := 0, slots := 0, locals := 21 } : Room) (fun ad => [.ref (ad 124)]) m (s, lm, pm) ((fun r : Int32 => ((.inl (some (.int r)), (m, s, lm, pm)) : g_Res)) (R_X8_isCarryable s)) :=
  g_sm_of (by decide) (fun _ => Nat.le_of_ble_eq_true rfl) hs (fun X hl hn O => walk_X8_isCarryable O (by rw [hl]; exact hs) hn p0 p1)
def R_X8_canCarry (s : Nat → Int32) (x1 : Int32) : Int32 := (if (R_X8_stands s x1) = 0 then 0 else (if (s (58 + 9 * x1.toNatClampNeg + 1)) = (s (4)) then (if 100 < ((s (58 + 9 * x1.toNatClampNeg + 6)) + (2 * (3 * (s (((20 + (s (4))) - 1).toNatClampNeg))))) then 0 else (if (R_X8_isInTime s x1 ((s (4)) - 1) (3 * (s (((20 + (s (4))) - 1).toNatClampNeg)))) = 0 then 0 else 1)) else 0))
set_option maxRecDepth 100000 in
set_option maxHeartbeats 4000000 in
theorem walk_X8_canCarry {X : g_X} (O : g_ok X cX8_canCarry RX8 (some .boolean) ({ frames := 3, cells := 0, slots := 0, locals := 67 } : Room)) (hs : (g_xl X).stackTraces = false) (hn : g_xn X = 4) {m : Nat → Int32} {lm : Nat → Int64} {pm : Nat → Nat} {s : Nat → Int32} {x1 : Int32} (p0 : 0 ≤ x1.toInt) (p1 : x1.toInt < 6) (p2 : 0 ≤ (s 4).toInt) (p3 : (s 4).toInt ≤ 7) : g_V X (fun r : Int32 => ((.inl (some (.int r)), (m, s, lm, pm)) : g_Res)) (R_X8_canCarry s x1) 0 0 m (s, lm, pm) 0 [(0, .ref (g_ad X 124)), (1, .int x1)] [] := by
  have hN : ∀ i, Nat.blt i 4 = true → i < g_xn X := fun i h => by rw [hn]; exact g_blt.mp h
  refine r_aload_n O 0 dX8_canCarry_0 rfl rfl ?_
  refine r_get O FX8_7 G_124_0 dX8_canCarry_1 ?_
  refine r_iconst (x := 4) O dX8_canCarry_4 rfl ?_
  refine r_iald O R_125 (g_vin (by decide) (by decide)) dX8_canCarry_5 ?_
  refine r_istore_n (lc' := [(2, .int (s (4))), (0, .ref (g_ad X 124)), (1, .int x1)]) O dX8_canCarry_6 rfl (hN 2 rfl) rfl ?_
  refine r_iconst (x := 3) O dX8_canCarry_7 rfl ?_
  refine r_aload_n O 1 dX8_canCarry_8 rfl rfl ?_
  refine r_get O FX8_7 G_124_0 dX8_canCarry_9 ?_
  refine r_bipush (x := 20) O dX8_canCarry_12 rfl ?_
  refine r_iload_n O 0 dX8_canCarry_14 rfl rfl ?_
  refine r_iadd O dX8_canCarry_15 ?_
  refine r_iconst (x := 1) O dX8_canCarry_16 rfl ?_
  refine r_isub O dX8_canCarry_17 ?_
  have ix_18 : ((20 + (s (4))) - 1).toInt = (((20 : Int) + (s (4)).toInt) - (1 : Int)) := (j_subE (j_addE rfl rfl (by with_reducible omega) (by with_reducible omega)) rfl (by with_reducible omega) (by with_reducible omega))
  have iy_18 := j_nat (x := ((20 + (s (4))) - 1)) (by with_reducible omega)
  refine r_iald O R_125 (show vp_in ((20 + (s (4))) - 1) 178 from g_vin (by with_reducible omega) (by with_reducible omega)) dX8_canCarry_18 ?_
  refine r_imul O dX8_canCarry_19 ?_
  refine r_istore_n (lc' := [(3, .int (3 * (s (((20 + (s (4))) - 1).toNatClampNeg)))), (2, .int (s (4))), (0, .ref (g_ad X 124)), (1, .int x1)]) O dX8_canCarry_20 rfl (hN 3 rfl) rfl ?_
  refine r_aload_n O 2 dX8_canCarry_21 rfl rfl ?_
  refine r_iload_n O 3 dX8_canCarry_22 rfl rfl ?_
  refine r_callVi O [.int x1] [] (met_X8_stands (g_xl X) hs lm pm m s x1 (by first | decide | with_reducible assumption | with_reducible omega | (simp (disch := omega) only [g_upd_ne, g_upd_eq]; first | with_reducible assumption | with_reducible omega | decide) | exact Or.inl rfl | exact Or.inr rfl) (by first | decide | with_reducible assumption | with_reducible omega | (simp (disch := omega) only [g_upd_ne, g_upd_eq]; first | with_reducible assumption | with_reducible omega | decide) | exact Or.inl rfl | exact Or.inr rfl)) LX8_81 obj_124 rfl rfl rfl dX8_canCarry_23 rfl rfl ?_
  refine r_if_eq O 71 dX8_canCarry_26 (by decide) (fun c_26 => ?_) (fun c_26 => ?_)
  · have e_26 : (R_X8_stands s x1).toInt = (0 : Int) := j_eqR c_26 rfl
    refine r_iconst (x := 0) O dX8_canCarry_71 rfl ?_
    exact r_iret O dX8_canCarry_72 rfl (Nat.le_of_ble_eq_true rfl) (Nat.le_of_ble_eq_true rfl) rfl
  · have e_26 : (R_X8_stands s x1).toInt ≠ (0 : Int) := j_neR c_26 rfl
    refine r_aload_n O 2 dX8_canCarry_29 rfl rfl ?_
    refine r_iload_n O 3 dX8_canCarry_30 rfl rfl ?_
    refine r_iconst (x := 1) O dX8_canCarry_31 rfl ?_
    refine r_callVi O [.int x1, .int 1] [] (metn_X8_of (g_xl X) hs lm pm m s x1 1 (by first | decide | with_reducible assumption | with_reducible omega | (simp (disch := omega) only [g_upd_ne, g_upd_eq]; first | with_reducible assumption | with_reducible omega | decide) | exact Or.inl rfl | exact Or.inr rfl) (by first | decide | with_reducible assumption | with_reducible omega | (simp (disch := omega) only [g_upd_ne, g_upd_eq]; first | with_reducible assumption | with_reducible omega | decide) | exact Or.inl rfl | exact Or.inr rfl) (by decide)) LX8_37 obj_124 rfl rfl rfl dX8_canCarry_32 rfl rfl ?_
    refine r_iload_n O 1 dX8_canCarry_35 rfl rfl ?_
    refine r_icmp_ne O 71 dX8_canCarry_36 (by decide) (fun c_36 => ?_) (fun c_36 => ?_)
    · have e_36 : (s (58 + 9 * x1.toNatClampNeg + 1)).toInt = (s (4)).toInt := j_eq c_36
      refine r_aload_n O 2 dX8_canCarry_39 rfl rfl ?_
      refine r_iload_n O 3 dX8_canCarry_40 rfl rfl ?_
      refine r_bipush (x := 6) O dX8_canCarry_41 rfl ?_
      refine r_callVi O [.int x1, .int 6] [] (metn_X8_of (g_xl X) hs lm pm m s x1 6 (by first | decide | with_reducible assumption | with_reducible omega | (simp (disch := omega) only [g_upd_ne, g_upd_eq]; first | with_reducible assumption | with_reducible omega | decide) | exact Or.inl rfl | exact Or.inr rfl) (by first | decide | with_reducible assumption | with_reducible omega | (simp (disch := omega) only [g_upd_ne, g_upd_eq]; first | with_reducible assumption | with_reducible omega | decide) | exact Or.inl rfl | exact Or.inr rfl) (by decide)) LX8_37 obj_124 rfl rfl rfl dX8_canCarry_43 rfl rfl ?_
      refine r_iconst (x := 2) O dX8_canCarry_46 rfl ?_
      refine r_iload_n O 0 dX8_canCarry_47 rfl rfl ?_
      refine r_imul O dX8_canCarry_48 ?_
      refine r_iadd O dX8_canCarry_49 ?_
      refine r_bipush (x := 100) O dX8_canCarry_50 rfl ?_
      refine r_icmp_gt O 71 dX8_canCarry_52 (by decide) (fun c_52 => ?_) (fun c_52 => ?_)
      · have e_52 : (100 : Int) < ((s (58 + 9 * x1.toNatClampNeg + 6)) + (2 * (3 * (s (((20 + (s (4))) - 1).toNatClampNeg))))).toInt := j_ltL c_52 rfl
        refine r_iconst (x := 0) O dX8_canCarry_71 rfl ?_
        exact r_iret O dX8_canCarry_72 rfl (Nat.le_of_ble_eq_true rfl) (Nat.le_of_ble_eq_true rfl) rfl
      · have e_52 : ((s (58 + 9 * x1.toNatClampNeg + 6)) + (2 * (3 * (s (((20 + (s (4))) - 1).toNatClampNeg))))).toInt ≤ (100 : Int) := j_nltL c_52 rfl
        refine r_aload_n O 2 dX8_canCarry_55 rfl rfl ?_
        refine r_iload_n O 3 dX8_canCarry_56 rfl rfl ?_
        refine r_iload_n O 1 dX8_canCarry_57 rfl rfl ?_
        refine r_iconst (x := 1) O dX8_canCarry_58 rfl ?_
        refine r_isub O dX8_canCarry_59 ?_
        refine r_iload_n O 0 dX8_canCarry_60 rfl rfl ?_
        have ix_61x2 : ((s (4)) - 1).toInt = ((s (4)).toInt - (1 : Int)) := (j_subE rfl rfl (by with_reducible omega) (by with_reducible omega))
        refine r_callVi O [.int x1, .int ((s (4)) - 1), .int (3 * (s (((20 + (s (4))) - 1).toNatClampNeg)))] [] (met_X8_isInTime (g_xl X) hs lm pm m s x1 ((s (4)) - 1) (3 * (s (((20 + (s (4))) - 1).toNatClampNeg))) (by first | decide | with_reducible assumption | with_reducible omega | (simp (disch := omega) only [g_upd_ne, g_upd_eq]; first | with_reducible assumption | with_reducible omega | decide) | exact Or.inl rfl | exact Or.inr rfl) (by first | decide | with_reducible assumption | with_reducible omega | (simp (disch := omega) only [g_upd_ne, g_upd_eq]; first | with_reducible assumption | with_reducible omega | decide) | exact Or.inl rfl | exact Or.inr rfl) (by first | decide | with_reducible assumption | with_reducible omega | (simp (disch := omega) only [g_upd_ne, g_upd_eq]; first | with_reducible assumption | with_reducible omega | decide) | exact Or.inl rfl | exact Or.inr rfl)) LX8_88 obj_124 rfl rfl rfl dX8_canCarry_61 rfl rfl ?_
        refine r_if_eq O 71 dX8_canCarry_64 (by decide) (fun c_64 => ?_) (fun c_64 => ?_)
        · have e_64 : (R_X8_isInTime s x1 ((s (4)) - 1) (3 * (s (((20 + (s (4))) - 1).toNatClampNeg)))).toInt = (0 : Int) := j_eqR c_64 rfl
          refine r_iconst (x := 0) O dX8_canCarry_71 rfl ?_
          exact r_iret O dX8_canCarry_72 rfl (Nat.le_of_ble_eq_true rfl) (Nat.le_of_ble_eq_true rfl) rfl
        · have e_64 : (R_X8_isInTime s x1 ((s (4)) - 1) (3 * (s (((20 + (s (4))) - 1).toNatClampNeg)))).toInt ≠ (0 : Int) := j_neR c_64 rfl
          refine r_iconst (x := 1) O dX8_canCarry_67 rfl ?_
          refine r_goto O 72 dX8_canCarry_68 (by decide) ?_
          exact r_iret O dX8_canCarry_72 rfl (Nat.le_of_ble_eq_true rfl) (Nat.le_of_ble_eq_true rfl) rfl
    · have e_36 : (s (58 + 9 * x1.toNatClampNeg + 1)).toInt ≠ (s (4)).toInt := j_ne c_36
      refine r_iconst (x := 0) O dX8_canCarry_71 rfl ?_
      exact r_iret O dX8_canCarry_72 rfl (Nat.le_of_ble_eq_true rfl) (Nat.le_of_ble_eq_true rfl) rfl
theorem met_X8_canCarry (l : Launch) (hs : l.stackTraces = false) (lm : Nat → Int64) (pm : Nat → Nat) (m : Nat → Int32) (s : Nat → Int32) (x1 : Int32) (p0 : 0 ≤ x1.toInt) (p1 : x1.toInt < 6) (p2 : 0 ≤ (s 4).toInt) (p3 : (s 4).toInt ≤ 7) : g_SM l yX8_canCarry cX8_canCarry 4 (some .boolean) ({ frames := 3, cells := 0, slots := 0, locals := 67 } : Room) (fun ad => [.ref (ad 124), .int x1]) m (s, lm, pm) ((fun r : Int32 => ((.inl (some (.int r)), (m, s, lm, pm)) : g_Res)) (R_X8_canCarry s x1)) :=
  g_sm_of (by decide) (fun _ => Nat.le_of_ble_eq_true rfl) hs (fun X hl hn O => walk_X8_canCarry O (by rw [hl]; exact hs) hn p0 p1 p2 p3)
def R_X8_ones_4 (x0 : Int32) : Nat → Int32 → Nat → Int32
  | 0, _, _ => 0
  | f + 1, v1_4, n => (if 6 ≤ (nI n) then v1_4 else ((R_X8_ones_4 x0 f) (v1_4 + ((x0 >>> ((nI n) &&& 31)) &&& 1)) (n + 1)))
def R_X8_ones (s : Nat → Int32) (x0 : Int32) : Int32 := (R_X8_ones_4 x0 7 0 0)
set_option maxRecDepth 100000 in
set_option maxHeartbeats 4000000 in
theorem walk_X8_ones {X : g_X} (O : g_ok X cX8_ones RX8 (some .int) ({ frames := 0, cells := 0, slots := 0, locals := 0 } : Room)) (hs : (g_xl X).stackTraces = false) (hn : g_xn X = 3) {m : Nat → Int32} {lm : Nat → Int64} {pm : Nat → Nat} {s : Nat → Int32} {x0 : Int32}  : g_V X (fun r : Int32 => ((.inl (some (.int r)), (m, s, lm, pm)) : g_Res)) (R_X8_ones s x0) 0 0 m (s, lm, pm) 0 [(0, .int x0)] [] := by
  have hN : ∀ i, Nat.blt i 3 = true → i < g_xn X := fun i h => by rw [hn]; exact g_blt.mp h
  refine r_iconst (x := 0) O dX8_ones_0 rfl ?_
  refine r_istore_n (lc' := [(1, .int 0), (0, .int x0)]) O dX8_ones_1 rfl (hN 1 rfl) rfl ?_
  refine r_iconst (x := 0) O dX8_ones_2 rfl ?_
  refine r_istore_n (lc' := [(2, .int 0), (1, .int 0), (0, .int x0)]) O dX8_ones_3 rfl (hN 2 rfl) rfl ?_
  have L_4 : ∀ (f_4 : Nat) (v1_4 : Int32) (n : Nat) (hi_4 : n ≤ 6 ∧ 6 < f_4 + n), g_V X (fun r : Int32 => ((.inl (some (.int r)), (m, s, lm, pm)) : g_Res)) (R_X8_ones_4 x0 f_4 v1_4 n) 0 0 m (s, lm, pm) 4 [(0, .int x0), (1, .int v1_4), (2, .int (nI n))] [] := by
    intro f_4
    induction f_4 with
    | zero => intro v1_4 n hi_4; exact absurd hi_4 (by omega)
    | succ f_4 ih_4 =>
      intro v1_4 n hi_4
      have hc_n : (nI n).toInt = (n : Int) := nI_toInt (by omega)
      refine r_iload_n O 2 dX8_ones_4 rfl rfl ?_
      refine r_bipush (x := 6) O dX8_ones_5 rfl ?_
      refine r_icmp_ge O 24 dX8_ones_7 (by decide) (fun c_7 => ?_) (fun c_7 => ?_)
      · have e_7 : (6 : Int) ≤ (nI n).toInt := j_leL c_7 rfl
        refine r_iload_n O 1 dX8_ones_24 rfl rfl ?_
        exact r_iret O dX8_ones_25 rfl (Nat.le_of_ble_eq_true rfl) (Nat.le_of_ble_eq_true rfl) rfl
      · have e_7 : (nI n).toInt < (6 : Int) := j_nleL c_7 rfl
        refine r_iload_n O 1 dX8_ones_10 rfl rfl ?_
        refine r_iload_n O 0 dX8_ones_11 rfl rfl ?_
        refine r_iload_n O 2 dX8_ones_12 rfl rfl ?_
        refine r_ishr O dX8_ones_13 ?_
        refine r_iconst (x := 1) O dX8_ones_14 rfl ?_
        refine r_iand O dX8_ones_15 ?_
        refine r_iadd O dX8_ones_16 ?_
        refine r_istore_n (lc' := [(1, .int (v1_4 + ((x0 >>> ((nI n) &&& 31)) &&& 1))), (0, .int x0), (2, .int (nI n))]) O dX8_ones_17 rfl (hN 1 rfl) rfl ?_
        refine r_iinc (lc' := [(2, .int (nI (n + 1))), (1, .int (v1_4 + ((x0 >>> ((nI n) &&& 31)) &&& 1))), (0, .int x0)]) O 2 dX8_ones_18 rfl (nI_1 n) (hN 2 rfl) rfl ?_
        refine r_goto O 4 dX8_ones_21 (by decide) ?_
        refine r_sub [2, 1, 0] rfl ?_
        exact ih_4 (v1_4 + ((x0 >>> ((nI n) &&& 31)) &&& 1)) (n + 1) (by with_reducible omega)
  refine r_sub [2, 1, 0] rfl ?_
  exact L_4 7 0 0 (by with_reducible omega)
theorem met_X8_ones (l : Launch) (hs : l.stackTraces = false) (lm : Nat → Int64) (pm : Nat → Nat) (m : Nat → Int32) (s : Nat → Int32) (x0 : Int32)  : g_SM l yX8_ones cX8_ones 3 (some .int) ({ frames := 0, cells := 0, slots := 0, locals := 0 } : Room) (fun ad => [.int x0]) m (s, lm, pm) ((fun r : Int32 => ((.inl (some (.int r)), (m, s, lm, pm)) : g_Res)) (R_X8_ones s x0)) :=
  g_sm_of (by decide) (fun _ => Nat.le_of_ble_eq_true rfl) hs (fun X hl hn O => walk_X8_ones O (by rw [hl]; exact hs) hn )
def R_X8_arrives_32 (s : Nat → Int32) (x1 : Int32) (s_32 : Nat → Int32) : (Nat → Int32) := (upd (upd (upd (upd s_32 (58 + 9 * x1.toNatClampNeg + 1) (s (58 + 9 * x1.toNatClampNeg + 3))) (58 + 9 * x1.toNatClampNeg + 3) (-1)) (58 + 9 * x1.toNatClampNeg + 8) 0) (58 + 9 * x1.toNatClampNeg + 2) 0)
def R_X8_arrives (s : Nat → Int32) (x1 : Int32) : (Nat → Int32) := (if (s (58 + 9 * x1.toNatClampNeg + 8)) = 1 then (R_X8_arrives_32 s x1 (upd (upd s (4) (s (58 + 9 * x1.toNatClampNeg + 3))) (5) 0)) else (R_X8_arrives_32 s x1 s))
set_option maxRecDepth 100000 in
set_option maxHeartbeats 4000000 in
theorem walk_X8_arrives {X : g_X} (O : g_ok X cX8_arrives RX8 none ({ frames := 1, cells := 0, slots := 0, locals := 23 } : Room)) (hs : (g_xl X).stackTraces = false) (hn : g_xn X = 3) {m : Nat → Int32} {lm : Nat → Int64} {pm : Nat → Nat} {s : Nat → Int32} {x1 : Int32} (p0 : 0 ≤ x1.toInt) (p1 : x1.toInt < 6) : g_V X (fun r : Nat → Int32 => ((.inl none, (m, r, lm, pm)) : g_Res)) (R_X8_arrives s x1) 0 0 m (s, lm, pm) 0 [(0, .ref (g_ad X 124)), (1, .int x1)] [] := by
  have hN : ∀ i, Nat.blt i 3 = true → i < g_xn X := fun i h => by rw [hn]; exact g_blt.mp h
  refine r_aload_n O 0 dX8_arrives_0 rfl rfl ?_
  refine r_iload_n O 1 dX8_arrives_1 rfl rfl ?_
  refine r_iconst (x := 3) O dX8_arrives_2 rfl ?_
  refine r_callVi O [.int x1, .int 3] [] (metn_X8_of (g_xl X) hs lm pm m s x1 3 (by first | decide | with_reducible assumption | with_reducible omega | (simp (disch := omega) only [g_upd_ne, g_upd_eq]; first | with_reducible assumption | with_reducible omega | decide) | exact Or.inl rfl | exact Or.inr rfl) (by first | decide | with_reducible assumption | with_reducible omega | (simp (disch := omega) only [g_upd_ne, g_upd_eq]; first | with_reducible assumption | with_reducible omega | decide) | exact Or.inl rfl | exact Or.inr rfl) (by decide)) LX8_37 obj_124 rfl rfl rfl dX8_arrives_3 rfl rfl ?_
  refine r_istore_n (lc' := [(2, .int (s (58 + 9 * x1.toNatClampNeg + 3))), (0, .ref (g_ad X 124)), (1, .int x1)]) O dX8_arrives_6 rfl (hN 2 rfl) rfl ?_
  refine r_aload_n O 1 dX8_arrives_7 rfl rfl ?_
  refine r_iload_n O 2 dX8_arrives_8 rfl rfl ?_
  refine r_bipush (x := 8) O dX8_arrives_9 rfl ?_
  refine r_callVi O [.int x1, .int 8] [] (metn_X8_of (g_xl X) hs lm pm m s x1 8 (by first | decide | with_reducible assumption | with_reducible omega | (simp (disch := omega) only [g_upd_ne, g_upd_eq]; first | with_reducible assumption | with_reducible omega | decide) | exact Or.inl rfl | exact Or.inr rfl) (by first | decide | with_reducible assumption | with_reducible omega | (simp (disch := omega) only [g_upd_ne, g_upd_eq]; first | with_reducible assumption | with_reducible omega | decide) | exact Or.inl rfl | exact Or.inr rfl) (by decide)) LX8_37 obj_124 rfl rfl rfl dX8_arrives_11 rfl rfl ?_
  refine r_iconst (x := 1) O dX8_arrives_14 rfl ?_
  have J_32 : ∀ (s_32 : Nat → Int32), g_V X (fun r : Nat → Int32 => ((.inl none, (m, r, lm, pm)) : g_Res)) (R_X8_arrives_32 s x1 s_32) 0 0 m (s_32, lm, pm) 32 [(0, .ref (g_ad X 124)), (1, .int x1), (2, .int (s (58 + 9 * x1.toNatClampNeg + 3)))] [] := by
    intro s_32
    refine r_aload_n O 0 dX8_arrives_32 rfl rfl ?_
    refine r_iload_n O 1 dX8_arrives_33 rfl rfl ?_
    refine r_iconst (x := 1) O dX8_arrives_34 rfl ?_
    refine r_iload_n O 2 dX8_arrives_35 rfl rfl ?_
    refine r_callVv O [.int x1, .int 1, .int (s (58 + 9 * x1.toNatClampNeg + 3))] [] (metn_X8_lays (g_xl X) hs lm pm m s_32 x1 1 (s (58 + 9 * x1.toNatClampNeg + 3)) (by first | decide | with_reducible assumption | with_reducible omega | (simp (disch := omega) only [g_upd_ne, g_upd_eq]; first | with_reducible assumption | with_reducible omega | decide) | exact Or.inl rfl | exact Or.inr rfl) (by first | decide | with_reducible assumption | with_reducible omega | (simp (disch := omega) only [g_upd_ne, g_upd_eq]; first | with_reducible assumption | with_reducible omega | decide) | exact Or.inl rfl | exact Or.inr rfl) (by decide)) LX8_76 obj_124 rfl rfl rfl dX8_arrives_36 rfl rfl ?_
    refine r_aload_n O 0 dX8_arrives_39 rfl rfl ?_
    refine r_iload_n O 1 dX8_arrives_40 rfl rfl ?_
    refine r_iconst (x := 3) O dX8_arrives_41 rfl ?_
    refine r_iconst (x := (-1)) O dX8_arrives_42 rfl ?_
    refine r_callVv O [.int x1, .int 3, .int (-1)] [] (metn_X8_lays (g_xl X) hs lm pm m (upd s_32 (58 + 9 * x1.toNatClampNeg + 1) (s (58 + 9 * x1.toNatClampNeg + 3))) x1 3 (-1) (by first | decide | with_reducible assumption | with_reducible omega | (simp (disch := omega) only [g_upd_ne, g_upd_eq]; first | with_reducible assumption | with_reducible omega | decide) | exact Or.inl rfl | exact Or.inr rfl) (by first | decide | with_reducible assumption | with_reducible omega | (simp (disch := omega) only [g_upd_ne, g_upd_eq]; first | with_reducible assumption | with_reducible omega | decide) | exact Or.inl rfl | exact Or.inr rfl) (by decide)) LX8_76 obj_124 rfl rfl rfl dX8_arrives_43 rfl rfl ?_
    refine r_aload_n O 0 dX8_arrives_46 rfl rfl ?_
    refine r_iload_n O 1 dX8_arrives_47 rfl rfl ?_
    refine r_bipush (x := 8) O dX8_arrives_48 rfl ?_
    refine r_iconst (x := 0) O dX8_arrives_50 rfl ?_
    refine r_callVv O [.int x1, .int 8, .int 0] [] (metn_X8_lays (g_xl X) hs lm pm m (upd (upd s_32 (58 + 9 * x1.toNatClampNeg + 1) (s (58 + 9 * x1.toNatClampNeg + 3))) (58 + 9 * x1.toNatClampNeg + 3) (-1)) x1 8 0 (by first | decide | with_reducible assumption | with_reducible omega | (simp (disch := omega) only [g_upd_ne, g_upd_eq]; first | with_reducible assumption | with_reducible omega | decide) | exact Or.inl rfl | exact Or.inr rfl) (by first | decide | with_reducible assumption | with_reducible omega | (simp (disch := omega) only [g_upd_ne, g_upd_eq]; first | with_reducible assumption | with_reducible omega | decide) | exact Or.inl rfl | exact Or.inr rfl) (by decide)) LX8_76 obj_124 rfl rfl rfl dX8_arrives_51 rfl rfl ?_
    refine r_aload_n O 0 dX8_arrives_54 rfl rfl ?_
    refine r_iload_n O 1 dX8_arrives_55 rfl rfl ?_
    refine r_iconst (x := 2) O dX8_arrives_56 rfl ?_
    refine r_iconst (x := 0) O dX8_arrives_57 rfl ?_
    refine r_callVv O [.int x1, .int 2, .int 0] [] (metn_X8_lays (g_xl X) hs lm pm m (upd (upd (upd s_32 (58 + 9 * x1.toNatClampNeg + 1) (s (58 + 9 * x1.toNatClampNeg + 3))) (58 + 9 * x1.toNatClampNeg + 3) (-1)) (58 + 9 * x1.toNatClampNeg + 8) 0) x1 2 0 (by first | decide | with_reducible assumption | with_reducible omega | (simp (disch := omega) only [g_upd_ne, g_upd_eq]; first | with_reducible assumption | with_reducible omega | decide) | exact Or.inl rfl | exact Or.inr rfl) (by first | decide | with_reducible assumption | with_reducible omega | (simp (disch := omega) only [g_upd_ne, g_upd_eq]; first | with_reducible assumption | with_reducible omega | decide) | exact Or.inl rfl | exact Or.inr rfl) (by decide)) LX8_76 obj_124 rfl rfl rfl dX8_arrives_58 rfl rfl ?_
    exact r_vret O dX8_arrives_61 (Nat.le_of_ble_eq_true rfl) (Nat.le_of_ble_eq_true rfl) rfl
  refine r_icmp_ne O 32 dX8_arrives_15 (by decide) (fun c_15 => ?_) (fun c_15 => ?_)
  · have e_15 : (s (58 + 9 * x1.toNatClampNeg + 8)).toInt = (1 : Int) := j_eqR c_15 rfl
    refine r_aload_n O 1 dX8_arrives_18 rfl rfl ?_
    refine r_get O FX8_7 G_124_0 dX8_arrives_19 ?_
    refine r_iconst (x := 4) O dX8_arrives_22 rfl ?_
    refine r_iload_n O 0 dX8_arrives_23 rfl rfl ?_
    refine r_iastM O T_125 (g_vin (by decide) (by decide)) dX8_arrives_24 ?_
    refine r_aload_n O 1 dX8_arrives_25 rfl rfl ?_
    refine r_get O FX8_7 G_124_0 dX8_arrives_26 ?_
    refine r_iconst (x := 5) O dX8_arrives_29 rfl ?_
    refine r_iconst (x := 0) O dX8_arrives_30 rfl ?_
    refine r_iastM O T_125 (g_vin (by decide) (by decide)) dX8_arrives_31 ?_
    refine r_sub [1, 2, 0] rfl ?_
    exact J_32 (upd (upd s (4) (s (58 + 9 * x1.toNatClampNeg + 3))) (5) 0)
  · have e_15 : (s (58 + 9 * x1.toNatClampNeg + 8)).toInt ≠ (1 : Int) := j_neR c_15 rfl
    refine r_sub [1, 2, 0] rfl ?_
    exact J_32 s
theorem met_X8_arrives (l : Launch) (hs : l.stackTraces = false) (lm : Nat → Int64) (pm : Nat → Nat) (m : Nat → Int32) (s : Nat → Int32) (x1 : Int32) (p0 : 0 ≤ x1.toInt) (p1 : x1.toInt < 6) : g_SM l yX8_arrives cX8_arrives 3 none ({ frames := 1, cells := 0, slots := 0, locals := 23 } : Room) (fun ad => [.ref (ad 124), .int x1]) m (s, lm, pm) ((fun r : Nat → Int32 => ((.inl none, (m, r, lm, pm)) : g_Res)) (R_X8_arrives s x1)) :=
  g_sm_of (by decide) (fun _ => Nat.le_of_ble_eq_true rfl) hs (fun X hl hn O => walk_X8_arrives O (by rw [hl]; exact hs) hn p0 p1)
def R_X8_hasRigged (s : Nat → Int32) (x1 : Int32) : (Nat → Int32) := (upd (R_X8_leaves (upd s ((27 + (s (58 + 9 * x1.toNatClampNeg + 1))).toNatClampNeg) (s (58 + 9 * x1.toNatClampNeg + 5))) x1 2 (s (58 + 9 * x1.toNatClampNeg + 1))) (58 + 9 * x1.toNatClampNeg + 2) 0)
set_option maxRecDepth 100000 in
set_option maxHeartbeats 4000000 in
theorem walk_X8_hasRigged {X : g_X} (O : g_ok X cX8_hasRigged RX8 none ({ frames := 2, cells := 0, slots := 0, locals := 47 } : Room)) (hs : (g_xl X).stackTraces = false) (hn : g_xn X = 3) {m : Nat → Int32} {lm : Nat → Int64} {pm : Nat → Nat} {s : Nat → Int32} {x1 : Int32} (p0 : 0 ≤ x1.toInt) (p1 : x1.toInt < 6) (p2 : 0 ≤ (s (58 + 9 * x1.toNatClampNeg + 1)).toInt) (p3 : (s (58 + 9 * x1.toNatClampNeg + 1)).toInt ≤ 7) (p4 : -1 ≤ (s (58 + 9 * x1.toNatClampNeg + 5)).toInt) (p5 : (s (58 + 9 * x1.toNatClampNeg + 5)).toInt ≤ 7) : g_V X (fun r : Nat → Int32 => ((.inl none, (m, r, lm, pm)) : g_Res)) (R_X8_hasRigged s x1) 0 0 m (s, lm, pm) 0 [(0, .ref (g_ad X 124)), (1, .int x1)] [] := by
  have hN : ∀ i, Nat.blt i 3 = true → i < g_xn X := fun i h => by rw [hn]; exact g_blt.mp h
  refine r_aload_n O 0 dX8_hasRigged_0 rfl rfl ?_
  refine r_iload_n O 1 dX8_hasRigged_1 rfl rfl ?_
  refine r_iconst (x := 1) O dX8_hasRigged_2 rfl ?_
  refine r_callVi O [.int x1, .int 1] [] (metn_X8_of (g_xl X) hs lm pm m s x1 1 (by first | decide | with_reducible assumption | with_reducible omega | (simp (disch := omega) only [g_upd_ne, g_upd_eq]; first | with_reducible assumption | with_reducible omega | decide) | exact Or.inl rfl | exact Or.inr rfl) (by first | decide | with_reducible assumption | with_reducible omega | (simp (disch := omega) only [g_upd_ne, g_upd_eq]; first | with_reducible assumption | with_reducible omega | decide) | exact Or.inl rfl | exact Or.inr rfl) (by decide)) LX8_37 obj_124 rfl rfl rfl dX8_hasRigged_3 rfl rfl ?_
  refine r_istore_n (lc' := [(2, .int (s (58 + 9 * x1.toNatClampNeg + 1))), (0, .ref (g_ad X 124)), (1, .int x1)]) O dX8_hasRigged_6 rfl (hN 2 rfl) rfl ?_
  refine r_aload_n O 1 dX8_hasRigged_7 rfl rfl ?_
  refine r_get O FX8_7 G_124_0 dX8_hasRigged_8 ?_
  refine r_bipush (x := 27) O dX8_hasRigged_11 rfl ?_
  refine r_iload_n O 0 dX8_hasRigged_13 rfl rfl ?_
  refine r_iadd O dX8_hasRigged_14 ?_
  refine r_aload_n O 1 dX8_hasRigged_15 rfl rfl ?_
  refine r_iload_n O 2 dX8_hasRigged_16 rfl rfl ?_
  refine r_iconst (x := 5) O dX8_hasRigged_17 rfl ?_
  refine r_callVi O [.int x1, .int 5] [.int (27 + (s (58 + 9 * x1.toNatClampNeg + 1))), .ref (g_ad X 125)] (metn_X8_of (g_xl X) hs lm pm m s x1 5 (by first | decide | with_reducible assumption | with_reducible omega | (simp (disch := omega) only [g_upd_ne, g_upd_eq]; first | with_reducible assumption | with_reducible omega | decide) | exact Or.inl rfl | exact Or.inr rfl) (by first | decide | with_reducible assumption | with_reducible omega | (simp (disch := omega) only [g_upd_ne, g_upd_eq]; first | with_reducible assumption | with_reducible omega | decide) | exact Or.inl rfl | exact Or.inr rfl) (by decide)) LX8_37 obj_124 rfl rfl rfl dX8_hasRigged_18 rfl rfl ?_
  have ix_21 : (27 + (s (58 + 9 * x1.toNatClampNeg + 1))).toInt = ((27 : Int) + (s (58 + 9 * x1.toNatClampNeg + 1)).toInt) := (j_addE rfl rfl (by with_reducible omega) (by with_reducible omega))
  have iy_21 := j_nat (x := (27 + (s (58 + 9 * x1.toNatClampNeg + 1)))) (by with_reducible omega)
  refine r_iastM O T_125 (show vp_in (27 + (s (58 + 9 * x1.toNatClampNeg + 1))) 178 from g_vin (by with_reducible omega) (by with_reducible omega)) dX8_hasRigged_21 ?_
  refine r_aload_n O 1 dX8_hasRigged_22 rfl rfl ?_
  refine r_iload_n O 2 dX8_hasRigged_23 rfl rfl ?_
  refine r_iconst (x := 2) O dX8_hasRigged_24 rfl ?_
  refine r_iload_n O 0 dX8_hasRigged_25 rfl rfl ?_
  refine r_callVv O [.int x1, .int 2, .int (s (58 + 9 * x1.toNatClampNeg + 1))] [] (met_X8_leaves (g_xl X) hs lm pm m (upd s ((27 + (s (58 + 9 * x1.toNatClampNeg + 1))).toNatClampNeg) (s (58 + 9 * x1.toNatClampNeg + 5))) x1 2 (s (58 + 9 * x1.toNatClampNeg + 1)) (by first | decide | with_reducible assumption | with_reducible omega | (simp (disch := omega) only [g_upd_ne, g_upd_eq]; first | with_reducible assumption | with_reducible omega | decide) | exact Or.inl rfl | exact Or.inr rfl) (by first | decide | with_reducible assumption | with_reducible omega | (simp (disch := omega) only [g_upd_ne, g_upd_eq]; first | with_reducible assumption | with_reducible omega | decide) | exact Or.inl rfl | exact Or.inr rfl) (by first | decide | with_reducible assumption | with_reducible omega | (simp (disch := omega) only [g_upd_ne, g_upd_eq]; first | with_reducible assumption | with_reducible omega | decide) | exact Or.inl rfl | exact Or.inr rfl) (by first | decide | with_reducible assumption | with_reducible omega | (simp (disch := omega) only [g_upd_ne, g_upd_eq]; first | with_reducible assumption | with_reducible omega | decide) | exact Or.inl rfl | exact Or.inr rfl)) LX8_128 obj_124 rfl rfl rfl dX8_hasRigged_26 rfl rfl ?_
  refine r_aload_n O 1 dX8_hasRigged_29 rfl rfl ?_
  refine r_iload_n O 2 dX8_hasRigged_30 rfl rfl ?_
  refine r_iconst (x := 2) O dX8_hasRigged_31 rfl ?_
  refine r_iconst (x := 0) O dX8_hasRigged_32 rfl ?_
  refine r_callVv O [.int x1, .int 2, .int 0] [] (metn_X8_lays (g_xl X) hs lm pm m (R_X8_leaves (upd s ((27 + (s (58 + 9 * x1.toNatClampNeg + 1))).toNatClampNeg) (s (58 + 9 * x1.toNatClampNeg + 5))) x1 2 (s (58 + 9 * x1.toNatClampNeg + 1))) x1 2 0 (by first | decide | with_reducible assumption | with_reducible omega | (simp (disch := omega) only [g_upd_ne, g_upd_eq]; first | with_reducible assumption | with_reducible omega | decide) | exact Or.inl rfl | exact Or.inr rfl) (by first | decide | with_reducible assumption | with_reducible omega | (simp (disch := omega) only [g_upd_ne, g_upd_eq]; first | with_reducible assumption | with_reducible omega | decide) | exact Or.inl rfl | exact Or.inr rfl) (by decide)) LX8_76 obj_124 rfl rfl rfl dX8_hasRigged_33 rfl rfl ?_
  exact r_vret O dX8_hasRigged_36 (Nat.le_of_ble_eq_true rfl) (Nat.le_of_ble_eq_true rfl) rfl
theorem met_X8_hasRigged (l : Launch) (hs : l.stackTraces = false) (lm : Nat → Int64) (pm : Nat → Nat) (m : Nat → Int32) (s : Nat → Int32) (x1 : Int32) (p0 : 0 ≤ x1.toInt) (p1 : x1.toInt < 6) (p2 : 0 ≤ (s (58 + 9 * x1.toNatClampNeg + 1)).toInt) (p3 : (s (58 + 9 * x1.toNatClampNeg + 1)).toInt ≤ 7) (p4 : -1 ≤ (s (58 + 9 * x1.toNatClampNeg + 5)).toInt) (p5 : (s (58 + 9 * x1.toNatClampNeg + 5)).toInt ≤ 7) : g_SM l yX8_hasRigged cX8_hasRigged 3 none ({ frames := 2, cells := 0, slots := 0, locals := 47 } : Room) (fun ad => [.ref (ad 124), .int x1]) m (s, lm, pm) ((fun r : Nat → Int32 => ((.inl none, (m, r, lm, pm)) : g_Res)) (R_X8_hasRigged s x1)) :=
  g_sm_of (by decide) (fun _ => Nat.le_of_ble_eq_true rfl) hs (fun X hl hn O => walk_X8_hasRigged O (by rw [hl]; exact hs) hn p0 p1 p2 p3 p4 p5)
