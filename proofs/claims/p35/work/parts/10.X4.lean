/-! ===== Passages ===== -/
def R_X4_has (m : Nat → Int32) (x1 : Int32) : Int32 := (if x1 < 0 then 0 else (if (m 0) ≤ x1 then 0 else 1))
set_option maxRecDepth 100000 in
set_option maxHeartbeats 4000000 in
theorem walk_X4_has {X : g_X} (O : g_ok X cX4_has RX4 (some .boolean) ({ frames := 0, cells := 0, slots := 0, locals := 0 } : Room)) (hs : (g_xl X).stackTraces = false) (hn : g_xn X = 2) {q : g_q} {m : Nat → Int32} {x1 : Int32}  : g_V X (fun r : Int32 => ((.inl (some (.int r)), (m, q)) : g_Res)) (R_X4_has m x1) 0 0 m q 0 [(0, .ref (g_ad X 1)), (1, .int x1)] [] := by
  have hN : ∀ i, Nat.blt i 2 = true → i < g_xn X := fun i h => by rw [hn]; exact g_blt.mp h
  refine r_iload_n O 1 dX4_has_0 rfl rfl ?_
  refine r_if_lt O 16 dX4_has_1 (by decide) (fun c_1 => ?_) (fun c_1 => ?_)
  · have e_1 : (x1).toInt < (0 : Int) := j_ltR c_1 rfl
    refine r_iconst (x := 0) O dX4_has_16 rfl ?_
    exact r_iret O dX4_has_17 rfl (Nat.le_of_ble_eq_true rfl) (Nat.le_of_ble_eq_true rfl) rfl
  · have e_1 : (0 : Int) ≤ (x1).toInt := j_nltR c_1 rfl
    refine r_iload_n O 1 dX4_has_4 rfl rfl ?_
    refine r_aload_n O 0 dX4_has_5 rfl rfl ?_
    refine r_get O FX4_32 G_1_3 dX4_has_6 ?_
    refine r_icmp_ge O 16 dX4_has_9 (by decide) (fun c_9 => ?_) (fun c_9 => ?_)
    · have e_9 : (m 0).toInt ≤ (x1).toInt := j_le c_9
      refine r_iconst (x := 0) O dX4_has_16 rfl ?_
      exact r_iret O dX4_has_17 rfl (Nat.le_of_ble_eq_true rfl) (Nat.le_of_ble_eq_true rfl) rfl
    · have e_9 : (x1).toInt < (m 0).toInt := j_nle c_9
      refine r_iconst (x := 1) O dX4_has_12 rfl ?_
      refine r_goto O 17 dX4_has_13 (by decide) ?_
      exact r_iret O dX4_has_17 rfl (Nat.le_of_ble_eq_true rfl) (Nat.le_of_ble_eq_true rfl) rfl
theorem met_X4_has (l : Launch) (hs : l.stackTraces = false) (q : g_q) (m : Nat → Int32) (x1 : Int32)  : g_SM l yX4_has cX4_has 2 (some .boolean) ({ frames := 0, cells := 0, slots := 0, locals := 0 } : Room) (fun ad => [.ref (ad 1), .int x1]) m q ((fun r : Int32 => ((.inl (some (.int r)), (m, q)) : g_Res)) (R_X4_has m x1)) :=
  g_sm_of (by decide) (fun _ => Nat.le_of_ble_eq_true rfl) hs (fun X hl hn O => walk_X4_has O (by rw [hl]; exact hs) hn )
theorem nz_X4_has {m : Nat → Int32} {x1 : Int32} (h : ¬ R_X4_has m x1 = 0) : 0 ≤ x1.toInt ∧ x1.toInt < (m 0).toInt := by
  unfold R_X4_has at h
  by_cases a : x1 < 0
  · simp [a] at h
  · by_cases b : m 0 ≤ x1
    · simp [a, b] at h
    · exact ⟨j_nlt a, j_nle b⟩
def R_X4_dropOf (m : Nat → Int32) (x1 : Int32) : Int32 := (if (R_X4_has m x1) = 0 then 0 else (m (13 + x1.toNatClampNeg)))
set_option maxRecDepth 100000 in
set_option maxHeartbeats 4000000 in
theorem walk_X4_dropOf {X : g_X} (O : g_ok X cX4_dropOf RX4 (some .int) ({ frames := 1, cells := 0, slots := 0, locals := 21 } : Room)) (hs : (g_xl X).stackTraces = false) (hn : g_xn X = 2) {q : g_q} {m : Nat → Int32} {x1 : Int32} (p0 : (m 0).toInt ≤ 7) : g_V X (fun r : Int32 => ((.inl (some (.int r)), (m, q)) : g_Res)) (R_X4_dropOf m x1) 0 0 m q 0 [(0, .ref (g_ad X 1)), (1, .int x1)] [] := by
  have hN : ∀ i, Nat.blt i 2 = true → i < g_xn X := fun i h => by rw [hn]; exact g_blt.mp h
  refine r_aload_n O 0 dX4_dropOf_0 rfl rfl ?_
  refine r_iload_n O 1 dX4_dropOf_1 rfl rfl ?_
  refine r_callVi O [.int x1] [] (met_X4_has (g_xl X) hs q m x1 ) LX4_36 obj_1 rfl rfl rfl dX4_dropOf_2 rfl rfl ?_
  refine r_if_eq O 17 dX4_dropOf_5 (by decide) (fun c_5 => ?_) (fun c_5 => ?_)
  · have e_5 : (R_X4_has m x1).toInt = (0 : Int) := j_eqR c_5 rfl
    refine r_iconst (x := 0) O dX4_dropOf_17 rfl ?_
    exact r_iret O dX4_dropOf_18 rfl (Nat.le_of_ble_eq_true rfl) (Nat.le_of_ble_eq_true rfl) rfl
  · have e_5 : (R_X4_has m x1).toInt ≠ (0 : Int) := j_neR c_5 rfl
    obtain ⟨z_5a, z_5b⟩ := nz_X4_has c_5
    refine r_aload_n O 0 dX4_dropOf_8 rfl rfl ?_
    refine r_get O FX4_18 G_1_0 dX4_dropOf_9 ?_
    refine r_iload_n O 1 dX4_dropOf_12 rfl rfl ?_
    refine r_iald O R_2 (show vp_in x1 7 from g_vin (by with_reducible omega) (by with_reducible omega)) dX4_dropOf_13 ?_
    refine r_goto O 18 dX4_dropOf_14 (by decide) ?_
    exact r_iret O dX4_dropOf_18 rfl (Nat.le_of_ble_eq_true rfl) (Nat.le_of_ble_eq_true rfl) rfl
theorem met_X4_dropOf (l : Launch) (hs : l.stackTraces = false) (q : g_q) (m : Nat → Int32) (x1 : Int32) (p0 : (m 0).toInt ≤ 7) : g_SM l yX4_dropOf cX4_dropOf 2 (some .int) ({ frames := 1, cells := 0, slots := 0, locals := 21 } : Room) (fun ad => [.ref (ad 1), .int x1]) m q ((fun r : Int32 => ((.inl (some (.int r)), (m, q)) : g_Res)) (R_X4_dropOf m x1)) :=
  g_sm_of (by decide) (fun _ => Nat.le_of_ble_eq_true rfl) hs (fun X hl hn O => walk_X4_dropOf O (by rw [hl]; exact hs) hn p0)
def R_X4_minutesOf (m : Nat → Int32) (x1 : Int32) : Int32 := (if (R_X4_has m x1) = 0 then 0 else (m (20 + x1.toNatClampNeg)))
set_option maxRecDepth 100000 in
set_option maxHeartbeats 4000000 in
theorem walk_X4_minutesOf {X : g_X} (O : g_ok X cX4_minutesOf RX4 (some .int) ({ frames := 1, cells := 0, slots := 0, locals := 21 } : Room)) (hs : (g_xl X).stackTraces = false) (hn : g_xn X = 2) {q : g_q} {m : Nat → Int32} {x1 : Int32} (p0 : (m 0).toInt ≤ 7) : g_V X (fun r : Int32 => ((.inl (some (.int r)), (m, q)) : g_Res)) (R_X4_minutesOf m x1) 0 0 m q 0 [(0, .ref (g_ad X 1)), (1, .int x1)] [] := by
  have hN : ∀ i, Nat.blt i 2 = true → i < g_xn X := fun i h => by rw [hn]; exact g_blt.mp h
  refine r_aload_n O 0 dX4_minutesOf_0 rfl rfl ?_
  refine r_iload_n O 1 dX4_minutesOf_1 rfl rfl ?_
  refine r_callVi O [.int x1] [] (met_X4_has (g_xl X) hs q m x1 ) LX4_36 obj_1 rfl rfl rfl dX4_minutesOf_2 rfl rfl ?_
  refine r_if_eq O 17 dX4_minutesOf_5 (by decide) (fun c_5 => ?_) (fun c_5 => ?_)
  · have e_5 : (R_X4_has m x1).toInt = (0 : Int) := j_eqR c_5 rfl
    refine r_iconst (x := 0) O dX4_minutesOf_17 rfl ?_
    exact r_iret O dX4_minutesOf_18 rfl (Nat.le_of_ble_eq_true rfl) (Nat.le_of_ble_eq_true rfl) rfl
  · have e_5 : (R_X4_has m x1).toInt ≠ (0 : Int) := j_neR c_5 rfl
    obtain ⟨z_5a, z_5b⟩ := nz_X4_has c_5
    refine r_aload_n O 0 dX4_minutesOf_8 rfl rfl ?_
    refine r_get O FX4_26 G_1_1 dX4_minutesOf_9 ?_
    refine r_iload_n O 1 dX4_minutesOf_12 rfl rfl ?_
    refine r_iald O R_3 (show vp_in x1 7 from g_vin (by with_reducible omega) (by with_reducible omega)) dX4_minutesOf_13 ?_
    refine r_goto O 18 dX4_minutesOf_14 (by decide) ?_
    exact r_iret O dX4_minutesOf_18 rfl (Nat.le_of_ble_eq_true rfl) (Nat.le_of_ble_eq_true rfl) rfl
theorem met_X4_minutesOf (l : Launch) (hs : l.stackTraces = false) (q : g_q) (m : Nat → Int32) (x1 : Int32) (p0 : (m 0).toInt ≤ 7) : g_SM l yX4_minutesOf cX4_minutesOf 2 (some .int) ({ frames := 1, cells := 0, slots := 0, locals := 21 } : Room) (fun ad => [.ref (ad 1), .int x1]) m q ((fun r : Int32 => ((.inl (some (.int r)), (m, q)) : g_Res)) (R_X4_minutesOf m x1)) :=
  g_sm_of (by decide) (fun _ => Nat.le_of_ble_eq_true rfl) hs (fun X hl hn O => walk_X4_minutesOf O (by rw [hl]; exact hs) hn p0)
def R_X4_ropeOf (m : Nat → Int32) (x1 : Int32) : Int32 := (if (R_X4_has m x1) = 0 then (-1) else (m (27 + x1.toNatClampNeg)))
set_option maxRecDepth 100000 in
set_option maxHeartbeats 4000000 in
theorem walk_X4_ropeOf {X : g_X} (O : g_ok X cX4_ropeOf RX4 (some .int) ({ frames := 1, cells := 0, slots := 0, locals := 21 } : Room)) (hs : (g_xl X).stackTraces = false) (hn : g_xn X = 2) {q : g_q} {m : Nat → Int32} {x1 : Int32} (p0 : (m 0).toInt ≤ 7) : g_V X (fun r : Int32 => ((.inl (some (.int r)), (m, q)) : g_Res)) (R_X4_ropeOf m x1) 0 0 m q 0 [(0, .ref (g_ad X 1)), (1, .int x1)] [] := by
  have hN : ∀ i, Nat.blt i 2 = true → i < g_xn X := fun i h => by rw [hn]; exact g_blt.mp h
  refine r_aload_n O 0 dX4_ropeOf_0 rfl rfl ?_
  refine r_iload_n O 1 dX4_ropeOf_1 rfl rfl ?_
  refine r_callVi O [.int x1] [] (met_X4_has (g_xl X) hs q m x1 ) LX4_36 obj_1 rfl rfl rfl dX4_ropeOf_2 rfl rfl ?_
  refine r_if_eq O 17 dX4_ropeOf_5 (by decide) (fun c_5 => ?_) (fun c_5 => ?_)
  · have e_5 : (R_X4_has m x1).toInt = (0 : Int) := j_eqR c_5 rfl
    refine r_iconst (x := (-1)) O dX4_ropeOf_17 rfl ?_
    exact r_iret O dX4_ropeOf_18 rfl (Nat.le_of_ble_eq_true rfl) (Nat.le_of_ble_eq_true rfl) rfl
  · have e_5 : (R_X4_has m x1).toInt ≠ (0 : Int) := j_neR c_5 rfl
    obtain ⟨z_5a, z_5b⟩ := nz_X4_has c_5
    refine r_aload_n O 0 dX4_ropeOf_8 rfl rfl ?_
    refine r_get O FX4_29 G_1_2 dX4_ropeOf_9 ?_
    refine r_iload_n O 1 dX4_ropeOf_12 rfl rfl ?_
    refine r_iald O R_4 (show vp_in x1 7 from g_vin (by with_reducible omega) (by with_reducible omega)) dX4_ropeOf_13 ?_
    refine r_goto O 18 dX4_ropeOf_14 (by decide) ?_
    exact r_iret O dX4_ropeOf_18 rfl (Nat.le_of_ble_eq_true rfl) (Nat.le_of_ble_eq_true rfl) rfl
theorem met_X4_ropeOf (l : Launch) (hs : l.stackTraces = false) (q : g_q) (m : Nat → Int32) (x1 : Int32) (p0 : (m 0).toInt ≤ 7) : g_SM l yX4_ropeOf cX4_ropeOf 2 (some .int) ({ frames := 1, cells := 0, slots := 0, locals := 21 } : Room) (fun ad => [.ref (ad 1), .int x1]) m q ((fun r : Int32 => ((.inl (some (.int r)), (m, q)) : g_Res)) (R_X4_ropeOf m x1)) :=
  g_sm_of (by decide) (fun _ => Nat.le_of_ble_eq_true rfl) hs (fun X hl hn O => walk_X4_ropeOf O (by rw [hl]; exact hs) hn p0)
def R_X4_isPitch (m : Nat → Int32) (x1 : Int32) : Int32 := (if (R_X4_has m x1) = 0 then 0 else (if (m (13 + x1.toNatClampNeg)) ≤ 0 then 0 else 1))
set_option maxRecDepth 100000 in
set_option maxHeartbeats 4000000 in
theorem walk_X4_isPitch {X : g_X} (O : g_ok X cX4_isPitch RX4 (some .boolean) ({ frames := 1, cells := 0, slots := 0, locals := 21 } : Room)) (hs : (g_xl X).stackTraces = false) (hn : g_xn X = 2) {q : g_q} {m : Nat → Int32} {x1 : Int32} (p0 : (m 0).toInt ≤ 7) : g_V X (fun r : Int32 => ((.inl (some (.int r)), (m, q)) : g_Res)) (R_X4_isPitch m x1) 0 0 m q 0 [(0, .ref (g_ad X 1)), (1, .int x1)] [] := by
  have hN : ∀ i, Nat.blt i 2 = true → i < g_xn X := fun i h => by rw [hn]; exact g_blt.mp h
  refine r_aload_n O 0 dX4_isPitch_0 rfl rfl ?_
  refine r_iload_n O 1 dX4_isPitch_1 rfl rfl ?_
  refine r_callVi O [.int x1] [] (met_X4_has (g_xl X) hs q m x1 ) LX4_36 obj_1 rfl rfl rfl dX4_isPitch_2 rfl rfl ?_
  refine r_if_eq O 21 dX4_isPitch_5 (by decide) (fun c_5 => ?_) (fun c_5 => ?_)
  · have e_5 : (R_X4_has m x1).toInt = (0 : Int) := j_eqR c_5 rfl
    refine r_iconst (x := 0) O dX4_isPitch_21 rfl ?_
    exact r_iret O dX4_isPitch_22 rfl (Nat.le_of_ble_eq_true rfl) (Nat.le_of_ble_eq_true rfl) rfl
  · have e_5 : (R_X4_has m x1).toInt ≠ (0 : Int) := j_neR c_5 rfl
    obtain ⟨z_5a, z_5b⟩ := nz_X4_has c_5
    refine r_aload_n O 0 dX4_isPitch_8 rfl rfl ?_
    refine r_get O FX4_18 G_1_0 dX4_isPitch_9 ?_
    refine r_iload_n O 1 dX4_isPitch_12 rfl rfl ?_
    refine r_iald O R_2 (show vp_in x1 7 from g_vin (by with_reducible omega) (by with_reducible omega)) dX4_isPitch_13 ?_
    refine r_if_le O 21 dX4_isPitch_14 (by decide) (fun c_14 => ?_) (fun c_14 => ?_)
    · have e_14 : (m (13 + x1.toNatClampNeg)).toInt ≤ (0 : Int) := j_leR c_14 rfl
      refine r_iconst (x := 0) O dX4_isPitch_21 rfl ?_
      exact r_iret O dX4_isPitch_22 rfl (Nat.le_of_ble_eq_true rfl) (Nat.le_of_ble_eq_true rfl) rfl
    · have e_14 : (0 : Int) < (m (13 + x1.toNatClampNeg)).toInt := j_nleR c_14 rfl
      refine r_iconst (x := 1) O dX4_isPitch_17 rfl ?_
      refine r_goto O 22 dX4_isPitch_18 (by decide) ?_
      exact r_iret O dX4_isPitch_22 rfl (Nat.le_of_ble_eq_true rfl) (Nat.le_of_ble_eq_true rfl) rfl
theorem met_X4_isPitch (l : Launch) (hs : l.stackTraces = false) (q : g_q) (m : Nat → Int32) (x1 : Int32) (p0 : (m 0).toInt ≤ 7) : g_SM l yX4_isPitch cX4_isPitch 2 (some .boolean) ({ frames := 1, cells := 0, slots := 0, locals := 21 } : Room) (fun ad => [.ref (ad 1), .int x1]) m q ((fun r : Int32 => ((.inl (some (.int r)), (m, q)) : g_Res)) (R_X4_isPitch m x1)) :=
  g_sm_of (by decide) (fun _ => Nat.le_of_ble_eq_true rfl) hs (fun X hl hn O => walk_X4_isPitch O (by rw [hl]; exact hs) hn p0)
def R_X4_isOpen (m : Nat → Int32) (x1 : Int32) : Int32 := (if (R_X4_has m x1) = 0 then 1 else (if (m (13 + x1.toNatClampNeg)) = 0 then 1 else (if (m (27 + x1.toNatClampNeg)) = (-1) then 0 else 1)))
set_option maxRecDepth 100000 in
set_option maxHeartbeats 4000000 in
theorem walk_X4_isOpen {X : g_X} (O : g_ok X cX4_isOpen RX4 (some .boolean) ({ frames := 1, cells := 0, slots := 0, locals := 21 } : Room)) (hs : (g_xl X).stackTraces = false) (hn : g_xn X = 2) {q : g_q} {m : Nat → Int32} {x1 : Int32} (p0 : (m 0).toInt ≤ 7) : g_V X (fun r : Int32 => ((.inl (some (.int r)), (m, q)) : g_Res)) (R_X4_isOpen m x1) 0 0 m q 0 [(0, .ref (g_ad X 1)), (1, .int x1)] [] := by
  have hN : ∀ i, Nat.blt i 2 = true → i < g_xn X := fun i h => by rw [hn]; exact g_blt.mp h
  refine r_aload_n O 0 dX4_isOpen_0 rfl rfl ?_
  refine r_iload_n O 1 dX4_isOpen_1 rfl rfl ?_
  refine r_callVi O [.int x1] [] (met_X4_has (g_xl X) hs q m x1 ) LX4_36 obj_1 rfl rfl rfl dX4_isOpen_2 rfl rfl ?_
  refine r_if_eq O 27 dX4_isOpen_5 (by decide) (fun c_5 => ?_) (fun c_5 => ?_)
  · have e_5 : (R_X4_has m x1).toInt = (0 : Int) := j_eqR c_5 rfl
    refine r_iconst (x := 1) O dX4_isOpen_27 rfl ?_
    refine r_goto O 32 dX4_isOpen_28 (by decide) ?_
    exact r_iret O dX4_isOpen_32 rfl (Nat.le_of_ble_eq_true rfl) (Nat.le_of_ble_eq_true rfl) rfl
  · have e_5 : (R_X4_has m x1).toInt ≠ (0 : Int) := j_neR c_5 rfl
    obtain ⟨z_5a, z_5b⟩ := nz_X4_has c_5
    refine r_aload_n O 0 dX4_isOpen_8 rfl rfl ?_
    refine r_get O FX4_18 G_1_0 dX4_isOpen_9 ?_
    refine r_iload_n O 1 dX4_isOpen_12 rfl rfl ?_
    refine r_iald O R_2 (show vp_in x1 7 from g_vin (by with_reducible omega) (by with_reducible omega)) dX4_isOpen_13 ?_
    refine r_if_eq O 27 dX4_isOpen_14 (by decide) (fun c_14 => ?_) (fun c_14 => ?_)
    · have e_14 : (m (13 + x1.toNatClampNeg)).toInt = (0 : Int) := j_eqR c_14 rfl
      refine r_iconst (x := 1) O dX4_isOpen_27 rfl ?_
      refine r_goto O 32 dX4_isOpen_28 (by decide) ?_
      exact r_iret O dX4_isOpen_32 rfl (Nat.le_of_ble_eq_true rfl) (Nat.le_of_ble_eq_true rfl) rfl
    · have e_14 : (m (13 + x1.toNatClampNeg)).toInt ≠ (0 : Int) := j_neR c_14 rfl
      refine r_aload_n O 0 dX4_isOpen_17 rfl rfl ?_
      refine r_get O FX4_29 G_1_2 dX4_isOpen_18 ?_
      refine r_iload_n O 1 dX4_isOpen_21 rfl rfl ?_
      refine r_iald O R_4 (show vp_in x1 7 from g_vin (by with_reducible omega) (by with_reducible omega)) dX4_isOpen_22 ?_
      refine r_iconst (x := (-1)) O dX4_isOpen_23 rfl ?_
      refine r_icmp_eq O 31 dX4_isOpen_24 (by decide) (fun c_24 => ?_) (fun c_24 => ?_)
      · have e_24 : (m (27 + x1.toNatClampNeg)).toInt = (-1 : Int) := j_eqR c_24 rfl
        refine r_iconst (x := 0) O dX4_isOpen_31 rfl ?_
        exact r_iret O dX4_isOpen_32 rfl (Nat.le_of_ble_eq_true rfl) (Nat.le_of_ble_eq_true rfl) rfl
      · have e_24 : (m (27 + x1.toNatClampNeg)).toInt ≠ (-1 : Int) := j_neR c_24 rfl
        refine r_iconst (x := 1) O dX4_isOpen_27 rfl ?_
        refine r_goto O 32 dX4_isOpen_28 (by decide) ?_
        exact r_iret O dX4_isOpen_32 rfl (Nat.le_of_ble_eq_true rfl) (Nat.le_of_ble_eq_true rfl) rfl
theorem met_X4_isOpen (l : Launch) (hs : l.stackTraces = false) (q : g_q) (m : Nat → Int32) (x1 : Int32) (p0 : (m 0).toInt ≤ 7) : g_SM l yX4_isOpen cX4_isOpen 2 (some .boolean) ({ frames := 1, cells := 0, slots := 0, locals := 21 } : Room) (fun ad => [.ref (ad 1), .int x1]) m q ((fun r : Int32 => ((.inl (some (.int r)), (m, q)) : g_Res)) (R_X4_isOpen m x1)) :=
  g_sm_of (by decide) (fun _ => Nat.le_of_ble_eq_true rfl) hs (fun X hl hn O => walk_X4_isOpen O (by rw [hl]; exact hs) hn p0)
def R_X4_change (m : Nat → Int32) (x1 : Int32) (x2 : Int32) (x3 : Int32) : (Nat → Int32) := (if (R_X4_has m x1) = 0 then m else (upd (upd m (13 + x1.toNatClampNeg) x2) (20 + x1.toNatClampNeg) x3))
set_option maxRecDepth 100000 in
set_option maxHeartbeats 4000000 in
theorem walk_X4_change {X : g_X} (O : g_ok X cX4_change RX4 none ({ frames := 1, cells := 0, slots := 0, locals := 21 } : Room)) (hs : (g_xl X).stackTraces = false) (hn : g_xn X = 4) {q : g_q} {m : Nat → Int32} {x1 : Int32} {x2 : Int32} {x3 : Int32} (p0 : (m 0).toInt ≤ 7) : g_V X (fun r : Nat → Int32 => ((.inl none, (r, q)) : g_Res)) (R_X4_change m x1 x2 x3) 0 0 m q 0 [(0, .ref (g_ad X 1)), (1, .int x1), (2, .int x2), (3, .int x3)] [] := by
  have hN : ∀ i, Nat.blt i 4 = true → i < g_xn X := fun i h => by rw [hn]; exact g_blt.mp h
  refine r_aload_n O 0 dX4_change_0 rfl rfl ?_
  refine r_iload_n O 1 dX4_change_1 rfl rfl ?_
  refine r_callVi O [.int x1] [] (met_X4_has (g_xl X) hs q m x1 ) LX4_36 obj_1 rfl rfl rfl dX4_change_2 rfl rfl ?_
  refine r_if_eq O 22 dX4_change_5 (by decide) (fun c_5 => ?_) (fun c_5 => ?_)
  · have e_5 : (R_X4_has m x1).toInt = (0 : Int) := j_eqR c_5 rfl
    exact r_vret O dX4_change_22 (Nat.le_of_ble_eq_true rfl) (Nat.le_of_ble_eq_true rfl) rfl
  · have e_5 : (R_X4_has m x1).toInt ≠ (0 : Int) := j_neR c_5 rfl
    obtain ⟨z_5a, z_5b⟩ := nz_X4_has c_5
    refine r_aload_n O 0 dX4_change_8 rfl rfl ?_
    refine r_get O FX4_18 G_1_0 dX4_change_9 ?_
    refine r_iload_n O 1 dX4_change_12 rfl rfl ?_
    refine r_iload_n O 2 dX4_change_13 rfl rfl ?_
    refine r_iastc O T_2 (show vp_in x1 7 from g_vin (by with_reducible omega) (by with_reducible omega)) dX4_change_14 ?_
    refine r_aload_n O 0 dX4_change_15 rfl rfl ?_
    refine r_get O FX4_26 G_1_1 dX4_change_16 ?_
    refine r_iload_n O 1 dX4_change_19 rfl rfl ?_
    refine r_iload_n O 3 dX4_change_20 rfl rfl ?_
    refine r_iastc O T_3 (show vp_in x1 7 from g_vin (by with_reducible omega) (by with_reducible omega)) dX4_change_21 ?_
    exact r_vret O dX4_change_22 (Nat.le_of_ble_eq_true rfl) (Nat.le_of_ble_eq_true rfl) rfl
theorem met_X4_change (l : Launch) (hs : l.stackTraces = false) (q : g_q) (m : Nat → Int32) (x1 : Int32) (x2 : Int32) (x3 : Int32) (p0 : (m 0).toInt ≤ 7) : g_SM l yX4_change cX4_change 4 none ({ frames := 1, cells := 0, slots := 0, locals := 21 } : Room) (fun ad => [.ref (ad 1), .int x1, .int x2, .int x3]) m q ((fun r : Nat → Int32 => ((.inl none, (r, q)) : g_Res)) (R_X4_change m x1 x2 x3)) :=
  g_sm_of (by decide) (fun _ => Nat.le_of_ble_eq_true rfl) hs (fun X hl hn O => walk_X4_change O (by rw [hl]; exact hs) hn p0)
def R_X4_fix (m : Nat → Int32) (x1 : Int32) (x2 : Int32) : (Nat → Int32) := (if (R_X4_has m x1) = 0 then m else (upd m (27 + x1.toNatClampNeg) x2))
set_option maxRecDepth 100000 in
set_option maxHeartbeats 4000000 in
theorem walk_X4_fix {X : g_X} (O : g_ok X cX4_fix RX4 none ({ frames := 1, cells := 0, slots := 0, locals := 21 } : Room)) (hs : (g_xl X).stackTraces = false) (hn : g_xn X = 3) {q : g_q} {m : Nat → Int32} {x1 : Int32} {x2 : Int32} (p0 : (m 0).toInt ≤ 7) : g_V X (fun r : Nat → Int32 => ((.inl none, (r, q)) : g_Res)) (R_X4_fix m x1 x2) 0 0 m q 0 [(0, .ref (g_ad X 1)), (1, .int x1), (2, .int x2)] [] := by
  have hN : ∀ i, Nat.blt i 3 = true → i < g_xn X := fun i h => by rw [hn]; exact g_blt.mp h
  refine r_aload_n O 0 dX4_fix_0 rfl rfl ?_
  refine r_iload_n O 1 dX4_fix_1 rfl rfl ?_
  refine r_callVi O [.int x1] [] (met_X4_has (g_xl X) hs q m x1 ) LX4_36 obj_1 rfl rfl rfl dX4_fix_2 rfl rfl ?_
  refine r_if_eq O 15 dX4_fix_5 (by decide) (fun c_5 => ?_) (fun c_5 => ?_)
  · have e_5 : (R_X4_has m x1).toInt = (0 : Int) := j_eqR c_5 rfl
    exact r_vret O dX4_fix_15 (Nat.le_of_ble_eq_true rfl) (Nat.le_of_ble_eq_true rfl) rfl
  · have e_5 : (R_X4_has m x1).toInt ≠ (0 : Int) := j_neR c_5 rfl
    obtain ⟨z_5a, z_5b⟩ := nz_X4_has c_5
    refine r_aload_n O 0 dX4_fix_8 rfl rfl ?_
    refine r_get O FX4_29 G_1_2 dX4_fix_9 ?_
    refine r_iload_n O 1 dX4_fix_12 rfl rfl ?_
    refine r_iload_n O 2 dX4_fix_13 rfl rfl ?_
    refine r_iastc O T_4 (show vp_in x1 7 from g_vin (by with_reducible omega) (by with_reducible omega)) dX4_fix_14 ?_
    exact r_vret O dX4_fix_15 (Nat.le_of_ble_eq_true rfl) (Nat.le_of_ble_eq_true rfl) rfl
theorem met_X4_fix (l : Launch) (hs : l.stackTraces = false) (q : g_q) (m : Nat → Int32) (x1 : Int32) (x2 : Int32) (p0 : (m 0).toInt ≤ 7) : g_SM l yX4_fix cX4_fix 3 none ({ frames := 1, cells := 0, slots := 0, locals := 21 } : Room) (fun ad => [.ref (ad 1), .int x1, .int x2]) m q ((fun r : Nat → Int32 => ((.inl none, (r, q)) : g_Res)) (R_X4_fix m x1 x2)) :=
  g_sm_of (by decide) (fun _ => Nat.le_of_ble_eq_true rfl) hs (fun X hl hn O => walk_X4_fix O (by rw [hl]; exact hs) hn p0)
theorem fr_X4_fix {m : Nat → Int32} {a b : Int32} {n : Nat} (hn : n < 27) : R_X4_fix m a b n = m n := by
  unfold R_X4_fix
  split
  · rfl
  · rw [g_upd_ne (by omega)]
def R_X4_wayUp_4 (m : Nat → Int32) (x1 : Int32) : Nat → Int32 → Nat → Int32
  | 0, _, _ => 0
  | f + 1, v2_4, n => (if x1 ≤ (nI n) then v2_4 else (if (m 0) ≤ (nI n) then v2_4 else ((R_X4_wayUp_4 m x1 f) (v2_4 + (m (20 + (nI n).toNatClampNeg))) (n + 1))))
def R_X4_wayUp (m : Nat → Int32) (x1 : Int32) : Int32 := (R_X4_wayUp_4 m x1 8 0 0)
set_option maxRecDepth 100000 in
set_option maxHeartbeats 4000000 in
theorem walk_X4_wayUp {X : g_X} (O : g_ok X cX4_wayUp RX4 (some .int) ({ frames := 0, cells := 0, slots := 0, locals := 0 } : Room)) (hs : (g_xl X).stackTraces = false) (hn : g_xn X = 4) {q : g_q} {m : Nat → Int32} {x1 : Int32} (p0 : (m 0).toInt ≤ 7) : g_V X (fun r : Int32 => ((.inl (some (.int r)), (m, q)) : g_Res)) (R_X4_wayUp m x1) 0 0 m q 0 [(0, .ref (g_ad X 1)), (1, .int x1)] [] := by
  have hN : ∀ i, Nat.blt i 4 = true → i < g_xn X := fun i h => by rw [hn]; exact g_blt.mp h
  refine r_iconst (x := 0) O dX4_wayUp_0 rfl ?_
  refine r_istore_n (lc' := [(2, .int 0), (0, .ref (g_ad X 1)), (1, .int x1)]) O dX4_wayUp_1 rfl (hN 2 rfl) rfl ?_
  refine r_iconst (x := 0) O dX4_wayUp_2 rfl ?_
  refine r_istore_n (lc' := [(3, .int 0), (2, .int 0), (0, .ref (g_ad X 1)), (1, .int x1)]) O dX4_wayUp_3 rfl (hN 3 rfl) rfl ?_
  have L_4 : ∀ (f_4 : Nat) (v2_4 : Int32) (n : Nat) (hi_4 : n ≤ 7 ∧ 7 < f_4 + n), g_V X (fun r : Int32 => ((.inl (some (.int r)), (m, q)) : g_Res)) (R_X4_wayUp_4 m x1 f_4 v2_4 n) 0 0 m q 4 [(0, .ref (g_ad X 1)), (1, .int x1), (2, .int v2_4), (3, .int (nI n))] [] := by
    intro f_4
    induction f_4 with
    | zero => intro v2_4 n hi_4; exact absurd hi_4 (by omega)
    | succ f_4 ih_4 =>
      intro v2_4 n hi_4
      have hc_n : (nI n).toInt = (n : Int) := nI_toInt (by omega)
      refine r_iload_n O 3 dX4_wayUp_4 rfl rfl ?_
      refine r_iload_n O 1 dX4_wayUp_5 rfl rfl ?_
      refine r_icmp_ge O 32 dX4_wayUp_6 (by decide) (fun c_6 => ?_) (fun c_6 => ?_)
      · have e_6 : (x1).toInt ≤ (nI n).toInt := j_le c_6
        refine r_iload_n O 2 dX4_wayUp_32 rfl rfl ?_
        exact r_iret O dX4_wayUp_33 rfl (Nat.le_of_ble_eq_true rfl) (Nat.le_of_ble_eq_true rfl) rfl
      · have e_6 : (nI n).toInt < (x1).toInt := j_nle c_6
        refine r_iload_n O 3 dX4_wayUp_9 rfl rfl ?_
        refine r_aload_n O 0 dX4_wayUp_10 rfl rfl ?_
        refine r_get O FX4_32 G_1_3 dX4_wayUp_11 ?_
        refine r_icmp_ge O 32 dX4_wayUp_14 (by decide) (fun c_14 => ?_) (fun c_14 => ?_)
        · have e_14 : (m 0).toInt ≤ (nI n).toInt := j_le c_14
          refine r_iload_n O 2 dX4_wayUp_32 rfl rfl ?_
          exact r_iret O dX4_wayUp_33 rfl (Nat.le_of_ble_eq_true rfl) (Nat.le_of_ble_eq_true rfl) rfl
        · have e_14 : (nI n).toInt < (m 0).toInt := j_nle c_14
          refine r_iload_n O 2 dX4_wayUp_17 rfl rfl ?_
          refine r_aload_n O 0 dX4_wayUp_18 rfl rfl ?_
          refine r_get O FX4_26 G_1_1 dX4_wayUp_19 ?_
          refine r_iload_n O 3 dX4_wayUp_22 rfl rfl ?_
          refine r_iald O R_3 (show vp_in (nI n) 7 from g_vin (by with_reducible omega) (by with_reducible omega)) dX4_wayUp_23 ?_
          refine r_iadd O dX4_wayUp_24 ?_
          refine r_istore_n (lc' := [(2, .int (v2_4 + (m (20 + (nI n).toNatClampNeg)))), (0, .ref (g_ad X 1)), (1, .int x1), (3, .int (nI n))]) O dX4_wayUp_25 rfl (hN 2 rfl) rfl ?_
          refine r_iinc (lc' := [(3, .int (nI (n + 1))), (2, .int (v2_4 + (m (20 + (nI n).toNatClampNeg)))), (0, .ref (g_ad X 1)), (1, .int x1)]) O 3 dX4_wayUp_26 rfl (nI_1 n) (hN 3 rfl) rfl ?_
          refine r_goto O 4 dX4_wayUp_29 (by decide) ?_
          refine r_sub [2, 3, 1, 0] rfl ?_
          exact ih_4 (v2_4 + (m (20 + (nI n).toNatClampNeg))) (n + 1) (by with_reducible omega)
  refine r_sub [2, 3, 1, 0] rfl ?_
  exact L_4 8 0 0 (by with_reducible omega)
theorem met_X4_wayUp (l : Launch) (hs : l.stackTraces = false) (q : g_q) (m : Nat → Int32) (x1 : Int32) (p0 : (m 0).toInt ≤ 7) : g_SM l yX4_wayUp cX4_wayUp 4 (some .int) ({ frames := 0, cells := 0, slots := 0, locals := 0 } : Room) (fun ad => [.ref (ad 1), .int x1]) m q ((fun r : Int32 => ((.inl (some (.int r)), (m, q)) : g_Res)) (R_X4_wayUp m x1)) :=
  g_sm_of (by decide) (fun _ => Nat.le_of_ble_eq_true rfl) hs (fun X hl hn O => walk_X4_wayUp O (by rw [hl]; exact hs) hn p0)
def R_X4_countOfClosed_23 (K_4 : Int32 → Nat → Int32) (n : Nat) (v1_23 : Int32) : Int32 := (K_4 v1_23 (n + 1))
def R_X4_countOfClosed_4 (m : Nat → Int32) : Nat → Int32 → Nat → Int32
  | 0, _, _ => 0
  | f + 1, v1_4, n => (if (m 0) ≤ (nI n) then v1_4 else (if (R_X4_isOpen m (nI n)) = 0 then (R_X4_countOfClosed_23 (R_X4_countOfClosed_4 m f) n (v1_4 + 1)) else (R_X4_countOfClosed_23 (R_X4_countOfClosed_4 m f) n v1_4)))
def R_X4_countOfClosed (m : Nat → Int32) : Int32 := (R_X4_countOfClosed_4 m 8 0 0)
set_option maxRecDepth 100000 in
set_option maxHeartbeats 4000000 in
theorem walk_X4_countOfClosed {X : g_X} (O : g_ok X cX4_countOfClosed RX4 (some .int) ({ frames := 2, cells := 0, slots := 0, locals := 42 } : Room)) (hs : (g_xl X).stackTraces = false) (hn : g_xn X = 3) {q : g_q} {m : Nat → Int32} (p0 : (m 0).toInt ≤ 7) : g_V X (fun r : Int32 => ((.inl (some (.int r)), (m, q)) : g_Res)) (R_X4_countOfClosed m) 0 0 m q 0 [(0, .ref (g_ad X 1))] [] := by
  have hN : ∀ i, Nat.blt i 3 = true → i < g_xn X := fun i h => by rw [hn]; exact g_blt.mp h
  refine r_iconst (x := 0) O dX4_countOfClosed_0 rfl ?_
  refine r_istore_n (lc' := [(1, .int 0), (0, .ref (g_ad X 1))]) O dX4_countOfClosed_1 rfl (hN 1 rfl) rfl ?_
  refine r_iconst (x := 0) O dX4_countOfClosed_2 rfl ?_
  refine r_istore_n (lc' := [(2, .int 0), (1, .int 0), (0, .ref (g_ad X 1))]) O dX4_countOfClosed_3 rfl (hN 2 rfl) rfl ?_
  have L_4 : ∀ (f_4 : Nat) (v1_4 : Int32) (n : Nat) (hi_4 : n ≤ 7 ∧ 7 < f_4 + n), g_V X (fun r : Int32 => ((.inl (some (.int r)), (m, q)) : g_Res)) (R_X4_countOfClosed_4 m f_4 v1_4 n) 0 0 m q 4 [(0, .ref (g_ad X 1)), (1, .int v1_4), (2, .int (nI n))] [] := by
    intro f_4
    induction f_4 with
    | zero => intro v1_4 n hi_4; exact absurd hi_4 (by omega)
    | succ f_4 ih_4 =>
      intro v1_4 n hi_4
      have hc_n : (nI n).toInt = (n : Int) := nI_toInt (by omega)
      refine r_iload_n O 2 dX4_countOfClosed_4 rfl rfl ?_
      refine r_aload_n O 0 dX4_countOfClosed_5 rfl rfl ?_
      refine r_get O FX4_32 G_1_3 dX4_countOfClosed_6 ?_
      refine r_icmp_ge O 29 dX4_countOfClosed_9 (by decide) (fun c_9 => ?_) (fun c_9 => ?_)
      · have e_9 : (m 0).toInt ≤ (nI n).toInt := j_le c_9
        refine r_iload_n O 1 dX4_countOfClosed_29 rfl rfl ?_
        exact r_iret O dX4_countOfClosed_30 rfl (Nat.le_of_ble_eq_true rfl) (Nat.le_of_ble_eq_true rfl) rfl
      · have e_9 : (nI n).toInt < (m 0).toInt := j_nle c_9
        refine r_aload_n O 0 dX4_countOfClosed_12 rfl rfl ?_
        refine r_iload_n O 2 dX4_countOfClosed_13 rfl rfl ?_
        refine r_callVi O [.int (nI n)] [] (met_X4_isOpen (g_xl X) hs q m (nI n) (by first | decide | with_reducible assumption | with_reducible omega | (simp (disch := omega) only [g_upd_ne, g_upd_eq]; first | with_reducible assumption | with_reducible omega | decide) | exact Or.inl rfl | exact Or.inr rfl)) LX4_40 obj_1 rfl rfl rfl dX4_countOfClosed_14 rfl rfl ?_
        have J_23 : ∀ (v1_23 : Int32), g_V X (fun r : Int32 => ((.inl (some (.int r)), (m, q)) : g_Res)) (R_X4_countOfClosed_23 ((R_X4_countOfClosed_4 m f_4)) n v1_23) 0 0 m q 23 [(0, .ref (g_ad X 1)), (1, .int v1_23), (2, .int (nI n))] [] := by
          intro v1_23
          refine r_iinc (lc' := [(2, .int (nI (n + 1))), (0, .ref (g_ad X 1)), (1, .int v1_23)]) O 2 dX4_countOfClosed_23 rfl (nI_1 n) (hN 2 rfl) rfl ?_
          refine r_goto O 4 dX4_countOfClosed_26 (by decide) ?_
          refine r_sub [1, 2, 0] rfl ?_
          exact ih_4 v1_23 (n + 1) (by with_reducible omega)
        refine r_if_ne O 23 dX4_countOfClosed_17 (by decide) (fun c_17 => ?_) (fun c_17 => ?_)
        · have e_17 : (R_X4_isOpen m (nI n)).toInt = (0 : Int) := j_eqR c_17 rfl
          refine r_iinc (lc' := [(1, .int (v1_4 + 1)), (0, .ref (g_ad X 1)), (2, .int (nI n))]) O 1 dX4_countOfClosed_20 rfl rfl (hN 1 rfl) rfl ?_
          refine r_sub [1, 0, 2] rfl ?_
          exact J_23 (v1_4 + 1)
        · have e_17 : (R_X4_isOpen m (nI n)).toInt ≠ (0 : Int) := j_neR c_17 rfl
          exact J_23 v1_4
  refine r_sub [2, 1, 0] rfl ?_
  exact L_4 8 0 0 (by with_reducible omega)
theorem met_X4_countOfClosed (l : Launch) (hs : l.stackTraces = false) (q : g_q) (m : Nat → Int32) (p0 : (m 0).toInt ≤ 7) : g_SM l yX4_countOfClosed cX4_countOfClosed 3 (some .int) ({ frames := 2, cells := 0, slots := 0, locals := 42 } : Room) (fun ad => [.ref (ad 1)]) m q ((fun r : Int32 => ((.inl (some (.int r)), (m, q)) : g_Res)) (R_X4_countOfClosed m)) :=
  g_sm_of (by decide) (fun _ => Nat.le_of_ble_eq_true rfl) hs (fun X hl hn O => walk_X4_countOfClosed O (by rw [hl]; exact hs) hn p0)
