/-! ===== Ropes ===== -/
def R_X5_has (m : Nat → Int32) (x1 : Int32) : Int32 := (if x1 < 0 then 0 else (if (m 1) ≤ x1 then 0 else 1))
set_option maxRecDepth 100000 in
set_option maxHeartbeats 4000000 in
theorem walk_X5_has {X : g_X} (O : g_ok X cX5_has RX5 (some .boolean) ({ frames := 0, cells := 0, slots := 0, locals := 0 } : Room)) (hs : (g_xl X).stackTraces = false) (hn : g_xn X = 2) {q : g_q} {m : Nat → Int32} {x1 : Int32}  : g_V X (fun r : Int32 => ((.inl (some (.int r)), (m, q)) : g_Res)) (R_X5_has m x1) 0 0 m q 0 [(0, .ref (g_ad X 5)), (1, .int x1)] [] := by
  have hN : ∀ i, Nat.blt i 2 = true → i < g_xn X := fun i h => by rw [hn]; exact g_blt.mp h
  refine r_iload_n O 1 dX5_has_0 rfl rfl ?_
  refine r_if_lt O 16 dX5_has_1 (by decide) (fun c_1 => ?_) (fun c_1 => ?_)
  · have e_1 : (x1).toInt < (0 : Int) := j_ltR c_1 rfl
    refine r_iconst (x := 0) O dX5_has_16 rfl ?_
    exact r_iret O dX5_has_17 rfl (Nat.le_of_ble_eq_true rfl) (Nat.le_of_ble_eq_true rfl) rfl
  · have e_1 : (0 : Int) ≤ (x1).toInt := j_nltR c_1 rfl
    refine r_iload_n O 1 dX5_has_4 rfl rfl ?_
    refine r_aload_n O 0 dX5_has_5 rfl rfl ?_
    refine r_get O FX5_21 G_5_3 dX5_has_6 ?_
    refine r_icmp_ge O 16 dX5_has_9 (by decide) (fun c_9 => ?_) (fun c_9 => ?_)
    · have e_9 : (m 1).toInt ≤ (x1).toInt := j_le c_9
      refine r_iconst (x := 0) O dX5_has_16 rfl ?_
      exact r_iret O dX5_has_17 rfl (Nat.le_of_ble_eq_true rfl) (Nat.le_of_ble_eq_true rfl) rfl
    · have e_9 : (x1).toInt < (m 1).toInt := j_nle c_9
      refine r_iconst (x := 1) O dX5_has_12 rfl ?_
      refine r_goto O 17 dX5_has_13 (by decide) ?_
      exact r_iret O dX5_has_17 rfl (Nat.le_of_ble_eq_true rfl) (Nat.le_of_ble_eq_true rfl) rfl
theorem met_X5_has (l : Launch) (hs : l.stackTraces = false) (q : g_q) (m : Nat → Int32) (x1 : Int32)  : g_SM l yX5_has cX5_has 2 (some .boolean) ({ frames := 0, cells := 0, slots := 0, locals := 0 } : Room) (fun ad => [.ref (ad 5), .int x1]) m q ((fun r : Int32 => ((.inl (some (.int r)), (m, q)) : g_Res)) (R_X5_has m x1)) :=
  g_sm_of (by decide) (fun _ => Nat.le_of_ble_eq_true rfl) hs (fun X hl hn O => walk_X5_has O (by rw [hl]; exact hs) hn )
theorem nz_X5_has {m : Nat → Int32} {x1 : Int32} (h : ¬ R_X5_has m x1 = 0) : 0 ≤ x1.toInt ∧ x1.toInt < (m 1).toInt := by
  unfold R_X5_has at h
  by_cases a : x1 < 0
  · simp [a] at h
  · by_cases b : m 1 ≤ x1
    · simp [a, b] at h
    · exact ⟨j_nlt a, j_nle b⟩
def R_X5_put (m : Nat → Int32) (x1 : Int32) (x2 : Int32) (x3 : Int32) : (Nat → Int32) := (if (R_X5_has m x1) = 0 then m else (upd (upd m (35 + 3 * x1.toNatClampNeg) x2) (36 + 3 * x1.toNatClampNeg) x3))
set_option maxRecDepth 100000 in
set_option maxHeartbeats 4000000 in
theorem walk_X5_put {X : g_X} (O : g_ok X cX5_put RX5 none ({ frames := 1, cells := 0, slots := 0, locals := 21 } : Room)) (hs : (g_xl X).stackTraces = false) (hn : g_xn X = 4) {q : g_q} {m : Nat → Int32} {x1 : Int32} {x2 : Int32} {x3 : Int32} (p0 : (m 1).toInt ≤ 8) : g_V X (fun r : Nat → Int32 => ((.inl none, (r, q)) : g_Res)) (R_X5_put m x1 x2 x3) 0 0 m q 0 [(0, .ref (g_ad X 5)), (1, .int x1), (2, .int x2), (3, .int x3)] [] := by
  have hN : ∀ i, Nat.blt i 4 = true → i < g_xn X := fun i h => by rw [hn]; exact g_blt.mp h
  refine r_aload_n O 0 dX5_put_0 rfl rfl ?_
  refine r_iload_n O 1 dX5_put_1 rfl rfl ?_
  refine r_callVi O [.int x1] [] (met_X5_has (g_xl X) hs q m x1 ) LX5_29 obj_5 rfl rfl rfl dX5_put_2 rfl rfl ?_
  refine r_if_eq O 22 dX5_put_5 (by decide) (fun c_5 => ?_) (fun c_5 => ?_)
  · have e_5 : (R_X5_has m x1).toInt = (0 : Int) := j_eqR c_5 rfl
    exact r_vret O dX5_put_22 (Nat.le_of_ble_eq_true rfl) (Nat.le_of_ble_eq_true rfl) rfl
  · have e_5 : (R_X5_has m x1).toInt ≠ (0 : Int) := j_neR c_5 rfl
    obtain ⟨z_5a, z_5b⟩ := nz_X5_has c_5
    refine r_aload_n O 0 dX5_put_8 rfl rfl ?_
    refine r_get O FX5_15 G_5_1 dX5_put_9 ?_
    refine r_iload_n O 1 dX5_put_12 rfl rfl ?_
    refine r_iload_n O 2 dX5_put_13 rfl rfl ?_
    refine r_iastc O T_7 (show vp_in x1 8 from g_vin (by with_reducible omega) (by with_reducible omega)) dX5_put_14 ?_
    refine r_aload_n O 0 dX5_put_15 rfl rfl ?_
    refine r_get O FX5_18 G_5_2 dX5_put_16 ?_
    refine r_iload_n O 1 dX5_put_19 rfl rfl ?_
    refine r_iload_n O 3 dX5_put_20 rfl rfl ?_
    refine r_iastc O T_8 (show vp_in x1 8 from g_vin (by with_reducible omega) (by with_reducible omega)) dX5_put_21 ?_
    exact r_vret O dX5_put_22 (Nat.le_of_ble_eq_true rfl) (Nat.le_of_ble_eq_true rfl) rfl
theorem met_X5_put (l : Launch) (hs : l.stackTraces = false) (q : g_q) (m : Nat → Int32) (x1 : Int32) (x2 : Int32) (x3 : Int32) (p0 : (m 1).toInt ≤ 8) : g_SM l yX5_put cX5_put 4 none ({ frames := 1, cells := 0, slots := 0, locals := 21 } : Room) (fun ad => [.ref (ad 5), .int x1, .int x2, .int x3]) m q ((fun r : Nat → Int32 => ((.inl none, (r, q)) : g_Res)) (R_X5_put m x1 x2 x3)) :=
  g_sm_of (by decide) (fun _ => Nat.le_of_ble_eq_true rfl) hs (fun X hl hn O => walk_X5_put O (by rw [hl]; exact hs) hn p0)
theorem fr_X5_put {m : Nat → Int32} {a b c : Int32} {n : Nat} (h : n < 34) : R_X5_put m a b c n = m n := by
  unfold R_X5_put
  split
  · rfl
  · rw [g_upd_ne (by omega), g_upd_ne (by omega)]
def R_X5_addOne (m : Nat → Int32) (x1 : Int32) : (Int32 × (Nat → Int32)) := (if (m 1) < 8 then ((m 1), (R_X5_put (upd (upd m (34 + 3 * (m 1).toNatClampNeg) x1) 1 (((upd m (34 + 3 * (m 1).toNatClampNeg) x1) 1) + 1)) (m 1) 0 0)) else ((-1), m))
set_option maxRecDepth 100000 in
set_option maxHeartbeats 4000000 in
theorem walk_X5_addOne {X : g_X} (O : g_ok X cX5_addOne RX5 (some .int) ({ frames := 2, cells := 0, slots := 0, locals := 44 } : Room)) (hs : (g_xl X).stackTraces = false) (hn : g_xn X = 3) {q : g_q} {m : Nat → Int32} {x1 : Int32} (p0 : 0 ≤ (m 1).toInt) (p1 : (m 1).toInt ≤ 8) : g_V X (fun r : Int32 × (Nat → Int32) => ((.inl (some (.int r.1)), (r.2, q)) : g_Res)) (R_X5_addOne m x1) 0 0 m q 0 [(0, .ref (g_ad X 5)), (1, .int x1)] [] := by
  have hN : ∀ i, Nat.blt i 3 = true → i < g_xn X := fun i h => by rw [hn]; exact g_blt.mp h
  refine r_aload_n O 0 dX5_addOne_0 rfl rfl ?_
  refine r_get O FX5_21 G_5_3 dX5_addOne_1 ?_
  refine r_istore_n (lc' := [(2, .int (m 1)), (0, .ref (g_ad X 5)), (1, .int x1)]) O dX5_addOne_4 rfl (hN 2 rfl) rfl ?_
  refine r_iload_n O 0 dX5_addOne_5 rfl rfl ?_
  refine r_bipush (x := 8) O dX5_addOne_6 rfl ?_
  refine r_icmp_lt O 13 dX5_addOne_8 (by decide) (fun c_8 => ?_) (fun c_8 => ?_)
  · have e_8 : (m 1).toInt < (8 : Int) := j_ltR c_8 rfl
    refine r_aload_n O 1 dX5_addOne_13 rfl rfl ?_
    refine r_get O FX5_9 G_5_0 dX5_addOne_14 ?_
    refine r_iload_n O 0 dX5_addOne_17 rfl rfl ?_
    refine r_iload_n O 2 dX5_addOne_18 rfl rfl ?_
    refine r_iastc O T_6 (show vp_in (m 1) 8 from g_vin (by with_reducible omega) (by with_reducible omega)) dX5_addOne_19 ?_
    refine r_aload_n O 1 dX5_addOne_20 rfl rfl ?_
    refine r_dup O dX5_addOne_21 rfl ?_
    refine r_get O FX5_21 G_5_3 dX5_addOne_22 ?_
    refine r_iconst (x := 1) O dX5_addOne_25 rfl ?_
    refine r_iadd O dX5_addOne_26 ?_
    refine r_put O (FPX5_21 (((upd m (34 + 3 * (m 1).toNatClampNeg) x1) 1) + 1)) (S_5_3 (((upd m (34 + 3 * (m 1).toNatClampNeg) x1) 1) + 1)) dX5_addOne_27 ?_
    refine r_aload_n O 1 dX5_addOne_30 rfl rfl ?_
    refine r_iload_n O 0 dX5_addOne_31 rfl rfl ?_
    refine r_iconst (x := 0) O dX5_addOne_32 rfl ?_
    refine r_iconst (x := 0) O dX5_addOne_33 rfl ?_
    refine r_callVv O [.int (m 1), .int 0, .int 0] [] (met_X5_put (g_xl X) hs q (upd (upd m (34 + 3 * (m 1).toNatClampNeg) x1) 1 (((upd m (34 + 3 * (m 1).toNatClampNeg) x1) 1) + 1)) (m 1) 0 0 (by rw [g_upd_eq, g_upd_ne (by omega), j_add1 (by omega)]; omega)) LX5_25 obj_5 rfl rfl rfl dX5_addOne_34 rfl rfl ?_
    refine r_iload_n O 0 dX5_addOne_37 rfl rfl ?_
    exact r_iret O dX5_addOne_38 rfl (Nat.le_of_ble_eq_true rfl) (Nat.le_of_ble_eq_true rfl) rfl
  · have e_8 : (8 : Int) ≤ (m 1).toInt := j_nltR c_8 rfl
    refine r_iconst (x := (-1)) O dX5_addOne_11 rfl ?_
    exact r_iret O dX5_addOne_12 rfl (Nat.le_of_ble_eq_true rfl) (Nat.le_of_ble_eq_true rfl) rfl
theorem met_X5_addOne (l : Launch) (hs : l.stackTraces = false) (q : g_q) (m : Nat → Int32) (x1 : Int32) (p0 : 0 ≤ (m 1).toInt) (p1 : (m 1).toInt ≤ 8) : g_SM l yX5_addOne cX5_addOne 3 (some .int) ({ frames := 2, cells := 0, slots := 0, locals := 44 } : Room) (fun ad => [.ref (ad 5), .int x1]) m q ((fun r : Int32 × (Nat → Int32) => ((.inl (some (.int r.1)), (r.2, q)) : g_Res)) (R_X5_addOne m x1)) :=
  g_sm_of (by decide) (fun _ => Nat.le_of_ble_eq_true rfl) hs (fun X hl hn O => walk_X5_addOne O (by rw [hl]; exact hs) hn p0 p1)
def R_X5_lengthOf (m : Nat → Int32) (x1 : Int32) : Int32 := (if (R_X5_has m x1) = 0 then 0 else (m (34 + 3 * x1.toNatClampNeg)))
set_option maxRecDepth 100000 in
set_option maxHeartbeats 4000000 in
theorem walk_X5_lengthOf {X : g_X} (O : g_ok X cX5_lengthOf RX5 (some .int) ({ frames := 1, cells := 0, slots := 0, locals := 21 } : Room)) (hs : (g_xl X).stackTraces = false) (hn : g_xn X = 2) {q : g_q} {m : Nat → Int32} {x1 : Int32} (p0 : (m 1).toInt ≤ 8) : g_V X (fun r : Int32 => ((.inl (some (.int r)), (m, q)) : g_Res)) (R_X5_lengthOf m x1) 0 0 m q 0 [(0, .ref (g_ad X 5)), (1, .int x1)] [] := by
  have hN : ∀ i, Nat.blt i 2 = true → i < g_xn X := fun i h => by rw [hn]; exact g_blt.mp h
  refine r_aload_n O 0 dX5_lengthOf_0 rfl rfl ?_
  refine r_iload_n O 1 dX5_lengthOf_1 rfl rfl ?_
  refine r_callVi O [.int x1] [] (met_X5_has (g_xl X) hs q m x1 ) LX5_29 obj_5 rfl rfl rfl dX5_lengthOf_2 rfl rfl ?_
  refine r_if_eq O 17 dX5_lengthOf_5 (by decide) (fun c_5 => ?_) (fun c_5 => ?_)
  · have e_5 : (R_X5_has m x1).toInt = (0 : Int) := j_eqR c_5 rfl
    refine r_iconst (x := 0) O dX5_lengthOf_17 rfl ?_
    exact r_iret O dX5_lengthOf_18 rfl (Nat.le_of_ble_eq_true rfl) (Nat.le_of_ble_eq_true rfl) rfl
  · have e_5 : (R_X5_has m x1).toInt ≠ (0 : Int) := j_neR c_5 rfl
    obtain ⟨z_5a, z_5b⟩ := nz_X5_has c_5
    refine r_aload_n O 0 dX5_lengthOf_8 rfl rfl ?_
    refine r_get O FX5_9 G_5_0 dX5_lengthOf_9 ?_
    refine r_iload_n O 1 dX5_lengthOf_12 rfl rfl ?_
    refine r_iald O R_6 (show vp_in x1 8 from g_vin (by with_reducible omega) (by with_reducible omega)) dX5_lengthOf_13 ?_
    refine r_goto O 18 dX5_lengthOf_14 (by decide) ?_
    exact r_iret O dX5_lengthOf_18 rfl (Nat.le_of_ble_eq_true rfl) (Nat.le_of_ble_eq_true rfl) rfl
theorem met_X5_lengthOf (l : Launch) (hs : l.stackTraces = false) (q : g_q) (m : Nat → Int32) (x1 : Int32) (p0 : (m 1).toInt ≤ 8) : g_SM l yX5_lengthOf cX5_lengthOf 2 (some .int) ({ frames := 1, cells := 0, slots := 0, locals := 21 } : Room) (fun ad => [.ref (ad 5), .int x1]) m q ((fun r : Int32 => ((.inl (some (.int r)), (m, q)) : g_Res)) (R_X5_lengthOf m x1)) :=
  g_sm_of (by decide) (fun _ => Nat.le_of_ble_eq_true rfl) hs (fun X hl hn O => walk_X5_lengthOf O (by rw [hl]; exact hs) hn p0)
def R_X5_liesAt (m : Nat → Int32) (x1 : Int32) (x2 : Int32) : Int32 := (if (R_X5_has m x1) = 0 then 0 else (if (m (35 + 3 * x1.toNatClampNeg)) = 0 then (if (m (36 + 3 * x1.toNatClampNeg)) = x2 then 1 else 0) else 0))
set_option maxRecDepth 100000 in
set_option maxHeartbeats 4000000 in
theorem walk_X5_liesAt {X : g_X} (O : g_ok X cX5_liesAt RX5 (some .boolean) ({ frames := 1, cells := 0, slots := 0, locals := 21 } : Room)) (hs : (g_xl X).stackTraces = false) (hn : g_xn X = 3) {q : g_q} {m : Nat → Int32} {x1 : Int32} {x2 : Int32} (p0 : (m 1).toInt ≤ 8) : g_V X (fun r : Int32 => ((.inl (some (.int r)), (m, q)) : g_Res)) (R_X5_liesAt m x1 x2) 0 0 m q 0 [(0, .ref (g_ad X 5)), (1, .int x1), (2, .int x2)] [] := by
  have hN : ∀ i, Nat.blt i 3 = true → i < g_xn X := fun i h => by rw [hn]; exact g_blt.mp h
  refine r_aload_n O 0 dX5_liesAt_0 rfl rfl ?_
  refine r_iload_n O 1 dX5_liesAt_1 rfl rfl ?_
  refine r_callVi O [.int x1] [] (met_X5_has (g_xl X) hs q m x1 ) LX5_29 obj_5 rfl rfl rfl dX5_liesAt_2 rfl rfl ?_
  refine r_if_eq O 31 dX5_liesAt_5 (by decide) (fun c_5 => ?_) (fun c_5 => ?_)
  · have e_5 : (R_X5_has m x1).toInt = (0 : Int) := j_eqR c_5 rfl
    refine r_iconst (x := 0) O dX5_liesAt_31 rfl ?_
    exact r_iret O dX5_liesAt_32 rfl (Nat.le_of_ble_eq_true rfl) (Nat.le_of_ble_eq_true rfl) rfl
  · have e_5 : (R_X5_has m x1).toInt ≠ (0 : Int) := j_neR c_5 rfl
    obtain ⟨z_5a, z_5b⟩ := nz_X5_has c_5
    refine r_aload_n O 0 dX5_liesAt_8 rfl rfl ?_
    refine r_get O FX5_15 G_5_1 dX5_liesAt_9 ?_
    refine r_iload_n O 1 dX5_liesAt_12 rfl rfl ?_
    refine r_iald O R_7 (show vp_in x1 8 from g_vin (by with_reducible omega) (by with_reducible omega)) dX5_liesAt_13 ?_
    refine r_if_ne O 31 dX5_liesAt_14 (by decide) (fun c_14 => ?_) (fun c_14 => ?_)
    · have e_14 : (m (35 + 3 * x1.toNatClampNeg)).toInt = (0 : Int) := j_eqR c_14 rfl
      refine r_aload_n O 0 dX5_liesAt_17 rfl rfl ?_
      refine r_get O FX5_18 G_5_2 dX5_liesAt_18 ?_
      refine r_iload_n O 1 dX5_liesAt_21 rfl rfl ?_
      refine r_iald O R_8 (show vp_in x1 8 from g_vin (by with_reducible omega) (by with_reducible omega)) dX5_liesAt_22 ?_
      refine r_iload_n O 2 dX5_liesAt_23 rfl rfl ?_
      refine r_icmp_ne O 31 dX5_liesAt_24 (by decide) (fun c_24 => ?_) (fun c_24 => ?_)
      · have e_24 : (m (36 + 3 * x1.toNatClampNeg)).toInt = (x2).toInt := j_eq c_24
        refine r_iconst (x := 1) O dX5_liesAt_27 rfl ?_
        refine r_goto O 32 dX5_liesAt_28 (by decide) ?_
        exact r_iret O dX5_liesAt_32 rfl (Nat.le_of_ble_eq_true rfl) (Nat.le_of_ble_eq_true rfl) rfl
      · have e_24 : (m (36 + 3 * x1.toNatClampNeg)).toInt ≠ (x2).toInt := j_ne c_24
        refine r_iconst (x := 0) O dX5_liesAt_31 rfl ?_
        exact r_iret O dX5_liesAt_32 rfl (Nat.le_of_ble_eq_true rfl) (Nat.le_of_ble_eq_true rfl) rfl
    · have e_14 : (m (35 + 3 * x1.toNatClampNeg)).toInt ≠ (0 : Int) := j_neR c_14 rfl
      refine r_iconst (x := 0) O dX5_liesAt_31 rfl ?_
      exact r_iret O dX5_liesAt_32 rfl (Nat.le_of_ble_eq_true rfl) (Nat.le_of_ble_eq_true rfl) rfl
theorem met_X5_liesAt (l : Launch) (hs : l.stackTraces = false) (q : g_q) (m : Nat → Int32) (x1 : Int32) (x2 : Int32) (p0 : (m 1).toInt ≤ 8) : g_SM l yX5_liesAt cX5_liesAt 3 (some .boolean) ({ frames := 1, cells := 0, slots := 0, locals := 21 } : Room) (fun ad => [.ref (ad 5), .int x1, .int x2]) m q ((fun r : Int32 => ((.inl (some (.int r)), (m, q)) : g_Res)) (R_X5_liesAt m x1 x2)) :=
  g_sm_of (by decide) (fun _ => Nat.le_of_ble_eq_true rfl) hs (fun X hl hn O => walk_X5_liesAt O (by rw [hl]; exact hs) hn p0)
def R_X5_holds (m : Nat → Int32) (x1 : Int32) (x2 : Int32) : Int32 := (if (R_X5_has m x1) = 0 then 0 else (if (m (34 + 3 * x1.toNatClampNeg)) < (x2 + 3) then 0 else 1))
set_option maxRecDepth 100000 in
set_option maxHeartbeats 4000000 in
theorem walk_X5_holds {X : g_X} (O : g_ok X cX5_holds RX5 (some .boolean) ({ frames := 1, cells := 0, slots := 0, locals := 21 } : Room)) (hs : (g_xl X).stackTraces = false) (hn : g_xn X = 3) {q : g_q} {m : Nat → Int32} {x1 : Int32} {x2 : Int32} (p0 : (m 1).toInt ≤ 8) : g_V X (fun r : Int32 => ((.inl (some (.int r)), (m, q)) : g_Res)) (R_X5_holds m x1 x2) 0 0 m q 0 [(0, .ref (g_ad X 5)), (1, .int x1), (2, .int x2)] [] := by
  have hN : ∀ i, Nat.blt i 3 = true → i < g_xn X := fun i h => by rw [hn]; exact g_blt.mp h
  refine r_aload_n O 0 dX5_holds_0 rfl rfl ?_
  refine r_iload_n O 1 dX5_holds_1 rfl rfl ?_
  refine r_callVi O [.int x1] [] (met_X5_has (g_xl X) hs q m x1 ) LX5_29 obj_5 rfl rfl rfl dX5_holds_2 rfl rfl ?_
  refine r_if_eq O 24 dX5_holds_5 (by decide) (fun c_5 => ?_) (fun c_5 => ?_)
  · have e_5 : (R_X5_has m x1).toInt = (0 : Int) := j_eqR c_5 rfl
    refine r_iconst (x := 0) O dX5_holds_24 rfl ?_
    exact r_iret O dX5_holds_25 rfl (Nat.le_of_ble_eq_true rfl) (Nat.le_of_ble_eq_true rfl) rfl
  · have e_5 : (R_X5_has m x1).toInt ≠ (0 : Int) := j_neR c_5 rfl
    obtain ⟨z_5a, z_5b⟩ := nz_X5_has c_5
    refine r_aload_n O 0 dX5_holds_8 rfl rfl ?_
    refine r_get O FX5_9 G_5_0 dX5_holds_9 ?_
    refine r_iload_n O 1 dX5_holds_12 rfl rfl ?_
    refine r_iald O R_6 (show vp_in x1 8 from g_vin (by with_reducible omega) (by with_reducible omega)) dX5_holds_13 ?_
    refine r_iload_n O 2 dX5_holds_14 rfl rfl ?_
    refine r_iconst (x := 3) O dX5_holds_15 rfl ?_
    refine r_iadd O dX5_holds_16 ?_
    refine r_icmp_lt O 24 dX5_holds_17 (by decide) (fun c_17 => ?_) (fun c_17 => ?_)
    · have e_17 : (m (34 + 3 * x1.toNatClampNeg)).toInt < (x2 + 3).toInt := j_lt c_17
      refine r_iconst (x := 0) O dX5_holds_24 rfl ?_
      exact r_iret O dX5_holds_25 rfl (Nat.le_of_ble_eq_true rfl) (Nat.le_of_ble_eq_true rfl) rfl
    · have e_17 : (x2 + 3).toInt ≤ (m (34 + 3 * x1.toNatClampNeg)).toInt := j_nlt c_17
      refine r_iconst (x := 1) O dX5_holds_20 rfl ?_
      refine r_goto O 25 dX5_holds_21 (by decide) ?_
      exact r_iret O dX5_holds_25 rfl (Nat.le_of_ble_eq_true rfl) (Nat.le_of_ble_eq_true rfl) rfl
theorem met_X5_holds (l : Launch) (hs : l.stackTraces = false) (q : g_q) (m : Nat → Int32) (x1 : Int32) (x2 : Int32) (p0 : (m 1).toInt ≤ 8) : g_SM l yX5_holds cX5_holds 3 (some .boolean) ({ frames := 1, cells := 0, slots := 0, locals := 21 } : Room) (fun ad => [.ref (ad 5), .int x1, .int x2]) m q ((fun r : Int32 => ((.inl (some (.int r)), (m, q)) : g_Res)) (R_X5_holds m x1 x2)) :=
  g_sm_of (by decide) (fun _ => Nat.le_of_ble_eq_true rfl) hs (fun X hl hn O => walk_X5_holds O (by rw [hl]; exact hs) hn p0)
def R_X5_about (m : Nat → Int32) (x1 : Int32) (x2 : Int32) : Int32 := (if (R_X5_has m x1) = 0 then (-1) else (if x2 = 0 then (m (34 + 3 * x1.toNatClampNeg)) else (if x2 = 1 then (m (35 + 3 * x1.toNatClampNeg)) else (m (36 + 3 * x1.toNatClampNeg)))))
set_option maxRecDepth 100000 in
set_option maxHeartbeats 4000000 in
theorem walk_X5_about {X : g_X} (O : g_ok X cX5_about RX5 (some .int) ({ frames := 1, cells := 0, slots := 0, locals := 21 } : Room)) (hs : (g_xl X).stackTraces = false) (hn : g_xn X = 3) {q : g_q} {m : Nat → Int32} {x1 : Int32} {x2 : Int32} (p0 : (m 1).toInt ≤ 8) : g_V X (fun r : Int32 => ((.inl (some (.int r)), (m, q)) : g_Res)) (R_X5_about m x1 x2) 0 0 m q 0 [(0, .ref (g_ad X 5)), (1, .int x1), (2, .int x2)] [] := by
  have hN : ∀ i, Nat.blt i 3 = true → i < g_xn X := fun i h => by rw [hn]; exact g_blt.mp h
  refine r_aload_n O 0 dX5_about_0 rfl rfl ?_
  refine r_iload_n O 1 dX5_about_1 rfl rfl ?_
  refine r_callVi O [.int x1] [] (met_X5_has (g_xl X) hs q m x1 ) LX5_29 obj_5 rfl rfl rfl dX5_about_2 rfl rfl ?_
  refine r_if_ne O 10 dX5_about_5 (by decide) (fun c_5 => ?_) (fun c_5 => ?_)
  · have e_5 : (R_X5_has m x1).toInt = (0 : Int) := j_eqR c_5 rfl
    refine r_iconst (x := (-1)) O dX5_about_8 rfl ?_
    exact r_iret O dX5_about_9 rfl (Nat.le_of_ble_eq_true rfl) (Nat.le_of_ble_eq_true rfl) rfl
  · have e_5 : (R_X5_has m x1).toInt ≠ (0 : Int) := j_neR c_5 rfl
    obtain ⟨z_5a, z_5b⟩ := nz_X5_has c_5
    refine r_iload_n O 2 dX5_about_10 rfl rfl ?_
    refine g_if (fun c_11_0 => ?_) (fun c_11_0 => ?_)
    · refine r_lookup O (off := 25) 36 dX5_about_11 rfl (by show Op.lookupswitch.offset [(0, 25), (1, 32)] 39 _ = 25; rw [c_11_0] <;> rfl) (by decide) ?_
      refine r_aload_n O 0 dX5_about_36 rfl rfl ?_
      refine r_get O FX5_9 G_5_0 dX5_about_37 ?_
      refine r_iload_n O 1 dX5_about_40 rfl rfl ?_
      refine r_iald O R_6 (show vp_in x1 8 from g_vin (by with_reducible omega) (by with_reducible omega)) dX5_about_41 ?_
      exact r_iret O dX5_about_42 rfl (Nat.le_of_ble_eq_true rfl) (Nat.le_of_ble_eq_true rfl) rfl
    · refine g_if (fun c_11_1 => ?_) (fun c_11_1 => ?_)
      · refine r_lookup O (off := 32) 43 dX5_about_11 rfl (by show Op.lookupswitch.offset [(0, 25), (1, 32)] 39 _ = 32; rw [lv_osw (a := 0) c_11_0 rfl, c_11_1] <;> rfl) (by decide) ?_
        refine r_aload_n O 0 dX5_about_43 rfl rfl ?_
        refine r_get O FX5_15 G_5_1 dX5_about_44 ?_
        refine r_iload_n O 1 dX5_about_47 rfl rfl ?_
        refine r_iald O R_7 (show vp_in x1 8 from g_vin (by with_reducible omega) (by with_reducible omega)) dX5_about_48 ?_
        exact r_iret O dX5_about_49 rfl (Nat.le_of_ble_eq_true rfl) (Nat.le_of_ble_eq_true rfl) rfl
      · refine r_lookup O (off := 39) 50 dX5_about_11 rfl (by show Op.lookupswitch.offset [(0, 25), (1, 32)] 39 _ = 39; rw [lv_osw (a := 0) c_11_0 rfl, lv_osw (a := 1) c_11_1 rfl] <;> rfl) (by decide) ?_
        refine r_aload_n O 0 dX5_about_50 rfl rfl ?_
        refine r_get O FX5_18 G_5_2 dX5_about_51 ?_
        refine r_iload_n O 1 dX5_about_54 rfl rfl ?_
        refine r_iald O R_8 (show vp_in x1 8 from g_vin (by with_reducible omega) (by with_reducible omega)) dX5_about_55 ?_
        exact r_iret O dX5_about_56 rfl (Nat.le_of_ble_eq_true rfl) (Nat.le_of_ble_eq_true rfl) rfl
theorem met_X5_about (l : Launch) (hs : l.stackTraces = false) (q : g_q) (m : Nat → Int32) (x1 : Int32) (x2 : Int32) (p0 : (m 1).toInt ≤ 8) : g_SM l yX5_about cX5_about 3 (some .int) ({ frames := 1, cells := 0, slots := 0, locals := 21 } : Room) (fun ad => [.ref (ad 5), .int x1, .int x2]) m q ((fun r : Int32 => ((.inl (some (.int r)), (m, q)) : g_Res)) (R_X5_about m x1 x2)) :=
  g_sm_of (by decide) (fun _ => Nat.le_of_ble_eq_true rfl) hs (fun X hl hn O => walk_X5_about O (by rw [hl]; exact hs) hn p0)
