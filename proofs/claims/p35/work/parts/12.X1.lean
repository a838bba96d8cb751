/-! ===== Helper ===== -/
def R_X1_startAnew (m : Nat → Int32) (h : Nat) (x1 : Int32) : (Nat → Int32) := (upd (upd (upd (upd (upd (upd (upd (upd (upd m (58 + 9 * h + 0) x1) (58 + 9 * h + 1) 0) (58 + 9 * h + 2) 0) (58 + 9 * h + 3) (-1)) (58 + 9 * h + 4) 0) (58 + 9 * h + 5) (-1)) (58 + 9 * h + 6) 0) (58 + 9 * h + 7) 0) (58 + 9 * h + 8) 0)
set_option maxRecDepth 100000 in
set_option maxHeartbeats 4000000 in
theorem walk_X1_startAnew {X : g_X} (O : g_ok X cX1_startAnew RX1 none ({ frames := 0, cells := 0, slots := 0, locals := 0 } : Room)) (hs : (g_xl X).stackTraces = false) (hn : g_xn X = 2) {q : g_q} {m : Nat → Int32} {h : Nat} {x1 : Int32} (p0 : h < 6) : g_V X (fun r : Nat → Int32 => ((.inl none, (r, q)) : g_Res)) (R_X1_startAnew m h x1) 0 0 m q 0 [(0, .ref (g_ad X (10 + h))), (1, .int x1)] [] := by
  have hN : ∀ i, Nat.blt i 2 = true → i < g_xn X := fun i h => by rw [hn]; exact g_blt.mp h
  have hh := p0
  refine r_aload_n O 0 dX1_startAnew_0 rfl rfl ?_
  refine r_iload_n O 1 dX1_startAnew_1 rfl rfl ?_
  refine r_put O (FPX1_9 x1) (S_h (h := h) (j := 0) x1 hh (by decide)) dX1_startAnew_2 ?_
  refine r_aload_n O 0 dX1_startAnew_5 rfl rfl ?_
  refine r_iconst (x := 0) O dX1_startAnew_6 rfl ?_
  refine r_put O (FPX1_15 0) (S_h (h := h) (j := 1) 0 hh (by decide)) dX1_startAnew_7 ?_
  refine r_aload_n O 0 dX1_startAnew_10 rfl rfl ?_
  refine r_iconst (x := 0) O dX1_startAnew_11 rfl ?_
  refine r_put O (FPX1_18 0) (S_h (h := h) (j := 2) 0 hh (by decide)) dX1_startAnew_12 ?_
  refine r_aload_n O 0 dX1_startAnew_15 rfl rfl ?_
  refine r_iconst (x := (-1)) O dX1_startAnew_16 rfl ?_
  refine r_put O (FPX1_21 (-1)) (S_h (h := h) (j := 3) (-1) hh (by decide)) dX1_startAnew_17 ?_
  refine r_aload_n O 0 dX1_startAnew_20 rfl rfl ?_
  refine r_iconst (x := 0) O dX1_startAnew_21 rfl ?_
  refine r_put O (FPX1_24 0) (S_h (h := h) (j := 4) 0 hh (by decide)) dX1_startAnew_22 ?_
  refine r_aload_n O 0 dX1_startAnew_25 rfl rfl ?_
  refine r_iconst (x := (-1)) O dX1_startAnew_26 rfl ?_
  refine r_put O (FPX1_27 (-1)) (S_h (h := h) (j := 5) (-1) hh (by decide)) dX1_startAnew_27 ?_
  refine r_aload_n O 0 dX1_startAnew_30 rfl rfl ?_
  refine r_iconst (x := 0) O dX1_startAnew_31 rfl ?_
  refine r_put O (FPX1_30 0) (S_h (h := h) (j := 6) 0 hh (by decide)) dX1_startAnew_32 ?_
  refine r_aload_n O 0 dX1_startAnew_35 rfl rfl ?_
  refine r_iconst (x := 0) O dX1_startAnew_36 rfl ?_
  refine r_put O (FPX1_33 0) (S_h (h := h) (j := 7) 0 hh (by decide)) dX1_startAnew_37 ?_
  refine r_aload_n O 0 dX1_startAnew_40 rfl rfl ?_
  refine r_iconst (x := 0) O dX1_startAnew_41 rfl ?_
  refine r_put O (FPX1_36 (Or.inl rfl)) (S_h (h := h) (j := 8) 0 hh (by decide)) dX1_startAnew_42 ?_
  exact r_vret O dX1_startAnew_45 (Nat.le_of_ble_eq_true rfl) (Nat.le_of_ble_eq_true rfl) rfl
theorem met_X1_startAnew (l : Launch) (hs : l.stackTraces = false) (q : g_q) (m : Nat → Int32) (h : Nat) (x1 : Int32) (p0 : h < 6) : g_SM l yX1_startAnew cX1_startAnew 2 none ({ frames := 0, cells := 0, slots := 0, locals := 0 } : Room) (fun ad => [.ref (ad (10 + h)), .int x1]) m q ((fun r : Nat → Int32 => ((.inl none, (r, q)) : g_Res)) (R_X1_startAnew m h x1)) :=
  g_sm_of (by decide) (fun _ => Nat.le_of_ble_eq_true rfl) hs (fun X hl hn O => walk_X1_startAnew O (by rw [hl]; exact hs) hn p0)
theorem fr_X1_startAnew {m : Nat → Int32} {h : Nat} {a : Int32} {n : Nat} (hn : n < 58) : R_X1_startAnew m h a n = m n := by
  unfold R_X1_startAnew
  simp (disch := omega) only [g_upd_ne]
def R_X1_walkTo (m : Nat → Int32) (h : Nat) (x1 : Int32) (x2 : Int32) : (Nat → Int32) := (upd (upd (upd m (58 + 9 * h + 2) 1) (58 + 9 * h + 3) x1) (58 + 9 * h + 4) x2)
set_option maxRecDepth 100000 in
set_option maxHeartbeats 4000000 in
theorem walk_X1_walkTo {X : g_X} (O : g_ok X cX1_walkTo RX1 none ({ frames := 0, cells := 0, slots := 0, locals := 0 } : Room)) (hs : (g_xl X).stackTraces = false) (hn : g_xn X = 3) {q : g_q} {m : Nat → Int32} {h : Nat} {x1 : Int32} {x2 : Int32} (p0 : h < 6) : g_V X (fun r : Nat → Int32 => ((.inl none, (r, q)) : g_Res)) (R_X1_walkTo m h x1 x2) 0 0 m q 0 [(0, .ref (g_ad X (10 + h))), (1, .int x1), (2, .int x2)] [] := by
  have hN : ∀ i, Nat.blt i 3 = true → i < g_xn X := fun i h => by rw [hn]; exact g_blt.mp h
  have hh := p0
  refine r_aload_n O 0 dX1_walkTo_0 rfl rfl ?_
  refine r_iconst (x := 1) O dX1_walkTo_1 rfl ?_
  refine r_put O (FPX1_18 1) (S_h (h := h) (j := 2) 1 hh (by decide)) dX1_walkTo_2 ?_
  refine r_aload_n O 0 dX1_walkTo_5 rfl rfl ?_
  refine r_iload_n O 1 dX1_walkTo_6 rfl rfl ?_
  refine r_put O (FPX1_21 x1) (S_h (h := h) (j := 3) x1 hh (by decide)) dX1_walkTo_7 ?_
  refine r_aload_n O 0 dX1_walkTo_10 rfl rfl ?_
  refine r_iload_n O 2 dX1_walkTo_11 rfl rfl ?_
  refine r_put O (FPX1_24 x2) (S_h (h := h) (j := 4) x2 hh (by decide)) dX1_walkTo_12 ?_
  exact r_vret O dX1_walkTo_15 (Nat.le_of_ble_eq_true rfl) (Nat.le_of_ble_eq_true rfl) rfl
theorem met_X1_walkTo (l : Launch) (hs : l.stackTraces = false) (q : g_q) (m : Nat → Int32) (h : Nat) (x1 : Int32) (x2 : Int32) (p0 : h < 6) : g_SM l yX1_walkTo cX1_walkTo 3 none ({ frames := 0, cells := 0, slots := 0, locals := 0 } : Room) (fun ad => [.ref (ad (10 + h)), .int x1, .int x2]) m q ((fun r : Nat → Int32 => ((.inl none, (r, q)) : g_Res)) (R_X1_walkTo m h x1 x2)) :=
  g_sm_of (by decide) (fun _ => Nat.le_of_ble_eq_true rfl) hs (fun X hl hn O => walk_X1_walkTo O (by rw [hl]; exact hs) hn p0)
theorem fr_X1_walkTo {m : Nat → Int32} {h : Nat} {a b : Int32} {n : Nat} (hn : n < 58) : R_X1_walkTo m h a b n = m n := by
  unfold R_X1_walkTo
  simp (disch := omega) only [g_upd_ne]
def R_X1_arrive (m : Nat → Int32) (h : Nat) : (Nat → Int32) := (upd (upd (upd m (58 + 9 * h + 1) (m (58 + 9 * h + 3))) (58 + 9 * h + 3) (-1)) (58 + 9 * h + 2) 0)
set_option maxRecDepth 100000 in
set_option maxHeartbeats 4000000 in
theorem walk_X1_arrive {X : g_X} (O : g_ok X cX1_arrive RX1 none ({ frames := 0, cells := 0, slots := 0, locals := 0 } : Room)) (hs : (g_xl X).stackTraces = false) (hn : g_xn X = 1) {q : g_q} {m : Nat → Int32} {h : Nat} (p0 : h < 6) : g_V X (fun r : Nat → Int32 => ((.inl none, (r, q)) : g_Res)) (R_X1_arrive m h) 0 0 m q 0 [(0, .ref (g_ad X (10 + h)))] [] := by
  have hN : ∀ i, Nat.blt i 1 = true → i < g_xn X := fun i h => by rw [hn]; exact g_blt.mp h
  have hh := p0
  refine r_aload_n O 0 dX1_arrive_0 rfl rfl ?_
  refine r_aload_n O 0 dX1_arrive_1 rfl rfl ?_
  refine r_get O FX1_21 (G_h (h := h) (j := 3) hh (by decide)) dX1_arrive_2 ?_
  refine r_put O (FPX1_15 (m (58 + 9 * h + 3))) (S_h (h := h) (j := 1) (m (58 + 9 * h + 3)) hh (by decide)) dX1_arrive_5 ?_
  refine r_aload_n O 0 dX1_arrive_8 rfl rfl ?_
  refine r_iconst (x := (-1)) O dX1_arrive_9 rfl ?_
  refine r_put O (FPX1_21 (-1)) (S_h (h := h) (j := 3) (-1) hh (by decide)) dX1_arrive_10 ?_
  refine r_aload_n O 0 dX1_arrive_13 rfl rfl ?_
  refine r_iconst (x := 0) O dX1_arrive_14 rfl ?_
  refine r_put O (FPX1_18 0) (S_h (h := h) (j := 2) 0 hh (by decide)) dX1_arrive_15 ?_
  exact r_vret O dX1_arrive_18 (Nat.le_of_ble_eq_true rfl) (Nat.le_of_ble_eq_true rfl) rfl
theorem met_X1_arrive (l : Launch) (hs : l.stackTraces = false) (q : g_q) (m : Nat → Int32) (h : Nat) (p0 : h < 6) : g_SM l yX1_arrive cX1_arrive 1 none ({ frames := 0, cells := 0, slots := 0, locals := 0 } : Room) (fun ad => [.ref (ad (10 + h))]) m q ((fun r : Nat → Int32 => ((.inl none, (r, q)) : g_Res)) (R_X1_arrive m h)) :=
  g_sm_of (by decide) (fun _ => Nat.le_of_ble_eq_true rfl) hs (fun X hl hn O => walk_X1_arrive O (by rw [hl]; exact hs) hn p0)
theorem fr_X1_arrive {m : Nat → Int32} {h : Nat}  {n : Nat} (hn : n < 58) : R_X1_arrive m h n = m n := by
  unfold R_X1_arrive
  simp (disch := omega) only [g_upd_ne]
def R_X1_walksThrough (m : Nat → Int32) (h : Nat) (x1 : Int32) : Int32 := (if (m (58 + 9 * h + 2)) = 1 then (if (g_min (m (58 + 9 * h + 1)) (m (58 + 9 * h + 3))) = x1 then 1 else 0) else 0)
set_option maxRecDepth 100000 in
set_option maxHeartbeats 4000000 in
theorem walk_X1_walksThrough {X : g_X} (O : g_ok X cX1_walksThrough RX1 (some .boolean) ({ frames := 1, cells := 0, slots := 0, locals := 21 } : Room)) (hs : (g_xl X).stackTraces = false) (hn : g_xn X = 2) {q : g_q} {m : Nat → Int32} {h : Nat} {x1 : Int32} (p0 : h < 6) : g_V X (fun r : Int32 => ((.inl (some (.int r)), (m, q)) : g_Res)) (R_X1_walksThrough m h x1) 0 0 m q 0 [(0, .ref (g_ad X (10 + h))), (1, .int x1)] [] := by
  have hN : ∀ i, Nat.blt i 2 = true → i < g_xn X := fun i h => by rw [hn]; exact g_blt.mp h
  have hh := p0
  refine r_aload_n O 0 dX1_walksThrough_0 rfl rfl ?_
  refine r_get O FX1_18 (G_h (h := h) (j := 2) hh (by decide)) dX1_walksThrough_1 ?_
  refine r_iconst (x := 1) O dX1_walksThrough_4 rfl ?_
  refine r_icmp_ne O 27 dX1_walksThrough_5 (by decide) (fun c_5 => ?_) (fun c_5 => ?_)
  · have e_5 : (m (58 + 9 * h + 2)).toInt = (1 : Int) := j_eqR c_5 rfl
    refine r_aload_n O 0 dX1_walksThrough_8 rfl rfl ?_
    refine r_get O FX1_15 (G_h (h := h) (j := 1) hh (by decide)) dX1_walksThrough_9 ?_
    refine r_aload_n O 0 dX1_walksThrough_12 rfl rfl ?_
    refine r_get O FX1_21 (G_h (h := h) (j := 3) hh (by decide)) dX1_walksThrough_13 ?_
    refine r_mmin O [] w_mmin_X1_40 dX1_walksThrough_16 rfl ?_
    refine r_iload_n O 1 dX1_walksThrough_19 rfl rfl ?_
    refine r_icmp_ne O 27 dX1_walksThrough_20 (by decide) (fun c_20 => ?_) (fun c_20 => ?_)
    · have e_20 : (g_min (m (58 + 9 * h + 1)) (m (58 + 9 * h + 3))).toInt = (x1).toInt := j_eq c_20
      refine r_iconst (x := 1) O dX1_walksThrough_23 rfl ?_
      refine r_goto O 28 dX1_walksThrough_24 (by decide) ?_
      exact r_iret O dX1_walksThrough_28 rfl (Nat.le_of_ble_eq_true rfl) (Nat.le_of_ble_eq_true rfl) rfl
    · have e_20 : (g_min (m (58 + 9 * h + 1)) (m (58 + 9 * h + 3))).toInt ≠ (x1).toInt := j_ne c_20
      refine r_iconst (x := 0) O dX1_walksThrough_27 rfl ?_
      exact r_iret O dX1_walksThrough_28 rfl (Nat.le_of_ble_eq_true rfl) (Nat.le_of_ble_eq_true rfl) rfl
  · have e_5 : (m (58 + 9 * h + 2)).toInt ≠ (1 : Int) := j_neR c_5 rfl
    refine r_iconst (x := 0) O dX1_walksThrough_27 rfl ?_
    exact r_iret O dX1_walksThrough_28 rfl (Nat.le_of_ble_eq_true rfl) (Nat.le_of_ble_eq_true rfl) rfl
theorem met_X1_walksThrough (l : Launch) (hs : l.stackTraces = false) (q : g_q) (m : Nat → Int32) (h : Nat) (x1 : Int32) (p0 : h < 6) : g_SM l yX1_walksThrough cX1_walksThrough 2 (some .boolean) ({ frames := 1, cells := 0, slots := 0, locals := 21 } : Room) (fun ad => [.ref (ad (10 + h)), .int x1]) m q ((fun r : Int32 => ((.inl (some (.int r)), (m, q)) : g_Res)) (R_X1_walksThrough m h x1)) :=
  g_sm_of (by decide) (fun _ => Nat.le_of_ble_eq_true rfl) hs (fun X hl hn O => walk_X1_walksThrough O (by rw [hl]; exact hs) hn p0)
def R_X1_isBelow (m : Nat → Int32) (h : Nat) : Int32 := (if (m (58 + 9 * h + 2)) = 1 then 1 else (if (m (58 + 9 * h + 1)) = 0 then 0 else 1))
set_option maxRecDepth 100000 in
set_option maxHeartbeats 4000000 in
theorem walk_X1_isBelow {X : g_X} (O : g_ok X cX1_isBelow RX1 (some .boolean) ({ frames := 0, cells := 0, slots := 0, locals := 0 } : Room)) (hs : (g_xl X).stackTraces = false) (hn : g_xn X = 1) {q : g_q} {m : Nat → Int32} {h : Nat} (p0 : h < 6) : g_V X (fun r : Int32 => ((.inl (some (.int r)), (m, q)) : g_Res)) (R_X1_isBelow m h) 0 0 m q 0 [(0, .ref (g_ad X (10 + h)))] [] := by
  have hN : ∀ i, Nat.blt i 1 = true → i < g_xn X := fun i h => by rw [hn]; exact g_blt.mp h
  have hh := p0
  refine r_aload_n O 0 dX1_isBelow_0 rfl rfl ?_
  refine r_get O FX1_18 (G_h (h := h) (j := 2) hh (by decide)) dX1_isBelow_1 ?_
  refine r_iconst (x := 1) O dX1_isBelow_4 rfl ?_
  refine r_icmp_eq O 15 dX1_isBelow_5 (by decide) (fun c_5 => ?_) (fun c_5 => ?_)
  · have e_5 : (m (58 + 9 * h + 2)).toInt = (1 : Int) := j_eqR c_5 rfl
    refine r_iconst (x := 1) O dX1_isBelow_15 rfl ?_
    refine r_goto O 20 dX1_isBelow_16 (by decide) ?_
    exact r_iret O dX1_isBelow_20 rfl (Nat.le_of_ble_eq_true rfl) (Nat.le_of_ble_eq_true rfl) rfl
  · have e_5 : (m (58 + 9 * h + 2)).toInt ≠ (1 : Int) := j_neR c_5 rfl
    refine r_aload_n O 0 dX1_isBelow_8 rfl rfl ?_
    refine r_get O FX1_15 (G_h (h := h) (j := 1) hh (by decide)) dX1_isBelow_9 ?_
    refine r_if_eq O 19 dX1_isBelow_12 (by decide) (fun c_12 => ?_) (fun c_12 => ?_)
    · have e_12 : (m (58 + 9 * h + 1)).toInt = (0 : Int) := j_eqR c_12 rfl
      refine r_iconst (x := 0) O dX1_isBelow_19 rfl ?_
      exact r_iret O dX1_isBelow_20 rfl (Nat.le_of_ble_eq_true rfl) (Nat.le_of_ble_eq_true rfl) rfl
    · have e_12 : (m (58 + 9 * h + 1)).toInt ≠ (0 : Int) := j_neR c_12 rfl
      refine r_iconst (x := 1) O dX1_isBelow_15 rfl ?_
      refine r_goto O 20 dX1_isBelow_16 (by decide) ?_
      exact r_iret O dX1_isBelow_20 rfl (Nat.le_of_ble_eq_true rfl) (Nat.le_of_ble_eq_true rfl) rfl
theorem met_X1_isBelow (l : Launch) (hs : l.stackTraces = false) (q : g_q) (m : Nat → Int32) (h : Nat) (p0 : h < 6) : g_SM l yX1_isBelow cX1_isBelow 1 (some .boolean) ({ frames := 0, cells := 0, slots := 0, locals := 0 } : Room) (fun ad => [.ref (ad (10 + h))]) m q ((fun r : Int32 => ((.inl (some (.int r)), (m, q)) : g_Res)) (R_X1_isBelow m h)) :=
  g_sm_of (by decide) (fun _ => Nat.le_of_ble_eq_true rfl) hs (fun X hl hn O => walk_X1_isBelow O (by rw [hl]; exact hs) hn p0)
def R_X1_countBelow_18 (m : Nat → Int32) (h : Nat) (t0_18 : Int32) : (Int32 × (Nat → Int32)) := (if ((upd m (58 + 9 * h + 7) t0_18) (58 + 9 * h + 7)) ≤ ((upd m (58 + 9 * h + 7) t0_18) (58 + 9 * h + 0)) then (0, (upd m (58 + 9 * h + 7) t0_18)) else (1, (upd m (58 + 9 * h + 7) t0_18)))
def R_X1_countBelow (m : Nat → Int32) (h : Nat) : (Int32 × (Nat → Int32)) := (if (R_X1_isBelow m h) = 0 then (R_X1_countBelow_18 m h 0) else (R_X1_countBelow_18 m h ((m (58 + 9 * h + 7)) + 1)))
set_option maxRecDepth 100000 in
set_option maxHeartbeats 4000000 in
theorem walk_X1_countBelow {X : g_X} (O : g_ok X cX1_countBelow RX1 (some .boolean) ({ frames := 1, cells := 0, slots := 0, locals := 20 } : Room)) (hs : (g_xl X).stackTraces = false) (hn : g_xn X = 1) {q : g_q} {m : Nat → Int32} {h : Nat} (p0 : h < 6) : g_V X (fun r : Int32 × (Nat → Int32) => ((.inl (some (.int r.1)), (r.2, q)) : g_Res)) (R_X1_countBelow m h) 0 0 m q 0 [(0, .ref (g_ad X (10 + h)))] [] := by
  have hN : ∀ i, Nat.blt i 1 = true → i < g_xn X := fun i h => by rw [hn]; exact g_blt.mp h
  have hh := p0
  refine r_aload_n O 0 dX1_countBelow_0 rfl rfl ?_
  refine r_aload_n O 0 dX1_countBelow_1 rfl rfl ?_
  refine r_callVi O [] [.ref (g_ad X (10 + h))] (met_X1_isBelow (g_xl X) hs q m h hh) LX1_46 (obj_h hh) rfl rfl rfl dX1_countBelow_2 rfl rfl ?_
  have J_18 : ∀ (t0_18 : Int32), g_V X (fun r : Int32 × (Nat → Int32) => ((.inl (some (.int r.1)), (r.2, q)) : g_Res)) (R_X1_countBelow_18 m h t0_18) 0 0 m q 18 [(0, .ref (g_ad X (10 + h)))] [.int t0_18, .ref (g_ad X (10 + h))] := by
    intro t0_18
    refine r_put O (FPX1_33 t0_18) (S_h (h := h) (j := 7) t0_18 hh (by decide)) dX1_countBelow_18 ?_
    refine r_aload_n O 0 dX1_countBelow_21 rfl rfl ?_
    refine r_get O FX1_33 (G_h (h := h) (j := 7) hh (by decide)) dX1_countBelow_22 ?_
    refine r_aload_n O 0 dX1_countBelow_25 rfl rfl ?_
    refine r_get O FX1_9 (G_h (h := h) (j := 0) hh (by decide)) dX1_countBelow_26 ?_
    refine r_icmp_le O 36 dX1_countBelow_29 (by decide) (fun c_29 => ?_) (fun c_29 => ?_)
    · have e_29 : ((upd m (58 + 9 * h + 7) t0_18) (58 + 9 * h + 7)).toInt ≤ ((upd m (58 + 9 * h + 7) t0_18) (58 + 9 * h + 0)).toInt := j_le c_29
      refine r_iconst (x := 0) O dX1_countBelow_36 rfl ?_
      exact r_iret O dX1_countBelow_37 rfl (Nat.le_of_ble_eq_true rfl) (Nat.le_of_ble_eq_true rfl) rfl
    · have e_29 : ((upd m (58 + 9 * h + 7) t0_18) (58 + 9 * h + 0)).toInt < ((upd m (58 + 9 * h + 7) t0_18) (58 + 9 * h + 7)).toInt := j_nle c_29
      refine r_iconst (x := 1) O dX1_countBelow_32 rfl ?_
      refine r_goto O 37 dX1_countBelow_33 (by decide) ?_
      exact r_iret O dX1_countBelow_37 rfl (Nat.le_of_ble_eq_true rfl) (Nat.le_of_ble_eq_true rfl) rfl
  refine r_if_eq O 17 dX1_countBelow_5 (by decide) (fun c_5 => ?_) (fun c_5 => ?_)
  · have e_5 : (R_X1_isBelow m h).toInt = (0 : Int) := j_eqR c_5 rfl
    refine r_iconst (x := 0) O dX1_countBelow_17 rfl ?_
    exact J_18 0
  · have e_5 : (R_X1_isBelow m h).toInt ≠ (0 : Int) := j_neR c_5 rfl
    refine r_aload_n O 0 dX1_countBelow_8 rfl rfl ?_
    refine r_get O FX1_33 (G_h (h := h) (j := 7) hh (by decide)) dX1_countBelow_9 ?_
    refine r_iconst (x := 1) O dX1_countBelow_12 rfl ?_
    refine r_iadd O dX1_countBelow_13 ?_
    refine r_goto O 18 dX1_countBelow_14 (by decide) ?_
    exact J_18 ((m (58 + 9 * h + 7)) + 1)
theorem met_X1_countBelow (l : Launch) (hs : l.stackTraces = false) (q : g_q) (m : Nat → Int32) (h : Nat) (p0 : h < 6) : g_SM l yX1_countBelow cX1_countBelow 1 (some .boolean) ({ frames := 1, cells := 0, slots := 0, locals := 20 } : Room) (fun ad => [.ref (ad (10 + h))]) m q ((fun r : Int32 × (Nat → Int32) => ((.inl (some (.int r.1)), (r.2, q)) : g_Res)) (R_X1_countBelow m h)) :=
  g_sm_of (by decide) (fun _ => Nat.le_of_ble_eq_true rfl) hs (fun X hl hn O => walk_X1_countBelow O (by rw [hl]; exact hs) hn p0)
theorem fr_X1_countBelow {m : Nat → Int32} {h n : Nat} (hn : n < 58) : (R_X1_countBelow m h).2 n = m n := by
  unfold R_X1_countBelow R_X1_countBelow_18
  simp only [apply_ite Prod.snd, apply_ite (fun f : Nat → Int32 => f n)]
  simp (disch := omega) only [g_upd_ne, ite_self]
def R_X1_about (m : Nat → Int32) (h : Nat) (x1 : Int32) : Int32 := (if x1 = 0 then (m (58 + 9 * h + 0)) else (if x1 = 1 then (m (58 + 9 * h + 1)) else (if x1 = 2 then (m (58 + 9 * h + 2)) else (if x1 = 3 then (m (58 + 9 * h + 3)) else (if x1 = 4 then (m (58 + 9 * h + 4)) else (if x1 = 5 then (m (58 + 9 * h + 5)) else (if x1 = 6 then (m (58 + 9 * h + 6)) else (if x1 = 7 then (m (58 + 9 * h + 7)) else (if (m (58 + 9 * h + 8)) = 0 then 0 else 1)))))))))
set_option maxRecDepth 100000 in
set_option maxHeartbeats 4000000 in
theorem walk_X1_about {X : g_X} (O : g_ok X cX1_about RX1 (some .int) ({ frames := 0, cells := 0, slots := 0, locals := 0 } : Room)) (hs : (g_xl X).stackTraces = false) (hn : g_xn X = 2) {q : g_q} {m : Nat → Int32} {h : Nat} {x1 : Int32} (p0 : h < 6) : g_V X (fun r : Int32 => ((.inl (some (.int r)), (m, q)) : g_Res)) (R_X1_about m h x1) 0 0 m q 0 [(0, .ref (g_ad X (10 + h))), (1, .int x1)] [] := by
  have hN : ∀ i, Nat.blt i 2 = true → i < g_xn X := fun i h => by rw [hn]; exact g_blt.mp h
  have hh := p0
  refine r_iload_n O 1 dX1_about_0 rfl rfl ?_
  refine g_if (fun c_1_0 => ?_) (fun c_1_0 => ?_)
  · refine r_tabIn O 48 dX1_about_1 (by rw [c_1_0]; decide) (by rw [c_1_0]; decide) (by rw [c_1_0]; rfl) (by decide) ?_
    refine r_aload_n O 0 dX1_about_48 rfl rfl ?_
    refine r_get O FX1_9 (G_h (h := h) (j := 0) hh (by decide)) dX1_about_49 ?_
    exact r_iret O dX1_about_52 rfl (Nat.le_of_ble_eq_true rfl) (Nat.le_of_ble_eq_true rfl) rfl
  · refine g_if (fun c_1_1 => ?_) (fun c_1_1 => ?_)
    · refine r_tabIn O 53 dX1_about_1 (by rw [c_1_1]; decide) (by rw [c_1_1]; decide) (by rw [c_1_1]; rfl) (by decide) ?_
      refine r_aload_n O 0 dX1_about_53 rfl rfl ?_
      refine r_get O FX1_15 (G_h (h := h) (j := 1) hh (by decide)) dX1_about_54 ?_
      exact r_iret O dX1_about_57 rfl (Nat.le_of_ble_eq_true rfl) (Nat.le_of_ble_eq_true rfl) rfl
    · refine g_if (fun c_1_2 => ?_) (fun c_1_2 => ?_)
      · refine r_tabIn O 58 dX1_about_1 (by rw [c_1_2]; decide) (by rw [c_1_2]; decide) (by rw [c_1_2]; rfl) (by decide) ?_
        refine r_aload_n O 0 dX1_about_58 rfl rfl ?_
        refine r_get O FX1_18 (G_h (h := h) (j := 2) hh (by decide)) dX1_about_59 ?_
        exact r_iret O dX1_about_62 rfl (Nat.le_of_ble_eq_true rfl) (Nat.le_of_ble_eq_true rfl) rfl
      · refine g_if (fun c_1_3 => ?_) (fun c_1_3 => ?_)
        · refine r_tabIn O 63 dX1_about_1 (by rw [c_1_3]; decide) (by rw [c_1_3]; decide) (by rw [c_1_3]; rfl) (by decide) ?_
          refine r_aload_n O 0 dX1_about_63 rfl rfl ?_
          refine r_get O FX1_21 (G_h (h := h) (j := 3) hh (by decide)) dX1_about_64 ?_
          exact r_iret O dX1_about_67 rfl (Nat.le_of_ble_eq_true rfl) (Nat.le_of_ble_eq_true rfl) rfl
        · refine g_if (fun c_1_4 => ?_) (fun c_1_4 => ?_)
          · refine r_tabIn O 68 dX1_about_1 (by rw [c_1_4]; decide) (by rw [c_1_4]; decide) (by rw [c_1_4]; rfl) (by decide) ?_
            refine r_aload_n O 0 dX1_about_68 rfl rfl ?_
            refine r_get O FX1_24 (G_h (h := h) (j := 4) hh (by decide)) dX1_about_69 ?_
            exact r_iret O dX1_about_72 rfl (Nat.le_of_ble_eq_true rfl) (Nat.le_of_ble_eq_true rfl) rfl
          · refine g_if (fun c_1_5 => ?_) (fun c_1_5 => ?_)
            · refine r_tabIn O 73 dX1_about_1 (by rw [c_1_5]; decide) (by rw [c_1_5]; decide) (by rw [c_1_5]; rfl) (by decide) ?_
              refine r_aload_n O 0 dX1_about_73 rfl rfl ?_
              refine r_get O FX1_27 (G_h (h := h) (j := 5) hh (by decide)) dX1_about_74 ?_
              exact r_iret O dX1_about_77 rfl (Nat.le_of_ble_eq_true rfl) (Nat.le_of_ble_eq_true rfl) rfl
            · refine g_if (fun c_1_6 => ?_) (fun c_1_6 => ?_)
              · refine r_tabIn O 78 dX1_about_1 (by rw [c_1_6]; decide) (by rw [c_1_6]; decide) (by rw [c_1_6]; rfl) (by decide) ?_
                refine r_aload_n O 0 dX1_about_78 rfl rfl ?_
                refine r_get O FX1_30 (G_h (h := h) (j := 6) hh (by decide)) dX1_about_79 ?_
                exact r_iret O dX1_about_82 rfl (Nat.le_of_ble_eq_true rfl) (Nat.le_of_ble_eq_true rfl) rfl
              · refine g_if (fun c_1_7 => ?_) (fun c_1_7 => ?_)
                · refine r_tabIn O 83 dX1_about_1 (by rw [c_1_7]; decide) (by rw [c_1_7]; decide) (by rw [c_1_7]; rfl) (by decide) ?_
                  refine r_aload_n O 0 dX1_about_83 rfl rfl ?_
                  refine r_get O FX1_33 (G_h (h := h) (j := 7) hh (by decide)) dX1_about_84 ?_
                  exact r_iret O dX1_about_87 rfl (Nat.le_of_ble_eq_true rfl) (Nat.le_of_ble_eq_true rfl) rfl
                · refine r_tabOut O 88 dX1_about_1 (by have e0 : (x1).toInt ≠ 0 := j_neR c_1_0 rfl; have e1 : (x1).toInt ≠ 1 := j_neR c_1_1 rfl; have e2 : (x1).toInt ≠ 2 := j_neR c_1_2 rfl; have e3 : (x1).toInt ≠ 3 := j_neR c_1_3 rfl; have e4 : (x1).toInt ≠ 4 := j_neR c_1_4 rfl; have e5 : (x1).toInt ≠ 5 := j_neR c_1_5 rfl; have e6 : (x1).toInt ≠ 6 := j_neR c_1_6 rfl; have e7 : (x1).toInt ≠ 7 := j_neR c_1_7 rfl; omega) (by decide) ?_
                  refine r_aload_n O 0 dX1_about_88 rfl rfl ?_
                  refine r_get O FX1_36 (G_h (h := h) (j := 8) hh (by decide)) dX1_about_89 ?_
                  refine r_if_eq O 99 dX1_about_92 (by decide) (fun c_92 => ?_) (fun c_92 => ?_)
                  · have e_92 : (m (58 + 9 * h + 8)).toInt = (0 : Int) := j_eqR c_92 rfl
                    refine r_iconst (x := 0) O dX1_about_99 rfl ?_
                    exact r_iret O dX1_about_100 rfl (Nat.le_of_ble_eq_true rfl) (Nat.le_of_ble_eq_true rfl) rfl
                  · have e_92 : (m (58 + 9 * h + 8)).toInt ≠ (0 : Int) := j_neR c_92 rfl
                    refine r_iconst (x := 1) O dX1_about_95 rfl ?_
                    refine r_goto O 100 dX1_about_96 (by decide) ?_
                    exact r_iret O dX1_about_100 rfl (Nat.le_of_ble_eq_true rfl) (Nat.le_of_ble_eq_true rfl) rfl
theorem met_X1_about (l : Launch) (hs : l.stackTraces = false) (q : g_q) (m : Nat → Int32) (h : Nat) (x1 : Int32) (p0 : h < 6) : g_SM l yX1_about cX1_about 2 (some .int) ({ frames := 0, cells := 0, slots := 0, locals := 0 } : Room) (fun ad => [.ref (ad (10 + h)), .int x1]) m q ((fun r : Int32 => ((.inl (some (.int r)), (m, q)) : g_Res)) (R_X1_about m h x1)) :=
  g_sm_of (by decide) (fun _ => Nat.le_of_ble_eq_true rfl) hs (fun X hl hn O => walk_X1_about O (by rw [hl]; exact hs) hn p0)
