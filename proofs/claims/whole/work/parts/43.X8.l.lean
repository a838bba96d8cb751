/-! ===== the model: orders ===== -/
def R_X8_done (s : Nat → Int32) (x1 : Int32) : (Int32 × (Nat → Int32)) := (if x1 ≤ 0 then ((R_X8_ends s (s 1303)).1, (R_X8_ends s (s 1303)).2) else ((R_X8_fails s x1).1, (R_X8_fails s x1).2))
set_option maxRecDepth 100000 in
set_option maxHeartbeats 4000000 in
theorem walk_X8_done {X : g_X} (O : g_ok X cX8_done RX8 (some .int) ({ frames := 2, cells := 0, slots := 0, locals := 43 } : Room)) (hs : (g_xl X).stackTraces = false) (hn : g_xn X = 2) {m : Nat → Int32} {lm : Nat → Int64} {pm : Nat → Nat} {s : Nat → Int32} {x1 : Int32} (p0 : 0 ≤ (s 1300).toInt) (p1 : (s 1300).toInt ≤ 4) : g_V X (fun r : Int32 × (Nat → Int32) => ((.inl (some (.int r.1)), (m, r.2, lm, pm)) : g_Res)) (R_X8_done s x1) 0 0 m (s, lm, pm) 0 [(0, .ref (g_ad X 124)), (1, .int x1)] [] := by
  have hN : ∀ i, Nat.blt i 2 = true → i < g_xn X := fun i h => by rw [hn]; exact g_blt.mp h
  refine r_iload_n O 1 dX8_done_0 rfl rfl ?_
  refine r_if_le O 12 dX8_done_1 (by decide) (fun c_1 => ?_) (fun c_1 => ?_)
  · have e_1 : (x1).toInt ≤ (0 : Int) := j_leR c_1 rfl
    refine r_aload_n O 0 dX8_done_12 rfl rfl ?_
    refine r_aload_n O 0 dX8_done_13 rfl rfl ?_
    refine r_get O FX8_105 G_124_7 dX8_done_14 ?_
    refine r_callVi O [.int (s 1303)] [] (met_X8_ends (g_xl X) hs lm pm m s (s 1303) (by first | decide | with_reducible assumption | with_reducible omega | (simp (disch := omega) only [g_upd_ne, g_upd_eq, fr_X8_walks, fr_X8_sets, hold_ne]; first | with_reducible assumption | with_reducible omega | decide) | exact Or.inl rfl | exact Or.inr rfl) (by first | decide | with_reducible assumption | with_reducible omega | (simp (disch := omega) only [g_upd_ne, g_upd_eq, fr_X8_walks, fr_X8_sets, hold_ne]; first | with_reducible assumption | with_reducible omega | decide) | exact Or.inl rfl | exact Or.inr rfl)) LX8_64 obj_124 rfl rfl rfl dX8_done_17 rfl rfl ?_
    exact r_iret O dX8_done_20 rfl (Nat.le_of_ble_eq_true rfl) (Nat.le_of_ble_eq_true rfl) rfl
  · have e_1 : (0 : Int) < (x1).toInt := j_nleR c_1 rfl
    refine r_aload_n O 0 dX8_done_4 rfl rfl ?_
    refine r_iload_n O 1 dX8_done_5 rfl rfl ?_
    refine r_callVi O [.int x1] [] (met_X8_fails (g_xl X) hs lm pm m s x1 ) LX8_58 obj_124 rfl rfl rfl dX8_done_6 rfl rfl ?_
    refine r_goto O 20 dX8_done_9 (by decide) ?_
    exact r_iret O dX8_done_20 rfl (Nat.le_of_ble_eq_true rfl) (Nat.le_of_ble_eq_true rfl) rfl
theorem met_X8_done (l : Launch) (hs : l.stackTraces = false) (lm : Nat → Int64) (pm : Nat → Nat) (m : Nat → Int32) (s : Nat → Int32) (x1 : Int32) (p0 : 0 ≤ (s 1300).toInt) (p1 : (s 1300).toInt ≤ 4) : g_SM l yX8_done cX8_done 2 (some .int) ({ frames := 2, cells := 0, slots := 0, locals := 43 } : Room) (fun ad => [.ref (ad 124), .int x1]) m (s, lm, pm) ((fun r : Int32 × (Nat → Int32) => ((.inl (some (.int r.1)), (m, r.2, lm, pm)) : g_Res)) (R_X8_done s x1)) :=
  g_sm_of (by decide) (fun _ => Nat.le_of_ble_eq_true rfl) hs (fun X hl hn O => walk_X8_done O (by rw [hl]; exact hs) hn p0 p1)
def R_X8_go (s : Nat → Int32) (x1 : Int32) (x2 : Int32) : (Int32 × (Nat → Int32)) := ((R_X8_done ((R_X8_goes (R_X8_hold s) x1 x2).2) ((R_X8_goes (R_X8_hold s) x1 x2).1)).1, (R_X8_done ((R_X8_goes (R_X8_hold s) x1 x2).2) ((R_X8_goes (R_X8_hold s) x1 x2).1)).2)
set_option maxRecDepth 100000 in
set_option maxHeartbeats 4000000 in
theorem walk_X8_go {X : g_X} (O : g_ok X cX8_go RX8 (some .int) ({ frames := 5, cells := 0, slots := 0, locals := 114 } : Room)) (hs : (g_xl X).stackTraces = false) (hn : g_xn X = 3) {m : Nat → Int32} {lm : Nat → Int64} {pm : Nat → Nat} {s : Nat → Int32} {x1 : Int32} {x2 : Int32} (p0 : g_J s) (p1 : 0 ≤ (s 1300).toInt) (p2 : (s 1300).toInt ≤ 4) : g_V X (fun r : Int32 × (Nat → Int32) => ((.inl (some (.int r.1)), (m, r.2, lm, pm)) : g_Res)) (R_X8_go s x1 x2) 0 0 m (s, lm, pm) 0 [(0, .ref (g_ad X 124)), (1, .int x1), (2, .int x2)] [] := by
  have hN : ∀ i, Nat.blt i 3 = true → i < g_xn X := fun i h => by rw [hn]; exact g_blt.mp h
  refine r_aload_n O 0 dX8_go_0 rfl rfl ?_
  refine r_callVv O [] [] (met_X8_hold (g_xl X) hs lm pm m s ) LX8_61 obj_124 rfl rfl rfl dX8_go_1 rfl rfl ?_
  have hJ_1 : g_J (R_X8_hold s) := J_hold p0
  refine r_aload_n O 0 dX8_go_4 rfl rfl ?_
  refine r_aload_n O 0 dX8_go_5 rfl rfl ?_
  refine r_iload_n O 1 dX8_go_6 rfl rfl ?_
  refine r_iload_n O 2 dX8_go_7 rfl rfl ?_
  refine r_callVi O [.int x1, .int x2] [.ref (g_ad X 124)] (met_X8_goes (g_xl X) hs lm pm m (R_X8_hold s) x1 x2 (by first | decide | with_reducible assumption | with_reducible omega | (simp (disch := omega) only [g_upd_ne, g_upd_eq, fr_X8_walks, fr_X8_sets, hold_ne]; first | with_reducible assumption | with_reducible omega | decide) | exact Or.inl rfl | exact Or.inr rfl)) LX8_144 obj_124 rfl rfl rfl dX8_go_8 rfl rfl ?_
  have u_8 : ((R_X8_goes (R_X8_hold s) x1 x2).2 1300).toInt = (s 1300).toInt := by rw [(U_goes (s := (R_X8_hold s)) (J_hold p0)) 1300 (by decide) (by decide), hold_ne (by decide)]
  refine r_callVi O [.int ((R_X8_goes (R_X8_hold s) x1 x2).1)] [] (met_X8_done (g_xl X) hs lm pm m ((R_X8_goes (R_X8_hold s) x1 x2).2) ((R_X8_goes (R_X8_hold s) x1 x2).1) (by first | decide | with_reducible assumption | with_reducible omega | (simp (disch := omega) only [g_upd_ne, g_upd_eq, fr_X8_walks, fr_X8_sets, hold_ne]; first | with_reducible assumption | with_reducible omega | decide) | exact Or.inl rfl | exact Or.inr rfl) (by first | decide | with_reducible assumption | with_reducible omega | (simp (disch := omega) only [g_upd_ne, g_upd_eq, fr_X8_walks, fr_X8_sets, hold_ne]; first | with_reducible assumption | with_reducible omega | decide) | exact Or.inl rfl | exact Or.inr rfl)) LX8_147 obj_124 rfl rfl rfl dX8_go_11 rfl rfl ?_
  exact r_iret O dX8_go_14 rfl (Nat.le_of_ble_eq_true rfl) (Nat.le_of_ble_eq_true rfl) rfl
theorem met_X8_go (l : Launch) (hs : l.stackTraces = false) (lm : Nat → Int64) (pm : Nat → Nat) (m : Nat → Int32) (s : Nat → Int32) (x1 : Int32) (x2 : Int32) (p0 : g_J s) (p1 : 0 ≤ (s 1300).toInt) (p2 : (s 1300).toInt ≤ 4) : g_SM l yX8_go cX8_go 3 (some .int) ({ frames := 5, cells := 0, slots := 0, locals := 114 } : Room) (fun ad => [.ref (ad 124), .int x1, .int x2]) m (s, lm, pm) ((fun r : Int32 × (Nat → Int32) => ((.inl (some (.int r.1)), (m, r.2, lm, pm)) : g_Res)) (R_X8_go s x1 x2)) :=
  g_sm_of (by decide) (fun _ => Nat.le_of_ble_eq_true rfl) hs (fun X hl hn O => walk_X8_go O (by rw [hl]; exact hs) hn p0 p1 p2)
def R_X8_take (s : Nat → Int32) (x1 : Int32) (x2 : Int32) : (Int32 × (Nat → Int32)) := ((R_X8_done ((R_X8_takes (R_X8_hold s) x1 x2).2) ((R_X8_takes (R_X8_hold s) x1 x2).1)).1, (R_X8_done ((R_X8_takes (R_X8_hold s) x1 x2).2) ((R_X8_takes (R_X8_hold s) x1 x2).1)).2)
set_option maxRecDepth 100000 in
set_option maxHeartbeats 4000000 in
theorem walk_X8_take {X : g_X} (O : g_ok X cX8_take RX8 (some .int) ({ frames := 3, cells := 0, slots := 0, locals := 68 } : Room)) (hs : (g_xl X).stackTraces = false) (hn : g_xn X = 3) {m : Nat → Int32} {lm : Nat → Int64} {pm : Nat → Nat} {s : Nat → Int32} {x1 : Int32} {x2 : Int32} (p0 : g_J s) (p1 : 0 ≤ (s 1300).toInt) (p2 : (s 1300).toInt ≤ 4) : g_V X (fun r : Int32 × (Nat → Int32) => ((.inl (some (.int r.1)), (m, r.2, lm, pm)) : g_Res)) (R_X8_take s x1 x2) 0 0 m (s, lm, pm) 0 [(0, .ref (g_ad X 124)), (1, .int x1), (2, .int x2)] [] := by
  have hN : ∀ i, Nat.blt i 3 = true → i < g_xn X := fun i h => by rw [hn]; exact g_blt.mp h
  refine r_aload_n O 0 dX8_take_0 rfl rfl ?_
  refine r_callVv O [] [] (met_X8_hold (g_xl X) hs lm pm m s ) LX8_61 obj_124 rfl rfl rfl dX8_take_1 rfl rfl ?_
  have hJ_1 : g_J (R_X8_hold s) := J_hold p0
  refine r_aload_n O 0 dX8_take_4 rfl rfl ?_
  refine r_aload_n O 0 dX8_take_5 rfl rfl ?_
  refine r_iload_n O 1 dX8_take_6 rfl rfl ?_
  refine r_iload_n O 2 dX8_take_7 rfl rfl ?_
  refine r_callVi O [.int x1, .int x2] [.ref (g_ad X 124)] (met_X8_takes (g_xl X) hs lm pm m (R_X8_hold s) x1 x2 (by first | decide | with_reducible assumption | with_reducible omega | (simp (disch := omega) only [g_upd_ne, g_upd_eq, fr_X8_walks, fr_X8_sets, hold_ne]; first | with_reducible assumption | with_reducible omega | decide) | exact Or.inl rfl | exact Or.inr rfl)) LX8_150 obj_124 rfl rfl rfl dX8_take_8 rfl rfl ?_
  have u_8 : ((R_X8_takes (R_X8_hold s) x1 x2).2 1300).toInt = (s 1300).toInt := by rw [(U_takes (s := (R_X8_hold s)) (J_hold p0)) 1300 (by decide) (by decide), hold_ne (by decide)]
  refine r_callVi O [.int ((R_X8_takes (R_X8_hold s) x1 x2).1)] [] (met_X8_done (g_xl X) hs lm pm m ((R_X8_takes (R_X8_hold s) x1 x2).2) ((R_X8_takes (R_X8_hold s) x1 x2).1) (by first | decide | with_reducible assumption | with_reducible omega | (simp (disch := omega) only [g_upd_ne, g_upd_eq, fr_X8_walks, fr_X8_sets, hold_ne]; first | with_reducible assumption | with_reducible omega | decide) | exact Or.inl rfl | exact Or.inr rfl) (by first | decide | with_reducible assumption | with_reducible omega | (simp (disch := omega) only [g_upd_ne, g_upd_eq, fr_X8_walks, fr_X8_sets, hold_ne]; first | with_reducible assumption | with_reducible omega | decide) | exact Or.inl rfl | exact Or.inr rfl)) LX8_147 obj_124 rfl rfl rfl dX8_take_11 rfl rfl ?_
  exact r_iret O dX8_take_14 rfl (Nat.le_of_ble_eq_true rfl) (Nat.le_of_ble_eq_true rfl) rfl
theorem met_X8_take (l : Launch) (hs : l.stackTraces = false) (lm : Nat → Int64) (pm : Nat → Nat) (m : Nat → Int32) (s : Nat → Int32) (x1 : Int32) (x2 : Int32) (p0 : g_J s) (p1 : 0 ≤ (s 1300).toInt) (p2 : (s 1300).toInt ≤ 4) : g_SM l yX8_take cX8_take 3 (some .int) ({ frames := 3, cells := 0, slots := 0, locals := 68 } : Room) (fun ad => [.ref (ad 124), .int x1, .int x2]) m (s, lm, pm) ((fun r : Int32 × (Nat → Int32) => ((.inl (some (.int r.1)), (m, r.2, lm, pm)) : g_Res)) (R_X8_take s x1 x2)) :=
  g_sm_of (by decide) (fun _ => Nat.le_of_ble_eq_true rfl) hs (fun X hl hn O => walk_X8_take O (by rw [hl]; exact hs) hn p0 p1 p2)
def R_X8_rig (s : Nat → Int32) (x1 : Int32) : (Int32 × (Nat → Int32)) := ((R_X8_done ((R_X8_rigsAt (R_X8_hold s) x1).2) ((R_X8_rigsAt (R_X8_hold s) x1).1)).1, (R_X8_done ((R_X8_rigsAt (R_X8_hold s) x1).2) ((R_X8_rigsAt (R_X8_hold s) x1).1)).2)
set_option maxRecDepth 100000 in
set_option maxHeartbeats 4000000 in
theorem walk_X8_rig {X : g_X} (O : g_ok X cX8_rig RX8 (some .int) ({ frames := 4, cells := 0, slots := 0, locals := 89 } : Room)) (hs : (g_xl X).stackTraces = false) (hn : g_xn X = 2) {m : Nat → Int32} {lm : Nat → Int64} {pm : Nat → Nat} {s : Nat → Int32} {x1 : Int32} (p0 : g_J s) (p1 : 0 ≤ (s 1300).toInt) (p2 : (s 1300).toInt ≤ 4) : g_V X (fun r : Int32 × (Nat → Int32) => ((.inl (some (.int r.1)), (m, r.2, lm, pm)) : g_Res)) (R_X8_rig s x1) 0 0 m (s, lm, pm) 0 [(0, .ref (g_ad X 124)), (1, .int x1)] [] := by
  have hN : ∀ i, Nat.blt i 2 = true → i < g_xn X := fun i h => by rw [hn]; exact g_blt.mp h
  refine r_aload_n O 0 dX8_rig_0 rfl rfl ?_
  refine r_callVv O [] [] (met_X8_hold (g_xl X) hs lm pm m s ) LX8_61 obj_124 rfl rfl rfl dX8_rig_1 rfl rfl ?_
  have hJ_1 : g_J (R_X8_hold s) := J_hold p0
  refine r_aload_n O 0 dX8_rig_4 rfl rfl ?_
  refine r_aload_n O 0 dX8_rig_5 rfl rfl ?_
  refine r_iload_n O 1 dX8_rig_6 rfl rfl ?_
  refine r_callVi O [.int x1] [.ref (g_ad X 124)] (met_X8_rigsAt (g_xl X) hs lm pm m (R_X8_hold s) x1 (by first | decide | with_reducible assumption | with_reducible omega | (simp (disch := omega) only [g_upd_ne, g_upd_eq, fr_X8_walks, fr_X8_sets, hold_ne]; first | with_reducible assumption | with_reducible omega | decide) | exact Or.inl rfl | exact Or.inr rfl)) LX8_153 obj_124 rfl rfl rfl dX8_rig_7 rfl rfl ?_
  have u_7 : ((R_X8_rigsAt (R_X8_hold s) x1).2 1300).toInt = (s 1300).toInt := by rw [(U_rigsAt (s := (R_X8_hold s)) (J_hold p0)) 1300 (by decide) (by decide), hold_ne (by decide)]
  refine r_callVi O [.int ((R_X8_rigsAt (R_X8_hold s) x1).1)] [] (met_X8_done (g_xl X) hs lm pm m ((R_X8_rigsAt (R_X8_hold s) x1).2) ((R_X8_rigsAt (R_X8_hold s) x1).1) (by first | decide | with_reducible assumption | with_reducible omega | (simp (disch := omega) only [g_upd_ne, g_upd_eq, fr_X8_walks, fr_X8_sets, hold_ne]; first | with_reducible assumption | with_reducible omega | decide) | exact Or.inl rfl | exact Or.inr rfl) (by first | decide | with_reducible assumption | with_reducible omega | (simp (disch := omega) only [g_upd_ne, g_upd_eq, fr_X8_walks, fr_X8_sets, hold_ne]; first | with_reducible assumption | with_reducible omega | decide) | exact Or.inl rfl | exact Or.inr rfl)) LX8_147 obj_124 rfl rfl rfl dX8_rig_10 rfl rfl ?_
  exact r_iret O dX8_rig_13 rfl (Nat.le_of_ble_eq_true rfl) (Nat.le_of_ble_eq_true rfl) rfl
theorem met_X8_rig (l : Launch) (hs : l.stackTraces = false) (lm : Nat → Int64) (pm : Nat → Nat) (m : Nat → Int32) (s : Nat → Int32) (x1 : Int32) (p0 : g_J s) (p1 : 0 ≤ (s 1300).toInt) (p2 : (s 1300).toInt ≤ 4) : g_SM l yX8_rig cX8_rig 2 (some .int) ({ frames := 4, cells := 0, slots := 0, locals := 89 } : Room) (fun ad => [.ref (ad 124), .int x1]) m (s, lm, pm) ((fun r : Int32 × (Nat → Int32) => ((.inl (some (.int r.1)), (m, r.2, lm, pm)) : g_Res)) (R_X8_rig s x1)) :=
  g_sm_of (by decide) (fun _ => Nat.le_of_ble_eq_true rfl) hs (fun X hl hn O => walk_X8_rig O (by rw [hl]; exact hs) hn p0 p1 p2)
def R_X8_send (s : Nat → Int32) (x1 : Int32) : (Int32 × (Nat → Int32)) := ((R_X8_done ((R_X8_sends (R_X8_hold s) x1).2) ((R_X8_sends (R_X8_hold s) x1).1)).1, (R_X8_done ((R_X8_sends (R_X8_hold s) x1).2) ((R_X8_sends (R_X8_hold s) x1).1)).2)
set_option maxRecDepth 100000 in
set_option maxHeartbeats 4000000 in
theorem walk_X8_send {X : g_X} (O : g_ok X cX8_send RX8 (some .int) ({ frames := 3, cells := 0, slots := 0, locals := 66 } : Room)) (hs : (g_xl X).stackTraces = false) (hn : g_xn X = 2) {m : Nat → Int32} {lm : Nat → Int64} {pm : Nat → Nat} {s : Nat → Int32} {x1 : Int32} (p0 : g_J s) (p1 : 0 ≤ (s 1300).toInt) (p2 : (s 1300).toInt ≤ 4) : g_V X (fun r : Int32 × (Nat → Int32) => ((.inl (some (.int r.1)), (m, r.2, lm, pm)) : g_Res)) (R_X8_send s x1) 0 0 m (s, lm, pm) 0 [(0, .ref (g_ad X 124)), (1, .int x1)] [] := by
  have hN : ∀ i, Nat.blt i 2 = true → i < g_xn X := fun i h => by rw [hn]; exact g_blt.mp h
  refine r_aload_n O 0 dX8_send_0 rfl rfl ?_
  refine r_callVv O [] [] (met_X8_hold (g_xl X) hs lm pm m s ) LX8_61 obj_124 rfl rfl rfl dX8_send_1 rfl rfl ?_
  have hJ_1 : g_J (R_X8_hold s) := J_hold p0
  refine r_aload_n O 0 dX8_send_4 rfl rfl ?_
  refine r_aload_n O 0 dX8_send_5 rfl rfl ?_
  refine r_iload_n O 1 dX8_send_6 rfl rfl ?_
  refine r_callVi O [.int x1] [.ref (g_ad X 124)] (met_X8_sends (g_xl X) hs lm pm m (R_X8_hold s) x1 (by first | decide | with_reducible assumption | with_reducible omega | (simp (disch := omega) only [g_upd_ne, g_upd_eq, fr_X8_walks, fr_X8_sets, hold_ne]; first | with_reducible assumption | with_reducible omega | decide) | exact Or.inl rfl | exact Or.inr rfl)) LX8_159 obj_124 rfl rfl rfl dX8_send_7 rfl rfl ?_
  have u_7 : ((R_X8_sends (R_X8_hold s) x1).2 1300).toInt = (s 1300).toInt := by rw [(U_sends (s := (R_X8_hold s)) (J_hold p0)) 1300 (by decide) (by decide), hold_ne (by decide)]
  refine r_callVi O [.int ((R_X8_sends (R_X8_hold s) x1).1)] [] (met_X8_done (g_xl X) hs lm pm m ((R_X8_sends (R_X8_hold s) x1).2) ((R_X8_sends (R_X8_hold s) x1).1) (by first | decide | with_reducible assumption | with_reducible omega | (simp (disch := omega) only [g_upd_ne, g_upd_eq, fr_X8_walks, fr_X8_sets, hold_ne]; first | with_reducible assumption | with_reducible omega | decide) | exact Or.inl rfl | exact Or.inr rfl) (by first | decide | with_reducible assumption | with_reducible omega | (simp (disch := omega) only [g_upd_ne, g_upd_eq, fr_X8_walks, fr_X8_sets, hold_ne]; first | with_reducible assumption | with_reducible omega | decide) | exact Or.inl rfl | exact Or.inr rfl)) LX8_147 obj_124 rfl rfl rfl dX8_send_10 rfl rfl ?_
  exact r_iret O dX8_send_13 rfl (Nat.le_of_ble_eq_true rfl) (Nat.le_of_ble_eq_true rfl) rfl
theorem met_X8_send (l : Launch) (hs : l.stackTraces = false) (lm : Nat → Int64) (pm : Nat → Nat) (m : Nat → Int32) (s : Nat → Int32) (x1 : Int32) (p0 : g_J s) (p1 : 0 ≤ (s 1300).toInt) (p2 : (s 1300).toInt ≤ 4) : g_SM l yX8_send cX8_send 2 (some .int) ({ frames := 3, cells := 0, slots := 0, locals := 66 } : Room) (fun ad => [.ref (ad 124), .int x1]) m (s, lm, pm) ((fun r : Int32 × (Nat → Int32) => ((.inl (some (.int r.1)), (m, r.2, lm, pm)) : g_Res)) (R_X8_send s x1)) :=
  g_sm_of (by decide) (fun _ => Nat.le_of_ble_eq_true rfl) hs (fun X hl hn O => walk_X8_send O (by rw [hl]; exact hs) hn p0 p1 p2)
def R_X8_carry (s : Nat → Int32) (x1 : Int32) : (Int32 × (Nat → Int32)) := ((R_X8_done ((R_X8_carries (R_X8_hold s) x1).2) ((R_X8_carries (R_X8_hold s) x1).1)).1, (R_X8_done ((R_X8_carries (R_X8_hold s) x1).2) ((R_X8_carries (R_X8_hold s) x1).1)).2)
set_option maxRecDepth 100000 in
set_option maxHeartbeats 4000000 in
theorem walk_X8_carry {X : g_X} (O : g_ok X cX8_carry RX8 (some .int) ({ frames := 5, cells := 0, slots := 0, locals := 114 } : Room)) (hs : (g_xl X).stackTraces = false) (hn : g_xn X = 2) {m : Nat → Int32} {lm : Nat → Int64} {pm : Nat → Nat} {s : Nat → Int32} {x1 : Int32} (p0 : g_J s) (p1 : 0 ≤ (s 1300).toInt) (p2 : (s 1300).toInt ≤ 4) : g_V X (fun r : Int32 × (Nat → Int32) => ((.inl (some (.int r.1)), (m, r.2, lm, pm)) : g_Res)) (R_X8_carry s x1) 0 0 m (s, lm, pm) 0 [(0, .ref (g_ad X 124)), (1, .int x1)] [] := by
  have hN : ∀ i, Nat.blt i 2 = true → i < g_xn X := fun i h => by rw [hn]; exact g_blt.mp h
  refine r_aload_n O 0 dX8_carry_0 rfl rfl ?_
  refine r_callVv O [] [] (met_X8_hold (g_xl X) hs lm pm m s ) LX8_61 obj_124 rfl rfl rfl dX8_carry_1 rfl rfl ?_
  have hJ_1 : g_J (R_X8_hold s) := J_hold p0
  refine r_aload_n O 0 dX8_carry_4 rfl rfl ?_
  refine r_aload_n O 0 dX8_carry_5 rfl rfl ?_
  refine r_iload_n O 1 dX8_carry_6 rfl rfl ?_
  refine r_callVi O [.int x1] [.ref (g_ad X 124)] (met_X8_carries (g_xl X) hs lm pm m (R_X8_hold s) x1 (by first | decide | with_reducible assumption | with_reducible omega | (simp (disch := omega) only [g_upd_ne, g_upd_eq, fr_X8_walks, fr_X8_sets, hold_ne]; first | with_reducible assumption | with_reducible omega | decide) | exact Or.inl rfl | exact Or.inr rfl)) LX8_156 obj_124 rfl rfl rfl dX8_carry_7 rfl rfl ?_
  have u_7 : ((R_X8_carries (R_X8_hold s) x1).2 1300).toInt = (s 1300).toInt := by rw [(U_carries (s := (R_X8_hold s)) (J_hold p0)) 1300 (by decide) (by decide), hold_ne (by decide)]
  refine r_callVi O [.int ((R_X8_carries (R_X8_hold s) x1).1)] [] (met_X8_done (g_xl X) hs lm pm m ((R_X8_carries (R_X8_hold s) x1).2) ((R_X8_carries (R_X8_hold s) x1).1) (by first | decide | with_reducible assumption | with_reducible omega | (simp (disch := omega) only [g_upd_ne, g_upd_eq, fr_X8_walks, fr_X8_sets, hold_ne]; first | with_reducible assumption | with_reducible omega | decide) | exact Or.inl rfl | exact Or.inr rfl) (by first | decide | with_reducible assumption | with_reducible omega | (simp (disch := omega) only [g_upd_ne, g_upd_eq, fr_X8_walks, fr_X8_sets, hold_ne]; first | with_reducible assumption | with_reducible omega | decide) | exact Or.inl rfl | exact Or.inr rfl)) LX8_147 obj_124 rfl rfl rfl dX8_carry_10 rfl rfl ?_
  exact r_iret O dX8_carry_13 rfl (Nat.le_of_ble_eq_true rfl) (Nat.le_of_ble_eq_true rfl) rfl
theorem met_X8_carry (l : Launch) (hs : l.stackTraces = false) (lm : Nat → Int64) (pm : Nat → Nat) (m : Nat → Int32) (s : Nat → Int32) (x1 : Int32) (p0 : g_J s) (p1 : 0 ≤ (s 1300).toInt) (p2 : (s 1300).toInt ≤ 4) : g_SM l yX8_carry cX8_carry 2 (some .int) ({ frames := 5, cells := 0, slots := 0, locals := 114 } : Room) (fun ad => [.ref (ad 124), .int x1]) m (s, lm, pm) ((fun r : Int32 × (Nat → Int32) => ((.inl (some (.int r.1)), (m, r.2, lm, pm)) : g_Res)) (R_X8_carry s x1)) :=
  g_sm_of (by decide) (fun _ => Nat.le_of_ble_eq_true rfl) hs (fun X hl hn O => walk_X8_carry O (by rw [hl]; exact hs) hn p0 p1 p2)
def R_X8_pass (s : Nat → Int32) (x1 : Int32) : (Int32 × (Nat → Int32)) := ((R_X8_done ((R_X8_passes (R_X8_hold s) x1).2) ((R_X8_passes (R_X8_hold s) x1).1)).1, (R_X8_done ((R_X8_passes (R_X8_hold s) x1).2) ((R_X8_passes (R_X8_hold s) x1).1)).2)
set_option maxRecDepth 100000 in
set_option maxHeartbeats 4000000 in
theorem walk_X8_pass {X : g_X} (O : g_ok X cX8_pass RX8 (some .int) ({ frames := 7, cells := 0, slots := 0, locals := 167 } : Room)) (hs : (g_xl X).stackTraces = false) (hn : g_xn X = 2) {m : Nat → Int32} {lm : Nat → Int64} {pm : Nat → Nat} {s : Nat → Int32} {x1 : Int32} (p0 : g_J s) (p1 : 0 ≤ (s 1300).toInt) (p2 : (s 1300).toInt ≤ 4) : g_V X (fun r : Int32 × (Nat → Int32) => ((.inl (some (.int r.1)), (m, r.2, lm, pm)) : g_Res)) (R_X8_pass s x1) 0 0 m (s, lm, pm) 0 [(0, .ref (g_ad X 124)), (1, .int x1)] [] := by
  have hN : ∀ i, Nat.blt i 2 = true → i < g_xn X := fun i h => by rw [hn]; exact g_blt.mp h
  refine r_aload_n O 0 dX8_pass_0 rfl rfl ?_
  refine r_callVv O [] [] (met_X8_hold (g_xl X) hs lm pm m s ) LX8_61 obj_124 rfl rfl rfl dX8_pass_1 rfl rfl ?_
  have hJ_1 : g_J (R_X8_hold s) := J_hold p0
  refine r_aload_n O 0 dX8_pass_4 rfl rfl ?_
  refine r_aload_n O 0 dX8_pass_5 rfl rfl ?_
  refine r_iload_n O 1 dX8_pass_6 rfl rfl ?_
  refine r_callVi O [.int x1] [.ref (g_ad X 124)] (met_X8_passes (g_xl X) hs lm pm m (R_X8_hold s) x1 (by first | decide | with_reducible assumption | with_reducible omega | (simp (disch := omega) only [g_upd_ne, g_upd_eq, fr_X8_walks, fr_X8_sets, hold_ne]; first | with_reducible assumption | with_reducible omega | decide) | exact Or.inl rfl | exact Or.inr rfl)) LX8_162 obj_124 rfl rfl rfl dX8_pass_7 rfl rfl ?_
  have u_7 : ((R_X8_passes (R_X8_hold s) x1).2 1300).toInt = (s 1300).toInt := by rw [(U_passes (s := (R_X8_hold s)) (J_hold p0)).1 1300 (by decide) (by decide), hold_ne (by decide)]
  refine r_callVi O [.int ((R_X8_passes (R_X8_hold s) x1).1)] [] (met_X8_done (g_xl X) hs lm pm m ((R_X8_passes (R_X8_hold s) x1).2) ((R_X8_passes (R_X8_hold s) x1).1) (by first | decide | with_reducible assumption | with_reducible omega | (simp (disch := omega) only [g_upd_ne, g_upd_eq, fr_X8_walks, fr_X8_sets, hold_ne]; first | with_reducible assumption | with_reducible omega | decide) | exact Or.inl rfl | exact Or.inr rfl) (by first | decide | with_reducible assumption | with_reducible omega | (simp (disch := omega) only [g_upd_ne, g_upd_eq, fr_X8_walks, fr_X8_sets, hold_ne]; first | with_reducible assumption | with_reducible omega | decide) | exact Or.inl rfl | exact Or.inr rfl)) LX8_147 obj_124 rfl rfl rfl dX8_pass_10 rfl rfl ?_
  exact r_iret O dX8_pass_13 rfl (Nat.le_of_ble_eq_true rfl) (Nat.le_of_ble_eq_true rfl) rfl
theorem met_X8_pass (l : Launch) (hs : l.stackTraces = false) (lm : Nat → Int64) (pm : Nat → Nat) (m : Nat → Int32) (s : Nat → Int32) (x1 : Int32) (p0 : g_J s) (p1 : 0 ≤ (s 1300).toInt) (p2 : (s 1300).toInt ≤ 4) : g_SM l yX8_pass cX8_pass 2 (some .int) ({ frames := 7, cells := 0, slots := 0, locals := 167 } : Room) (fun ad => [.ref (ad 124), .int x1]) m (s, lm, pm) ((fun r : Int32 × (Nat → Int32) => ((.inl (some (.int r.1)), (m, r.2, lm, pm)) : g_Res)) (R_X8_pass s x1)) :=
  g_sm_of (by decide) (fun _ => Nat.le_of_ble_eq_true rfl) hs (fun X hl hn O => walk_X8_pass O (by rw [hl]; exact hs) hn p0 p1 p2)
