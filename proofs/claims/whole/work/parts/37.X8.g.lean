/-! ===== the model: values and what-ifs ===== -/
def R_X8_passageFact (s : Nat → Int32) (x1 : Int32) (x2 : Int32) : Int32 := (if x2 = 0 then (s ((13 + x1).toNatClampNeg)) else (if x2 = 1 then (s ((20 + x1).toNatClampNeg)) else (if x2 = 2 then (s ((27 + x1).toNatClampNeg)) else (if x2 = 3 then (R_X8_walkers s x1) else (R_X8_rigger s x1)))))
set_option maxRecDepth 100000 in
set_option maxHeartbeats 4000000 in
theorem walk_X8_passageFact {X : g_X} (O : g_ok X cX8_passageFact RX8 (some .int) ({ frames := 3, cells := 0, slots := 0, locals := 67 } : Room)) (hs : (g_xl X).stackTraces = false) (hn : g_xn X = 3) {m : Nat → Int32} {lm : Nat → Int64} {pm : Nat → Nat} {s : Nat → Int32} {x1 : Int32} {x2 : Int32} (p0 : 0 ≤ x1.toInt) (p1 : x1.toInt ≤ 7) (p2 : (s 2).toInt ≤ 6) : g_V X (fun r : Int32 => ((.inl (some (.int r)), (m, s, lm, pm)) : g_Res)) (R_X8_passageFact s x1 x2) 0 0 m (s, lm, pm) 0 [(0, .ref (g_ad X 124)), (1, .int x1), (2, .int x2)] [] := by
  have hN : ∀ i, Nat.blt i 3 = true → i < g_xn X := fun i h => by rw [hn]; exact g_blt.mp h
  refine r_iload_n O 2 dX8_passageFact_0 rfl rfl ?_
  refine g_if (fun c_1_0 => ?_) (fun c_1_0 => ?_)
  · refine r_tabIn O 32 dX8_passageFact_1 (by rw [c_1_0]; decide) (by rw [c_1_0]; decide) (by rw [c_1_0]; rfl) (by decide) ?_
    refine r_aload_n O 0 dX8_passageFact_32 rfl rfl ?_
    refine r_get O FX8_7 G_124_0 dX8_passageFact_33 ?_
    refine r_bipush (x := 13) O dX8_passageFact_36 rfl ?_
    refine r_iload_n O 1 dX8_passageFact_38 rfl rfl ?_
    refine r_iadd O dX8_passageFact_39 ?_
    have ix_40 : (13 + x1).toInt = ((13 : Int) + x1.toInt) := (j_addE rfl rfl (by with_reducible omega) (by with_reducible omega))
    have iy_40 := j_nat (x := (13 + x1)) (by with_reducible omega)
    refine r_iald O R_125 (show vp_in (13 + x1) 178 from g_vin (by with_reducible omega) (by with_reducible omega)) dX8_passageFact_40 ?_
    exact r_iret O dX8_passageFact_41 rfl (Nat.le_of_ble_eq_true rfl) (Nat.le_of_ble_eq_true rfl) rfl
  · refine g_if (fun c_1_1 => ?_) (fun c_1_1 => ?_)
    · refine r_tabIn O 42 dX8_passageFact_1 (by rw [c_1_1]; decide) (by rw [c_1_1]; decide) (by rw [c_1_1]; rfl) (by decide) ?_
      refine r_aload_n O 0 dX8_passageFact_42 rfl rfl ?_
      refine r_get O FX8_7 G_124_0 dX8_passageFact_43 ?_
      refine r_bipush (x := 20) O dX8_passageFact_46 rfl ?_
      refine r_iload_n O 1 dX8_passageFact_48 rfl rfl ?_
      refine r_iadd O dX8_passageFact_49 ?_
      have ix_50 : (20 + x1).toInt = ((20 : Int) + x1.toInt) := (j_addE rfl rfl (by with_reducible omega) (by with_reducible omega))
      have iy_50 := j_nat (x := (20 + x1)) (by with_reducible omega)
      refine r_iald O R_125 (show vp_in (20 + x1) 178 from g_vin (by with_reducible omega) (by with_reducible omega)) dX8_passageFact_50 ?_
      exact r_iret O dX8_passageFact_51 rfl (Nat.le_of_ble_eq_true rfl) (Nat.le_of_ble_eq_true rfl) rfl
    · refine g_if (fun c_1_2 => ?_) (fun c_1_2 => ?_)
      · refine r_tabIn O 52 dX8_passageFact_1 (by rw [c_1_2]; decide) (by rw [c_1_2]; decide) (by rw [c_1_2]; rfl) (by decide) ?_
        refine r_aload_n O 0 dX8_passageFact_52 rfl rfl ?_
        refine r_get O FX8_7 G_124_0 dX8_passageFact_53 ?_
        refine r_bipush (x := 27) O dX8_passageFact_56 rfl ?_
        refine r_iload_n O 1 dX8_passageFact_58 rfl rfl ?_
        refine r_iadd O dX8_passageFact_59 ?_
        have ix_60 : (27 + x1).toInt = ((27 : Int) + x1.toInt) := (j_addE rfl rfl (by with_reducible omega) (by with_reducible omega))
        have iy_60 := j_nat (x := (27 + x1)) (by with_reducible omega)
        refine r_iald O R_125 (show vp_in (27 + x1) 178 from g_vin (by with_reducible omega) (by with_reducible omega)) dX8_passageFact_60 ?_
        exact r_iret O dX8_passageFact_61 rfl (Nat.le_of_ble_eq_true rfl) (Nat.le_of_ble_eq_true rfl) rfl
      · refine g_if (fun c_1_3 => ?_) (fun c_1_3 => ?_)
        · refine r_tabIn O 62 dX8_passageFact_1 (by rw [c_1_3]; decide) (by rw [c_1_3]; decide) (by rw [c_1_3]; rfl) (by decide) ?_
          refine r_aload_n O 0 dX8_passageFact_62 rfl rfl ?_
          refine r_iload_n O 1 dX8_passageFact_63 rfl rfl ?_
          refine r_callVi O [.int x1] [] (met_X8_walkers (g_xl X) hs lm pm m s x1 (by first | decide | with_reducible assumption | with_reducible omega | (simp (disch := omega) only [g_upd_ne, g_upd_eq, fr_X8_walks, fr_X8_sets]; first | with_reducible assumption | with_reducible omega | decide) | exact Or.inl rfl | exact Or.inr rfl)) LX8_73 obj_124 rfl rfl rfl dX8_passageFact_64 rfl rfl ?_
          exact r_iret O dX8_passageFact_67 rfl (Nat.le_of_ble_eq_true rfl) (Nat.le_of_ble_eq_true rfl) rfl
        · refine r_tabOut O 68 dX8_passageFact_1 (by have e0 : (x2).toInt ≠ 0 := j_neR c_1_0 rfl; have e1 : (x2).toInt ≠ 1 := j_neR c_1_1 rfl; have e2 : (x2).toInt ≠ 2 := j_neR c_1_2 rfl; have e3 : (x2).toInt ≠ 3 := j_neR c_1_3 rfl; omega) (by decide) ?_
          refine r_aload_n O 0 dX8_passageFact_68 rfl rfl ?_
          refine r_iload_n O 1 dX8_passageFact_69 rfl rfl ?_
          refine r_callVi O [.int x1] [] (met_X8_rigger (g_xl X) hs lm pm m s x1 (by first | decide | with_reducible assumption | with_reducible omega | (simp (disch := omega) only [g_upd_ne, g_upd_eq, fr_X8_walks, fr_X8_sets]; first | with_reducible assumption | with_reducible omega | decide) | exact Or.inl rfl | exact Or.inr rfl)) LX8_70 obj_124 rfl rfl rfl dX8_passageFact_70 rfl rfl ?_
          exact r_iret O dX8_passageFact_73 rfl (Nat.le_of_ble_eq_true rfl) (Nat.le_of_ble_eq_true rfl) rfl
theorem met_X8_passageFact (l : Launch) (hs : l.stackTraces = false) (lm : Nat → Int64) (pm : Nat → Nat) (m : Nat → Int32) (s : Nat → Int32) (x1 : Int32) (x2 : Int32) (p0 : 0 ≤ x1.toInt) (p1 : x1.toInt ≤ 7) (p2 : (s 2).toInt ≤ 6) : g_SM l yX8_passageFact cX8_passageFact 3 (some .int) ({ frames := 3, cells := 0, slots := 0, locals := 67 } : Room) (fun ad => [.ref (ad 124), .int x1, .int x2]) m (s, lm, pm) ((fun r : Int32 => ((.inl (some (.int r)), (m, s, lm, pm)) : g_Res)) (R_X8_passageFact s x1 x2)) :=
  g_sm_of (by decide) (fun _ => Nat.le_of_ble_eq_true rfl) hs (fun X hl hn O => walk_X8_passageFact O (by rw [hl]; exact hs) hn p0 p1 p2)
def R_X8_below_28 (K_4 : Int32 → Nat → Int32) (v1_4 : Int32) (n : Nat) (t0_28 : Int32) : Int32 := (K_4 (v1_4 + t0_28) (n + 1))
def R_X8_below_4 (s : Nat → Int32) : Nat → Int32 → Nat → Int32
  | 0, _, _ => 0
  | f + 1, v1_4, n => (if (s (2)) ≤ (nI n) then v1_4 else (if (R_X8_isBelow s (nI n)) = 0 then (R_X8_below_28 (R_X8_below_4 s f) v1_4 n 0) else (R_X8_below_28 (R_X8_below_4 s f) v1_4 n 1)))
def R_X8_below (s : Nat → Int32) : Int32 := (R_X8_below_4 s 7 0 0)
set_option maxRecDepth 100000 in
set_option maxHeartbeats 4000000 in
theorem walk_X8_below {X : g_X} (O : g_ok X cX8_below RX8 (some .int) ({ frames := 2, cells := 0, slots := 0, locals := 43 } : Room)) (hs : (g_xl X).stackTraces = false) (hn : g_xn X = 3) {m : Nat → Int32} {lm : Nat → Int64} {pm : Nat → Nat} {s : Nat → Int32} (p0 : (s 2).toInt ≤ 6) : g_V X (fun r : Int32 => ((.inl (some (.int r)), (m, s, lm, pm)) : g_Res)) (R_X8_below s) 0 0 m (s, lm, pm) 0 [(0, .ref (g_ad X 124))] [] := by
  have hN : ∀ i, Nat.blt i 3 = true → i < g_xn X := fun i h => by rw [hn]; exact g_blt.mp h
  refine r_iconst (x := 0) O dX8_below_0 rfl ?_
  refine r_istore_n (lc' := [(1, .int 0), (0, .ref (g_ad X 124))]) O dX8_below_1 rfl (hN 1 rfl) rfl ?_
  refine r_iconst (x := 0) O dX8_below_2 rfl ?_
  refine r_istore_n (lc' := [(2, .int 0), (1, .int 0), (0, .ref (g_ad X 124))]) O dX8_below_3 rfl (hN 2 rfl) rfl ?_
  have L_4 : ∀ (f_4 : Nat) (v1_4 : Int32) (n : Nat) (hi_4 : n ≤ 6 ∧ 6 < f_4 + n), g_V X (fun r : Int32 => ((.inl (some (.int r)), (m, s, lm, pm)) : g_Res)) (R_X8_below_4 s f_4 v1_4 n) 0 0 m (s, lm, pm) 4 [(0, .ref (g_ad X 124)), (1, .int v1_4), (2, .int (nI n))] [] := by
    intro f_4
    induction f_4 with
    | zero => intro v1_4 n hi_4; exact absurd hi_4 (by omega)
    | succ f_4 ih_4 =>
      intro v1_4 n hi_4
      have hc_n : (nI n).toInt = (n : Int) := nI_toInt (by omega)
      refine r_iload_n O 2 dX8_below_4 rfl rfl ?_
      refine r_aload_n O 0 dX8_below_5 rfl rfl ?_
      refine r_get O FX8_7 G_124_0 dX8_below_6 ?_
      refine r_iconst (x := 2) O dX8_below_9 rfl ?_
      refine r_iald O R_125 (g_vin (by decide) (by decide)) dX8_below_10 ?_
      refine r_icmp_ge O 36 dX8_below_11 (by decide) (fun c_11 => ?_) (fun c_11 => ?_)
      · have e_11 : (s (2)).toInt ≤ (nI n).toInt := j_le c_11
        refine r_iload_n O 1 dX8_below_36 rfl rfl ?_
        exact r_iret O dX8_below_37 rfl (Nat.le_of_ble_eq_true rfl) (Nat.le_of_ble_eq_true rfl) rfl
      · have e_11 : (nI n).toInt < (s (2)).toInt := j_nle c_11
        refine r_iload_n O 1 dX8_below_14 rfl rfl ?_
        refine r_aload_n O 0 dX8_below_15 rfl rfl ?_
        refine r_iload_n O 2 dX8_below_16 rfl rfl ?_
        refine r_callVi O [.int (nI n)] [.int v1_4] (met_X8_isBelow (g_xl X) hs lm pm m s (nI n) (by first | decide | with_reducible assumption | with_reducible omega | (simp (disch := omega) only [g_upd_ne, g_upd_eq, fr_X8_walks, fr_X8_sets]; first | with_reducible assumption | with_reducible omega | decide) | exact Or.inl rfl | exact Or.inr rfl) (by first | decide | with_reducible assumption | with_reducible omega | (simp (disch := omega) only [g_upd_ne, g_upd_eq, fr_X8_walks, fr_X8_sets]; first | with_reducible assumption | with_reducible omega | decide) | exact Or.inl rfl | exact Or.inr rfl)) LX8_48 obj_124 rfl rfl rfl dX8_below_17 rfl rfl ?_
        have J_28 : ∀ (t0_28 : Int32), g_V X (fun r : Int32 => ((.inl (some (.int r)), (m, s, lm, pm)) : g_Res)) (R_X8_below_28 ((R_X8_below_4 s f_4)) v1_4 n t0_28) 0 0 m (s, lm, pm) 28 [(0, .ref (g_ad X 124)), (2, .int (nI n))] [.int t0_28, .int v1_4] := by
          intro t0_28
          refine r_iadd O dX8_below_28 ?_
          refine r_istore_n (lc' := [(1, .int (v1_4 + t0_28)), (0, .ref (g_ad X 124)), (2, .int (nI n))]) O dX8_below_29 rfl (hN 1 rfl) rfl ?_
          refine r_iinc (lc' := [(2, .int (nI (n + 1))), (1, .int (v1_4 + t0_28)), (0, .ref (g_ad X 124))]) O 2 dX8_below_30 rfl (nI_1 n) (hN 2 rfl) rfl ?_
          refine r_goto O 4 dX8_below_33 (by decide) ?_
          refine r_sub [2, 1, 0] rfl ?_
          exact ih_4 (v1_4 + t0_28) (n + 1) (by with_reducible omega)
        refine r_if_eq O 27 dX8_below_20 (by decide) (fun c_20 => ?_) (fun c_20 => ?_)
        · have e_20 : (R_X8_isBelow s (nI n)).toInt = (0 : Int) := j_eqR c_20 rfl
          refine r_iconst (x := 0) O dX8_below_27 rfl ?_
          refine r_sub [0, 2] rfl ?_
          exact J_28 0
        · have e_20 : (R_X8_isBelow s (nI n)).toInt ≠ (0 : Int) := j_neR c_20 rfl
          refine r_iconst (x := 1) O dX8_below_23 rfl ?_
          refine r_goto O 28 dX8_below_24 (by decide) ?_
          refine r_sub [0, 2] rfl ?_
          exact J_28 1
  refine r_sub [2, 1, 0] rfl ?_
  exact L_4 7 0 0 (by with_reducible omega)
theorem met_X8_below (l : Launch) (hs : l.stackTraces = false) (lm : Nat → Int64) (pm : Nat → Nat) (m : Nat → Int32) (s : Nat → Int32) (p0 : (s 2).toInt ≤ 6) : g_SM l yX8_below cX8_below 3 (some .int) ({ frames := 2, cells := 0, slots := 0, locals := 43 } : Room) (fun ad => [.ref (ad 124)]) m (s, lm, pm) ((fun r : Int32 => ((.inl (some (.int r)), (m, s, lm, pm)) : g_Res)) (R_X8_below s)) :=
  g_sm_of (by decide) (fun _ => Nat.le_of_ble_eq_true rfl) hs (fun X hl hn O => walk_X8_below O (by rw [hl]; exact hs) hn p0)
def R_X8_shut_28 (K_4 : Int32 → Nat → Int32) (v1_4 : Int32) (n : Nat) (t0_28 : Int32) : Int32 := (K_4 (v1_4 + t0_28) (n + 1))
def R_X8_shut_4 (s : Nat → Int32) : Nat → Int32 → Nat → Int32
  | 0, _, _ => 0
  | f + 1, v1_4, n => (if (s (0)) ≤ (nI n) then v1_4 else (if (R_X8_isShut s (nI n)) = 0 then (R_X8_shut_28 (R_X8_shut_4 s f) v1_4 n 0) else (R_X8_shut_28 (R_X8_shut_4 s f) v1_4 n 1)))
def R_X8_shut (s : Nat → Int32) : Int32 := (R_X8_shut_4 s 8 0 0)
set_option maxRecDepth 100000 in
set_option maxHeartbeats 4000000 in
theorem walk_X8_shut {X : g_X} (O : g_ok X cX8_shut RX8 (some .int) ({ frames := 1, cells := 0, slots := 0, locals := 21 } : Room)) (hs : (g_xl X).stackTraces = false) (hn : g_xn X = 3) {m : Nat → Int32} {lm : Nat → Int64} {pm : Nat → Nat} {s : Nat → Int32} (p0 : (s 0).toInt ≤ 7) : g_V X (fun r : Int32 => ((.inl (some (.int r)), (m, s, lm, pm)) : g_Res)) (R_X8_shut s) 0 0 m (s, lm, pm) 0 [(0, .ref (g_ad X 124))] [] := by
  have hN : ∀ i, Nat.blt i 3 = true → i < g_xn X := fun i h => by rw [hn]; exact g_blt.mp h
  refine r_iconst (x := 0) O dX8_shut_0 rfl ?_
  refine r_istore_n (lc' := [(1, .int 0), (0, .ref (g_ad X 124))]) O dX8_shut_1 rfl (hN 1 rfl) rfl ?_
  refine r_iconst (x := 0) O dX8_shut_2 rfl ?_
  refine r_istore_n (lc' := [(2, .int 0), (1, .int 0), (0, .ref (g_ad X 124))]) O dX8_shut_3 rfl (hN 2 rfl) rfl ?_
  have L_4 : ∀ (f_4 : Nat) (v1_4 : Int32) (n : Nat) (hi_4 : n ≤ 7 ∧ 7 < f_4 + n), g_V X (fun r : Int32 => ((.inl (some (.int r)), (m, s, lm, pm)) : g_Res)) (R_X8_shut_4 s f_4 v1_4 n) 0 0 m (s, lm, pm) 4 [(0, .ref (g_ad X 124)), (1, .int v1_4), (2, .int (nI n))] [] := by
    intro f_4
    induction f_4 with
    | zero => intro v1_4 n hi_4; exact absurd hi_4 (by omega)
    | succ f_4 ih_4 =>
      intro v1_4 n hi_4
      have hc_n : (nI n).toInt = (n : Int) := nI_toInt (by omega)
      refine r_iload_n O 2 dX8_shut_4 rfl rfl ?_
      refine r_aload_n O 0 dX8_shut_5 rfl rfl ?_
      refine r_get O FX8_7 G_124_0 dX8_shut_6 ?_
      refine r_iconst (x := 0) O dX8_shut_9 rfl ?_
      refine r_iald O R_125 (g_vin (by decide) (by decide)) dX8_shut_10 ?_
      refine r_icmp_ge O 36 dX8_shut_11 (by decide) (fun c_11 => ?_) (fun c_11 => ?_)
      · have e_11 : (s (0)).toInt ≤ (nI n).toInt := j_le c_11
        refine r_iload_n O 1 dX8_shut_36 rfl rfl ?_
        exact r_iret O dX8_shut_37 rfl (Nat.le_of_ble_eq_true rfl) (Nat.le_of_ble_eq_true rfl) rfl
      · have e_11 : (nI n).toInt < (s (0)).toInt := j_nle c_11
        refine r_iload_n O 1 dX8_shut_14 rfl rfl ?_
        refine r_aload_n O 0 dX8_shut_15 rfl rfl ?_
        refine r_iload_n O 2 dX8_shut_16 rfl rfl ?_
        refine r_callVi O [.int (nI n)] [.int v1_4] (met_X8_isShut (g_xl X) hs lm pm m s (nI n) (by first | decide | with_reducible assumption | with_reducible omega | (simp (disch := omega) only [g_upd_ne, g_upd_eq, fr_X8_walks, fr_X8_sets]; first | with_reducible assumption | with_reducible omega | decide) | exact Or.inl rfl | exact Or.inr rfl) (by first | decide | with_reducible assumption | with_reducible omega | (simp (disch := omega) only [g_upd_ne, g_upd_eq, fr_X8_walks, fr_X8_sets]; first | with_reducible assumption | with_reducible omega | decide) | exact Or.inl rfl | exact Or.inr rfl)) LX8_44 obj_124 rfl rfl rfl dX8_shut_17 rfl rfl ?_
        have J_28 : ∀ (t0_28 : Int32), g_V X (fun r : Int32 => ((.inl (some (.int r)), (m, s, lm, pm)) : g_Res)) (R_X8_shut_28 ((R_X8_shut_4 s f_4)) v1_4 n t0_28) 0 0 m (s, lm, pm) 28 [(0, .ref (g_ad X 124)), (2, .int (nI n))] [.int t0_28, .int v1_4] := by
          intro t0_28
          refine r_iadd O dX8_shut_28 ?_
          refine r_istore_n (lc' := [(1, .int (v1_4 + t0_28)), (0, .ref (g_ad X 124)), (2, .int (nI n))]) O dX8_shut_29 rfl (hN 1 rfl) rfl ?_
          refine r_iinc (lc' := [(2, .int (nI (n + 1))), (1, .int (v1_4 + t0_28)), (0, .ref (g_ad X 124))]) O 2 dX8_shut_30 rfl (nI_1 n) (hN 2 rfl) rfl ?_
          refine r_goto O 4 dX8_shut_33 (by decide) ?_
          refine r_sub [2, 1, 0] rfl ?_
          exact ih_4 (v1_4 + t0_28) (n + 1) (by with_reducible omega)
        refine r_if_eq O 27 dX8_shut_20 (by decide) (fun c_20 => ?_) (fun c_20 => ?_)
        · have e_20 : (R_X8_isShut s (nI n)).toInt = (0 : Int) := j_eqR c_20 rfl
          refine r_iconst (x := 0) O dX8_shut_27 rfl ?_
          refine r_sub [0, 2] rfl ?_
          exact J_28 0
        · have e_20 : (R_X8_isShut s (nI n)).toInt ≠ (0 : Int) := j_neR c_20 rfl
          refine r_iconst (x := 1) O dX8_shut_23 rfl ?_
          refine r_goto O 28 dX8_shut_24 (by decide) ?_
          refine r_sub [0, 2] rfl ?_
          exact J_28 1
  refine r_sub [2, 1, 0] rfl ?_
  exact L_4 8 0 0 (by with_reducible omega)
theorem met_X8_shut (l : Launch) (hs : l.stackTraces = false) (lm : Nat → Int64) (pm : Nat → Nat) (m : Nat → Int32) (s : Nat → Int32) (p0 : (s 0).toInt ≤ 7) : g_SM l yX8_shut cX8_shut 3 (some .int) ({ frames := 1, cells := 0, slots := 0, locals := 21 } : Room) (fun ad => [.ref (ad 124)]) m (s, lm, pm) ((fun r : Int32 => ((.inl (some (.int r)), (m, s, lm, pm)) : g_Res)) (R_X8_shut s)) :=
  g_sm_of (by decide) (fun _ => Nat.le_of_ble_eq_true rfl) hs (fun X hl hn O => walk_X8_shut O (by rw [hl]; exact hs) hn p0)
def R_X8_valueOf (s : Nat → Int32) (x1 : Int32) : Int32 := (if 6 ≤ x1 then (if x1 = 6 then (R_X8_below s) else (if 10 ≤ x1 then (if x1 = 10 then (R_X8_shut s) else (s ((x1 - 2).toNatClampNeg))) else (s ((x1 - 1).toNatClampNeg)))) else (s (x1.toNatClampNeg)))
set_option maxRecDepth 100000 in
set_option maxHeartbeats 4000000 in
theorem walk_X8_valueOf {X : g_X} (O : g_ok X cX8_valueOf RX8 (some .int) ({ frames := 3, cells := 0, slots := 0, locals := 65 } : Room)) (hs : (g_xl X).stackTraces = false) (hn : g_xn X = 2) {m : Nat → Int32} {lm : Nat → Int64} {pm : Nat → Nat} {s : Nat → Int32} {x1 : Int32} (p0 : 0 ≤ x1.toInt) (p1 : x1.toInt ≤ 13) (p2 : (s 0).toInt ≤ 7) (p3 : (s 2).toInt ≤ 6) : g_V X (fun r : Int32 => ((.inl (some (.int r)), (m, s, lm, pm)) : g_Res)) (R_X8_valueOf s x1) 0 0 m (s, lm, pm) 0 [(0, .ref (g_ad X 124)), (1, .int x1)] [] := by
  have hN : ∀ i, Nat.blt i 2 = true → i < g_xn X := fun i h => by rw [hn]; exact g_blt.mp h
  refine r_iload_n O 1 dX8_valueOf_0 rfl rfl ?_
  refine r_bipush (x := 6) O dX8_valueOf_1 rfl ?_
  refine r_icmp_ge O 15 dX8_valueOf_3 (by decide) (fun c_3 => ?_) (fun c_3 => ?_)
  · have e_3 : (6 : Int) ≤ (x1).toInt := j_leL c_3 rfl
    refine r_iload_n O 1 dX8_valueOf_15 rfl rfl ?_
    refine r_bipush (x := 6) O dX8_valueOf_16 rfl ?_
    refine r_icmp_ne O 28 dX8_valueOf_18 (by decide) (fun c_18 => ?_) (fun c_18 => ?_)
    · have e_18 : (x1).toInt = (6 : Int) := j_eqR c_18 rfl
      refine r_aload_n O 0 dX8_valueOf_21 rfl rfl ?_
      refine r_callVi O [] [] (met_X8_below (g_xl X) hs lm pm m s (by first | decide | with_reducible assumption | with_reducible omega | (simp (disch := omega) only [g_upd_ne, g_upd_eq, fr_X8_walks, fr_X8_sets]; first | with_reducible assumption | with_reducible omega | decide) | exact Or.inl rfl | exact Or.inr rfl)) LX8_168 obj_124 rfl rfl rfl dX8_valueOf_22 rfl rfl ?_
      refine r_goto O 66 dX8_valueOf_25 (by decide) ?_
      exact r_iret O dX8_valueOf_66 rfl (Nat.le_of_ble_eq_true rfl) (Nat.le_of_ble_eq_true rfl) rfl
    · have e_18 : (x1).toInt ≠ (6 : Int) := j_neR c_18 rfl
      refine r_iload_n O 1 dX8_valueOf_28 rfl rfl ?_
      refine r_bipush (x := 10) O dX8_valueOf_29 rfl ?_
      refine r_icmp_ge O 45 dX8_valueOf_31 (by decide) (fun c_31 => ?_) (fun c_31 => ?_)
      · have e_31 : (10 : Int) ≤ (x1).toInt := j_leL c_31 rfl
        refine r_iload_n O 1 dX8_valueOf_45 rfl rfl ?_
        refine r_bipush (x := 10) O dX8_valueOf_46 rfl ?_
        refine r_icmp_ne O 58 dX8_valueOf_48 (by decide) (fun c_48 => ?_) (fun c_48 => ?_)
        · have e_48 : (x1).toInt = (10 : Int) := j_eqR c_48 rfl
          refine r_aload_n O 0 dX8_valueOf_51 rfl rfl ?_
          refine r_callVi O [] [] (met_X8_shut (g_xl X) hs lm pm m s (by first | decide | with_reducible assumption | with_reducible omega | (simp (disch := omega) only [g_upd_ne, g_upd_eq, fr_X8_walks, fr_X8_sets]; first | with_reducible assumption | with_reducible omega | decide) | exact Or.inl rfl | exact Or.inr rfl)) LX8_171 obj_124 rfl rfl rfl dX8_valueOf_52 rfl rfl ?_
          refine r_goto O 66 dX8_valueOf_55 (by decide) ?_
          exact r_iret O dX8_valueOf_66 rfl (Nat.le_of_ble_eq_true rfl) (Nat.le_of_ble_eq_true rfl) rfl
        · have e_48 : (x1).toInt ≠ (10 : Int) := j_neR c_48 rfl
          refine r_aload_n O 0 dX8_valueOf_58 rfl rfl ?_
          refine r_get O FX8_7 G_124_0 dX8_valueOf_59 ?_
          refine r_iload_n O 1 dX8_valueOf_62 rfl rfl ?_
          refine r_iconst (x := 2) O dX8_valueOf_63 rfl ?_
          refine r_isub O dX8_valueOf_64 ?_
          have ix_65 : (x1 - 2).toInt = (x1.toInt - (2 : Int)) := (j_subE rfl rfl (by with_reducible omega) (by with_reducible omega))
          have iy_65 := j_nat (x := (x1 - 2)) (by with_reducible omega)
          refine r_iald O R_125 (show vp_in (x1 - 2) 178 from g_vin (by with_reducible omega) (by with_reducible omega)) dX8_valueOf_65 ?_
          exact r_iret O dX8_valueOf_66 rfl (Nat.le_of_ble_eq_true rfl) (Nat.le_of_ble_eq_true rfl) rfl
      · have e_31 : (x1).toInt < (10 : Int) := j_nleL c_31 rfl
        refine r_aload_n O 0 dX8_valueOf_34 rfl rfl ?_
        refine r_get O FX8_7 G_124_0 dX8_valueOf_35 ?_
        refine r_iload_n O 1 dX8_valueOf_38 rfl rfl ?_
        refine r_iconst (x := 1) O dX8_valueOf_39 rfl ?_
        refine r_isub O dX8_valueOf_40 ?_
        have ix_41 : (x1 - 1).toInt = (x1.toInt - (1 : Int)) := (j_subE rfl rfl (by with_reducible omega) (by with_reducible omega))
        have iy_41 := j_nat (x := (x1 - 1)) (by with_reducible omega)
        refine r_iald O R_125 (show vp_in (x1 - 1) 178 from g_vin (by with_reducible omega) (by with_reducible omega)) dX8_valueOf_41 ?_
        refine r_goto O 66 dX8_valueOf_42 (by decide) ?_
        exact r_iret O dX8_valueOf_66 rfl (Nat.le_of_ble_eq_true rfl) (Nat.le_of_ble_eq_true rfl) rfl
  · have e_3 : (x1).toInt < (6 : Int) := j_nleL c_3 rfl
    refine r_aload_n O 0 dX8_valueOf_6 rfl rfl ?_
    refine r_get O FX8_7 G_124_0 dX8_valueOf_7 ?_
    refine r_iload_n O 1 dX8_valueOf_10 rfl rfl ?_
    have iy_11 := j_nat (x := x1) (by with_reducible omega)
    refine r_iald O R_125 (show vp_in x1 178 from g_vin (by with_reducible omega) (by with_reducible omega)) dX8_valueOf_11 ?_
    refine r_goto O 66 dX8_valueOf_12 (by decide) ?_
    exact r_iret O dX8_valueOf_66 rfl (Nat.le_of_ble_eq_true rfl) (Nat.le_of_ble_eq_true rfl) rfl
theorem met_X8_valueOf (l : Launch) (hs : l.stackTraces = false) (lm : Nat → Int64) (pm : Nat → Nat) (m : Nat → Int32) (s : Nat → Int32) (x1 : Int32) (p0 : 0 ≤ x1.toInt) (p1 : x1.toInt ≤ 13) (p2 : (s 0).toInt ≤ 7) (p3 : (s 2).toInt ≤ 6) : g_SM l yX8_valueOf cX8_valueOf 2 (some .int) ({ frames := 3, cells := 0, slots := 0, locals := 65 } : Room) (fun ad => [.ref (ad 124), .int x1]) m (s, lm, pm) ((fun r : Int32 => ((.inl (some (.int r)), (m, s, lm, pm)) : g_Res)) (R_X8_valueOf s x1)) :=
  g_sm_of (by decide) (fun _ => Nat.le_of_ble_eq_true rfl) hs (fun X hl hn O => walk_X8_valueOf O (by rw [hl]; exact hs) hn p0 p1 p2 p3)
def R_X8_passage (s : Nat → Int32) (x1 : Int32) (x2 : Int32) : (Int32 × (Nat → Int32)) := (if (R_X8_isPassage s x1) = 0 then ((R_X8_fails s 1).1, (R_X8_fails s 1).2) else (if (R_X8_in s x2 0 4) = 0 then ((R_X8_fails s 2).1, (R_X8_fails s 2).2) else ((R_X8_tells s (R_X8_passageFact s x1 x2)).1, (R_X8_tells s (R_X8_passageFact s x1 x2)).2)))
set_option maxRecDepth 100000 in
set_option maxHeartbeats 4000000 in
theorem walk_X8_passage {X : g_X} (O : g_ok X cX8_passage RX8 (some .int) ({ frames := 4, cells := 0, slots := 0, locals := 89 } : Room)) (hs : (g_xl X).stackTraces = false) (hn : g_xn X = 3) {m : Nat → Int32} {lm : Nat → Int64} {pm : Nat → Nat} {s : Nat → Int32} {x1 : Int32} {x2 : Int32} (p0 : g_J s) : g_V X (fun r : Int32 × (Nat → Int32) => ((.inl (some (.int r.1)), (m, r.2, lm, pm)) : g_Res)) (R_X8_passage s x1 x2) 0 0 m (s, lm, pm) 0 [(0, .ref (g_ad X 124)), (1, .int x1), (2, .int x2)] [] := by
  have hN : ∀ i, Nat.blt i 3 = true → i < g_xn X := fun i h => by rw [hn]; exact g_blt.mp h
  obtain ⟨n0, n1, n2, n4, n6, n12, n3⟩ := p0.n
  refine r_aload_n O 0 dX8_passage_0 rfl rfl ?_
  refine r_iload_n O 1 dX8_passage_1 rfl rfl ?_
  refine r_callVi O [.int x1] [] (met_X8_isPassage (g_xl X) hs lm pm m s x1 ) LX8_67 obj_124 rfl rfl rfl dX8_passage_2 rfl rfl ?_
  refine r_if_ne O 14 dX8_passage_5 (by decide) (fun c_5 => ?_) (fun c_5 => ?_)
  · have e_5 : (R_X8_isPassage s x1).toInt = (0 : Int) := j_eqR c_5 rfl
    refine r_aload_n O 0 dX8_passage_8 rfl rfl ?_
    refine r_iconst (x := 1) O dX8_passage_9 rfl ?_
    refine r_callVi O [.int 1] [] (met_X8_fails (g_xl X) hs lm pm m s 1 ) LX8_58 obj_124 rfl rfl rfl dX8_passage_10 rfl rfl ?_
    exact r_iret O dX8_passage_13 rfl (Nat.le_of_ble_eq_true rfl) (Nat.le_of_ble_eq_true rfl) rfl
  · have e_5 : (R_X8_isPassage s x1).toInt ≠ (0 : Int) := j_neR c_5 rfl
    obtain ⟨z_5a, z_5b⟩ := nz_X8_isPassage c_5
    refine r_iload_n O 2 dX8_passage_14 rfl rfl ?_
    refine r_iconst (x := 0) O dX8_passage_15 rfl ?_
    refine r_iconst (x := 4) O dX8_passage_16 rfl ?_
    refine r_callSi O [.int x2, .int 0, .int 4] [] (met_X8_in (g_xl X) hs lm pm m s x2 0 4 ) LX8_54 rfl rfl rfl dX8_passage_17 rfl rfl ?_
    refine r_if_eq O 36 dX8_passage_20 (by decide) (fun c_20 => ?_) (fun c_20 => ?_)
    · have e_20 : (R_X8_in s x2 0 4).toInt = (0 : Int) := j_eqR c_20 rfl
      refine r_aload_n O 0 dX8_passage_36 rfl rfl ?_
      refine r_iconst (x := 2) O dX8_passage_37 rfl ?_
      refine r_callVi O [.int 2] [] (met_X8_fails (g_xl X) hs lm pm m s 2 ) LX8_58 obj_124 rfl rfl rfl dX8_passage_38 rfl rfl ?_
      exact r_iret O dX8_passage_41 rfl (Nat.le_of_ble_eq_true rfl) (Nat.le_of_ble_eq_true rfl) rfl
    · have e_20 : (R_X8_in s x2 0 4).toInt ≠ (0 : Int) := j_neR c_20 rfl
      have z_20a : (0 : Int) ≤ (x2).toInt := (nz_X8_in c_20).1
      have z_20b : (x2).toInt ≤ (4 : Int) := (nz_X8_in c_20).2
      refine r_aload_n O 0 dX8_passage_23 rfl rfl ?_
      refine r_aload_n O 0 dX8_passage_24 rfl rfl ?_
      refine r_iload_n O 1 dX8_passage_25 rfl rfl ?_
      refine r_iload_n O 2 dX8_passage_26 rfl rfl ?_
      refine r_callVi O [.int x1, .int x2] [.ref (g_ad X 124)] (met_X8_passageFact (g_xl X) hs lm pm m s x1 x2 (by first | decide | with_reducible assumption | with_reducible omega | (simp (disch := omega) only [g_upd_ne, g_upd_eq, fr_X8_walks, fr_X8_sets]; first | with_reducible assumption | with_reducible omega | decide) | exact Or.inl rfl | exact Or.inr rfl) (by first | decide | with_reducible assumption | with_reducible omega | (simp (disch := omega) only [g_upd_ne, g_upd_eq, fr_X8_walks, fr_X8_sets]; first | with_reducible assumption | with_reducible omega | decide) | exact Or.inl rfl | exact Or.inr rfl) (by first | decide | with_reducible assumption | with_reducible omega | (simp (disch := omega) only [g_upd_ne, g_upd_eq, fr_X8_walks, fr_X8_sets]; first | with_reducible assumption | with_reducible omega | decide) | exact Or.inl rfl | exact Or.inr rfl)) LX8_165 obj_124 rfl rfl rfl dX8_passage_27 rfl rfl ?_
      refine r_callVi O [.int (R_X8_passageFact s x1 x2)] [] (met_X8_tells (g_xl X) hs lm pm m s (R_X8_passageFact s x1 x2) ) LX8_33 obj_124 rfl rfl rfl dX8_passage_30 rfl rfl ?_
      refine r_goto O 41 dX8_passage_33 (by decide) ?_
      exact r_iret O dX8_passage_41 rfl (Nat.le_of_ble_eq_true rfl) (Nat.le_of_ble_eq_true rfl) rfl
theorem met_X8_passage (l : Launch) (hs : l.stackTraces = false) (lm : Nat → Int64) (pm : Nat → Nat) (m : Nat → Int32) (s : Nat → Int32) (x1 : Int32) (x2 : Int32) (p0 : g_J s) : g_SM l yX8_passage cX8_passage 3 (some .int) ({ frames := 4, cells := 0, slots := 0, locals := 89 } : Room) (fun ad => [.ref (ad 124), .int x1, .int x2]) m (s, lm, pm) ((fun r : Int32 × (Nat → Int32) => ((.inl (some (.int r.1)), (m, r.2, lm, pm)) : g_Res)) (R_X8_passage s x1 x2)) :=
  g_sm_of (by decide) (fun _ => Nat.le_of_ble_eq_true rfl) hs (fun X hl hn O => walk_X8_passage O (by rw [hl]; exact hs) hn p0)
def R_X8_rope (s : Nat → Int32) (x1 : Int32) (x2 : Int32) : (Int32 × (Nat → Int32)) := (if (R_X8_isRope s x1) = 0 then ((R_X8_fails s 1).1, (R_X8_fails s 1).2) else (if (R_X8_in s x2 0 2) = 0 then ((R_X8_fails s 2).1, (R_X8_fails s 2).2) else ((R_X8_tells s (s (((34 + (3 * x1)) + x2).toNatClampNeg))).1, (R_X8_tells s (s (((34 + (3 * x1)) + x2).toNatClampNeg))).2)))
set_option maxRecDepth 100000 in
set_option maxHeartbeats 4000000 in
theorem walk_X8_rope {X : g_X} (O : g_ok X cX8_rope RX8 (some .int) ({ frames := 1, cells := 0, slots := 0, locals := 22 } : Room)) (hs : (g_xl X).stackTraces = false) (hn : g_xn X = 3) {m : Nat → Int32} {lm : Nat → Int64} {pm : Nat → Nat} {s : Nat → Int32} {x1 : Int32} {x2 : Int32} (p0 : g_J s) : g_V X (fun r : Int32 × (Nat → Int32) => ((.inl (some (.int r.1)), (m, r.2, lm, pm)) : g_Res)) (R_X8_rope s x1 x2) 0 0 m (s, lm, pm) 0 [(0, .ref (g_ad X 124)), (1, .int x1), (2, .int x2)] [] := by
  have hN : ∀ i, Nat.blt i 3 = true → i < g_xn X := fun i h => by rw [hn]; exact g_blt.mp h
  obtain ⟨n0, n1, n2, n4, n6, n12, n3⟩ := p0.n
  refine r_aload_n O 0 dX8_rope_0 rfl rfl ?_
  refine r_iload_n O 1 dX8_rope_1 rfl rfl ?_
  refine r_callVi O [.int x1] [] (met_X8_isRope (g_xl X) hs lm pm m s x1 ) LX8_108 obj_124 rfl rfl rfl dX8_rope_2 rfl rfl ?_
  refine r_if_ne O 14 dX8_rope_5 (by decide) (fun c_5 => ?_) (fun c_5 => ?_)
  · have e_5 : (R_X8_isRope s x1).toInt = (0 : Int) := j_eqR c_5 rfl
    refine r_aload_n O 0 dX8_rope_8 rfl rfl ?_
    refine r_iconst (x := 1) O dX8_rope_9 rfl ?_
    refine r_callVi O [.int 1] [] (met_X8_fails (g_xl X) hs lm pm m s 1 ) LX8_58 obj_124 rfl rfl rfl dX8_rope_10 rfl rfl ?_
    exact r_iret O dX8_rope_13 rfl (Nat.le_of_ble_eq_true rfl) (Nat.le_of_ble_eq_true rfl) rfl
  · have e_5 : (R_X8_isRope s x1).toInt ≠ (0 : Int) := j_neR c_5 rfl
    obtain ⟨z_5a, z_5b⟩ := nz_X8_isRope c_5
    refine r_iload_n O 2 dX8_rope_14 rfl rfl ?_
    refine r_iconst (x := 0) O dX8_rope_15 rfl ?_
    refine r_iconst (x := 2) O dX8_rope_16 rfl ?_
    refine r_callSi O [.int x2, .int 0, .int 2] [] (met_X8_in (g_xl X) hs lm pm m s x2 0 2 ) LX8_54 rfl rfl rfl dX8_rope_17 rfl rfl ?_
    refine r_if_eq O 43 dX8_rope_20 (by decide) (fun c_20 => ?_) (fun c_20 => ?_)
    · have e_20 : (R_X8_in s x2 0 2).toInt = (0 : Int) := j_eqR c_20 rfl
      refine r_aload_n O 0 dX8_rope_43 rfl rfl ?_
      refine r_iconst (x := 2) O dX8_rope_44 rfl ?_
      refine r_callVi O [.int 2] [] (met_X8_fails (g_xl X) hs lm pm m s 2 ) LX8_58 obj_124 rfl rfl rfl dX8_rope_45 rfl rfl ?_
      exact r_iret O dX8_rope_48 rfl (Nat.le_of_ble_eq_true rfl) (Nat.le_of_ble_eq_true rfl) rfl
    · have e_20 : (R_X8_in s x2 0 2).toInt ≠ (0 : Int) := j_neR c_20 rfl
      have z_20a : (0 : Int) ≤ (x2).toInt := (nz_X8_in c_20).1
      have z_20b : (x2).toInt ≤ (2 : Int) := (nz_X8_in c_20).2
      refine r_aload_n O 0 dX8_rope_23 rfl rfl ?_
      refine r_aload_n O 0 dX8_rope_24 rfl rfl ?_
      refine r_get O FX8_7 G_124_0 dX8_rope_25 ?_
      refine r_bipush (x := 34) O dX8_rope_28 rfl ?_
      refine r_iconst (x := 3) O dX8_rope_30 rfl ?_
      refine r_iload_n O 1 dX8_rope_31 rfl rfl ?_
      refine r_imul O dX8_rope_32 ?_
      refine r_iadd O dX8_rope_33 ?_
      refine r_iload_n O 2 dX8_rope_34 rfl rfl ?_
      refine r_iadd O dX8_rope_35 ?_
      have ix_36 : ((34 + (3 * x1)) + x2).toInt = (((34 : Int) + ((3 : Int) * x1.toInt)) + x2.toInt) := (j_addE (j_addE rfl (j_mulE rfl rfl (by with_reducible omega) (by with_reducible omega)) (by with_reducible omega) (by with_reducible omega)) rfl (by with_reducible omega) (by with_reducible omega))
      have iy_36 := j_nat (x := ((34 + (3 * x1)) + x2)) (by with_reducible omega)
      refine r_iald O R_125 (show vp_in ((34 + (3 * x1)) + x2) 178 from g_vin (by with_reducible omega) (by with_reducible omega)) dX8_rope_36 ?_
      refine r_callVi O [.int (s (((34 + (3 * x1)) + x2).toNatClampNeg))] [] (met_X8_tells (g_xl X) hs lm pm m s (s (((34 + (3 * x1)) + x2).toNatClampNeg)) ) LX8_33 obj_124 rfl rfl rfl dX8_rope_37 rfl rfl ?_
      refine r_goto O 48 dX8_rope_40 (by decide) ?_
      exact r_iret O dX8_rope_48 rfl (Nat.le_of_ble_eq_true rfl) (Nat.le_of_ble_eq_true rfl) rfl
theorem met_X8_rope (l : Launch) (hs : l.stackTraces = false) (lm : Nat → Int64) (pm : Nat → Nat) (m : Nat → Int32) (s : Nat → Int32) (x1 : Int32) (x2 : Int32) (p0 : g_J s) : g_SM l yX8_rope cX8_rope 3 (some .int) ({ frames := 1, cells := 0, slots := 0, locals := 22 } : Room) (fun ad => [.ref (ad 124), .int x1, .int x2]) m (s, lm, pm) ((fun r : Int32 × (Nat → Int32) => ((.inl (some (.int r.1)), (m, r.2, lm, pm)) : g_Res)) (R_X8_rope s x1 x2)) :=
  g_sm_of (by decide) (fun _ => Nat.le_of_ble_eq_true rfl) hs (fun X hl hn O => walk_X8_rope O (by rw [hl]; exact hs) hn p0)
def R_X8_helper (s : Nat → Int32) (x1 : Int32) (x2 : Int32) : (Int32 × (Nat → Int32)) := (if (R_X8_isHelper s x1) = 0 then ((R_X8_fails s 1).1, (R_X8_fails s 1).2) else (if (R_X8_in s x2 0 8) = 0 then ((R_X8_fails s 2).1, (R_X8_fails s 2).2) else ((R_X8_tells s (R_X8_of s x1 x2)).1, (R_X8_tells s (R_X8_of s x1 x2)).2)))
set_option maxRecDepth 100000 in
set_option maxHeartbeats 4000000 in
theorem walk_X8_helper {X : g_X} (O : g_ok X cX8_helper RX8 (some .int) ({ frames := 1, cells := 0, slots := 0, locals := 22 } : Room)) (hs : (g_xl X).stackTraces = false) (hn : g_xn X = 3) {m : Nat → Int32} {lm : Nat → Int64} {pm : Nat → Nat} {s : Nat → Int32} {x1 : Int32} {x2 : Int32} (p0 : g_J s) : g_V X (fun r : Int32 × (Nat → Int32) => ((.inl (some (.int r.1)), (m, r.2, lm, pm)) : g_Res)) (R_X8_helper s x1 x2) 0 0 m (s, lm, pm) 0 [(0, .ref (g_ad X 124)), (1, .int x1), (2, .int x2)] [] := by
  have hN : ∀ i, Nat.blt i 3 = true → i < g_xn X := fun i h => by rw [hn]; exact g_blt.mp h
  obtain ⟨n0, n1, n2, n4, n6, n12, n3⟩ := p0.n
  refine r_aload_n O 0 dX8_helper_0 rfl rfl ?_
  refine r_iload_n O 1 dX8_helper_1 rfl rfl ?_
  refine r_callVi O [.int x1] [] (met_X8_isHelper (g_xl X) hs lm pm m s x1 ) LX8_95 obj_124 rfl rfl rfl dX8_helper_2 rfl rfl ?_
  refine r_if_ne O 14 dX8_helper_5 (by decide) (fun c_5 => ?_) (fun c_5 => ?_)
  · have e_5 : (R_X8_isHelper s x1).toInt = (0 : Int) := j_eqR c_5 rfl
    refine r_aload_n O 0 dX8_helper_8 rfl rfl ?_
    refine r_iconst (x := 1) O dX8_helper_9 rfl ?_
    refine r_callVi O [.int 1] [] (met_X8_fails (g_xl X) hs lm pm m s 1 ) LX8_58 obj_124 rfl rfl rfl dX8_helper_10 rfl rfl ?_
    exact r_iret O dX8_helper_13 rfl (Nat.le_of_ble_eq_true rfl) (Nat.le_of_ble_eq_true rfl) rfl
  · have e_5 : (R_X8_isHelper s x1).toInt ≠ (0 : Int) := j_neR c_5 rfl
    obtain ⟨z_5a, z_5b⟩ := nz_X8_isHelper c_5
    refine r_iload_n O 2 dX8_helper_14 rfl rfl ?_
    refine r_iconst (x := 0) O dX8_helper_15 rfl ?_
    refine r_bipush (x := 8) O dX8_helper_16 rfl ?_
    refine r_callSi O [.int x2, .int 0, .int 8] [] (met_X8_in (g_xl X) hs lm pm m s x2 0 8 ) LX8_54 rfl rfl rfl dX8_helper_18 rfl rfl ?_
    refine r_if_eq O 37 dX8_helper_21 (by decide) (fun c_21 => ?_) (fun c_21 => ?_)
    · have e_21 : (R_X8_in s x2 0 8).toInt = (0 : Int) := j_eqR c_21 rfl
      refine r_aload_n O 0 dX8_helper_37 rfl rfl ?_
      refine r_iconst (x := 2) O dX8_helper_38 rfl ?_
      refine r_callVi O [.int 2] [] (met_X8_fails (g_xl X) hs lm pm m s 2 ) LX8_58 obj_124 rfl rfl rfl dX8_helper_39 rfl rfl ?_
      exact r_iret O dX8_helper_42 rfl (Nat.le_of_ble_eq_true rfl) (Nat.le_of_ble_eq_true rfl) rfl
    · have e_21 : (R_X8_in s x2 0 8).toInt ≠ (0 : Int) := j_neR c_21 rfl
      have z_21a : (0 : Int) ≤ (x2).toInt := (nz_X8_in c_21).1
      have z_21b : (x2).toInt ≤ (8 : Int) := (nz_X8_in c_21).2
      refine r_aload_n O 0 dX8_helper_24 rfl rfl ?_
      refine r_aload_n O 0 dX8_helper_25 rfl rfl ?_
      refine r_iload_n O 1 dX8_helper_26 rfl rfl ?_
      refine r_iload_n O 2 dX8_helper_27 rfl rfl ?_
      refine r_callVi O [.int x1, .int x2] [.ref (g_ad X 124)] (met_X8_of (g_xl X) hs lm pm m s x1 x2 (by first | decide | with_reducible assumption | with_reducible omega | (simp (disch := omega) only [g_upd_ne, g_upd_eq, fr_X8_walks, fr_X8_sets]; first | with_reducible assumption | with_reducible omega | decide) | exact Or.inl rfl | exact Or.inr rfl) (by first | decide | with_reducible assumption | with_reducible omega | (simp (disch := omega) only [g_upd_ne, g_upd_eq, fr_X8_walks, fr_X8_sets]; first | with_reducible assumption | with_reducible omega | decide) | exact Or.inl rfl | exact Or.inr rfl) (by first | decide | with_reducible assumption | with_reducible omega | (simp (disch := omega) only [g_upd_ne, g_upd_eq, fr_X8_walks, fr_X8_sets]; first | with_reducible assumption | with_reducible omega | decide) | exact Or.inl rfl | exact Or.inr rfl) (by first | decide | with_reducible assumption | with_reducible omega | (simp (disch := omega) only [g_upd_ne, g_upd_eq, fr_X8_walks, fr_X8_sets]; first | with_reducible assumption | with_reducible omega | decide) | exact Or.inl rfl | exact Or.inr rfl)) LX8_37 obj_124 rfl rfl rfl dX8_helper_28 rfl rfl ?_
      refine r_callVi O [.int (R_X8_of s x1 x2)] [] (met_X8_tells (g_xl X) hs lm pm m s (R_X8_of s x1 x2) ) LX8_33 obj_124 rfl rfl rfl dX8_helper_31 rfl rfl ?_
      refine r_goto O 42 dX8_helper_34 (by decide) ?_
      exact r_iret O dX8_helper_42 rfl (Nat.le_of_ble_eq_true rfl) (Nat.le_of_ble_eq_true rfl) rfl
theorem met_X8_helper (l : Launch) (hs : l.stackTraces = false) (lm : Nat → Int64) (pm : Nat → Nat) (m : Nat → Int32) (s : Nat → Int32) (x1 : Int32) (x2 : Int32) (p0 : g_J s) : g_SM l yX8_helper cX8_helper 3 (some .int) ({ frames := 1, cells := 0, slots := 0, locals := 22 } : Room) (fun ad => [.ref (ad 124), .int x1, .int x2]) m (s, lm, pm) ((fun r : Int32 × (Nat → Int32) => ((.inl (some (.int r.1)), (m, r.2, lm, pm)) : g_Res)) (R_X8_helper s x1 x2)) :=
  g_sm_of (by decide) (fun _ => Nat.le_of_ble_eq_true rfl) hs (fun X hl hn O => walk_X8_helper O (by rw [hl]; exact hs) hn p0)
def R_X8_value (s : Nat → Int32) (x1 : Int32) : (Int32 × (Nat → Int32)) := (if (R_X8_in s x1 0 13) = 0 then ((R_X8_fails s 1).1, (R_X8_fails s 1).2) else ((R_X8_tells s (R_X8_valueOf s x1)).1, (R_X8_tells s (R_X8_valueOf s x1)).2))
set_option maxRecDepth 100000 in
set_option maxHeartbeats 4000000 in
theorem walk_X8_value {X : g_X} (O : g_ok X cX8_value RX8 (some .int) ({ frames := 4, cells := 0, slots := 0, locals := 86 } : Room)) (hs : (g_xl X).stackTraces = false) (hn : g_xn X = 2) {m : Nat → Int32} {lm : Nat → Int64} {pm : Nat → Nat} {s : Nat → Int32} {x1 : Int32} (p0 : g_J s) : g_V X (fun r : Int32 × (Nat → Int32) => ((.inl (some (.int r.1)), (m, r.2, lm, pm)) : g_Res)) (R_X8_value s x1) 0 0 m (s, lm, pm) 0 [(0, .ref (g_ad X 124)), (1, .int x1)] [] := by
  have hN : ∀ i, Nat.blt i 2 = true → i < g_xn X := fun i h => by rw [hn]; exact g_blt.mp h
  obtain ⟨n0, n1, n2, n4, n6, n12, n3⟩ := p0.n
  refine r_iload_n O 1 dX8_value_0 rfl rfl ?_
  refine r_iconst (x := 0) O dX8_value_1 rfl ?_
  refine r_bipush (x := 13) O dX8_value_2 rfl ?_
  refine r_callSi O [.int x1, .int 0, .int 13] [] (met_X8_in (g_xl X) hs lm pm m s x1 0 13 ) LX8_54 rfl rfl rfl dX8_value_4 rfl rfl ?_
  refine r_if_eq O 22 dX8_value_7 (by decide) (fun c_7 => ?_) (fun c_7 => ?_)
  · have e_7 : (R_X8_in s x1 0 13).toInt = (0 : Int) := j_eqR c_7 rfl
    refine r_aload_n O 0 dX8_value_22 rfl rfl ?_
    refine r_iconst (x := 1) O dX8_value_23 rfl ?_
    refine r_callVi O [.int 1] [] (met_X8_fails (g_xl X) hs lm pm m s 1 ) LX8_58 obj_124 rfl rfl rfl dX8_value_24 rfl rfl ?_
    exact r_iret O dX8_value_27 rfl (Nat.le_of_ble_eq_true rfl) (Nat.le_of_ble_eq_true rfl) rfl
  · have e_7 : (R_X8_in s x1 0 13).toInt ≠ (0 : Int) := j_neR c_7 rfl
    have z_7a : (0 : Int) ≤ (x1).toInt := (nz_X8_in c_7).1
    have z_7b : (x1).toInt ≤ (13 : Int) := (nz_X8_in c_7).2
    refine r_aload_n O 0 dX8_value_10 rfl rfl ?_
    refine r_aload_n O 0 dX8_value_11 rfl rfl ?_
    refine r_iload_n O 1 dX8_value_12 rfl rfl ?_
    refine r_callVi O [.int x1] [.ref (g_ad X 124)] (met_X8_valueOf (g_xl X) hs lm pm m s x1 (by first | decide | with_reducible assumption | with_reducible omega | (simp (disch := omega) only [g_upd_ne, g_upd_eq, fr_X8_walks, fr_X8_sets]; first | with_reducible assumption | with_reducible omega | decide) | exact Or.inl rfl | exact Or.inr rfl) (by first | decide | with_reducible assumption | with_reducible omega | (simp (disch := omega) only [g_upd_ne, g_upd_eq, fr_X8_walks, fr_X8_sets]; first | with_reducible assumption | with_reducible omega | decide) | exact Or.inl rfl | exact Or.inr rfl) (by first | decide | with_reducible assumption | with_reducible omega | (simp (disch := omega) only [g_upd_ne, g_upd_eq, fr_X8_walks, fr_X8_sets]; first | with_reducible assumption | with_reducible omega | decide) | exact Or.inl rfl | exact Or.inr rfl) (by first | decide | with_reducible assumption | with_reducible omega | (simp (disch := omega) only [g_upd_ne, g_upd_eq, fr_X8_walks, fr_X8_sets]; first | with_reducible assumption | with_reducible omega | decide) | exact Or.inl rfl | exact Or.inr rfl)) LX8_174 obj_124 rfl rfl rfl dX8_value_13 rfl rfl ?_
    refine r_callVi O [.int (R_X8_valueOf s x1)] [] (met_X8_tells (g_xl X) hs lm pm m s (R_X8_valueOf s x1) ) LX8_33 obj_124 rfl rfl rfl dX8_value_16 rfl rfl ?_
    refine r_goto O 27 dX8_value_19 (by decide) ?_
    exact r_iret O dX8_value_27 rfl (Nat.le_of_ble_eq_true rfl) (Nat.le_of_ble_eq_true rfl) rfl
theorem met_X8_value (l : Launch) (hs : l.stackTraces = false) (lm : Nat → Int64) (pm : Nat → Nat) (m : Nat → Int32) (s : Nat → Int32) (x1 : Int32) (p0 : g_J s) : g_SM l yX8_value cX8_value 2 (some .int) ({ frames := 4, cells := 0, slots := 0, locals := 86 } : Room) (fun ad => [.ref (ad 124), .int x1]) m (s, lm, pm) ((fun r : Int32 × (Nat → Int32) => ((.inl (some (.int r.1)), (m, r.2, lm, pm)) : g_Res)) (R_X8_value s x1)) :=
  g_sm_of (by decide) (fun _ => Nat.le_of_ble_eq_true rfl) hs (fun X hl hn O => walk_X8_value O (by rw [hl]; exact hs) hn p0)
def R_X8_message (s : Nat → Int32) (x1 : Int32) (x2 : Int32) : (Int32 × (Nat → Int32)) := (if (R_X8_in s x1 0 ((s (6)) - 1)) = 0 then ((R_X8_fails s 1).1, (R_X8_fails s 1).2) else (if (R_X8_in s x2 0 2) = 0 then ((R_X8_fails s 2).1, (R_X8_fails s 2).2) else ((R_X8_tells s (s (((112 + (3 * x1)) + x2).toNatClampNeg))).1, (R_X8_tells s (s (((112 + (3 * x1)) + x2).toNatClampNeg))).2)))
set_option maxRecDepth 100000 in
set_option maxHeartbeats 4000000 in
theorem walk_X8_message {X : g_X} (O : g_ok X cX8_message RX8 (some .int) ({ frames := 1, cells := 0, slots := 0, locals := 22 } : Room)) (hs : (g_xl X).stackTraces = false) (hn : g_xn X = 3) {m : Nat → Int32} {lm : Nat → Int64} {pm : Nat → Nat} {s : Nat → Int32} {x1 : Int32} {x2 : Int32} (p0 : g_J s) : g_V X (fun r : Int32 × (Nat → Int32) => ((.inl (some (.int r.1)), (m, r.2, lm, pm)) : g_Res)) (R_X8_message s x1 x2) 0 0 m (s, lm, pm) 0 [(0, .ref (g_ad X 124)), (1, .int x1), (2, .int x2)] [] := by
  have hN : ∀ i, Nat.blt i 3 = true → i < g_xn X := fun i h => by rw [hn]; exact g_blt.mp h
  obtain ⟨n0, n1, n2, n4, n6, n12, n3⟩ := p0.n
  have hs6 := j_sub1 (x := s 6) (by omega)
  refine r_iload_n O 1 dX8_message_0 rfl rfl ?_
  refine r_iconst (x := 0) O dX8_message_1 rfl ?_
  refine r_aload_n O 0 dX8_message_2 rfl rfl ?_
  refine r_get O FX8_7 G_124_0 dX8_message_3 ?_
  refine r_bipush (x := 6) O dX8_message_6 rfl ?_
  refine r_iald O R_125 (g_vin (by decide) (by decide)) dX8_message_8 ?_
  refine r_iconst (x := 1) O dX8_message_9 rfl ?_
  refine r_isub O dX8_message_10 ?_
  refine r_callSi O [.int x1, .int 0, .int ((s (6)) - 1)] [] (met_X8_in (g_xl X) hs lm pm m s x1 0 ((s (6)) - 1) ) LX8_54 rfl rfl rfl dX8_message_11 rfl rfl ?_
  refine r_if_ne O 23 dX8_message_14 (by decide) (fun c_14 => ?_) (fun c_14 => ?_)
  · have e_14 : (R_X8_in s x1 0 ((s (6)) - 1)).toInt = (0 : Int) := j_eqR c_14 rfl
    refine r_aload_n O 0 dX8_message_17 rfl rfl ?_
    refine r_iconst (x := 1) O dX8_message_18 rfl ?_
    refine r_callVi O [.int 1] [] (met_X8_fails (g_xl X) hs lm pm m s 1 ) LX8_58 obj_124 rfl rfl rfl dX8_message_19 rfl rfl ?_
    exact r_iret O dX8_message_22 rfl (Nat.le_of_ble_eq_true rfl) (Nat.le_of_ble_eq_true rfl) rfl
  · have e_14 : (R_X8_in s x1 0 ((s (6)) - 1)).toInt ≠ (0 : Int) := j_neR c_14 rfl
    have z_14a : (0 : Int) ≤ (x1).toInt := (nz_X8_in c_14).1
    have z_14b : (x1).toInt ≤ ((s (6)) - 1).toInt := (nz_X8_in c_14).2
    refine r_iload_n O 2 dX8_message_23 rfl rfl ?_
    refine r_iconst (x := 0) O dX8_message_24 rfl ?_
    refine r_iconst (x := 2) O dX8_message_25 rfl ?_
    refine r_callSi O [.int x2, .int 0, .int 2] [] (met_X8_in (g_xl X) hs lm pm m s x2 0 2 ) LX8_54 rfl rfl rfl dX8_message_26 rfl rfl ?_
    refine r_if_eq O 52 dX8_message_29 (by decide) (fun c_29 => ?_) (fun c_29 => ?_)
    · have e_29 : (R_X8_in s x2 0 2).toInt = (0 : Int) := j_eqR c_29 rfl
      refine r_aload_n O 0 dX8_message_52 rfl rfl ?_
      refine r_iconst (x := 2) O dX8_message_53 rfl ?_
      refine r_callVi O [.int 2] [] (met_X8_fails (g_xl X) hs lm pm m s 2 ) LX8_58 obj_124 rfl rfl rfl dX8_message_54 rfl rfl ?_
      exact r_iret O dX8_message_57 rfl (Nat.le_of_ble_eq_true rfl) (Nat.le_of_ble_eq_true rfl) rfl
    · have e_29 : (R_X8_in s x2 0 2).toInt ≠ (0 : Int) := j_neR c_29 rfl
      have z_29a : (0 : Int) ≤ (x2).toInt := (nz_X8_in c_29).1
      have z_29b : (x2).toInt ≤ (2 : Int) := (nz_X8_in c_29).2
      refine r_aload_n O 0 dX8_message_32 rfl rfl ?_
      refine r_aload_n O 0 dX8_message_33 rfl rfl ?_
      refine r_get O FX8_7 G_124_0 dX8_message_34 ?_
      refine r_bipush (x := 112) O dX8_message_37 rfl ?_
      refine r_iconst (x := 3) O dX8_message_39 rfl ?_
      refine r_iload_n O 1 dX8_message_40 rfl rfl ?_
      refine r_imul O dX8_message_41 ?_
      refine r_iadd O dX8_message_42 ?_
      refine r_iload_n O 2 dX8_message_43 rfl rfl ?_
      refine r_iadd O dX8_message_44 ?_
      have ix_45 : ((112 + (3 * x1)) + x2).toInt = (((112 : Int) + ((3 : Int) * x1.toInt)) + x2.toInt) := (j_addE (j_addE rfl (j_mulE rfl rfl (by with_reducible omega) (by with_reducible omega)) (by with_reducible omega) (by with_reducible omega)) rfl (by with_reducible omega) (by with_reducible omega))
      have iy_45 := j_nat (x := ((112 + (3 * x1)) + x2)) (by with_reducible omega)
      refine r_iald O R_125 (show vp_in ((112 + (3 * x1)) + x2) 178 from g_vin (by with_reducible omega) (by with_reducible omega)) dX8_message_45 ?_
      refine r_callVi O [.int (s (((112 + (3 * x1)) + x2).toNatClampNeg))] [] (met_X8_tells (g_xl X) hs lm pm m s (s (((112 + (3 * x1)) + x2).toNatClampNeg)) ) LX8_33 obj_124 rfl rfl rfl dX8_message_46 rfl rfl ?_
      refine r_goto O 57 dX8_message_49 (by decide) ?_
      exact r_iret O dX8_message_57 rfl (Nat.le_of_ble_eq_true rfl) (Nat.le_of_ble_eq_true rfl) rfl
theorem met_X8_message (l : Launch) (hs : l.stackTraces = false) (lm : Nat → Int64) (pm : Nat → Nat) (m : Nat → Int32) (s : Nat → Int32) (x1 : Int32) (x2 : Int32) (p0 : g_J s) : g_SM l yX8_message cX8_message 3 (some .int) ({ frames := 1, cells := 0, slots := 0, locals := 22 } : Room) (fun ad => [.ref (ad 124), .int x1, .int x2]) m (s, lm, pm) ((fun r : Int32 × (Nat → Int32) => ((.inl (some (.int r.1)), (m, r.2, lm, pm)) : g_Res)) (R_X8_message s x1 x2)) :=
  g_sm_of (by decide) (fun _ => Nat.le_of_ble_eq_true rfl) hs (fun X hl hn O => walk_X8_message O (by rw [hl]; exact hs) hn p0)
def R_X8_carried (s : Nat → Int32) (x1 : Int32) (x2 : Int32) : (Int32 × (Nat → Int32)) := (if (R_X8_in s x1 0 ((s (12)) - 1)) = 0 then ((R_X8_fails s 1).1, (R_X8_fails s 1).2) else (if (R_X8_in s x2 0 2) = 0 then ((R_X8_fails s 2).1, (R_X8_fails s 2).2) else ((R_X8_tells s (s (((142 + (3 * x1)) + x2).toNatClampNeg))).1, (R_X8_tells s (s (((142 + (3 * x1)) + x2).toNatClampNeg))).2)))
set_option maxRecDepth 100000 in
set_option maxHeartbeats 4000000 in
theorem walk_X8_carried {X : g_X} (O : g_ok X cX8_carried RX8 (some .int) ({ frames := 1, cells := 0, slots := 0, locals := 22 } : Room)) (hs : (g_xl X).stackTraces = false) (hn : g_xn X = 3) {m : Nat → Int32} {lm : Nat → Int64} {pm : Nat → Nat} {s : Nat → Int32} {x1 : Int32} {x2 : Int32} (p0 : g_J s) : g_V X (fun r : Int32 × (Nat → Int32) => ((.inl (some (.int r.1)), (m, r.2, lm, pm)) : g_Res)) (R_X8_carried s x1 x2) 0 0 m (s, lm, pm) 0 [(0, .ref (g_ad X 124)), (1, .int x1), (2, .int x2)] [] := by
  have hN : ∀ i, Nat.blt i 3 = true → i < g_xn X := fun i h => by rw [hn]; exact g_blt.mp h
  obtain ⟨n0, n1, n2, n4, n6, n12, n3⟩ := p0.n
  have hs12 := j_sub1 (x := s 12) (by omega)
  refine r_iload_n O 1 dX8_carried_0 rfl rfl ?_
  refine r_iconst (x := 0) O dX8_carried_1 rfl ?_
  refine r_aload_n O 0 dX8_carried_2 rfl rfl ?_
  refine r_get O FX8_7 G_124_0 dX8_carried_3 ?_
  refine r_bipush (x := 12) O dX8_carried_6 rfl ?_
  refine r_iald O R_125 (g_vin (by decide) (by decide)) dX8_carried_8 ?_
  refine r_iconst (x := 1) O dX8_carried_9 rfl ?_
  refine r_isub O dX8_carried_10 ?_
  refine r_callSi O [.int x1, .int 0, .int ((s (12)) - 1)] [] (met_X8_in (g_xl X) hs lm pm m s x1 0 ((s (12)) - 1) ) LX8_54 rfl rfl rfl dX8_carried_11 rfl rfl ?_
  refine r_if_ne O 23 dX8_carried_14 (by decide) (fun c_14 => ?_) (fun c_14 => ?_)
  · have e_14 : (R_X8_in s x1 0 ((s (12)) - 1)).toInt = (0 : Int) := j_eqR c_14 rfl
    refine r_aload_n O 0 dX8_carried_17 rfl rfl ?_
    refine r_iconst (x := 1) O dX8_carried_18 rfl ?_
    refine r_callVi O [.int 1] [] (met_X8_fails (g_xl X) hs lm pm m s 1 ) LX8_58 obj_124 rfl rfl rfl dX8_carried_19 rfl rfl ?_
    exact r_iret O dX8_carried_22 rfl (Nat.le_of_ble_eq_true rfl) (Nat.le_of_ble_eq_true rfl) rfl
  · have e_14 : (R_X8_in s x1 0 ((s (12)) - 1)).toInt ≠ (0 : Int) := j_neR c_14 rfl
    have z_14a : (0 : Int) ≤ (x1).toInt := (nz_X8_in c_14).1
    have z_14b : (x1).toInt ≤ ((s (12)) - 1).toInt := (nz_X8_in c_14).2
    refine r_iload_n O 2 dX8_carried_23 rfl rfl ?_
    refine r_iconst (x := 0) O dX8_carried_24 rfl ?_
    refine r_iconst (x := 2) O dX8_carried_25 rfl ?_
    refine r_callSi O [.int x2, .int 0, .int 2] [] (met_X8_in (g_xl X) hs lm pm m s x2 0 2 ) LX8_54 rfl rfl rfl dX8_carried_26 rfl rfl ?_
    refine r_if_eq O 53 dX8_carried_29 (by decide) (fun c_29 => ?_) (fun c_29 => ?_)
    · have e_29 : (R_X8_in s x2 0 2).toInt = (0 : Int) := j_eqR c_29 rfl
      refine r_aload_n O 0 dX8_carried_53 rfl rfl ?_
      refine r_iconst (x := 2) O dX8_carried_54 rfl ?_
      refine r_callVi O [.int 2] [] (met_X8_fails (g_xl X) hs lm pm m s 2 ) LX8_58 obj_124 rfl rfl rfl dX8_carried_55 rfl rfl ?_
      exact r_iret O dX8_carried_58 rfl (Nat.le_of_ble_eq_true rfl) (Nat.le_of_ble_eq_true rfl) rfl
    · have e_29 : (R_X8_in s x2 0 2).toInt ≠ (0 : Int) := j_neR c_29 rfl
      have z_29a : (0 : Int) ≤ (x2).toInt := (nz_X8_in c_29).1
      have z_29b : (x2).toInt ≤ (2 : Int) := (nz_X8_in c_29).2
      refine r_aload_n O 0 dX8_carried_32 rfl rfl ?_
      refine r_aload_n O 0 dX8_carried_33 rfl rfl ?_
      refine r_get O FX8_7 G_124_0 dX8_carried_34 ?_
      refine r_sipush (x := 142) O dX8_carried_37 rfl ?_
      refine r_iconst (x := 3) O dX8_carried_40 rfl ?_
      refine r_iload_n O 1 dX8_carried_41 rfl rfl ?_
      refine r_imul O dX8_carried_42 ?_
      refine r_iadd O dX8_carried_43 ?_
      refine r_iload_n O 2 dX8_carried_44 rfl rfl ?_
      refine r_iadd O dX8_carried_45 ?_
      have ix_46 : ((142 + (3 * x1)) + x2).toInt = (((142 : Int) + ((3 : Int) * x1.toInt)) + x2.toInt) := (j_addE (j_addE rfl (j_mulE rfl rfl (by with_reducible omega) (by with_reducible omega)) (by with_reducible omega) (by with_reducible omega)) rfl (by with_reducible omega) (by with_reducible omega))
      have iy_46 := j_nat (x := ((142 + (3 * x1)) + x2)) (by with_reducible omega)
      refine r_iald O R_125 (show vp_in ((142 + (3 * x1)) + x2) 178 from g_vin (by with_reducible omega) (by with_reducible omega)) dX8_carried_46 ?_
      refine r_callVi O [.int (s (((142 + (3 * x1)) + x2).toNatClampNeg))] [] (met_X8_tells (g_xl X) hs lm pm m s (s (((142 + (3 * x1)) + x2).toNatClampNeg)) ) LX8_33 obj_124 rfl rfl rfl dX8_carried_47 rfl rfl ?_
      refine r_goto O 58 dX8_carried_50 (by decide) ?_
      exact r_iret O dX8_carried_58 rfl (Nat.le_of_ble_eq_true rfl) (Nat.le_of_ble_eq_true rfl) rfl
theorem met_X8_carried (l : Launch) (hs : l.stackTraces = false) (lm : Nat → Int64) (pm : Nat → Nat) (m : Nat → Int32) (s : Nat → Int32) (x1 : Int32) (x2 : Int32) (p0 : g_J s) : g_SM l yX8_carried cX8_carried 3 (some .int) ({ frames := 1, cells := 0, slots := 0, locals := 22 } : Room) (fun ad => [.ref (ad 124), .int x1, .int x2]) m (s, lm, pm) ((fun r : Int32 × (Nat → Int32) => ((.inl (some (.int r.1)), (m, r.2, lm, pm)) : g_Res)) (R_X8_carried s x1 x2)) :=
  g_sm_of (by decide) (fun _ => Nat.le_of_ble_eq_true rfl) hs (fun X hl hn O => walk_X8_carried O (by rw [hl]; exact hs) hn p0)
def R_X8_why (s : Nat → Int32) (x1 : Int32) (x2 : Int32) : (Int32 × (Nat → Int32)) := (if (R_X8_isHelper s x1) = 0 then ((R_X8_fails s 1).1, (R_X8_fails s 1).2) else ((R_X8_tells s (R_X8_reason s x1 x2)).1, (R_X8_tells s (R_X8_reason s x1 x2)).2))
set_option maxRecDepth 100000 in
set_option maxHeartbeats 4000000 in
theorem walk_X8_why {X : g_X} (O : g_ok X cX8_why RX8 (some .int) ({ frames := 4, cells := 0, slots := 0, locals := 92 } : Room)) (hs : (g_xl X).stackTraces = false) (hn : g_xn X = 3) {m : Nat → Int32} {lm : Nat → Int64} {pm : Nat → Nat} {s : Nat → Int32} {x1 : Int32} {x2 : Int32} (p0 : g_J s) : g_V X (fun r : Int32 × (Nat → Int32) => ((.inl (some (.int r.1)), (m, r.2, lm, pm)) : g_Res)) (R_X8_why s x1 x2) 0 0 m (s, lm, pm) 0 [(0, .ref (g_ad X 124)), (1, .int x1), (2, .int x2)] [] := by
  have hN : ∀ i, Nat.blt i 3 = true → i < g_xn X := fun i h => by rw [hn]; exact g_blt.mp h
  obtain ⟨n0, n1, n2, n4, n6, n12, n3⟩ := p0.n
  refine r_aload_n O 0 dX8_why_0 rfl rfl ?_
  refine r_iload_n O 1 dX8_why_1 rfl rfl ?_
  refine r_callVi O [.int x1] [] (met_X8_isHelper (g_xl X) hs lm pm m s x1 ) LX8_95 obj_124 rfl rfl rfl dX8_why_2 rfl rfl ?_
  refine r_if_eq O 21 dX8_why_5 (by decide) (fun c_5 => ?_) (fun c_5 => ?_)
  · have e_5 : (R_X8_isHelper s x1).toInt = (0 : Int) := j_eqR c_5 rfl
    refine r_aload_n O 0 dX8_why_21 rfl rfl ?_
    refine r_iconst (x := 1) O dX8_why_22 rfl ?_
    refine r_callVi O [.int 1] [] (met_X8_fails (g_xl X) hs lm pm m s 1 ) LX8_58 obj_124 rfl rfl rfl dX8_why_23 rfl rfl ?_
    exact r_iret O dX8_why_26 rfl (Nat.le_of_ble_eq_true rfl) (Nat.le_of_ble_eq_true rfl) rfl
  · have e_5 : (R_X8_isHelper s x1).toInt ≠ (0 : Int) := j_neR c_5 rfl
    obtain ⟨z_5a, z_5b⟩ := nz_X8_isHelper c_5
    obtain ⟨jst, jrp⟩ := p0.h z_5a z_5b
    refine r_aload_n O 0 dX8_why_8 rfl rfl ?_
    refine r_aload_n O 0 dX8_why_9 rfl rfl ?_
    refine r_iload_n O 1 dX8_why_10 rfl rfl ?_
    refine r_iload_n O 2 dX8_why_11 rfl rfl ?_
    refine r_callVi O [.int x1, .int x2] [.ref (g_ad X 124)] (met_X8_reason (g_xl X) hs lm pm m s x1 x2 (by first | decide | with_reducible assumption | with_reducible omega | (simp (disch := omega) only [g_upd_ne, g_upd_eq, fr_X8_walks, fr_X8_sets]; first | with_reducible assumption | with_reducible omega | decide) | exact Or.inl rfl | exact Or.inr rfl) (by first | decide | with_reducible assumption | with_reducible omega | (simp (disch := omega) only [g_upd_ne, g_upd_eq, fr_X8_walks, fr_X8_sets]; first | with_reducible assumption | with_reducible omega | decide) | exact Or.inl rfl | exact Or.inr rfl) (by first | decide | with_reducible assumption | with_reducible omega | (simp (disch := omega) only [g_upd_ne, g_upd_eq, fr_X8_walks, fr_X8_sets]; first | with_reducible assumption | with_reducible omega | decide) | exact Or.inl rfl | exact Or.inr rfl) (by first | decide | with_reducible assumption | with_reducible omega | (simp (disch := omega) only [g_upd_ne, g_upd_eq, fr_X8_walks, fr_X8_sets]; first | with_reducible assumption | with_reducible omega | decide) | exact Or.inl rfl | exact Or.inr rfl) (by first | decide | with_reducible assumption | with_reducible omega | (simp (disch := omega) only [g_upd_ne, g_upd_eq, fr_X8_walks, fr_X8_sets]; first | with_reducible assumption | with_reducible omega | decide) | exact Or.inl rfl | exact Or.inr rfl)) LX8_98 obj_124 rfl rfl rfl dX8_why_12 rfl rfl ?_
    refine r_callVi O [.int (R_X8_reason s x1 x2)] [] (met_X8_tells (g_xl X) hs lm pm m s (R_X8_reason s x1 x2) ) LX8_33 obj_124 rfl rfl rfl dX8_why_15 rfl rfl ?_
    refine r_goto O 26 dX8_why_18 (by decide) ?_
    exact r_iret O dX8_why_26 rfl (Nat.le_of_ble_eq_true rfl) (Nat.le_of_ble_eq_true rfl) rfl
theorem met_X8_why (l : Launch) (hs : l.stackTraces = false) (lm : Nat → Int64) (pm : Nat → Nat) (m : Nat → Int32) (s : Nat → Int32) (x1 : Int32) (x2 : Int32) (p0 : g_J s) : g_SM l yX8_why cX8_why 3 (some .int) ({ frames := 4, cells := 0, slots := 0, locals := 92 } : Room) (fun ad => [.ref (ad 124), .int x1, .int x2]) m (s, lm, pm) ((fun r : Int32 × (Nat → Int32) => ((.inl (some (.int r.1)), (m, r.2, lm, pm)) : g_Res)) (R_X8_why s x1 x2)) :=
  g_sm_of (by decide) (fun _ => Nat.le_of_ble_eq_true rfl) hs (fun X hl hn O => walk_X8_why O (by rw [hl]; exact hs) hn p0)
def R_X8_timeUp (s : Nat → Int32) (x1 : Int32) : Int32 := (if (R_X8_stands s x1) = 0 then (-1) else (if (R_X8_isShutAbove s (s (58 + 9 * x1.toNatClampNeg + 1))) = 0 then (R_X8_upFrom s (s (58 + 9 * x1.toNatClampNeg + 1))) else (-1)))
set_option maxRecDepth 100000 in
set_option maxHeartbeats 4000000 in
theorem walk_X8_timeUp {X : g_X} (O : g_ok X cX8_timeUp RX8 (some .int) ({ frames := 2, cells := 0, slots := 0, locals := 44 } : Room)) (hs : (g_xl X).stackTraces = false) (hn : g_xn X = 2) {m : Nat → Int32} {lm : Nat → Int64} {pm : Nat → Nat} {s : Nat → Int32} {x1 : Int32} (p0 : 0 ≤ x1.toInt) (p1 : x1.toInt < 6) (p2 : 0 ≤ (s (58 + 9 * x1.toNatClampNeg + 1)).toInt) (p3 : (s (58 + 9 * x1.toNatClampNeg + 1)).toInt ≤ 7) : g_V X (fun r : Int32 => ((.inl (some (.int r)), (m, s, lm, pm)) : g_Res)) (R_X8_timeUp s x1) 0 0 m (s, lm, pm) 0 [(0, .ref (g_ad X 124)), (1, .int x1)] [] := by
  have hN : ∀ i, Nat.blt i 2 = true → i < g_xn X := fun i h => by rw [hn]; exact g_blt.mp h
  refine r_aload_n O 0 dX8_timeUp_0 rfl rfl ?_
  refine r_iload_n O 1 dX8_timeUp_1 rfl rfl ?_
  refine r_callVi O [.int x1] [] (met_X8_stands (g_xl X) hs lm pm m s x1 (by first | decide | with_reducible assumption | with_reducible omega | (simp (disch := omega) only [g_upd_ne, g_upd_eq, fr_X8_walks, fr_X8_sets]; first | with_reducible assumption | with_reducible omega | decide) | exact Or.inl rfl | exact Or.inr rfl) (by first | decide | with_reducible assumption | with_reducible omega | (simp (disch := omega) only [g_upd_ne, g_upd_eq, fr_X8_walks, fr_X8_sets]; first | with_reducible assumption | with_reducible omega | decide) | exact Or.inl rfl | exact Or.inr rfl)) LX8_81 obj_124 rfl rfl rfl dX8_timeUp_2 rfl rfl ?_
  refine r_if_eq O 21 dX8_timeUp_5 (by decide) (fun c_5 => ?_) (fun c_5 => ?_)
  · have e_5 : (R_X8_stands s x1).toInt = (0 : Int) := j_eqR c_5 rfl
    refine r_iconst (x := (-1)) O dX8_timeUp_21 rfl ?_
    refine r_goto O 35 dX8_timeUp_22 (by decide) ?_
    exact r_iret O dX8_timeUp_35 rfl (Nat.le_of_ble_eq_true rfl) (Nat.le_of_ble_eq_true rfl) rfl
  · have e_5 : (R_X8_stands s x1).toInt ≠ (0 : Int) := j_neR c_5 rfl
    refine r_aload_n O 0 dX8_timeUp_8 rfl rfl ?_
    refine r_aload_n O 0 dX8_timeUp_9 rfl rfl ?_
    refine r_iload_n O 1 dX8_timeUp_10 rfl rfl ?_
    refine r_iconst (x := 1) O dX8_timeUp_11 rfl ?_
    refine r_callVi O [.int x1, .int 1] [.ref (g_ad X 124)] (metn_X8_of (g_xl X) hs lm pm m s x1 1 (by first | decide | with_reducible assumption | with_reducible omega | (simp (disch := omega) only [g_upd_ne, g_upd_eq, fr_X8_walks, fr_X8_sets]; first | with_reducible assumption | with_reducible omega | decide) | exact Or.inl rfl | exact Or.inr rfl) (by first | decide | with_reducible assumption | with_reducible omega | (simp (disch := omega) only [g_upd_ne, g_upd_eq, fr_X8_walks, fr_X8_sets]; first | with_reducible assumption | with_reducible omega | decide) | exact Or.inl rfl | exact Or.inr rfl) (by decide)) LX8_37 obj_124 rfl rfl rfl dX8_timeUp_12 rfl rfl ?_
    refine r_callVi O [.int (s (58 + 9 * x1.toNatClampNeg + 1))] [] (met_X8_isShutAbove (g_xl X) hs lm pm m s (s (58 + 9 * x1.toNatClampNeg + 1)) (by first | decide | with_reducible assumption | with_reducible omega | (simp (disch := omega) only [g_upd_ne, g_upd_eq, fr_X8_walks, fr_X8_sets]; first | with_reducible assumption | with_reducible omega | decide) | exact Or.inl rfl | exact Or.inr rfl)) LX8_177 obj_124 rfl rfl rfl dX8_timeUp_15 rfl rfl ?_
    refine r_if_eq O 25 dX8_timeUp_18 (by decide) (fun c_18 => ?_) (fun c_18 => ?_)
    · have e_18 : (R_X8_isShutAbove s (s (58 + 9 * x1.toNatClampNeg + 1))).toInt = (0 : Int) := j_eqR c_18 rfl
      refine r_aload_n O 0 dX8_timeUp_25 rfl rfl ?_
      refine r_aload_n O 0 dX8_timeUp_26 rfl rfl ?_
      refine r_iload_n O 1 dX8_timeUp_27 rfl rfl ?_
      refine r_iconst (x := 1) O dX8_timeUp_28 rfl ?_
      refine r_callVi O [.int x1, .int 1] [.ref (g_ad X 124)] (metn_X8_of (g_xl X) hs lm pm m s x1 1 (by first | decide | with_reducible assumption | with_reducible omega | (simp (disch := omega) only [g_upd_ne, g_upd_eq, fr_X8_walks, fr_X8_sets]; first | with_reducible assumption | with_reducible omega | decide) | exact Or.inl rfl | exact Or.inr rfl) (by first | decide | with_reducible assumption | with_reducible omega | (simp (disch := omega) only [g_upd_ne, g_upd_eq, fr_X8_walks, fr_X8_sets]; first | with_reducible assumption | with_reducible omega | decide) | exact Or.inl rfl | exact Or.inr rfl) (by decide)) LX8_37 obj_124 rfl rfl rfl dX8_timeUp_29 rfl rfl ?_
      refine r_callVi O [.int (s (58 + 9 * x1.toNatClampNeg + 1))] [] (met_X8_upFrom (g_xl X) hs lm pm m s (s (58 + 9 * x1.toNatClampNeg + 1)) (by first | decide | with_reducible assumption | with_reducible omega | (simp (disch := omega) only [g_upd_ne, g_upd_eq, fr_X8_walks, fr_X8_sets]; first | with_reducible assumption | with_reducible omega | decide) | exact Or.inl rfl | exact Or.inr rfl)) LX8_51 obj_124 rfl rfl rfl dX8_timeUp_32 rfl rfl ?_
      exact r_iret O dX8_timeUp_35 rfl (Nat.le_of_ble_eq_true rfl) (Nat.le_of_ble_eq_true rfl) rfl
    · have e_18 : (R_X8_isShutAbove s (s (58 + 9 * x1.toNatClampNeg + 1))).toInt ≠ (0 : Int) := j_neR c_18 rfl
      refine r_iconst (x := (-1)) O dX8_timeUp_21 rfl ?_
      refine r_goto O 35 dX8_timeUp_22 (by decide) ?_
      exact r_iret O dX8_timeUp_35 rfl (Nat.le_of_ble_eq_true rfl) (Nat.le_of_ble_eq_true rfl) rfl
theorem met_X8_timeUp (l : Launch) (hs : l.stackTraces = false) (lm : Nat → Int64) (pm : Nat → Nat) (m : Nat → Int32) (s : Nat → Int32) (x1 : Int32) (p0 : 0 ≤ x1.toInt) (p1 : x1.toInt < 6) (p2 : 0 ≤ (s (58 + 9 * x1.toNatClampNeg + 1)).toInt) (p3 : (s (58 + 9 * x1.toNatClampNeg + 1)).toInt ≤ 7) : g_SM l yX8_timeUp cX8_timeUp 2 (some .int) ({ frames := 2, cells := 0, slots := 0, locals := 44 } : Room) (fun ad => [.ref (ad 124), .int x1]) m (s, lm, pm) ((fun r : Int32 => ((.inl (some (.int r)), (m, s, lm, pm)) : g_Res)) (R_X8_timeUp s x1)) :=
  g_sm_of (by decide) (fun _ => Nat.le_of_ble_eq_true rfl) hs (fun X hl hn O => walk_X8_timeUp O (by rw [hl]; exact hs) hn p0 p1 p2 p3)
def R_X8_minutesUp (s : Nat → Int32) (x1 : Int32) : (Int32 × (Nat → Int32)) := (if (R_X8_isHelper s x1) = 0 then ((R_X8_fails s 1).1, (R_X8_fails s 1).2) else ((R_X8_tells s (R_X8_timeUp s x1)).1, (R_X8_tells s (R_X8_timeUp s x1)).2))
set_option maxRecDepth 100000 in
set_option maxHeartbeats 4000000 in
theorem walk_X8_minutesUp {X : g_X} (O : g_ok X cX8_minutesUp RX8 (some .int) ({ frames := 3, cells := 0, slots := 0, locals := 65 } : Room)) (hs : (g_xl X).stackTraces = false) (hn : g_xn X = 2) {m : Nat → Int32} {lm : Nat → Int64} {pm : Nat → Nat} {s : Nat → Int32} {x1 : Int32} (p0 : g_J s) : g_V X (fun r : Int32 × (Nat → Int32) => ((.inl (some (.int r.1)), (m, r.2, lm, pm)) : g_Res)) (R_X8_minutesUp s x1) 0 0 m (s, lm, pm) 0 [(0, .ref (g_ad X 124)), (1, .int x1)] [] := by
  have hN : ∀ i, Nat.blt i 2 = true → i < g_xn X := fun i h => by rw [hn]; exact g_blt.mp h
  obtain ⟨n0, n1, n2, n4, n6, n12, n3⟩ := p0.n
  refine r_aload_n O 0 dX8_minutesUp_0 rfl rfl ?_
  refine r_iload_n O 1 dX8_minutesUp_1 rfl rfl ?_
  refine r_callVi O [.int x1] [] (met_X8_isHelper (g_xl X) hs lm pm m s x1 ) LX8_95 obj_124 rfl rfl rfl dX8_minutesUp_2 rfl rfl ?_
  refine r_if_eq O 20 dX8_minutesUp_5 (by decide) (fun c_5 => ?_) (fun c_5 => ?_)
  · have e_5 : (R_X8_isHelper s x1).toInt = (0 : Int) := j_eqR c_5 rfl
    refine r_aload_n O 0 dX8_minutesUp_20 rfl rfl ?_
    refine r_iconst (x := 1) O dX8_minutesUp_21 rfl ?_
    refine r_callVi O [.int 1] [] (met_X8_fails (g_xl X) hs lm pm m s 1 ) LX8_58 obj_124 rfl rfl rfl dX8_minutesUp_22 rfl rfl ?_
    exact r_iret O dX8_minutesUp_25 rfl (Nat.le_of_ble_eq_true rfl) (Nat.le_of_ble_eq_true rfl) rfl
  · have e_5 : (R_X8_isHelper s x1).toInt ≠ (0 : Int) := j_neR c_5 rfl
    obtain ⟨z_5a, z_5b⟩ := nz_X8_isHelper c_5
    obtain ⟨jst, jrp⟩ := p0.h z_5a z_5b
    refine r_aload_n O 0 dX8_minutesUp_8 rfl rfl ?_
    refine r_aload_n O 0 dX8_minutesUp_9 rfl rfl ?_
    refine r_iload_n O 1 dX8_minutesUp_10 rfl rfl ?_
    refine r_callVi O [.int x1] [.ref (g_ad X 124)] (met_X8_timeUp (g_xl X) hs lm pm m s x1 (by first | decide | with_reducible assumption | with_reducible omega | (simp (disch := omega) only [g_upd_ne, g_upd_eq, fr_X8_walks, fr_X8_sets]; first | with_reducible assumption | with_reducible omega | decide) | exact Or.inl rfl | exact Or.inr rfl) (by first | decide | with_reducible assumption | with_reducible omega | (simp (disch := omega) only [g_upd_ne, g_upd_eq, fr_X8_walks, fr_X8_sets]; first | with_reducible assumption | with_reducible omega | decide) | exact Or.inl rfl | exact Or.inr rfl) (by first | decide | with_reducible assumption | with_reducible omega | (simp (disch := omega) only [g_upd_ne, g_upd_eq, fr_X8_walks, fr_X8_sets]; first | with_reducible assumption | with_reducible omega | decide) | exact Or.inl rfl | exact Or.inr rfl) (by first | decide | with_reducible assumption | with_reducible omega | (simp (disch := omega) only [g_upd_ne, g_upd_eq, fr_X8_walks, fr_X8_sets]; first | with_reducible assumption | with_reducible omega | decide) | exact Or.inl rfl | exact Or.inr rfl)) LX8_180 obj_124 rfl rfl rfl dX8_minutesUp_11 rfl rfl ?_
    refine r_callVi O [.int (R_X8_timeUp s x1)] [] (met_X8_tells (g_xl X) hs lm pm m s (R_X8_timeUp s x1) ) LX8_33 obj_124 rfl rfl rfl dX8_minutesUp_14 rfl rfl ?_
    refine r_goto O 25 dX8_minutesUp_17 (by decide) ?_
    exact r_iret O dX8_minutesUp_25 rfl (Nat.le_of_ble_eq_true rfl) (Nat.le_of_ble_eq_true rfl) rfl
theorem met_X8_minutesUp (l : Launch) (hs : l.stackTraces = false) (lm : Nat → Int64) (pm : Nat → Nat) (m : Nat → Int32) (s : Nat → Int32) (x1 : Int32) (p0 : g_J s) : g_SM l yX8_minutesUp cX8_minutesUp 2 (some .int) ({ frames := 3, cells := 0, slots := 0, locals := 65 } : Room) (fun ad => [.ref (ad 124), .int x1]) m (s, lm, pm) ((fun r : Int32 × (Nat → Int32) => ((.inl (some (.int r.1)), (m, r.2, lm, pm)) : g_Res)) (R_X8_minutesUp s x1)) :=
  g_sm_of (by decide) (fun _ => Nat.le_of_ble_eq_true rfl) hs (fun X hl hn O => walk_X8_minutesUp O (by rw [hl]; exact hs) hn p0)
def R_X8_spare_65 (s : Nat → Int32) (t0_65 : Int32) : (Int32 × (Nat → Int32)) := ((R_X8_tells s t0_65).1, (R_X8_tells s t0_65).2)
def R_X8_spare_52 (s : Nat → Int32) : (Int32 × (Nat → Int32)) := (R_X8_spare_65 s (-1))
def R_X8_spare (s : Nat → Int32) (x1 : Int32) : (Int32 × (Nat → Int32)) := (if (R_X8_isHelper s x1) = 0 then ((R_X8_fails s 1).1, (R_X8_fails s 1).2) else (if (R_X8_timeUp s x1) = (-1) then (R_X8_spare_52 s ) else (if (s (58 + 9 * x1.toNatClampNeg + 1)) = 0 then (R_X8_spare_52 s ) else (if 0 ≤ (((s (58 + 9 * x1.toNatClampNeg + 0)) - (s (58 + 9 * x1.toNatClampNeg + 7))) - (R_X8_timeUp s x1)) then (R_X8_spare_65 s (((s (58 + 9 * x1.toNatClampNeg + 0)) - (s (58 + 9 * x1.toNatClampNeg + 7))) - (R_X8_timeUp s x1))) else (R_X8_spare_65 s 0)))))
set_option maxRecDepth 100000 in
set_option maxHeartbeats 4000000 in
theorem walk_X8_spare {X : g_X} (O : g_ok X cX8_spare RX8 (some .int) ({ frames := 3, cells := 0, slots := 0, locals := 65 } : Room)) (hs : (g_xl X).stackTraces = false) (hn : g_xn X = 4) {m : Nat → Int32} {lm : Nat → Int64} {pm : Nat → Nat} {s : Nat → Int32} {x1 : Int32} (p0 : g_J s) : g_V X (fun r : Int32 × (Nat → Int32) => ((.inl (some (.int r.1)), (m, r.2, lm, pm)) : g_Res)) (R_X8_spare s x1) 0 0 m (s, lm, pm) 0 [(0, .ref (g_ad X 124)), (1, .int x1)] [] := by
  have hN : ∀ i, Nat.blt i 4 = true → i < g_xn X := fun i h => by rw [hn]; exact g_blt.mp h
  obtain ⟨n0, n1, n2, n4, n6, n12, n3⟩ := p0.n
  refine r_aload_n O 0 dX8_spare_0 rfl rfl ?_
  refine r_iload_n O 1 dX8_spare_1 rfl rfl ?_
  refine r_callVi O [.int x1] [] (met_X8_isHelper (g_xl X) hs lm pm m s x1 ) LX8_95 obj_124 rfl rfl rfl dX8_spare_2 rfl rfl ?_
  refine r_if_ne O 14 dX8_spare_5 (by decide) (fun c_5 => ?_) (fun c_5 => ?_)
  · have e_5 : (R_X8_isHelper s x1).toInt = (0 : Int) := j_eqR c_5 rfl
    refine r_aload_n O 0 dX8_spare_8 rfl rfl ?_
    refine r_iconst (x := 1) O dX8_spare_9 rfl ?_
    refine r_callVi O [.int 1] [] (met_X8_fails (g_xl X) hs lm pm m s 1 ) LX8_58 obj_124 rfl rfl rfl dX8_spare_10 rfl rfl ?_
    exact r_iret O dX8_spare_13 rfl (Nat.le_of_ble_eq_true rfl) (Nat.le_of_ble_eq_true rfl) rfl
  · have e_5 : (R_X8_isHelper s x1).toInt ≠ (0 : Int) := j_neR c_5 rfl
    obtain ⟨z_5a, z_5b⟩ := nz_X8_isHelper c_5
    obtain ⟨jst, jrp⟩ := p0.h z_5a z_5b
    refine r_aload_n O 0 dX8_spare_14 rfl rfl ?_
    refine r_iload_n O 1 dX8_spare_15 rfl rfl ?_
    refine r_callVi O [.int x1] [] (met_X8_timeUp (g_xl X) hs lm pm m s x1 (by first | decide | with_reducible assumption | with_reducible omega | (simp (disch := omega) only [g_upd_ne, g_upd_eq, fr_X8_walks, fr_X8_sets]; first | with_reducible assumption | with_reducible omega | decide) | exact Or.inl rfl | exact Or.inr rfl) (by first | decide | with_reducible assumption | with_reducible omega | (simp (disch := omega) only [g_upd_ne, g_upd_eq, fr_X8_walks, fr_X8_sets]; first | with_reducible assumption | with_reducible omega | decide) | exact Or.inl rfl | exact Or.inr rfl) (by first | decide | with_reducible assumption | with_reducible omega | (simp (disch := omega) only [g_upd_ne, g_upd_eq, fr_X8_walks, fr_X8_sets]; first | with_reducible assumption | with_reducible omega | decide) | exact Or.inl rfl | exact Or.inr rfl) (by first | decide | with_reducible assumption | with_reducible omega | (simp (disch := omega) only [g_upd_ne, g_upd_eq, fr_X8_walks, fr_X8_sets]; first | with_reducible assumption | with_reducible omega | decide) | exact Or.inl rfl | exact Or.inr rfl)) LX8_180 obj_124 rfl rfl rfl dX8_spare_16 rfl rfl ?_
    refine r_istore_n (lc' := [(2, .int (R_X8_timeUp s x1)), (0, .ref (g_ad X 124)), (1, .int x1)]) O dX8_spare_19 rfl (hN 2 rfl) rfl ?_
    refine r_aload_n O 1 dX8_spare_20 rfl rfl ?_
    refine r_iload_n O 2 dX8_spare_21 rfl rfl ?_
    refine r_iconst (x := 0) O dX8_spare_22 rfl ?_
    refine r_callVi O [.int x1, .int 0] [] (metn_X8_of (g_xl X) hs lm pm m s x1 0 (by first | decide | with_reducible assumption | with_reducible omega | (simp (disch := omega) only [g_upd_ne, g_upd_eq, fr_X8_walks, fr_X8_sets]; first | with_reducible assumption | with_reducible omega | decide) | exact Or.inl rfl | exact Or.inr rfl) (by first | decide | with_reducible assumption | with_reducible omega | (simp (disch := omega) only [g_upd_ne, g_upd_eq, fr_X8_walks, fr_X8_sets]; first | with_reducible assumption | with_reducible omega | decide) | exact Or.inl rfl | exact Or.inr rfl) (by decide)) LX8_37 obj_124 rfl rfl rfl dX8_spare_23 rfl rfl ?_
    refine r_aload_n O 1 dX8_spare_26 rfl rfl ?_
    refine r_iload_n O 2 dX8_spare_27 rfl rfl ?_
    refine r_bipush (x := 7) O dX8_spare_28 rfl ?_
    refine r_callVi O [.int x1, .int 7] [.int (s (58 + 9 * x1.toNatClampNeg + 0))] (metn_X8_of (g_xl X) hs lm pm m s x1 7 (by first | decide | with_reducible assumption | with_reducible omega | (simp (disch := omega) only [g_upd_ne, g_upd_eq, fr_X8_walks, fr_X8_sets]; first | with_reducible assumption | with_reducible omega | decide) | exact Or.inl rfl | exact Or.inr rfl) (by first | decide | with_reducible assumption | with_reducible omega | (simp (disch := omega) only [g_upd_ne, g_upd_eq, fr_X8_walks, fr_X8_sets]; first | with_reducible assumption | with_reducible omega | decide) | exact Or.inl rfl | exact Or.inr rfl) (by decide)) LX8_37 obj_124 rfl rfl rfl dX8_spare_30 rfl rfl ?_
    refine r_isub O dX8_spare_33 ?_
    refine r_iload_n O 0 dX8_spare_34 rfl rfl ?_
    refine r_isub O dX8_spare_35 ?_
    refine r_istore_n (lc' := [(3, .int (((s (58 + 9 * x1.toNatClampNeg + 0)) - (s (58 + 9 * x1.toNatClampNeg + 7))) - (R_X8_timeUp s x1))), (2, .int (R_X8_timeUp s x1)), (0, .ref (g_ad X 124)), (1, .int x1)]) O dX8_spare_36 rfl (hN 3 rfl) rfl ?_
    refine r_aload_n O 2 dX8_spare_37 rfl rfl ?_
    refine r_iload_n O 1 dX8_spare_38 rfl rfl ?_
    refine r_iconst (x := (-1)) O dX8_spare_39 rfl ?_
    have J_65 : ∀ (t0_65 : Int32), g_V X (fun r : Int32 × (Nat → Int32) => ((.inl (some (.int r.1)), (m, r.2, lm, pm)) : g_Res)) (R_X8_spare_65 s t0_65) 0 0 m (s, lm, pm) 65 [] [.int t0_65, .ref (g_ad X 124)] := by
      intro t0_65
      refine r_callVi O [.int t0_65] [] (met_X8_tells (g_xl X) hs lm pm m s t0_65 ) LX8_33 obj_124 rfl rfl rfl dX8_spare_65 rfl rfl ?_
      exact r_iret O dX8_spare_68 rfl (Nat.le_of_ble_eq_true rfl) (Nat.le_of_ble_eq_true rfl) rfl
    have J_52 : g_V X (fun r : Int32 × (Nat → Int32) => ((.inl (some (.int r.1)), (m, r.2, lm, pm)) : g_Res)) (R_X8_spare_52 s ) 0 0 m (s, lm, pm) 52 [] [.ref (g_ad X 124)] := by
      refine r_iconst (x := (-1)) O dX8_spare_52 rfl ?_
      refine r_goto O 65 dX8_spare_53 (by decide) ?_
      exact J_65 (-1)
    refine r_icmp_eq O 52 dX8_spare_40 (by decide) (fun c_40 => ?_) (fun c_40 => ?_)
    · have e_40 : (R_X8_timeUp s x1).toInt = (-1 : Int) := j_eqR c_40 rfl
      refine r_sub [] rfl ?_
      exact J_52
    · have e_40 : (R_X8_timeUp s x1).toInt ≠ (-1 : Int) := j_neR c_40 rfl
      refine r_aload_n O 2 dX8_spare_43 rfl rfl ?_
      refine r_iload_n O 3 dX8_spare_44 rfl rfl ?_
      refine r_iconst (x := 1) O dX8_spare_45 rfl ?_
      refine r_callVi O [.int x1, .int 1] [.ref (g_ad X 124)] (metn_X8_of (g_xl X) hs lm pm m s x1 1 (by first | decide | with_reducible assumption | with_reducible omega | (simp (disch := omega) only [g_upd_ne, g_upd_eq, fr_X8_walks, fr_X8_sets]; first | with_reducible assumption | with_reducible omega | decide) | exact Or.inl rfl | exact Or.inr rfl) (by first | decide | with_reducible assumption | with_reducible omega | (simp (disch := omega) only [g_upd_ne, g_upd_eq, fr_X8_walks, fr_X8_sets]; first | with_reducible assumption | with_reducible omega | decide) | exact Or.inl rfl | exact Or.inr rfl) (by decide)) LX8_37 obj_124 rfl rfl rfl dX8_spare_46 rfl rfl ?_
      refine r_if_ne O 56 dX8_spare_49 (by decide) (fun c_49 => ?_) (fun c_49 => ?_)
      · have e_49 : (s (58 + 9 * x1.toNatClampNeg + 1)).toInt = (0 : Int) := j_eqR c_49 rfl
        refine r_sub [] rfl ?_
        exact J_52
      · have e_49 : (s (58 + 9 * x1.toNatClampNeg + 1)).toInt ≠ (0 : Int) := j_neR c_49 rfl
        refine r_iload_n O 0 dX8_spare_56 rfl rfl ?_
        refine r_if_ge O 64 dX8_spare_57 (by decide) (fun c_57 => ?_) (fun c_57 => ?_)
        · have e_57 : (0 : Int) ≤ (((s (58 + 9 * x1.toNatClampNeg + 0)) - (s (58 + 9 * x1.toNatClampNeg + 7))) - (R_X8_timeUp s x1)).toInt := j_leL c_57 rfl
          refine r_iload_n O 0 dX8_spare_64 rfl rfl ?_
          refine r_sub [] rfl ?_
          exact J_65 (((s (58 + 9 * x1.toNatClampNeg + 0)) - (s (58 + 9 * x1.toNatClampNeg + 7))) - (R_X8_timeUp s x1))
        · have e_57 : (((s (58 + 9 * x1.toNatClampNeg + 0)) - (s (58 + 9 * x1.toNatClampNeg + 7))) - (R_X8_timeUp s x1)).toInt < (0 : Int) := j_nleL c_57 rfl
          refine r_iconst (x := 0) O dX8_spare_60 rfl ?_
          refine r_goto O 65 dX8_spare_61 (by decide) ?_
          refine r_sub [] rfl ?_
          exact J_65 0
theorem met_X8_spare (l : Launch) (hs : l.stackTraces = false) (lm : Nat → Int64) (pm : Nat → Nat) (m : Nat → Int32) (s : Nat → Int32) (x1 : Int32) (p0 : g_J s) : g_SM l yX8_spare cX8_spare 4 (some .int) ({ frames := 3, cells := 0, slots := 0, locals := 65 } : Room) (fun ad => [.ref (ad 124), .int x1]) m (s, lm, pm) ((fun r : Int32 × (Nat → Int32) => ((.inl (some (.int r.1)), (m, r.2, lm, pm)) : g_Res)) (R_X8_spare s x1)) :=
  g_sm_of (by decide) (fun _ => Nat.le_of_ble_eq_true rfl) hs (fun X hl hn O => walk_X8_spare O (by rw [hl]; exact hs) hn p0)
def R_X8_bestRope_120 (s : Nat → Int32) (v2_18 : Int32) : (Int32 × (Nat → Int32)) := ((R_X8_tells s v2_18).1, (R_X8_tells s v2_18).2)
def R_X8_bestRope_113 (K_18 : Int32 → Nat → (Int32 × (Nat → Int32))) (n : Nat) (t0_113 : Int32) : (Int32 × (Nat → Int32)) := (K_18 t0_113 (n + 1))
def R_X8_bestRope_112 (K_18 : Int32 → Nat → (Int32 × (Nat → Int32))) (v2_18 : Int32) (n : Nat) : (Int32 × (Nat → Int32)) := (R_X8_bestRope_113 K_18 n v2_18)
def R_X8_bestRope_108 (K_18 : Int32 → Nat → (Int32 × (Nat → Int32))) (n : Nat) : (Int32 × (Nat → Int32)) := (R_X8_bestRope_113 K_18 n (nI n))
def R_X8_bestRope_71 (s : Nat → Int32) (K_18 : Int32 → Nat → (Int32 × (Nat → Int32))) (v2_18 : Int32) (n : Nat) (t0_71 : Int32) : (Int32 × (Nat → Int32)) := (if t0_71 = 0 then (R_X8_bestRope_112 K_18 v2_18 n ) else (if v2_18 = (-1) then (R_X8_bestRope_108 K_18 n ) else (if (s ((34 + (3 * v2_18)).toNatClampNeg)) ≤ (s ((34 + (3 * (nI n))).toNatClampNeg)) then (R_X8_bestRope_112 K_18 v2_18 n ) else (R_X8_bestRope_108 K_18 n ))))
def R_X8_bestRope_70 (s : Nat → Int32) (K_18 : Int32 → Nat → (Int32 × (Nat → Int32))) (v2_18 : Int32) (n : Nat) : (Int32 × (Nat → Int32)) := (R_X8_bestRope_71 s K_18 v2_18 n 0)
def R_X8_bestRope_18 (s : Nat → Int32) (x1 : Int32) : Nat → Int32 → Nat → (Int32 × (Nat → Int32))
  | 0, _, _ => (0, s)
  | f + 1, v2_18, n => (if (s (1)) ≤ (nI n) then (R_X8_bestRope_120 s v2_18 ) else (if (s ((13 + x1).toNatClampNeg)) ≤ 0 then (R_X8_bestRope_120 s v2_18 ) else (if (s (((34 + (3 * (nI n))) + 1).toNatClampNeg)) = 2 then (R_X8_bestRope_70 s (R_X8_bestRope_18 s x1 f) v2_18 n ) else (if (R_X8_holdsAt s (nI n) x1) = 0 then (R_X8_bestRope_70 s (R_X8_bestRope_18 s x1 f) v2_18 n ) else (R_X8_bestRope_71 s (R_X8_bestRope_18 s x1 f) v2_18 n 1)))))
def R_X8_bestRope (s : Nat → Int32) (x1 : Int32) : (Int32 × (Nat → Int32)) := (if (R_X8_isPassage s x1) = 0 then ((R_X8_fails s 1).1, (R_X8_fails s 1).2) else (R_X8_bestRope_18 s x1 9 (-1) 0))
set_option maxRecDepth 100000 in
set_option maxHeartbeats 4000000 in
theorem walk_X8_bestRope {X : g_X} (O : g_ok X cX8_bestRope RX8 (some .int) ({ frames := 1, cells := 0, slots := 0, locals := 22 } : Room)) (hs : (g_xl X).stackTraces = false) (hn : g_xn X = 5) {m : Nat → Int32} {lm : Nat → Int64} {pm : Nat → Nat} {s : Nat → Int32} {x1 : Int32} (p0 : g_J s) : g_V X (fun r : Int32 × (Nat → Int32) => ((.inl (some (.int r.1)), (m, r.2, lm, pm)) : g_Res)) (R_X8_bestRope s x1) 0 0 m (s, lm, pm) 0 [(0, .ref (g_ad X 124)), (1, .int x1)] [] := by
  have hN : ∀ i, Nat.blt i 5 = true → i < g_xn X := fun i h => by rw [hn]; exact g_blt.mp h
  obtain ⟨n0, n1, n2, n4, n6, n12, n3⟩ := p0.n
  refine r_aload_n O 0 dX8_bestRope_0 rfl rfl ?_
  refine r_iload_n O 1 dX8_bestRope_1 rfl rfl ?_
  refine r_callVi O [.int x1] [] (met_X8_isPassage (g_xl X) hs lm pm m s x1 ) LX8_67 obj_124 rfl rfl rfl dX8_bestRope_2 rfl rfl ?_
  refine r_if_ne O 14 dX8_bestRope_5 (by decide) (fun c_5 => ?_) (fun c_5 => ?_)
  · have e_5 : (R_X8_isPassage s x1).toInt = (0 : Int) := j_eqR c_5 rfl
    refine r_aload_n O 0 dX8_bestRope_8 rfl rfl ?_
    refine r_iconst (x := 1) O dX8_bestRope_9 rfl ?_
    refine r_callVi O [.int 1] [] (met_X8_fails (g_xl X) hs lm pm m s 1 ) LX8_58 obj_124 rfl rfl rfl dX8_bestRope_10 rfl rfl ?_
    exact r_iret O dX8_bestRope_13 rfl (Nat.le_of_ble_eq_true rfl) (Nat.le_of_ble_eq_true rfl) rfl
  · have e_5 : (R_X8_isPassage s x1).toInt ≠ (0 : Int) := j_neR c_5 rfl
    obtain ⟨z_5a, z_5b⟩ := nz_X8_isPassage c_5
    refine r_iconst (x := (-1)) O dX8_bestRope_14 rfl ?_
    refine r_istore_n (lc' := [(2, .int (-1)), (0, .ref (g_ad X 124)), (1, .int x1)]) O dX8_bestRope_15 rfl (hN 2 rfl) rfl ?_
    refine r_iconst (x := 0) O dX8_bestRope_16 rfl ?_
    refine r_istore_n (lc' := [(3, .int 0), (2, .int (-1)), (0, .ref (g_ad X 124)), (1, .int x1)]) O dX8_bestRope_17 rfl (hN 3 rfl) rfl ?_
    have L_18 : ∀ (f_18 : Nat) (v2_18 : Int32) (n : Nat) (hi_18 : n ≤ 8 ∧ 8 < f_18 + n ∧ -1 ≤ v2_18.toInt ∧ v2_18.toInt ≤ 7), g_V X (fun r : Int32 × (Nat → Int32) => ((.inl (some (.int r.1)), (m, r.2, lm, pm)) : g_Res)) (R_X8_bestRope_18 s x1 f_18 v2_18 n) 0 0 m (s, lm, pm) 18 [(0, .ref (g_ad X 124)), (1, .int x1), (2, .int v2_18), (3, .int (nI n))] [] := by
      intro f_18
      induction f_18 with
      | zero => intro v2_18 n hi_18; exact absurd hi_18 (by omega)
      | succ f_18 ih_18 =>
        intro v2_18 n hi_18
        have hc_n : (nI n).toInt = (n : Int) := nI_toInt (by omega)
        refine r_iload_n O 3 dX8_bestRope_18 rfl rfl ?_
        refine r_aload_n O 0 dX8_bestRope_19 rfl rfl ?_
        refine r_get O FX8_7 G_124_0 dX8_bestRope_20 ?_
        refine r_iconst (x := 1) O dX8_bestRope_23 rfl ?_
        refine r_iald O R_125 (g_vin (by decide) (by decide)) dX8_bestRope_24 ?_
        have J_120 : g_V X (fun r : Int32 × (Nat → Int32) => ((.inl (some (.int r.1)), (m, r.2, lm, pm)) : g_Res)) (R_X8_bestRope_120 s v2_18 ) 0 0 m (s, lm, pm) 120 [(0, .ref (g_ad X 124)), (2, .int v2_18)] [] := by
          refine r_aload_n O 0 dX8_bestRope_120 rfl rfl ?_
          refine r_iload_n O 1 dX8_bestRope_121 rfl rfl ?_
          refine r_callVi O [.int v2_18] [] (met_X8_tells (g_xl X) hs lm pm m s v2_18 ) LX8_33 obj_124 rfl rfl rfl dX8_bestRope_122 rfl rfl ?_
          exact r_iret O dX8_bestRope_125 rfl (Nat.le_of_ble_eq_true rfl) (Nat.le_of_ble_eq_true rfl) rfl
        refine r_icmp_ge O 120 dX8_bestRope_25 (by decide) (fun c_25 => ?_) (fun c_25 => ?_)
        · have e_25 : (s (1)).toInt ≤ (nI n).toInt := j_le c_25
          refine r_sub [0, 2] rfl ?_
          exact J_120
        · have e_25 : (nI n).toInt < (s (1)).toInt := j_nle c_25
          refine r_aload_n O 0 dX8_bestRope_28 rfl rfl ?_
          refine r_get O FX8_7 G_124_0 dX8_bestRope_29 ?_
          refine r_bipush (x := 13) O dX8_bestRope_32 rfl ?_
          refine r_iload_n O 1 dX8_bestRope_34 rfl rfl ?_
          refine r_iadd O dX8_bestRope_35 ?_
          have ix_36 : (13 + x1).toInt = ((13 : Int) + x1.toInt) := (j_addE rfl rfl (by with_reducible omega) (by with_reducible omega))
          have iy_36 := j_nat (x := (13 + x1)) (by with_reducible omega)
          refine r_iald O R_125 (show vp_in (13 + x1) 178 from g_vin (by with_reducible omega) (by with_reducible omega)) dX8_bestRope_36 ?_
          refine r_if_le O 120 dX8_bestRope_37 (by decide) (fun c_37 => ?_) (fun c_37 => ?_)
          · have e_37 : (s ((13 + x1).toNatClampNeg)).toInt ≤ (0 : Int) := j_leR c_37 rfl
            refine r_sub [0, 2] rfl ?_
            exact J_120
          · have e_37 : (0 : Int) < (s ((13 + x1).toNatClampNeg)).toInt := j_nleR c_37 rfl
            refine r_aload_n O 0 dX8_bestRope_40 rfl rfl ?_
            refine r_get O FX8_7 G_124_0 dX8_bestRope_41 ?_
            refine r_bipush (x := 34) O dX8_bestRope_44 rfl ?_
            refine r_iconst (x := 3) O dX8_bestRope_46 rfl ?_
            refine r_iload_n O 3 dX8_bestRope_47 rfl rfl ?_
            refine r_imul O dX8_bestRope_48 ?_
            refine r_iadd O dX8_bestRope_49 ?_
            refine r_iconst (x := 1) O dX8_bestRope_50 rfl ?_
            refine r_iadd O dX8_bestRope_51 ?_
            have ix_52 : ((34 + (3 * (nI n))) + 1).toInt = (((34 : Int) + ((3 : Int) * (nI n).toInt)) + (1 : Int)) := (j_addE (j_addE rfl (j_mulE rfl rfl (by with_reducible omega) (by with_reducible omega)) (by with_reducible omega) (by with_reducible omega)) rfl (by with_reducible omega) (by with_reducible omega))
            have iy_52 := j_nat (x := ((34 + (3 * (nI n))) + 1)) (by with_reducible omega)
            refine r_iald O R_125 (show vp_in ((34 + (3 * (nI n))) + 1) 178 from g_vin (by with_reducible omega) (by with_reducible omega)) dX8_bestRope_52 ?_
            refine r_iconst (x := 2) O dX8_bestRope_53 rfl ?_
            have J_71 : ∀ (t0_71 : Int32), g_V X (fun r : Int32 × (Nat → Int32) => ((.inl (some (.int r.1)), (m, r.2, lm, pm)) : g_Res)) (R_X8_bestRope_71 s ((R_X8_bestRope_18 s x1 f_18)) v2_18 n t0_71) 0 0 m (s, lm, pm) 71 [(0, .ref (g_ad X 124)), (1, .int x1), (2, .int v2_18), (3, .int (nI n))] [.int t0_71] := by
              intro t0_71
              refine r_istore (lc' := [(4, .int t0_71), (0, .ref (g_ad X 124)), (1, .int x1), (2, .int v2_18), (3, .int (nI n))]) O dX8_bestRope_71 (hN 4 rfl) rfl ?_
              refine r_iload O 0 dX8_bestRope_73 rfl ?_
              have J_113 : ∀ (t0_113 : Int32) (hj0 : -1 ≤ t0_113.toInt) (hj1 : t0_113.toInt ≤ 7), g_V X (fun r : Int32 × (Nat → Int32) => ((.inl (some (.int r.1)), (m, r.2, lm, pm)) : g_Res)) (R_X8_bestRope_113 ((R_X8_bestRope_18 s x1 f_18)) n t0_113) 0 0 m (s, lm, pm) 113 [(0, .ref (g_ad X 124)), (1, .int x1), (3, .int (nI n))] [.int t0_113] := by
                intro t0_113 hj0 hj1
                refine r_istore_n (lc' := [(2, .int t0_113), (0, .ref (g_ad X 124)), (1, .int x1), (3, .int (nI n))]) O dX8_bestRope_113 rfl (hN 2 rfl) rfl ?_
                refine r_iinc (lc' := [(3, .int (nI (n + 1))), (2, .int t0_113), (0, .ref (g_ad X 124)), (1, .int x1)]) O 3 dX8_bestRope_114 rfl (nI_1 n) (hN 3 rfl) rfl ?_
                refine r_goto O 18 dX8_bestRope_117 (by decide) ?_
                refine r_sub [2, 3, 1, 0] rfl ?_
                exact ih_18 t0_113 (n + 1) (by with_reducible omega)
              have J_112 : g_V X (fun r : Int32 × (Nat → Int32) => ((.inl (some (.int r.1)), (m, r.2, lm, pm)) : g_Res)) (R_X8_bestRope_112 ((R_X8_bestRope_18 s x1 f_18)) v2_18 n ) 0 0 m (s, lm, pm) 112 [(0, .ref (g_ad X 124)), (1, .int x1), (2, .int v2_18), (3, .int (nI n))] [] := by
                refine r_iload_n O 2 dX8_bestRope_112 rfl rfl ?_
                refine r_sub [0, 1, 3] rfl ?_
                exact J_113 v2_18 (by first | decide | with_reducible assumption | with_reducible omega | (simp (disch := omega) only [g_upd_ne, g_upd_eq, fr_X8_walks, fr_X8_sets]; first | with_reducible assumption | with_reducible omega | decide) | exact Or.inl rfl | exact Or.inr rfl) (by first | decide | with_reducible assumption | with_reducible omega | (simp (disch := omega) only [g_upd_ne, g_upd_eq, fr_X8_walks, fr_X8_sets]; first | with_reducible assumption | with_reducible omega | decide) | exact Or.inl rfl | exact Or.inr rfl)
              refine r_if_eq O 112 dX8_bestRope_75 (by decide) (fun c_75 => ?_) (fun c_75 => ?_)
              · have e_75 : (t0_71).toInt = (0 : Int) := j_eqR c_75 rfl
                refine r_sub [1, 2, 3, 4] rfl ?_
                exact J_112
              · have e_75 : (t0_71).toInt ≠ (0 : Int) := j_neR c_75 rfl
                refine r_iload_n O 3 dX8_bestRope_78 rfl rfl ?_
                refine r_iconst (x := (-1)) O dX8_bestRope_79 rfl ?_
                have J_108 : g_V X (fun r : Int32 × (Nat → Int32) => ((.inl (some (.int r.1)), (m, r.2, lm, pm)) : g_Res)) (R_X8_bestRope_108 ((R_X8_bestRope_18 s x1 f_18)) n ) 0 0 m (s, lm, pm) 108 [(0, .ref (g_ad X 124)), (1, .int x1), (3, .int (nI n))] [] := by
                  refine r_iload_n O 2 dX8_bestRope_108 rfl rfl ?_
                  refine r_goto O 113 dX8_bestRope_109 (by decide) ?_
                  exact J_113 (nI n) (by first | decide | with_reducible assumption | with_reducible omega | (simp (disch := omega) only [g_upd_ne, g_upd_eq, fr_X8_walks, fr_X8_sets]; first | with_reducible assumption | with_reducible omega | decide) | exact Or.inl rfl | exact Or.inr rfl) (by first | decide | with_reducible assumption | with_reducible omega | (simp (disch := omega) only [g_upd_ne, g_upd_eq, fr_X8_walks, fr_X8_sets]; first | with_reducible assumption | with_reducible omega | decide) | exact Or.inl rfl | exact Or.inr rfl)
                refine r_icmp_eq O 108 dX8_bestRope_80 (by decide) (fun c_80 => ?_) (fun c_80 => ?_)
                · have e_80 : (v2_18).toInt = (-1 : Int) := j_eqR c_80 rfl
                  refine r_sub [1, 2, 4] rfl ?_
                  exact J_108
                · have e_80 : (v2_18).toInt ≠ (-1 : Int) := j_neR c_80 rfl
                  refine r_aload_n O 1 dX8_bestRope_83 rfl rfl ?_
                  refine r_get O FX8_7 G_124_0 dX8_bestRope_84 ?_
                  refine r_bipush (x := 34) O dX8_bestRope_87 rfl ?_
                  refine r_iconst (x := 3) O dX8_bestRope_89 rfl ?_
                  refine r_iload_n O 4 dX8_bestRope_90 rfl rfl ?_
                  refine r_imul O dX8_bestRope_91 ?_
                  refine r_iadd O dX8_bestRope_92 ?_
                  have ix_93 : (34 + (3 * (nI n))).toInt = ((34 : Int) + ((3 : Int) * (nI n).toInt)) := (j_addE rfl (j_mulE rfl rfl (by with_reducible omega) (by with_reducible omega)) (by with_reducible omega) (by with_reducible omega))
                  have iy_93 := j_nat (x := (34 + (3 * (nI n)))) (by with_reducible omega)
                  refine r_iald O R_125 (show vp_in (34 + (3 * (nI n))) 178 from g_vin (by with_reducible omega) (by with_reducible omega)) dX8_bestRope_93 ?_
                  refine r_aload_n O 1 dX8_bestRope_94 rfl rfl ?_
                  refine r_get O FX8_7 G_124_0 dX8_bestRope_95 ?_
                  refine r_bipush (x := 34) O dX8_bestRope_98 rfl ?_
                  refine r_iconst (x := 3) O dX8_bestRope_100 rfl ?_
                  refine r_iload_n O 3 dX8_bestRope_101 rfl rfl ?_
                  refine r_imul O dX8_bestRope_102 ?_
                  refine r_iadd O dX8_bestRope_103 ?_
                  have ix_104 : (34 + (3 * v2_18)).toInt = ((34 : Int) + ((3 : Int) * v2_18.toInt)) := (j_addE rfl (j_mulE rfl rfl (by with_reducible omega) (by with_reducible omega)) (by with_reducible omega) (by with_reducible omega))
                  have iy_104 := j_nat (x := (34 + (3 * v2_18))) (by with_reducible omega)
                  refine r_iald O R_125 (show vp_in (34 + (3 * v2_18)) 178 from g_vin (by with_reducible omega) (by with_reducible omega)) dX8_bestRope_104 ?_
                  refine r_icmp_ge O 112 dX8_bestRope_105 (by decide) (fun c_105 => ?_) (fun c_105 => ?_)
                  · have e_105 : (s ((34 + (3 * v2_18)).toNatClampNeg)).toInt ≤ (s ((34 + (3 * (nI n))).toNatClampNeg)).toInt := j_le c_105
                    refine r_sub [1, 2, 3, 4] rfl ?_
                    exact J_112
                  · have e_105 : (s ((34 + (3 * (nI n))).toNatClampNeg)).toInt < (s ((34 + (3 * v2_18)).toNatClampNeg)).toInt := j_nle c_105
                    refine r_sub [1, 2, 4] rfl ?_
                    exact J_108
            have J_70 : g_V X (fun r : Int32 × (Nat → Int32) => ((.inl (some (.int r.1)), (m, r.2, lm, pm)) : g_Res)) (R_X8_bestRope_70 s ((R_X8_bestRope_18 s x1 f_18)) v2_18 n ) 0 0 m (s, lm, pm) 70 [(0, .ref (g_ad X 124)), (1, .int x1), (2, .int v2_18), (3, .int (nI n))] [] := by
              refine r_iconst (x := 0) O dX8_bestRope_70 rfl ?_
              exact J_71 0
            refine r_icmp_eq O 70 dX8_bestRope_54 (by decide) (fun c_54 => ?_) (fun c_54 => ?_)
            · have e_54 : (s (((34 + (3 * (nI n))) + 1).toNatClampNeg)).toInt = (2 : Int) := j_eqR c_54 rfl
              exact J_70
            · have e_54 : (s (((34 + (3 * (nI n))) + 1).toNatClampNeg)).toInt ≠ (2 : Int) := j_neR c_54 rfl
              refine r_aload_n O 0 dX8_bestRope_57 rfl rfl ?_
              refine r_iload_n O 3 dX8_bestRope_58 rfl rfl ?_
              refine r_iload_n O 1 dX8_bestRope_59 rfl rfl ?_
              refine r_callVi O [.int (nI n), .int x1] [] (met_X8_holdsAt (g_xl X) hs lm pm m s (nI n) x1 (by first | decide | with_reducible assumption | with_reducible omega | (simp (disch := omega) only [g_upd_ne, g_upd_eq, fr_X8_walks, fr_X8_sets]; first | with_reducible assumption | with_reducible omega | decide) | exact Or.inl rfl | exact Or.inr rfl) (by first | decide | with_reducible assumption | with_reducible omega | (simp (disch := omega) only [g_upd_ne, g_upd_eq, fr_X8_walks, fr_X8_sets]; first | with_reducible assumption | with_reducible omega | decide) | exact Or.inl rfl | exact Or.inr rfl) (by first | decide | with_reducible assumption | with_reducible omega | (simp (disch := omega) only [g_upd_ne, g_upd_eq, fr_X8_walks, fr_X8_sets]; first | with_reducible assumption | with_reducible omega | decide) | exact Or.inl rfl | exact Or.inr rfl) (by first | decide | with_reducible assumption | with_reducible omega | (simp (disch := omega) only [g_upd_ne, g_upd_eq, fr_X8_walks, fr_X8_sets]; first | with_reducible assumption | with_reducible omega | decide) | exact Or.inl rfl | exact Or.inr rfl)) LX8_114 obj_124 rfl rfl rfl dX8_bestRope_60 rfl rfl ?_
              refine r_if_eq O 70 dX8_bestRope_63 (by decide) (fun c_63 => ?_) (fun c_63 => ?_)
              · have e_63 : (R_X8_holdsAt s (nI n) x1).toInt = (0 : Int) := j_eqR c_63 rfl
                exact J_70
              · have e_63 : (R_X8_holdsAt s (nI n) x1).toInt ≠ (0 : Int) := j_neR c_63 rfl
                refine r_iconst (x := 1) O dX8_bestRope_66 rfl ?_
                refine r_goto O 71 dX8_bestRope_67 (by decide) ?_
                exact J_71 1
    refine r_sub [2, 3, 1, 0] rfl ?_
    have hlit_v2_18 : ((-1) : Int32).toInt = (-1) := rfl
    exact L_18 9 (-1) 0 (by with_reducible omega)
theorem met_X8_bestRope (l : Launch) (hs : l.stackTraces = false) (lm : Nat → Int64) (pm : Nat → Nat) (m : Nat → Int32) (s : Nat → Int32) (x1 : Int32) (p0 : g_J s) : g_SM l yX8_bestRope cX8_bestRope 5 (some .int) ({ frames := 1, cells := 0, slots := 0, locals := 22 } : Room) (fun ad => [.ref (ad 124), .int x1]) m (s, lm, pm) ((fun r : Int32 × (Nat → Int32) => ((.inl (some (.int r.1)), (m, r.2, lm, pm)) : g_Res)) (R_X8_bestRope s x1)) :=
  g_sm_of (by decide) (fun _ => Nat.le_of_ble_eq_true rfl) hs (fun X hl hn O => walk_X8_bestRope O (by rw [hl]; exact hs) hn p0)
def R_X8_carryMinutes_40 (s : Nat → Int32) (t0_40 : Int32) : (Int32 × (Nat → Int32)) := ((R_X8_tells s t0_40).1, (R_X8_tells s t0_40).2)
def R_X8_carryMinutes_24 (s : Nat → Int32) : (Int32 × (Nat → Int32)) := (R_X8_carryMinutes_40 s (-1))
def R_X8_carryMinutes (s : Nat → Int32) : (Int32 × (Nat → Int32)) := (if (s (5)) = 1 then (R_X8_carryMinutes_24 s ) else (if (R_X8_isShutAbove s (s (4))) = 0 then (R_X8_carryMinutes_40 s (3 * (R_X8_upFrom s (s (4))))) else (R_X8_carryMinutes_24 s )))
set_option maxRecDepth 100000 in
set_option maxHeartbeats 4000000 in
theorem walk_X8_carryMinutes {X : g_X} (O : g_ok X cX8_carryMinutes RX8 (some .int) ({ frames := 2, cells := 0, slots := 0, locals := 44 } : Room)) (hs : (g_xl X).stackTraces = false) (hn : g_xn X = 1) {m : Nat → Int32} {lm : Nat → Int64} {pm : Nat → Nat} {s : Nat → Int32} (p0 : g_J s) : g_V X (fun r : Int32 × (Nat → Int32) => ((.inl (some (.int r.1)), (m, r.2, lm, pm)) : g_Res)) (R_X8_carryMinutes s) 0 0 m (s, lm, pm) 0 [(0, .ref (g_ad X 124))] [] := by
  have hN : ∀ i, Nat.blt i 1 = true → i < g_xn X := fun i h => by rw [hn]; exact g_blt.mp h
  obtain ⟨n0, n1, n2, n4, n6, n12, n3⟩ := p0.n
  refine r_aload_n O 0 dX8_carryMinutes_0 rfl rfl ?_
  refine r_aload_n O 0 dX8_carryMinutes_1 rfl rfl ?_
  refine r_get O FX8_7 G_124_0 dX8_carryMinutes_2 ?_
  refine r_iconst (x := 5) O dX8_carryMinutes_5 rfl ?_
  refine r_iald O R_125 (g_vin (by decide) (by decide)) dX8_carryMinutes_6 ?_
  refine r_iconst (x := 1) O dX8_carryMinutes_7 rfl ?_
  have J_40 : ∀ (t0_40 : Int32), g_V X (fun r : Int32 × (Nat → Int32) => ((.inl (some (.int r.1)), (m, r.2, lm, pm)) : g_Res)) (R_X8_carryMinutes_40 s t0_40) 0 0 m (s, lm, pm) 40 [] [.int t0_40, .ref (g_ad X 124)] := by
    intro t0_40
    refine r_callVi O [.int t0_40] [] (met_X8_tells (g_xl X) hs lm pm m s t0_40 ) LX8_33 obj_124 rfl rfl rfl dX8_carryMinutes_40 rfl rfl ?_
    exact r_iret O dX8_carryMinutes_43 rfl (Nat.le_of_ble_eq_true rfl) (Nat.le_of_ble_eq_true rfl) rfl
  have J_24 : g_V X (fun r : Int32 × (Nat → Int32) => ((.inl (some (.int r.1)), (m, r.2, lm, pm)) : g_Res)) (R_X8_carryMinutes_24 s ) 0 0 m (s, lm, pm) 24 [] [.ref (g_ad X 124)] := by
    refine r_iconst (x := (-1)) O dX8_carryMinutes_24 rfl ?_
    refine r_goto O 40 dX8_carryMinutes_25 (by decide) ?_
    exact J_40 (-1)
  refine r_icmp_eq O 24 dX8_carryMinutes_8 (by decide) (fun c_8 => ?_) (fun c_8 => ?_)
  · have e_8 : (s (5)).toInt = (1 : Int) := j_eqR c_8 rfl
    refine r_sub [] rfl ?_
    exact J_24
  · have e_8 : (s (5)).toInt ≠ (1 : Int) := j_neR c_8 rfl
    refine r_aload_n O 0 dX8_carryMinutes_11 rfl rfl ?_
    refine r_aload_n O 0 dX8_carryMinutes_12 rfl rfl ?_
    refine r_get O FX8_7 G_124_0 dX8_carryMinutes_13 ?_
    refine r_iconst (x := 4) O dX8_carryMinutes_16 rfl ?_
    refine r_iald O R_125 (g_vin (by decide) (by decide)) dX8_carryMinutes_17 ?_
    refine r_callVi O [.int (s (4))] [.ref (g_ad X 124)] (met_X8_isShutAbove (g_xl X) hs lm pm m s (s (4)) (by first | decide | with_reducible assumption | with_reducible omega | (simp (disch := omega) only [g_upd_ne, g_upd_eq, fr_X8_walks, fr_X8_sets]; first | with_reducible assumption | with_reducible omega | decide) | exact Or.inl rfl | exact Or.inr rfl)) LX8_177 obj_124 rfl rfl rfl dX8_carryMinutes_18 rfl rfl ?_
    refine r_if_eq O 28 dX8_carryMinutes_21 (by decide) (fun c_21 => ?_) (fun c_21 => ?_)
    · have e_21 : (R_X8_isShutAbove s (s (4))).toInt = (0 : Int) := j_eqR c_21 rfl
      refine r_iconst (x := 3) O dX8_carryMinutes_28 rfl ?_
      refine r_aload_n O 0 dX8_carryMinutes_29 rfl rfl ?_
      refine r_aload_n O 0 dX8_carryMinutes_30 rfl rfl ?_
      refine r_get O FX8_7 G_124_0 dX8_carryMinutes_31 ?_
      refine r_iconst (x := 4) O dX8_carryMinutes_34 rfl ?_
      refine r_iald O R_125 (g_vin (by decide) (by decide)) dX8_carryMinutes_35 ?_
      refine r_callVi O [.int (s (4))] [.int 3, .ref (g_ad X 124)] (met_X8_upFrom (g_xl X) hs lm pm m s (s (4)) (by first | decide | with_reducible assumption | with_reducible omega | (simp (disch := omega) only [g_upd_ne, g_upd_eq, fr_X8_walks, fr_X8_sets]; first | with_reducible assumption | with_reducible omega | decide) | exact Or.inl rfl | exact Or.inr rfl)) LX8_51 obj_124 rfl rfl rfl dX8_carryMinutes_36 rfl rfl ?_
      refine r_imul O dX8_carryMinutes_39 ?_
      refine r_sub [] rfl ?_
      exact J_40 (3 * (R_X8_upFrom s (s (4))))
    · have e_21 : (R_X8_isShutAbove s (s (4))).toInt ≠ (0 : Int) := j_neR c_21 rfl
      refine r_sub [] rfl ?_
      exact J_24
theorem met_X8_carryMinutes (l : Launch) (hs : l.stackTraces = false) (lm : Nat → Int64) (pm : Nat → Nat) (m : Nat → Int32) (s : Nat → Int32) (p0 : g_J s) : g_SM l yX8_carryMinutes cX8_carryMinutes 1 (some .int) ({ frames := 2, cells := 0, slots := 0, locals := 44 } : Room) (fun ad => [.ref (ad 124)]) m (s, lm, pm) ((fun r : Int32 × (Nat → Int32) => ((.inl (some (.int r.1)), (m, r.2, lm, pm)) : g_Res)) (R_X8_carryMinutes s)) :=
  g_sm_of (by decide) (fun _ => Nat.le_of_ble_eq_true rfl) hs (fun X hl hn O => walk_X8_carryMinutes O (by rw [hl]; exact hs) hn p0)
def R_X8_team_45 (s : Nat → Int32) (v1_4 : Int32) : (Int32 × (Nat → Int32)) := ((R_X8_tells s v1_4).1, (R_X8_tells s v1_4).2)
def R_X8_team_37 (K_4 : Int32 → Nat → (Int32 × (Nat → Int32))) (v1_4 : Int32) (n : Nat) (t0_37 : Int32) : (Int32 × (Nat → Int32)) := (K_4 (v1_4 ||| t0_37) (n + 1))
def R_X8_team_4 (s : Nat → Int32) : Nat → Int32 → Nat → (Int32 × (Nat → Int32))
  | 0, _, _ => (0, s)
  | f + 1, v1_4, n => (if (s (2)) ≤ (nI n) then (R_X8_team_45 s v1_4 ) else (if (R_X8_isCarryable s) = 0 then (R_X8_team_45 s v1_4 ) else (if (R_X8_canCarry s (nI n)) = 0 then (R_X8_team_37 (R_X8_team_4 s f) v1_4 n 0) else (R_X8_team_37 (R_X8_team_4 s f) v1_4 n (1 <<< ((nI n) &&& 31))))))
def R_X8_team (s : Nat → Int32) : (Int32 × (Nat → Int32)) := (R_X8_team_4 s 7 0 0)
set_option maxRecDepth 100000 in
set_option maxHeartbeats 4000000 in
theorem walk_X8_team {X : g_X} (O : g_ok X cX8_team RX8 (some .int) ({ frames := 4, cells := 0, slots := 0, locals := 90 } : Room)) (hs : (g_xl X).stackTraces = false) (hn : g_xn X = 3) {m : Nat → Int32} {lm : Nat → Int64} {pm : Nat → Nat} {s : Nat → Int32} (p0 : g_J s) : g_V X (fun r : Int32 × (Nat → Int32) => ((.inl (some (.int r.1)), (m, r.2, lm, pm)) : g_Res)) (R_X8_team s) 0 0 m (s, lm, pm) 0 [(0, .ref (g_ad X 124))] [] := by
  have hN : ∀ i, Nat.blt i 3 = true → i < g_xn X := fun i h => by rw [hn]; exact g_blt.mp h
  obtain ⟨n0, n1, n2, n4, n6, n12, n3⟩ := p0.n
  refine r_iconst (x := 0) O dX8_team_0 rfl ?_
  refine r_istore_n (lc' := [(1, .int 0), (0, .ref (g_ad X 124))]) O dX8_team_1 rfl (hN 1 rfl) rfl ?_
  refine r_iconst (x := 0) O dX8_team_2 rfl ?_
  refine r_istore_n (lc' := [(2, .int 0), (1, .int 0), (0, .ref (g_ad X 124))]) O dX8_team_3 rfl (hN 2 rfl) rfl ?_
  have L_4 : ∀ (f_4 : Nat) (v1_4 : Int32) (n : Nat) (hi_4 : n ≤ 6 ∧ 6 < f_4 + n), g_V X (fun r : Int32 × (Nat → Int32) => ((.inl (some (.int r.1)), (m, r.2, lm, pm)) : g_Res)) (R_X8_team_4 s f_4 v1_4 n) 0 0 m (s, lm, pm) 4 [(0, .ref (g_ad X 124)), (1, .int v1_4), (2, .int (nI n))] [] := by
    intro f_4
    induction f_4 with
    | zero => intro v1_4 n hi_4; exact absurd hi_4 (by omega)
    | succ f_4 ih_4 =>
      intro v1_4 n hi_4
      have hc_n : (nI n).toInt = (n : Int) := nI_toInt (by omega)
      refine r_iload_n O 2 dX8_team_4 rfl rfl ?_
      refine r_aload_n O 0 dX8_team_5 rfl rfl ?_
      refine r_get O FX8_7 G_124_0 dX8_team_6 ?_
      refine r_iconst (x := 2) O dX8_team_9 rfl ?_
      refine r_iald O R_125 (g_vin (by decide) (by decide)) dX8_team_10 ?_
      have J_45 : g_V X (fun r : Int32 × (Nat → Int32) => ((.inl (some (.int r.1)), (m, r.2, lm, pm)) : g_Res)) (R_X8_team_45 s v1_4 ) 0 0 m (s, lm, pm) 45 [(0, .ref (g_ad X 124)), (1, .int v1_4)] [] := by
        refine r_aload_n O 0 dX8_team_45 rfl rfl ?_
        refine r_iload_n O 1 dX8_team_46 rfl rfl ?_
        refine r_callVi O [.int v1_4] [] (met_X8_tells (g_xl X) hs lm pm m s v1_4 ) LX8_33 obj_124 rfl rfl rfl dX8_team_47 rfl rfl ?_
        exact r_iret O dX8_team_50 rfl (Nat.le_of_ble_eq_true rfl) (Nat.le_of_ble_eq_true rfl) rfl
      refine r_icmp_ge O 45 dX8_team_11 (by decide) (fun c_11 => ?_) (fun c_11 => ?_)
      · have e_11 : (s (2)).toInt ≤ (nI n).toInt := j_le c_11
        refine r_sub [0, 1] rfl ?_
        exact J_45
      · have e_11 : (nI n).toInt < (s (2)).toInt := j_nle c_11
        refine r_aload_n O 0 dX8_team_14 rfl rfl ?_
        refine r_callVi O [] [] (met_X8_isCarryable (g_xl X) hs lm pm m s (by first | decide | with_reducible assumption | with_reducible omega | (simp (disch := omega) only [g_upd_ne, g_upd_eq, fr_X8_walks, fr_X8_sets]; first | with_reducible assumption | with_reducible omega | decide) | exact Or.inl rfl | exact Or.inr rfl) (by first | decide | with_reducible assumption | with_reducible omega | (simp (disch := omega) only [g_upd_ne, g_upd_eq, fr_X8_walks, fr_X8_sets]; first | with_reducible assumption | with_reducible omega | decide) | exact Or.inl rfl | exact Or.inr rfl)) LX8_121 obj_124 rfl rfl rfl dX8_team_15 rfl rfl ?_
        refine r_if_eq O 45 dX8_team_18 (by decide) (fun c_18 => ?_) (fun c_18 => ?_)
        · have e_18 : (R_X8_isCarryable s).toInt = (0 : Int) := j_eqR c_18 rfl
          refine r_sub [0, 1] rfl ?_
          exact J_45
        · have e_18 : (R_X8_isCarryable s).toInt ≠ (0 : Int) := j_neR c_18 rfl
          refine r_iload_n O 1 dX8_team_21 rfl rfl ?_
          refine r_aload_n O 0 dX8_team_22 rfl rfl ?_
          refine r_iload_n O 2 dX8_team_23 rfl rfl ?_
          refine r_callVi O [.int (nI n)] [.int v1_4] (met_X8_canCarry (g_xl X) hs lm pm m s (nI n) (by first | decide | with_reducible assumption | with_reducible omega | (simp (disch := omega) only [g_upd_ne, g_upd_eq, fr_X8_walks, fr_X8_sets]; first | with_reducible assumption | with_reducible omega | decide) | exact Or.inl rfl | exact Or.inr rfl) (by first | decide | with_reducible assumption | with_reducible omega | (simp (disch := omega) only [g_upd_ne, g_upd_eq, fr_X8_walks, fr_X8_sets]; first | with_reducible assumption | with_reducible omega | decide) | exact Or.inl rfl | exact Or.inr rfl) (by first | decide | with_reducible assumption | with_reducible omega | (simp (disch := omega) only [g_upd_ne, g_upd_eq, fr_X8_walks, fr_X8_sets]; first | with_reducible assumption | with_reducible omega | decide) | exact Or.inl rfl | exact Or.inr rfl) (by first | decide | with_reducible assumption | with_reducible omega | (simp (disch := omega) only [g_upd_ne, g_upd_eq, fr_X8_walks, fr_X8_sets]; first | with_reducible assumption | with_reducible omega | decide) | exact Or.inl rfl | exact Or.inr rfl)) LX8_125 obj_124 rfl rfl rfl dX8_team_24 rfl rfl ?_
          have J_37 : ∀ (t0_37 : Int32), g_V X (fun r : Int32 × (Nat → Int32) => ((.inl (some (.int r.1)), (m, r.2, lm, pm)) : g_Res)) (R_X8_team_37 ((R_X8_team_4 s f_4)) v1_4 n t0_37) 0 0 m (s, lm, pm) 37 [(0, .ref (g_ad X 124)), (2, .int (nI n))] [.int t0_37, .int v1_4] := by
            intro t0_37
            refine r_ior O dX8_team_37 ?_
            refine r_istore_n (lc' := [(1, .int (v1_4 ||| t0_37)), (0, .ref (g_ad X 124)), (2, .int (nI n))]) O dX8_team_38 rfl (hN 1 rfl) rfl ?_
            refine r_iinc (lc' := [(2, .int (nI (n + 1))), (1, .int (v1_4 ||| t0_37)), (0, .ref (g_ad X 124))]) O 2 dX8_team_39 rfl (nI_1 n) (hN 2 rfl) rfl ?_
            refine r_goto O 4 dX8_team_42 (by decide) ?_
            refine r_sub [2, 1, 0] rfl ?_
            exact ih_4 (v1_4 ||| t0_37) (n + 1) (by with_reducible omega)
          refine r_if_eq O 36 dX8_team_27 (by decide) (fun c_27 => ?_) (fun c_27 => ?_)
          · have e_27 : (R_X8_canCarry s (nI n)).toInt = (0 : Int) := j_eqR c_27 rfl
            refine r_iconst (x := 0) O dX8_team_36 rfl ?_
            refine r_sub [0, 2] rfl ?_
            exact J_37 0
          · have e_27 : (R_X8_canCarry s (nI n)).toInt ≠ (0 : Int) := j_neR c_27 rfl
            refine r_iconst (x := 1) O dX8_team_30 rfl ?_
            refine r_iload_n O 2 dX8_team_31 rfl rfl ?_
            refine r_ishl O dX8_team_32 ?_
            refine r_goto O 37 dX8_team_33 (by decide) ?_
            refine r_sub [0, 2] rfl ?_
            exact J_37 (1 <<< ((nI n) &&& 31))
  refine r_sub [2, 1, 0] rfl ?_
  exact L_4 7 0 0 (by with_reducible omega)
theorem met_X8_team (l : Launch) (hs : l.stackTraces = false) (lm : Nat → Int64) (pm : Nat → Nat) (m : Nat → Int32) (s : Nat → Int32) (p0 : g_J s) : g_SM l yX8_team cX8_team 3 (some .int) ({ frames := 4, cells := 0, slots := 0, locals := 90 } : Room) (fun ad => [.ref (ad 124)]) m (s, lm, pm) ((fun r : Int32 × (Nat → Int32) => ((.inl (some (.int r.1)), (m, r.2, lm, pm)) : g_Res)) (R_X8_team s)) :=
  g_sm_of (by decide) (fun _ => Nat.le_of_ble_eq_true rfl) hs (fun X hl hn O => walk_X8_team O (by rw [hl]; exact hs) hn p0)
def R_X8_reach_109 (s : Nat → Int32) (t0_109 : Int32) : (Int32 × (Nat → Int32)) := ((R_X8_tells s t0_109).1, (R_X8_tells s t0_109).2)
def R_X8_reach_104 (s : Nat → Int32) : (Int32 × (Nat → Int32)) := (R_X8_reach_109 s (-1))
def R_X8_reach_92 (s : Nat → Int32) (v2_37 : Int32) (n : Nat) : (Int32 × (Nat → Int32)) := (if 0 < v2_37 then (R_X8_reach_104 s ) else (if (nI n) ≤ 1000 then (R_X8_reach_109 s (nI n)) else (R_X8_reach_104 s )))
def R_X8_reach_84 (K_37 : Int32 → Nat → (Int32 × (Nat → Int32))) (v2_37 : Int32) (n : Nat) (t0_84 : Int32) : (Int32 × (Nat → Int32)) := (K_37 (v2_37 - t0_84) (n + 1))
def R_X8_reach_37 (s : Nat → Int32) : Nat → Int32 → Nat → (Int32 × (Nat → Int32))
  | 0, _, _ => (0, s)
  | f + 1, v2_37, n => (if v2_37 ≤ 0 then (R_X8_reach_92 s v2_37 n ) else (if 1000 < (nI n) then (R_X8_reach_92 s v2_37 n ) else (if (R_X8_in s ((s (3)) + (nI n)) (s (9)) ((s (10)) - 1)) = 0 then (R_X8_reach_84 (R_X8_reach_37 s f) v2_37 n 1) else (R_X8_reach_84 (R_X8_reach_37 s f) v2_37 n 0))))
def R_X8_reach (s : Nat → Int32) (x1 : Int32) : (Int32 × (Nat → Int32)) := (if (R_X8_isHelper s x1) = 0 then ((R_X8_fails s 1).1, (R_X8_fails s 1).2) else (if (R_X8_stands s x1) = 0 then ((R_X8_tells s (-1)).1, (R_X8_tells s (-1)).2) else (R_X8_reach_37 s 1002 (s (58 + 9 * x1.toNatClampNeg + 1)) 0)))
set_option maxRecDepth 100000 in
set_option maxHeartbeats 4000000 in
theorem walk_X8_reach {X : g_X} (O : g_ok X cX8_reach RX8 (some .int) ({ frames := 2, cells := 0, slots := 0, locals := 43 } : Room)) (hs : (g_xl X).stackTraces = false) (hn : g_xn X = 4) {m : Nat → Int32} {lm : Nat → Int64} {pm : Nat → Nat} {s : Nat → Int32} {x1 : Int32} (p0 : g_J s) : g_V X (fun r : Int32 × (Nat → Int32) => ((.inl (some (.int r.1)), (m, r.2, lm, pm)) : g_Res)) (R_X8_reach s x1) 0 0 m (s, lm, pm) 0 [(0, .ref (g_ad X 124)), (1, .int x1)] [] := by
  have hN : ∀ i, Nat.blt i 4 = true → i < g_xn X := fun i h => by rw [hn]; exact g_blt.mp h
  obtain ⟨n0, n1, n2, n4, n6, n12, n3⟩ := p0.n
  refine r_aload_n O 0 dX8_reach_0 rfl rfl ?_
  refine r_iload_n O 1 dX8_reach_1 rfl rfl ?_
  refine r_callVi O [.int x1] [] (met_X8_isHelper (g_xl X) hs lm pm m s x1 ) LX8_95 obj_124 rfl rfl rfl dX8_reach_2 rfl rfl ?_
  refine r_if_ne O 14 dX8_reach_5 (by decide) (fun c_5 => ?_) (fun c_5 => ?_)
  · have e_5 : (R_X8_isHelper s x1).toInt = (0 : Int) := j_eqR c_5 rfl
    refine r_aload_n O 0 dX8_reach_8 rfl rfl ?_
    refine r_iconst (x := 1) O dX8_reach_9 rfl ?_
    refine r_callVi O [.int 1] [] (met_X8_fails (g_xl X) hs lm pm m s 1 ) LX8_58 obj_124 rfl rfl rfl dX8_reach_10 rfl rfl ?_
    exact r_iret O dX8_reach_13 rfl (Nat.le_of_ble_eq_true rfl) (Nat.le_of_ble_eq_true rfl) rfl
  · have e_5 : (R_X8_isHelper s x1).toInt ≠ (0 : Int) := j_neR c_5 rfl
    obtain ⟨z_5a, z_5b⟩ := nz_X8_isHelper c_5
    obtain ⟨jst, jrp⟩ := p0.h z_5a z_5b
    refine r_aload_n O 0 dX8_reach_14 rfl rfl ?_
    refine r_iload_n O 1 dX8_reach_15 rfl rfl ?_
    refine r_callVi O [.int x1] [] (met_X8_stands (g_xl X) hs lm pm m s x1 (by first | decide | with_reducible assumption | with_reducible omega | (simp (disch := omega) only [g_upd_ne, g_upd_eq, fr_X8_walks, fr_X8_sets]; first | with_reducible assumption | with_reducible omega | decide) | exact Or.inl rfl | exact Or.inr rfl) (by first | decide | with_reducible assumption | with_reducible omega | (simp (disch := omega) only [g_upd_ne, g_upd_eq, fr_X8_walks, fr_X8_sets]; first | with_reducible assumption | with_reducible omega | decide) | exact Or.inl rfl | exact Or.inr rfl)) LX8_81 obj_124 rfl rfl rfl dX8_reach_16 rfl rfl ?_
    refine r_if_ne O 28 dX8_reach_19 (by decide) (fun c_19 => ?_) (fun c_19 => ?_)
    · have e_19 : (R_X8_stands s x1).toInt = (0 : Int) := j_eqR c_19 rfl
      refine r_aload_n O 0 dX8_reach_22 rfl rfl ?_
      refine r_iconst (x := (-1)) O dX8_reach_23 rfl ?_
      refine r_callVi O [.int (-1)] [] (met_X8_tells (g_xl X) hs lm pm m s (-1) ) LX8_33 obj_124 rfl rfl rfl dX8_reach_24 rfl rfl ?_
      exact r_iret O dX8_reach_27 rfl (Nat.le_of_ble_eq_true rfl) (Nat.le_of_ble_eq_true rfl) rfl
    · have e_19 : (R_X8_stands s x1).toInt ≠ (0 : Int) := j_neR c_19 rfl
      refine r_aload_n O 0 dX8_reach_28 rfl rfl ?_
      refine r_iload_n O 1 dX8_reach_29 rfl rfl ?_
      refine r_iconst (x := 1) O dX8_reach_30 rfl ?_
      refine r_callVi O [.int x1, .int 1] [] (metn_X8_of (g_xl X) hs lm pm m s x1 1 (by first | decide | with_reducible assumption | with_reducible omega | (simp (disch := omega) only [g_upd_ne, g_upd_eq, fr_X8_walks, fr_X8_sets]; first | with_reducible assumption | with_reducible omega | decide) | exact Or.inl rfl | exact Or.inr rfl) (by first | decide | with_reducible assumption | with_reducible omega | (simp (disch := omega) only [g_upd_ne, g_upd_eq, fr_X8_walks, fr_X8_sets]; first | with_reducible assumption | with_reducible omega | decide) | exact Or.inl rfl | exact Or.inr rfl) (by decide)) LX8_37 obj_124 rfl rfl rfl dX8_reach_31 rfl rfl ?_
      refine r_istore_n (lc' := [(2, .int (s (58 + 9 * x1.toNatClampNeg + 1))), (0, .ref (g_ad X 124)), (1, .int x1)]) O dX8_reach_34 rfl (hN 2 rfl) rfl ?_
      refine r_iconst (x := 0) O dX8_reach_35 rfl ?_
      refine r_istore_n (lc' := [(3, .int 0), (2, .int (s (58 + 9 * x1.toNatClampNeg + 1))), (0, .ref (g_ad X 124)), (1, .int x1)]) O dX8_reach_36 rfl (hN 3 rfl) rfl ?_
      have L_37 : ∀ (f_37 : Nat) (v2_37 : Int32) (n : Nat) (hi_37 : n ≤ 1001 ∧ 1001 < f_37 + n), g_V X (fun r : Int32 × (Nat → Int32) => ((.inl (some (.int r.1)), (m, r.2, lm, pm)) : g_Res)) (R_X8_reach_37 s f_37 v2_37 n) 0 0 m (s, lm, pm) 37 [(0, .ref (g_ad X 124)), (2, .int v2_37), (3, .int (nI n))] [] := by
        intro f_37
        induction f_37 with
        | zero => intro v2_37 n hi_37; exact absurd hi_37 (by omega)
        | succ f_37 ih_37 =>
          intro v2_37 n hi_37
          have hc_n : (nI n).toInt = (n : Int) := nI_toInt (by omega)
          refine r_iload_n O 1 dX8_reach_37 rfl rfl ?_
          have J_92 : g_V X (fun r : Int32 × (Nat → Int32) => ((.inl (some (.int r.1)), (m, r.2, lm, pm)) : g_Res)) (R_X8_reach_92 s v2_37 n ) 0 0 m (s, lm, pm) 92 [(0, .ref (g_ad X 124)), (2, .int v2_37), (3, .int (nI n))] [] := by
            refine r_aload_n O 0 dX8_reach_92 rfl rfl ?_
            refine r_iload_n O 1 dX8_reach_93 rfl rfl ?_
            have J_109 : ∀ (t0_109 : Int32), g_V X (fun r : Int32 × (Nat → Int32) => ((.inl (some (.int r.1)), (m, r.2, lm, pm)) : g_Res)) (R_X8_reach_109 s t0_109) 0 0 m (s, lm, pm) 109 [] [.int t0_109, .ref (g_ad X 124)] := by
              intro t0_109
              refine r_callVi O [.int t0_109] [] (met_X8_tells (g_xl X) hs lm pm m s t0_109 ) LX8_33 obj_124 rfl rfl rfl dX8_reach_109 rfl rfl ?_
              exact r_iret O dX8_reach_112 rfl (Nat.le_of_ble_eq_true rfl) (Nat.le_of_ble_eq_true rfl) rfl
            have J_104 : g_V X (fun r : Int32 × (Nat → Int32) => ((.inl (some (.int r.1)), (m, r.2, lm, pm)) : g_Res)) (R_X8_reach_104 s ) 0 0 m (s, lm, pm) 104 [] [.ref (g_ad X 124)] := by
              refine r_iconst (x := (-1)) O dX8_reach_104 rfl ?_
              refine r_goto O 109 dX8_reach_105 (by decide) ?_
              exact J_109 (-1)
            refine r_if_gt O 104 dX8_reach_94 (by decide) (fun c_94 => ?_) (fun c_94 => ?_)
            · have e_94 : (0 : Int) < (v2_37).toInt := j_ltL c_94 rfl
              refine r_sub [] rfl ?_
              exact J_104
            · have e_94 : (v2_37).toInt ≤ (0 : Int) := j_nltL c_94 rfl
              refine r_iload_n O 2 dX8_reach_97 rfl rfl ?_
              refine r_sipush (x := 1000) O dX8_reach_98 rfl ?_
              refine r_icmp_le O 108 dX8_reach_101 (by decide) (fun c_101 => ?_) (fun c_101 => ?_)
              · have e_101 : (nI n).toInt ≤ (1000 : Int) := j_leR c_101 rfl
                refine r_iload_n O 2 dX8_reach_108 rfl rfl ?_
                refine r_sub [] rfl ?_
                exact J_109 (nI n)
              · have e_101 : (1000 : Int) < (nI n).toInt := j_nleR c_101 rfl
                refine r_sub [] rfl ?_
                exact J_104
          refine r_if_le O 92 dX8_reach_38 (by decide) (fun c_38 => ?_) (fun c_38 => ?_)
          · have e_38 : (v2_37).toInt ≤ (0 : Int) := j_leR c_38 rfl
            exact J_92
          · have e_38 : (0 : Int) < (v2_37).toInt := j_nleR c_38 rfl
            refine r_iload_n O 2 dX8_reach_41 rfl rfl ?_
            refine r_sipush (x := 1000) O dX8_reach_42 rfl ?_
            refine r_icmp_gt O 92 dX8_reach_45 (by decide) (fun c_45 => ?_) (fun c_45 => ?_)
            · have e_45 : (1000 : Int) < (nI n).toInt := j_ltL c_45 rfl
              exact J_92
            · have e_45 : (nI n).toInt ≤ (1000 : Int) := j_nltL c_45 rfl
              refine r_iload_n O 1 dX8_reach_48 rfl rfl ?_
              refine r_aload_n O 0 dX8_reach_49 rfl rfl ?_
              refine r_get O FX8_7 G_124_0 dX8_reach_50 ?_
              refine r_iconst (x := 3) O dX8_reach_53 rfl ?_
              refine r_iald O R_125 (g_vin (by decide) (by decide)) dX8_reach_54 ?_
              refine r_iload_n O 2 dX8_reach_55 rfl rfl ?_
              refine r_iadd O dX8_reach_56 ?_
              refine r_aload_n O 0 dX8_reach_57 rfl rfl ?_
              refine r_get O FX8_7 G_124_0 dX8_reach_58 ?_
              refine r_bipush (x := 9) O dX8_reach_61 rfl ?_
              refine r_iald O R_125 (g_vin (by decide) (by decide)) dX8_reach_63 ?_
              refine r_aload_n O 0 dX8_reach_64 rfl rfl ?_
              refine r_get O FX8_7 G_124_0 dX8_reach_65 ?_
              refine r_bipush (x := 10) O dX8_reach_68 rfl ?_
              refine r_iald O R_125 (g_vin (by decide) (by decide)) dX8_reach_70 ?_
              refine r_iconst (x := 1) O dX8_reach_71 rfl ?_
              refine r_isub O dX8_reach_72 ?_
              refine r_callSi O [.int ((s (3)) + (nI n)), .int (s (9)), .int ((s (10)) - 1)] [.int v2_37] (met_X8_in (g_xl X) hs lm pm m s ((s (3)) + (nI n)) (s (9)) ((s (10)) - 1) ) LX8_54 rfl rfl rfl dX8_reach_73 rfl rfl ?_
              have J_84 : ∀ (t0_84 : Int32), g_V X (fun r : Int32 × (Nat → Int32) => ((.inl (some (.int r.1)), (m, r.2, lm, pm)) : g_Res)) (R_X8_reach_84 ((R_X8_reach_37 s f_37)) v2_37 n t0_84) 0 0 m (s, lm, pm) 84 [(0, .ref (g_ad X 124)), (3, .int (nI n))] [.int t0_84, .int v2_37] := by
                intro t0_84
                refine r_isub O dX8_reach_84 ?_
                refine r_istore_n (lc' := [(2, .int (v2_37 - t0_84)), (0, .ref (g_ad X 124)), (3, .int (nI n))]) O dX8_reach_85 rfl (hN 2 rfl) rfl ?_
                refine r_iinc (lc' := [(3, .int (nI (n + 1))), (2, .int (v2_37 - t0_84)), (0, .ref (g_ad X 124))]) O 2 dX8_reach_86 rfl (nI_1 n) (hN 3 rfl) rfl ?_
                refine r_goto O 37 dX8_reach_89 (by decide) ?_
                refine r_sub [2, 1, 0] rfl ?_
                exact ih_37 (v2_37 - t0_84) (n + 1) (by with_reducible omega)
              refine r_if_eq O 83 dX8_reach_76 (by decide) (fun c_76 => ?_) (fun c_76 => ?_)
              · have e_76 : (R_X8_in s ((s (3)) + (nI n)) (s (9)) ((s (10)) - 1)).toInt = (0 : Int) := j_eqR c_76 rfl
                refine r_iconst (x := 1) O dX8_reach_83 rfl ?_
                refine r_sub [0, 2] rfl ?_
                exact J_84 1
              · have e_76 : (R_X8_in s ((s (3)) + (nI n)) (s (9)) ((s (10)) - 1)).toInt ≠ (0 : Int) := j_neR c_76 rfl
                have z_76a : (s (9)).toInt ≤ ((s (3)) + (nI n)).toInt := (nz_X8_in c_76).1
                have z_76b : ((s (3)) + (nI n)).toInt ≤ ((s (10)) - 1).toInt := (nz_X8_in c_76).2
                refine r_iconst (x := 0) O dX8_reach_79 rfl ?_
                refine r_goto O 84 dX8_reach_80 (by decide) ?_
                refine r_sub [0, 2] rfl ?_
                exact J_84 0
      refine r_sub [2, 1, 0] rfl ?_
      exact L_37 1002 (s (58 + 9 * x1.toNatClampNeg + 1)) 0 (by with_reducible omega)
theorem met_X8_reach (l : Launch) (hs : l.stackTraces = false) (lm : Nat → Int64) (pm : Nat → Nat) (m : Nat → Int32) (s : Nat → Int32) (x1 : Int32) (p0 : g_J s) : g_SM l yX8_reach cX8_reach 4 (some .int) ({ frames := 2, cells := 0, slots := 0, locals := 43 } : Room) (fun ad => [.ref (ad 124), .int x1]) m (s, lm, pm) ((fun r : Int32 × (Nat → Int32) => ((.inl (some (.int r.1)), (m, r.2, lm, pm)) : g_Res)) (R_X8_reach s x1)) :=
  g_sm_of (by decide) (fun _ => Nat.le_of_ble_eq_true rfl) hs (fun X hl hn O => walk_X8_reach O (by rw [hl]; exact hs) hn p0)
