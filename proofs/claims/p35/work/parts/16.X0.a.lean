/-! ===== Cave: looks and small deeds ===== -/
def R_X0_isStanding (m : Nat → Int32) (x1 : Int32) : Int32 := (if x1 < 0 then 0 else (if (m 2) ≤ x1 then 0 else (if (m (58 + 9 * x1.toNatClampNeg + 2)) = 0 then 1 else 0)))
set_option maxRecDepth 100000 in
set_option maxHeartbeats 4000000 in
theorem walk_X0_isStanding {X : g_X} (O : g_ok X cX0_isStanding RX0 (some .boolean) ({ frames := 0, cells := 0, slots := 0, locals := 0 } : Room)) (hs : (g_xl X).stackTraces = false) (hn : g_xn X = 2) {q : g_q} {m : Nat → Int32} {x1 : Int32} (p0 : (m 2).toInt ≤ 6) : g_V X (fun r : Int32 => ((.inl (some (.int r)), (m, q)) : g_Res)) (R_X0_isStanding m x1) 0 0 m q 0 [(0, .ref (g_ad X 0)), (1, .int x1)] [] := by
  have hN : ∀ i, Nat.blt i 2 = true → i < g_xn X := fun i h => by rw [hn]; exact g_blt.mp h
  refine r_iload_n O 1 dX0_isStanding_0 rfl rfl ?_
  refine r_if_lt O 28 dX0_isStanding_1 (by decide) (fun c_1 => ?_) (fun c_1 => ?_)
  · have e_1 : (x1).toInt < (0 : Int) := j_ltR c_1 rfl
    refine r_iconst (x := 0) O dX0_isStanding_28 rfl ?_
    exact r_iret O dX0_isStanding_29 rfl (Nat.le_of_ble_eq_true rfl) (Nat.le_of_ble_eq_true rfl) rfl
  · have e_1 : (0 : Int) ≤ (x1).toInt := j_nltR c_1 rfl
    refine r_iload_n O 1 dX0_isStanding_4 rfl rfl ?_
    refine r_aload_n O 0 dX0_isStanding_5 rfl rfl ?_
    refine r_get O FX0_31 G_0_3 dX0_isStanding_6 ?_
    refine r_icmp_ge O 28 dX0_isStanding_9 (by decide) (fun c_9 => ?_) (fun c_9 => ?_)
    · have e_9 : (m 2).toInt ≤ (x1).toInt := j_le c_9
      refine r_iconst (x := 0) O dX0_isStanding_28 rfl ?_
      exact r_iret O dX0_isStanding_29 rfl (Nat.le_of_ble_eq_true rfl) (Nat.le_of_ble_eq_true rfl) rfl
    · have e_9 : (x1).toInt < (m 2).toInt := j_nle c_9
      refine r_aload_n O 0 dX0_isStanding_12 rfl rfl ?_
      refine r_get O FX0_27 G_0_2 dX0_isStanding_13 ?_
      refine r_iload_n O 1 dX0_isStanding_16 rfl rfl ?_
      have hv1 : vp_in x1 6 := (show vp_in x1 6 from g_vin (by with_reducible omega) (by with_reducible omega))
      have hv1c := g_cl hv1
      refine r_aald O hv1 dX0_isStanding_17 ?_
      refine r_get O FX0_103 (G_h (h := x1.toNatClampNeg) (j := 2) hv1c (by decide)) dX0_isStanding_18 ?_
      refine r_if_ne O 28 dX0_isStanding_21 (by decide) (fun c_21 => ?_) (fun c_21 => ?_)
      · have e_21 : (m (58 + 9 * x1.toNatClampNeg + 2)).toInt = (0 : Int) := j_eqR c_21 rfl
        refine r_iconst (x := 1) O dX0_isStanding_24 rfl ?_
        refine r_goto O 29 dX0_isStanding_25 (by decide) ?_
        exact r_iret O dX0_isStanding_29 rfl (Nat.le_of_ble_eq_true rfl) (Nat.le_of_ble_eq_true rfl) rfl
      · have e_21 : (m (58 + 9 * x1.toNatClampNeg + 2)).toInt ≠ (0 : Int) := j_neR c_21 rfl
        refine r_iconst (x := 0) O dX0_isStanding_28 rfl ?_
        exact r_iret O dX0_isStanding_29 rfl (Nat.le_of_ble_eq_true rfl) (Nat.le_of_ble_eq_true rfl) rfl
theorem met_X0_isStanding (l : Launch) (hs : l.stackTraces = false) (q : g_q) (m : Nat → Int32) (x1 : Int32) (p0 : (m 2).toInt ≤ 6) : g_SM l yX0_isStanding cX0_isStanding 2 (some .boolean) ({ frames := 0, cells := 0, slots := 0, locals := 0 } : Room) (fun ad => [.ref (ad 0), .int x1]) m q ((fun r : Int32 => ((.inl (some (.int r)), (m, q)) : g_Res)) (R_X0_isStanding m x1)) :=
  g_sm_of (by decide) (fun _ => Nat.le_of_ble_eq_true rfl) hs (fun X hl hn O => walk_X0_isStanding O (by rw [hl]; exact hs) hn p0)
theorem nz_X0_isStanding {m : Nat → Int32} {x1 : Int32} (h : ¬ R_X0_isStanding m x1 = 0) : 0 ≤ x1.toInt ∧ x1.toInt < (m 2).toInt := by
  unfold R_X0_isStanding at h
  by_cases a : x1 < 0
  · simp [a] at h
  · by_cases b : m 2 ≤ x1
    · simp [a, b] at h
    · exact ⟨j_nlt a, j_nle b⟩
def R_X0_walkersThrough_28 (K_4 : Int32 → Nat → Int32) (n : Nat) (v2_28 : Int32) : Int32 := (K_4 v2_28 (n + 1))
def R_X0_walkersThrough_4 (m : Nat → Int32) (x1 : Int32) : Nat → Int32 → Nat → Int32
  | 0, _, _ => 0
  | f + 1, v2_4, n => (if (m 2) ≤ (nI n) then v2_4 else (if (R_X1_walksThrough m ((nI n).toNatClampNeg) x1) = 0 then (R_X0_walkersThrough_28 (R_X0_walkersThrough_4 m x1 f) n v2_4) else (R_X0_walkersThrough_28 (R_X0_walkersThrough_4 m x1 f) n (v2_4 + 1))))
def R_X0_walkersThrough (m : Nat → Int32) (x1 : Int32) : Int32 := (R_X0_walkersThrough_4 m x1 7 0 0)
set_option maxRecDepth 100000 in
set_option maxHeartbeats 4000000 in
theorem walk_X0_walkersThrough {X : g_X} (O : g_ok X cX0_walkersThrough RX0 (some .int) ({ frames := 2, cells := 0, slots := 0, locals := 42 } : Room)) (hs : (g_xl X).stackTraces = false) (hn : g_xn X = 4) {q : g_q} {m : Nat → Int32} {x1 : Int32} (p0 : (m 2).toInt ≤ 6) : g_V X (fun r : Int32 => ((.inl (some (.int r)), (m, q)) : g_Res)) (R_X0_walkersThrough m x1) 0 0 m q 0 [(0, .ref (g_ad X 0)), (1, .int x1)] [] := by
  have hN : ∀ i, Nat.blt i 4 = true → i < g_xn X := fun i h => by rw [hn]; exact g_blt.mp h
  refine r_iconst (x := 0) O dX0_walkersThrough_0 rfl ?_
  refine r_istore_n (lc' := [(2, .int 0), (0, .ref (g_ad X 0)), (1, .int x1)]) O dX0_walkersThrough_1 rfl (hN 2 rfl) rfl ?_
  refine r_iconst (x := 0) O dX0_walkersThrough_2 rfl ?_
  refine r_istore_n (lc' := [(3, .int 0), (2, .int 0), (0, .ref (g_ad X 0)), (1, .int x1)]) O dX0_walkersThrough_3 rfl (hN 3 rfl) rfl ?_
  have L_4 : ∀ (f_4 : Nat) (v2_4 : Int32) (n : Nat) (hi_4 : n ≤ 6 ∧ 6 < f_4 + n), g_V X (fun r : Int32 => ((.inl (some (.int r)), (m, q)) : g_Res)) (R_X0_walkersThrough_4 m x1 f_4 v2_4 n) 0 0 m q 4 [(0, .ref (g_ad X 0)), (1, .int x1), (2, .int v2_4), (3, .int (nI n))] [] := by
    intro f_4
    induction f_4 with
    | zero => intro v2_4 n hi_4; exact absurd hi_4 (by omega)
    | succ f_4 ih_4 =>
      intro v2_4 n hi_4
      have hc_n : (nI n).toInt = (n : Int) := nI_toInt (by omega)
      refine r_iload_n O 3 dX0_walkersThrough_4 rfl rfl ?_
      refine r_aload_n O 0 dX0_walkersThrough_5 rfl rfl ?_
      refine r_get O FX0_31 G_0_3 dX0_walkersThrough_6 ?_
      refine r_icmp_ge O 34 dX0_walkersThrough_9 (by decide) (fun c_9 => ?_) (fun c_9 => ?_)
      · have e_9 : (m 2).toInt ≤ (nI n).toInt := j_le c_9
        refine r_iload_n O 2 dX0_walkersThrough_34 rfl rfl ?_
        exact r_iret O dX0_walkersThrough_35 rfl (Nat.le_of_ble_eq_true rfl) (Nat.le_of_ble_eq_true rfl) rfl
      · have e_9 : (nI n).toInt < (m 2).toInt := j_nle c_9
        refine r_aload_n O 0 dX0_walkersThrough_12 rfl rfl ?_
        refine r_get O FX0_27 G_0_2 dX0_walkersThrough_13 ?_
        refine r_iload_n O 3 dX0_walkersThrough_16 rfl rfl ?_
        have hv1 : vp_in (nI n) 6 := (show vp_in (nI n) 6 from g_vin (by with_reducible omega) (by with_reducible omega))
        have hv1c := g_cl hv1
        refine r_aald O hv1 dX0_walkersThrough_17 ?_
        refine r_iload_n O 1 dX0_walkersThrough_18 rfl rfl ?_
        refine r_callVi O [.int x1] [] (met_X1_walksThrough (g_xl X) hs q m ((nI n).toNatClampNeg) x1 hv1c) LX0_106 (obj_h hv1c) rfl rfl rfl dX0_walkersThrough_19 rfl rfl ?_
        have J_28 : ∀ (v2_28 : Int32), g_V X (fun r : Int32 => ((.inl (some (.int r)), (m, q)) : g_Res)) (R_X0_walkersThrough_28 ((R_X0_walkersThrough_4 m x1 f_4)) n v2_28) 0 0 m q 28 [(0, .ref (g_ad X 0)), (1, .int x1), (2, .int v2_28), (3, .int (nI n))] [] := by
          intro v2_28
          refine r_iinc (lc' := [(3, .int (nI (n + 1))), (0, .ref (g_ad X 0)), (1, .int x1), (2, .int v2_28)]) O 3 dX0_walkersThrough_28 rfl (nI_1 n) (hN 3 rfl) rfl ?_
          refine r_goto O 4 dX0_walkersThrough_31 (by decide) ?_
          refine r_sub [1, 2, 3, 0] rfl ?_
          exact ih_4 v2_28 (n + 1) (by with_reducible omega)
        refine r_if_eq O 28 dX0_walkersThrough_22 (by decide) (fun c_22 => ?_) (fun c_22 => ?_)
        · have e_22 : (R_X1_walksThrough m ((nI n).toNatClampNeg) x1).toInt = (0 : Int) := j_eqR c_22 rfl
          exact J_28 v2_4
        · have e_22 : (R_X1_walksThrough m ((nI n).toNatClampNeg) x1).toInt ≠ (0 : Int) := j_neR c_22 rfl
          refine r_iinc (lc' := [(2, .int (v2_4 + 1)), (0, .ref (g_ad X 0)), (1, .int x1), (3, .int (nI n))]) O 2 dX0_walkersThrough_25 rfl rfl (hN 2 rfl) rfl ?_
          refine r_sub [1, 2, 0, 3] rfl ?_
          exact J_28 (v2_4 + 1)
  refine r_sub [2, 3, 1, 0] rfl ?_
  exact L_4 7 0 0 (by with_reducible omega)
theorem met_X0_walkersThrough (l : Launch) (hs : l.stackTraces = false) (q : g_q) (m : Nat → Int32) (x1 : Int32) (p0 : (m 2).toInt ≤ 6) : g_SM l yX0_walkersThrough cX0_walkersThrough 4 (some .int) ({ frames := 2, cells := 0, slots := 0, locals := 42 } : Room) (fun ad => [.ref (ad 0), .int x1]) m q ((fun r : Int32 => ((.inl (some (.int r)), (m, q)) : g_Res)) (R_X0_walkersThrough m x1)) :=
  g_sm_of (by decide) (fun _ => Nat.le_of_ble_eq_true rfl) hs (fun X hl hn O => walk_X0_walkersThrough O (by rw [hl]; exact hs) hn p0)
def R_X0_riggerOf_38 (K_2 : Nat → Int32) (n : Nat) : Int32 := (K_2 (n + 1))
def R_X0_riggerOf_2 (m : Nat → Int32) (x1 : Int32) : Nat → Nat → Int32
  | 0, _ => 0
  | f + 1, n => (if (m 2) ≤ (nI n) then (-1) else (if (m (58 + 9 * ((nI n).toNatClampNeg) + 2)) = 2 then (if (m (58 + 9 * ((nI n).toNatClampNeg) + 1)) = x1 then (nI n) else (R_X0_riggerOf_38 (R_X0_riggerOf_2 m x1 f) n )) else (R_X0_riggerOf_38 (R_X0_riggerOf_2 m x1 f) n )))
def R_X0_riggerOf (m : Nat → Int32) (x1 : Int32) : Int32 := (R_X0_riggerOf_2 m x1 7 0)
set_option maxRecDepth 100000 in
set_option maxHeartbeats 4000000 in
theorem walk_X0_riggerOf {X : g_X} (O : g_ok X cX0_riggerOf RX0 (some .int) ({ frames := 0, cells := 0, slots := 0, locals := 0 } : Room)) (hs : (g_xl X).stackTraces = false) (hn : g_xn X = 3) {q : g_q} {m : Nat → Int32} {x1 : Int32} (p0 : (m 2).toInt ≤ 6) : g_V X (fun r : Int32 => ((.inl (some (.int r)), (m, q)) : g_Res)) (R_X0_riggerOf m x1) 0 0 m q 0 [(0, .ref (g_ad X 0)), (1, .int x1)] [] := by
  have hN : ∀ i, Nat.blt i 3 = true → i < g_xn X := fun i h => by rw [hn]; exact g_blt.mp h
  refine r_iconst (x := 0) O dX0_riggerOf_0 rfl ?_
  refine r_istore_n (lc' := [(2, .int 0), (0, .ref (g_ad X 0)), (1, .int x1)]) O dX0_riggerOf_1 rfl (hN 2 rfl) rfl ?_
  have L_2 : ∀ (f_2 : Nat) (n : Nat) (hi_2 : n ≤ 6 ∧ 6 < f_2 + n), g_V X (fun r : Int32 => ((.inl (some (.int r)), (m, q)) : g_Res)) (R_X0_riggerOf_2 m x1 f_2 n) 0 0 m q 2 [(0, .ref (g_ad X 0)), (1, .int x1), (2, .int (nI n))] [] := by
    intro f_2
    induction f_2 with
    | zero => intro n hi_2; exact absurd hi_2 (by omega)
    | succ f_2 ih_2 =>
      intro n hi_2
      have hc_n : (nI n).toInt = (n : Int) := nI_toInt (by omega)
      refine r_iload_n O 2 dX0_riggerOf_2 rfl rfl ?_
      refine r_aload_n O 0 dX0_riggerOf_3 rfl rfl ?_
      refine r_get O FX0_31 G_0_3 dX0_riggerOf_4 ?_
      refine r_icmp_ge O 44 dX0_riggerOf_7 (by decide) (fun c_7 => ?_) (fun c_7 => ?_)
      · have e_7 : (m 2).toInt ≤ (nI n).toInt := j_le c_7
        refine r_iconst (x := (-1)) O dX0_riggerOf_44 rfl ?_
        exact r_iret O dX0_riggerOf_45 rfl (Nat.le_of_ble_eq_true rfl) (Nat.le_of_ble_eq_true rfl) rfl
      · have e_7 : (nI n).toInt < (m 2).toInt := j_nle c_7
        refine r_aload_n O 0 dX0_riggerOf_10 rfl rfl ?_
        refine r_get O FX0_27 G_0_2 dX0_riggerOf_11 ?_
        refine r_iload_n O 2 dX0_riggerOf_14 rfl rfl ?_
        have hv1 : vp_in (nI n) 6 := (show vp_in (nI n) 6 from g_vin (by with_reducible omega) (by with_reducible omega))
        have hv1c := g_cl hv1
        refine r_aald O hv1 dX0_riggerOf_15 ?_
        refine r_get O FX0_103 (G_h (h := ((nI n).toNatClampNeg)) (j := 2) hv1c (by decide)) dX0_riggerOf_16 ?_
        refine r_iconst (x := 2) O dX0_riggerOf_19 rfl ?_
        have J_38 : g_V X (fun r : Int32 => ((.inl (some (.int r)), (m, q)) : g_Res)) (R_X0_riggerOf_38 ((R_X0_riggerOf_2 m x1 f_2)) n ) 0 0 m q 38 [(0, .ref (g_ad X 0)), (1, .int x1), (2, .int (nI n))] [] := by
          refine r_iinc (lc' := [(2, .int (nI (n + 1))), (0, .ref (g_ad X 0)), (1, .int x1)]) O 2 dX0_riggerOf_38 rfl (nI_1 n) (hN 2 rfl) rfl ?_
          refine r_goto O 2 dX0_riggerOf_41 (by decide) ?_
          refine r_sub [1, 2, 0] rfl ?_
          exact ih_2 (n + 1) (by with_reducible omega)
        refine r_icmp_ne O 38 dX0_riggerOf_20 (by decide) (fun c_20 => ?_) (fun c_20 => ?_)
        · have e_20 : (m (58 + 9 * ((nI n).toNatClampNeg) + 2)).toInt = (2 : Int) := j_eqR c_20 rfl
          refine r_aload_n O 0 dX0_riggerOf_23 rfl rfl ?_
          refine r_get O FX0_27 G_0_2 dX0_riggerOf_24 ?_
          refine r_iload_n O 2 dX0_riggerOf_27 rfl rfl ?_
          have hv2 : vp_in (nI n) 6 := (show vp_in (nI n) 6 from g_vin (by with_reducible omega) (by with_reducible omega))
          have hv2c := g_cl hv2
          refine r_aald O hv2 dX0_riggerOf_28 ?_
          refine r_get O FX0_110 (G_h (h := ((nI n).toNatClampNeg)) (j := 1) hv2c (by decide)) dX0_riggerOf_29 ?_
          refine r_iload_n O 1 dX0_riggerOf_32 rfl rfl ?_
          refine r_icmp_ne O 38 dX0_riggerOf_33 (by decide) (fun c_33 => ?_) (fun c_33 => ?_)
          · have e_33 : (m (58 + 9 * ((nI n).toNatClampNeg) + 1)).toInt = (x1).toInt := j_eq c_33
            refine r_iload_n O 2 dX0_riggerOf_36 rfl rfl ?_
            exact r_iret O dX0_riggerOf_37 rfl (Nat.le_of_ble_eq_true rfl) (Nat.le_of_ble_eq_true rfl) rfl
          · have e_33 : (m (58 + 9 * ((nI n).toNatClampNeg) + 1)).toInt ≠ (x1).toInt := j_ne c_33
            exact J_38
        · have e_20 : (m (58 + 9 * ((nI n).toNatClampNeg) + 2)).toInt ≠ (2 : Int) := j_neR c_20 rfl
          exact J_38
  refine r_sub [1, 2, 0] rfl ?_
  exact L_2 7 0 (by with_reducible omega)
theorem met_X0_riggerOf (l : Launch) (hs : l.stackTraces = false) (q : g_q) (m : Nat → Int32) (x1 : Int32) (p0 : (m 2).toInt ≤ 6) : g_SM l yX0_riggerOf cX0_riggerOf 3 (some .int) ({ frames := 0, cells := 0, slots := 0, locals := 0 } : Room) (fun ad => [.ref (ad 0), .int x1]) m q ((fun r : Int32 => ((.inl (some (.int r)), (m, q)) : g_Res)) (R_X0_riggerOf m x1)) :=
  g_sm_of (by decide) (fun _ => Nat.le_of_ble_eq_true rfl) hs (fun X hl hn O => walk_X0_riggerOf O (by rw [hl]; exact hs) hn p0)
def R_X0_isInUse (m : Nat → Int32) (x1 : Int32) : Int32 := (if (R_X4_ropeOf m x1) = (-1) then (if (R_X0_riggerOf m x1) = (-1) then (if (R_X0_walkersThrough m x1) ≤ 0 then 0 else 1) else 1) else 1)
set_option maxRecDepth 100000 in
set_option maxHeartbeats 4000000 in
theorem walk_X0_isInUse {X : g_X} (O : g_ok X cX0_isInUse RX0 (some .boolean) ({ frames := 3, cells := 0, slots := 0, locals := 65 } : Room)) (hs : (g_xl X).stackTraces = false) (hn : g_xn X = 2) {q : g_q} {m : Nat → Int32} {x1 : Int32} (p0 : (m 0).toInt ≤ 7) (p1 : (m 2).toInt ≤ 6) : g_V X (fun r : Int32 => ((.inl (some (.int r)), (m, q)) : g_Res)) (R_X0_isInUse m x1) 0 0 m q 0 [(0, .ref (g_ad X 0)), (1, .int x1)] [] := by
  have hN : ∀ i, Nat.blt i 2 = true → i < g_xn X := fun i h => by rw [hn]; exact g_blt.mp h
  refine r_aload_n O 0 dX0_isInUse_0 rfl rfl ?_
  refine r_get O FX0_12 G_0_0 dX0_isInUse_1 ?_
  refine r_iload_n O 1 dX0_isInUse_4 rfl rfl ?_
  refine r_callVi O [.int x1] [] (met_X4_ropeOf (g_xl X) hs q m x1 (by first | decide | with_reducible assumption | with_reducible omega | (simp (disch := omega) only [g_upd_ne, g_upd_eq, fr_X4_fix, fr_X5_put, fr_X1_startAnew, fr_X1_walkTo, fr_X1_arrive, fr_X1_countBelow, fr_X3_set]; first | with_reducible assumption | with_reducible omega | decide) | exact Or.inl rfl | exact Or.inr rfl)) LX0_113 obj_1 rfl rfl rfl dX0_isInUse_5 rfl rfl ?_
  refine r_iconst (x := (-1)) O dX0_isInUse_8 rfl ?_
  refine r_icmp_ne O 29 dX0_isInUse_9 (by decide) (fun c_9 => ?_) (fun c_9 => ?_)
  · have e_9 : (R_X4_ropeOf m x1).toInt = (-1 : Int) := j_eqR c_9 rfl
    refine r_aload_n O 0 dX0_isInUse_12 rfl rfl ?_
    refine r_iload_n O 1 dX0_isInUse_13 rfl rfl ?_
    refine r_callVi O [.int x1] [] (met_X0_riggerOf (g_xl X) hs q m x1 (by first | decide | with_reducible assumption | with_reducible omega | (simp (disch := omega) only [g_upd_ne, g_upd_eq, fr_X4_fix, fr_X5_put, fr_X1_startAnew, fr_X1_walkTo, fr_X1_arrive, fr_X1_countBelow, fr_X3_set]; first | with_reducible assumption | with_reducible omega | decide) | exact Or.inl rfl | exact Or.inr rfl)) LX0_117 obj_0 rfl rfl rfl dX0_isInUse_14 rfl rfl ?_
    refine r_iconst (x := (-1)) O dX0_isInUse_17 rfl ?_
    refine r_icmp_ne O 29 dX0_isInUse_18 (by decide) (fun c_18 => ?_) (fun c_18 => ?_)
    · have e_18 : (R_X0_riggerOf m x1).toInt = (-1 : Int) := j_eqR c_18 rfl
      refine r_aload_n O 0 dX0_isInUse_21 rfl rfl ?_
      refine r_iload_n O 1 dX0_isInUse_22 rfl rfl ?_
      refine r_callVi O [.int x1] [] (met_X0_walkersThrough (g_xl X) hs q m x1 (by first | decide | with_reducible assumption | with_reducible omega | (simp (disch := omega) only [g_upd_ne, g_upd_eq, fr_X4_fix, fr_X5_put, fr_X1_startAnew, fr_X1_walkTo, fr_X1_arrive, fr_X1_countBelow, fr_X3_set]; first | with_reducible assumption | with_reducible omega | decide) | exact Or.inl rfl | exact Or.inr rfl)) LX0_120 obj_0 rfl rfl rfl dX0_isInUse_23 rfl rfl ?_
      refine r_if_le O 33 dX0_isInUse_26 (by decide) (fun c_26 => ?_) (fun c_26 => ?_)
      · have e_26 : (R_X0_walkersThrough m x1).toInt ≤ (0 : Int) := j_leR c_26 rfl
        refine r_iconst (x := 0) O dX0_isInUse_33 rfl ?_
        exact r_iret O dX0_isInUse_34 rfl (Nat.le_of_ble_eq_true rfl) (Nat.le_of_ble_eq_true rfl) rfl
      · have e_26 : (0 : Int) < (R_X0_walkersThrough m x1).toInt := j_nleR c_26 rfl
        refine r_iconst (x := 1) O dX0_isInUse_29 rfl ?_
        refine r_goto O 34 dX0_isInUse_30 (by decide) ?_
        exact r_iret O dX0_isInUse_34 rfl (Nat.le_of_ble_eq_true rfl) (Nat.le_of_ble_eq_true rfl) rfl
    · have e_18 : (R_X0_riggerOf m x1).toInt ≠ (-1 : Int) := j_neR c_18 rfl
      refine r_iconst (x := 1) O dX0_isInUse_29 rfl ?_
      refine r_goto O 34 dX0_isInUse_30 (by decide) ?_
      exact r_iret O dX0_isInUse_34 rfl (Nat.le_of_ble_eq_true rfl) (Nat.le_of_ble_eq_true rfl) rfl
  · have e_9 : (R_X4_ropeOf m x1).toInt ≠ (-1 : Int) := j_neR c_9 rfl
    refine r_iconst (x := 1) O dX0_isInUse_29 rfl ?_
    refine r_goto O 34 dX0_isInUse_30 (by decide) ?_
    exact r_iret O dX0_isInUse_34 rfl (Nat.le_of_ble_eq_true rfl) (Nat.le_of_ble_eq_true rfl) rfl
theorem met_X0_isInUse (l : Launch) (hs : l.stackTraces = false) (q : g_q) (m : Nat → Int32) (x1 : Int32) (p0 : (m 0).toInt ≤ 7) (p1 : (m 2).toInt ≤ 6) : g_SM l yX0_isInUse cX0_isInUse 2 (some .boolean) ({ frames := 3, cells := 0, slots := 0, locals := 65 } : Room) (fun ad => [.ref (ad 0), .int x1]) m q ((fun r : Int32 => ((.inl (some (.int r)), (m, q)) : g_Res)) (R_X0_isInUse m x1)) :=
  g_sm_of (by decide) (fun _ => Nat.le_of_ble_eq_true rfl) hs (fun X hl hn O => walk_X0_isInUse O (by rw [hl]; exact hs) hn p0 p1)
def R_X0_isInTime (m : Nat → Int32) (h : Nat) (x2 : Int32) (x3 : Int32) : Int32 := (if (m (58 + 9 * h + 0)) < (((m (58 + 9 * h + 7)) + x3) + (R_X4_wayUp m x2)) then 0 else 1)
set_option maxRecDepth 100000 in
set_option maxHeartbeats 4000000 in
theorem walk_X0_isInTime {X : g_X} (O : g_ok X cX0_isInTime RX0 (some .boolean) ({ frames := 1, cells := 0, slots := 0, locals := 23 } : Room)) (hs : (g_xl X).stackTraces = false) (hn : g_xn X = 4) {q : g_q} {m : Nat → Int32} {h : Nat} {x2 : Int32} {x3 : Int32} (p0 : h < 6) (p1 : (m 0).toInt ≤ 7) : g_V X (fun r : Int32 => ((.inl (some (.int r)), (m, q)) : g_Res)) (R_X0_isInTime m h x2 x3) 0 0 m q 0 [(0, .ref (g_ad X 0)), (1, .ref (g_ad X (10 + h))), (2, .int x2), (3, .int x3)] [] := by
  have hN : ∀ i, Nat.blt i 4 = true → i < g_xn X := fun i h => by rw [hn]; exact g_blt.mp h
  have hh := p0
  refine r_aload_n O 1 dX0_isInTime_0 rfl rfl ?_
  refine r_get O FX0_123 (G_h (h := h) (j := 7) hh (by decide)) dX0_isInTime_1 ?_
  refine r_iload_n O 3 dX0_isInTime_4 rfl rfl ?_
  refine r_iadd O dX0_isInTime_5 ?_
  refine r_aload_n O 0 dX0_isInTime_6 rfl rfl ?_
  refine r_get O FX0_12 G_0_0 dX0_isInTime_7 ?_
  refine r_iload_n O 2 dX0_isInTime_10 rfl rfl ?_
  refine r_callVi O [.int x2] [.int ((m (58 + 9 * h + 7)) + x3)] (met_X4_wayUp (g_xl X) hs q m x2 (by first | decide | with_reducible assumption | with_reducible omega | (simp (disch := omega) only [g_upd_ne, g_upd_eq, fr_X4_fix, fr_X5_put, fr_X1_startAnew, fr_X1_walkTo, fr_X1_arrive, fr_X1_countBelow, fr_X3_set]; first | with_reducible assumption | with_reducible omega | decide) | exact Or.inl rfl | exact Or.inr rfl)) LX0_126 obj_1 rfl rfl rfl dX0_isInTime_11 rfl rfl ?_
  refine r_iadd O dX0_isInTime_14 ?_
  refine r_aload_n O 1 dX0_isInTime_15 rfl rfl ?_
  refine r_get O FX0_129 (G_h (h := h) (j := 0) hh (by decide)) dX0_isInTime_16 ?_
  refine r_icmp_gt O 26 dX0_isInTime_19 (by decide) (fun c_19 => ?_) (fun c_19 => ?_)
  · have e_19 : (m (58 + 9 * h + 0)).toInt < (((m (58 + 9 * h + 7)) + x3) + (R_X4_wayUp m x2)).toInt := j_lt c_19
    refine r_iconst (x := 0) O dX0_isInTime_26 rfl ?_
    exact r_iret O dX0_isInTime_27 rfl (Nat.le_of_ble_eq_true rfl) (Nat.le_of_ble_eq_true rfl) rfl
  · have e_19 : (((m (58 + 9 * h + 7)) + x3) + (R_X4_wayUp m x2)).toInt ≤ (m (58 + 9 * h + 0)).toInt := j_nlt c_19
    refine r_iconst (x := 1) O dX0_isInTime_22 rfl ?_
    refine r_goto O 27 dX0_isInTime_23 (by decide) ?_
    exact r_iret O dX0_isInTime_27 rfl (Nat.le_of_ble_eq_true rfl) (Nat.le_of_ble_eq_true rfl) rfl
theorem met_X0_isInTime (l : Launch) (hs : l.stackTraces = false) (q : g_q) (m : Nat → Int32) (h : Nat) (x2 : Int32) (x3 : Int32) (p0 : h < 6) (p1 : (m 0).toInt ≤ 7) : g_SM l yX0_isInTime cX0_isInTime 4 (some .boolean) ({ frames := 1, cells := 0, slots := 0, locals := 23 } : Room) (fun ad => [.ref (ad 0), .ref (ad (10 + h)), .int x2, .int x3]) m q ((fun r : Int32 => ((.inl (some (.int r)), (m, q)) : g_Res)) (R_X0_isInTime m h x2 x3)) :=
  g_sm_of (by decide) (fun _ => Nat.le_of_ble_eq_true rfl) hs (fun X hl hn O => walk_X0_isInTime O (by rw [hl]; exact hs) hn p0 p1)
def R_X0_refusal_137 (m : Nat → Int32) (h : Nat) (x2 : Int32) (t0_69 : Int32) (t0_84 : Int32) (t0_137 : Int32) : Int32 := (if ((m (58 + 9 * h + 6)) + t0_137) ≤ 100 then (if t0_69 = 0 then (if (R_X0_isInTime m h x2 (R_X4_minutesOf m t0_84)) = 0 then 5 else 0) else 0) else 4)
def R_X0_refusal_135 (m : Nat → Int32) (h : Nat) (x2 : Int32) (t0_69 : Int32) (t0_84 : Int32) : Int32 := (R_X0_refusal_137 m h x2 t0_69 t0_84 (R_X4_minutesOf m t0_84))
def R_X0_refusal_84 (m : Nat → Int32) (h : Nat) (x2 : Int32) (t0_69 : Int32) (t0_84 : Int32) : Int32 := (if (R_X4_isOpen m t0_84) = 0 then 3 else (if t0_69 = 0 then (R_X0_refusal_135 m h x2 t0_69 t0_84 ) else (if (R_X4_isPitch m t0_84) = 0 then (R_X0_refusal_135 m h x2 t0_69 t0_84 ) else (R_X0_refusal_137 m h x2 t0_69 t0_84 (2 * (R_X4_minutesOf m t0_84))))))
def R_X0_refusal_69 (m : Nat → Int32) (h : Nat) (x2 : Int32) (t0_69 : Int32) : Int32 := (if t0_69 = 0 then (R_X0_refusal_84 m h x2 t0_69 (m (58 + 9 * h + 1))) else (R_X0_refusal_84 m h x2 t0_69 x2))
def R_X0_refusal_34 (m : Nat → Int32) (h : Nat) (x2 : Int32) (t0_34 : Int32) : Int32 := (if t0_34 = 0 then 2 else (if x2 < 0 then 2 else (if x2 ≤ (m 0) then (if (m (58 + 9 * h + 1)) ≤ x2 then (R_X0_refusal_69 m h x2 0) else (R_X0_refusal_69 m h x2 1)) else 2)))
def R_X0_refusal_29 (m : Nat → Int32) (h : Nat) (x2 : Int32) : Int32 := (R_X0_refusal_34 m h x2 1)
def R_X0_refusal (m : Nat → Int32) (h : Nat) (x2 : Int32) : Int32 := (if (m (58 + 9 * h + 2)) = 0 then (if x2 = ((m (58 + 9 * h + 1)) - 1) then (R_X0_refusal_29 m h x2 ) else (if x2 = ((m (58 + 9 * h + 1)) + 1) then (R_X0_refusal_29 m h x2 ) else (R_X0_refusal_34 m h x2 0))) else 1)
set_option maxRecDepth 100000 in
set_option maxHeartbeats 4000000 in
theorem walk_X0_refusal {X : g_X} (O : g_ok X cX0_refusal RX0 (some .int) ({ frames := 2, cells := 0, slots := 0, locals := 46 } : Room)) (hs : (g_xl X).stackTraces = false) (hn : g_xn X = 8) {q : g_q} {m : Nat → Int32} {h : Nat} {x2 : Int32} (p0 : h < 6) (p1 : (m 0).toInt ≤ 7) : g_V X (fun r : Int32 => ((.inl (some (.int r)), (m, q)) : g_Res)) (R_X0_refusal m h x2) 0 0 m q 0 [(0, .ref (g_ad X 0)), (1, .ref (g_ad X (10 + h))), (2, .int x2)] [] := by
  have hN : ∀ i, Nat.blt i 8 = true → i < g_xn X := fun i h => by rw [hn]; exact g_blt.mp h
  have hh := p0
  refine r_aload_n O 1 dX0_refusal_0 rfl rfl ?_
  refine r_get O FX0_103 (G_h (h := h) (j := 2) hh (by decide)) dX0_refusal_1 ?_
  refine r_if_eq O 9 dX0_refusal_4 (by decide) (fun c_4 => ?_) (fun c_4 => ?_)
  · have e_4 : (m (58 + 9 * h + 2)).toInt = (0 : Int) := j_eqR c_4 rfl
    refine r_iload_n O 2 dX0_refusal_9 rfl rfl ?_
    refine r_aload_n O 1 dX0_refusal_10 rfl rfl ?_
    refine r_get O FX0_110 (G_h (h := h) (j := 1) hh (by decide)) dX0_refusal_11 ?_
    refine r_iconst (x := 1) O dX0_refusal_14 rfl ?_
    refine r_isub O dX0_refusal_15 ?_
    have J_34 : ∀ (t0_34 : Int32), g_V X (fun r : Int32 => ((.inl (some (.int r)), (m, q)) : g_Res)) (R_X0_refusal_34 m h x2 t0_34) 0 0 m q 34 [(0, .ref (g_ad X 0)), (1, .ref (g_ad X (10 + h))), (2, .int x2)] [.int t0_34] := by
      intro t0_34
      refine r_istore_n (lc' := [(3, .int t0_34), (0, .ref (g_ad X 0)), (1, .ref (g_ad X (10 + h))), (2, .int x2)]) O dX0_refusal_34 rfl (hN 3 rfl) rfl ?_
      refine r_iload_n O 0 dX0_refusal_35 rfl rfl ?_
      refine r_if_eq O 54 dX0_refusal_36 (by decide) (fun c_36 => ?_) (fun c_36 => ?_)
      · have e_36 : (t0_34).toInt = (0 : Int) := j_eqR c_36 rfl
        refine r_iconst (x := 2) O dX0_refusal_54 rfl ?_
        exact r_iret O dX0_refusal_55 rfl (Nat.le_of_ble_eq_true rfl) (Nat.le_of_ble_eq_true rfl) rfl
      · have e_36 : (t0_34).toInt ≠ (0 : Int) := j_neR c_36 rfl
        refine r_iload_n O 3 dX0_refusal_39 rfl rfl ?_
        refine r_if_lt O 54 dX0_refusal_40 (by decide) (fun c_40 => ?_) (fun c_40 => ?_)
        · have e_40 : (x2).toInt < (0 : Int) := j_ltR c_40 rfl
          refine r_iconst (x := 2) O dX0_refusal_54 rfl ?_
          exact r_iret O dX0_refusal_55 rfl (Nat.le_of_ble_eq_true rfl) (Nat.le_of_ble_eq_true rfl) rfl
        · have e_40 : (0 : Int) ≤ (x2).toInt := j_nltR c_40 rfl
          refine r_iload_n O 3 dX0_refusal_43 rfl rfl ?_
          refine r_aload_n O 1 dX0_refusal_44 rfl rfl ?_
          refine r_get O FX0_12 G_0_0 dX0_refusal_45 ?_
          refine r_get O FX0_132 G_1_3 dX0_refusal_48 ?_
          refine r_icmp_le O 56 dX0_refusal_51 (by decide) (fun c_51 => ?_) (fun c_51 => ?_)
          · have e_51 : (x2).toInt ≤ (m 0).toInt := j_le c_51
            refine r_iload_n O 3 dX0_refusal_56 rfl rfl ?_
            refine r_aload_n O 2 dX0_refusal_57 rfl rfl ?_
            refine r_get O FX0_110 (G_h (h := h) (j := 1) hh (by decide)) dX0_refusal_58 ?_
            have J_69 : ∀ (t0_69 : Int32), g_V X (fun r : Int32 => ((.inl (some (.int r)), (m, q)) : g_Res)) (R_X0_refusal_69 m h x2 t0_69) 0 0 m q 69 [(0, .ref (g_ad X 0)), (1, .ref (g_ad X (10 + h))), (2, .int x2)] [.int t0_69] := by
              intro t0_69
              refine r_istore (lc' := [(4, .int t0_69), (0, .ref (g_ad X 0)), (1, .ref (g_ad X (10 + h))), (2, .int x2)]) O dX0_refusal_69 (hN 4 rfl) rfl ?_
              refine r_iload O 0 dX0_refusal_71 rfl ?_
              have J_84 : ∀ (t0_84 : Int32), g_V X (fun r : Int32 => ((.inl (some (.int r)), (m, q)) : g_Res)) (R_X0_refusal_84 m h x2 t0_69 t0_84) 0 0 m q 84 [(0, .ref (g_ad X 0)), (1, .ref (g_ad X (10 + h))), (2, .int x2), (4, .int t0_69)] [.int t0_84] := by
                intro t0_84
                refine r_istore (lc' := [(5, .int t0_84), (0, .ref (g_ad X 0)), (1, .ref (g_ad X (10 + h))), (2, .int x2), (4, .int t0_69)]) O dX0_refusal_84 (hN 5 rfl) rfl ?_
                refine r_aload_n O 1 dX0_refusal_86 rfl rfl ?_
                refine r_get O FX0_12 G_0_0 dX0_refusal_87 ?_
                refine r_iload O 0 dX0_refusal_90 rfl ?_
                refine r_callVi O [.int t0_84] [] (met_X4_isOpen (g_xl X) hs q m t0_84 (by first | decide | with_reducible assumption | with_reducible omega | (simp (disch := omega) only [g_upd_ne, g_upd_eq, fr_X4_fix, fr_X5_put, fr_X1_startAnew, fr_X1_walkTo, fr_X1_arrive, fr_X1_countBelow, fr_X3_set]; first | with_reducible assumption | with_reducible omega | decide) | exact Or.inl rfl | exact Or.inr rfl)) LX0_133 obj_1 rfl rfl rfl dX0_refusal_92 rfl rfl ?_
                refine r_if_ne O 100 dX0_refusal_95 (by decide) (fun c_95 => ?_) (fun c_95 => ?_)
                · have e_95 : (R_X4_isOpen m t0_84).toInt = (0 : Int) := j_eqR c_95 rfl
                  refine r_iconst (x := 3) O dX0_refusal_98 rfl ?_
                  exact r_iret O dX0_refusal_99 rfl (Nat.le_of_ble_eq_true rfl) (Nat.le_of_ble_eq_true rfl) rfl
                · have e_95 : (R_X4_isOpen m t0_84).toInt ≠ (0 : Int) := j_neR c_95 rfl
                  refine r_aload_n O 1 dX0_refusal_100 rfl rfl ?_
                  refine r_get O FX0_12 G_0_0 dX0_refusal_101 ?_
                  refine r_iload O 0 dX0_refusal_104 rfl ?_
                  refine r_callVi O [.int t0_84] [] (met_X4_minutesOf (g_xl X) hs q m t0_84 (by first | decide | with_reducible assumption | with_reducible omega | (simp (disch := omega) only [g_upd_ne, g_upd_eq, fr_X4_fix, fr_X5_put, fr_X1_startAnew, fr_X1_walkTo, fr_X1_arrive, fr_X1_countBelow, fr_X3_set]; first | with_reducible assumption | with_reducible omega | decide) | exact Or.inl rfl | exact Or.inr rfl)) LX0_136 obj_1 rfl rfl rfl dX0_refusal_106 rfl rfl ?_
                  refine r_istore (lc' := [(6, .int (R_X4_minutesOf m t0_84)), (5, .int t0_84), (0, .ref (g_ad X 0)), (1, .ref (g_ad X (10 + h))), (2, .int x2), (4, .int t0_69)]) O dX0_refusal_109 (hN 6 rfl) rfl ?_
                  refine r_iload O 5 dX0_refusal_111 rfl ?_
                  have J_137 : ∀ (t0_137 : Int32), g_V X (fun r : Int32 => ((.inl (some (.int r)), (m, q)) : g_Res)) (R_X0_refusal_137 m h x2 t0_69 t0_84 t0_137) 0 0 m q 137 [(0, .ref (g_ad X 0)), (1, .ref (g_ad X (10 + h))), (2, .int x2), (4, .int t0_69), (6, .int (R_X4_minutesOf m t0_84))] [.int t0_137] := by
                    intro t0_137
                    refine r_istore (lc' := [(7, .int t0_137), (0, .ref (g_ad X 0)), (1, .ref (g_ad X (10 + h))), (2, .int x2), (4, .int t0_69), (6, .int (R_X4_minutesOf m t0_84))]) O dX0_refusal_137 (hN 7 rfl) rfl ?_
                    refine r_aload_n O 2 dX0_refusal_139 rfl rfl ?_
                    refine r_get O FX0_142 (G_h (h := h) (j := 6) hh (by decide)) dX0_refusal_140 ?_
                    refine r_iload O 0 dX0_refusal_143 rfl ?_
                    refine r_iadd O dX0_refusal_145 ?_
                    refine r_bipush (x := 100) O dX0_refusal_146 rfl ?_
                    refine r_icmp_le O 153 dX0_refusal_148 (by decide) (fun c_148 => ?_) (fun c_148 => ?_)
                    · have e_148 : ((m (58 + 9 * h + 6)) + t0_137).toInt ≤ (100 : Int) := j_leR c_148 rfl
                      refine r_iload O 4 dX0_refusal_153 rfl ?_
                      refine r_if_ne O 169 dX0_refusal_155 (by decide) (fun c_155 => ?_) (fun c_155 => ?_)
                      · have e_155 : (t0_69).toInt = (0 : Int) := j_eqR c_155 rfl
                        refine r_aload_n O 1 dX0_refusal_158 rfl rfl ?_
                        refine r_aload_n O 2 dX0_refusal_159 rfl rfl ?_
                        refine r_iload_n O 3 dX0_refusal_160 rfl rfl ?_
                        refine r_iload O 5 dX0_refusal_161 rfl ?_
                        refine r_callVi O [.ref (g_ad X (10 + h)), .int x2, .int (R_X4_minutesOf m t0_84)] [] (met_X0_isInTime (g_xl X) hs q m h x2 (R_X4_minutesOf m t0_84) hh (by first | decide | with_reducible assumption | with_reducible omega | (simp (disch := omega) only [g_upd_ne, g_upd_eq, fr_X4_fix, fr_X5_put, fr_X1_startAnew, fr_X1_walkTo, fr_X1_arrive, fr_X1_countBelow, fr_X3_set]; first | with_reducible assumption | with_reducible omega | decide) | exact Or.inl rfl | exact Or.inr rfl)) LX0_145 obj_0 rfl rfl rfl dX0_refusal_163 rfl rfl ?_
                        refine r_if_eq O 173 dX0_refusal_166 (by decide) (fun c_166 => ?_) (fun c_166 => ?_)
                        · have e_166 : (R_X0_isInTime m h x2 (R_X4_minutesOf m t0_84)).toInt = (0 : Int) := j_eqR c_166 rfl
                          refine r_iconst (x := 5) O dX0_refusal_173 rfl ?_
                          exact r_iret O dX0_refusal_174 rfl (Nat.le_of_ble_eq_true rfl) (Nat.le_of_ble_eq_true rfl) rfl
                        · have e_166 : (R_X0_isInTime m h x2 (R_X4_minutesOf m t0_84)).toInt ≠ (0 : Int) := j_neR c_166 rfl
                          refine r_iconst (x := 0) O dX0_refusal_169 rfl ?_
                          refine r_goto O 174 dX0_refusal_170 (by decide) ?_
                          exact r_iret O dX0_refusal_174 rfl (Nat.le_of_ble_eq_true rfl) (Nat.le_of_ble_eq_true rfl) rfl
                      · have e_155 : (t0_69).toInt ≠ (0 : Int) := j_neR c_155 rfl
                        refine r_iconst (x := 0) O dX0_refusal_169 rfl ?_
                        refine r_goto O 174 dX0_refusal_170 (by decide) ?_
                        exact r_iret O dX0_refusal_174 rfl (Nat.le_of_ble_eq_true rfl) (Nat.le_of_ble_eq_true rfl) rfl
                    · have e_148 : (100 : Int) < ((m (58 + 9 * h + 6)) + t0_137).toInt := j_nleR c_148 rfl
                      refine r_iconst (x := 4) O dX0_refusal_151 rfl ?_
                      exact r_iret O dX0_refusal_152 rfl (Nat.le_of_ble_eq_true rfl) (Nat.le_of_ble_eq_true rfl) rfl
                  have J_135 : g_V X (fun r : Int32 => ((.inl (some (.int r)), (m, q)) : g_Res)) (R_X0_refusal_135 m h x2 t0_69 t0_84 ) 0 0 m q 135 [(0, .ref (g_ad X 0)), (1, .ref (g_ad X (10 + h))), (2, .int x2), (4, .int t0_69), (6, .int (R_X4_minutesOf m t0_84))] [] := by
                    refine r_iload O 4 dX0_refusal_135 rfl ?_
                    exact J_137 (R_X4_minutesOf m t0_84)
                  refine r_if_eq O 135 dX0_refusal_113 (by decide) (fun c_113 => ?_) (fun c_113 => ?_)
                  · have e_113 : (t0_69).toInt = (0 : Int) := j_eqR c_113 rfl
                    refine r_sub [2, 3, 4, 5, 0] rfl ?_
                    exact J_135
                  · have e_113 : (t0_69).toInt ≠ (0 : Int) := j_neR c_113 rfl
                    refine r_aload_n O 2 dX0_refusal_116 rfl rfl ?_
                    refine r_get O FX0_12 G_0_0 dX0_refusal_117 ?_
                    refine r_iload O 1 dX0_refusal_120 rfl ?_
                    refine r_callVi O [.int t0_84] [] (met_X4_isPitch (g_xl X) hs q m t0_84 (by first | decide | with_reducible assumption | with_reducible omega | (simp (disch := omega) only [g_upd_ne, g_upd_eq, fr_X4_fix, fr_X5_put, fr_X1_startAnew, fr_X1_walkTo, fr_X1_arrive, fr_X1_countBelow, fr_X3_set]; first | with_reducible assumption | with_reducible omega | decide) | exact Or.inl rfl | exact Or.inr rfl)) LX0_139 obj_1 rfl rfl rfl dX0_refusal_122 rfl rfl ?_
                    refine r_if_eq O 135 dX0_refusal_125 (by decide) (fun c_125 => ?_) (fun c_125 => ?_)
                    · have e_125 : (R_X4_isPitch m t0_84).toInt = (0 : Int) := j_eqR c_125 rfl
                      refine r_sub [2, 3, 4, 5, 0] rfl ?_
                      exact J_135
                    · have e_125 : (R_X4_isPitch m t0_84).toInt ≠ (0 : Int) := j_neR c_125 rfl
                      refine r_iconst (x := 2) O dX0_refusal_128 rfl ?_
                      refine r_iload O 0 dX0_refusal_129 rfl ?_
                      refine r_imul O dX0_refusal_131 ?_
                      refine r_goto O 137 dX0_refusal_132 (by decide) ?_
                      refine r_sub [2, 3, 4, 5, 0] rfl ?_
                      exact J_137 (2 * (R_X4_minutesOf m t0_84))
              refine r_if_eq O 80 dX0_refusal_73 (by decide) (fun c_73 => ?_) (fun c_73 => ?_)
              · have e_73 : (t0_69).toInt = (0 : Int) := j_eqR c_73 rfl
                refine r_aload_n O 2 dX0_refusal_80 rfl rfl ?_
                refine r_get O FX0_110 (G_h (h := h) (j := 1) hh (by decide)) dX0_refusal_81 ?_
                refine r_sub [1, 2, 3, 0] rfl ?_
                exact J_84 (m (58 + 9 * h + 1))
              · have e_73 : (t0_69).toInt ≠ (0 : Int) := j_neR c_73 rfl
                refine r_iload_n O 3 dX0_refusal_76 rfl rfl ?_
                refine r_goto O 84 dX0_refusal_77 (by decide) ?_
                refine r_sub [1, 2, 3, 0] rfl ?_
                exact J_84 x2
            refine r_icmp_ge O 68 dX0_refusal_61 (by decide) (fun c_61 => ?_) (fun c_61 => ?_)
            · have e_61 : (m (58 + 9 * h + 1)).toInt ≤ (x2).toInt := j_le c_61
              refine r_iconst (x := 0) O dX0_refusal_68 rfl ?_
              refine r_sub [1, 2, 3] rfl ?_
              exact J_69 0
            · have e_61 : (x2).toInt < (m (58 + 9 * h + 1)).toInt := j_nle c_61
              refine r_iconst (x := 1) O dX0_refusal_64 rfl ?_
              refine r_goto O 69 dX0_refusal_65 (by decide) ?_
              refine r_sub [1, 2, 3] rfl ?_
              exact J_69 1
          · have e_51 : (m 0).toInt < (x2).toInt := j_nle c_51
            refine r_iconst (x := 2) O dX0_refusal_54 rfl ?_
            exact r_iret O dX0_refusal_55 rfl (Nat.le_of_ble_eq_true rfl) (Nat.le_of_ble_eq_true rfl) rfl
    have J_29 : g_V X (fun r : Int32 => ((.inl (some (.int r)), (m, q)) : g_Res)) (R_X0_refusal_29 m h x2 ) 0 0 m q 29 [(0, .ref (g_ad X 0)), (1, .ref (g_ad X (10 + h))), (2, .int x2)] [] := by
      refine r_iconst (x := 1) O dX0_refusal_29 rfl ?_
      refine r_goto O 34 dX0_refusal_30 (by decide) ?_
      exact J_34 1
    refine r_icmp_eq O 29 dX0_refusal_16 (by decide) (fun c_16 => ?_) (fun c_16 => ?_)
    · have e_16 : (x2).toInt = ((m (58 + 9 * h + 1)) - 1).toInt := j_eq c_16
      exact J_29
    · have e_16 : (x2).toInt ≠ ((m (58 + 9 * h + 1)) - 1).toInt := j_ne c_16
      refine r_iload_n O 2 dX0_refusal_19 rfl rfl ?_
      refine r_aload_n O 1 dX0_refusal_20 rfl rfl ?_
      refine r_get O FX0_110 (G_h (h := h) (j := 1) hh (by decide)) dX0_refusal_21 ?_
      refine r_iconst (x := 1) O dX0_refusal_24 rfl ?_
      refine r_iadd O dX0_refusal_25 ?_
      refine r_icmp_ne O 33 dX0_refusal_26 (by decide) (fun c_26 => ?_) (fun c_26 => ?_)
      · have e_26 : (x2).toInt = ((m (58 + 9 * h + 1)) + 1).toInt := j_eq c_26
        exact J_29
      · have e_26 : (x2).toInt ≠ ((m (58 + 9 * h + 1)) + 1).toInt := j_ne c_26
        refine r_iconst (x := 0) O dX0_refusal_33 rfl ?_
        exact J_34 0
  · have e_4 : (m (58 + 9 * h + 2)).toInt ≠ (0 : Int) := j_neR c_4 rfl
    refine r_iconst (x := 1) O dX0_refusal_7 rfl ?_
    exact r_iret O dX0_refusal_8 rfl (Nat.le_of_ble_eq_true rfl) (Nat.le_of_ble_eq_true rfl) rfl
theorem met_X0_refusal (l : Launch) (hs : l.stackTraces = false) (q : g_q) (m : Nat → Int32) (h : Nat) (x2 : Int32) (p0 : h < 6) (p1 : (m 0).toInt ≤ 7) : g_SM l yX0_refusal cX0_refusal 8 (some .int) ({ frames := 2, cells := 0, slots := 0, locals := 46 } : Room) (fun ad => [.ref (ad 0), .ref (ad (10 + h)), .int x2]) m q ((fun r : Int32 => ((.inl (some (.int r)), (m, q)) : g_Res)) (R_X0_refusal m h x2)) :=
  g_sm_of (by decide) (fun _ => Nat.le_of_ble_eq_true rfl) hs (fun X hl hn O => walk_X0_refusal O (by rw [hl]; exact hs) hn p0 p1)
def R_X0_canWalk (m : Nat → Int32) (x1 : Int32) (x2 : Int32) : Int32 := (if (R_X0_isStanding m x1) = 0 then 0 else (if (R_X0_refusal m x1.toNatClampNeg x2) = 0 then 1 else 0))
set_option maxRecDepth 100000 in
set_option maxHeartbeats 4000000 in
theorem walk_X0_canWalk {X : g_X} (O : g_ok X cX0_canWalk RX0 (some .boolean) ({ frames := 3, cells := 0, slots := 0, locals := 73 } : Room)) (hs : (g_xl X).stackTraces = false) (hn : g_xn X = 3) {q : g_q} {m : Nat → Int32} {x1 : Int32} {x2 : Int32} (p0 : (m 0).toInt ≤ 7) (p1 : (m 2).toInt ≤ 6) : g_V X (fun r : Int32 => ((.inl (some (.int r)), (m, q)) : g_Res)) (R_X0_canWalk m x1 x2) 0 0 m q 0 [(0, .ref (g_ad X 0)), (1, .int x1), (2, .int x2)] [] := by
  have hN : ∀ i, Nat.blt i 3 = true → i < g_xn X := fun i h => by rw [hn]; exact g_blt.mp h
  refine r_aload_n O 0 dX0_canWalk_0 rfl rfl ?_
  refine r_iload_n O 1 dX0_canWalk_1 rfl rfl ?_
  refine r_callVi O [.int x1] [] (met_X0_isStanding (g_xl X) hs q m x1 (by first | decide | with_reducible assumption | with_reducible omega | (simp (disch := omega) only [g_upd_ne, g_upd_eq, fr_X4_fix, fr_X5_put, fr_X1_startAnew, fr_X1_walkTo, fr_X1_arrive, fr_X1_countBelow, fr_X3_set]; first | with_reducible assumption | with_reducible omega | decide) | exact Or.inl rfl | exact Or.inr rfl)) LX0_149 obj_0 rfl rfl rfl dX0_canWalk_2 rfl rfl ?_
  refine r_if_eq O 26 dX0_canWalk_5 (by decide) (fun c_5 => ?_) (fun c_5 => ?_)
  · have e_5 : (R_X0_isStanding m x1).toInt = (0 : Int) := j_eqR c_5 rfl
    refine r_iconst (x := 0) O dX0_canWalk_26 rfl ?_
    exact r_iret O dX0_canWalk_27 rfl (Nat.le_of_ble_eq_true rfl) (Nat.le_of_ble_eq_true rfl) rfl
  · have e_5 : (R_X0_isStanding m x1).toInt ≠ (0 : Int) := j_neR c_5 rfl
    obtain ⟨z_5a, z_5b⟩ := nz_X0_isStanding c_5
    refine r_aload_n O 0 dX0_canWalk_8 rfl rfl ?_
    refine r_aload_n O 0 dX0_canWalk_9 rfl rfl ?_
    refine r_get O FX0_27 G_0_2 dX0_canWalk_10 ?_
    refine r_iload_n O 1 dX0_canWalk_13 rfl rfl ?_
    have hv1 : vp_in x1 6 := (show vp_in x1 6 from g_vin (by with_reducible omega) (by with_reducible omega))
    have hv1c := g_cl hv1
    refine r_aald O hv1 dX0_canWalk_14 ?_
    refine r_iload_n O 2 dX0_canWalk_15 rfl rfl ?_
    refine r_callVi O [.ref (g_ad X (10 + x1.toNatClampNeg)), .int x2] [] (met_X0_refusal (g_xl X) hs q m x1.toNatClampNeg x2 hv1c (by first | decide | with_reducible assumption | with_reducible omega | (simp (disch := omega) only [g_upd_ne, g_upd_eq, fr_X4_fix, fr_X5_put, fr_X1_startAnew, fr_X1_walkTo, fr_X1_arrive, fr_X1_countBelow, fr_X3_set]; first | with_reducible assumption | with_reducible omega | decide) | exact Or.inl rfl | exact Or.inr rfl)) LX0_152 obj_0 rfl rfl rfl dX0_canWalk_16 rfl rfl ?_
    refine r_if_ne O 26 dX0_canWalk_19 (by decide) (fun c_19 => ?_) (fun c_19 => ?_)
    · have e_19 : (R_X0_refusal m x1.toNatClampNeg x2).toInt = (0 : Int) := j_eqR c_19 rfl
      refine r_iconst (x := 1) O dX0_canWalk_22 rfl ?_
      refine r_goto O 27 dX0_canWalk_23 (by decide) ?_
      exact r_iret O dX0_canWalk_27 rfl (Nat.le_of_ble_eq_true rfl) (Nat.le_of_ble_eq_true rfl) rfl
    · have e_19 : (R_X0_refusal m x1.toNatClampNeg x2).toInt ≠ (0 : Int) := j_neR c_19 rfl
      refine r_iconst (x := 0) O dX0_canWalk_26 rfl ?_
      exact r_iret O dX0_canWalk_27 rfl (Nat.le_of_ble_eq_true rfl) (Nat.le_of_ble_eq_true rfl) rfl
theorem met_X0_canWalk (l : Launch) (hs : l.stackTraces = false) (q : g_q) (m : Nat → Int32) (x1 : Int32) (x2 : Int32) (p0 : (m 0).toInt ≤ 7) (p1 : (m 2).toInt ≤ 6) : g_SM l yX0_canWalk cX0_canWalk 3 (some .boolean) ({ frames := 3, cells := 0, slots := 0, locals := 73 } : Room) (fun ad => [.ref (ad 0), .int x1, .int x2]) m q ((fun r : Int32 => ((.inl (some (.int r)), (m, q)) : g_Res)) (R_X0_canWalk m x1 x2)) :=
  g_sm_of (by decide) (fun _ => Nat.le_of_ble_eq_true rfl) hs (fun X hl hn O => walk_X0_canWalk O (by rw [hl]; exact hs) hn p0 p1)
def R_X0_startWalk (m : Nat → Int32) (x1 : Int32) (x2 : Int32) : (Int32 × (Nat → Int32)) := ((R_X4_minutesOf m (g_min (m (58 + 9 * x1.toNatClampNeg + 1)) x2)), (R_X1_walkTo m x1.toNatClampNeg x2 (R_X4_minutesOf m (g_min (m (58 + 9 * x1.toNatClampNeg + 1)) x2))))
set_option maxRecDepth 100000 in
set_option maxHeartbeats 4000000 in
theorem walk_X0_startWalk {X : g_X} (O : g_ok X cX0_startWalk RX0 (some .int) ({ frames := 2, cells := 0, slots := 0, locals := 42 } : Room)) (hs : (g_xl X).stackTraces = false) (hn : g_xn X = 5) {q : g_q} {m : Nat → Int32} {x1 : Int32} {x2 : Int32} (p0 : 0 ≤ x1.toInt) (p1 : x1.toInt < 6) (p2 : (m 0).toInt ≤ 7) : g_V X (fun r : Int32 × (Nat → Int32) => ((.inl (some (.int r.1)), (r.2, q)) : g_Res)) (R_X0_startWalk m x1 x2) 0 0 m q 0 [(0, .ref (g_ad X 0)), (1, .int x1), (2, .int x2)] [] := by
  have hN : ∀ i, Nat.blt i 5 = true → i < g_xn X := fun i h => by rw [hn]; exact g_blt.mp h
  refine r_aload_n O 0 dX0_startWalk_0 rfl rfl ?_
  refine r_get O FX0_27 G_0_2 dX0_startWalk_1 ?_
  refine r_iload_n O 1 dX0_startWalk_4 rfl rfl ?_
  have hv1 : vp_in x1 6 := (show vp_in x1 6 from g_vin (by with_reducible omega) (by with_reducible omega))
  have hv1c := g_cl hv1
  refine r_aald O hv1 dX0_startWalk_5 ?_
  refine r_astore_n (lc' := [(3, .ref (g_ad X (10 + x1.toNatClampNeg))), (0, .ref (g_ad X 0)), (1, .int x1), (2, .int x2)]) O dX0_startWalk_6 rfl (hN 3 rfl) rfl ?_
  refine r_aload_n O 1 dX0_startWalk_7 rfl rfl ?_
  refine r_get O FX0_12 G_0_0 dX0_startWalk_8 ?_
  refine r_aload_n O 0 dX0_startWalk_11 rfl rfl ?_
  refine r_get O FX0_110 (G_h (h := x1.toNatClampNeg) (j := 1) hv1c (by decide)) dX0_startWalk_12 ?_
  refine r_iload_n O 3 dX0_startWalk_15 rfl rfl ?_
  refine r_mmin O [.ref (g_ad X 1)] w_mmin_X0_156 dX0_startWalk_16 rfl ?_
  refine r_callVi O [.int (g_min (m (58 + 9 * x1.toNatClampNeg + 1)) x2)] [] (met_X4_minutesOf (g_xl X) hs q m (g_min (m (58 + 9 * x1.toNatClampNeg + 1)) x2) (by first | decide | with_reducible assumption | with_reducible omega | (simp (disch := omega) only [g_upd_ne, g_upd_eq, fr_X4_fix, fr_X5_put, fr_X1_startAnew, fr_X1_walkTo, fr_X1_arrive, fr_X1_countBelow, fr_X3_set]; first | with_reducible assumption | with_reducible omega | decide) | exact Or.inl rfl | exact Or.inr rfl)) LX0_136 obj_1 rfl rfl rfl dX0_startWalk_19 rfl rfl ?_
  refine r_istore (lc' := [(4, .int (R_X4_minutesOf m (g_min (m (58 + 9 * x1.toNatClampNeg + 1)) x2))), (3, .ref (g_ad X (10 + x1.toNatClampNeg))), (0, .ref (g_ad X 0)), (1, .int x1), (2, .int x2)]) O dX0_startWalk_22 (hN 4 rfl) rfl ?_
  refine r_aload_n O 1 dX0_startWalk_24 rfl rfl ?_
  refine r_iload_n O 4 dX0_startWalk_25 rfl rfl ?_
  refine r_iload O 0 dX0_startWalk_26 rfl ?_
  refine r_callVv O [.int x2, .int (R_X4_minutesOf m (g_min (m (58 + 9 * x1.toNatClampNeg + 1)) x2))] [] (met_X1_walkTo (g_xl X) hs q m x1.toNatClampNeg x2 (R_X4_minutesOf m (g_min (m (58 + 9 * x1.toNatClampNeg + 1)) x2)) hv1c) LX0_162 (obj_h hv1c) rfl rfl rfl dX0_startWalk_28 rfl rfl ?_
  refine r_iload O 0 dX0_startWalk_31 rfl ?_
  exact r_iret O dX0_startWalk_33 rfl (Nat.le_of_ble_eq_true rfl) (Nat.le_of_ble_eq_true rfl) rfl
theorem met_X0_startWalk (l : Launch) (hs : l.stackTraces = false) (q : g_q) (m : Nat → Int32) (x1 : Int32) (x2 : Int32) (p0 : 0 ≤ x1.toInt) (p1 : x1.toInt < 6) (p2 : (m 0).toInt ≤ 7) : g_SM l yX0_startWalk cX0_startWalk 5 (some .int) ({ frames := 2, cells := 0, slots := 0, locals := 42 } : Room) (fun ad => [.ref (ad 0), .int x1, .int x2]) m q ((fun r : Int32 × (Nat → Int32) => ((.inl (some (.int r.1)), (r.2, q)) : g_Res)) (R_X0_startWalk m x1 x2)) :=
  g_sm_of (by decide) (fun _ => Nat.le_of_ble_eq_true rfl) hs (fun X hl hn O => walk_X0_startWalk O (by rw [hl]; exact hs) hn p0 p1 p2)
theorem fr_X0_startWalk {m : Nat → Int32} {a b : Int32} {n : Nat} (hn : n < 58) : (R_X0_startWalk m a b).2 n = m n := by
  unfold R_X0_startWalk
  simp (disch := omega) only [fr_X1_walkTo]
def R_X0_canTake (m : Nat → Int32) (x1 : Int32) (x2 : Int32) : Int32 := (if (R_X0_isStanding m x1) = 0 then 0 else (if (m (58 + 9 * x1.toNatClampNeg + 5)) = (-1) then (if (R_X5_liesAt m x2 (m (58 + 9 * x1.toNatClampNeg + 1))) = 0 then 0 else 1) else 0))
set_option maxRecDepth 100000 in
set_option maxHeartbeats 4000000 in
theorem walk_X0_canTake {X : g_X} (O : g_ok X cX0_canTake RX0 (some .boolean) ({ frames := 2, cells := 0, slots := 0, locals := 43 } : Room)) (hs : (g_xl X).stackTraces = false) (hn : g_xn X = 3) {q : g_q} {m : Nat → Int32} {x1 : Int32} {x2 : Int32} (p0 : (m 2).toInt ≤ 6) (p1 : (m 1).toInt ≤ 8) : g_V X (fun r : Int32 => ((.inl (some (.int r)), (m, q)) : g_Res)) (R_X0_canTake m x1 x2) 0 0 m q 0 [(0, .ref (g_ad X 0)), (1, .int x1), (2, .int x2)] [] := by
  have hN : ∀ i, Nat.blt i 3 = true → i < g_xn X := fun i h => by rw [hn]; exact g_blt.mp h
  refine r_aload_n O 0 dX0_canTake_0 rfl rfl ?_
  refine r_iload_n O 1 dX0_canTake_1 rfl rfl ?_
  refine r_callVi O [.int x1] [] (met_X0_isStanding (g_xl X) hs q m x1 (by first | decide | with_reducible assumption | with_reducible omega | (simp (disch := omega) only [g_upd_ne, g_upd_eq, fr_X4_fix, fr_X5_put, fr_X1_startAnew, fr_X1_walkTo, fr_X1_arrive, fr_X1_countBelow, fr_X3_set]; first | with_reducible assumption | with_reducible omega | decide) | exact Or.inl rfl | exact Or.inr rfl)) LX0_149 obj_0 rfl rfl rfl dX0_canTake_2 rfl rfl ?_
  refine r_if_eq O 45 dX0_canTake_5 (by decide) (fun c_5 => ?_) (fun c_5 => ?_)
  · have e_5 : (R_X0_isStanding m x1).toInt = (0 : Int) := j_eqR c_5 rfl
    refine r_iconst (x := 0) O dX0_canTake_45 rfl ?_
    exact r_iret O dX0_canTake_46 rfl (Nat.le_of_ble_eq_true rfl) (Nat.le_of_ble_eq_true rfl) rfl
  · have e_5 : (R_X0_isStanding m x1).toInt ≠ (0 : Int) := j_neR c_5 rfl
    obtain ⟨z_5a, z_5b⟩ := nz_X0_isStanding c_5
    refine r_aload_n O 0 dX0_canTake_8 rfl rfl ?_
    refine r_get O FX0_27 G_0_2 dX0_canTake_9 ?_
    refine r_iload_n O 1 dX0_canTake_12 rfl rfl ?_
    have hv1 : vp_in x1 6 := (show vp_in x1 6 from g_vin (by with_reducible omega) (by with_reducible omega))
    have hv1c := g_cl hv1
    refine r_aald O hv1 dX0_canTake_13 ?_
    refine r_get O FX0_166 (G_h (h := x1.toNatClampNeg) (j := 5) hv1c (by decide)) dX0_canTake_14 ?_
    refine r_iconst (x := (-1)) O dX0_canTake_17 rfl ?_
    refine r_icmp_ne O 45 dX0_canTake_18 (by decide) (fun c_18 => ?_) (fun c_18 => ?_)
    · have e_18 : (m (58 + 9 * x1.toNatClampNeg + 5)).toInt = (-1 : Int) := j_eqR c_18 rfl
      refine r_aload_n O 0 dX0_canTake_21 rfl rfl ?_
      refine r_get O FX0_21 G_0_1 dX0_canTake_22 ?_
      refine r_iload_n O 2 dX0_canTake_25 rfl rfl ?_
      refine r_aload_n O 0 dX0_canTake_26 rfl rfl ?_
      refine r_get O FX0_27 G_0_2 dX0_canTake_27 ?_
      refine r_iload_n O 1 dX0_canTake_30 rfl rfl ?_
      have hv2 : vp_in x1 6 := (show vp_in x1 6 from g_vin (by with_reducible omega) (by with_reducible omega))
      have hv2c := g_cl hv2
      refine r_aald O hv2 dX0_canTake_31 ?_
      refine r_get O FX0_110 (G_h (h := x1.toNatClampNeg) (j := 1) hv2c (by decide)) dX0_canTake_32 ?_
      refine r_callVi O [.int x2, .int (m (58 + 9 * x1.toNatClampNeg + 1))] [] (met_X5_liesAt (g_xl X) hs q m x2 (m (58 + 9 * x1.toNatClampNeg + 1)) (by first | decide | with_reducible assumption | with_reducible omega | (simp (disch := omega) only [g_upd_ne, g_upd_eq, fr_X4_fix, fr_X5_put, fr_X1_startAnew, fr_X1_walkTo, fr_X1_arrive, fr_X1_countBelow, fr_X3_set]; first | with_reducible assumption | with_reducible omega | decide) | exact Or.inl rfl | exact Or.inr rfl)) LX0_169 obj_5 rfl rfl rfl dX0_canTake_35 rfl rfl ?_
      refine r_if_eq O 45 dX0_canTake_38 (by decide) (fun c_38 => ?_) (fun c_38 => ?_)
      · have e_38 : (R_X5_liesAt m x2 (m (58 + 9 * x1.toNatClampNeg + 1))).toInt = (0 : Int) := j_eqR c_38 rfl
        refine r_iconst (x := 0) O dX0_canTake_45 rfl ?_
        exact r_iret O dX0_canTake_46 rfl (Nat.le_of_ble_eq_true rfl) (Nat.le_of_ble_eq_true rfl) rfl
      · have e_38 : (R_X5_liesAt m x2 (m (58 + 9 * x1.toNatClampNeg + 1))).toInt ≠ (0 : Int) := j_neR c_38 rfl
        refine r_iconst (x := 1) O dX0_canTake_41 rfl ?_
        refine r_goto O 46 dX0_canTake_42 (by decide) ?_
        exact r_iret O dX0_canTake_46 rfl (Nat.le_of_ble_eq_true rfl) (Nat.le_of_ble_eq_true rfl) rfl
    · have e_18 : (m (58 + 9 * x1.toNatClampNeg + 5)).toInt ≠ (-1 : Int) := j_neR c_18 rfl
      refine r_iconst (x := 0) O dX0_canTake_45 rfl ?_
      exact r_iret O dX0_canTake_46 rfl (Nat.le_of_ble_eq_true rfl) (Nat.le_of_ble_eq_true rfl) rfl
theorem met_X0_canTake (l : Launch) (hs : l.stackTraces = false) (q : g_q) (m : Nat → Int32) (x1 : Int32) (x2 : Int32) (p0 : (m 2).toInt ≤ 6) (p1 : (m 1).toInt ≤ 8) : g_SM l yX0_canTake cX0_canTake 3 (some .boolean) ({ frames := 2, cells := 0, slots := 0, locals := 43 } : Room) (fun ad => [.ref (ad 0), .int x1, .int x2]) m q ((fun r : Int32 => ((.inl (some (.int r)), (m, q)) : g_Res)) (R_X0_canTake m x1 x2)) :=
  g_sm_of (by decide) (fun _ => Nat.le_of_ble_eq_true rfl) hs (fun X hl hn O => walk_X0_canTake O (by rw [hl]; exact hs) hn p0 p1)
def R_X0_takeRope (m : Nat → Int32) (x1 : Int32) (x2 : Int32) : (Nat → Int32) := (R_X5_put (upd m (58 + 9 * x1.toNatClampNeg + 5) x2) x2 1 x1)
set_option maxRecDepth 100000 in
set_option maxHeartbeats 4000000 in
theorem walk_X0_takeRope {X : g_X} (O : g_ok X cX0_takeRope RX0 none ({ frames := 2, cells := 0, slots := 0, locals := 44 } : Room)) (hs : (g_xl X).stackTraces = false) (hn : g_xn X = 3) {q : g_q} {m : Nat → Int32} {x1 : Int32} {x2 : Int32} (p0 : 0 ≤ x1.toInt) (p1 : x1.toInt < 6) (p2 : (m 1).toInt ≤ 8) : g_V X (fun r : Nat → Int32 => ((.inl none, (r, q)) : g_Res)) (R_X0_takeRope m x1 x2) 0 0 m q 0 [(0, .ref (g_ad X 0)), (1, .int x1), (2, .int x2)] [] := by
  have hN : ∀ i, Nat.blt i 3 = true → i < g_xn X := fun i h => by rw [hn]; exact g_blt.mp h
  refine r_aload_n O 0 dX0_takeRope_0 rfl rfl ?_
  refine r_get O FX0_27 G_0_2 dX0_takeRope_1 ?_
  refine r_iload_n O 1 dX0_takeRope_4 rfl rfl ?_
  have hv1 : vp_in x1 6 := (show vp_in x1 6 from g_vin (by with_reducible omega) (by with_reducible omega))
  have hv1c := g_cl hv1
  refine r_aald O hv1 dX0_takeRope_5 ?_
  refine r_iload_n O 2 dX0_takeRope_6 rfl rfl ?_
  refine r_put O (FPX0_166 x2) (S_h (h := x1.toNatClampNeg) (j := 5) x2 hv1c (by decide)) dX0_takeRope_7 ?_
  refine r_aload_n O 0 dX0_takeRope_10 rfl rfl ?_
  refine r_get O FX0_21 G_0_1 dX0_takeRope_11 ?_
  refine r_iload_n O 2 dX0_takeRope_14 rfl rfl ?_
  refine r_iconst (x := 1) O dX0_takeRope_15 rfl ?_
  refine r_iload_n O 1 dX0_takeRope_16 rfl rfl ?_
  refine r_callVv O [.int x2, .int 1, .int x1] [] (met_X5_put (g_xl X) hs q (upd m (58 + 9 * x1.toNatClampNeg + 5) x2) x2 1 x1 (by first | decide | with_reducible assumption | with_reducible omega | (simp (disch := omega) only [g_upd_ne, g_upd_eq, fr_X4_fix, fr_X5_put, fr_X1_startAnew, fr_X1_walkTo, fr_X1_arrive, fr_X1_countBelow, fr_X3_set]; first | with_reducible assumption | with_reducible omega | decide) | exact Or.inl rfl | exact Or.inr rfl)) LX0_173 obj_5 rfl rfl rfl dX0_takeRope_17 rfl rfl ?_
  exact r_vret O dX0_takeRope_20 (Nat.le_of_ble_eq_true rfl) (Nat.le_of_ble_eq_true rfl) rfl
theorem met_X0_takeRope (l : Launch) (hs : l.stackTraces = false) (q : g_q) (m : Nat → Int32) (x1 : Int32) (x2 : Int32) (p0 : 0 ≤ x1.toInt) (p1 : x1.toInt < 6) (p2 : (m 1).toInt ≤ 8) : g_SM l yX0_takeRope cX0_takeRope 3 none ({ frames := 2, cells := 0, slots := 0, locals := 44 } : Room) (fun ad => [.ref (ad 0), .int x1, .int x2]) m q ((fun r : Nat → Int32 => ((.inl none, (r, q)) : g_Res)) (R_X0_takeRope m x1 x2)) :=
  g_sm_of (by decide) (fun _ => Nat.le_of_ble_eq_true rfl) hs (fun X hl hn O => walk_X0_takeRope O (by rw [hl]; exact hs) hn p0 p1 p2)
def R_X0_canLay (m : Nat → Int32) (x1 : Int32) : Int32 := (if (R_X0_isStanding m x1) = 0 then 0 else (if (m (58 + 9 * x1.toNatClampNeg + 5)) = (-1) then 0 else 1))
set_option maxRecDepth 100000 in
set_option maxHeartbeats 4000000 in
theorem walk_X0_canLay {X : g_X} (O : g_ok X cX0_canLay RX0 (some .boolean) ({ frames := 1, cells := 0, slots := 0, locals := 21 } : Room)) (hs : (g_xl X).stackTraces = false) (hn : g_xn X = 2) {q : g_q} {m : Nat → Int32} {x1 : Int32} (p0 : (m 2).toInt ≤ 6) : g_V X (fun r : Int32 => ((.inl (some (.int r)), (m, q)) : g_Res)) (R_X0_canLay m x1) 0 0 m q 0 [(0, .ref (g_ad X 0)), (1, .int x1)] [] := by
  have hN : ∀ i, Nat.blt i 2 = true → i < g_xn X := fun i h => by rw [hn]; exact g_blt.mp h
  refine r_aload_n O 0 dX0_canLay_0 rfl rfl ?_
  refine r_iload_n O 1 dX0_canLay_1 rfl rfl ?_
  refine r_callVi O [.int x1] [] (met_X0_isStanding (g_xl X) hs q m x1 (by first | decide | with_reducible assumption | with_reducible omega | (simp (disch := omega) only [g_upd_ne, g_upd_eq, fr_X4_fix, fr_X5_put, fr_X1_startAnew, fr_X1_walkTo, fr_X1_arrive, fr_X1_countBelow, fr_X3_set]; first | with_reducible assumption | with_reducible omega | decide) | exact Or.inl rfl | exact Or.inr rfl)) LX0_149 obj_0 rfl rfl rfl dX0_canLay_2 rfl rfl ?_
  refine r_if_eq O 25 dX0_canLay_5 (by decide) (fun c_5 => ?_) (fun c_5 => ?_)
  · have e_5 : (R_X0_isStanding m x1).toInt = (0 : Int) := j_eqR c_5 rfl
    refine r_iconst (x := 0) O dX0_canLay_25 rfl ?_
    exact r_iret O dX0_canLay_26 rfl (Nat.le_of_ble_eq_true rfl) (Nat.le_of_ble_eq_true rfl) rfl
  · have e_5 : (R_X0_isStanding m x1).toInt ≠ (0 : Int) := j_neR c_5 rfl
    obtain ⟨z_5a, z_5b⟩ := nz_X0_isStanding c_5
    refine r_aload_n O 0 dX0_canLay_8 rfl rfl ?_
    refine r_get O FX0_27 G_0_2 dX0_canLay_9 ?_
    refine r_iload_n O 1 dX0_canLay_12 rfl rfl ?_
    have hv1 : vp_in x1 6 := (show vp_in x1 6 from g_vin (by with_reducible omega) (by with_reducible omega))
    have hv1c := g_cl hv1
    refine r_aald O hv1 dX0_canLay_13 ?_
    refine r_get O FX0_166 (G_h (h := x1.toNatClampNeg) (j := 5) hv1c (by decide)) dX0_canLay_14 ?_
    refine r_iconst (x := (-1)) O dX0_canLay_17 rfl ?_
    refine r_icmp_eq O 25 dX0_canLay_18 (by decide) (fun c_18 => ?_) (fun c_18 => ?_)
    · have e_18 : (m (58 + 9 * x1.toNatClampNeg + 5)).toInt = (-1 : Int) := j_eqR c_18 rfl
      refine r_iconst (x := 0) O dX0_canLay_25 rfl ?_
      exact r_iret O dX0_canLay_26 rfl (Nat.le_of_ble_eq_true rfl) (Nat.le_of_ble_eq_true rfl) rfl
    · have e_18 : (m (58 + 9 * x1.toNatClampNeg + 5)).toInt ≠ (-1 : Int) := j_neR c_18 rfl
      refine r_iconst (x := 1) O dX0_canLay_21 rfl ?_
      refine r_goto O 26 dX0_canLay_22 (by decide) ?_
      exact r_iret O dX0_canLay_26 rfl (Nat.le_of_ble_eq_true rfl) (Nat.le_of_ble_eq_true rfl) rfl
theorem met_X0_canLay (l : Launch) (hs : l.stackTraces = false) (q : g_q) (m : Nat → Int32) (x1 : Int32) (p0 : (m 2).toInt ≤ 6) : g_SM l yX0_canLay cX0_canLay 2 (some .boolean) ({ frames := 1, cells := 0, slots := 0, locals := 21 } : Room) (fun ad => [.ref (ad 0), .int x1]) m q ((fun r : Int32 => ((.inl (some (.int r)), (m, q)) : g_Res)) (R_X0_canLay m x1)) :=
  g_sm_of (by decide) (fun _ => Nat.le_of_ble_eq_true rfl) hs (fun X hl hn O => walk_X0_canLay O (by rw [hl]; exact hs) hn p0)
theorem nz_X0_canLay {m : Nat → Int32} {x1 : Int32} (h : ¬ R_X0_canLay m x1 = 0) : 0 ≤ x1.toInt ∧ x1.toInt < (m 2).toInt := by
  unfold R_X0_canLay at h
  by_cases a : R_X0_isStanding m x1 = 0
  · simp [a] at h
  · exact nz_X0_isStanding a
def R_X0_layRope (m : Nat → Int32) (x1 : Int32) : (Int32 × (Nat → Int32)) := ((m (58 + 9 * x1.toNatClampNeg + 5)), (upd (R_X5_put m (m (58 + 9 * x1.toNatClampNeg + 5)) 0 (m (58 + 9 * x1.toNatClampNeg + 1))) (58 + 9 * x1.toNatClampNeg + 5) (-1)))
set_option maxRecDepth 100000 in
set_option maxHeartbeats 4000000 in
theorem walk_X0_layRope {X : g_X} (O : g_ok X cX0_layRope RX0 (some .int) ({ frames := 2, cells := 0, slots := 0, locals := 44 } : Room)) (hs : (g_xl X).stackTraces = false) (hn : g_xn X = 4) {q : g_q} {m : Nat → Int32} {x1 : Int32} (p0 : 0 ≤ x1.toInt) (p1 : x1.toInt < 6) (p2 : (m 1).toInt ≤ 8) : g_V X (fun r : Int32 × (Nat → Int32) => ((.inl (some (.int r.1)), (r.2, q)) : g_Res)) (R_X0_layRope m x1) 0 0 m q 0 [(0, .ref (g_ad X 0)), (1, .int x1)] [] := by
  have hN : ∀ i, Nat.blt i 4 = true → i < g_xn X := fun i h => by rw [hn]; exact g_blt.mp h
  refine r_aload_n O 0 dX0_layRope_0 rfl rfl ?_
  refine r_get O FX0_27 G_0_2 dX0_layRope_1 ?_
  refine r_iload_n O 1 dX0_layRope_4 rfl rfl ?_
  have hv1 : vp_in x1 6 := (show vp_in x1 6 from g_vin (by with_reducible omega) (by with_reducible omega))
  have hv1c := g_cl hv1
  refine r_aald O hv1 dX0_layRope_5 ?_
  refine r_astore_n (lc' := [(2, .ref (g_ad X (10 + x1.toNatClampNeg))), (0, .ref (g_ad X 0)), (1, .int x1)]) O dX0_layRope_6 rfl (hN 2 rfl) rfl ?_
  refine r_aload_n O 0 dX0_layRope_7 rfl rfl ?_
  refine r_get O FX0_166 (G_h (h := x1.toNatClampNeg) (j := 5) hv1c (by decide)) dX0_layRope_8 ?_
  refine r_istore_n (lc' := [(3, .int (m (58 + 9 * x1.toNatClampNeg + 5))), (2, .ref (g_ad X (10 + x1.toNatClampNeg))), (0, .ref (g_ad X 0)), (1, .int x1)]) O dX0_layRope_11 rfl (hN 3 rfl) rfl ?_
  refine r_aload_n O 2 dX0_layRope_12 rfl rfl ?_
  refine r_get O FX0_21 G_0_1 dX0_layRope_13 ?_
  refine r_iload_n O 0 dX0_layRope_16 rfl rfl ?_
  refine r_iconst (x := 0) O dX0_layRope_17 rfl ?_
  refine r_aload_n O 1 dX0_layRope_18 rfl rfl ?_
  refine r_get O FX0_110 (G_h (h := x1.toNatClampNeg) (j := 1) hv1c (by decide)) dX0_layRope_19 ?_
  refine r_callVv O [.int (m (58 + 9 * x1.toNatClampNeg + 5)), .int 0, .int (m (58 + 9 * x1.toNatClampNeg + 1))] [] (met_X5_put (g_xl X) hs q m (m (58 + 9 * x1.toNatClampNeg + 5)) 0 (m (58 + 9 * x1.toNatClampNeg + 1)) (by first | decide | with_reducible assumption | with_reducible omega | (simp (disch := omega) only [g_upd_ne, g_upd_eq, fr_X4_fix, fr_X5_put, fr_X1_startAnew, fr_X1_walkTo, fr_X1_arrive, fr_X1_countBelow, fr_X3_set]; first | with_reducible assumption | with_reducible omega | decide) | exact Or.inl rfl | exact Or.inr rfl)) LX0_173 obj_5 rfl rfl rfl dX0_layRope_22 rfl rfl ?_
  refine r_aload_n O 1 dX0_layRope_25 rfl rfl ?_
  refine r_iconst (x := (-1)) O dX0_layRope_26 rfl ?_
  refine r_put O (FPX0_166 (-1)) (S_h (h := x1.toNatClampNeg) (j := 5) (-1) hv1c (by decide)) dX0_layRope_27 ?_
  refine r_iload_n O 0 dX0_layRope_30 rfl rfl ?_
  exact r_iret O dX0_layRope_31 rfl (Nat.le_of_ble_eq_true rfl) (Nat.le_of_ble_eq_true rfl) rfl
theorem met_X0_layRope (l : Launch) (hs : l.stackTraces = false) (q : g_q) (m : Nat → Int32) (x1 : Int32) (p0 : 0 ≤ x1.toInt) (p1 : x1.toInt < 6) (p2 : (m 1).toInt ≤ 8) : g_SM l yX0_layRope cX0_layRope 4 (some .int) ({ frames := 2, cells := 0, slots := 0, locals := 44 } : Room) (fun ad => [.ref (ad 0), .int x1]) m q ((fun r : Int32 × (Nat → Int32) => ((.inl (some (.int r.1)), (r.2, q)) : g_Res)) (R_X0_layRope m x1)) :=
  g_sm_of (by decide) (fun _ => Nat.le_of_ble_eq_true rfl) hs (fun X hl hn O => walk_X0_layRope O (by rw [hl]; exact hs) hn p0 p1 p2)
def R_X0_canRig (m : Nat → Int32) (x1 : Int32) : Int32 := (if (R_X0_canLay m x1) = 0 then 0 else (if (R_X4_isPitch m (m (58 + 9 * x1.toNatClampNeg + 1))) = 0 then 0 else (if (R_X4_ropeOf m (m (58 + 9 * x1.toNatClampNeg + 1))) = (-1) then (if (R_X0_riggerOf m (m (58 + 9 * x1.toNatClampNeg + 1))) = (-1) then (if (R_X5_holds m (m (58 + 9 * x1.toNatClampNeg + 5)) (R_X4_dropOf m (m (58 + 9 * x1.toNatClampNeg + 1)))) = 0 then 0 else (if (R_X0_isInTime m x1.toNatClampNeg (m (58 + 9 * x1.toNatClampNeg + 1)) 10) = 0 then 0 else 1)) else 0) else 0)))
set_option maxRecDepth 100000 in
set_option maxHeartbeats 4000000 in
theorem walk_X0_canRig {X : g_X} (O : g_ok X cX0_canRig RX0 (some .boolean) ({ frames := 2, cells := 0, slots := 0, locals := 46 } : Room)) (hs : (g_xl X).stackTraces = false) (hn : g_xn X = 4) {q : g_q} {m : Nat → Int32} {x1 : Int32} (p0 : (m 0).toInt ≤ 7) (p1 : (m 2).toInt ≤ 6) (p2 : (m 1).toInt ≤ 8) : g_V X (fun r : Int32 => ((.inl (some (.int r)), (m, q)) : g_Res)) (R_X0_canRig m x1) 0 0 m q 0 [(0, .ref (g_ad X 0)), (1, .int x1)] [] := by
  have hN : ∀ i, Nat.blt i 4 = true → i < g_xn X := fun i h => by rw [hn]; exact g_blt.mp h
  refine r_aload_n O 0 dX0_canRig_0 rfl rfl ?_
  refine r_iload_n O 1 dX0_canRig_1 rfl rfl ?_
  refine r_callVi O [.int x1] [] (met_X0_canLay (g_xl X) hs q m x1 (by first | decide | with_reducible assumption | with_reducible omega | (simp (disch := omega) only [g_upd_ne, g_upd_eq, fr_X4_fix, fr_X5_put, fr_X1_startAnew, fr_X1_walkTo, fr_X1_arrive, fr_X1_countBelow, fr_X3_set]; first | with_reducible assumption | with_reducible omega | decide) | exact Or.inl rfl | exact Or.inr rfl)) LX0_177 obj_0 rfl rfl rfl dX0_canRig_2 rfl rfl ?_
  refine r_if_ne O 10 dX0_canRig_5 (by decide) (fun c_5 => ?_) (fun c_5 => ?_)
  · have e_5 : (R_X0_canLay m x1).toInt = (0 : Int) := j_eqR c_5 rfl
    refine r_iconst (x := 0) O dX0_canRig_8 rfl ?_
    exact r_iret O dX0_canRig_9 rfl (Nat.le_of_ble_eq_true rfl) (Nat.le_of_ble_eq_true rfl) rfl
  · have e_5 : (R_X0_canLay m x1).toInt ≠ (0 : Int) := j_neR c_5 rfl
    obtain ⟨z_5a, z_5b⟩ := nz_X0_canLay c_5
    refine r_aload_n O 0 dX0_canRig_10 rfl rfl ?_
    refine r_get O FX0_27 G_0_2 dX0_canRig_11 ?_
    refine r_iload_n O 1 dX0_canRig_14 rfl rfl ?_
    have hv1 : vp_in x1 6 := (show vp_in x1 6 from g_vin (by with_reducible omega) (by with_reducible omega))
    have hv1c := g_cl hv1
    refine r_aald O hv1 dX0_canRig_15 ?_
    refine r_astore_n (lc' := [(2, .ref (g_ad X (10 + x1.toNatClampNeg))), (0, .ref (g_ad X 0)), (1, .int x1)]) O dX0_canRig_16 rfl (hN 2 rfl) rfl ?_
    refine r_aload_n O 0 dX0_canRig_17 rfl rfl ?_
    refine r_get O FX0_110 (G_h (h := x1.toNatClampNeg) (j := 1) hv1c (by decide)) dX0_canRig_18 ?_
    refine r_istore_n (lc' := [(3, .int (m (58 + 9 * x1.toNatClampNeg + 1))), (2, .ref (g_ad X (10 + x1.toNatClampNeg))), (0, .ref (g_ad X 0)), (1, .int x1)]) O dX0_canRig_21 rfl (hN 3 rfl) rfl ?_
    refine r_aload_n O 2 dX0_canRig_22 rfl rfl ?_
    refine r_get O FX0_12 G_0_0 dX0_canRig_23 ?_
    refine r_iload_n O 0 dX0_canRig_26 rfl rfl ?_
    refine r_callVi O [.int (m (58 + 9 * x1.toNatClampNeg + 1))] [] (met_X4_isPitch (g_xl X) hs q m (m (58 + 9 * x1.toNatClampNeg + 1)) (by first | decide | with_reducible assumption | with_reducible omega | (simp (disch := omega) only [g_upd_ne, g_upd_eq, fr_X4_fix, fr_X5_put, fr_X1_startAnew, fr_X1_walkTo, fr_X1_arrive, fr_X1_countBelow, fr_X3_set]; first | with_reducible assumption | with_reducible omega | decide) | exact Or.inl rfl | exact Or.inr rfl)) LX0_139 obj_1 rfl rfl rfl dX0_canRig_27 rfl rfl ?_
    refine r_if_eq O 94 dX0_canRig_30 (by decide) (fun c_30 => ?_) (fun c_30 => ?_)
    · have e_30 : (R_X4_isPitch m (m (58 + 9 * x1.toNatClampNeg + 1))).toInt = (0 : Int) := j_eqR c_30 rfl
      refine r_iconst (x := 0) O dX0_canRig_94 rfl ?_
      exact r_iret O dX0_canRig_95 rfl (Nat.le_of_ble_eq_true rfl) (Nat.le_of_ble_eq_true rfl) rfl
    · have e_30 : (R_X4_isPitch m (m (58 + 9 * x1.toNatClampNeg + 1))).toInt ≠ (0 : Int) := j_neR c_30 rfl
      refine r_aload_n O 2 dX0_canRig_33 rfl rfl ?_
      refine r_get O FX0_12 G_0_0 dX0_canRig_34 ?_
      refine r_iload_n O 0 dX0_canRig_37 rfl rfl ?_
      refine r_callVi O [.int (m (58 + 9 * x1.toNatClampNeg + 1))] [] (met_X4_ropeOf (g_xl X) hs q m (m (58 + 9 * x1.toNatClampNeg + 1)) (by first | decide | with_reducible assumption | with_reducible omega | (simp (disch := omega) only [g_upd_ne, g_upd_eq, fr_X4_fix, fr_X5_put, fr_X1_startAnew, fr_X1_walkTo, fr_X1_arrive, fr_X1_countBelow, fr_X3_set]; first | with_reducible assumption | with_reducible omega | decide) | exact Or.inl rfl | exact Or.inr rfl)) LX0_113 obj_1 rfl rfl rfl dX0_canRig_38 rfl rfl ?_
      refine r_iconst (x := (-1)) O dX0_canRig_41 rfl ?_
      refine r_icmp_ne O 94 dX0_canRig_42 (by decide) (fun c_42 => ?_) (fun c_42 => ?_)
      · have e_42 : (R_X4_ropeOf m (m (58 + 9 * x1.toNatClampNeg + 1))).toInt = (-1 : Int) := j_eqR c_42 rfl
        refine r_aload_n O 2 dX0_canRig_45 rfl rfl ?_
        refine r_iload_n O 0 dX0_canRig_46 rfl rfl ?_
        refine r_callVi O [.int (m (58 + 9 * x1.toNatClampNeg + 1))] [] (met_X0_riggerOf (g_xl X) hs q m (m (58 + 9 * x1.toNatClampNeg + 1)) (by first | decide | with_reducible assumption | with_reducible omega | (simp (disch := omega) only [g_upd_ne, g_upd_eq, fr_X4_fix, fr_X5_put, fr_X1_startAnew, fr_X1_walkTo, fr_X1_arrive, fr_X1_countBelow, fr_X3_set]; first | with_reducible assumption | with_reducible omega | decide) | exact Or.inl rfl | exact Or.inr rfl)) LX0_117 obj_0 rfl rfl rfl dX0_canRig_47 rfl rfl ?_
        refine r_iconst (x := (-1)) O dX0_canRig_50 rfl ?_
        refine r_icmp_ne O 94 dX0_canRig_51 (by decide) (fun c_51 => ?_) (fun c_51 => ?_)
        · have e_51 : (R_X0_riggerOf m (m (58 + 9 * x1.toNatClampNeg + 1))).toInt = (-1 : Int) := j_eqR c_51 rfl
          refine r_aload_n O 2 dX0_canRig_54 rfl rfl ?_
          refine r_get O FX0_21 G_0_1 dX0_canRig_55 ?_
          refine r_aload_n O 1 dX0_canRig_58 rfl rfl ?_
          refine r_get O FX0_166 (G_h (h := x1.toNatClampNeg) (j := 5) hv1c (by decide)) dX0_canRig_59 ?_
          refine r_aload_n O 2 dX0_canRig_62 rfl rfl ?_
          refine r_get O FX0_12 G_0_0 dX0_canRig_63 ?_
          refine r_iload_n O 0 dX0_canRig_66 rfl rfl ?_
          refine r_callVi O [.int (m (58 + 9 * x1.toNatClampNeg + 1))] [.int (m (58 + 9 * x1.toNatClampNeg + 5)), .ref (g_ad X 5)] (met_X4_dropOf (g_xl X) hs q m (m (58 + 9 * x1.toNatClampNeg + 1)) (by first | decide | with_reducible assumption | with_reducible omega | (simp (disch := omega) only [g_upd_ne, g_upd_eq, fr_X4_fix, fr_X5_put, fr_X1_startAnew, fr_X1_walkTo, fr_X1_arrive, fr_X1_countBelow, fr_X3_set]; first | with_reducible assumption | with_reducible omega | decide) | exact Or.inl rfl | exact Or.inr rfl)) LX0_180 obj_1 rfl rfl rfl dX0_canRig_67 rfl rfl ?_
          refine r_callVi O [.int (m (58 + 9 * x1.toNatClampNeg + 5)), .int (R_X4_dropOf m (m (58 + 9 * x1.toNatClampNeg + 1)))] [] (met_X5_holds (g_xl X) hs q m (m (58 + 9 * x1.toNatClampNeg + 5)) (R_X4_dropOf m (m (58 + 9 * x1.toNatClampNeg + 1))) (by first | decide | with_reducible assumption | with_reducible omega | (simp (disch := omega) only [g_upd_ne, g_upd_eq, fr_X4_fix, fr_X5_put, fr_X1_startAnew, fr_X1_walkTo, fr_X1_arrive, fr_X1_countBelow, fr_X3_set]; first | with_reducible assumption | with_reducible omega | decide) | exact Or.inl rfl | exact Or.inr rfl)) LX0_183 obj_5 rfl rfl rfl dX0_canRig_70 rfl rfl ?_
          refine r_if_eq O 94 dX0_canRig_73 (by decide) (fun c_73 => ?_) (fun c_73 => ?_)
          · have e_73 : (R_X5_holds m (m (58 + 9 * x1.toNatClampNeg + 5)) (R_X4_dropOf m (m (58 + 9 * x1.toNatClampNeg + 1)))).toInt = (0 : Int) := j_eqR c_73 rfl
            refine r_iconst (x := 0) O dX0_canRig_94 rfl ?_
            exact r_iret O dX0_canRig_95 rfl (Nat.le_of_ble_eq_true rfl) (Nat.le_of_ble_eq_true rfl) rfl
          · have e_73 : (R_X5_holds m (m (58 + 9 * x1.toNatClampNeg + 5)) (R_X4_dropOf m (m (58 + 9 * x1.toNatClampNeg + 1)))).toInt ≠ (0 : Int) := j_neR c_73 rfl
            refine r_aload_n O 2 dX0_canRig_76 rfl rfl ?_
            refine r_aload_n O 1 dX0_canRig_77 rfl rfl ?_
            refine r_aload_n O 1 dX0_canRig_78 rfl rfl ?_
            refine r_get O FX0_110 (G_h (h := x1.toNatClampNeg) (j := 1) hv1c (by decide)) dX0_canRig_79 ?_
            refine r_bipush (x := 10) O dX0_canRig_82 rfl ?_
            refine r_callVi O [.ref (g_ad X (10 + x1.toNatClampNeg)), .int (m (58 + 9 * x1.toNatClampNeg + 1)), .int 10] [] (met_X0_isInTime (g_xl X) hs q m x1.toNatClampNeg (m (58 + 9 * x1.toNatClampNeg + 1)) 10 hv1c (by first | decide | with_reducible assumption | with_reducible omega | (simp (disch := omega) only [g_upd_ne, g_upd_eq, fr_X4_fix, fr_X5_put, fr_X1_startAnew, fr_X1_walkTo, fr_X1_arrive, fr_X1_countBelow, fr_X3_set]; first | with_reducible assumption | with_reducible omega | decide) | exact Or.inl rfl | exact Or.inr rfl)) LX0_145 obj_0 rfl rfl rfl dX0_canRig_84 rfl rfl ?_
            refine r_if_eq O 94 dX0_canRig_87 (by decide) (fun c_87 => ?_) (fun c_87 => ?_)
            · have e_87 : (R_X0_isInTime m x1.toNatClampNeg (m (58 + 9 * x1.toNatClampNeg + 1)) 10).toInt = (0 : Int) := j_eqR c_87 rfl
              refine r_iconst (x := 0) O dX0_canRig_94 rfl ?_
              exact r_iret O dX0_canRig_95 rfl (Nat.le_of_ble_eq_true rfl) (Nat.le_of_ble_eq_true rfl) rfl
            · have e_87 : (R_X0_isInTime m x1.toNatClampNeg (m (58 + 9 * x1.toNatClampNeg + 1)) 10).toInt ≠ (0 : Int) := j_neR c_87 rfl
              refine r_iconst (x := 1) O dX0_canRig_90 rfl ?_
              refine r_goto O 95 dX0_canRig_91 (by decide) ?_
              exact r_iret O dX0_canRig_95 rfl (Nat.le_of_ble_eq_true rfl) (Nat.le_of_ble_eq_true rfl) rfl
        · have e_51 : (R_X0_riggerOf m (m (58 + 9 * x1.toNatClampNeg + 1))).toInt ≠ (-1 : Int) := j_neR c_51 rfl
          refine r_iconst (x := 0) O dX0_canRig_94 rfl ?_
          exact r_iret O dX0_canRig_95 rfl (Nat.le_of_ble_eq_true rfl) (Nat.le_of_ble_eq_true rfl) rfl
      · have e_42 : (R_X4_ropeOf m (m (58 + 9 * x1.toNatClampNeg + 1))).toInt ≠ (-1 : Int) := j_neR c_42 rfl
        refine r_iconst (x := 0) O dX0_canRig_94 rfl ?_
        exact r_iret O dX0_canRig_95 rfl (Nat.le_of_ble_eq_true rfl) (Nat.le_of_ble_eq_true rfl) rfl
theorem met_X0_canRig (l : Launch) (hs : l.stackTraces = false) (q : g_q) (m : Nat → Int32) (x1 : Int32) (p0 : (m 0).toInt ≤ 7) (p1 : (m 2).toInt ≤ 6) (p2 : (m 1).toInt ≤ 8) : g_SM l yX0_canRig cX0_canRig 4 (some .boolean) ({ frames := 2, cells := 0, slots := 0, locals := 46 } : Room) (fun ad => [.ref (ad 0), .int x1]) m q ((fun r : Int32 => ((.inl (some (.int r)), (m, q)) : g_Res)) (R_X0_canRig m x1)) :=
  g_sm_of (by decide) (fun _ => Nat.le_of_ble_eq_true rfl) hs (fun X hl hn O => walk_X0_canRig O (by rw [hl]; exact hs) hn p0 p1 p2)
def R_X0_startRig (m : Nat → Int32) (x1 : Int32) : (Int32 × (Nat → Int32)) := (((upd (upd m (58 + 9 * x1.toNatClampNeg + 2) 2) (58 + 9 * x1.toNatClampNeg + 4) 10) (58 + 9 * x1.toNatClampNeg + 1)), (upd (upd m (58 + 9 * x1.toNatClampNeg + 2) 2) (58 + 9 * x1.toNatClampNeg + 4) 10))
set_option maxRecDepth 100000 in
set_option maxHeartbeats 4000000 in
theorem walk_X0_startRig {X : g_X} (O : g_ok X cX0_startRig RX0 (some .int) ({ frames := 0, cells := 0, slots := 0, locals := 0 } : Room)) (hs : (g_xl X).stackTraces = false) (hn : g_xn X = 3) {q : g_q} {m : Nat → Int32} {x1 : Int32} (p0 : 0 ≤ x1.toInt) (p1 : x1.toInt < 6) : g_V X (fun r : Int32 × (Nat → Int32) => ((.inl (some (.int r.1)), (r.2, q)) : g_Res)) (R_X0_startRig m x1) 0 0 m q 0 [(0, .ref (g_ad X 0)), (1, .int x1)] [] := by
  have hN : ∀ i, Nat.blt i 3 = true → i < g_xn X := fun i h => by rw [hn]; exact g_blt.mp h
  refine r_aload_n O 0 dX0_startRig_0 rfl rfl ?_
  refine r_get O FX0_27 G_0_2 dX0_startRig_1 ?_
  refine r_iload_n O 1 dX0_startRig_4 rfl rfl ?_
  have hv1 : vp_in x1 6 := (show vp_in x1 6 from g_vin (by with_reducible omega) (by with_reducible omega))
  have hv1c := g_cl hv1
  refine r_aald O hv1 dX0_startRig_5 ?_
  refine r_astore_n (lc' := [(2, .ref (g_ad X (10 + x1.toNatClampNeg))), (0, .ref (g_ad X 0)), (1, .int x1)]) O dX0_startRig_6 rfl (hN 2 rfl) rfl ?_
  refine r_aload_n O 0 dX0_startRig_7 rfl rfl ?_
  refine r_iconst (x := 2) O dX0_startRig_8 rfl ?_
  refine r_put O (FPX0_103 2) (S_h (h := x1.toNatClampNeg) (j := 2) 2 hv1c (by decide)) dX0_startRig_9 ?_
  refine r_aload_n O 0 dX0_startRig_12 rfl rfl ?_
  refine r_bipush (x := 10) O dX0_startRig_13 rfl ?_
  refine r_put O (FPX0_186 10) (S_h (h := x1.toNatClampNeg) (j := 4) 10 hv1c (by decide)) dX0_startRig_15 ?_
  refine r_aload_n O 0 dX0_startRig_18 rfl rfl ?_
  refine r_get O FX0_110 (G_h (h := x1.toNatClampNeg) (j := 1) hv1c (by decide)) dX0_startRig_19 ?_
  exact r_iret O dX0_startRig_22 rfl (Nat.le_of_ble_eq_true rfl) (Nat.le_of_ble_eq_true rfl) rfl
theorem met_X0_startRig (l : Launch) (hs : l.stackTraces = false) (q : g_q) (m : Nat → Int32) (x1 : Int32) (p0 : 0 ≤ x1.toInt) (p1 : x1.toInt < 6) : g_SM l yX0_startRig cX0_startRig 3 (some .int) ({ frames := 0, cells := 0, slots := 0, locals := 0 } : Room) (fun ad => [.ref (ad 0), .int x1]) m q ((fun r : Int32 × (Nat → Int32) => ((.inl (some (.int r.1)), (r.2, q)) : g_Res)) (R_X0_startRig m x1)) :=
  g_sm_of (by decide) (fun _ => Nat.le_of_ble_eq_true rfl) hs (fun X hl hn O => walk_X0_startRig O (by rw [hl]; exact hs) hn p0 p1)
def R_X0_canUnrig (m : Nat → Int32) (x1 : Int32) : Int32 := (if (R_X0_isStanding m x1) = 0 then 0 else (if (m (58 + 9 * x1.toNatClampNeg + 5)) = (-1) then (if (R_X4_ropeOf m (m (58 + 9 * x1.toNatClampNeg + 1))) = (-1) then 0 else (if (R_X0_walkersThrough m (m (58 + 9 * x1.toNatClampNeg + 1))) = 0 then 1 else 0)) else 0))
set_option maxRecDepth 100000 in
set_option maxHeartbeats 4000000 in
theorem walk_X0_canUnrig {X : g_X} (O : g_ok X cX0_canUnrig RX0 (some .boolean) ({ frames := 3, cells := 0, slots := 0, locals := 65 } : Room)) (hs : (g_xl X).stackTraces = false) (hn : g_xn X = 3) {q : g_q} {m : Nat → Int32} {x1 : Int32} (p0 : (m 0).toInt ≤ 7) (p1 : (m 2).toInt ≤ 6) : g_V X (fun r : Int32 => ((.inl (some (.int r)), (m, q)) : g_Res)) (R_X0_canUnrig m x1) 0 0 m q 0 [(0, .ref (g_ad X 0)), (1, .int x1)] [] := by
  have hN : ∀ i, Nat.blt i 3 = true → i < g_xn X := fun i h => by rw [hn]; exact g_blt.mp h
  refine r_aload_n O 0 dX0_canUnrig_0 rfl rfl ?_
  refine r_iload_n O 1 dX0_canUnrig_1 rfl rfl ?_
  refine r_callVi O [.int x1] [] (met_X0_isStanding (g_xl X) hs q m x1 (by first | decide | with_reducible assumption | with_reducible omega | (simp (disch := omega) only [g_upd_ne, g_upd_eq, fr_X4_fix, fr_X5_put, fr_X1_startAnew, fr_X1_walkTo, fr_X1_arrive, fr_X1_countBelow, fr_X3_set]; first | with_reducible assumption | with_reducible omega | decide) | exact Or.inl rfl | exact Or.inr rfl)) LX0_149 obj_0 rfl rfl rfl dX0_canUnrig_2 rfl rfl ?_
  refine r_if_eq O 21 dX0_canUnrig_5 (by decide) (fun c_5 => ?_) (fun c_5 => ?_)
  · have e_5 : (R_X0_isStanding m x1).toInt = (0 : Int) := j_eqR c_5 rfl
    refine r_iconst (x := 0) O dX0_canUnrig_21 rfl ?_
    exact r_iret O dX0_canUnrig_22 rfl (Nat.le_of_ble_eq_true rfl) (Nat.le_of_ble_eq_true rfl) rfl
  · have e_5 : (R_X0_isStanding m x1).toInt ≠ (0 : Int) := j_neR c_5 rfl
    obtain ⟨z_5a, z_5b⟩ := nz_X0_isStanding c_5
    refine r_aload_n O 0 dX0_canUnrig_8 rfl rfl ?_
    refine r_get O FX0_27 G_0_2 dX0_canUnrig_9 ?_
    refine r_iload_n O 1 dX0_canUnrig_12 rfl rfl ?_
    have hv1 : vp_in x1 6 := (show vp_in x1 6 from g_vin (by with_reducible omega) (by with_reducible omega))
    have hv1c := g_cl hv1
    refine r_aald O hv1 dX0_canUnrig_13 ?_
    refine r_get O FX0_166 (G_h (h := x1.toNatClampNeg) (j := 5) hv1c (by decide)) dX0_canUnrig_14 ?_
    refine r_iconst (x := (-1)) O dX0_canUnrig_17 rfl ?_
    refine r_icmp_eq O 23 dX0_canUnrig_18 (by decide) (fun c_18 => ?_) (fun c_18 => ?_)
    · have e_18 : (m (58 + 9 * x1.toNatClampNeg + 5)).toInt = (-1 : Int) := j_eqR c_18 rfl
      refine r_aload_n O 0 dX0_canUnrig_23 rfl rfl ?_
      refine r_get O FX0_27 G_0_2 dX0_canUnrig_24 ?_
      refine r_iload_n O 1 dX0_canUnrig_27 rfl rfl ?_
      have hv2 : vp_in x1 6 := (show vp_in x1 6 from g_vin (by with_reducible omega) (by with_reducible omega))
      have hv2c := g_cl hv2
      refine r_aald O hv2 dX0_canUnrig_28 ?_
      refine r_get O FX0_110 (G_h (h := x1.toNatClampNeg) (j := 1) hv2c (by decide)) dX0_canUnrig_29 ?_
      refine r_istore_n (lc' := [(2, .int (m (58 + 9 * x1.toNatClampNeg + 1))), (0, .ref (g_ad X 0)), (1, .int x1)]) O dX0_canUnrig_32 rfl (hN 2 rfl) rfl ?_
      refine r_aload_n O 1 dX0_canUnrig_33 rfl rfl ?_
      refine r_get O FX0_12 G_0_0 dX0_canUnrig_34 ?_
      refine r_iload_n O 0 dX0_canUnrig_37 rfl rfl ?_
      refine r_callVi O [.int (m (58 + 9 * x1.toNatClampNeg + 1))] [] (met_X4_ropeOf (g_xl X) hs q m (m (58 + 9 * x1.toNatClampNeg + 1)) (by first | decide | with_reducible assumption | with_reducible omega | (simp (disch := omega) only [g_upd_ne, g_upd_eq, fr_X4_fix, fr_X5_put, fr_X1_startAnew, fr_X1_walkTo, fr_X1_arrive, fr_X1_countBelow, fr_X3_set]; first | with_reducible assumption | with_reducible omega | decide) | exact Or.inl rfl | exact Or.inr rfl)) LX0_113 obj_1 rfl rfl rfl dX0_canUnrig_38 rfl rfl ?_
      refine r_iconst (x := (-1)) O dX0_canUnrig_41 rfl ?_
      refine r_icmp_eq O 57 dX0_canUnrig_42 (by decide) (fun c_42 => ?_) (fun c_42 => ?_)
      · have e_42 : (R_X4_ropeOf m (m (58 + 9 * x1.toNatClampNeg + 1))).toInt = (-1 : Int) := j_eqR c_42 rfl
        refine r_iconst (x := 0) O dX0_canUnrig_57 rfl ?_
        exact r_iret O dX0_canUnrig_58 rfl (Nat.le_of_ble_eq_true rfl) (Nat.le_of_ble_eq_true rfl) rfl
      · have e_42 : (R_X4_ropeOf m (m (58 + 9 * x1.toNatClampNeg + 1))).toInt ≠ (-1 : Int) := j_neR c_42 rfl
        refine r_aload_n O 1 dX0_canUnrig_45 rfl rfl ?_
        refine r_iload_n O 0 dX0_canUnrig_46 rfl rfl ?_
        refine r_callVi O [.int (m (58 + 9 * x1.toNatClampNeg + 1))] [] (met_X0_walkersThrough (g_xl X) hs q m (m (58 + 9 * x1.toNatClampNeg + 1)) (by first | decide | with_reducible assumption | with_reducible omega | (simp (disch := omega) only [g_upd_ne, g_upd_eq, fr_X4_fix, fr_X5_put, fr_X1_startAnew, fr_X1_walkTo, fr_X1_arrive, fr_X1_countBelow, fr_X3_set]; first | with_reducible assumption | with_reducible omega | decide) | exact Or.inl rfl | exact Or.inr rfl)) LX0_120 obj_0 rfl rfl rfl dX0_canUnrig_47 rfl rfl ?_
        refine r_if_ne O 57 dX0_canUnrig_50 (by decide) (fun c_50 => ?_) (fun c_50 => ?_)
        · have e_50 : (R_X0_walkersThrough m (m (58 + 9 * x1.toNatClampNeg + 1))).toInt = (0 : Int) := j_eqR c_50 rfl
          refine r_iconst (x := 1) O dX0_canUnrig_53 rfl ?_
          refine r_goto O 58 dX0_canUnrig_54 (by decide) ?_
          exact r_iret O dX0_canUnrig_58 rfl (Nat.le_of_ble_eq_true rfl) (Nat.le_of_ble_eq_true rfl) rfl
        · have e_50 : (R_X0_walkersThrough m (m (58 + 9 * x1.toNatClampNeg + 1))).toInt ≠ (0 : Int) := j_neR c_50 rfl
          refine r_iconst (x := 0) O dX0_canUnrig_57 rfl ?_
          exact r_iret O dX0_canUnrig_58 rfl (Nat.le_of_ble_eq_true rfl) (Nat.le_of_ble_eq_true rfl) rfl
    · have e_18 : (m (58 + 9 * x1.toNatClampNeg + 5)).toInt ≠ (-1 : Int) := j_neR c_18 rfl
      refine r_iconst (x := 0) O dX0_canUnrig_21 rfl ?_
      exact r_iret O dX0_canUnrig_22 rfl (Nat.le_of_ble_eq_true rfl) (Nat.le_of_ble_eq_true rfl) rfl
theorem met_X0_canUnrig (l : Launch) (hs : l.stackTraces = false) (q : g_q) (m : Nat → Int32) (x1 : Int32) (p0 : (m 0).toInt ≤ 7) (p1 : (m 2).toInt ≤ 6) : g_SM l yX0_canUnrig cX0_canUnrig 3 (some .boolean) ({ frames := 3, cells := 0, slots := 0, locals := 65 } : Room) (fun ad => [.ref (ad 0), .int x1]) m q ((fun r : Int32 => ((.inl (some (.int r)), (m, q)) : g_Res)) (R_X0_canUnrig m x1)) :=
  g_sm_of (by decide) (fun _ => Nat.le_of_ble_eq_true rfl) hs (fun X hl hn O => walk_X0_canUnrig O (by rw [hl]; exact hs) hn p0 p1)
def R_X0_unrig (m : Nat → Int32) (x1 : Int32) : (Int32 × (Nat → Int32)) := ((R_X4_ropeOf m (m (58 + 9 * x1.toNatClampNeg + 1))), (R_X0_takeRope (R_X4_fix m (m (58 + 9 * x1.toNatClampNeg + 1)) (-1)) x1 (R_X4_ropeOf m (m (58 + 9 * x1.toNatClampNeg + 1)))))
set_option maxRecDepth 100000 in
set_option maxHeartbeats 4000000 in
theorem walk_X0_unrig {X : g_X} (O : g_ok X cX0_unrig RX0 (some .int) ({ frames := 3, cells := 0, slots := 0, locals := 66 } : Room)) (hs : (g_xl X).stackTraces = false) (hn : g_xn X = 4) {q : g_q} {m : Nat → Int32} {x1 : Int32} (p0 : 0 ≤ x1.toInt) (p1 : x1.toInt < 6) (p2 : (m 0).toInt ≤ 7) (p3 : (m 1).toInt ≤ 8) : g_V X (fun r : Int32 × (Nat → Int32) => ((.inl (some (.int r.1)), (r.2, q)) : g_Res)) (R_X0_unrig m x1) 0 0 m q 0 [(0, .ref (g_ad X 0)), (1, .int x1)] [] := by
  have hN : ∀ i, Nat.blt i 4 = true → i < g_xn X := fun i h => by rw [hn]; exact g_blt.mp h
  refine r_aload_n O 0 dX0_unrig_0 rfl rfl ?_
  refine r_get O FX0_27 G_0_2 dX0_unrig_1 ?_
  refine r_iload_n O 1 dX0_unrig_4 rfl rfl ?_
  have hv1 : vp_in x1 6 := (show vp_in x1 6 from g_vin (by with_reducible omega) (by with_reducible omega))
  have hv1c := g_cl hv1
  refine r_aald O hv1 dX0_unrig_5 ?_
  refine r_get O FX0_110 (G_h (h := x1.toNatClampNeg) (j := 1) hv1c (by decide)) dX0_unrig_6 ?_
  refine r_istore_n (lc' := [(2, .int (m (58 + 9 * x1.toNatClampNeg + 1))), (0, .ref (g_ad X 0)), (1, .int x1)]) O dX0_unrig_9 rfl (hN 2 rfl) rfl ?_
  refine r_aload_n O 1 dX0_unrig_10 rfl rfl ?_
  refine r_get O FX0_12 G_0_0 dX0_unrig_11 ?_
  refine r_iload_n O 0 dX0_unrig_14 rfl rfl ?_
  refine r_callVi O [.int (m (58 + 9 * x1.toNatClampNeg + 1))] [] (met_X4_ropeOf (g_xl X) hs q m (m (58 + 9 * x1.toNatClampNeg + 1)) (by first | decide | with_reducible assumption | with_reducible omega | (simp (disch := omega) only [g_upd_ne, g_upd_eq, fr_X4_fix, fr_X5_put, fr_X1_startAnew, fr_X1_walkTo, fr_X1_arrive, fr_X1_countBelow, fr_X3_set]; first | with_reducible assumption | with_reducible omega | decide) | exact Or.inl rfl | exact Or.inr rfl)) LX0_113 obj_1 rfl rfl rfl dX0_unrig_15 rfl rfl ?_
  refine r_istore_n (lc' := [(3, .int (R_X4_ropeOf m (m (58 + 9 * x1.toNatClampNeg + 1)))), (2, .int (m (58 + 9 * x1.toNatClampNeg + 1))), (0, .ref (g_ad X 0)), (1, .int x1)]) O dX0_unrig_18 rfl (hN 3 rfl) rfl ?_
  refine r_aload_n O 2 dX0_unrig_19 rfl rfl ?_
  refine r_get O FX0_12 G_0_0 dX0_unrig_20 ?_
  refine r_iload_n O 1 dX0_unrig_23 rfl rfl ?_
  refine r_iconst (x := (-1)) O dX0_unrig_24 rfl ?_
  refine r_callVv O [.int (m (58 + 9 * x1.toNatClampNeg + 1)), .int (-1)] [] (met_X4_fix (g_xl X) hs q m (m (58 + 9 * x1.toNatClampNeg + 1)) (-1) (by first | decide | with_reducible assumption | with_reducible omega | (simp (disch := omega) only [g_upd_ne, g_upd_eq, fr_X4_fix, fr_X5_put, fr_X1_startAnew, fr_X1_walkTo, fr_X1_arrive, fr_X1_countBelow, fr_X3_set]; first | with_reducible assumption | with_reducible omega | decide) | exact Or.inl rfl | exact Or.inr rfl)) LX0_189 obj_1 rfl rfl rfl dX0_unrig_25 rfl rfl ?_
  refine r_aload_n O 2 dX0_unrig_28 rfl rfl ?_
  refine r_iload_n O 3 dX0_unrig_29 rfl rfl ?_
  refine r_iload_n O 0 dX0_unrig_30 rfl rfl ?_
  refine r_callVv O [.int x1, .int (R_X4_ropeOf m (m (58 + 9 * x1.toNatClampNeg + 1)))] [] (met_X0_takeRope (g_xl X) hs q (R_X4_fix m (m (58 + 9 * x1.toNatClampNeg + 1)) (-1)) x1 (R_X4_ropeOf m (m (58 + 9 * x1.toNatClampNeg + 1))) (by first | decide | with_reducible assumption | with_reducible omega | (simp (disch := omega) only [g_upd_ne, g_upd_eq, fr_X4_fix, fr_X5_put, fr_X1_startAnew, fr_X1_walkTo, fr_X1_arrive, fr_X1_countBelow, fr_X3_set]; first | with_reducible assumption | with_reducible omega | decide) | exact Or.inl rfl | exact Or.inr rfl) (by first | decide | with_reducible assumption | with_reducible omega | (simp (disch := omega) only [g_upd_ne, g_upd_eq, fr_X4_fix, fr_X5_put, fr_X1_startAnew, fr_X1_walkTo, fr_X1_arrive, fr_X1_countBelow, fr_X3_set]; first | with_reducible assumption | with_reducible omega | decide) | exact Or.inl rfl | exact Or.inr rfl) (by first | decide | with_reducible assumption | with_reducible omega | (simp (disch := omega) only [g_upd_ne, g_upd_eq, fr_X4_fix, fr_X5_put, fr_X1_startAnew, fr_X1_walkTo, fr_X1_arrive, fr_X1_countBelow, fr_X3_set]; first | with_reducible assumption | with_reducible omega | decide) | exact Or.inl rfl | exact Or.inr rfl)) LX0_192 obj_0 rfl rfl rfl dX0_unrig_31 rfl rfl ?_
  refine r_iload_n O 0 dX0_unrig_34 rfl rfl ?_
  exact r_iret O dX0_unrig_35 rfl (Nat.le_of_ble_eq_true rfl) (Nat.le_of_ble_eq_true rfl) rfl
theorem met_X0_unrig (l : Launch) (hs : l.stackTraces = false) (q : g_q) (m : Nat → Int32) (x1 : Int32) (p0 : 0 ≤ x1.toInt) (p1 : x1.toInt < 6) (p2 : (m 0).toInt ≤ 7) (p3 : (m 1).toInt ≤ 8) : g_SM l yX0_unrig cX0_unrig 4 (some .int) ({ frames := 3, cells := 0, slots := 0, locals := 66 } : Room) (fun ad => [.ref (ad 0), .int x1]) m q ((fun r : Int32 × (Nat → Int32) => ((.inl (some (.int r.1)), (r.2, q)) : g_Res)) (R_X0_unrig m x1)) :=
  g_sm_of (by decide) (fun _ => Nat.le_of_ble_eq_true rfl) hs (fun X hl hn O => walk_X0_unrig O (by rw [hl]; exact hs) hn p0 p1 p2 p3)
def R_X0_isTeam (m : Nat → Int32) (x1 : Int32) : Int32 := (if x1 < 0 then 0 else (if (1 <<< ((m 2) &&& 31)) ≤ x1 then 0 else (if (R_J6_bitCount_0f7a4 m x1) < 3 then 0 else 1)))
set_option maxRecDepth 100000 in
set_option maxHeartbeats 4000000 in
theorem walk_X0_isTeam {X : g_X} (O : g_ok X cX0_isTeam RX0 (some .boolean) ({ frames := 1, cells := 0, slots := 0, locals := 20 } : Room)) (hs : (g_xl X).stackTraces = false) (hn : g_xn X = 2) {q : g_q} {m : Nat → Int32} {x1 : Int32}  : g_V X (fun r : Int32 => ((.inl (some (.int r)), (m, q)) : g_Res)) (R_X0_isTeam m x1) 0 0 m q 0 [(0, .ref (g_ad X 0)), (1, .int x1)] [] := by
  have hN : ∀ i, Nat.blt i 2 = true → i < g_xn X := fun i h => by rw [hn]; exact g_blt.mp h
  refine r_iload_n O 1 dX0_isTeam_0 rfl rfl ?_
  refine r_if_lt O 26 dX0_isTeam_1 (by decide) (fun c_1 => ?_) (fun c_1 => ?_)
  · have e_1 : (x1).toInt < (0 : Int) := j_ltR c_1 rfl
    refine r_iconst (x := 0) O dX0_isTeam_26 rfl ?_
    exact r_iret O dX0_isTeam_27 rfl (Nat.le_of_ble_eq_true rfl) (Nat.le_of_ble_eq_true rfl) rfl
  · have e_1 : (0 : Int) ≤ (x1).toInt := j_nltR c_1 rfl
    refine r_iload_n O 1 dX0_isTeam_4 rfl rfl ?_
    refine r_iconst (x := 1) O dX0_isTeam_5 rfl ?_
    refine r_aload_n O 0 dX0_isTeam_6 rfl rfl ?_
    refine r_get O FX0_31 G_0_3 dX0_isTeam_7 ?_
    refine r_ishl O dX0_isTeam_10 ?_
    refine r_icmp_ge O 26 dX0_isTeam_11 (by decide) (fun c_11 => ?_) (fun c_11 => ?_)
    · have e_11 : (1 <<< ((m 2) &&& 31)).toInt ≤ (x1).toInt := j_le c_11
      refine r_iconst (x := 0) O dX0_isTeam_26 rfl ?_
      exact r_iret O dX0_isTeam_27 rfl (Nat.le_of_ble_eq_true rfl) (Nat.le_of_ble_eq_true rfl) rfl
    · have e_11 : (x1).toInt < (1 <<< ((m 2) &&& 31)).toInt := j_nle c_11
      refine r_iload_n O 1 dX0_isTeam_14 rfl rfl ?_
      refine r_callSi O [.int x1] [] (met_J6_bitCount_0f7a4 (g_xl X) hs q m x1 ) LX0_195 rfl rfl rfl dX0_isTeam_15 rfl rfl ?_
      refine r_iconst (x := 3) O dX0_isTeam_18 rfl ?_
      refine r_icmp_lt O 26 dX0_isTeam_19 (by decide) (fun c_19 => ?_) (fun c_19 => ?_)
      · have e_19 : (R_J6_bitCount_0f7a4 m x1).toInt < (3 : Int) := j_ltR c_19 rfl
        refine r_iconst (x := 0) O dX0_isTeam_26 rfl ?_
        exact r_iret O dX0_isTeam_27 rfl (Nat.le_of_ble_eq_true rfl) (Nat.le_of_ble_eq_true rfl) rfl
      · have e_19 : (3 : Int) ≤ (R_J6_bitCount_0f7a4 m x1).toInt := j_nltR c_19 rfl
        refine r_iconst (x := 1) O dX0_isTeam_22 rfl ?_
        refine r_goto O 27 dX0_isTeam_23 (by decide) ?_
        exact r_iret O dX0_isTeam_27 rfl (Nat.le_of_ble_eq_true rfl) (Nat.le_of_ble_eq_true rfl) rfl
theorem met_X0_isTeam (l : Launch) (hs : l.stackTraces = false) (q : g_q) (m : Nat → Int32) (x1 : Int32)  : g_SM l yX0_isTeam cX0_isTeam 2 (some .boolean) ({ frames := 1, cells := 0, slots := 0, locals := 20 } : Room) (fun ad => [.ref (ad 0), .int x1]) m q ((fun r : Int32 => ((.inl (some (.int r)), (m, q)) : g_Res)) (R_X0_isTeam m x1)) :=
  g_sm_of (by decide) (fun _ => Nat.le_of_ble_eq_true rfl) hs (fun X hl hn O => walk_X0_isTeam O (by rw [hl]; exact hs) hn )
def R_X0_fitCarriers_124 (K_52 : Int32 → Nat → Int32) (n : Nat) (v2_124 : Int32) : Int32 := (K_52 v2_124 (n + 1))
def R_X0_fitCarriers_52 (m : Nat → Int32) : Nat → Int32 → Nat → Int32
  | 0, _, _ => 0
  | f + 1, v2_52, n => (if (m 2) ≤ (nI n) then v2_52 else (if (m (58 + 9 * ((nI n).toNatClampNeg) + 2)) = 0 then (if (m (58 + 9 * ((nI n).toNatClampNeg) + 1)) = (m 4) then (if 100 < ((m (58 + 9 * ((nI n).toNatClampNeg) + 6)) + (2 * (3 * (R_X4_minutesOf m ((m 4) - 1))))) then (R_X0_fitCarriers_124 (R_X0_fitCarriers_52 m f) n v2_52) else (if (R_X0_isInTime m ((nI n).toNatClampNeg) ((m 4) - 1) (3 * (R_X4_minutesOf m ((m 4) - 1)))) = 0 then (R_X0_fitCarriers_124 (R_X0_fitCarriers_52 m f) n v2_52) else (R_X0_fitCarriers_124 (R_X0_fitCarriers_52 m f) n (v2_52 ||| (1 <<< ((nI n) &&& 31)))))) else (R_X0_fitCarriers_124 (R_X0_fitCarriers_52 m f) n v2_52)) else (R_X0_fitCarriers_124 (R_X0_fitCarriers_52 m f) n v2_52)))
def R_X0_fitCarriers (m : Nat → Int32) : Int32 := (if (m 5) = 0 then (if (m 4) = 0 then 0 else (if (R_X4_isOpen m ((m 4) - 1)) = 0 then 0 else (R_X0_fitCarriers_52 m 7 0 0))) else 0)
set_option maxRecDepth 100000 in
set_option maxHeartbeats 4000000 in
theorem walk_X0_fitCarriers {X : g_X} (O : g_ok X cX0_fitCarriers RX0 (some .int) ({ frames := 2, cells := 0, slots := 0, locals := 46 } : Room)) (hs : (g_xl X).stackTraces = false) (hn : g_xn X = 5) {q : g_q} {m : Nat → Int32} (p0 : (m 0).toInt ≤ 7) (p1 : (m 2).toInt ≤ 6) : g_V X (fun r : Int32 => ((.inl (some (.int r)), (m, q)) : g_Res)) (R_X0_fitCarriers m) 0 0 m q 0 [(0, .ref (g_ad X 0))] [] := by
  have hN : ∀ i, Nat.blt i 5 = true → i < g_xn X := fun i h => by rw [hn]; exact g_blt.mp h
  refine r_aload_n O 0 dX0_fitCarriers_0 rfl rfl ?_
  refine r_get O FX0_55 G_0_8 dX0_fitCarriers_1 ?_
  refine r_if_ne O 30 dX0_fitCarriers_4 (by decide) (fun c_4 => ?_) (fun c_4 => ?_)
  · have e_4 : (m 5).toInt = (0 : Int) := j_eqR c_4 rfl
    refine r_aload_n O 0 dX0_fitCarriers_7 rfl rfl ?_
    refine r_get O FX0_52 G_0_7 dX0_fitCarriers_8 ?_
    refine r_if_eq O 30 dX0_fitCarriers_11 (by decide) (fun c_11 => ?_) (fun c_11 => ?_)
    · have e_11 : (m 4).toInt = (0 : Int) := j_eqR c_11 rfl
      refine r_iconst (x := 0) O dX0_fitCarriers_30 rfl ?_
      exact r_iret O dX0_fitCarriers_31 rfl (Nat.le_of_ble_eq_true rfl) (Nat.le_of_ble_eq_true rfl) rfl
    · have e_11 : (m 4).toInt ≠ (0 : Int) := j_neR c_11 rfl
      refine r_aload_n O 0 dX0_fitCarriers_14 rfl rfl ?_
      refine r_get O FX0_12 G_0_0 dX0_fitCarriers_15 ?_
      refine r_aload_n O 0 dX0_fitCarriers_18 rfl rfl ?_
      refine r_get O FX0_52 G_0_7 dX0_fitCarriers_19 ?_
      refine r_iconst (x := 1) O dX0_fitCarriers_22 rfl ?_
      refine r_isub O dX0_fitCarriers_23 ?_
      refine r_callVi O [.int ((m 4) - 1)] [] (met_X4_isOpen (g_xl X) hs q m ((m 4) - 1) (by first | decide | with_reducible assumption | with_reducible omega | (simp (disch := omega) only [g_upd_ne, g_upd_eq, fr_X4_fix, fr_X5_put, fr_X1_startAnew, fr_X1_walkTo, fr_X1_arrive, fr_X1_countBelow, fr_X3_set]; first | with_reducible assumption | with_reducible omega | decide) | exact Or.inl rfl | exact Or.inr rfl)) LX0_133 obj_1 rfl rfl rfl dX0_fitCarriers_24 rfl rfl ?_
      refine r_if_ne O 32 dX0_fitCarriers_27 (by decide) (fun c_27 => ?_) (fun c_27 => ?_)
      · have e_27 : (R_X4_isOpen m ((m 4) - 1)).toInt = (0 : Int) := j_eqR c_27 rfl
        refine r_iconst (x := 0) O dX0_fitCarriers_30 rfl ?_
        exact r_iret O dX0_fitCarriers_31 rfl (Nat.le_of_ble_eq_true rfl) (Nat.le_of_ble_eq_true rfl) rfl
      · have e_27 : (R_X4_isOpen m ((m 4) - 1)).toInt ≠ (0 : Int) := j_neR c_27 rfl
        refine r_iconst (x := 3) O dX0_fitCarriers_32 rfl ?_
        refine r_aload_n O 0 dX0_fitCarriers_33 rfl rfl ?_
        refine r_get O FX0_12 G_0_0 dX0_fitCarriers_34 ?_
        refine r_aload_n O 0 dX0_fitCarriers_37 rfl rfl ?_
        refine r_get O FX0_52 G_0_7 dX0_fitCarriers_38 ?_
        refine r_iconst (x := 1) O dX0_fitCarriers_41 rfl ?_
        refine r_isub O dX0_fitCarriers_42 ?_
        refine r_callVi O [.int ((m 4) - 1)] [.int 3] (met_X4_minutesOf (g_xl X) hs q m ((m 4) - 1) (by first | decide | with_reducible assumption | with_reducible omega | (simp (disch := omega) only [g_upd_ne, g_upd_eq, fr_X4_fix, fr_X5_put, fr_X1_startAnew, fr_X1_walkTo, fr_X1_arrive, fr_X1_countBelow, fr_X3_set]; first | with_reducible assumption | with_reducible omega | decide) | exact Or.inl rfl | exact Or.inr rfl)) LX0_136 obj_1 rfl rfl rfl dX0_fitCarriers_43 rfl rfl ?_
        refine r_imul O dX0_fitCarriers_46 ?_
        refine r_istore_n (lc' := [(1, .int (3 * (R_X4_minutesOf m ((m 4) - 1)))), (0, .ref (g_ad X 0))]) O dX0_fitCarriers_47 rfl (hN 1 rfl) rfl ?_
        refine r_iconst (x := 0) O dX0_fitCarriers_48 rfl ?_
        refine r_istore_n (lc' := [(2, .int 0), (1, .int (3 * (R_X4_minutesOf m ((m 4) - 1)))), (0, .ref (g_ad X 0))]) O dX0_fitCarriers_49 rfl (hN 2 rfl) rfl ?_
        refine r_iconst (x := 0) O dX0_fitCarriers_50 rfl ?_
        refine r_istore_n (lc' := [(3, .int 0), (2, .int 0), (1, .int (3 * (R_X4_minutesOf m ((m 4) - 1)))), (0, .ref (g_ad X 0))]) O dX0_fitCarriers_51 rfl (hN 3 rfl) rfl ?_
        have L_52 : ∀ (f_52 : Nat) (v2_52 : Int32) (n : Nat) (hi_52 : n ≤ 6 ∧ 6 < f_52 + n), g_V X (fun r : Int32 => ((.inl (some (.int r)), (m, q)) : g_Res)) (R_X0_fitCarriers_52 m f_52 v2_52 n) 0 0 m q 52 [(0, .ref (g_ad X 0)), (1, .int (3 * (R_X4_minutesOf m ((m 4) - 1)))), (2, .int v2_52), (3, .int (nI n))] [] := by
          intro f_52
          induction f_52 with
          | zero => intro v2_52 n hi_52; exact absurd hi_52 (by omega)
          | succ f_52 ih_52 =>
            intro v2_52 n hi_52
            have hc_n : (nI n).toInt = (n : Int) := nI_toInt (by omega)
            refine r_iload_n O 3 dX0_fitCarriers_52 rfl rfl ?_
            refine r_aload_n O 0 dX0_fitCarriers_53 rfl rfl ?_
            refine r_get O FX0_31 G_0_3 dX0_fitCarriers_54 ?_
            refine r_icmp_ge O 130 dX0_fitCarriers_57 (by decide) (fun c_57 => ?_) (fun c_57 => ?_)
            · have e_57 : (m 2).toInt ≤ (nI n).toInt := j_le c_57
              refine r_iload_n O 2 dX0_fitCarriers_130 rfl rfl ?_
              exact r_iret O dX0_fitCarriers_131 rfl (Nat.le_of_ble_eq_true rfl) (Nat.le_of_ble_eq_true rfl) rfl
            · have e_57 : (nI n).toInt < (m 2).toInt := j_nle c_57
              refine r_aload_n O 0 dX0_fitCarriers_60 rfl rfl ?_
              refine r_get O FX0_27 G_0_2 dX0_fitCarriers_61 ?_
              refine r_iload_n O 3 dX0_fitCarriers_64 rfl rfl ?_
              have hv1 : vp_in (nI n) 6 := (show vp_in (nI n) 6 from g_vin (by with_reducible omega) (by with_reducible omega))
              have hv1c := g_cl hv1
              refine r_aald O hv1 dX0_fitCarriers_65 ?_
              refine r_astore (lc' := [(4, .ref (g_ad X (10 + (nI n).toNatClampNeg))), (0, .ref (g_ad X 0)), (1, .int (3 * (R_X4_minutesOf m ((m 4) - 1)))), (2, .int v2_52), (3, .int (nI n))]) O dX0_fitCarriers_66 (hN 4 rfl) rfl ?_
              refine r_aload O 0 dX0_fitCarriers_68 rfl ?_
              refine r_get O FX0_103 (G_h (h := ((nI n).toNatClampNeg)) (j := 2) hv1c (by decide)) dX0_fitCarriers_70 ?_
              have J_124 : ∀ (v2_124 : Int32), g_V X (fun r : Int32 => ((.inl (some (.int r)), (m, q)) : g_Res)) (R_X0_fitCarriers_124 ((R_X0_fitCarriers_52 m f_52)) n v2_124) 0 0 m q 124 [(0, .ref (g_ad X 0)), (1, .int (3 * (R_X4_minutesOf m ((m 4) - 1)))), (2, .int v2_124), (3, .int (nI n))] [] := by
                intro v2_124
                refine r_iinc (lc' := [(3, .int (nI (n + 1))), (0, .ref (g_ad X 0)), (1, .int (3 * (R_X4_minutesOf m ((m 4) - 1)))), (2, .int v2_124)]) O 3 dX0_fitCarriers_124 rfl (nI_1 n) (hN 3 rfl) rfl ?_
                refine r_goto O 52 dX0_fitCarriers_127 (by decide) ?_
                refine r_sub [1, 2, 3, 0] rfl ?_
                exact ih_52 v2_124 (n + 1) (by with_reducible omega)
              refine r_if_ne O 124 dX0_fitCarriers_73 (by decide) (fun c_73 => ?_) (fun c_73 => ?_)
              · have e_73 : (m (58 + 9 * ((nI n).toNatClampNeg) + 2)).toInt = (0 : Int) := j_eqR c_73 rfl
                refine r_aload O 0 dX0_fitCarriers_76 rfl ?_
                refine r_get O FX0_110 (G_h (h := ((nI n).toNatClampNeg)) (j := 1) hv1c (by decide)) dX0_fitCarriers_78 ?_
                refine r_aload_n O 1 dX0_fitCarriers_81 rfl rfl ?_
                refine r_get O FX0_52 G_0_7 dX0_fitCarriers_82 ?_
                refine r_icmp_ne O 124 dX0_fitCarriers_85 (by decide) (fun c_85 => ?_) (fun c_85 => ?_)
                · have e_85 : (m (58 + 9 * ((nI n).toNatClampNeg) + 1)).toInt = (m 4).toInt := j_eq c_85
                  refine r_aload O 0 dX0_fitCarriers_88 rfl ?_
                  refine r_get O FX0_142 (G_h (h := ((nI n).toNatClampNeg)) (j := 6) hv1c (by decide)) dX0_fitCarriers_90 ?_
                  refine r_iconst (x := 2) O dX0_fitCarriers_93 rfl ?_
                  refine r_iload_n O 2 dX0_fitCarriers_94 rfl rfl ?_
                  refine r_imul O dX0_fitCarriers_95 ?_
                  refine r_iadd O dX0_fitCarriers_96 ?_
                  refine r_bipush (x := 100) O dX0_fitCarriers_97 rfl ?_
                  refine r_icmp_gt O 124 dX0_fitCarriers_99 (by decide) (fun c_99 => ?_) (fun c_99 => ?_)
                  · have e_99 : (100 : Int) < ((m (58 + 9 * ((nI n).toNatClampNeg) + 6)) + (2 * (3 * (R_X4_minutesOf m ((m 4) - 1))))).toInt := j_ltL c_99 rfl
                    refine r_sub [1, 2, 3, 4] rfl ?_
                    exact J_124 v2_52
                  · have e_99 : ((m (58 + 9 * ((nI n).toNatClampNeg) + 6)) + (2 * (3 * (R_X4_minutesOf m ((m 4) - 1))))).toInt ≤ (100 : Int) := j_nltL c_99 rfl
                    refine r_aload_n O 1 dX0_fitCarriers_102 rfl rfl ?_
                    refine r_aload O 0 dX0_fitCarriers_103 rfl ?_
                    refine r_aload_n O 1 dX0_fitCarriers_105 rfl rfl ?_
                    refine r_get O FX0_52 G_0_7 dX0_fitCarriers_106 ?_
                    refine r_iconst (x := 1) O dX0_fitCarriers_109 rfl ?_
                    refine r_isub O dX0_fitCarriers_110 ?_
                    refine r_iload_n O 2 dX0_fitCarriers_111 rfl rfl ?_
                    refine r_callVi O [.ref (g_ad X (10 + (nI n).toNatClampNeg)), .int ((m 4) - 1), .int (3 * (R_X4_minutesOf m ((m 4) - 1)))] [] (met_X0_isInTime (g_xl X) hs q m ((nI n).toNatClampNeg) ((m 4) - 1) (3 * (R_X4_minutesOf m ((m 4) - 1))) hv1c (by first | decide | with_reducible assumption | with_reducible omega | (simp (disch := omega) only [g_upd_ne, g_upd_eq, fr_X4_fix, fr_X5_put, fr_X1_startAnew, fr_X1_walkTo, fr_X1_arrive, fr_X1_countBelow, fr_X3_set]; first | with_reducible assumption | with_reducible omega | decide) | exact Or.inl rfl | exact Or.inr rfl)) LX0_145 obj_0 rfl rfl rfl dX0_fitCarriers_112 rfl rfl ?_
                    refine r_if_eq O 124 dX0_fitCarriers_115 (by decide) (fun c_115 => ?_) (fun c_115 => ?_)
                    · have e_115 : (R_X0_isInTime m ((nI n).toNatClampNeg) ((m 4) - 1) (3 * (R_X4_minutesOf m ((m 4) - 1)))).toInt = (0 : Int) := j_eqR c_115 rfl
                      refine r_sub [1, 2, 3, 4] rfl ?_
                      exact J_124 v2_52
                    · have e_115 : (R_X0_isInTime m ((nI n).toNatClampNeg) ((m 4) - 1) (3 * (R_X4_minutesOf m ((m 4) - 1)))).toInt ≠ (0 : Int) := j_neR c_115 rfl
                      refine r_iload_n O 3 dX0_fitCarriers_118 rfl rfl ?_
                      refine r_iconst (x := 1) O dX0_fitCarriers_119 rfl ?_
                      refine r_iload_n O 4 dX0_fitCarriers_120 rfl rfl ?_
                      refine r_ishl O dX0_fitCarriers_121 ?_
                      refine r_ior O dX0_fitCarriers_122 ?_
                      refine r_istore_n (lc' := [(2, .int (v2_52 ||| (1 <<< ((nI n) &&& 31)))), (4, .ref (g_ad X (10 + (nI n).toNatClampNeg))), (0, .ref (g_ad X 0)), (1, .int (3 * (R_X4_minutesOf m ((m 4) - 1)))), (3, .int (nI n))]) O dX0_fitCarriers_123 rfl (hN 2 rfl) rfl ?_
                      refine r_sub [2, 3, 0, 4] rfl ?_
                      exact J_124 (v2_52 ||| (1 <<< ((nI n) &&& 31)))
                · have e_85 : (m (58 + 9 * ((nI n).toNatClampNeg) + 1)).toInt ≠ (m 4).toInt := j_ne c_85
                  refine r_sub [1, 2, 3, 4] rfl ?_
                  exact J_124 v2_52
              · have e_73 : (m (58 + 9 * ((nI n).toNatClampNeg) + 2)).toInt ≠ (0 : Int) := j_neR c_73 rfl
                refine r_sub [1, 2, 3, 4] rfl ?_
                exact J_124 v2_52
        refine r_sub [3, 2, 1, 0] rfl ?_
        exact L_52 7 0 0 (by with_reducible omega)
  · have e_4 : (m 5).toInt ≠ (0 : Int) := j_neR c_4 rfl
    refine r_iconst (x := 0) O dX0_fitCarriers_30 rfl ?_
    exact r_iret O dX0_fitCarriers_31 rfl (Nat.le_of_ble_eq_true rfl) (Nat.le_of_ble_eq_true rfl) rfl
theorem met_X0_fitCarriers (l : Launch) (hs : l.stackTraces = false) (q : g_q) (m : Nat → Int32) (p0 : (m 0).toInt ≤ 7) (p1 : (m 2).toInt ≤ 6) : g_SM l yX0_fitCarriers cX0_fitCarriers 5 (some .int) ({ frames := 2, cells := 0, slots := 0, locals := 46 } : Room) (fun ad => [.ref (ad 0)]) m q ((fun r : Int32 => ((.inl (some (.int r)), (m, q)) : g_Res)) (R_X0_fitCarriers m)) :=
  g_sm_of (by decide) (fun _ => Nat.le_of_ble_eq_true rfl) hs (fun X hl hn O => walk_X0_fitCarriers O (by rw [hl]; exact hs) hn p0 p1)
def R_X0_canCarry (m : Nat → Int32) (x1 : Int32) : Int32 := (if ((R_X0_fitCarriers m) &&& x1) = x1 then 1 else 0)
set_option maxRecDepth 100000 in
set_option maxHeartbeats 4000000 in
theorem walk_X0_canCarry {X : g_X} (O : g_ok X cX0_canCarry RX0 (some .boolean) ({ frames := 3, cells := 0, slots := 0, locals := 70 } : Room)) (hs : (g_xl X).stackTraces = false) (hn : g_xn X = 2) {q : g_q} {m : Nat → Int32} {x1 : Int32} (p0 : (m 0).toInt ≤ 7) (p1 : (m 2).toInt ≤ 6) : g_V X (fun r : Int32 => ((.inl (some (.int r)), (m, q)) : g_Res)) (R_X0_canCarry m x1) 0 0 m q 0 [(0, .ref (g_ad X 0)), (1, .int x1)] [] := by
  have hN : ∀ i, Nat.blt i 2 = true → i < g_xn X := fun i h => by rw [hn]; exact g_blt.mp h
  refine r_aload_n O 0 dX0_canCarry_0 rfl rfl ?_
  refine r_callVi O [] [] (met_X0_fitCarriers (g_xl X) hs q m (by first | decide | with_reducible assumption | with_reducible omega | (simp (disch := omega) only [g_upd_ne, g_upd_eq, fr_X4_fix, fr_X5_put, fr_X1_startAnew, fr_X1_walkTo, fr_X1_arrive, fr_X1_countBelow, fr_X3_set]; first | with_reducible assumption | with_reducible omega | decide) | exact Or.inl rfl | exact Or.inr rfl) (by first | decide | with_reducible assumption | with_reducible omega | (simp (disch := omega) only [g_upd_ne, g_upd_eq, fr_X4_fix, fr_X5_put, fr_X1_startAnew, fr_X1_walkTo, fr_X1_arrive, fr_X1_countBelow, fr_X3_set]; first | with_reducible assumption | with_reducible omega | decide) | exact Or.inl rfl | exact Or.inr rfl)) LX0_200 obj_0 rfl rfl rfl dX0_canCarry_1 rfl rfl ?_
  refine r_iload_n O 1 dX0_canCarry_4 rfl rfl ?_
  refine r_iand O dX0_canCarry_5 ?_
  refine r_iload_n O 1 dX0_canCarry_6 rfl rfl ?_
  refine r_icmp_ne O 14 dX0_canCarry_7 (by decide) (fun c_7 => ?_) (fun c_7 => ?_)
  · have e_7 : ((R_X0_fitCarriers m) &&& x1).toInt = (x1).toInt := j_eq c_7
    refine r_iconst (x := 1) O dX0_canCarry_10 rfl ?_
    refine r_goto O 15 dX0_canCarry_11 (by decide) ?_
    exact r_iret O dX0_canCarry_15 rfl (Nat.le_of_ble_eq_true rfl) (Nat.le_of_ble_eq_true rfl) rfl
  · have e_7 : ((R_X0_fitCarriers m) &&& x1).toInt ≠ (x1).toInt := j_ne c_7
    refine r_iconst (x := 0) O dX0_canCarry_14 rfl ?_
    exact r_iret O dX0_canCarry_15 rfl (Nat.le_of_ble_eq_true rfl) (Nat.le_of_ble_eq_true rfl) rfl
theorem met_X0_canCarry (l : Launch) (hs : l.stackTraces = false) (q : g_q) (m : Nat → Int32) (x1 : Int32) (p0 : (m 0).toInt ≤ 7) (p1 : (m 2).toInt ≤ 6) : g_SM l yX0_canCarry cX0_canCarry 2 (some .boolean) ({ frames := 3, cells := 0, slots := 0, locals := 70 } : Room) (fun ad => [.ref (ad 0), .int x1]) m q ((fun r : Int32 => ((.inl (some (.int r)), (m, q)) : g_Res)) (R_X0_canCarry m x1)) :=
  g_sm_of (by decide) (fun _ => Nat.le_of_ble_eq_true rfl) hs (fun X hl hn O => walk_X0_canCarry O (by rw [hl]; exact hs) hn p0 p1)
def R_X0_canSend (m : Nat → Int32) (x1 : Int32) : Int32 := (if (R_X0_isStanding m x1) = 0 then 0 else (if (m 6) < 10 then 1 else (if (m (58 + 9 * x1.toNatClampNeg + 1)) = 0 then 1 else 0)))
set_option maxRecDepth 100000 in
set_option maxHeartbeats 4000000 in
theorem walk_X0_canSend {X : g_X} (O : g_ok X cX0_canSend RX0 (some .boolean) ({ frames := 1, cells := 0, slots := 0, locals := 21 } : Room)) (hs : (g_xl X).stackTraces = false) (hn : g_xn X = 2) {q : g_q} {m : Nat → Int32} {x1 : Int32} (p0 : (m 2).toInt ≤ 6) : g_V X (fun r : Int32 => ((.inl (some (.int r)), (m, q)) : g_Res)) (R_X0_canSend m x1) 0 0 m q 0 [(0, .ref (g_ad X 0)), (1, .int x1)] [] := by
  have hN : ∀ i, Nat.blt i 2 = true → i < g_xn X := fun i h => by rw [hn]; exact g_blt.mp h
  refine r_aload_n O 0 dX0_canSend_0 rfl rfl ?_
  refine r_iload_n O 1 dX0_canSend_1 rfl rfl ?_
  refine r_callVi O [.int x1] [] (met_X0_isStanding (g_xl X) hs q m x1 (by first | decide | with_reducible assumption | with_reducible omega | (simp (disch := omega) only [g_upd_ne, g_upd_eq, fr_X4_fix, fr_X5_put, fr_X1_startAnew, fr_X1_walkTo, fr_X1_arrive, fr_X1_countBelow, fr_X3_set]; first | with_reducible assumption | with_reducible omega | decide) | exact Or.inl rfl | exact Or.inr rfl)) LX0_149 obj_0 rfl rfl rfl dX0_canSend_2 rfl rfl ?_
  refine r_if_eq O 36 dX0_canSend_5 (by decide) (fun c_5 => ?_) (fun c_5 => ?_)
  · have e_5 : (R_X0_isStanding m x1).toInt = (0 : Int) := j_eqR c_5 rfl
    refine r_iconst (x := 0) O dX0_canSend_36 rfl ?_
    exact r_iret O dX0_canSend_37 rfl (Nat.le_of_ble_eq_true rfl) (Nat.le_of_ble_eq_true rfl) rfl
  · have e_5 : (R_X0_isStanding m x1).toInt ≠ (0 : Int) := j_neR c_5 rfl
    obtain ⟨z_5a, z_5b⟩ := nz_X0_isStanding c_5
    refine r_aload_n O 0 dX0_canSend_8 rfl rfl ?_
    refine r_get O FX0_38 G_0_4 dX0_canSend_9 ?_
    refine r_get O FX0_76 G_16_3 dX0_canSend_12 ?_
    refine r_bipush (x := 10) O dX0_canSend_15 rfl ?_
    refine r_icmp_lt O 32 dX0_canSend_17 (by decide) (fun c_17 => ?_) (fun c_17 => ?_)
    · have e_17 : (m 6).toInt < (10 : Int) := j_ltR c_17 rfl
      refine r_iconst (x := 1) O dX0_canSend_32 rfl ?_
      refine r_goto O 37 dX0_canSend_33 (by decide) ?_
      exact r_iret O dX0_canSend_37 rfl (Nat.le_of_ble_eq_true rfl) (Nat.le_of_ble_eq_true rfl) rfl
    · have e_17 : (10 : Int) ≤ (m 6).toInt := j_nltR c_17 rfl
      refine r_aload_n O 0 dX0_canSend_20 rfl rfl ?_
      refine r_get O FX0_27 G_0_2 dX0_canSend_21 ?_
      refine r_iload_n O 1 dX0_canSend_24 rfl rfl ?_
      have hv1 : vp_in x1 6 := (show vp_in x1 6 from g_vin (by with_reducible omega) (by with_reducible omega))
      have hv1c := g_cl hv1
      refine r_aald O hv1 dX0_canSend_25 ?_
      refine r_get O FX0_110 (G_h (h := x1.toNatClampNeg) (j := 1) hv1c (by decide)) dX0_canSend_26 ?_
      refine r_if_ne O 36 dX0_canSend_29 (by decide) (fun c_29 => ?_) (fun c_29 => ?_)
      · have e_29 : (m (58 + 9 * x1.toNatClampNeg + 1)).toInt = (0 : Int) := j_eqR c_29 rfl
        refine r_iconst (x := 1) O dX0_canSend_32 rfl ?_
        refine r_goto O 37 dX0_canSend_33 (by decide) ?_
        exact r_iret O dX0_canSend_37 rfl (Nat.le_of_ble_eq_true rfl) (Nat.le_of_ble_eq_true rfl) rfl
      · have e_29 : (m (58 + 9 * x1.toNatClampNeg + 1)).toInt ≠ (0 : Int) := j_neR c_29 rfl
        refine r_iconst (x := 0) O dX0_canSend_36 rfl ?_
        exact r_iret O dX0_canSend_37 rfl (Nat.le_of_ble_eq_true rfl) (Nat.le_of_ble_eq_true rfl) rfl
theorem met_X0_canSend (l : Launch) (hs : l.stackTraces = false) (q : g_q) (m : Nat → Int32) (x1 : Int32) (p0 : (m 2).toInt ≤ 6) : g_SM l yX0_canSend cX0_canSend 2 (some .boolean) ({ frames := 1, cells := 0, slots := 0, locals := 21 } : Room) (fun ad => [.ref (ad 0), .int x1]) m q ((fun r : Int32 => ((.inl (some (.int r)), (m, q)) : g_Res)) (R_X0_canSend m x1)) :=
  g_sm_of (by decide) (fun _ => Nat.le_of_ble_eq_true rfl) hs (fun X hl hn O => walk_X0_canSend O (by rw [hl]; exact hs) hn p0)
def R_X0_sendFrom (m : Nat → Int32) (x1 : Int32) : (Nat → Int32) := (if (m (58 + 9 * x1.toNatClampNeg + 1)) = 0 then (upd m 7 ((m 7) + 1)) else (R_X3_add m x1 (m 3) (m (58 + 9 * x1.toNatClampNeg + 1))))
set_option maxRecDepth 100000 in
set_option maxHeartbeats 4000000 in
theorem walk_X0_sendFrom {X : g_X} (O : g_ok X cX0_sendFrom RX0 none ({ frames := 2, cells := 0, slots := 0, locals := 47 } : Room)) (hs : (g_xl X).stackTraces = false) (hn : g_xn X = 3) {q : g_q} {m : Nat → Int32} {x1 : Int32} (p0 : 0 ≤ x1.toInt) (p1 : x1.toInt < 6) (p2 : 0 ≤ (m 6).toInt) (p3 : (m 6).toInt ≤ 10) : g_V X (fun r : Nat → Int32 => ((.inl none, (r, q)) : g_Res)) (R_X0_sendFrom m x1) 0 0 m q 0 [(0, .ref (g_ad X 0)), (1, .int x1)] [] := by
  have hN : ∀ i, Nat.blt i 3 = true → i < g_xn X := fun i h => by rw [hn]; exact g_blt.mp h
  refine r_aload_n O 0 dX0_sendFrom_0 rfl rfl ?_
  refine r_get O FX0_27 G_0_2 dX0_sendFrom_1 ?_
  refine r_iload_n O 1 dX0_sendFrom_4 rfl rfl ?_
  have hv1 : vp_in x1 6 := (show vp_in x1 6 from g_vin (by with_reducible omega) (by with_reducible omega))
  have hv1c := g_cl hv1
  refine r_aald O hv1 dX0_sendFrom_5 ?_
  refine r_get O FX0_110 (G_h (h := x1.toNatClampNeg) (j := 1) hv1c (by decide)) dX0_sendFrom_6 ?_
  refine r_istore_n (lc' := [(2, .int (m (58 + 9 * x1.toNatClampNeg + 1))), (0, .ref (g_ad X 0)), (1, .int x1)]) O dX0_sendFrom_9 rfl (hN 2 rfl) rfl ?_
  refine r_iload_n O 0 dX0_sendFrom_10 rfl rfl ?_
  refine r_if_ne O 30 dX0_sendFrom_11 (by decide) (fun c_11 => ?_) (fun c_11 => ?_)
  · have e_11 : (m (58 + 9 * x1.toNatClampNeg + 1)).toInt = (0 : Int) := j_eqR c_11 rfl
    refine r_aload_n O 1 dX0_sendFrom_14 rfl rfl ?_
    refine r_get O FX0_38 G_0_4 dX0_sendFrom_15 ?_
    refine r_dup O dX0_sendFrom_18 rfl ?_
    refine r_get O FX0_77 G_16_4 dX0_sendFrom_19 ?_
    refine r_iconst (x := 1) O dX0_sendFrom_22 rfl ?_
    refine r_iadd O dX0_sendFrom_23 ?_
    refine r_put O (FPX0_77 ((m 7) + 1)) (S_16_4 ((m 7) + 1)) dX0_sendFrom_24 ?_
    refine r_goto O 43 dX0_sendFrom_27 (by decide) ?_
    exact r_vret O dX0_sendFrom_43 (Nat.le_of_ble_eq_true rfl) (Nat.le_of_ble_eq_true rfl) rfl
  · have e_11 : (m (58 + 9 * x1.toNatClampNeg + 1)).toInt ≠ (0 : Int) := j_neR c_11 rfl
    refine r_aload_n O 1 dX0_sendFrom_30 rfl rfl ?_
    refine r_get O FX0_38 G_0_4 dX0_sendFrom_31 ?_
    refine r_iload_n O 2 dX0_sendFrom_34 rfl rfl ?_
    refine r_aload_n O 1 dX0_sendFrom_35 rfl rfl ?_
    refine r_get O FX0_49 G_0_6 dX0_sendFrom_36 ?_
    refine r_iload_n O 0 dX0_sendFrom_39 rfl rfl ?_
    refine r_callVv O [.int x1, .int (m 3), .int (m (58 + 9 * x1.toNatClampNeg + 1))] [] (met_X3_add (g_xl X) hs q m x1 (m 3) (m (58 + 9 * x1.toNatClampNeg + 1)) (by first | decide | with_reducible assumption | with_reducible omega | (simp (disch := omega) only [g_upd_ne, g_upd_eq, fr_X4_fix, fr_X5_put, fr_X1_startAnew, fr_X1_walkTo, fr_X1_arrive, fr_X1_countBelow, fr_X3_set]; first | with_reducible assumption | with_reducible omega | decide) | exact Or.inl rfl | exact Or.inr rfl) (by first | decide | with_reducible assumption | with_reducible omega | (simp (disch := omega) only [g_upd_ne, g_upd_eq, fr_X4_fix, fr_X5_put, fr_X1_startAnew, fr_X1_walkTo, fr_X1_arrive, fr_X1_countBelow, fr_X3_set]; first | with_reducible assumption | with_reducible omega | decide) | exact Or.inl rfl | exact Or.inr rfl)) LX0_210 obj_16 rfl rfl rfl dX0_sendFrom_40 rfl rfl ?_
    exact r_vret O dX0_sendFrom_43 (Nat.le_of_ble_eq_true rfl) (Nat.le_of_ble_eq_true rfl) rfl
theorem met_X0_sendFrom (l : Launch) (hs : l.stackTraces = false) (q : g_q) (m : Nat → Int32) (x1 : Int32) (p0 : 0 ≤ x1.toInt) (p1 : x1.toInt < 6) (p2 : 0 ≤ (m 6).toInt) (p3 : (m 6).toInt ≤ 10) : g_SM l yX0_sendFrom cX0_sendFrom 3 none ({ frames := 2, cells := 0, slots := 0, locals := 47 } : Room) (fun ad => [.ref (ad 0), .int x1]) m q ((fun r : Nat → Int32 => ((.inl none, (r, q)) : g_Res)) (R_X0_sendFrom m x1)) :=
  g_sm_of (by decide) (fun _ => Nat.le_of_ble_eq_true rfl) hs (fun X hl hn O => walk_X0_sendFrom O (by rw [hl]; exact hs) hn p0 p1 p2 p3)
def R_X0_canPass (m : Nat → Int32) (x1 : Int32) : Int32 := (if 100000 < ((m 3) + x1) then 0 else 1)
set_option maxRecDepth 100000 in
set_option maxHeartbeats 4000000 in
theorem walk_X0_canPass {X : g_X} (O : g_ok X cX0_canPass RX0 (some .boolean) ({ frames := 0, cells := 0, slots := 0, locals := 0 } : Room)) (hs : (g_xl X).stackTraces = false) (hn : g_xn X = 2) {q : g_q} {m : Nat → Int32} {x1 : Int32}  : g_V X (fun r : Int32 => ((.inl (some (.int r)), (m, q)) : g_Res)) (R_X0_canPass m x1) 0 0 m q 0 [(0, .ref (g_ad X 0)), (1, .int x1)] [] := by
  have hN : ∀ i, Nat.blt i 2 = true → i < g_xn X := fun i h => by rw [hn]; exact g_blt.mp h
  refine r_aload_n O 0 dX0_canPass_0 rfl rfl ?_
  refine r_get O FX0_49 G_0_6 dX0_canPass_1 ?_
  refine r_iload_n O 1 dX0_canPass_4 rfl rfl ?_
  refine r_iadd O dX0_canPass_5 ?_
  refine r_ldc O dX0_canPass_6 w_con_X0_211 ?_
  refine r_icmp_gt O 15 dX0_canPass_8 (by decide) (fun c_8 => ?_) (fun c_8 => ?_)
  · have e_8 : (100000 : Int) < ((m 3) + x1).toInt := j_ltL c_8 rfl
    refine r_iconst (x := 0) O dX0_canPass_15 rfl ?_
    exact r_iret O dX0_canPass_16 rfl (Nat.le_of_ble_eq_true rfl) (Nat.le_of_ble_eq_true rfl) rfl
  · have e_8 : ((m 3) + x1).toInt ≤ (100000 : Int) := j_nltL c_8 rfl
    refine r_iconst (x := 1) O dX0_canPass_11 rfl ?_
    refine r_goto O 16 dX0_canPass_12 (by decide) ?_
    exact r_iret O dX0_canPass_16 rfl (Nat.le_of_ble_eq_true rfl) (Nat.le_of_ble_eq_true rfl) rfl
theorem met_X0_canPass (l : Launch) (hs : l.stackTraces = false) (q : g_q) (m : Nat → Int32) (x1 : Int32)  : g_SM l yX0_canPass cX0_canPass 2 (some .boolean) ({ frames := 0, cells := 0, slots := 0, locals := 0 } : Room) (fun ad => [.ref (ad 0), .int x1]) m q ((fun r : Int32 => ((.inl (some (.int r)), (m, q)) : g_Res)) (R_X0_canPass m x1)) :=
  g_sm_of (by decide) (fun _ => Nat.le_of_ble_eq_true rfl) hs (fun X hl hn O => walk_X0_canPass O (by rw [hl]; exact hs) hn )
