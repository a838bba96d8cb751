/-! ===== a new exercise ===== -/
def R_X4_startAnew_2 (m : Nat → Int32) (x1 : Int32) : Nat → Nat → (Nat → Int32) → (Nat → Int32)
  | 0, _, _ => m
  | f + 1, n, m_2 => (if 7 ≤ (nI n) then (upd m_2 0 x1) else ((R_X4_startAnew_2 m x1 f) (n + 1) (upd (upd (upd m_2 (13 + (nI n).toNatClampNeg) (g_d0 (nI n).toNatClampNeg)) (20 + (nI n).toNatClampNeg) (g_m0 (nI n).toNatClampNeg)) (27 + (nI n).toNatClampNeg) (-1))))
def R_X4_startAnew (m : Nat → Int32) (x1 : Int32) : (Nat → Int32) := (R_X4_startAnew_2 m x1 8 0 m)
set_option maxRecDepth 100000 in
set_option maxHeartbeats 4000000 in
theorem walk_X4_startAnew {X : g_X} (O : g_ok X cX4_startAnew RX4 none ({ frames := 0, cells := 0, slots := 0, locals := 0 } : Room)) (hs : (g_xl X).stackTraces = false) (Y : g_Y (g_xs X)) (hn : g_xn X = 3) {q : g_q} {m : Nat → Int32} {x1 : Int32}  : g_V X (fun r : Nat → Int32 => ((.inl none, (r, q)) : g_Res)) (R_X4_startAnew m x1) 0 0 m q 0 [(0, .ref (g_ad X 1)), (1, .int x1)] [] := by
  have hN : ∀ i, Nat.blt i 3 = true → i < g_xn X := fun i h => by rw [hn]; exact g_blt.mp h
  refine r_iconst (x := 0) O dX4_startAnew_0 rfl ?_
  refine r_istore_n (lc' := [(2, .int 0), (0, .ref (g_ad X 1)), (1, .int x1)]) O dX4_startAnew_1 rfl (hN 2 rfl) rfl ?_
  have L_2 : ∀ (f_2 : Nat) (n : Nat) (m_2 : Nat → Int32) (hi_2 : n ≤ 7 ∧ 7 < f_2 + n), g_V X (fun r : Nat → Int32 => ((.inl none, (r, q)) : g_Res)) (R_X4_startAnew_2 m x1 f_2 n m_2) 0 0 m_2 q 2 [(0, .ref (g_ad X 1)), (1, .int x1), (2, .int (nI n))] [] := by
    intro f_2
    induction f_2 with
    | zero => intro n m_2 hi_2; exact absurd hi_2 (by omega)
    | succ f_2 ih_2 =>
      intro n m_2 hi_2
      have hc_n : (nI n).toInt = (n : Int) := nI_toInt (by omega)
      refine r_iload_n O 2 dX4_startAnew_2 rfl rfl ?_
      refine r_bipush (x := 7) O dX4_startAnew_3 rfl ?_
      refine r_icmp_ge O 43 dX4_startAnew_5 (by decide) (fun c_5 => ?_) (fun c_5 => ?_)
      · have e_5 : (7 : Int) ≤ (nI n).toInt := j_leL c_5 rfl
        refine r_aload_n O 0 dX4_startAnew_43 rfl rfl ?_
        refine r_iload_n O 1 dX4_startAnew_44 rfl rfl ?_
        refine r_put O (FPX4_32 x1) (S_1_3 x1) dX4_startAnew_45 ?_
        exact r_vret O dX4_startAnew_48 (Nat.le_of_ble_eq_true rfl) (Nat.le_of_ble_eq_true rfl) rfl
      · have e_5 : (nI n).toInt < (7 : Int) := j_nleL c_5 rfl
        refine r_aload_n O 0 dX4_startAnew_8 rfl rfl ?_
        refine r_get O FX4_18 G_1_0 dX4_startAnew_9 ?_
        refine r_iload_n O 2 dX4_startAnew_12 rfl rfl ?_
        refine r_gets9 O Y dX4_startAnew_13 ?_
        refine r_iload_n O 2 dX4_startAnew_16 rfl rfl ?_
        refine r_sld132 O (show vp_in (nI n) 7 from g_vin (by with_reducible omega) (by with_reducible omega)) dX4_startAnew_17 ?_
        refine r_iastc O T_2 (show vp_in (nI n) 7 from g_vin (by with_reducible omega) (by with_reducible omega)) dX4_startAnew_18 ?_
        refine r_aload_n O 0 dX4_startAnew_19 rfl rfl ?_
        refine r_get O FX4_26 G_1_1 dX4_startAnew_20 ?_
        refine r_iload_n O 2 dX4_startAnew_23 rfl rfl ?_
        refine r_gets23 O Y dX4_startAnew_24 ?_
        refine r_iload_n O 2 dX4_startAnew_27 rfl rfl ?_
        refine r_sld133 O (show vp_in (nI n) 7 from g_vin (by with_reducible omega) (by with_reducible omega)) dX4_startAnew_28 ?_
        refine r_iastc O T_3 (show vp_in (nI n) 7 from g_vin (by with_reducible omega) (by with_reducible omega)) dX4_startAnew_29 ?_
        refine r_aload_n O 0 dX4_startAnew_30 rfl rfl ?_
        refine r_get O FX4_29 G_1_2 dX4_startAnew_31 ?_
        refine r_iload_n O 2 dX4_startAnew_34 rfl rfl ?_
        refine r_iconst (x := (-1)) O dX4_startAnew_35 rfl ?_
        refine r_iastc O T_4 (show vp_in (nI n) 7 from g_vin (by with_reducible omega) (by with_reducible omega)) dX4_startAnew_36 ?_
        refine r_iinc (lc' := [(2, .int (nI (n + 1))), (0, .ref (g_ad X 1)), (1, .int x1)]) O 2 dX4_startAnew_37 rfl (nI_1 n) (hN 2 rfl) rfl ?_
        refine r_goto O 2 dX4_startAnew_40 (by decide) ?_
        refine r_sub [1, 2, 0] rfl ?_
        exact ih_2 (n + 1) (upd (upd (upd m_2 (13 + (nI n).toNatClampNeg) (g_d0 (nI n).toNatClampNeg)) (20 + (nI n).toNatClampNeg) (g_m0 (nI n).toNatClampNeg)) (27 + (nI n).toNatClampNeg) (-1)) (by with_reducible omega)
  refine r_sub [1, 2, 0] rfl ?_
  exact L_2 8 0 m (by with_reducible omega)
theorem met_X4_startAnew (l : Launch) (hs : l.stackTraces = false) (q : g_q) (m : Nat → Int32) (x1 : Int32)  : g_SY l yX4_startAnew cX4_startAnew 3 none ({ frames := 0, cells := 0, slots := 0, locals := 0 } : Room) (fun ad => [.ref (ad 1), .int x1]) m q ((fun r : Nat → Int32 => ((.inl none, (r, q)) : g_Res)) (R_X4_startAnew m x1)) :=
  g_sy_of (by decide) (fun _ => Nat.le_of_ble_eq_true rfl) (fun X hl hn O Y => walk_X4_startAnew O (by rw [hl]; exact hs) Y hn )
def R_X0_startAnew (m : Nat → Int32) (x1 : Int32) : (Nat → Int32) := (upd (upd (upd (upd (upd (upd (upd (upd (upd (upd (upd (upd (R_X4_startAnew m x1) 1 0) 2 0) 6 0) 7 0) 12 0) 8 0) 3 0) 4 x1) 5 0) 9 0) 10 0) 11 0)
set_option maxRecDepth 100000 in
set_option maxHeartbeats 4000000 in
theorem walk_X0_startAnew {X : g_X} (O : g_ok X cX0_startAnew RX0 none ({ frames := 1, cells := 0, slots := 0, locals := 22 } : Room)) (hs : (g_xl X).stackTraces = false) (Y : g_Y (g_xs X)) (hn : g_xn X = 2) {q : g_q} {m : Nat → Int32} {x1 : Int32}  : g_V X (fun r : Nat → Int32 => ((.inl none, (r, q)) : g_Res)) (R_X0_startAnew m x1) 0 0 m q 0 [(0, .ref (g_ad X 0)), (1, .int x1)] [] := by
  have hN : ∀ i, Nat.blt i 2 = true → i < g_xn X := fun i h => by rw [hn]; exact g_blt.mp h
  refine r_aload_n O 0 dX0_startAnew_0 rfl rfl ?_
  refine r_get O FX0_12 G_0_0 dX0_startAnew_1 ?_
  refine r_iload_n O 1 dX0_startAnew_4 rfl rfl ?_
  refine r_yVv O Y [.int x1] [] (met_X4_startAnew (g_xl X) hs q m x1 ) LX0_69 obj_1 rfl rfl rfl dX0_startAnew_5 rfl rfl ?_
  refine r_aload_n O 0 dX0_startAnew_8 rfl rfl ?_
  refine r_get O FX0_21 G_0_1 dX0_startAnew_9 ?_
  refine r_iconst (x := 0) O dX0_startAnew_12 rfl ?_
  refine r_put O (FPX0_73 0) (S_5_3 0) dX0_startAnew_13 ?_
  refine r_aload_n O 0 dX0_startAnew_16 rfl rfl ?_
  refine r_iconst (x := 0) O dX0_startAnew_17 rfl ?_
  refine r_put O (FPX0_31 0) (S_0_3 0) dX0_startAnew_18 ?_
  refine r_aload_n O 0 dX0_startAnew_21 rfl rfl ?_
  refine r_get O FX0_38 G_0_4 dX0_startAnew_22 ?_
  refine r_iconst (x := 0) O dX0_startAnew_25 rfl ?_
  refine r_put O (FPX0_76 0) (S_16_3 0) dX0_startAnew_26 ?_
  refine r_aload_n O 0 dX0_startAnew_29 rfl rfl ?_
  refine r_get O FX0_38 G_0_4 dX0_startAnew_30 ?_
  refine r_iconst (x := 0) O dX0_startAnew_33 rfl ?_
  refine r_put O (FPX0_77 0) (S_16_4 0) dX0_startAnew_34 ?_
  refine r_aload_n O 0 dX0_startAnew_37 rfl rfl ?_
  refine r_get O FX0_45 G_0_5 dX0_startAnew_38 ?_
  refine r_iconst (x := 0) O dX0_startAnew_41 rfl ?_
  refine r_put O (FPX0_80 0) (S_20_3 0) dX0_startAnew_42 ?_
  refine r_aload_n O 0 dX0_startAnew_45 rfl rfl ?_
  refine r_get O FX0_45 G_0_5 dX0_startAnew_46 ?_
  refine r_iconst (x := 0) O dX0_startAnew_49 rfl ?_
  refine r_put O (FPX0_83 0) (S_20_4 0) dX0_startAnew_50 ?_
  refine r_aload_n O 0 dX0_startAnew_53 rfl rfl ?_
  refine r_iconst (x := 0) O dX0_startAnew_54 rfl ?_
  refine r_put O (FPX0_49 0) (S_0_6 0) dX0_startAnew_55 ?_
  refine r_aload_n O 0 dX0_startAnew_58 rfl rfl ?_
  refine r_iload_n O 1 dX0_startAnew_59 rfl rfl ?_
  refine r_put O (FPX0_52 x1) (S_0_7 x1) dX0_startAnew_60 ?_
  refine r_aload_n O 0 dX0_startAnew_63 rfl rfl ?_
  refine r_iconst (x := 0) O dX0_startAnew_64 rfl ?_
  refine r_put O (FPX0_55 (Or.inl rfl)) (S_0_8 0) dX0_startAnew_65 ?_
  refine r_aload_n O 0 dX0_startAnew_68 rfl rfl ?_
  refine r_iconst (x := 0) O dX0_startAnew_69 rfl ?_
  refine r_put O (FPX0_59 0) (S_0_9 0) dX0_startAnew_70 ?_
  refine r_aload_n O 0 dX0_startAnew_73 rfl rfl ?_
  refine r_iconst (x := 0) O dX0_startAnew_74 rfl ?_
  refine r_put O (FPX0_62 0) (S_0_10 0) dX0_startAnew_75 ?_
  refine r_aload_n O 0 dX0_startAnew_78 rfl rfl ?_
  refine r_iconst (x := 0) O dX0_startAnew_79 rfl ?_
  refine r_put O (FPX0_65 0) (S_0_11 0) dX0_startAnew_80 ?_
  exact r_vret O dX0_startAnew_83 (Nat.le_of_ble_eq_true rfl) (Nat.le_of_ble_eq_true rfl) rfl
theorem met_X0_startAnew (l : Launch) (hs : l.stackTraces = false) (q : g_q) (m : Nat → Int32) (x1 : Int32)  : g_SY l yX0_startAnew cX0_startAnew 2 none ({ frames := 1, cells := 0, slots := 0, locals := 22 } : Room) (fun ad => [.ref (ad 0), .int x1]) m q ((fun r : Nat → Int32 => ((.inl none, (r, q)) : g_Res)) (R_X0_startAnew m x1)) :=
  g_sy_of (by decide) (fun _ => Nat.le_of_ble_eq_true rfl) (fun X hl hn O Y => walk_X0_startAnew O (by rw [hl]; exact hs) Y hn )
