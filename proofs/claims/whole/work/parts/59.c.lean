/-! ===== the model: a mean ===== -/
def R_X8_meanTiredness_9 (s : Nat → Int32) : Nat → Int32 → Nat → (UInt64 × (Nat → Int32))
  | 0, _, _ => (0, s)
  | f + 1, v1_9, n => (if ((upd s 1302 0) (2)) ≤ (nI n) then (if ((upd s 1302 0) (2)) = 0 then (FP.dconst0, (upd s 1302 0)) else ((FP.ddiv (FP.i2d v1_9) (FP.i2d ((upd s 1302 0) (2)))), (upd s 1302 0))) else ((R_X8_meanTiredness_9 s f) (v1_9 + ((upd s 1302 0) (58 + 9 * (nI n).toNatClampNeg + 6))) (n + 1)))
def R_X8_meanTiredness (s : Nat → Int32) : (UInt64 × (Nat → Int32)) := (R_X8_meanTiredness_9 s 7 0 0)
set_option maxRecDepth 100000 in
set_option maxHeartbeats 4000000 in
theorem walk_X8_meanTiredness {X : g_X} (O : g_ok X cX8_meanTiredness RX8 (some .double) ({ frames := 1, cells := 0, slots := 0, locals := 22 } : Room)) (hs : (g_xl X).stackTraces = false) (hn : g_xn X = 3) {m : Nat → Int32} {lm : Nat → Int64} {pm : Nat → Nat} {s : Nat → Int32} (p0 : (s 2).toInt ≤ 6) : g_V X (fun r : UInt64 × (Nat → Int32) => ((.inl (some (.double r.1)), (m, r.2, lm, pm)) : g_Res)) (R_X8_meanTiredness s) 0 0 m (s, lm, pm) 0 [(0, .ref (g_ad X 124))] [] := by
  have hN : ∀ i, Nat.blt i 3 = true → i < g_xn X := fun i h => by rw [hn]; exact g_blt.mp h
  have t2 : ((upd s 1302 0) 2).toInt = (s 2).toInt := by rw [g_upd_ne (by decide)]
  refine r_aload_n O 0 dX8_meanTiredness_0 rfl rfl ?_
  refine r_iconst (x := 0) O dX8_meanTiredness_1 rfl ?_
  refine r_put O (FPX8_26 0) (S_124_6 0) dX8_meanTiredness_2 ?_
  refine r_iconst (x := 0) O dX8_meanTiredness_5 rfl ?_
  refine r_istore_n (lc' := [(1, .int 0), (0, .ref (g_ad X 124))]) O dX8_meanTiredness_6 rfl (hN 1 rfl) rfl ?_
  refine r_iconst (x := 0) O dX8_meanTiredness_7 rfl ?_
  refine r_istore_n (lc' := [(2, .int 0), (1, .int 0), (0, .ref (g_ad X 124))]) O dX8_meanTiredness_8 rfl (hN 2 rfl) rfl ?_
  have L_9 : ∀ (f_9 : Nat) (v1_9 : Int32) (n : Nat) (hi_9 : n ≤ 6 ∧ 6 < f_9 + n), g_V X (fun r : UInt64 × (Nat → Int32) => ((.inl (some (.double r.1)), (m, r.2, lm, pm)) : g_Res)) (R_X8_meanTiredness_9 s f_9 v1_9 n) 0 0 m ((upd s 1302 0), lm, pm) 9 [(0, .ref (g_ad X 124)), (1, .int v1_9), (2, .int (nI n))] [] := by
    intro f_9
    induction f_9 with
    | zero => intro v1_9 n hi_9; exact absurd hi_9 (by omega)
    | succ f_9 ih_9 =>
      intro v1_9 n hi_9
      have hc_n : (nI n).toInt = (n : Int) := nI_toInt (by omega)
      refine r_iload_n O 2 dX8_meanTiredness_9 rfl rfl ?_
      refine r_aload_n O 0 dX8_meanTiredness_10 rfl rfl ?_
      refine r_get O FX8_7 G_124_0 dX8_meanTiredness_11 ?_
      refine r_iconst (x := 2) O dX8_meanTiredness_14 rfl ?_
      refine r_iald O R_125 (g_vin (by decide) (by decide)) dX8_meanTiredness_15 ?_
      refine r_icmp_ge O 35 dX8_meanTiredness_16 (by decide) (fun c_16 => ?_) (fun c_16 => ?_)
      · have e_16 : ((upd s 1302 0) (2)).toInt ≤ (nI n).toInt := j_le c_16
        refine r_aload_n O 0 dX8_meanTiredness_35 rfl rfl ?_
        refine r_get O FX8_7 G_124_0 dX8_meanTiredness_36 ?_
        refine r_iconst (x := 2) O dX8_meanTiredness_39 rfl ?_
        refine r_iald O R_125 (g_vin (by decide) (by decide)) dX8_meanTiredness_40 ?_
        refine r_if_ne O 48 dX8_meanTiredness_41 (by decide) (fun c_41 => ?_) (fun c_41 => ?_)
        · have e_41 : ((upd s 1302 0) (2)).toInt = (0 : Int) := j_eqR c_41 rfl
          refine r_dconst0 O dX8_meanTiredness_44 ?_
          refine r_goto O 58 dX8_meanTiredness_45 (by decide) ?_
          exact r_dret O dX8_meanTiredness_58 (Nat.le_of_ble_eq_true rfl) (Nat.le_of_ble_eq_true rfl) rfl
        · have e_41 : ((upd s 1302 0) (2)).toInt ≠ (0 : Int) := j_neR c_41 rfl
          refine r_iload_n O 1 dX8_meanTiredness_48 rfl rfl ?_
          refine r_i2d O dX8_meanTiredness_49 ?_
          refine r_aload_n O 0 dX8_meanTiredness_50 rfl rfl ?_
          refine r_get O FX8_7 G_124_0 dX8_meanTiredness_51 ?_
          refine r_iconst (x := 2) O dX8_meanTiredness_54 rfl ?_
          refine r_iald O R_125 (g_vin (by decide) (by decide)) dX8_meanTiredness_55 ?_
          refine r_i2d O dX8_meanTiredness_56 ?_
          refine r_ddiv O dX8_meanTiredness_57 (d_num c_41) ?_
          exact r_dret O dX8_meanTiredness_58 (Nat.le_of_ble_eq_true rfl) (Nat.le_of_ble_eq_true rfl) rfl
      · have e_16 : (nI n).toInt < ((upd s 1302 0) (2)).toInt := j_nle c_16
        refine r_iload_n O 1 dX8_meanTiredness_19 rfl rfl ?_
        refine r_aload_n O 0 dX8_meanTiredness_20 rfl rfl ?_
        refine r_iload_n O 2 dX8_meanTiredness_21 rfl rfl ?_
        refine r_bipush (x := 6) O dX8_meanTiredness_22 rfl ?_
        refine r_callVi O [.int (nI n), .int 6] [.int v1_9] (metn_X8_of (g_xl X) hs lm pm m (upd s 1302 0) (nI n) 6 (by first | decide | with_reducible assumption | with_reducible omega | (simp (disch := omega) only [g_upd_ne, g_upd_eq, fr_X4_fix, fr_X5_put, fr_X1_startAnew, fr_X1_walkTo, fr_X1_arrive, fr_X1_countBelow, fr_X3_set, fr_X0_startWalk, fr_X0_letMinutePass, fr_X3_goUp]; first | with_reducible assumption | with_reducible omega | decide) | (simp (disch := first | omega | with_reducible assumption) only [g_upd_ne, fr_save, fr_X0_takeRope]; first | with_reducible assumption | with_reducible omega) | exact (b_X3_goUp (by with_reducible assumption) (by with_reducible assumption)).1 | exact (b_X3_goUp (by with_reducible assumption) (by with_reducible assumption)).2 | exact Or.inl rfl | exact Or.inr rfl) (by first | decide | with_reducible assumption | with_reducible omega | (simp (disch := omega) only [g_upd_ne, g_upd_eq, fr_X4_fix, fr_X5_put, fr_X1_startAnew, fr_X1_walkTo, fr_X1_arrive, fr_X1_countBelow, fr_X3_set, fr_X0_startWalk, fr_X0_letMinutePass, fr_X3_goUp]; first | with_reducible assumption | with_reducible omega | decide) | (simp (disch := first | omega | with_reducible assumption) only [g_upd_ne, fr_save, fr_X0_takeRope]; first | with_reducible assumption | with_reducible omega) | exact (b_X3_goUp (by with_reducible assumption) (by with_reducible assumption)).1 | exact (b_X3_goUp (by with_reducible assumption) (by with_reducible assumption)).2 | exact Or.inl rfl | exact Or.inr rfl) (by decide)) LX8_37 obj_124 rfl rfl rfl dX8_meanTiredness_24 rfl rfl ?_
        refine r_iadd O dX8_meanTiredness_27 ?_
        refine r_istore_n (lc' := [(1, .int (v1_9 + ((upd s 1302 0) (58 + 9 * (nI n).toNatClampNeg + 6)))), (0, .ref (g_ad X 124)), (2, .int (nI n))]) O dX8_meanTiredness_28 rfl (hN 1 rfl) rfl ?_
        refine r_iinc (lc' := [(2, .int (nI (n + 1))), (1, .int (v1_9 + ((upd s 1302 0) (58 + 9 * (nI n).toNatClampNeg + 6)))), (0, .ref (g_ad X 124))]) O 2 dX8_meanTiredness_29 rfl (nI_1 n) (hN 2 rfl) rfl ?_
        refine r_goto O 9 dX8_meanTiredness_32 (by decide) ?_
        refine r_sub [2, 1, 0] rfl ?_
        exact ih_9 (v1_9 + ((upd s 1302 0) (58 + 9 * (nI n).toNatClampNeg + 6))) (n + 1) (by with_reducible omega)
  refine r_sub [2, 1, 0] rfl ?_
  exact L_9 7 0 0 (by with_reducible omega)
theorem met_X8_meanTiredness (l : Launch) (hs : l.stackTraces = false) (lm : Nat → Int64) (pm : Nat → Nat) (m : Nat → Int32) (s : Nat → Int32) (p0 : (s 2).toInt ≤ 6) : g_SM l yX8_meanTiredness cX8_meanTiredness 3 (some .double) ({ frames := 1, cells := 0, slots := 0, locals := 22 } : Room) (fun ad => [.ref (ad 124)]) m (s, lm, pm) ((fun r : UInt64 × (Nat → Int32) => ((.inl (some (.double r.1)), (m, r.2, lm, pm)) : g_Res)) (R_X8_meanTiredness s)) :=
  g_sm_of (by decide) (fun _ => Nat.le_of_ble_eq_true rfl) hs (fun X hl hn O => walk_X8_meanTiredness O (by rw [hl]; exact hs) hn p0)
