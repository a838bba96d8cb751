/-! ===== Log ===== -/
def R_X2_about (m : Nat → Int32) (x1 : Int32) (x2 : Int32) : Int32 := (if x1 < 0 then (-1) else (if x1 < (m 12) then (if x2 = 0 then (m (142 + 3 * x1.toNatClampNeg)) else (if x2 = 1 then (m (143 + 3 * x1.toNatClampNeg)) else (m (144 + 3 * x1.toNatClampNeg)))) else (-1)))
set_option maxRecDepth 100000 in
set_option maxHeartbeats 4000000 in
theorem walk_X2_about {X : g_X} (O : g_ok X cX2_about RX2 (some .int) ({ frames := 0, cells := 0, slots := 0, locals := 0 } : Room)) (hs : (g_xl X).stackTraces = false) (hn : g_xn X = 3) {q : g_q} {m : Nat → Int32} {x1 : Int32} {x2 : Int32} (p0 : (m 12).toInt ≤ 12) : g_V X (fun r : Int32 => ((.inl (some (.int r)), (m, q)) : g_Res)) (R_X2_about m x1 x2) 0 0 m q 0 [(0, .ref (g_ad X 20)), (1, .int x1), (2, .int x2)] [] := by
  have hN : ∀ i, Nat.blt i 3 = true → i < g_xn X := fun i h => by rw [hn]; exact g_blt.mp h
  refine r_iload_n O 1 dX2_about_0 rfl rfl ?_
  refine r_if_lt O 12 dX2_about_1 (by decide) (fun c_1 => ?_) (fun c_1 => ?_)
  · have e_1 : (x1).toInt < (0 : Int) := j_lt c_1
    refine r_iconst (x := (-1)) O dX2_about_12 rfl ?_
    exact r_iret O dX2_about_13 rfl (Nat.le_of_ble_eq_true rfl) (Nat.le_of_ble_eq_true rfl) rfl
  · have e_1 : (0 : Int) ≤ (x1).toInt := j_nlt c_1
    refine r_iload_n O 1 dX2_about_4 rfl rfl ?_
    refine r_aload_n O 0 dX2_about_5 rfl rfl ?_
    refine r_get O FX2_21 G_20_3 dX2_about_6 ?_
    refine r_icmp_lt O 14 dX2_about_9 (by decide) (fun c_9 => ?_) (fun c_9 => ?_)
    · have e_9 : (x1).toInt < (m 12).toInt := j_lt c_9
      refine r_iload_n O 2 dX2_about_14 rfl rfl ?_
      refine g_if (fun c_15_0 => ?_) (fun c_15_0 => ?_)
      · refine r_lookup O (off := 25) 40 dX2_about_15 rfl (by show Op.lookupswitch.offset [(0, 25), (1, 32)] 39 _ = 25; rw [c_15_0] <;> rfl) (by decide) ?_
        refine r_aload_n O 0 dX2_about_40 rfl rfl ?_
        refine r_get O FX2_9 G_20_0 dX2_about_41 ?_
        refine r_iload_n O 1 dX2_about_44 rfl rfl ?_
        refine r_iald O R_21 (g_vin (by omega) (by omega)) dX2_about_45 ?_
        exact r_iret O dX2_about_46 rfl (Nat.le_of_ble_eq_true rfl) (Nat.le_of_ble_eq_true rfl) rfl
      · refine g_if (fun c_15_1 => ?_) (fun c_15_1 => ?_)
        · refine r_lookup O (off := 32) 47 dX2_about_15 rfl (by show Op.lookupswitch.offset [(0, 25), (1, 32)] 39 _ = 32; rw [lv_osw (a := 0) c_15_0 rfl, c_15_1] <;> rfl) (by decide) ?_
          refine r_aload_n O 0 dX2_about_47 rfl rfl ?_
          refine r_get O FX2_15 G_20_1 dX2_about_48 ?_
          refine r_iload_n O 1 dX2_about_51 rfl rfl ?_
          refine r_iald O R_22 (g_vin (by omega) (by omega)) dX2_about_52 ?_
          exact r_iret O dX2_about_53 rfl (Nat.le_of_ble_eq_true rfl) (Nat.le_of_ble_eq_true rfl) rfl
        · refine r_lookup O (off := 39) 54 dX2_about_15 rfl (by show Op.lookupswitch.offset [(0, 25), (1, 32)] 39 _ = 39; rw [lv_osw (a := 0) c_15_0 rfl, lv_osw (a := 1) c_15_1 rfl] <;> rfl) (by decide) ?_
          refine r_aload_n O 0 dX2_about_54 rfl rfl ?_
          refine r_get O FX2_18 G_20_2 dX2_about_55 ?_
          refine r_iload_n O 1 dX2_about_58 rfl rfl ?_
          refine r_iald O R_23 (g_vin (by omega) (by omega)) dX2_about_59 ?_
          exact r_iret O dX2_about_60 rfl (Nat.le_of_ble_eq_true rfl) (Nat.le_of_ble_eq_true rfl) rfl
    · have e_9 : (m 12).toInt ≤ (x1).toInt := j_nlt c_9
      refine r_iconst (x := (-1)) O dX2_about_12 rfl ?_
      exact r_iret O dX2_about_13 rfl (Nat.le_of_ble_eq_true rfl) (Nat.le_of_ble_eq_true rfl) rfl
theorem met_X2_about (l : Launch) (hs : l.stackTraces = false) (q : g_q) (m : Nat → Int32) (x1 : Int32) (x2 : Int32) (p0 : (m 12).toInt ≤ 12) : g_SM l yX2_about cX2_about 3 (some .int) ({ frames := 0, cells := 0, slots := 0, locals := 0 } : Room) (fun ad => [.ref (ad 20), .int x1, .int x2]) m q ((fun r : Int32 => ((.inl (some (.int r)), (m, q)) : g_Res)) (R_X2_about m x1 x2)) :=
  g_sm_of (by decide) (fun _ => Nat.le_of_ble_eq_true rfl) hs (fun X hl hn O => walk_X2_about O (by rw [hl]; exact hs) hn p0)
