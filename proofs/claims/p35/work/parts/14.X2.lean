/-! ===== Log ===== -/
def R_X2_about (m : Nat → Int32) (x1 : Int32) (x2 : Int32) : Int32 := (if x1 < 0 then (-1) else (if x1 < (m 12) then (if x2 = 0 then (m (142 + 3 * x1.toNatClampNeg)) else (if x2 = 1 then (m (143 + 3 * x1.toNatClampNeg)) else (m (144 + 3 * x1.toNatClampNeg)))) else (-1)))
set_option maxRecDepth 100000 in
set_option maxHeartbeats 4000000 in
theorem walk_X2_about {X : g_X} (O : g_ok X cX2_about RX2 (some .int) ({ frames := 0, cells := 0, slots := 0, locals := 0 } : Room)) (hs : (g_xl X).stackTraces = false) (hn : g_xn X = 3) {q : g_q} {m : Nat → Int32} {x1 : Int32} {x2 : Int32} (p0 : (m 12).toInt ≤ 12) : g_V X (fun r : Int32 => ((.inl (some (.int r)), (m, q)) : g_Res)) (R_X2_about m x1 x2) 0 0 m q 0 [(0, .ref (g_ad X 20)), (1, .int x1), (2, .int x2)] [] := by
  have hN : ∀ i, Nat.blt i 3 = true → i < g_xn X := fun i h => by rw [hn]; exact g_blt.mp h
  refine r_iload_n O 1 dX2_about_0 rfl rfl ?_
  refine r_if_lt O 12 dX2_about_1 (by decide) (fun c_1 => ?_) (fun c_1 => ?_)
  · have e_1 : (x1).toInt < (0 : Int) := j_ltR c_1 rfl
    refine r_iconst (x := (-1)) O dX2_about_12 rfl ?_
    exact r_iret O dX2_about_13 rfl (Nat.le_of_ble_eq_true rfl) (Nat.le_of_ble_eq_true rfl) rfl
  · have e_1 : (0 : Int) ≤ (x1).toInt := j_nltR c_1 rfl
    refine r_iload_n O 1 dX2_about_4 rfl rfl ?_
    refine r_aload_n O 0 dX2_about_5 rfl rfl ?_
    refine r_get O FX2_21 G_20_3 dX2_about_6 ?_
    refine r_icmp_lt O 14 dX2_about_9 (by decide) (fun c_9 => ?_) (fun c_9 => ?_)
    · have e_9 : (x1).toInt < (m 12).toInt := j_lt c_9
      refine r_iload_n O 2 dX2_about_14 rfl rfl ?_
      refine g_if (fun c_15_0 => ?_) (fun c_15_0 => ?_)
      · refine r_lookup O (off := 25) 40 dX2_about_15 rfl (by show Op.lookupswitch.offset [(0, 25), (1, 32)] 39 _ = 25; rw [c_15_0] <;> rfl) (by decide) ?_
        refine r_aload_n O 0 dX2_about_40 rfl rfl ?_
        refine r_get O FX2_9 G_20_0 dX2_about_41 ?_
        refine r_iload_n O 1 dX2_about_44 rfl rfl ?_
        refine r_iald O R_21 (show vp_in x1 12 from g_vin (by with_reducible omega) (by with_reducible omega)) dX2_about_45 ?_
        exact r_iret O dX2_about_46 rfl (Nat.le_of_ble_eq_true rfl) (Nat.le_of_ble_eq_true rfl) rfl
      · refine g_if (fun c_15_1 => ?_) (fun c_15_1 => ?_)
        · refine r_lookup O (off := 32) 47 dX2_about_15 rfl (by show Op.lookupswitch.offset [(0, 25), (1, 32)] 39 _ = 32; rw [lv_osw (a := 0) c_15_0 rfl, c_15_1] <;> rfl) (by decide) ?_
          refine r_aload_n O 0 dX2_about_47 rfl rfl ?_
          refine r_get O FX2_15 G_20_1 dX2_about_48 ?_
          refine r_iload_n O 1 dX2_about_51 rfl rfl ?_
          refine r_iald O R_22 (show vp_in x1 12 from g_vin (by with_reducible omega) (by with_reducible omega)) dX2_about_52 ?_
          exact r_iret O dX2_about_53 rfl (Nat.le_of_ble_eq_true rfl) (Nat.le_of_ble_eq_true rfl) rfl
        · refine r_lookup O (off := 39) 54 dX2_about_15 rfl (by show Op.lookupswitch.offset [(0, 25), (1, 32)] 39 _ = 39; rw [lv_osw (a := 0) c_15_0 rfl, lv_osw (a := 1) c_15_1 rfl] <;> rfl) (by decide) ?_
          refine r_aload_n O 0 dX2_about_54 rfl rfl ?_
          refine r_get O FX2_18 G_20_2 dX2_about_55 ?_
          refine r_iload_n O 1 dX2_about_58 rfl rfl ?_
          refine r_iald O R_23 (show vp_in x1 12 from g_vin (by with_reducible omega) (by with_reducible omega)) dX2_about_59 ?_
          exact r_iret O dX2_about_60 rfl (Nat.le_of_ble_eq_true rfl) (Nat.le_of_ble_eq_true rfl) rfl
    · have e_9 : (m 12).toInt ≤ (x1).toInt := j_nlt c_9
      refine r_iconst (x := (-1)) O dX2_about_12 rfl ?_
      exact r_iret O dX2_about_13 rfl (Nat.le_of_ble_eq_true rfl) (Nat.le_of_ble_eq_true rfl) rfl
theorem met_X2_about (l : Launch) (hs : l.stackTraces = false) (q : g_q) (m : Nat → Int32) (x1 : Int32) (x2 : Int32) (p0 : (m 12).toInt ≤ 12) : g_SM l yX2_about cX2_about 3 (some .int) ({ frames := 0, cells := 0, slots := 0, locals := 0 } : Room) (fun ad => [.ref (ad 20), .int x1, .int x2]) m q ((fun r : Int32 => ((.inl (some (.int r)), (m, q)) : g_Res)) (R_X2_about m x1 x2)) :=
  g_sm_of (by decide) (fun _ => Nat.le_of_ble_eq_true rfl) hs (fun X hl hn O => walk_X2_about O (by rw [hl]; exact hs) hn p0)
def R_X2_add_4 (m : Nat → Int32) (x1 : Int32) (x2 : Int32) (x3 : Int32) : Nat → Nat → (Nat → Int32) → (Nat → Int32)
  | 0, _, _ => m
  | f + 1, n, m_4 => (if (nI n) ≤ 0 then (upd (upd (upd (upd (upd m_4 (142) x1) (143) x2) (144) x3) 12 (g_min (((upd (upd (upd m_4 (142) x1) (143) x2) (144) x3) 12) + 1) ((12) : Int32))) 8 (((upd (upd (upd (upd m_4 (142) x1) (143) x2) (144) x3) 12 (g_min (((upd (upd (upd m_4 (142) x1) (143) x2) (144) x3) 12) + 1) ((12) : Int32))) 8) + 1)) else ((R_X2_add_4 m x1 x2 x3 f) (n - 1) (upd (upd (upd m_4 (142 + 3 * (nI n).toNatClampNeg) (m_4 (142 + 3 * ((nI n) - 1).toNatClampNeg))) (143 + 3 * (nI n).toNatClampNeg) ((upd m_4 (142 + 3 * (nI n).toNatClampNeg) (m_4 (142 + 3 * ((nI n) - 1).toNatClampNeg))) (143 + 3 * ((nI n) - 1).toNatClampNeg))) (144 + 3 * (nI n).toNatClampNeg) ((upd (upd m_4 (142 + 3 * (nI n).toNatClampNeg) (m_4 (142 + 3 * ((nI n) - 1).toNatClampNeg))) (143 + 3 * (nI n).toNatClampNeg) ((upd m_4 (142 + 3 * (nI n).toNatClampNeg) (m_4 (142 + 3 * ((nI n) - 1).toNatClampNeg))) (143 + 3 * ((nI n) - 1).toNatClampNeg))) (144 + 3 * ((nI n) - 1).toNatClampNeg)))))
def R_X2_add (m : Nat → Int32) (x1 : Int32) (x2 : Int32) (x3 : Int32) : (Nat → Int32) := (R_X2_add_4 m x1 x2 x3 12 11 m)
set_option maxRecDepth 100000 in
set_option maxHeartbeats 4000000 in
theorem walk_X2_add {X : g_X} (O : g_ok X cX2_add RX2 none ({ frames := 1, cells := 0, slots := 0, locals := 21 } : Room)) (hs : (g_xl X).stackTraces = false) (hn : g_xn X = 5) {q : g_q} {m : Nat → Int32} {x1 : Int32} {x2 : Int32} {x3 : Int32}  : g_V X (fun r : Nat → Int32 => ((.inl none, (r, q)) : g_Res)) (R_X2_add m x1 x2 x3) 0 0 m q 0 [(0, .ref (g_ad X 20)), (1, .int x1), (2, .int x2), (3, .int x3)] [] := by
  have hN : ∀ i, Nat.blt i 5 = true → i < g_xn X := fun i h => by rw [hn]; exact g_blt.mp h
  refine r_bipush (x := 11) O dX2_add_0 rfl ?_
  refine r_istore (lc' := [(4, .int 11), (0, .ref (g_ad X 20)), (1, .int x1), (2, .int x2), (3, .int x3)]) O dX2_add_2 (hN 4 rfl) rfl ?_
  have L_4 : ∀ (f_4 : Nat) (n : Nat) (m_4 : Nat → Int32) (hi_4 : n ≤ 11 ∧ n < f_4), g_V X (fun r : Nat → Int32 => ((.inl none, (r, q)) : g_Res)) (R_X2_add_4 m x1 x2 x3 f_4 n m_4) 0 0 m_4 q 4 [(0, .ref (g_ad X 20)), (1, .int x1), (2, .int x2), (3, .int x3), (4, .int (nI n))] [] := by
    intro f_4
    induction f_4 with
    | zero => intro n m_4 hi_4; exact absurd hi_4 (by omega)
    | succ f_4 ih_4 =>
      intro n m_4 hi_4
      have hc_n : (nI n).toInt = (n : Int) := nI_toInt (by omega)
      have hd_n : (nI n - 1).toInt = (n : Int) - 1 := by rw [j_sub1 (by omega), hc_n]
      refine r_iload O 4 dX2_add_4 rfl ?_
      refine r_if_le O 63 dX2_add_6 (by decide) (fun c_6 => ?_) (fun c_6 => ?_)
      · have e_6 : (nI n).toInt ≤ (0 : Int) := j_leR c_6 rfl
        refine r_aload_n O 0 dX2_add_63 rfl rfl ?_
        refine r_get O FX2_9 G_20_0 dX2_add_64 ?_
        refine r_iconst (x := 0) O dX2_add_67 rfl ?_
        refine r_iload_n O 1 dX2_add_68 rfl rfl ?_
        refine r_iastc O T_21 (g_vin (by decide) (by decide)) dX2_add_69 ?_
        refine r_aload_n O 0 dX2_add_70 rfl rfl ?_
        refine r_get O FX2_15 G_20_1 dX2_add_71 ?_
        refine r_iconst (x := 0) O dX2_add_74 rfl ?_
        refine r_iload_n O 2 dX2_add_75 rfl rfl ?_
        refine r_iastc O T_22 (g_vin (by decide) (by decide)) dX2_add_76 ?_
        refine r_aload_n O 0 dX2_add_77 rfl rfl ?_
        refine r_get O FX2_18 G_20_2 dX2_add_78 ?_
        refine r_iconst (x := 0) O dX2_add_81 rfl ?_
        refine r_iload_n O 3 dX2_add_82 rfl rfl ?_
        refine r_iastc O T_23 (g_vin (by decide) (by decide)) dX2_add_83 ?_
        refine r_aload_n O 0 dX2_add_84 rfl rfl ?_
        refine r_aload_n O 0 dX2_add_85 rfl rfl ?_
        refine r_get O FX2_21 G_20_3 dX2_add_86 ?_
        refine r_iconst (x := 1) O dX2_add_89 rfl ?_
        refine r_iadd O dX2_add_90 ?_
        refine r_bipush (x := 12) O dX2_add_91 rfl ?_
        refine r_mmin O [.ref (g_ad X 20)] w_mmin_X2_28 dX2_add_93 rfl ?_
        refine r_put O (FPX2_21 (g_min (((upd (upd (upd m_4 (142) x1) (143) x2) (144) x3) 12) + 1) ((12) : Int32))) (S_20_3 (g_min (((upd (upd (upd m_4 (142) x1) (143) x2) (144) x3) 12) + 1) ((12) : Int32))) dX2_add_96 ?_
        refine r_aload_n O 0 dX2_add_99 rfl rfl ?_
        refine r_dup O dX2_add_100 rfl ?_
        refine r_get O FX2_25 G_20_4 dX2_add_101 ?_
        refine r_iconst (x := 1) O dX2_add_104 rfl ?_
        refine r_iadd O dX2_add_105 ?_
        refine r_put O (FPX2_25 (((upd (upd (upd (upd m_4 (142) x1) (143) x2) (144) x3) 12 (g_min (((upd (upd (upd m_4 (142) x1) (143) x2) (144) x3) 12) + 1) ((12) : Int32))) 8) + 1)) (S_20_4 (((upd (upd (upd (upd m_4 (142) x1) (143) x2) (144) x3) 12 (g_min (((upd (upd (upd m_4 (142) x1) (143) x2) (144) x3) 12) + 1) ((12) : Int32))) 8) + 1)) dX2_add_106 ?_
        exact r_vret O dX2_add_109 (Nat.le_of_ble_eq_true rfl) (Nat.le_of_ble_eq_true rfl) rfl
      · have e_6 : (0 : Int) < (nI n).toInt := j_nleR c_6 rfl
        refine r_aload_n O 0 dX2_add_9 rfl rfl ?_
        refine r_get O FX2_9 G_20_0 dX2_add_10 ?_
        refine r_iload O 4 dX2_add_13 rfl ?_
        refine r_aload_n O 0 dX2_add_15 rfl rfl ?_
        refine r_get O FX2_9 G_20_0 dX2_add_16 ?_
        refine r_iload O 4 dX2_add_19 rfl ?_
        refine r_iconst (x := 1) O dX2_add_21 rfl ?_
        refine r_isub O dX2_add_22 ?_
        have ix_23 : ((nI n) - 1).toInt = ((nI n).toInt - (1 : Int)) := (j_subE rfl rfl (by with_reducible omega) (by with_reducible omega))
        refine r_iald O R_21 (show vp_in ((nI n) - 1) 12 from g_vin (by with_reducible omega) (by with_reducible omega)) dX2_add_23 ?_
        refine r_iastc O T_21 (show vp_in (nI n) 12 from g_vin (by with_reducible omega) (by with_reducible omega)) dX2_add_24 ?_
        refine r_aload_n O 0 dX2_add_25 rfl rfl ?_
        refine r_get O FX2_15 G_20_1 dX2_add_26 ?_
        refine r_iload O 4 dX2_add_29 rfl ?_
        refine r_aload_n O 0 dX2_add_31 rfl rfl ?_
        refine r_get O FX2_15 G_20_1 dX2_add_32 ?_
        refine r_iload O 4 dX2_add_35 rfl ?_
        refine r_iconst (x := 1) O dX2_add_37 rfl ?_
        refine r_isub O dX2_add_38 ?_
        have ix_39 : ((nI n) - 1).toInt = ((nI n).toInt - (1 : Int)) := (j_subE rfl rfl (by with_reducible omega) (by with_reducible omega))
        refine r_iald O R_22 (show vp_in ((nI n) - 1) 12 from g_vin (by with_reducible omega) (by with_reducible omega)) dX2_add_39 ?_
        refine r_iastc O T_22 (show vp_in (nI n) 12 from g_vin (by with_reducible omega) (by with_reducible omega)) dX2_add_40 ?_
        refine r_aload_n O 0 dX2_add_41 rfl rfl ?_
        refine r_get O FX2_18 G_20_2 dX2_add_42 ?_
        refine r_iload O 4 dX2_add_45 rfl ?_
        refine r_aload_n O 0 dX2_add_47 rfl rfl ?_
        refine r_get O FX2_18 G_20_2 dX2_add_48 ?_
        refine r_iload O 4 dX2_add_51 rfl ?_
        refine r_iconst (x := 1) O dX2_add_53 rfl ?_
        refine r_isub O dX2_add_54 ?_
        have ix_55 : ((nI n) - 1).toInt = ((nI n).toInt - (1 : Int)) := (j_subE rfl rfl (by with_reducible omega) (by with_reducible omega))
        refine r_iald O R_23 (show vp_in ((nI n) - 1) 12 from g_vin (by with_reducible omega) (by with_reducible omega)) dX2_add_55 ?_
        refine r_iastc O T_23 (show vp_in (nI n) 12 from g_vin (by with_reducible omega) (by with_reducible omega)) dX2_add_56 ?_
        refine r_iinc (lc' := [(4, .int (nI (n - 1))), (0, .ref (g_ad X 20)), (1, .int x1), (2, .int x2), (3, .int x3)]) O 4 dX2_add_57 rfl (j_dec (by omega)) (hN 4 rfl) rfl ?_
        refine r_goto O 4 dX2_add_60 (by decide) ?_
        refine r_sub [1, 2, 3, 4, 0] rfl ?_
        exact ih_4 (n - 1) (upd (upd (upd m_4 (142 + 3 * (nI n).toNatClampNeg) (m_4 (142 + 3 * ((nI n) - 1).toNatClampNeg))) (143 + 3 * (nI n).toNatClampNeg) ((upd m_4 (142 + 3 * (nI n).toNatClampNeg) (m_4 (142 + 3 * ((nI n) - 1).toNatClampNeg))) (143 + 3 * ((nI n) - 1).toNatClampNeg))) (144 + 3 * (nI n).toNatClampNeg) ((upd (upd m_4 (142 + 3 * (nI n).toNatClampNeg) (m_4 (142 + 3 * ((nI n) - 1).toNatClampNeg))) (143 + 3 * (nI n).toNatClampNeg) ((upd m_4 (142 + 3 * (nI n).toNatClampNeg) (m_4 (142 + 3 * ((nI n) - 1).toNatClampNeg))) (143 + 3 * ((nI n) - 1).toNatClampNeg))) (144 + 3 * ((nI n) - 1).toNatClampNeg))) (by with_reducible omega)
  refine r_sub [1, 2, 3, 4, 0] rfl ?_
  exact L_4 12 11 m (by with_reducible omega)
theorem met_X2_add (l : Launch) (hs : l.stackTraces = false) (q : g_q) (m : Nat → Int32) (x1 : Int32) (x2 : Int32) (x3 : Int32)  : g_SM l yX2_add cX2_add 5 none ({ frames := 1, cells := 0, slots := 0, locals := 21 } : Room) (fun ad => [.ref (ad 20), .int x1, .int x2, .int x3]) m q ((fun r : Nat → Int32 => ((.inl none, (r, q)) : g_Res)) (R_X2_add m x1 x2 x3)) :=
  g_sm_of (by decide) (fun _ => Nat.le_of_ble_eq_true rfl) hs (fun X hl hn O => walk_X2_add O (by rw [hl]; exact hs) hn )
