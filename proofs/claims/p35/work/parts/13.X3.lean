/-! ===== Messages ===== -/
def R_X3_set (m : Nat → Int32) (x1 : Int32) (x2 : Int32) (x3 : Int32) (x4 : Int32) : (Nat → Int32) := (upd (upd (upd m (112 + 3 * x1.toNatClampNeg) x2) (113 + 3 * x1.toNatClampNeg) x3) (114 + 3 * x1.toNatClampNeg) x4)
set_option maxRecDepth 100000 in
set_option maxHeartbeats 4000000 in
theorem walk_X3_set {X : g_X} (O : g_ok X cX3_set RX3 none ({ frames := 0, cells := 0, slots := 0, locals := 0 } : Room)) (hs : (g_xl X).stackTraces = false) (hn : g_xn X = 5) {q : g_q} {m : Nat → Int32} {x1 : Int32} {x2 : Int32} {x3 : Int32} {x4 : Int32} (p0 : 0 ≤ x1.toInt) (p1 : x1.toInt < 10) : g_V X (fun r : Nat → Int32 => ((.inl none, (r, q)) : g_Res)) (R_X3_set m x1 x2 x3 x4) 0 0 m q 0 [(0, .ref (g_ad X 16)), (1, .int x1), (2, .int x2), (3, .int x3), (4, .int x4)] [] := by
  have hN : ∀ i, Nat.blt i 5 = true → i < g_xn X := fun i h => by rw [hn]; exact g_blt.mp h
  refine r_aload_n O 0 dX3_set_0 rfl rfl ?_
  refine r_get O FX3_9 G_16_0 dX3_set_1 ?_
  refine r_iload_n O 1 dX3_set_4 rfl rfl ?_
  refine r_iload_n O 2 dX3_set_5 rfl rfl ?_
  refine r_iastc O T_17 (show vp_in x1 10 from g_vin (by with_reducible omega) (by with_reducible omega)) dX3_set_6 ?_
  refine r_aload_n O 0 dX3_set_7 rfl rfl ?_
  refine r_get O FX3_15 G_16_1 dX3_set_8 ?_
  refine r_iload_n O 1 dX3_set_11 rfl rfl ?_
  refine r_iload_n O 3 dX3_set_12 rfl rfl ?_
  refine r_iastc O T_18 (show vp_in x1 10 from g_vin (by with_reducible omega) (by with_reducible omega)) dX3_set_13 ?_
  refine r_aload_n O 0 dX3_set_14 rfl rfl ?_
  refine r_get O FX3_18 G_16_2 dX3_set_15 ?_
  refine r_iload_n O 1 dX3_set_18 rfl rfl ?_
  refine r_iload O 4 dX3_set_19 rfl ?_
  refine r_iastc O T_19 (show vp_in x1 10 from g_vin (by with_reducible omega) (by with_reducible omega)) dX3_set_21 ?_
  exact r_vret O dX3_set_22 (Nat.le_of_ble_eq_true rfl) (Nat.le_of_ble_eq_true rfl) rfl
theorem met_X3_set (l : Launch) (hs : l.stackTraces = false) (q : g_q) (m : Nat → Int32) (x1 : Int32) (x2 : Int32) (x3 : Int32) (x4 : Int32) (p0 : 0 ≤ x1.toInt) (p1 : x1.toInt < 10) : g_SM l yX3_set cX3_set 5 none ({ frames := 0, cells := 0, slots := 0, locals := 0 } : Room) (fun ad => [.ref (ad 16), .int x1, .int x2, .int x3, .int x4]) m q ((fun r : Nat → Int32 => ((.inl none, (r, q)) : g_Res)) (R_X3_set m x1 x2 x3 x4)) :=
  g_sm_of (by decide) (fun _ => Nat.le_of_ble_eq_true rfl) hs (fun X hl hn O => walk_X3_set O (by rw [hl]; exact hs) hn p0 p1)
theorem fr_X3_set {m : Nat → Int32} {a b c d : Int32} {n : Nat} (hn : n < 112) : R_X3_set m a b c d n = m n := by
  unfold R_X3_set
  simp (disch := omega) only [g_upd_ne]
def R_X3_add (m : Nat → Int32) (x1 : Int32) (x2 : Int32) (x3 : Int32) : (Nat → Int32) := (if 10 ≤ (m 6) then m else (upd (R_X3_set m (m 6) x1 x2 x3) 6 (((R_X3_set m (m 6) x1 x2 x3) 6) + 1)))
set_option maxRecDepth 100000 in
set_option maxHeartbeats 4000000 in
theorem walk_X3_add {X : g_X} (O : g_ok X cX3_add RX3 none ({ frames := 1, cells := 0, slots := 0, locals := 24 } : Room)) (hs : (g_xl X).stackTraces = false) (hn : g_xn X = 4) {q : g_q} {m : Nat → Int32} {x1 : Int32} {x2 : Int32} {x3 : Int32} (p0 : 0 ≤ (m 6).toInt) (p1 : (m 6).toInt ≤ 10) : g_V X (fun r : Nat → Int32 => ((.inl none, (r, q)) : g_Res)) (R_X3_add m x1 x2 x3) 0 0 m q 0 [(0, .ref (g_ad X 16)), (1, .int x1), (2, .int x2), (3, .int x3)] [] := by
  have hN : ∀ i, Nat.blt i 4 = true → i < g_xn X := fun i h => by rw [hn]; exact g_blt.mp h
  refine r_aload_n O 0 dX3_add_0 rfl rfl ?_
  refine r_get O FX3_21 G_16_3 dX3_add_1 ?_
  refine r_bipush (x := 10) O dX3_add_4 rfl ?_
  refine r_icmp_ge O 30 dX3_add_6 (by decide) (fun c_6 => ?_) (fun c_6 => ?_)
  · have e_6 : (10 : Int) ≤ (m 6).toInt := j_leL c_6 rfl
    exact r_vret O dX3_add_30 (Nat.le_of_ble_eq_true rfl) (Nat.le_of_ble_eq_true rfl) rfl
  · have e_6 : (m 6).toInt < (10 : Int) := j_nleL c_6 rfl
    refine r_aload_n O 0 dX3_add_9 rfl rfl ?_
    refine r_aload_n O 0 dX3_add_10 rfl rfl ?_
    refine r_get O FX3_21 G_16_3 dX3_add_11 ?_
    refine r_iload_n O 1 dX3_add_14 rfl rfl ?_
    refine r_iload_n O 2 dX3_add_15 rfl rfl ?_
    refine r_iload_n O 3 dX3_add_16 rfl rfl ?_
    refine r_callVv O [.int (m 6), .int x1, .int x2, .int x3] [] (met_X3_set (g_xl X) hs q m (m 6) x1 x2 x3 (by first | decide | with_reducible assumption | with_reducible omega | (simp (disch := omega) only [g_upd_ne, g_upd_eq, fr_X4_fix, fr_X5_put, fr_X1_startAnew, fr_X1_walkTo, fr_X1_arrive, fr_X1_countBelow, fr_X3_set]; first | with_reducible assumption | with_reducible omega | decide) | exact Or.inl rfl | exact Or.inr rfl) (by first | decide | with_reducible assumption | with_reducible omega | (simp (disch := omega) only [g_upd_ne, g_upd_eq, fr_X4_fix, fr_X5_put, fr_X1_startAnew, fr_X1_walkTo, fr_X1_arrive, fr_X1_countBelow, fr_X3_set]; first | with_reducible assumption | with_reducible omega | decide) | exact Or.inl rfl | exact Or.inr rfl)) LX3_28 obj_16 rfl rfl rfl dX3_add_17 rfl rfl ?_
    refine r_aload_n O 0 dX3_add_20 rfl rfl ?_
    refine r_dup O dX3_add_21 rfl ?_
    refine r_get O FX3_21 G_16_3 dX3_add_22 ?_
    refine r_iconst (x := 1) O dX3_add_25 rfl ?_
    refine r_iadd O dX3_add_26 ?_
    refine r_put O (FPX3_21 (((R_X3_set m (m 6) x1 x2 x3) 6) + 1)) (S_16_3 (((R_X3_set m (m 6) x1 x2 x3) 6) + 1)) dX3_add_27 ?_
    exact r_vret O dX3_add_30 (Nat.le_of_ble_eq_true rfl) (Nat.le_of_ble_eq_true rfl) rfl
theorem met_X3_add (l : Launch) (hs : l.stackTraces = false) (q : g_q) (m : Nat → Int32) (x1 : Int32) (x2 : Int32) (x3 : Int32) (p0 : 0 ≤ (m 6).toInt) (p1 : (m 6).toInt ≤ 10) : g_SM l yX3_add cX3_add 4 none ({ frames := 1, cells := 0, slots := 0, locals := 24 } : Room) (fun ad => [.ref (ad 16), .int x1, .int x2, .int x3]) m q ((fun r : Nat → Int32 => ((.inl none, (r, q)) : g_Res)) (R_X3_add m x1 x2 x3)) :=
  g_sm_of (by decide) (fun _ => Nat.le_of_ble_eq_true rfl) hs (fun X hl hn O => walk_X3_add O (by rw [hl]; exact hs) hn p0 p1)
def R_X3_about (m : Nat → Int32) (x1 : Int32) (x2 : Int32) : Int32 := (if x1 < 0 then (-1) else (if x1 < (m 6) then (if x2 = 0 then (m (112 + 3 * x1.toNatClampNeg)) else (if x2 = 1 then (m (113 + 3 * x1.toNatClampNeg)) else (m (114 + 3 * x1.toNatClampNeg)))) else (-1)))
set_option maxRecDepth 100000 in
set_option maxHeartbeats 4000000 in
theorem walk_X3_about {X : g_X} (O : g_ok X cX3_about RX3 (some .int) ({ frames := 0, cells := 0, slots := 0, locals := 0 } : Room)) (hs : (g_xl X).stackTraces = false) (hn : g_xn X = 3) {q : g_q} {m : Nat → Int32} {x1 : Int32} {x2 : Int32} (p0 : 0 ≤ (m 6).toInt) (p1 : (m 6).toInt ≤ 10) : g_V X (fun r : Int32 => ((.inl (some (.int r)), (m, q)) : g_Res)) (R_X3_about m x1 x2) 0 0 m q 0 [(0, .ref (g_ad X 16)), (1, .int x1), (2, .int x2)] [] := by
  have hN : ∀ i, Nat.blt i 3 = true → i < g_xn X := fun i h => by rw [hn]; exact g_blt.mp h
  refine r_iload_n O 1 dX3_about_0 rfl rfl ?_
  refine r_if_lt O 12 dX3_about_1 (by decide) (fun c_1 => ?_) (fun c_1 => ?_)
  · have e_1 : (x1).toInt < (0 : Int) := j_ltR c_1 rfl
    refine r_iconst (x := (-1)) O dX3_about_12 rfl ?_
    exact r_iret O dX3_about_13 rfl (Nat.le_of_ble_eq_true rfl) (Nat.le_of_ble_eq_true rfl) rfl
  · have e_1 : (0 : Int) ≤ (x1).toInt := j_nltR c_1 rfl
    refine r_iload_n O 1 dX3_about_4 rfl rfl ?_
    refine r_aload_n O 0 dX3_about_5 rfl rfl ?_
    refine r_get O FX3_21 G_16_3 dX3_about_6 ?_
    refine r_icmp_lt O 14 dX3_about_9 (by decide) (fun c_9 => ?_) (fun c_9 => ?_)
    · have e_9 : (x1).toInt < (m 6).toInt := j_lt c_9
      refine r_iload_n O 2 dX3_about_14 rfl rfl ?_
      refine g_if (fun c_15_0 => ?_) (fun c_15_0 => ?_)
      · refine r_lookup O (off := 25) 40 dX3_about_15 rfl (by show Op.lookupswitch.offset [(0, 25), (1, 32)] 39 _ = 25; rw [c_15_0] <;> rfl) (by decide) ?_
        refine r_aload_n O 0 dX3_about_40 rfl rfl ?_
        refine r_get O FX3_9 G_16_0 dX3_about_41 ?_
        refine r_iload_n O 1 dX3_about_44 rfl rfl ?_
        refine r_iald O R_17 (show vp_in x1 10 from g_vin (by with_reducible omega) (by with_reducible omega)) dX3_about_45 ?_
        exact r_iret O dX3_about_46 rfl (Nat.le_of_ble_eq_true rfl) (Nat.le_of_ble_eq_true rfl) rfl
      · refine g_if (fun c_15_1 => ?_) (fun c_15_1 => ?_)
        · refine r_lookup O (off := 32) 47 dX3_about_15 rfl (by show Op.lookupswitch.offset [(0, 25), (1, 32)] 39 _ = 32; rw [lv_osw (a := 0) c_15_0 rfl, c_15_1] <;> rfl) (by decide) ?_
          refine r_aload_n O 0 dX3_about_47 rfl rfl ?_
          refine r_get O FX3_15 G_16_1 dX3_about_48 ?_
          refine r_iload_n O 1 dX3_about_51 rfl rfl ?_
          refine r_iald O R_18 (show vp_in x1 10 from g_vin (by with_reducible omega) (by with_reducible omega)) dX3_about_52 ?_
          exact r_iret O dX3_about_53 rfl (Nat.le_of_ble_eq_true rfl) (Nat.le_of_ble_eq_true rfl) rfl
        · refine r_lookup O (off := 39) 54 dX3_about_15 rfl (by show Op.lookupswitch.offset [(0, 25), (1, 32)] 39 _ = 39; rw [lv_osw (a := 0) c_15_0 rfl, lv_osw (a := 1) c_15_1 rfl] <;> rfl) (by decide) ?_
          refine r_aload_n O 0 dX3_about_54 rfl rfl ?_
          refine r_get O FX3_18 G_16_2 dX3_about_55 ?_
          refine r_iload_n O 1 dX3_about_58 rfl rfl ?_
          refine r_iald O R_19 (show vp_in x1 10 from g_vin (by with_reducible omega) (by with_reducible omega)) dX3_about_59 ?_
          exact r_iret O dX3_about_60 rfl (Nat.le_of_ble_eq_true rfl) (Nat.le_of_ble_eq_true rfl) rfl
    · have e_9 : (m 6).toInt ≤ (x1).toInt := j_nlt c_9
      refine r_iconst (x := (-1)) O dX3_about_12 rfl ?_
      exact r_iret O dX3_about_13 rfl (Nat.le_of_ble_eq_true rfl) (Nat.le_of_ble_eq_true rfl) rfl
theorem met_X3_about (l : Launch) (hs : l.stackTraces = false) (q : g_q) (m : Nat → Int32) (x1 : Int32) (x2 : Int32) (p0 : 0 ≤ (m 6).toInt) (p1 : (m 6).toInt ≤ 10) : g_SM l yX3_about cX3_about 3 (some .int) ({ frames := 0, cells := 0, slots := 0, locals := 0 } : Room) (fun ad => [.ref (ad 16), .int x1, .int x2]) m q ((fun r : Int32 => ((.inl (some (.int r)), (m, q)) : g_Res)) (R_X3_about m x1 x2)) :=
  g_sm_of (by decide) (fun _ => Nat.le_of_ble_eq_true rfl) hs (fun X hl hn O => walk_X3_about O (by rw [hl]; exact hs) hn p0 p1)
def R_X3_goUp_46 (K_4 : Nat → Nat → (Nat → Int32) → (Nat → Int32)) (n : Nat) (a2 : Nat) (m_46 : Nat → Int32) : (Nat → Int32) := (K_4 a2 (n + 1) m_46)
def R_X3_goUp_4 (m : Nat → Int32) : Nat → Nat → Nat → (Nat → Int32) → (Nat → Int32)
  | 0, _, _, _ => m
  | f + 1, a, n, m_4 => (if (m_4 6) ≤ (nI n) then (upd (upd m_4 7 ((m_4 7) + ((m_4 6) - (nI a)))) 6 (nI a)) else (if ((m_4 (114 + 3 * (nI n).toNatClampNeg)) - 1) ≤ 0 then (R_X3_goUp_46 (R_X3_goUp_4 m f) n a m_4) else (R_X3_goUp_46 (R_X3_goUp_4 m f) n (a + 1) (R_X3_set m_4 (nI a) (m_4 (112 + 3 * (nI n).toNatClampNeg)) (m_4 (113 + 3 * (nI n).toNatClampNeg)) ((m_4 (114 + 3 * (nI n).toNatClampNeg)) - 1)))))
def R_X3_goUp (m : Nat → Int32) : (Nat → Int32) := (R_X3_goUp_4 m 11 0 0 m)
set_option maxRecDepth 100000 in
set_option maxHeartbeats 4000000 in
theorem walk_X3_goUp {X : g_X} (O : g_ok X cX3_goUp RX3 none ({ frames := 1, cells := 0, slots := 0, locals := 24 } : Room)) (hs : (g_xl X).stackTraces = false) (hn : g_xn X = 4) {q : g_q} {m : Nat → Int32} (p0 : 0 ≤ (m 6).toInt) (p1 : (m 6).toInt ≤ 10) : g_V X (fun r : Nat → Int32 => ((.inl none, (r, q)) : g_Res)) (R_X3_goUp m) 0 0 m q 0 [(0, .ref (g_ad X 16))] [] := by
  have hN : ∀ i, Nat.blt i 4 = true → i < g_xn X := fun i h => by rw [hn]; exact g_blt.mp h
  refine r_iconst (x := 0) O dX3_goUp_0 rfl ?_
  refine r_istore_n (lc' := [(1, .int 0), (0, .ref (g_ad X 16))]) O dX3_goUp_1 rfl (hN 1 rfl) rfl ?_
  refine r_iconst (x := 0) O dX3_goUp_2 rfl ?_
  refine r_istore_n (lc' := [(2, .int 0), (1, .int 0), (0, .ref (g_ad X 16))]) O dX3_goUp_3 rfl (hN 2 rfl) rfl ?_
  have L_4 : ∀ (f_4 : Nat) (a : Nat) (n : Nat) (m_4 : Nat → Int32) (hi_4 : a ≤ n ∧ n ≤ 10 ∧ 10 < f_4 + n ∧ (m_4 6).toInt ≤ 10), g_V X (fun r : Nat → Int32 => ((.inl none, (r, q)) : g_Res)) (R_X3_goUp_4 m f_4 a n m_4) 0 0 m_4 q 4 [(0, .ref (g_ad X 16)), (1, .int (nI a)), (2, .int (nI n))] [] := by
    intro f_4
    induction f_4 with
    | zero => intro a n m_4 hi_4; exact absurd hi_4 (by omega)
    | succ f_4 ih_4 =>
      intro a n m_4 hi_4
      have hc_a : (nI a).toInt = (a : Int) := nI_toInt (by omega)
      have hc_n : (nI n).toInt = (n : Int) := nI_toInt (by omega)
      refine r_iload_n O 2 dX3_goUp_4 rfl rfl ?_
      refine r_aload_n O 0 dX3_goUp_5 rfl rfl ?_
      refine r_get O FX3_21 G_16_3 dX3_goUp_6 ?_
      refine r_icmp_ge O 52 dX3_goUp_9 (by decide) (fun c_9 => ?_) (fun c_9 => ?_)
      · have e_9 : (m_4 6).toInt ≤ (nI n).toInt := j_le c_9
        refine r_aload_n O 0 dX3_goUp_52 rfl rfl ?_
        refine r_dup O dX3_goUp_53 rfl ?_
        refine r_get O FX3_25 G_16_4 dX3_goUp_54 ?_
        refine r_aload_n O 0 dX3_goUp_57 rfl rfl ?_
        refine r_get O FX3_21 G_16_3 dX3_goUp_58 ?_
        refine r_iload_n O 1 dX3_goUp_61 rfl rfl ?_
        refine r_isub O dX3_goUp_62 ?_
        refine r_iadd O dX3_goUp_63 ?_
        refine r_put O (FPX3_25 ((m_4 7) + ((m_4 6) - (nI a)))) (S_16_4 ((m_4 7) + ((m_4 6) - (nI a)))) dX3_goUp_64 ?_
        refine r_aload_n O 0 dX3_goUp_67 rfl rfl ?_
        refine r_iload_n O 1 dX3_goUp_68 rfl rfl ?_
        refine r_put O (FPX3_21 (nI a)) (S_16_3 (nI a)) dX3_goUp_69 ?_
        exact r_vret O dX3_goUp_72 (Nat.le_of_ble_eq_true rfl) (Nat.le_of_ble_eq_true rfl) rfl
      · have e_9 : (nI n).toInt < (m_4 6).toInt := j_nle c_9
        refine r_aload_n O 0 dX3_goUp_12 rfl rfl ?_
        refine r_get O FX3_18 G_16_2 dX3_goUp_13 ?_
        refine r_iload_n O 2 dX3_goUp_16 rfl rfl ?_
        refine r_iald O R_19 (show vp_in (nI n) 10 from g_vin (by with_reducible omega) (by with_reducible omega)) dX3_goUp_17 ?_
        refine r_iconst (x := 1) O dX3_goUp_18 rfl ?_
        refine r_isub O dX3_goUp_19 ?_
        refine r_istore_n (lc' := [(3, .int ((m_4 (114 + 3 * (nI n).toNatClampNeg)) - 1)), (0, .ref (g_ad X 16)), (1, .int (nI a)), (2, .int (nI n))]) O dX3_goUp_20 rfl (hN 3 rfl) rfl ?_
        refine r_iload_n O 0 dX3_goUp_21 rfl rfl ?_
        have J_46 : ∀ (a2 : Nat) (m_46 : Nat → Int32) (hj0 : a2 ≤ n + 1) (hj1 : (m_46 6).toInt ≤ 10), g_V X (fun r : Nat → Int32 => ((.inl none, (r, q)) : g_Res)) (R_X3_goUp_46 ((R_X3_goUp_4 m f_4)) n a2 m_46) 0 0 m_46 q 46 [(0, .ref (g_ad X 16)), (1, .int (nI a2)), (2, .int (nI n))] [] := by
          intro a2 m_46 hj0 hj1
          refine r_iinc (lc' := [(2, .int (nI (n + 1))), (0, .ref (g_ad X 16)), (1, .int (nI a2))]) O 2 dX3_goUp_46 rfl (nI_1 n) (hN 2 rfl) rfl ?_
          refine r_goto O 4 dX3_goUp_49 (by decide) ?_
          refine r_sub [1, 2, 0] rfl ?_
          exact ih_4 a2 (n + 1) m_46 ⟨(by first | decide | with_reducible assumption | with_reducible omega | (simp (disch := omega) only [g_upd_ne, g_upd_eq, fr_X4_fix, fr_X5_put, fr_X1_startAnew, fr_X1_walkTo, fr_X1_arrive, fr_X1_countBelow, fr_X3_set]; first | with_reducible assumption | with_reducible omega | decide) | exact Or.inl rfl | exact Or.inr rfl), (by first | decide | with_reducible assumption | with_reducible omega | (simp (disch := omega) only [g_upd_ne, g_upd_eq, fr_X4_fix, fr_X5_put, fr_X1_startAnew, fr_X1_walkTo, fr_X1_arrive, fr_X1_countBelow, fr_X3_set]; first | with_reducible assumption | with_reducible omega | decide) | exact Or.inl rfl | exact Or.inr rfl), (by first | decide | with_reducible assumption | with_reducible omega | (simp (disch := omega) only [g_upd_ne, g_upd_eq, fr_X4_fix, fr_X5_put, fr_X1_startAnew, fr_X1_walkTo, fr_X1_arrive, fr_X1_countBelow, fr_X3_set]; first | with_reducible assumption | with_reducible omega | decide) | exact Or.inl rfl | exact Or.inr rfl), (by first | decide | with_reducible assumption | with_reducible omega | (simp (disch := omega) only [g_upd_ne, g_upd_eq, fr_X4_fix, fr_X5_put, fr_X1_startAnew, fr_X1_walkTo, fr_X1_arrive, fr_X1_countBelow, fr_X3_set]; first | with_reducible assumption | with_reducible omega | decide) | exact Or.inl rfl | exact Or.inr rfl)⟩
        refine r_if_le O 46 dX3_goUp_22 (by decide) (fun c_22 => ?_) (fun c_22 => ?_)
        · have e_22 : ((m_4 (114 + 3 * (nI n).toNatClampNeg)) - 1).toInt ≤ (0 : Int) := j_leR c_22 rfl
          refine r_sub [1, 2, 3] rfl ?_
          exact J_46 a m_4 (by first | decide | with_reducible assumption | with_reducible omega | (simp (disch := omega) only [g_upd_ne, g_upd_eq, fr_X4_fix, fr_X5_put, fr_X1_startAnew, fr_X1_walkTo, fr_X1_arrive, fr_X1_countBelow, fr_X3_set]; first | with_reducible assumption | with_reducible omega | decide) | exact Or.inl rfl | exact Or.inr rfl) (by first | decide | with_reducible assumption | with_reducible omega | (simp (disch := omega) only [g_upd_ne, g_upd_eq, fr_X4_fix, fr_X5_put, fr_X1_startAnew, fr_X1_walkTo, fr_X1_arrive, fr_X1_countBelow, fr_X3_set]; first | with_reducible assumption | with_reducible omega | decide) | exact Or.inl rfl | exact Or.inr rfl)
        · have e_22 : (0 : Int) < ((m_4 (114 + 3 * (nI n).toNatClampNeg)) - 1).toInt := j_nleR c_22 rfl
          refine r_aload_n O 1 dX3_goUp_25 rfl rfl ?_
          refine r_iload_n O 2 dX3_goUp_26 rfl rfl ?_
          refine r_aload_n O 1 dX3_goUp_27 rfl rfl ?_
          refine r_get O FX3_9 G_16_0 dX3_goUp_28 ?_
          refine r_iload_n O 3 dX3_goUp_31 rfl rfl ?_
          refine r_iald O R_17 (show vp_in (nI n) 10 from g_vin (by with_reducible omega) (by with_reducible omega)) dX3_goUp_32 ?_
          refine r_aload_n O 1 dX3_goUp_33 rfl rfl ?_
          refine r_get O FX3_15 G_16_1 dX3_goUp_34 ?_
          refine r_iload_n O 3 dX3_goUp_37 rfl rfl ?_
          refine r_iald O R_18 (show vp_in (nI n) 10 from g_vin (by with_reducible omega) (by with_reducible omega)) dX3_goUp_38 ?_
          refine r_iload_n O 0 dX3_goUp_39 rfl rfl ?_
          refine r_callVv O [.int (nI a), .int (m_4 (112 + 3 * (nI n).toNatClampNeg)), .int (m_4 (113 + 3 * (nI n).toNatClampNeg)), .int ((m_4 (114 + 3 * (nI n).toNatClampNeg)) - 1)] [] (met_X3_set (g_xl X) hs q m_4 (nI a) (m_4 (112 + 3 * (nI n).toNatClampNeg)) (m_4 (113 + 3 * (nI n).toNatClampNeg)) ((m_4 (114 + 3 * (nI n).toNatClampNeg)) - 1) (by first | decide | with_reducible assumption | with_reducible omega | (simp (disch := omega) only [g_upd_ne, g_upd_eq, fr_X4_fix, fr_X5_put, fr_X1_startAnew, fr_X1_walkTo, fr_X1_arrive, fr_X1_countBelow, fr_X3_set]; first | with_reducible assumption | with_reducible omega | decide) | exact Or.inl rfl | exact Or.inr rfl) (by first | decide | with_reducible assumption | with_reducible omega | (simp (disch := omega) only [g_upd_ne, g_upd_eq, fr_X4_fix, fr_X5_put, fr_X1_startAnew, fr_X1_walkTo, fr_X1_arrive, fr_X1_countBelow, fr_X3_set]; first | with_reducible assumption | with_reducible omega | decide) | exact Or.inl rfl | exact Or.inr rfl)) LX3_28 obj_16 rfl rfl rfl dX3_goUp_40 rfl rfl ?_
          refine r_iinc (lc' := [(1, .int (nI (a + 1))), (3, .int ((m_4 (114 + 3 * (nI n).toNatClampNeg)) - 1)), (0, .ref (g_ad X 16)), (2, .int (nI n))]) O 2 dX3_goUp_43 rfl (nI_1 a) (hN 1 rfl) rfl ?_
          refine r_sub [2, 0, 3] rfl ?_
          exact J_46 (a + 1) (R_X3_set m_4 (nI a) (m_4 (112 + 3 * (nI n).toNatClampNeg)) (m_4 (113 + 3 * (nI n).toNatClampNeg)) ((m_4 (114 + 3 * (nI n).toNatClampNeg)) - 1)) (by first | decide | with_reducible assumption | with_reducible omega | (simp (disch := omega) only [g_upd_ne, g_upd_eq, fr_X4_fix, fr_X5_put, fr_X1_startAnew, fr_X1_walkTo, fr_X1_arrive, fr_X1_countBelow, fr_X3_set]; first | with_reducible assumption | with_reducible omega | decide) | exact Or.inl rfl | exact Or.inr rfl) (by first | decide | with_reducible assumption | with_reducible omega | (simp (disch := omega) only [g_upd_ne, g_upd_eq, fr_X4_fix, fr_X5_put, fr_X1_startAnew, fr_X1_walkTo, fr_X1_arrive, fr_X1_countBelow, fr_X3_set]; first | with_reducible assumption | with_reducible omega | decide) | exact Or.inl rfl | exact Or.inr rfl)
  refine r_sub [2, 1, 0] rfl ?_
  exact L_4 11 0 0 m ⟨(by first | decide | with_reducible assumption | with_reducible omega | (simp (disch := omega) only [g_upd_ne, g_upd_eq, fr_X4_fix, fr_X5_put, fr_X1_startAnew, fr_X1_walkTo, fr_X1_arrive, fr_X1_countBelow, fr_X3_set]; first | with_reducible assumption | with_reducible omega | decide) | exact Or.inl rfl | exact Or.inr rfl), (by first | decide | with_reducible assumption | with_reducible omega | (simp (disch := omega) only [g_upd_ne, g_upd_eq, fr_X4_fix, fr_X5_put, fr_X1_startAnew, fr_X1_walkTo, fr_X1_arrive, fr_X1_countBelow, fr_X3_set]; first | with_reducible assumption | with_reducible omega | decide) | exact Or.inl rfl | exact Or.inr rfl), (by first | decide | with_reducible assumption | with_reducible omega | (simp (disch := omega) only [g_upd_ne, g_upd_eq, fr_X4_fix, fr_X5_put, fr_X1_startAnew, fr_X1_walkTo, fr_X1_arrive, fr_X1_countBelow, fr_X3_set]; first | with_reducible assumption | with_reducible omega | decide) | exact Or.inl rfl | exact Or.inr rfl), (by first | decide | with_reducible assumption | with_reducible omega | (simp (disch := omega) only [g_upd_ne, g_upd_eq, fr_X4_fix, fr_X5_put, fr_X1_startAnew, fr_X1_walkTo, fr_X1_arrive, fr_X1_countBelow, fr_X3_set]; first | with_reducible assumption | with_reducible omega | decide) | exact Or.inl rfl | exact Or.inr rfl)⟩
theorem met_X3_goUp (l : Launch) (hs : l.stackTraces = false) (q : g_q) (m : Nat → Int32) (p0 : 0 ≤ (m 6).toInt) (p1 : (m 6).toInt ≤ 10) : g_SM l yX3_goUp cX3_goUp 4 none ({ frames := 1, cells := 0, slots := 0, locals := 24 } : Room) (fun ad => [.ref (ad 16)]) m q ((fun r : Nat → Int32 => ((.inl none, (r, q)) : g_Res)) (R_X3_goUp m)) :=
  g_sm_of (by decide) (fun _ => Nat.le_of_ble_eq_true rfl) hs (fun X hl hn O => walk_X3_goUp O (by rw [hl]; exact hs) hn p0 p1)
theorem fr_X3_goUp_4 {m : Nat → Int32} {n : Nat} (hn : n < 112) (h6 : n ≠ 6) (h7 : n ≠ 7) : ∀ (f a b : Nat) (m4 : Nat → Int32), m4 n = m n → R_X3_goUp_4 m f a b m4 n = m n
  | 0, _, _, _, _ => rfl
  | f + 1, a, b, m4, h => by
    unfold R_X3_goUp_4 R_X3_goUp_46
    have ih := fr_X3_goUp_4 (m := m) hn h6 h7 f
    simp only [apply_ite (fun f : Nat → Int32 => f n)]
    split
    · simp (disch := omega) only [g_upd_ne]
      exact h
    · split
      · exact ih _ _ _ h
      · exact ih _ _ _ (by rw [fr_X3_set hn]; exact h)
theorem fr_X3_goUp {m : Nat → Int32} {n : Nat} (hn : n < 112) (h6 : n ≠ 6) (h7 : n ≠ 7) : R_X3_goUp m n = m n := fr_X3_goUp_4 hn h6 h7 _ _ _ _ rfl
theorem b_X3_goUp_4 {m : Nat → Int32} (p0 : 0 ≤ (m 6).toInt) (p1 : (m 6).toInt ≤ 10) : ∀ (f a b : Nat) (m4 : Nat → Int32), a ≤ b → b ≤ 10 → (m4 6).toInt ≤ 10 → 0 ≤ (R_X3_goUp_4 m f a b m4 6).toInt ∧ (R_X3_goUp_4 m f a b m4 6).toInt ≤ 10
  | 0, _, _, _, _, _, _ => ⟨p0, p1⟩
  | f + 1, a, b, m4, h1, h2, h3 => by
    unfold R_X3_goUp_4 R_X3_goUp_46
    have ih := b_X3_goUp_4 (m := m) p0 p1 f
    have hb : (nI b).toInt = (b : Int) := nI_toInt (by omega)
    simp only [apply_ite (fun f : Nat → Int32 => f 6)]
    split
    · rw [g_upd_eq, nI_toInt (by omega)]
      omega
    · rename_i hc
      have hc := j_nle hc
      split
      · exact ih _ _ _ (by omega) (by omega) h3
      · exact ih _ _ _ (by omega) (by omega) (by rw [fr_X3_set (by omega)]; exact h3)
theorem b_X3_goUp {m : Nat → Int32} (p0 : 0 ≤ (m 6).toInt) (p1 : (m 6).toInt ≤ 10) : 0 ≤ (R_X3_goUp m 6).toInt ∧ (R_X3_goUp m 6).toInt ≤ 10 := b_X3_goUp_4 p0 p1 _ _ _ _ (by omega) (by omega) p1
