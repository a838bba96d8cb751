/-! ===== Cave: carrying and minutes ===== -/
def R_X0_startCarry_61 (K_18 : Nat → (Nat → Int32) → (Int32 × (Nat → Int32))) (n : Nat) (m_61 : Nat → Int32) : (Int32 × (Nat → Int32)) := (K_18 (n + 1) m_61)
def R_X0_startCarry_18 (m : Nat → Int32) (x1 : Int32) : Nat → Nat → (Nat → Int32) → (Int32 × (Nat → Int32))
  | 0, _, _ => (0, m)
  | f + 1, n, m_18 => (if (m_18 2) ≤ (nI n) then ((3 * (R_X4_minutesOf m ((m 4) - 1))), (R_X2_add (upd m_18 5 1) ((upd m_18 5 1) 3) ((upd m_18 5 1) 4) x1)) else (if ((x1 >>> ((nI n) &&& 31)) &&& 1) = 1 then (R_X0_startCarry_61 (R_X0_startCarry_18 m x1 f) n (upd (R_X1_walkTo m_18 ((nI n).toNatClampNeg) ((m_18 4) - 1) (3 * (R_X4_minutesOf m ((m 4) - 1)))) (58 + 9 * ((nI n).toNatClampNeg) + 8) 1)) else (R_X0_startCarry_61 (R_X0_startCarry_18 m x1 f) n m_18)))
def R_X0_startCarry (m : Nat → Int32) (x1 : Int32) : (Int32 × (Nat → Int32)) := (R_X0_startCarry_18 m x1 7 0 m)
set_option maxRecDepth 100000 in
set_option maxHeartbeats 4000000 in
theorem walk_X0_startCarry {X : g_X} (O : g_ok X cX0_startCarry RX0 (some .int) ({ frames := 2, cells := 0, slots := 0, locals := 45 } : Room)) (hs : (g_xl X).stackTraces = false) (hn : g_xn X = 4) {q : g_q} {m : Nat → Int32} {x1 : Int32} (p0 : (m 0).toInt ≤ 7) (p1 : (m 2).toInt ≤ 6) : g_V X (fun r : Int32 × (Nat → Int32) => ((.inl (some (.int r.1)), (r.2, q)) : g_Res)) (R_X0_startCarry m x1) 0 0 m q 0 [(0, .ref (g_ad X 0)), (1, .int x1)] [] := by
  have hN : ∀ i, Nat.blt i 4 = true → i < g_xn X := fun i h => by rw [hn]; exact g_blt.mp h
  refine r_iconst (x := 3) O dX0_startCarry_0 rfl ?_
  refine r_aload_n O 0 dX0_startCarry_1 rfl rfl ?_
  refine r_get O FX0_12 G_0_0 dX0_startCarry_2 ?_
  refine r_aload_n O 0 dX0_startCarry_5 rfl rfl ?_
  refine r_get O FX0_52 G_0_7 dX0_startCarry_6 ?_
  refine r_iconst (x := 1) O dX0_startCarry_9 rfl ?_
  refine r_isub O dX0_startCarry_10 ?_
  refine r_callVi O [.int ((m 4) - 1)] [.int 3] (met_X4_minutesOf (g_xl X) hs q m ((m 4) - 1) (by first | decide | with_reducible assumption | with_reducible omega | (simp (disch := omega) only [g_upd_ne, g_upd_eq, fr_X4_fix, fr_X5_put, fr_X1_startAnew, fr_X1_walkTo, fr_X1_arrive, fr_X1_countBelow, fr_X3_set, fr_X0_startWalk]; first | with_reducible assumption | with_reducible omega | decide) | exact Or.inl rfl | exact Or.inr rfl)) LX0_136 obj_1 rfl rfl rfl dX0_startCarry_11 rfl rfl ?_
  refine r_imul O dX0_startCarry_14 ?_
  refine r_istore_n (lc' := [(2, .int (3 * (R_X4_minutesOf m ((m 4) - 1)))), (0, .ref (g_ad X 0)), (1, .int x1)]) O dX0_startCarry_15 rfl (hN 2 rfl) rfl ?_
  refine r_iconst (x := 0) O dX0_startCarry_16 rfl ?_
  refine r_istore_n (lc' := [(3, .int 0), (2, .int (3 * (R_X4_minutesOf m ((m 4) - 1)))), (0, .ref (g_ad X 0)), (1, .int x1)]) O dX0_startCarry_17 rfl (hN 3 rfl) rfl ?_
  have L_18 : ∀ (f_18 : Nat) (n : Nat) (m_18 : Nat → Int32) (hi_18 : n ≤ 6 ∧ 6 < f_18 + n ∧ (m_18 2).toInt ≤ 6), g_V X (fun r : Int32 × (Nat → Int32) => ((.inl (some (.int r.1)), (r.2, q)) : g_Res)) (R_X0_startCarry_18 m x1 f_18 n m_18) 0 0 m_18 q 18 [(0, .ref (g_ad X 0)), (1, .int x1), (2, .int (3 * (R_X4_minutesOf m ((m 4) - 1)))), (3, .int (nI n))] [] := by
    intro f_18
    induction f_18 with
    | zero => intro n m_18 hi_18; exact absurd hi_18 (by omega)
    | succ f_18 ih_18 =>
      intro n m_18 hi_18
      have hc_n : (nI n).toInt = (n : Int) := nI_toInt (by omega)
      refine r_iload_n O 3 dX0_startCarry_18 rfl rfl ?_
      refine r_aload_n O 0 dX0_startCarry_19 rfl rfl ?_
      refine r_get O FX0_31 G_0_3 dX0_startCarry_20 ?_
      refine r_icmp_ge O 67 dX0_startCarry_23 (by decide) (fun c_23 => ?_) (fun c_23 => ?_)
      · have e_23 : (m_18 2).toInt ≤ (nI n).toInt := j_le c_23
        refine r_aload_n O 0 dX0_startCarry_67 rfl rfl ?_
        refine r_iconst (x := 1) O dX0_startCarry_68 rfl ?_
        refine r_put O (FPX0_55 (Or.inr rfl)) (S_0_8 1) dX0_startCarry_69 ?_
        refine r_aload_n O 0 dX0_startCarry_72 rfl rfl ?_
        refine r_get O FX0_45 G_0_5 dX0_startCarry_73 ?_
        refine r_aload_n O 0 dX0_startCarry_76 rfl rfl ?_
        refine r_get O FX0_49 G_0_6 dX0_startCarry_77 ?_
        refine r_aload_n O 0 dX0_startCarry_80 rfl rfl ?_
        refine r_get O FX0_52 G_0_7 dX0_startCarry_81 ?_
        refine r_iload_n O 1 dX0_startCarry_84 rfl rfl ?_
        refine r_callVv O [.int ((upd m_18 5 1) 3), .int ((upd m_18 5 1) 4), .int x1] [] (met_X2_add (g_xl X) hs q (upd m_18 5 1) ((upd m_18 5 1) 3) ((upd m_18 5 1) 4) x1 ) LX0_207 obj_20 rfl rfl rfl dX0_startCarry_85 rfl rfl ?_
        refine r_iload_n O 2 dX0_startCarry_88 rfl rfl ?_
        exact r_iret O dX0_startCarry_89 rfl (Nat.le_of_ble_eq_true rfl) (Nat.le_of_ble_eq_true rfl) rfl
      · have e_23 : (nI n).toInt < (m_18 2).toInt := j_nle c_23
        refine r_iload_n O 1 dX0_startCarry_26 rfl rfl ?_
        refine r_iload_n O 3 dX0_startCarry_27 rfl rfl ?_
        refine r_ishr O dX0_startCarry_28 ?_
        refine r_iconst (x := 1) O dX0_startCarry_29 rfl ?_
        refine r_iand O dX0_startCarry_30 ?_
        refine r_iconst (x := 1) O dX0_startCarry_31 rfl ?_
        have J_61 : ∀ (m_61 : Nat → Int32) (hj0 : (m_61 2).toInt ≤ 6), g_V X (fun r : Int32 × (Nat → Int32) => ((.inl (some (.int r.1)), (r.2, q)) : g_Res)) (R_X0_startCarry_61 ((R_X0_startCarry_18 m x1 f_18)) n m_61) 0 0 m_61 q 61 [(0, .ref (g_ad X 0)), (1, .int x1), (2, .int (3 * (R_X4_minutesOf m ((m 4) - 1)))), (3, .int (nI n))] [] := by
          intro m_61 hj0
          refine r_iinc (lc' := [(3, .int (nI (n + 1))), (0, .ref (g_ad X 0)), (1, .int x1), (2, .int (3 * (R_X4_minutesOf m ((m 4) - 1))))]) O 3 dX0_startCarry_61 rfl (nI_1 n) (hN 3 rfl) rfl ?_
          refine r_goto O 18 dX0_startCarry_64 (by decide) ?_
          refine r_sub [1, 2, 3, 0] rfl ?_
          exact ih_18 (n + 1) m_61 ⟨(by first | decide | with_reducible assumption | with_reducible omega | (simp (disch := omega) only [g_upd_ne, g_upd_eq, fr_X4_fix, fr_X5_put, fr_X1_startAnew, fr_X1_walkTo, fr_X1_arrive, fr_X1_countBelow, fr_X3_set, fr_X0_startWalk]; first | with_reducible assumption | with_reducible omega | decide) | exact Or.inl rfl | exact Or.inr rfl), (by first | decide | with_reducible assumption | with_reducible omega | (simp (disch := omega) only [g_upd_ne, g_upd_eq, fr_X4_fix, fr_X5_put, fr_X1_startAnew, fr_X1_walkTo, fr_X1_arrive, fr_X1_countBelow, fr_X3_set, fr_X0_startWalk]; first | with_reducible assumption | with_reducible omega | decide) | exact Or.inl rfl | exact Or.inr rfl), (by first | decide | with_reducible assumption | with_reducible omega | (simp (disch := omega) only [g_upd_ne, g_upd_eq, fr_X4_fix, fr_X5_put, fr_X1_startAnew, fr_X1_walkTo, fr_X1_arrive, fr_X1_countBelow, fr_X3_set, fr_X0_startWalk]; first | with_reducible assumption | with_reducible omega | decide) | exact Or.inl rfl | exact Or.inr rfl)⟩
        refine r_icmp_ne O 61 dX0_startCarry_32 (by decide) (fun c_32 => ?_) (fun c_32 => ?_)
        · have e_32 : ((x1 >>> ((nI n) &&& 31)) &&& 1).toInt = (1 : Int) := j_eqR c_32 rfl
          refine r_aload_n O 0 dX0_startCarry_35 rfl rfl ?_
          refine r_get O FX0_27 G_0_2 dX0_startCarry_36 ?_
          refine r_iload_n O 3 dX0_startCarry_39 rfl rfl ?_
          have hv1 : vp_in (nI n) 6 := (show vp_in (nI n) 6 from g_vin (by with_reducible omega) (by with_reducible omega))
          have hv1c := g_cl hv1
          refine r_aald O hv1 dX0_startCarry_40 ?_
          refine r_aload_n O 0 dX0_startCarry_41 rfl rfl ?_
          refine r_get O FX0_52 G_0_7 dX0_startCarry_42 ?_
          refine r_iconst (x := 1) O dX0_startCarry_45 rfl ?_
          refine r_isub O dX0_startCarry_46 ?_
          refine r_iload_n O 2 dX0_startCarry_47 rfl rfl ?_
          refine r_callVv O [.int ((m_18 4) - 1), .int (3 * (R_X4_minutesOf m ((m 4) - 1)))] [] (met_X1_walkTo (g_xl X) hs q m_18 ((nI n).toNatClampNeg) ((m_18 4) - 1) (3 * (R_X4_minutesOf m ((m 4) - 1))) hv1c) LX0_162 (obj_h hv1c) rfl rfl rfl dX0_startCarry_48 rfl rfl ?_
          refine r_aload_n O 0 dX0_startCarry_51 rfl rfl ?_
          refine r_get O FX0_27 G_0_2 dX0_startCarry_52 ?_
          refine r_iload_n O 3 dX0_startCarry_55 rfl rfl ?_
          have hv2 : vp_in (nI n) 6 := (show vp_in (nI n) 6 from g_vin (by with_reducible omega) (by with_reducible omega))
          have hv2c := g_cl hv2
          refine r_aald O hv2 dX0_startCarry_56 ?_
          refine r_iconst (x := 1) O dX0_startCarry_57 rfl ?_
          refine r_put O (FPX0_204 (Or.inr rfl)) (S_h (h := ((nI n).toNatClampNeg)) (j := 8) 1 hv2c (by decide)) dX0_startCarry_58 ?_
          exact J_61 (upd (R_X1_walkTo m_18 ((nI n).toNatClampNeg) ((m_18 4) - 1) (3 * (R_X4_minutesOf m ((m 4) - 1)))) (58 + 9 * ((nI n).toNatClampNeg) + 8) 1) (by first | decide | with_reducible assumption | with_reducible omega | (simp (disch := omega) only [g_upd_ne, g_upd_eq, fr_X4_fix, fr_X5_put, fr_X1_startAnew, fr_X1_walkTo, fr_X1_arrive, fr_X1_countBelow, fr_X3_set, fr_X0_startWalk]; first | with_reducible assumption | with_reducible omega | decide) | exact Or.inl rfl | exact Or.inr rfl)
        · have e_32 : ((x1 >>> ((nI n) &&& 31)) &&& 1).toInt ≠ (1 : Int) := j_neR c_32 rfl
          exact J_61 m_18 (by first | decide | with_reducible assumption | with_reducible omega | (simp (disch := omega) only [g_upd_ne, g_upd_eq, fr_X4_fix, fr_X5_put, fr_X1_startAnew, fr_X1_walkTo, fr_X1_arrive, fr_X1_countBelow, fr_X3_set, fr_X0_startWalk]; first | with_reducible assumption | with_reducible omega | decide) | exact Or.inl rfl | exact Or.inr rfl)
  refine r_sub [2, 3, 1, 0] rfl ?_
  exact L_18 7 0 m ⟨(by first | decide | with_reducible assumption | with_reducible omega | (simp (disch := omega) only [g_upd_ne, g_upd_eq, fr_X4_fix, fr_X5_put, fr_X1_startAnew, fr_X1_walkTo, fr_X1_arrive, fr_X1_countBelow, fr_X3_set, fr_X0_startWalk]; first | with_reducible assumption | with_reducible omega | decide) | exact Or.inl rfl | exact Or.inr rfl), (by first | decide | with_reducible assumption | with_reducible omega | (simp (disch := omega) only [g_upd_ne, g_upd_eq, fr_X4_fix, fr_X5_put, fr_X1_startAnew, fr_X1_walkTo, fr_X1_arrive, fr_X1_countBelow, fr_X3_set, fr_X0_startWalk]; first | with_reducible assumption | with_reducible omega | decide) | exact Or.inl rfl | exact Or.inr rfl), (by first | decide | with_reducible assumption | with_reducible omega | (simp (disch := omega) only [g_upd_ne, g_upd_eq, fr_X4_fix, fr_X5_put, fr_X1_startAnew, fr_X1_walkTo, fr_X1_arrive, fr_X1_countBelow, fr_X3_set, fr_X0_startWalk]; first | with_reducible assumption | with_reducible omega | decide) | exact Or.inl rfl | exact Or.inr rfl)⟩
theorem met_X0_startCarry (l : Launch) (hs : l.stackTraces = false) (q : g_q) (m : Nat → Int32) (x1 : Int32) (p0 : (m 0).toInt ≤ 7) (p1 : (m 2).toInt ≤ 6) : g_SM l yX0_startCarry cX0_startCarry 4 (some .int) ({ frames := 2, cells := 0, slots := 0, locals := 45 } : Room) (fun ad => [.ref (ad 0), .int x1]) m q ((fun r : Int32 × (Nat → Int32) => ((.inl (some (.int r.1)), (r.2, q)) : g_Res)) (R_X0_startCarry m x1)) :=
  g_sm_of (by decide) (fun _ => Nat.le_of_ble_eq_true rfl) hs (fun X hl hn O => walk_X0_startCarry O (by rw [hl]; exact hs) hn p0 p1)
def R_X0_walkOn_52 (m : Nat → Int32) (h : Nat) (t0_52 : Int32) : (Nat → Int32) := (if ((upd (upd m (58 + 9 * h + 6) ((m (58 + 9 * h + 6)) + t0_52)) (58 + 9 * h + 4) (((upd m (58 + 9 * h + 6) ((m (58 + 9 * h + 6)) + t0_52)) (58 + 9 * h + 4)) - 1)) (58 + 9 * h + 4)) ≤ 0 then (if ((R_X1_arrive (upd (upd m (58 + 9 * h + 6) ((m (58 + 9 * h + 6)) + t0_52)) (58 + 9 * h + 4) (((upd m (58 + 9 * h + 6) ((m (58 + 9 * h + 6)) + t0_52)) (58 + 9 * h + 4)) - 1)) h) (58 + 9 * h + 8)) = 0 then (R_X1_arrive (upd (upd m (58 + 9 * h + 6) ((m (58 + 9 * h + 6)) + t0_52)) (58 + 9 * h + 4) (((upd m (58 + 9 * h + 6) ((m (58 + 9 * h + 6)) + t0_52)) (58 + 9 * h + 4)) - 1)) h) else (upd (upd (upd (R_X1_arrive (upd (upd m (58 + 9 * h + 6) ((m (58 + 9 * h + 6)) + t0_52)) (58 + 9 * h + 4) (((upd m (58 + 9 * h + 6) ((m (58 + 9 * h + 6)) + t0_52)) (58 + 9 * h + 4)) - 1)) h) (58 + 9 * h + 8) 0) 4 ((upd (R_X1_arrive (upd (upd m (58 + 9 * h + 6) ((m (58 + 9 * h + 6)) + t0_52)) (58 + 9 * h + 4) (((upd m (58 + 9 * h + 6) ((m (58 + 9 * h + 6)) + t0_52)) (58 + 9 * h + 4)) - 1)) h) (58 + 9 * h + 8) 0) (58 + 9 * h + 1))) 5 0)) else (upd (upd m (58 + 9 * h + 6) ((m (58 + 9 * h + 6)) + t0_52)) (58 + 9 * h + 4) (((upd m (58 + 9 * h + 6) ((m (58 + 9 * h + 6)) + t0_52)) (58 + 9 * h + 4)) - 1)))
def R_X0_walkOn_47 (m : Nat → Int32) (h : Nat) : (Nat → Int32) := (R_X0_walkOn_52 m h 2)
def R_X0_walkOn_30 (m : Nat → Int32) (h : Nat) (t0_30 : Int32) : (Nat → Int32) := (if (m (58 + 9 * h + 8)) = 0 then (if t0_30 = 0 then (R_X0_walkOn_52 m h 1) else (R_X0_walkOn_47 m h )) else (R_X0_walkOn_47 m h ))
def R_X0_walkOn_29 (m : Nat → Int32) (h : Nat) : (Nat → Int32) := (R_X0_walkOn_30 m h 0)
def R_X0_walkOn (m : Nat → Int32) (h : Nat) : (Nat → Int32) := (if (m (58 + 9 * h + 1)) ≤ (m (58 + 9 * h + 3)) then (R_X0_walkOn_29 m h ) else (if (R_X4_isPitch m (m (58 + 9 * h + 3))) = 0 then (R_X0_walkOn_29 m h ) else (R_X0_walkOn_30 m h 1)))
set_option maxRecDepth 100000 in
set_option maxHeartbeats 4000000 in
theorem walk_X0_walkOn {X : g_X} (O : g_ok X cX0_walkOn RX0 none ({ frames := 2, cells := 0, slots := 0, locals := 42 } : Room)) (hs : (g_xl X).stackTraces = false) (hn : g_xn X = 3) {q : g_q} {m : Nat → Int32} {h : Nat} (p0 : h < 6) (p1 : (m 0).toInt ≤ 7) : g_V X (fun r : Nat → Int32 => ((.inl none, (r, q)) : g_Res)) (R_X0_walkOn m h) 0 0 m q 0 [(0, .ref (g_ad X 0)), (1, .ref (g_ad X (10 + h)))] [] := by
  have hN : ∀ i, Nat.blt i 3 = true → i < g_xn X := fun i h => by rw [hn]; exact g_blt.mp h
  have hh := p0
  refine r_aload_n O 1 dX0_walkOn_0 rfl rfl ?_
  refine r_get O FX0_231 (G_h (h := h) (j := 3) hh (by decide)) dX0_walkOn_1 ?_
  refine r_aload_n O 1 dX0_walkOn_4 rfl rfl ?_
  refine r_get O FX0_110 (G_h (h := h) (j := 1) hh (by decide)) dX0_walkOn_5 ?_
  have J_30 : ∀ (t0_30 : Int32), g_V X (fun r : Nat → Int32 => ((.inl none, (r, q)) : g_Res)) (R_X0_walkOn_30 m h t0_30) 0 0 m q 30 [(0, .ref (g_ad X 0)), (1, .ref (g_ad X (10 + h)))] [.int t0_30] := by
    intro t0_30
    refine r_istore_n (lc' := [(2, .int t0_30), (0, .ref (g_ad X 0)), (1, .ref (g_ad X (10 + h)))]) O dX0_walkOn_30 rfl (hN 2 rfl) rfl ?_
    refine r_aload_n O 2 dX0_walkOn_31 rfl rfl ?_
    refine r_dup O dX0_walkOn_32 rfl ?_
    refine r_get O FX0_142 (G_h (h := h) (j := 6) hh (by decide)) dX0_walkOn_33 ?_
    refine r_aload_n O 2 dX0_walkOn_36 rfl rfl ?_
    refine r_get O FX0_204 (G_h (h := h) (j := 8) hh (by decide)) dX0_walkOn_37 ?_
    have J_52 : ∀ (t0_52 : Int32), g_V X (fun r : Nat → Int32 => ((.inl none, (r, q)) : g_Res)) (R_X0_walkOn_52 m h t0_52) 0 0 m q 52 [(0, .ref (g_ad X 0)), (1, .ref (g_ad X (10 + h)))] [.int t0_52, .int (m (58 + 9 * h + 6)), .ref (g_ad X (10 + h))] := by
      intro t0_52
      refine r_iadd O dX0_walkOn_52 ?_
      refine r_put O (FPX0_142 ((m (58 + 9 * h + 6)) + t0_52)) (S_h (h := h) (j := 6) ((m (58 + 9 * h + 6)) + t0_52) hh (by decide)) dX0_walkOn_53 ?_
      refine r_aload_n O 1 dX0_walkOn_56 rfl rfl ?_
      refine r_dup O dX0_walkOn_57 rfl ?_
      refine r_get O FX0_186 (G_h (h := h) (j := 4) hh (by decide)) dX0_walkOn_58 ?_
      refine r_iconst (x := 1) O dX0_walkOn_61 rfl ?_
      refine r_isub O dX0_walkOn_62 ?_
      refine r_put O (FPX0_186 (((upd m (58 + 9 * h + 6) ((m (58 + 9 * h + 6)) + t0_52)) (58 + 9 * h + 4)) - 1)) (S_h (h := h) (j := 4) (((upd m (58 + 9 * h + 6) ((m (58 + 9 * h + 6)) + t0_52)) (58 + 9 * h + 4)) - 1) hh (by decide)) dX0_walkOn_63 ?_
      refine r_aload_n O 1 dX0_walkOn_66 rfl rfl ?_
      refine r_get O FX0_186 (G_h (h := h) (j := 4) hh (by decide)) dX0_walkOn_67 ?_
      refine r_if_le O 74 dX0_walkOn_70 (by decide) (fun c_70 => ?_) (fun c_70 => ?_)
      · have e_70 : ((upd (upd m (58 + 9 * h + 6) ((m (58 + 9 * h + 6)) + t0_52)) (58 + 9 * h + 4) (((upd m (58 + 9 * h + 6) ((m (58 + 9 * h + 6)) + t0_52)) (58 + 9 * h + 4)) - 1)) (58 + 9 * h + 4)).toInt ≤ (0 : Int) := j_leR c_70 rfl
        refine r_aload_n O 1 dX0_walkOn_74 rfl rfl ?_
        refine r_callVv O [] [] (met_X1_arrive (g_xl X) hs q (upd (upd m (58 + 9 * h + 6) ((m (58 + 9 * h + 6)) + t0_52)) (58 + 9 * h + 4) (((upd m (58 + 9 * h + 6) ((m (58 + 9 * h + 6)) + t0_52)) (58 + 9 * h + 4)) - 1)) h hh) LX0_234 (obj_h hh) rfl rfl rfl dX0_walkOn_75 rfl rfl ?_
        refine r_aload_n O 1 dX0_walkOn_78 rfl rfl ?_
        refine r_get O FX0_204 (G_h (h := h) (j := 8) hh (by decide)) dX0_walkOn_79 ?_
        refine r_if_eq O 103 dX0_walkOn_82 (by decide) (fun c_82 => ?_) (fun c_82 => ?_)
        · have e_82 : ((R_X1_arrive (upd (upd m (58 + 9 * h + 6) ((m (58 + 9 * h + 6)) + t0_52)) (58 + 9 * h + 4) (((upd m (58 + 9 * h + 6) ((m (58 + 9 * h + 6)) + t0_52)) (58 + 9 * h + 4)) - 1)) h) (58 + 9 * h + 8)).toInt = (0 : Int) := j_eqR c_82 rfl
          exact r_vret O dX0_walkOn_103 (Nat.le_of_ble_eq_true rfl) (Nat.le_of_ble_eq_true rfl) rfl
        · have e_82 : ((R_X1_arrive (upd (upd m (58 + 9 * h + 6) ((m (58 + 9 * h + 6)) + t0_52)) (58 + 9 * h + 4) (((upd m (58 + 9 * h + 6) ((m (58 + 9 * h + 6)) + t0_52)) (58 + 9 * h + 4)) - 1)) h) (58 + 9 * h + 8)).toInt ≠ (0 : Int) := j_neR c_82 rfl
          refine r_aload_n O 1 dX0_walkOn_85 rfl rfl ?_
          refine r_iconst (x := 0) O dX0_walkOn_86 rfl ?_
          refine r_put O (FPX0_204 (Or.inl rfl)) (S_h (h := h) (j := 8) 0 hh (by decide)) dX0_walkOn_87 ?_
          refine r_aload_n O 0 dX0_walkOn_90 rfl rfl ?_
          refine r_aload_n O 1 dX0_walkOn_91 rfl rfl ?_
          refine r_get O FX0_110 (G_h (h := h) (j := 1) hh (by decide)) dX0_walkOn_92 ?_
          refine r_put O (FPX0_52 ((upd (R_X1_arrive (upd (upd m (58 + 9 * h + 6) ((m (58 + 9 * h + 6)) + t0_52)) (58 + 9 * h + 4) (((upd m (58 + 9 * h + 6) ((m (58 + 9 * h + 6)) + t0_52)) (58 + 9 * h + 4)) - 1)) h) (58 + 9 * h + 8) 0) (58 + 9 * h + 1))) (S_0_7 ((upd (R_X1_arrive (upd (upd m (58 + 9 * h + 6) ((m (58 + 9 * h + 6)) + t0_52)) (58 + 9 * h + 4) (((upd m (58 + 9 * h + 6) ((m (58 + 9 * h + 6)) + t0_52)) (58 + 9 * h + 4)) - 1)) h) (58 + 9 * h + 8) 0) (58 + 9 * h + 1))) dX0_walkOn_95 ?_
          refine r_aload_n O 0 dX0_walkOn_98 rfl rfl ?_
          refine r_iconst (x := 0) O dX0_walkOn_99 rfl ?_
          refine r_put O (FPX0_55 (Or.inl rfl)) (S_0_8 0) dX0_walkOn_100 ?_
          exact r_vret O dX0_walkOn_103 (Nat.le_of_ble_eq_true rfl) (Nat.le_of_ble_eq_true rfl) rfl
      · have e_70 : (0 : Int) < ((upd (upd m (58 + 9 * h + 6) ((m (58 + 9 * h + 6)) + t0_52)) (58 + 9 * h + 4) (((upd m (58 + 9 * h + 6) ((m (58 + 9 * h + 6)) + t0_52)) (58 + 9 * h + 4)) - 1)) (58 + 9 * h + 4)).toInt := j_nleR c_70 rfl
        exact r_vret O dX0_walkOn_73 (Nat.le_of_ble_eq_true rfl) (Nat.le_of_ble_eq_true rfl) rfl
    have J_47 : g_V X (fun r : Nat → Int32 => ((.inl none, (r, q)) : g_Res)) (R_X0_walkOn_47 m h ) 0 0 m q 47 [(0, .ref (g_ad X 0)), (1, .ref (g_ad X (10 + h)))] [.int (m (58 + 9 * h + 6)), .ref (g_ad X (10 + h))] := by
      refine r_iconst (x := 2) O dX0_walkOn_47 rfl ?_
      refine r_goto O 52 dX0_walkOn_48 (by decide) ?_
      exact J_52 2
    refine r_if_ne O 47 dX0_walkOn_40 (by decide) (fun c_40 => ?_) (fun c_40 => ?_)
    · have e_40 : (m (58 + 9 * h + 8)).toInt = (0 : Int) := j_eqR c_40 rfl
      refine r_iload_n O 0 dX0_walkOn_43 rfl rfl ?_
      refine r_if_eq O 51 dX0_walkOn_44 (by decide) (fun c_44 => ?_) (fun c_44 => ?_)
      · have e_44 : (t0_30).toInt = (0 : Int) := j_eqR c_44 rfl
        refine r_iconst (x := 1) O dX0_walkOn_51 rfl ?_
        refine r_sub [1, 2] rfl ?_
        exact J_52 1
      · have e_44 : (t0_30).toInt ≠ (0 : Int) := j_neR c_44 rfl
        refine r_sub [1, 2] rfl ?_
        exact J_47
    · have e_40 : (m (58 + 9 * h + 8)).toInt ≠ (0 : Int) := j_neR c_40 rfl
      refine r_sub [1, 2] rfl ?_
      exact J_47
  have J_29 : g_V X (fun r : Nat → Int32 => ((.inl none, (r, q)) : g_Res)) (R_X0_walkOn_29 m h ) 0 0 m q 29 [(0, .ref (g_ad X 0)), (1, .ref (g_ad X (10 + h)))] [] := by
    refine r_iconst (x := 0) O dX0_walkOn_29 rfl ?_
    exact J_30 0
  refine r_icmp_ge O 29 dX0_walkOn_8 (by decide) (fun c_8 => ?_) (fun c_8 => ?_)
  · have e_8 : (m (58 + 9 * h + 1)).toInt ≤ (m (58 + 9 * h + 3)).toInt := j_le c_8
    exact J_29
  · have e_8 : (m (58 + 9 * h + 3)).toInt < (m (58 + 9 * h + 1)).toInt := j_nle c_8
    refine r_aload_n O 0 dX0_walkOn_11 rfl rfl ?_
    refine r_get O FX0_12 G_0_0 dX0_walkOn_12 ?_
    refine r_aload_n O 1 dX0_walkOn_15 rfl rfl ?_
    refine r_get O FX0_231 (G_h (h := h) (j := 3) hh (by decide)) dX0_walkOn_16 ?_
    refine r_callVi O [.int (m (58 + 9 * h + 3))] [] (met_X4_isPitch (g_xl X) hs q m (m (58 + 9 * h + 3)) (by first | decide | with_reducible assumption | with_reducible omega | (simp (disch := omega) only [g_upd_ne, g_upd_eq, fr_X4_fix, fr_X5_put, fr_X1_startAnew, fr_X1_walkTo, fr_X1_arrive, fr_X1_countBelow, fr_X3_set, fr_X0_startWalk]; first | with_reducible assumption | with_reducible omega | decide) | exact Or.inl rfl | exact Or.inr rfl)) LX0_139 obj_1 rfl rfl rfl dX0_walkOn_19 rfl rfl ?_
    refine r_if_eq O 29 dX0_walkOn_22 (by decide) (fun c_22 => ?_) (fun c_22 => ?_)
    · have e_22 : (R_X4_isPitch m (m (58 + 9 * h + 3))).toInt = (0 : Int) := j_eqR c_22 rfl
      exact J_29
    · have e_22 : (R_X4_isPitch m (m (58 + 9 * h + 3))).toInt ≠ (0 : Int) := j_neR c_22 rfl
      refine r_iconst (x := 1) O dX0_walkOn_25 rfl ?_
      refine r_goto O 30 dX0_walkOn_26 (by decide) ?_
      exact J_30 1
theorem met_X0_walkOn (l : Launch) (hs : l.stackTraces = false) (q : g_q) (m : Nat → Int32) (h : Nat) (p0 : h < 6) (p1 : (m 0).toInt ≤ 7) : g_SM l yX0_walkOn cX0_walkOn 3 none ({ frames := 2, cells := 0, slots := 0, locals := 42 } : Room) (fun ad => [.ref (ad 0), .ref (ad (10 + h))]) m q ((fun r : Nat → Int32 => ((.inl none, (r, q)) : g_Res)) (R_X0_walkOn m h)) :=
  g_sm_of (by decide) (fun _ => Nat.le_of_ble_eq_true rfl) hs (fun X hl hn O => walk_X0_walkOn O (by rw [hl]; exact hs) hn p0 p1)
theorem fr_X0_walkOn {m : Nat → Int32} {h n : Nat} (hn : n < 27) (h4 : n ≠ 4) (h5 : n ≠ 5) (h11 : n ≠ 11) : R_X0_walkOn m h n = m n := by
  unfold R_X0_walkOn R_X0_walkOn_29 R_X0_walkOn_30 R_X0_walkOn_47 R_X0_walkOn_52
  simp only [apply_ite (fun f : Nat → Int32 => f n)]
  simp (disch := omega) only [g_upd_ne, fr_X1_arrive, ite_self]
def R_X0_rigOn (m : Nat → Int32) (h : Nat) : (Nat → Int32) := (if ((upd m (58 + 9 * h + 4) ((m (58 + 9 * h + 4)) - 1)) (58 + 9 * h + 4)) ≤ 0 then (upd (upd (R_X4_fix (R_X5_put (upd m (58 + 9 * h + 4) ((m (58 + 9 * h + 4)) - 1)) ((upd m (58 + 9 * h + 4) ((m (58 + 9 * h + 4)) - 1)) (58 + 9 * h + 5)) 2 ((upd m (58 + 9 * h + 4) ((m (58 + 9 * h + 4)) - 1)) (58 + 9 * h + 1))) ((R_X5_put (upd m (58 + 9 * h + 4) ((m (58 + 9 * h + 4)) - 1)) ((upd m (58 + 9 * h + 4) ((m (58 + 9 * h + 4)) - 1)) (58 + 9 * h + 5)) 2 ((upd m (58 + 9 * h + 4) ((m (58 + 9 * h + 4)) - 1)) (58 + 9 * h + 1))) (58 + 9 * h + 1)) ((R_X5_put (upd m (58 + 9 * h + 4) ((m (58 + 9 * h + 4)) - 1)) ((upd m (58 + 9 * h + 4) ((m (58 + 9 * h + 4)) - 1)) (58 + 9 * h + 5)) 2 ((upd m (58 + 9 * h + 4) ((m (58 + 9 * h + 4)) - 1)) (58 + 9 * h + 1))) (58 + 9 * h + 5))) (58 + 9 * h + 5) (-1)) (58 + 9 * h + 2) 0) else (upd m (58 + 9 * h + 4) ((m (58 + 9 * h + 4)) - 1)))
set_option maxRecDepth 100000 in
set_option maxHeartbeats 4000000 in
theorem walk_X0_rigOn {X : g_X} (O : g_ok X cX0_rigOn RX0 none ({ frames := 2, cells := 0, slots := 0, locals := 44 } : Room)) (hs : (g_xl X).stackTraces = false) (hn : g_xn X = 2) {q : g_q} {m : Nat → Int32} {h : Nat} (p0 : h < 6) (p1 : (m 0).toInt ≤ 7) (p2 : (m 1).toInt ≤ 8) : g_V X (fun r : Nat → Int32 => ((.inl none, (r, q)) : g_Res)) (R_X0_rigOn m h) 0 0 m q 0 [(0, .ref (g_ad X 0)), (1, .ref (g_ad X (10 + h)))] [] := by
  have hN : ∀ i, Nat.blt i 2 = true → i < g_xn X := fun i h => by rw [hn]; exact g_blt.mp h
  have hh := p0
  refine r_aload_n O 1 dX0_rigOn_0 rfl rfl ?_
  refine r_dup O dX0_rigOn_1 rfl ?_
  refine r_get O FX0_186 (G_h (h := h) (j := 4) hh (by decide)) dX0_rigOn_2 ?_
  refine r_iconst (x := 1) O dX0_rigOn_5 rfl ?_
  refine r_isub O dX0_rigOn_6 ?_
  refine r_put O (FPX0_186 ((m (58 + 9 * h + 4)) - 1)) (S_h (h := h) (j := 4) ((m (58 + 9 * h + 4)) - 1) hh (by decide)) dX0_rigOn_7 ?_
  refine r_aload_n O 1 dX0_rigOn_10 rfl rfl ?_
  refine r_get O FX0_186 (G_h (h := h) (j := 4) hh (by decide)) dX0_rigOn_11 ?_
  refine r_if_le O 18 dX0_rigOn_14 (by decide) (fun c_14 => ?_) (fun c_14 => ?_)
  · have e_14 : ((upd m (58 + 9 * h + 4) ((m (58 + 9 * h + 4)) - 1)) (58 + 9 * h + 4)).toInt ≤ (0 : Int) := j_leR c_14 rfl
    refine r_aload_n O 0 dX0_rigOn_18 rfl rfl ?_
    refine r_get O FX0_21 G_0_1 dX0_rigOn_19 ?_
    refine r_aload_n O 1 dX0_rigOn_22 rfl rfl ?_
    refine r_get O FX0_166 (G_h (h := h) (j := 5) hh (by decide)) dX0_rigOn_23 ?_
    refine r_iconst (x := 2) O dX0_rigOn_26 rfl ?_
    refine r_aload_n O 1 dX0_rigOn_27 rfl rfl ?_
    refine r_get O FX0_110 (G_h (h := h) (j := 1) hh (by decide)) dX0_rigOn_28 ?_
    refine r_callVv O [.int ((upd m (58 + 9 * h + 4) ((m (58 + 9 * h + 4)) - 1)) (58 + 9 * h + 5)), .int 2, .int ((upd m (58 + 9 * h + 4) ((m (58 + 9 * h + 4)) - 1)) (58 + 9 * h + 1))] [] (met_X5_put (g_xl X) hs q (upd m (58 + 9 * h + 4) ((m (58 + 9 * h + 4)) - 1)) ((upd m (58 + 9 * h + 4) ((m (58 + 9 * h + 4)) - 1)) (58 + 9 * h + 5)) 2 ((upd m (58 + 9 * h + 4) ((m (58 + 9 * h + 4)) - 1)) (58 + 9 * h + 1)) (by first | decide | with_reducible assumption | with_reducible omega | (simp (disch := omega) only [g_upd_ne, g_upd_eq, fr_X4_fix, fr_X5_put, fr_X1_startAnew, fr_X1_walkTo, fr_X1_arrive, fr_X1_countBelow, fr_X3_set, fr_X0_startWalk]; first | with_reducible assumption | with_reducible omega | decide) | exact Or.inl rfl | exact Or.inr rfl)) LX0_173 obj_5 rfl rfl rfl dX0_rigOn_31 rfl rfl ?_
    refine r_aload_n O 0 dX0_rigOn_34 rfl rfl ?_
    refine r_get O FX0_12 G_0_0 dX0_rigOn_35 ?_
    refine r_aload_n O 1 dX0_rigOn_38 rfl rfl ?_
    refine r_get O FX0_110 (G_h (h := h) (j := 1) hh (by decide)) dX0_rigOn_39 ?_
    refine r_aload_n O 1 dX0_rigOn_42 rfl rfl ?_
    refine r_get O FX0_166 (G_h (h := h) (j := 5) hh (by decide)) dX0_rigOn_43 ?_
    refine r_callVv O [.int ((R_X5_put (upd m (58 + 9 * h + 4) ((m (58 + 9 * h + 4)) - 1)) ((upd m (58 + 9 * h + 4) ((m (58 + 9 * h + 4)) - 1)) (58 + 9 * h + 5)) 2 ((upd m (58 + 9 * h + 4) ((m (58 + 9 * h + 4)) - 1)) (58 + 9 * h + 1))) (58 + 9 * h + 1)), .int ((R_X5_put (upd m (58 + 9 * h + 4) ((m (58 + 9 * h + 4)) - 1)) ((upd m (58 + 9 * h + 4) ((m (58 + 9 * h + 4)) - 1)) (58 + 9 * h + 5)) 2 ((upd m (58 + 9 * h + 4) ((m (58 + 9 * h + 4)) - 1)) (58 + 9 * h + 1))) (58 + 9 * h + 5))] [] (met_X4_fix (g_xl X) hs q (R_X5_put (upd m (58 + 9 * h + 4) ((m (58 + 9 * h + 4)) - 1)) ((upd m (58 + 9 * h + 4) ((m (58 + 9 * h + 4)) - 1)) (58 + 9 * h + 5)) 2 ((upd m (58 + 9 * h + 4) ((m (58 + 9 * h + 4)) - 1)) (58 + 9 * h + 1))) ((R_X5_put (upd m (58 + 9 * h + 4) ((m (58 + 9 * h + 4)) - 1)) ((upd m (58 + 9 * h + 4) ((m (58 + 9 * h + 4)) - 1)) (58 + 9 * h + 5)) 2 ((upd m (58 + 9 * h + 4) ((m (58 + 9 * h + 4)) - 1)) (58 + 9 * h + 1))) (58 + 9 * h + 1)) ((R_X5_put (upd m (58 + 9 * h + 4) ((m (58 + 9 * h + 4)) - 1)) ((upd m (58 + 9 * h + 4) ((m (58 + 9 * h + 4)) - 1)) (58 + 9 * h + 5)) 2 ((upd m (58 + 9 * h + 4) ((m (58 + 9 * h + 4)) - 1)) (58 + 9 * h + 1))) (58 + 9 * h + 5)) (by first | decide | with_reducible assumption | with_reducible omega | (simp (disch := omega) only [g_upd_ne, g_upd_eq, fr_X4_fix, fr_X5_put, fr_X1_startAnew, fr_X1_walkTo, fr_X1_arrive, fr_X1_countBelow, fr_X3_set, fr_X0_startWalk]; first | with_reducible assumption | with_reducible omega | decide) | exact Or.inl rfl | exact Or.inr rfl)) LX0_189 obj_1 rfl rfl rfl dX0_rigOn_46 rfl rfl ?_
    refine r_aload_n O 1 dX0_rigOn_49 rfl rfl ?_
    refine r_iconst (x := (-1)) O dX0_rigOn_50 rfl ?_
    refine r_put O (FPX0_166 (-1)) (S_h (h := h) (j := 5) (-1) hh (by decide)) dX0_rigOn_51 ?_
    refine r_aload_n O 1 dX0_rigOn_54 rfl rfl ?_
    refine r_iconst (x := 0) O dX0_rigOn_55 rfl ?_
    refine r_put O (FPX0_103 0) (S_h (h := h) (j := 2) 0 hh (by decide)) dX0_rigOn_56 ?_
    exact r_vret O dX0_rigOn_59 (Nat.le_of_ble_eq_true rfl) (Nat.le_of_ble_eq_true rfl) rfl
  · have e_14 : (0 : Int) < ((upd m (58 + 9 * h + 4) ((m (58 + 9 * h + 4)) - 1)) (58 + 9 * h + 4)).toInt := j_nleR c_14 rfl
    exact r_vret O dX0_rigOn_17 (Nat.le_of_ble_eq_true rfl) (Nat.le_of_ble_eq_true rfl) rfl
theorem met_X0_rigOn (l : Launch) (hs : l.stackTraces = false) (q : g_q) (m : Nat → Int32) (h : Nat) (p0 : h < 6) (p1 : (m 0).toInt ≤ 7) (p2 : (m 1).toInt ≤ 8) : g_SM l yX0_rigOn cX0_rigOn 2 none ({ frames := 2, cells := 0, slots := 0, locals := 44 } : Room) (fun ad => [.ref (ad 0), .ref (ad (10 + h))]) m q ((fun r : Nat → Int32 => ((.inl none, (r, q)) : g_Res)) (R_X0_rigOn m h)) :=
  g_sm_of (by decide) (fun _ => Nat.le_of_ble_eq_true rfl) hs (fun X hl hn O => walk_X0_rigOn O (by rw [hl]; exact hs) hn p0 p1 p2)
theorem fr_X0_rigOn {m : Nat → Int32} {h n : Nat} (hn : n < 27) : R_X0_rigOn m h n = m n := by
  unfold R_X0_rigOn
  simp only [apply_ite (fun f : Nat → Int32 => f n)]
  simp (disch := omega) only [g_upd_ne, fr_X4_fix, fr_X5_put, ite_self]
def R_X0_letMinutePass_130 (x1 : Int32) (m_130 : Nat → Int32) : (Nat → Int32) := (if (R_X1_countBelow m_130 x1.toNatClampNeg).1 = 0 then (R_X1_countBelow m_130 x1.toNatClampNeg).2 else (upd (R_X1_countBelow m_130 x1.toNatClampNeg).2 11 (((R_X1_countBelow m_130 x1.toNatClampNeg).2 11) + 1)))
def R_X0_letMinutePass_109 (x1 : Int32) (t0_26 : Int32) (m_109 : Nat → Int32) : (Nat → Int32) := (if t0_26 = 0 then (R_X0_letMinutePass_130 x1 m_109) else (if (m_109 (58 + 9 * x1.toNatClampNeg + 6)) ≤ 0 then (R_X0_letMinutePass_130 x1 m_109) else (R_X0_letMinutePass_130 x1 (upd m_109 (58 + 9 * x1.toNatClampNeg + 6) ((m_109 (58 + 9 * x1.toNatClampNeg + 6)) - 1)))))
def R_X0_letMinutePass_80 (x1 : Int32) (t0_26 : Int32) (m_80 : Nat → Int32) : (Nat → Int32) := (if (m_80 (58 + 9 * x1.toNatClampNeg + 2)) = 1 then (R_X0_letMinutePass_109 x1 t0_26 (R_X0_walkOn m_80 x1.toNatClampNeg)) else (if (m_80 (58 + 9 * x1.toNatClampNeg + 2)) = 2 then (R_X0_letMinutePass_109 x1 t0_26 (R_X0_rigOn m_80 x1.toNatClampNeg)) else (R_X0_letMinutePass_109 x1 t0_26 m_80)))
def R_X0_letMinutePass_26 (m : Nat → Int32) (x1 : Int32) (t0_26 : Int32) : (Nat → Int32) := (if (m (58 + 9 * x1.toNatClampNeg + 2)) = 0 then (if (m (58 + 9 * x1.toNatClampNeg + 1)) ≤ 0 then (R_X0_letMinutePass_80 x1 t0_26 m) else (if (R_X0_isInTime m x1.toNatClampNeg (m (58 + 9 * x1.toNatClampNeg + 1)) 1) = 0 then (if (R_X0_refusal m x1.toNatClampNeg ((m (58 + 9 * x1.toNatClampNeg + 1)) - 1)) = 0 then (R_X0_letMinutePass_80 x1 t0_26 ((R_X0_startWalk m x1 ((m (58 + 9 * x1.toNatClampNeg + 1)) - 1)).2)) else (R_X0_letMinutePass_80 x1 t0_26 m)) else (R_X0_letMinutePass_80 x1 t0_26 m))) else (R_X0_letMinutePass_80 x1 t0_26 m))
def R_X0_letMinutePass_25 (m : Nat → Int32) (x1 : Int32) : (Nat → Int32) := (R_X0_letMinutePass_26 m x1 0)
def R_X0_letMinutePass (m : Nat → Int32) (x1 : Int32) : (Nat → Int32) := (if (m (58 + 9 * x1.toNatClampNeg + 2)) = 0 then (if (m (58 + 9 * x1.toNatClampNeg + 1)) = 0 then (R_X0_letMinutePass_26 m x1 1) else (R_X0_letMinutePass_25 m x1 )) else (R_X0_letMinutePass_25 m x1 ))
set_option maxRecDepth 100000 in
set_option maxHeartbeats 4000000 in
theorem walk_X0_letMinutePass {X : g_X} (O : g_ok X cX0_letMinutePass RX0 none ({ frames := 3, cells := 0, slots := 0, locals := 73 } : Room)) (hs : (g_xl X).stackTraces = false) (hn : g_xn X = 4) {q : g_q} {m : Nat → Int32} {x1 : Int32} (p0 : 0 ≤ x1.toInt) (p1 : x1.toInt < 6) (p2 : (m 0).toInt ≤ 7) (p3 : (m 1).toInt ≤ 8) : g_V X (fun r : Nat → Int32 => ((.inl none, (r, q)) : g_Res)) (R_X0_letMinutePass m x1) 0 0 m q 0 [(0, .ref (g_ad X 0)), (1, .int x1)] [] := by
  have hN : ∀ i, Nat.blt i 4 = true → i < g_xn X := fun i h => by rw [hn]; exact g_blt.mp h
  refine r_aload_n O 0 dX0_letMinutePass_0 rfl rfl ?_
  refine r_get O FX0_27 G_0_2 dX0_letMinutePass_1 ?_
  refine r_iload_n O 1 dX0_letMinutePass_4 rfl rfl ?_
  have hv1 : vp_in x1 6 := (show vp_in x1 6 from g_vin (by with_reducible omega) (by with_reducible omega))
  have hv1c := g_cl hv1
  refine r_aald O hv1 dX0_letMinutePass_5 ?_
  refine r_astore_n (lc' := [(2, .ref (g_ad X (10 + x1.toNatClampNeg))), (0, .ref (g_ad X 0)), (1, .int x1)]) O dX0_letMinutePass_6 rfl (hN 2 rfl) rfl ?_
  refine r_aload_n O 0 dX0_letMinutePass_7 rfl rfl ?_
  refine r_get O FX0_103 (G_h (h := x1.toNatClampNeg) (j := 2) hv1c (by decide)) dX0_letMinutePass_8 ?_
  have J_26 : ∀ (t0_26 : Int32), g_V X (fun r : Nat → Int32 => ((.inl none, (r, q)) : g_Res)) (R_X0_letMinutePass_26 m x1 t0_26) 0 0 m q 26 [(0, .ref (g_ad X 0)), (1, .int x1), (2, .ref (g_ad X (10 + x1.toNatClampNeg)))] [.int t0_26] := by
    intro t0_26
    refine r_istore_n (lc' := [(3, .int t0_26), (0, .ref (g_ad X 0)), (1, .int x1), (2, .ref (g_ad X (10 + x1.toNatClampNeg)))]) O dX0_letMinutePass_26 rfl (hN 3 rfl) rfl ?_
    refine r_aload_n O 3 dX0_letMinutePass_27 rfl rfl ?_
    refine r_get O FX0_103 (G_h (h := x1.toNatClampNeg) (j := 2) hv1c (by decide)) dX0_letMinutePass_28 ?_
    have J_80 : ∀ (m_80 : Nat → Int32) (hj0 : (m_80 0).toInt ≤ 7) (hj1 : (m_80 1).toInt ≤ 8), g_V X (fun r : Nat → Int32 => ((.inl none, (r, q)) : g_Res)) (R_X0_letMinutePass_80 x1 t0_26 m_80) 0 0 m_80 q 80 [(0, .ref (g_ad X 0)), (2, .ref (g_ad X (10 + x1.toNatClampNeg))), (3, .int t0_26)] [] := by
      intro m_80 hj0 hj1
      refine r_aload_n O 1 dX0_letMinutePass_80 rfl rfl ?_
      refine r_get O FX0_103 (G_h (h := x1.toNatClampNeg) (j := 2) hv1c (by decide)) dX0_letMinutePass_81 ?_
      refine r_iconst (x := 1) O dX0_letMinutePass_84 rfl ?_
      have J_109 : ∀ (m_109 : Nat → Int32), g_V X (fun r : Nat → Int32 => ((.inl none, (r, q)) : g_Res)) (R_X0_letMinutePass_109 x1 t0_26 m_109) 0 0 m_109 q 109 [(0, .ref (g_ad X 0)), (2, .ref (g_ad X (10 + x1.toNatClampNeg))), (3, .int t0_26)] [] := by
        intro m_109
        refine r_iload_n O 2 dX0_letMinutePass_109 rfl rfl ?_
        have J_130 : ∀ (m_130 : Nat → Int32), g_V X (fun r : Nat → Int32 => ((.inl none, (r, q)) : g_Res)) (R_X0_letMinutePass_130 x1 m_130) 0 0 m_130 q 130 [(0, .ref (g_ad X 0)), (2, .ref (g_ad X (10 + x1.toNatClampNeg)))] [] := by
          intro m_130
          refine r_aload_n O 1 dX0_letMinutePass_130 rfl rfl ?_
          refine r_callVi O [] [] (met_X1_countBelow (g_xl X) hs q m_130 x1.toNatClampNeg hv1c) LX0_227 (obj_h hv1c) rfl rfl rfl dX0_letMinutePass_131 rfl rfl ?_
          refine r_if_eq O 147 dX0_letMinutePass_134 (by decide) (fun c_134 => ?_) (fun c_134 => ?_)
          · have e_134 : (R_X1_countBelow m_130 x1.toNatClampNeg).1.toInt = (0 : Int) := j_eqR c_134 rfl
            exact r_vret O dX0_letMinutePass_147 (Nat.le_of_ble_eq_true rfl) (Nat.le_of_ble_eq_true rfl) rfl
          · have e_134 : (R_X1_countBelow m_130 x1.toNatClampNeg).1.toInt ≠ (0 : Int) := j_neR c_134 rfl
            refine r_aload_n O 0 dX0_letMinutePass_137 rfl rfl ?_
            refine r_dup O dX0_letMinutePass_138 rfl ?_
            refine r_get O FX0_65 G_0_11 dX0_letMinutePass_139 ?_
            refine r_iconst (x := 1) O dX0_letMinutePass_142 rfl ?_
            refine r_iadd O dX0_letMinutePass_143 ?_
            refine r_put O (FPX0_65 (((R_X1_countBelow m_130 x1.toNatClampNeg).2 11) + 1)) (S_0_11 (((R_X1_countBelow m_130 x1.toNatClampNeg).2 11) + 1)) dX0_letMinutePass_144 ?_
            exact r_vret O dX0_letMinutePass_147 (Nat.le_of_ble_eq_true rfl) (Nat.le_of_ble_eq_true rfl) rfl
        refine r_if_eq O 130 dX0_letMinutePass_110 (by decide) (fun c_110 => ?_) (fun c_110 => ?_)
        · have e_110 : (t0_26).toInt = (0 : Int) := j_eqR c_110 rfl
          refine r_sub [0, 1] rfl ?_
          exact J_130 m_109
        · have e_110 : (t0_26).toInt ≠ (0 : Int) := j_neR c_110 rfl
          refine r_aload_n O 1 dX0_letMinutePass_113 rfl rfl ?_
          refine r_get O FX0_142 (G_h (h := x1.toNatClampNeg) (j := 6) hv1c (by decide)) dX0_letMinutePass_114 ?_
          refine r_if_le O 130 dX0_letMinutePass_117 (by decide) (fun c_117 => ?_) (fun c_117 => ?_)
          · have e_117 : (m_109 (58 + 9 * x1.toNatClampNeg + 6)).toInt ≤ (0 : Int) := j_leR c_117 rfl
            refine r_sub [0, 1] rfl ?_
            exact J_130 m_109
          · have e_117 : (0 : Int) < (m_109 (58 + 9 * x1.toNatClampNeg + 6)).toInt := j_nleR c_117 rfl
            refine r_aload_n O 1 dX0_letMinutePass_120 rfl rfl ?_
            refine r_dup O dX0_letMinutePass_121 rfl ?_
            refine r_get O FX0_142 (G_h (h := x1.toNatClampNeg) (j := 6) hv1c (by decide)) dX0_letMinutePass_122 ?_
            refine r_iconst (x := 1) O dX0_letMinutePass_125 rfl ?_
            refine r_isub O dX0_letMinutePass_126 ?_
            refine r_put O (FPX0_142 ((m_109 (58 + 9 * x1.toNatClampNeg + 6)) - 1)) (S_h (h := x1.toNatClampNeg) (j := 6) ((m_109 (58 + 9 * x1.toNatClampNeg + 6)) - 1) hv1c (by decide)) dX0_letMinutePass_127 ?_
            refine r_sub [0, 1] rfl ?_
            exact J_130 (upd m_109 (58 + 9 * x1.toNatClampNeg + 6) ((m_109 (58 + 9 * x1.toNatClampNeg + 6)) - 1))
      refine r_icmp_ne O 96 dX0_letMinutePass_85 (by decide) (fun c_85 => ?_) (fun c_85 => ?_)
      · have e_85 : (m_80 (58 + 9 * x1.toNatClampNeg + 2)).toInt = (1 : Int) := j_eqR c_85 rfl
        refine r_aload_n O 0 dX0_letMinutePass_88 rfl rfl ?_
        refine r_aload_n O 1 dX0_letMinutePass_89 rfl rfl ?_
        refine r_callVv O [.ref (g_ad X (10 + x1.toNatClampNeg))] [] (met_X0_walkOn (g_xl X) hs q m_80 x1.toNatClampNeg hv1c (by first | decide | with_reducible assumption | with_reducible omega | (simp (disch := omega) only [g_upd_ne, g_upd_eq, fr_X4_fix, fr_X5_put, fr_X1_startAnew, fr_X1_walkTo, fr_X1_arrive, fr_X1_countBelow, fr_X3_set, fr_X0_startWalk]; first | with_reducible assumption | with_reducible omega | decide) | exact Or.inl rfl | exact Or.inr rfl)) LX0_221 obj_0 rfl rfl rfl dX0_letMinutePass_90 rfl rfl ?_
        refine r_goto O 109 dX0_letMinutePass_93 (by decide) ?_
        exact J_109 (R_X0_walkOn m_80 x1.toNatClampNeg)
      · have e_85 : (m_80 (58 + 9 * x1.toNatClampNeg + 2)).toInt ≠ (1 : Int) := j_neR c_85 rfl
        refine r_aload_n O 1 dX0_letMinutePass_96 rfl rfl ?_
        refine r_get O FX0_103 (G_h (h := x1.toNatClampNeg) (j := 2) hv1c (by decide)) dX0_letMinutePass_97 ?_
        refine r_iconst (x := 2) O dX0_letMinutePass_100 rfl ?_
        refine r_icmp_ne O 109 dX0_letMinutePass_101 (by decide) (fun c_101 => ?_) (fun c_101 => ?_)
        · have e_101 : (m_80 (58 + 9 * x1.toNatClampNeg + 2)).toInt = (2 : Int) := j_eqR c_101 rfl
          refine r_aload_n O 0 dX0_letMinutePass_104 rfl rfl ?_
          refine r_aload_n O 1 dX0_letMinutePass_105 rfl rfl ?_
          refine r_callVv O [.ref (g_ad X (10 + x1.toNatClampNeg))] [] (met_X0_rigOn (g_xl X) hs q m_80 x1.toNatClampNeg hv1c (by first | decide | with_reducible assumption | with_reducible omega | (simp (disch := omega) only [g_upd_ne, g_upd_eq, fr_X4_fix, fr_X5_put, fr_X1_startAnew, fr_X1_walkTo, fr_X1_arrive, fr_X1_countBelow, fr_X3_set, fr_X0_startWalk]; first | with_reducible assumption | with_reducible omega | decide) | exact Or.inl rfl | exact Or.inr rfl) (by first | decide | with_reducible assumption | with_reducible omega | (simp (disch := omega) only [g_upd_ne, g_upd_eq, fr_X4_fix, fr_X5_put, fr_X1_startAnew, fr_X1_walkTo, fr_X1_arrive, fr_X1_countBelow, fr_X3_set, fr_X0_startWalk]; first | with_reducible assumption | with_reducible omega | decide) | exact Or.inl rfl | exact Or.inr rfl)) LX0_224 obj_0 rfl rfl rfl dX0_letMinutePass_106 rfl rfl ?_
          exact J_109 (R_X0_rigOn m_80 x1.toNatClampNeg)
        · have e_101 : (m_80 (58 + 9 * x1.toNatClampNeg + 2)).toInt ≠ (2 : Int) := j_neR c_101 rfl
          exact J_109 m_80
    refine r_if_ne O 80 dX0_letMinutePass_31 (by decide) (fun c_31 => ?_) (fun c_31 => ?_)
    · have e_31 : (m (58 + 9 * x1.toNatClampNeg + 2)).toInt = (0 : Int) := j_eqR c_31 rfl
      refine r_aload_n O 3 dX0_letMinutePass_34 rfl rfl ?_
      refine r_get O FX0_110 (G_h (h := x1.toNatClampNeg) (j := 1) hv1c (by decide)) dX0_letMinutePass_35 ?_
      refine r_if_le O 80 dX0_letMinutePass_38 (by decide) (fun c_38 => ?_) (fun c_38 => ?_)
      · have e_38 : (m (58 + 9 * x1.toNatClampNeg + 1)).toInt ≤ (0 : Int) := j_leR c_38 rfl
        refine r_sub [1, 3, 0] rfl ?_
        exact J_80 m (by first | decide | with_reducible assumption | with_reducible omega | (simp (disch := omega) only [g_upd_ne, g_upd_eq, fr_X4_fix, fr_X5_put, fr_X1_startAnew, fr_X1_walkTo, fr_X1_arrive, fr_X1_countBelow, fr_X3_set, fr_X0_startWalk]; first | with_reducible assumption | with_reducible omega | decide) | exact Or.inl rfl | exact Or.inr rfl) (by first | decide | with_reducible assumption | with_reducible omega | (simp (disch := omega) only [g_upd_ne, g_upd_eq, fr_X4_fix, fr_X5_put, fr_X1_startAnew, fr_X1_walkTo, fr_X1_arrive, fr_X1_countBelow, fr_X3_set, fr_X0_startWalk]; first | with_reducible assumption | with_reducible omega | decide) | exact Or.inl rfl | exact Or.inr rfl)
      · have e_38 : (0 : Int) < (m (58 + 9 * x1.toNatClampNeg + 1)).toInt := j_nleR c_38 rfl
        refine r_aload_n O 1 dX0_letMinutePass_41 rfl rfl ?_
        refine r_aload_n O 3 dX0_letMinutePass_42 rfl rfl ?_
        refine r_aload_n O 3 dX0_letMinutePass_43 rfl rfl ?_
        refine r_get O FX0_110 (G_h (h := x1.toNatClampNeg) (j := 1) hv1c (by decide)) dX0_letMinutePass_44 ?_
        refine r_iconst (x := 1) O dX0_letMinutePass_47 rfl ?_
        refine r_callVi O [.ref (g_ad X (10 + x1.toNatClampNeg)), .int (m (58 + 9 * x1.toNatClampNeg + 1)), .int 1] [] (met_X0_isInTime (g_xl X) hs q m x1.toNatClampNeg (m (58 + 9 * x1.toNatClampNeg + 1)) 1 hv1c (by first | decide | with_reducible assumption | with_reducible omega | (simp (disch := omega) only [g_upd_ne, g_upd_eq, fr_X4_fix, fr_X5_put, fr_X1_startAnew, fr_X1_walkTo, fr_X1_arrive, fr_X1_countBelow, fr_X3_set, fr_X0_startWalk]; first | with_reducible assumption | with_reducible omega | decide) | exact Or.inl rfl | exact Or.inr rfl)) LX0_145 obj_0 rfl rfl rfl dX0_letMinutePass_48 rfl rfl ?_
        refine r_if_ne O 80 dX0_letMinutePass_51 (by decide) (fun c_51 => ?_) (fun c_51 => ?_)
        · have e_51 : (R_X0_isInTime m x1.toNatClampNeg (m (58 + 9 * x1.toNatClampNeg + 1)) 1).toInt = (0 : Int) := j_eqR c_51 rfl
          refine r_aload_n O 1 dX0_letMinutePass_54 rfl rfl ?_
          refine r_aload_n O 3 dX0_letMinutePass_55 rfl rfl ?_
          refine r_aload_n O 3 dX0_letMinutePass_56 rfl rfl ?_
          refine r_get O FX0_110 (G_h (h := x1.toNatClampNeg) (j := 1) hv1c (by decide)) dX0_letMinutePass_57 ?_
          refine r_iconst (x := 1) O dX0_letMinutePass_60 rfl ?_
          refine r_isub O dX0_letMinutePass_61 ?_
          refine r_callVi O [.ref (g_ad X (10 + x1.toNatClampNeg)), .int ((m (58 + 9 * x1.toNatClampNeg + 1)) - 1)] [] (met_X0_refusal (g_xl X) hs q m x1.toNatClampNeg ((m (58 + 9 * x1.toNatClampNeg + 1)) - 1) hv1c (by first | decide | with_reducible assumption | with_reducible omega | (simp (disch := omega) only [g_upd_ne, g_upd_eq, fr_X4_fix, fr_X5_put, fr_X1_startAnew, fr_X1_walkTo, fr_X1_arrive, fr_X1_countBelow, fr_X3_set, fr_X0_startWalk]; first | with_reducible assumption | with_reducible omega | decide) | exact Or.inl rfl | exact Or.inr rfl)) LX0_152 obj_0 rfl rfl rfl dX0_letMinutePass_62 rfl rfl ?_
          refine r_if_ne O 80 dX0_letMinutePass_65 (by decide) (fun c_65 => ?_) (fun c_65 => ?_)
          · have e_65 : (R_X0_refusal m x1.toNatClampNeg ((m (58 + 9 * x1.toNatClampNeg + 1)) - 1)).toInt = (0 : Int) := j_eqR c_65 rfl
            refine r_aload_n O 1 dX0_letMinutePass_68 rfl rfl ?_
            refine r_iload_n O 2 dX0_letMinutePass_69 rfl rfl ?_
            refine r_aload_n O 3 dX0_letMinutePass_70 rfl rfl ?_
            refine r_get O FX0_110 (G_h (h := x1.toNatClampNeg) (j := 1) hv1c (by decide)) dX0_letMinutePass_71 ?_
            refine r_iconst (x := 1) O dX0_letMinutePass_74 rfl ?_
            refine r_isub O dX0_letMinutePass_75 ?_
            refine r_callVi O [.int x1, .int ((m (58 + 9 * x1.toNatClampNeg + 1)) - 1)] [] (met_X0_startWalk (g_xl X) hs q m x1 ((m (58 + 9 * x1.toNatClampNeg + 1)) - 1) (by first | decide | with_reducible assumption | with_reducible omega | (simp (disch := omega) only [g_upd_ne, g_upd_eq, fr_X4_fix, fr_X5_put, fr_X1_startAnew, fr_X1_walkTo, fr_X1_arrive, fr_X1_countBelow, fr_X3_set, fr_X0_startWalk]; first | with_reducible assumption | with_reducible omega | decide) | exact Or.inl rfl | exact Or.inr rfl) (by first | decide | with_reducible assumption | with_reducible omega | (simp (disch := omega) only [g_upd_ne, g_upd_eq, fr_X4_fix, fr_X5_put, fr_X1_startAnew, fr_X1_walkTo, fr_X1_arrive, fr_X1_countBelow, fr_X3_set, fr_X0_startWalk]; first | with_reducible assumption | with_reducible omega | decide) | exact Or.inl rfl | exact Or.inr rfl) (by first | decide | with_reducible assumption | with_reducible omega | (simp (disch := omega) only [g_upd_ne, g_upd_eq, fr_X4_fix, fr_X5_put, fr_X1_startAnew, fr_X1_walkTo, fr_X1_arrive, fr_X1_countBelow, fr_X3_set, fr_X0_startWalk]; first | with_reducible assumption | with_reducible omega | decide) | exact Or.inl rfl | exact Or.inr rfl)) LX0_218 obj_0 rfl rfl rfl dX0_letMinutePass_76 rfl rfl ?_
            refine r_pop O dX0_letMinutePass_79 rfl ?_
            refine r_sub [1, 3, 0] rfl ?_
            exact J_80 ((R_X0_startWalk m x1 ((m (58 + 9 * x1.toNatClampNeg + 1)) - 1)).2) (by first | decide | with_reducible assumption | with_reducible omega | (simp (disch := omega) only [g_upd_ne, g_upd_eq, fr_X4_fix, fr_X5_put, fr_X1_startAnew, fr_X1_walkTo, fr_X1_arrive, fr_X1_countBelow, fr_X3_set, fr_X0_startWalk]; first | with_reducible assumption | with_reducible omega | decide) | exact Or.inl rfl | exact Or.inr rfl) (by first | decide | with_reducible assumption | with_reducible omega | (simp (disch := omega) only [g_upd_ne, g_upd_eq, fr_X4_fix, fr_X5_put, fr_X1_startAnew, fr_X1_walkTo, fr_X1_arrive, fr_X1_countBelow, fr_X3_set, fr_X0_startWalk]; first | with_reducible assumption | with_reducible omega | decide) | exact Or.inl rfl | exact Or.inr rfl)
          · have e_65 : (R_X0_refusal m x1.toNatClampNeg ((m (58 + 9 * x1.toNatClampNeg + 1)) - 1)).toInt ≠ (0 : Int) := j_neR c_65 rfl
            refine r_sub [1, 3, 0] rfl ?_
            exact J_80 m (by first | decide | with_reducible assumption | with_reducible omega | (simp (disch := omega) only [g_upd_ne, g_upd_eq, fr_X4_fix, fr_X5_put, fr_X1_startAnew, fr_X1_walkTo, fr_X1_arrive, fr_X1_countBelow, fr_X3_set, fr_X0_startWalk]; first | with_reducible assumption | with_reducible omega | decide) | exact Or.inl rfl | exact Or.inr rfl) (by first | decide | with_reducible assumption | with_reducible omega | (simp (disch := omega) only [g_upd_ne, g_upd_eq, fr_X4_fix, fr_X5_put, fr_X1_startAnew, fr_X1_walkTo, fr_X1_arrive, fr_X1_countBelow, fr_X3_set, fr_X0_startWalk]; first | with_reducible assumption | with_reducible omega | decide) | exact Or.inl rfl | exact Or.inr rfl)
        · have e_51 : (R_X0_isInTime m x1.toNatClampNeg (m (58 + 9 * x1.toNatClampNeg + 1)) 1).toInt ≠ (0 : Int) := j_neR c_51 rfl
          refine r_sub [1, 3, 0] rfl ?_
          exact J_80 m (by first | decide | with_reducible assumption | with_reducible omega | (simp (disch := omega) only [g_upd_ne, g_upd_eq, fr_X4_fix, fr_X5_put, fr_X1_startAnew, fr_X1_walkTo, fr_X1_arrive, fr_X1_countBelow, fr_X3_set, fr_X0_startWalk]; first | with_reducible assumption | with_reducible omega | decide) | exact Or.inl rfl | exact Or.inr rfl) (by first | decide | with_reducible assumption | with_reducible omega | (simp (disch := omega) only [g_upd_ne, g_upd_eq, fr_X4_fix, fr_X5_put, fr_X1_startAnew, fr_X1_walkTo, fr_X1_arrive, fr_X1_countBelow, fr_X3_set, fr_X0_startWalk]; first | with_reducible assumption | with_reducible omega | decide) | exact Or.inl rfl | exact Or.inr rfl)
    · have e_31 : (m (58 + 9 * x1.toNatClampNeg + 2)).toInt ≠ (0 : Int) := j_neR c_31 rfl
      refine r_sub [1, 3, 0] rfl ?_
      exact J_80 m (by first | decide | with_reducible assumption | with_reducible omega | (simp (disch := omega) only [g_upd_ne, g_upd_eq, fr_X4_fix, fr_X5_put, fr_X1_startAnew, fr_X1_walkTo, fr_X1_arrive, fr_X1_countBelow, fr_X3_set, fr_X0_startWalk]; first | with_reducible assumption | with_reducible omega | decide) | exact Or.inl rfl | exact Or.inr rfl) (by first | decide | with_reducible assumption | with_reducible omega | (simp (disch := omega) only [g_upd_ne, g_upd_eq, fr_X4_fix, fr_X5_put, fr_X1_startAnew, fr_X1_walkTo, fr_X1_arrive, fr_X1_countBelow, fr_X3_set, fr_X0_startWalk]; first | with_reducible assumption | with_reducible omega | decide) | exact Or.inl rfl | exact Or.inr rfl)
  have J_25 : g_V X (fun r : Nat → Int32 => ((.inl none, (r, q)) : g_Res)) (R_X0_letMinutePass_25 m x1 ) 0 0 m q 25 [(0, .ref (g_ad X 0)), (1, .int x1), (2, .ref (g_ad X (10 + x1.toNatClampNeg)))] [] := by
    refine r_iconst (x := 0) O dX0_letMinutePass_25 rfl ?_
    exact J_26 0
  refine r_if_ne O 25 dX0_letMinutePass_11 (by decide) (fun c_11 => ?_) (fun c_11 => ?_)
  · have e_11 : (m (58 + 9 * x1.toNatClampNeg + 2)).toInt = (0 : Int) := j_eqR c_11 rfl
    refine r_aload_n O 0 dX0_letMinutePass_14 rfl rfl ?_
    refine r_get O FX0_110 (G_h (h := x1.toNatClampNeg) (j := 1) hv1c (by decide)) dX0_letMinutePass_15 ?_
    refine r_if_ne O 25 dX0_letMinutePass_18 (by decide) (fun c_18 => ?_) (fun c_18 => ?_)
    · have e_18 : (m (58 + 9 * x1.toNatClampNeg + 1)).toInt = (0 : Int) := j_eqR c_18 rfl
      refine r_iconst (x := 1) O dX0_letMinutePass_21 rfl ?_
      refine r_goto O 26 dX0_letMinutePass_22 (by decide) ?_
      refine r_sub [1, 2, 0] rfl ?_
      exact J_26 1
    · have e_18 : (m (58 + 9 * x1.toNatClampNeg + 1)).toInt ≠ (0 : Int) := j_neR c_18 rfl
      refine r_sub [1, 2, 0] rfl ?_
      exact J_25
  · have e_11 : (m (58 + 9 * x1.toNatClampNeg + 2)).toInt ≠ (0 : Int) := j_neR c_11 rfl
    refine r_sub [1, 2, 0] rfl ?_
    exact J_25
theorem met_X0_letMinutePass (l : Launch) (hs : l.stackTraces = false) (q : g_q) (m : Nat → Int32) (x1 : Int32) (p0 : 0 ≤ x1.toInt) (p1 : x1.toInt < 6) (p2 : (m 0).toInt ≤ 7) (p3 : (m 1).toInt ≤ 8) : g_SM l yX0_letMinutePass cX0_letMinutePass 4 none ({ frames := 3, cells := 0, slots := 0, locals := 73 } : Room) (fun ad => [.ref (ad 0), .int x1]) m q ((fun r : Nat → Int32 => ((.inl none, (r, q)) : g_Res)) (R_X0_letMinutePass m x1)) :=
  g_sm_of (by decide) (fun _ => Nat.le_of_ble_eq_true rfl) hs (fun X hl hn O => walk_X0_letMinutePass O (by rw [hl]; exact hs) hn p0 p1 p2 p3)
theorem fr_X0_lmp130 {m : Nat → Int32} {x : Int32} {n : Nat} (hn : n < 27) (h4 : n ≠ 4) (h5 : n ≠ 5) (h11 : n ≠ 11) : R_X0_letMinutePass_130 x m n = m n := by
  unfold R_X0_letMinutePass_130
  simp only [apply_ite (fun f : Nat → Int32 => f n)]
  simp (disch := omega) only [g_upd_ne, ite_self, fr_X1_countBelow]
theorem fr_X0_lmp109 {m : Nat → Int32} {x t : Int32} {n : Nat} (hn : n < 27) (h4 : n ≠ 4) (h5 : n ≠ 5) (h11 : n ≠ 11) : R_X0_letMinutePass_109 x t m n = m n := by
  unfold R_X0_letMinutePass_109
  simp only [apply_ite (fun f : Nat → Int32 => f n)]
  simp (disch := omega) only [g_upd_ne, ite_self, fr_X0_lmp130]
theorem fr_X0_lmp80 {m : Nat → Int32} {x t : Int32} {n : Nat} (hn : n < 27) (h4 : n ≠ 4) (h5 : n ≠ 5) (h11 : n ≠ 11) : R_X0_letMinutePass_80 x t m n = m n := by
  unfold R_X0_letMinutePass_80
  simp only [apply_ite (fun f : Nat → Int32 => f n)]
  simp (disch := omega) only [g_upd_ne, ite_self, fr_X0_lmp109, fr_X0_walkOn, fr_X0_rigOn]
theorem fr_X0_lmp26 {m : Nat → Int32} {x t : Int32} {n : Nat} (hn : n < 27) (h4 : n ≠ 4) (h5 : n ≠ 5) (h11 : n ≠ 11) : R_X0_letMinutePass_26 m x t n = m n := by
  unfold R_X0_letMinutePass_26
  simp only [apply_ite (fun f : Nat → Int32 => f n)]
  simp (disch := omega) only [g_upd_ne, ite_self, fr_X0_lmp80, fr_X0_startWalk]
theorem fr_X0_letMinutePass {m : Nat → Int32} {x : Int32} {n : Nat} (hn : n < 27) (h4 : n ≠ 4) (h5 : n ≠ 5) (h11 : n ≠ 11) : R_X0_letMinutePass m x n = m n := by
  unfold R_X0_letMinutePass R_X0_letMinutePass_25
  simp only [apply_ite (fun f : Nat → Int32 => f n)]
  simp (disch := omega) only [g_upd_ne, ite_self, fr_X0_lmp26]
