/-! ===== Cave: passing, values ===== -/
def R_X0_addOne (m : Nat → Int32) (x1 : Int32) : (Int32 × (Nat → Int32)) := (if (m 2) < 6 then ((m 2), (upd (R_X1_startAnew m ((m 2).toNatClampNeg) x1) 2 (((R_X1_startAnew m ((m 2).toNatClampNeg) x1) 2) + 1))) else ((-1), m))
set_option maxRecDepth 100000 in
set_option maxHeartbeats 4000000 in
theorem walk_X0_addOne {X : g_X} (O : g_ok X cX0_addOne RX0 (some .int) ({ frames := 1, cells := 0, slots := 0, locals := 21 } : Room)) (hs : (g_xl X).stackTraces = false) (hn : g_xn X = 3) {q : g_q} {m : Nat → Int32} {x1 : Int32} (p0 : 0 ≤ (m 2).toInt) : g_V X (fun r : Int32 × (Nat → Int32) => ((.inl (some (.int r.1)), (r.2, q)) : g_Res)) (R_X0_addOne m x1) 0 0 m q 0 [(0, .ref (g_ad X 0)), (1, .int x1)] [] := by
  have hN : ∀ i, Nat.blt i 3 = true → i < g_xn X := fun i h => by rw [hn]; exact g_blt.mp h
  refine r_aload_n O 0 dX0_addOne_0 rfl rfl ?_
  refine r_get O FX0_31 G_0_3 dX0_addOne_1 ?_
  refine r_istore_n (lc' := [(2, .int (m 2)), (0, .ref (g_ad X 0)), (1, .int x1)]) O dX0_addOne_4 rfl (hN 2 rfl) rfl ?_
  refine r_iload_n O 0 dX0_addOne_5 rfl rfl ?_
  refine r_bipush (x := 6) O dX0_addOne_6 rfl ?_
  refine r_icmp_lt O 13 dX0_addOne_8 (by decide) (fun c_8 => ?_) (fun c_8 => ?_)
  · have e_8 : (m 2).toInt < (6 : Int) := j_ltR c_8 rfl
    refine r_aload_n O 1 dX0_addOne_13 rfl rfl ?_
    refine r_get O FX0_27 G_0_2 dX0_addOne_14 ?_
    refine r_iload_n O 0 dX0_addOne_17 rfl rfl ?_
    have hv1 : vp_in (m 2) 6 := (show vp_in (m 2) 6 from g_vin (by with_reducible omega) (by with_reducible omega))
    have hv1c := g_cl hv1
    refine r_aald O hv1 dX0_addOne_18 ?_
    refine r_iload_n O 2 dX0_addOne_19 rfl rfl ?_
    refine r_callVv O [.int x1] [] (met_X1_startAnew (g_xl X) hs q m ((m 2).toNatClampNeg) x1 hv1c) LX0_102 (obj_h hv1c) rfl rfl rfl dX0_addOne_20 rfl rfl ?_
    refine r_aload_n O 1 dX0_addOne_23 rfl rfl ?_
    refine r_dup O dX0_addOne_24 rfl ?_
    refine r_get O FX0_31 G_0_3 dX0_addOne_25 ?_
    refine r_iconst (x := 1) O dX0_addOne_28 rfl ?_
    refine r_iadd O dX0_addOne_29 ?_
    refine r_put O (FPX0_31 (((R_X1_startAnew m ((m 2).toNatClampNeg) x1) 2) + 1)) (S_0_3 (((R_X1_startAnew m ((m 2).toNatClampNeg) x1) 2) + 1)) dX0_addOne_30 ?_
    refine r_iload_n O 0 dX0_addOne_33 rfl rfl ?_
    exact r_iret O dX0_addOne_34 rfl (Nat.le_of_ble_eq_true rfl) (Nat.le_of_ble_eq_true rfl) rfl
  · have e_8 : (6 : Int) ≤ (m 2).toInt := j_nltR c_8 rfl
    refine r_iconst (x := (-1)) O dX0_addOne_11 rfl ?_
    exact r_iret O dX0_addOne_12 rfl (Nat.le_of_ble_eq_true rfl) (Nat.le_of_ble_eq_true rfl) rfl
theorem met_X0_addOne (l : Launch) (hs : l.stackTraces = false) (q : g_q) (m : Nat → Int32) (x1 : Int32) (p0 : 0 ≤ (m 2).toInt) : g_SM l yX0_addOne cX0_addOne 3 (some .int) ({ frames := 1, cells := 0, slots := 0, locals := 21 } : Room) (fun ad => [.ref (ad 0), .int x1]) m q ((fun r : Int32 × (Nat → Int32) => ((.inl (some (.int r.1)), (r.2, q)) : g_Res)) (R_X0_addOne m x1)) :=
  g_sm_of (by decide) (fun _ => Nat.le_of_ble_eq_true rfl) hs (fun X hl hn O => walk_X0_addOne O (by rw [hl]; exact hs) hn p0)
def R_X0_letPass_68 (K_10 : Nat → (Nat → Int32) → (Int32 × (Nat → Int32))) (i : Nat) (m_68 : Nat → Int32) : (Int32 × (Nat → Int32)) := (K_10 (i + 1) (upd m_68 3 ((m_68 3) + 1)))
def R_X0_letPass_61 (K_10 : Nat → (Nat → Int32) → (Int32 × (Nat → Int32))) (i : Nat) (m_18 : Nat → Int32) : (Int32 × (Nat → Int32)) := (R_X0_letPass_68 K_10 i (R_X3_goUp m_18))
def R_X0_letPass_18 (m : Nat → Int32) (K_10 : Nat → (Nat → Int32) → (Int32 × (Nat → Int32))) (i : Nat) : Nat → Nat → (Nat → Int32) → (Int32 × (Nat → Int32))
  | 0, _, _ => (0, m)
  | f + 1, k, m_18 => (if (m_18 2) ≤ (nI k) then (if (m_18 3) < (m_18 9) then (R_X0_letPass_61 K_10 i m_18 ) else (if (m_18 3) < (m_18 10) then (R_X0_letPass_68 K_10 i m_18) else (R_X0_letPass_61 K_10 i m_18 ))) else ((R_X0_letPass_18 m K_10 i f) (k + 1) (R_X0_letMinutePass m_18 (nI k))))
def R_X0_letPass_10 (m : Nat → Int32) (x1 : Int32) : Nat → Nat → (Nat → Int32) → (Int32 × (Nat → Int32))
  | 0, _, _ => (0, m)
  | f + 1, i, m_10 => (if x1 ≤ (nI i) then (((m_10 7) - (m 7)), m_10) else (R_X0_letPass_18 m (R_X0_letPass_10 m x1 f) i 7 0 m_10))
def R_X0_letPass (m : Nat → Int32) (x1 : Int32) : (Int32 × (Nat → Int32)) := (R_X0_letPass_10 m x1 601 0 m)
set_option maxRecDepth 100000 in
set_option maxHeartbeats 4000000 in
theorem walk_X0_letPass {X : g_X} (O : g_ok X cX0_letPass RX0 (some .int) ({ frames := 4, cells := 0, slots := 0, locals := 96 } : Room)) (hs : (g_xl X).stackTraces = false) (hn : g_xn X = 5) {q : g_q} {m : Nat → Int32} {x1 : Int32} (p0 : x1.toInt ≤ 600) (p1 : (m 0).toInt ≤ 7) (p2 : (m 1).toInt ≤ 8) (p3 : (m 2).toInt ≤ 6) (p4 : 0 ≤ (m 6).toInt) (p5 : (m 6).toInt ≤ 10) : g_V X (fun r : Int32 × (Nat → Int32) => ((.inl (some (.int r.1)), (r.2, q)) : g_Res)) (R_X0_letPass m x1) 0 0 m q 0 [(0, .ref (g_ad X 0)), (1, .int x1)] [] := by
  have hN : ∀ i, Nat.blt i 5 = true → i < g_xn X := fun i h => by rw [hn]; exact g_blt.mp h
  refine r_aload_n O 0 dX0_letPass_0 rfl rfl ?_
  refine r_get O FX0_38 G_0_4 dX0_letPass_1 ?_
  refine r_get O FX0_77 G_16_4 dX0_letPass_4 ?_
  refine r_istore_n (lc' := [(2, .int (m 7)), (0, .ref (g_ad X 0)), (1, .int x1)]) O dX0_letPass_7 rfl (hN 2 rfl) rfl ?_
  refine r_iconst (x := 0) O dX0_letPass_8 rfl ?_
  refine r_istore_n (lc' := [(3, .int 0), (2, .int (m 7)), (0, .ref (g_ad X 0)), (1, .int x1)]) O dX0_letPass_9 rfl (hN 3 rfl) rfl ?_
  have L_10 : ∀ (f_10 : Nat) (i : Nat) (m_10 : Nat → Int32) (hi_10 : i ≤ 600 ∧ 600 < f_10 + i ∧ (m_10 0).toInt ≤ 7 ∧ (m_10 1).toInt ≤ 8 ∧ (m_10 2).toInt ≤ 6 ∧ 0 ≤ (m_10 6).toInt ∧ (m_10 6).toInt ≤ 10), g_V X (fun r : Int32 × (Nat → Int32) => ((.inl (some (.int r.1)), (r.2, q)) : g_Res)) (R_X0_letPass_10 m x1 f_10 i m_10) 0 0 m_10 q 10 [(0, .ref (g_ad X 0)), (1, .int x1), (2, .int (m 7)), (3, .int (nI i))] [] := by
    intro f_10
    induction f_10 with
    | zero => intro i m_10 hi_10; exact absurd hi_10 (by omega)
    | succ f_10 ih_10 =>
      intro i m_10 hi_10
      have hc_i : (nI i).toInt = (i : Int) := nI_toInt (by omega)
      obtain ⟨hi1, hi2, hi3, hi4, hi5, hi6, hi7⟩ := hi_10
      refine r_iload_n O 3 dX0_letPass_10 rfl rfl ?_
      refine r_iload_n O 1 dX0_letPass_11 rfl rfl ?_
      refine r_icmp_ge O 84 dX0_letPass_12 (by decide) (fun c_12 => ?_) (fun c_12 => ?_)
      · have e_12 : (x1).toInt ≤ (nI i).toInt := j_le c_12
        refine r_aload_n O 0 dX0_letPass_84 rfl rfl ?_
        refine r_get O FX0_38 G_0_4 dX0_letPass_85 ?_
        refine r_get O FX0_77 G_16_4 dX0_letPass_88 ?_
        refine r_iload_n O 2 dX0_letPass_91 rfl rfl ?_
        refine r_isub O dX0_letPass_92 ?_
        exact r_iret O dX0_letPass_93 rfl (Nat.le_of_ble_eq_true rfl) (Nat.le_of_ble_eq_true rfl) rfl
      · have e_12 : (nI i).toInt < (x1).toInt := j_nle c_12
        refine r_iconst (x := 0) O dX0_letPass_15 rfl ?_
        refine r_istore (lc' := [(4, .int 0), (0, .ref (g_ad X 0)), (1, .int x1), (2, .int (m 7)), (3, .int (nI i))]) O dX0_letPass_16 (hN 4 rfl) rfl ?_
        have L_18 : ∀ (f_18 : Nat) (k : Nat) (m_18 : Nat → Int32) (hi_18 : k ≤ 6 ∧ 6 < f_18 + k ∧ (m_18 0).toInt ≤ 7 ∧ (m_18 1).toInt ≤ 8 ∧ (m_18 2).toInt ≤ 6 ∧ 0 ≤ (m_18 6).toInt ∧ (m_18 6).toInt ≤ 10), g_V X (fun r : Int32 × (Nat → Int32) => ((.inl (some (.int r.1)), (r.2, q)) : g_Res)) (R_X0_letPass_18 m ((R_X0_letPass_10 m x1 f_10)) i f_18 k m_18) 0 0 m_18 q 18 [(0, .ref (g_ad X 0)), (1, .int x1), (2, .int (m 7)), (3, .int (nI i)), (4, .int (nI k))] [] := by
          intro f_18
          induction f_18 with
          | zero => intro k m_18 hi_18; exact absurd hi_18 (by omega)
          | succ f_18 ih_18 =>
            intro k m_18 hi_18
            have hc_k : (nI k).toInt = (k : Int) := nI_toInt (by omega)
            obtain ⟨hk1, hk2, hk3, hk4, hk5, hk6, hk7⟩ := hi_18
            refine r_iload O 4 dX0_letPass_18 rfl ?_
            refine r_aload_n O 0 dX0_letPass_20 rfl rfl ?_
            refine r_get O FX0_31 G_0_3 dX0_letPass_21 ?_
            refine r_icmp_ge O 39 dX0_letPass_24 (by decide) (fun c_24 => ?_) (fun c_24 => ?_)
            · have e_24 : (m_18 2).toInt ≤ (nI k).toInt := j_le c_24
              refine r_aload_n O 0 dX0_letPass_39 rfl rfl ?_
              refine r_get O FX0_49 G_0_6 dX0_letPass_40 ?_
              refine r_aload_n O 0 dX0_letPass_43 rfl rfl ?_
              refine r_get O FX0_59 G_0_9 dX0_letPass_44 ?_
              have J_68 : ∀ (m_68 : Nat → Int32) (hj0 : (m_68 0).toInt ≤ 7) (hj1 : (m_68 1).toInt ≤ 8) (hj2 : (m_68 2).toInt ≤ 6) (hj3 : 0 ≤ (m_68 6).toInt) (hj4 : (m_68 6).toInt ≤ 10), g_V X (fun r : Int32 × (Nat → Int32) => ((.inl (some (.int r.1)), (r.2, q)) : g_Res)) (R_X0_letPass_68 ((R_X0_letPass_10 m x1 f_10)) i m_68) 0 0 m_68 q 68 [(0, .ref (g_ad X 0)), (1, .int x1), (2, .int (m 7)), (3, .int (nI i))] [] := by
                intro m_68 hj0 hj1 hj2 hj3 hj4
                refine r_aload_n O 0 dX0_letPass_68 rfl rfl ?_
                refine r_dup O dX0_letPass_69 rfl ?_
                refine r_get O FX0_49 G_0_6 dX0_letPass_70 ?_
                refine r_iconst (x := 1) O dX0_letPass_73 rfl ?_
                refine r_iadd O dX0_letPass_74 ?_
                refine r_put O (FPX0_49 ((m_68 3) + 1)) (S_0_6 ((m_68 3) + 1)) dX0_letPass_75 ?_
                refine r_iinc (lc' := [(3, .int (nI (i + 1))), (0, .ref (g_ad X 0)), (1, .int x1), (2, .int (m 7))]) O 3 dX0_letPass_78 rfl (nI_1 i) (hN 3 rfl) rfl ?_
                refine r_goto O 10 dX0_letPass_81 (by decide) ?_
                refine r_sub [1, 2, 3, 0] rfl ?_
                exact ih_10 (i + 1) (upd m_68 3 ((m_68 3) + 1)) ⟨(by first | decide | with_reducible assumption | with_reducible omega | (simp (disch := omega) only [g_upd_ne, g_upd_eq, fr_X4_fix, fr_X5_put, fr_X1_startAnew, fr_X1_walkTo, fr_X1_arrive, fr_X1_countBelow, fr_X3_set, fr_X0_startWalk, fr_X0_letMinutePass, fr_X3_goUp]; first | with_reducible assumption | with_reducible omega | decide) | exact (b_X3_goUp (by with_reducible assumption) (by with_reducible assumption)).1 | exact (b_X3_goUp (by with_reducible assumption) (by with_reducible assumption)).2 | exact Or.inl rfl | exact Or.inr rfl), (by first | decide | with_reducible assumption | with_reducible omega | (simp (disch := omega) only [g_upd_ne, g_upd_eq, fr_X4_fix, fr_X5_put, fr_X1_startAnew, fr_X1_walkTo, fr_X1_arrive, fr_X1_countBelow, fr_X3_set, fr_X0_startWalk, fr_X0_letMinutePass, fr_X3_goUp]; first | with_reducible assumption | with_reducible omega | decide) | exact (b_X3_goUp (by with_reducible assumption) (by with_reducible assumption)).1 | exact (b_X3_goUp (by with_reducible assumption) (by with_reducible assumption)).2 | exact Or.inl rfl | exact Or.inr rfl), (by first | decide | with_reducible assumption | with_reducible omega | (simp (disch := omega) only [g_upd_ne, g_upd_eq, fr_X4_fix, fr_X5_put, fr_X1_startAnew, fr_X1_walkTo, fr_X1_arrive, fr_X1_countBelow, fr_X3_set, fr_X0_startWalk, fr_X0_letMinutePass, fr_X3_goUp]; first | with_reducible assumption | with_reducible omega | decide) | exact (b_X3_goUp (by with_reducible assumption) (by with_reducible assumption)).1 | exact (b_X3_goUp (by with_reducible assumption) (by with_reducible assumption)).2 | exact Or.inl rfl | exact Or.inr rfl), (by first | decide | with_reducible assumption | with_reducible omega | (simp (disch := omega) only [g_upd_ne, g_upd_eq, fr_X4_fix, fr_X5_put, fr_X1_startAnew, fr_X1_walkTo, fr_X1_arrive, fr_X1_countBelow, fr_X3_set, fr_X0_startWalk, fr_X0_letMinutePass, fr_X3_goUp]; first | with_reducible assumption | with_reducible omega | decide) | exact (b_X3_goUp (by with_reducible assumption) (by with_reducible assumption)).1 | exact (b_X3_goUp (by with_reducible assumption) (by with_reducible assumption)).2 | exact Or.inl rfl | exact Or.inr rfl), (by first | decide | with_reducible assumption | with_reducible omega | (simp (disch := omega) only [g_upd_ne, g_upd_eq, fr_X4_fix, fr_X5_put, fr_X1_startAnew, fr_X1_walkTo, fr_X1_arrive, fr_X1_countBelow, fr_X3_set, fr_X0_startWalk, fr_X0_letMinutePass, fr_X3_goUp]; first | with_reducible assumption | with_reducible omega | decide) | exact (b_X3_goUp (by with_reducible assumption) (by with_reducible assumption)).1 | exact (b_X3_goUp (by with_reducible assumption) (by with_reducible assumption)).2 | exact Or.inl rfl | exact Or.inr rfl), (by first | decide | with_reducible assumption | with_reducible omega | (simp (disch := omega) only [g_upd_ne, g_upd_eq, fr_X4_fix, fr_X5_put, fr_X1_startAnew, fr_X1_walkTo, fr_X1_arrive, fr_X1_countBelow, fr_X3_set, fr_X0_startWalk, fr_X0_letMinutePass, fr_X3_goUp]; first | with_reducible assumption | with_reducible omega | decide) | exact (b_X3_goUp (by with_reducible assumption) (by with_reducible assumption)).1 | exact (b_X3_goUp (by with_reducible assumption) (by with_reducible assumption)).2 | exact Or.inl rfl | exact Or.inr rfl), (by first | decide | with_reducible assumption | with_reducible omega | (simp (disch := omega) only [g_upd_ne, g_upd_eq, fr_X4_fix, fr_X5_put, fr_X1_startAnew, fr_X1_walkTo, fr_X1_arrive, fr_X1_countBelow, fr_X3_set, fr_X0_startWalk, fr_X0_letMinutePass, fr_X3_goUp]; first | with_reducible assumption | with_reducible omega | decide) | exact (b_X3_goUp (by with_reducible assumption) (by with_reducible assumption)).1 | exact (b_X3_goUp (by with_reducible assumption) (by with_reducible assumption)).2 | exact Or.inl rfl | exact Or.inr rfl)⟩
              have J_61 : g_V X (fun r : Int32 × (Nat → Int32) => ((.inl (some (.int r.1)), (r.2, q)) : g_Res)) (R_X0_letPass_61 ((R_X0_letPass_10 m x1 f_10)) i m_18 ) 0 0 m_18 q 61 [(0, .ref (g_ad X 0)), (1, .int x1), (2, .int (m 7)), (3, .int (nI i))] [] := by
                refine r_aload_n O 0 dX0_letPass_61 rfl rfl ?_
                refine r_get O FX0_38 G_0_4 dX0_letPass_62 ?_
                refine r_callVv O [] [] (met_X3_goUp (g_xl X) hs q m_18 (by first | decide | with_reducible assumption | with_reducible omega | (simp (disch := omega) only [g_upd_ne, g_upd_eq, fr_X4_fix, fr_X5_put, fr_X1_startAnew, fr_X1_walkTo, fr_X1_arrive, fr_X1_countBelow, fr_X3_set, fr_X0_startWalk, fr_X0_letMinutePass, fr_X3_goUp]; first | with_reducible assumption | with_reducible omega | decide) | exact (b_X3_goUp (by with_reducible assumption) (by with_reducible assumption)).1 | exact (b_X3_goUp (by with_reducible assumption) (by with_reducible assumption)).2 | exact Or.inl rfl | exact Or.inr rfl) (by first | decide | with_reducible assumption | with_reducible omega | (simp (disch := omega) only [g_upd_ne, g_upd_eq, fr_X4_fix, fr_X5_put, fr_X1_startAnew, fr_X1_walkTo, fr_X1_arrive, fr_X1_countBelow, fr_X3_set, fr_X0_startWalk, fr_X0_letMinutePass, fr_X3_goUp]; first | with_reducible assumption | with_reducible omega | decide) | exact (b_X3_goUp (by with_reducible assumption) (by with_reducible assumption)).1 | exact (b_X3_goUp (by with_reducible assumption) (by with_reducible assumption)).2 | exact Or.inl rfl | exact Or.inr rfl)) LX0_215 obj_16 rfl rfl rfl dX0_letPass_65 rfl rfl ?_
                exact J_68 (R_X3_goUp m_18) (by first | decide | with_reducible assumption | with_reducible omega | (simp (disch := omega) only [g_upd_ne, g_upd_eq, fr_X4_fix, fr_X5_put, fr_X1_startAnew, fr_X1_walkTo, fr_X1_arrive, fr_X1_countBelow, fr_X3_set, fr_X0_startWalk, fr_X0_letMinutePass, fr_X3_goUp]; first | with_reducible assumption | with_reducible omega | decide) | exact (b_X3_goUp (by with_reducible assumption) (by with_reducible assumption)).1 | exact (b_X3_goUp (by with_reducible assumption) (by with_reducible assumption)).2 | exact Or.inl rfl | exact Or.inr rfl) (by first | decide | with_reducible assumption | with_reducible omega | (simp (disch := omega) only [g_upd_ne, g_upd_eq, fr_X4_fix, fr_X5_put, fr_X1_startAnew, fr_X1_walkTo, fr_X1_arrive, fr_X1_countBelow, fr_X3_set, fr_X0_startWalk, fr_X0_letMinutePass, fr_X3_goUp]; first | with_reducible assumption | with_reducible omega | decide) | exact (b_X3_goUp (by with_reducible assumption) (by with_reducible assumption)).1 | exact (b_X3_goUp (by with_reducible assumption) (by with_reducible assumption)).2 | exact Or.inl rfl | exact Or.inr rfl) (by first | decide | with_reducible assumption | with_reducible omega | (simp (disch := omega) only [g_upd_ne, g_upd_eq, fr_X4_fix, fr_X5_put, fr_X1_startAnew, fr_X1_walkTo, fr_X1_arrive, fr_X1_countBelow, fr_X3_set, fr_X0_startWalk, fr_X0_letMinutePass, fr_X3_goUp]; first | with_reducible assumption | with_reducible omega | decide) | exact (b_X3_goUp (by with_reducible assumption) (by with_reducible assumption)).1 | exact (b_X3_goUp (by with_reducible assumption) (by with_reducible assumption)).2 | exact Or.inl rfl | exact Or.inr rfl) (by first | decide | with_reducible assumption | with_reducible omega | (simp (disch := omega) only [g_upd_ne, g_upd_eq, fr_X4_fix, fr_X5_put, fr_X1_startAnew, fr_X1_walkTo, fr_X1_arrive, fr_X1_countBelow, fr_X3_set, fr_X0_startWalk, fr_X0_letMinutePass, fr_X3_goUp]; first | with_reducible assumption | with_reducible omega | decide) | exact (b_X3_goUp (by with_reducible assumption) (by with_reducible assumption)).1 | exact (b_X3_goUp (by with_reducible assumption) (by with_reducible assumption)).2 | exact Or.inl rfl | exact Or.inr rfl) (by first | decide | with_reducible assumption | with_reducible omega | (simp (disch := omega) only [g_upd_ne, g_upd_eq, fr_X4_fix, fr_X5_put, fr_X1_startAnew, fr_X1_walkTo, fr_X1_arrive, fr_X1_countBelow, fr_X3_set, fr_X0_startWalk, fr_X0_letMinutePass, fr_X3_goUp]; first | with_reducible assumption | with_reducible omega | decide) | exact (b_X3_goUp (by with_reducible assumption) (by with_reducible assumption)).1 | exact (b_X3_goUp (by with_reducible assumption) (by with_reducible assumption)).2 | exact Or.inl rfl | exact Or.inr rfl)
              refine r_icmp_lt O 61 dX0_letPass_47 (by decide) (fun c_47 => ?_) (fun c_47 => ?_)
              · have e_47 : (m_18 3).toInt < (m_18 9).toInt := j_lt c_47
                refine r_sub [0, 1, 2, 3] rfl ?_
                exact J_61
              · have e_47 : (m_18 9).toInt ≤ (m_18 3).toInt := j_nlt c_47
                refine r_aload_n O 0 dX0_letPass_50 rfl rfl ?_
                refine r_get O FX0_49 G_0_6 dX0_letPass_51 ?_
                refine r_aload_n O 0 dX0_letPass_54 rfl rfl ?_
                refine r_get O FX0_62 G_0_10 dX0_letPass_55 ?_
                refine r_icmp_lt O 68 dX0_letPass_58 (by decide) (fun c_58 => ?_) (fun c_58 => ?_)
                · have e_58 : (m_18 3).toInt < (m_18 10).toInt := j_lt c_58
                  refine r_sub [0, 1, 2, 3] rfl ?_
                  exact J_68 m_18 (by first | decide | with_reducible assumption | with_reducible omega | (simp (disch := omega) only [g_upd_ne, g_upd_eq, fr_X4_fix, fr_X5_put, fr_X1_startAnew, fr_X1_walkTo, fr_X1_arrive, fr_X1_countBelow, fr_X3_set, fr_X0_startWalk, fr_X0_letMinutePass, fr_X3_goUp]; first | with_reducible assumption | with_reducible omega | decide) | exact (b_X3_goUp (by with_reducible assumption) (by with_reducible assumption)).1 | exact (b_X3_goUp (by with_reducible assumption) (by with_reducible assumption)).2 | exact Or.inl rfl | exact Or.inr rfl) (by first | decide | with_reducible assumption | with_reducible omega | (simp (disch := omega) only [g_upd_ne, g_upd_eq, fr_X4_fix, fr_X5_put, fr_X1_startAnew, fr_X1_walkTo, fr_X1_arrive, fr_X1_countBelow, fr_X3_set, fr_X0_startWalk, fr_X0_letMinutePass, fr_X3_goUp]; first | with_reducible assumption | with_reducible omega | decide) | exact (b_X3_goUp (by with_reducible assumption) (by with_reducible assumption)).1 | exact (b_X3_goUp (by with_reducible assumption) (by with_reducible assumption)).2 | exact Or.inl rfl | exact Or.inr rfl) (by first | decide | with_reducible assumption | with_reducible omega | (simp (disch := omega) only [g_upd_ne, g_upd_eq, fr_X4_fix, fr_X5_put, fr_X1_startAnew, fr_X1_walkTo, fr_X1_arrive, fr_X1_countBelow, fr_X3_set, fr_X0_startWalk, fr_X0_letMinutePass, fr_X3_goUp]; first | with_reducible assumption | with_reducible omega | decide) | exact (b_X3_goUp (by with_reducible assumption) (by with_reducible assumption)).1 | exact (b_X3_goUp (by with_reducible assumption) (by with_reducible assumption)).2 | exact Or.inl rfl | exact Or.inr rfl) (by first | decide | with_reducible assumption | with_reducible omega | (simp (disch := omega) only [g_upd_ne, g_upd_eq, fr_X4_fix, fr_X5_put, fr_X1_startAnew, fr_X1_walkTo, fr_X1_arrive, fr_X1_countBelow, fr_X3_set, fr_X0_startWalk, fr_X0_letMinutePass, fr_X3_goUp]; first | with_reducible assumption | with_reducible omega | decide) | exact (b_X3_goUp (by with_reducible assumption) (by with_reducible assumption)).1 | exact (b_X3_goUp (by with_reducible assumption) (by with_reducible assumption)).2 | exact Or.inl rfl | exact Or.inr rfl) (by first | decide | with_reducible assumption | with_reducible omega | (simp (disch := omega) only [g_upd_ne, g_upd_eq, fr_X4_fix, fr_X5_put, fr_X1_startAnew, fr_X1_walkTo, fr_X1_arrive, fr_X1_countBelow, fr_X3_set, fr_X0_startWalk, fr_X0_letMinutePass, fr_X3_goUp]; first | with_reducible assumption | with_reducible omega | decide) | exact (b_X3_goUp (by with_reducible assumption) (by with_reducible assumption)).1 | exact (b_X3_goUp (by with_reducible assumption) (by with_reducible assumption)).2 | exact Or.inl rfl | exact Or.inr rfl)
                · have e_58 : (m_18 10).toInt ≤ (m_18 3).toInt := j_nlt c_58
                  refine r_sub [0, 1, 2, 3] rfl ?_
                  exact J_61
            · have e_24 : (nI k).toInt < (m_18 2).toInt := j_nle c_24
              refine r_aload_n O 0 dX0_letPass_27 rfl rfl ?_
              refine r_iload O 4 dX0_letPass_28 rfl ?_
              refine r_callVv O [.int (nI k)] [] (met_X0_letMinutePass (g_xl X) hs q m_18 (nI k) (by first | decide | with_reducible assumption | with_reducible omega | (simp (disch := omega) only [g_upd_ne, g_upd_eq, fr_X4_fix, fr_X5_put, fr_X1_startAnew, fr_X1_walkTo, fr_X1_arrive, fr_X1_countBelow, fr_X3_set, fr_X0_startWalk, fr_X0_letMinutePass, fr_X3_goUp]; first | with_reducible assumption | with_reducible omega | decide) | exact (b_X3_goUp (by with_reducible assumption) (by with_reducible assumption)).1 | exact (b_X3_goUp (by with_reducible assumption) (by with_reducible assumption)).2 | exact Or.inl rfl | exact Or.inr rfl) (by first | decide | with_reducible assumption | with_reducible omega | (simp (disch := omega) only [g_upd_ne, g_upd_eq, fr_X4_fix, fr_X5_put, fr_X1_startAnew, fr_X1_walkTo, fr_X1_arrive, fr_X1_countBelow, fr_X3_set, fr_X0_startWalk, fr_X0_letMinutePass, fr_X3_goUp]; first | with_reducible assumption | with_reducible omega | decide) | exact (b_X3_goUp (by with_reducible assumption) (by with_reducible assumption)).1 | exact (b_X3_goUp (by with_reducible assumption) (by with_reducible assumption)).2 | exact Or.inl rfl | exact Or.inr rfl) (by first | decide | with_reducible assumption | with_reducible omega | (simp (disch := omega) only [g_upd_ne, g_upd_eq, fr_X4_fix, fr_X5_put, fr_X1_startAnew, fr_X1_walkTo, fr_X1_arrive, fr_X1_countBelow, fr_X3_set, fr_X0_startWalk, fr_X0_letMinutePass, fr_X3_goUp]; first | with_reducible assumption | with_reducible omega | decide) | exact (b_X3_goUp (by with_reducible assumption) (by with_reducible assumption)).1 | exact (b_X3_goUp (by with_reducible assumption) (by with_reducible assumption)).2 | exact Or.inl rfl | exact Or.inr rfl) (by first | decide | with_reducible assumption | with_reducible omega | (simp (disch := omega) only [g_upd_ne, g_upd_eq, fr_X4_fix, fr_X5_put, fr_X1_startAnew, fr_X1_walkTo, fr_X1_arrive, fr_X1_countBelow, fr_X3_set, fr_X0_startWalk, fr_X0_letMinutePass, fr_X3_goUp]; first | with_reducible assumption | with_reducible omega | decide) | exact (b_X3_goUp (by with_reducible assumption) (by with_reducible assumption)).1 | exact (b_X3_goUp (by with_reducible assumption) (by with_reducible assumption)).2 | exact Or.inl rfl | exact Or.inr rfl)) LX0_212 obj_0 rfl rfl rfl dX0_letPass_30 rfl rfl ?_
              refine r_iinc (lc' := [(4, .int (nI (k + 1))), (0, .ref (g_ad X 0)), (1, .int x1), (2, .int (m 7)), (3, .int (nI i))]) O 4 dX0_letPass_33 rfl (nI_1 k) (hN 4 rfl) rfl ?_
              refine r_goto O 18 dX0_letPass_36 (by decide) ?_
              refine r_sub [1, 2, 3, 4, 0] rfl ?_
              exact ih_18 (k + 1) (R_X0_letMinutePass m_18 (nI k)) ⟨(by first | decide | with_reducible assumption | with_reducible omega | (simp (disch := omega) only [g_upd_ne, g_upd_eq, fr_X4_fix, fr_X5_put, fr_X1_startAnew, fr_X1_walkTo, fr_X1_arrive, fr_X1_countBelow, fr_X3_set, fr_X0_startWalk, fr_X0_letMinutePass, fr_X3_goUp]; first | with_reducible assumption | with_reducible omega | decide) | exact (b_X3_goUp (by with_reducible assumption) (by with_reducible assumption)).1 | exact (b_X3_goUp (by with_reducible assumption) (by with_reducible assumption)).2 | exact Or.inl rfl | exact Or.inr rfl), (by first | decide | with_reducible assumption | with_reducible omega | (simp (disch := omega) only [g_upd_ne, g_upd_eq, fr_X4_fix, fr_X5_put, fr_X1_startAnew, fr_X1_walkTo, fr_X1_arrive, fr_X1_countBelow, fr_X3_set, fr_X0_startWalk, fr_X0_letMinutePass, fr_X3_goUp]; first | with_reducible assumption | with_reducible omega | decide) | exact (b_X3_goUp (by with_reducible assumption) (by with_reducible assumption)).1 | exact (b_X3_goUp (by with_reducible assumption) (by with_reducible assumption)).2 | exact Or.inl rfl | exact Or.inr rfl), (by first | decide | with_reducible assumption | with_reducible omega | (simp (disch := omega) only [g_upd_ne, g_upd_eq, fr_X4_fix, fr_X5_put, fr_X1_startAnew, fr_X1_walkTo, fr_X1_arrive, fr_X1_countBelow, fr_X3_set, fr_X0_startWalk, fr_X0_letMinutePass, fr_X3_goUp]; first | with_reducible assumption | with_reducible omega | decide) | exact (b_X3_goUp (by with_reducible assumption) (by with_reducible assumption)).1 | exact (b_X3_goUp (by with_reducible assumption) (by with_reducible assumption)).2 | exact Or.inl rfl | exact Or.inr rfl), (by first | decide | with_reducible assumption | with_reducible omega | (simp (disch := omega) only [g_upd_ne, g_upd_eq, fr_X4_fix, fr_X5_put, fr_X1_startAnew, fr_X1_walkTo, fr_X1_arrive, fr_X1_countBelow, fr_X3_set, fr_X0_startWalk, fr_X0_letMinutePass, fr_X3_goUp]; first | with_reducible assumption | with_reducible omega | decide) | exact (b_X3_goUp (by with_reducible assumption) (by with_reducible assumption)).1 | exact (b_X3_goUp (by with_reducible assumption) (by with_reducible assumption)).2 | exact Or.inl rfl | exact Or.inr rfl), (by first | decide | with_reducible assumption | with_reducible omega | (simp (disch := omega) only [g_upd_ne, g_upd_eq, fr_X4_fix, fr_X5_put, fr_X1_startAnew, fr_X1_walkTo, fr_X1_arrive, fr_X1_countBelow, fr_X3_set, fr_X0_startWalk, fr_X0_letMinutePass, fr_X3_goUp]; first | with_reducible assumption | with_reducible omega | decide) | exact (b_X3_goUp (by with_reducible assumption) (by with_reducible assumption)).1 | exact (b_X3_goUp (by with_reducible assumption) (by with_reducible assumption)).2 | exact Or.inl rfl | exact Or.inr rfl), (by first | decide | with_reducible assumption | with_reducible omega | (simp (disch := omega) only [g_upd_ne, g_upd_eq, fr_X4_fix, fr_X5_put, fr_X1_startAnew, fr_X1_walkTo, fr_X1_arrive, fr_X1_countBelow, fr_X3_set, fr_X0_startWalk, fr_X0_letMinutePass, fr_X3_goUp]; first | with_reducible assumption | with_reducible omega | decide) | exact (b_X3_goUp (by with_reducible assumption) (by with_reducible assumption)).1 | exact (b_X3_goUp (by with_reducible assumption) (by with_reducible assumption)).2 | exact Or.inl rfl | exact Or.inr rfl), (by first | decide | with_reducible assumption | with_reducible omega | (simp (disch := omega) only [g_upd_ne, g_upd_eq, fr_X4_fix, fr_X5_put, fr_X1_startAnew, fr_X1_walkTo, fr_X1_arrive, fr_X1_countBelow, fr_X3_set, fr_X0_startWalk, fr_X0_letMinutePass, fr_X3_goUp]; first | with_reducible assumption | with_reducible omega | decide) | exact (b_X3_goUp (by with_reducible assumption) (by with_reducible assumption)).1 | exact (b_X3_goUp (by with_reducible assumption) (by with_reducible assumption)).2 | exact Or.inl rfl | exact Or.inr rfl)⟩
        refine r_sub [1, 2, 3, 4, 0] rfl ?_
        exact L_18 7 0 m_10 ⟨(by first | decide | with_reducible assumption | with_reducible omega | (simp (disch := omega) only [g_upd_ne, g_upd_eq, fr_X4_fix, fr_X5_put, fr_X1_startAnew, fr_X1_walkTo, fr_X1_arrive, fr_X1_countBelow, fr_X3_set, fr_X0_startWalk, fr_X0_letMinutePass, fr_X3_goUp]; first | with_reducible assumption | with_reducible omega | decide) | exact (b_X3_goUp (by with_reducible assumption) (by with_reducible assumption)).1 | exact (b_X3_goUp (by with_reducible assumption) (by with_reducible assumption)).2 | exact Or.inl rfl | exact Or.inr rfl), (by first | decide | with_reducible assumption | with_reducible omega | (simp (disch := omega) only [g_upd_ne, g_upd_eq, fr_X4_fix, fr_X5_put, fr_X1_startAnew, fr_X1_walkTo, fr_X1_arrive, fr_X1_countBelow, fr_X3_set, fr_X0_startWalk, fr_X0_letMinutePass, fr_X3_goUp]; first | with_reducible assumption | with_reducible omega | decide) | exact (b_X3_goUp (by with_reducible assumption) (by with_reducible assumption)).1 | exact (b_X3_goUp (by with_reducible assumption) (by with_reducible assumption)).2 | exact Or.inl rfl | exact Or.inr rfl), (by first | decide | with_reducible assumption | with_reducible omega | (simp (disch := omega) only [g_upd_ne, g_upd_eq, fr_X4_fix, fr_X5_put, fr_X1_startAnew, fr_X1_walkTo, fr_X1_arrive, fr_X1_countBelow, fr_X3_set, fr_X0_startWalk, fr_X0_letMinutePass, fr_X3_goUp]; first | with_reducible assumption | with_reducible omega | decide) | exact (b_X3_goUp (by with_reducible assumption) (by with_reducible assumption)).1 | exact (b_X3_goUp (by with_reducible assumption) (by with_reducible assumption)).2 | exact Or.inl rfl | exact Or.inr rfl), (by first | decide | with_reducible assumption | with_reducible omega | (simp (disch := omega) only [g_upd_ne, g_upd_eq, fr_X4_fix, fr_X5_put, fr_X1_startAnew, fr_X1_walkTo, fr_X1_arrive, fr_X1_countBelow, fr_X3_set, fr_X0_startWalk, fr_X0_letMinutePass, fr_X3_goUp]; first | with_reducible assumption | with_reducible omega | decide) | exact (b_X3_goUp (by with_reducible assumption) (by with_reducible assumption)).1 | exact (b_X3_goUp (by with_reducible assumption) (by with_reducible assumption)).2 | exact Or.inl rfl | exact Or.inr rfl), (by first | decide | with_reducible assumption | with_reducible omega | (simp (disch := omega) only [g_upd_ne, g_upd_eq, fr_X4_fix, fr_X5_put, fr_X1_startAnew, fr_X1_walkTo, fr_X1_arrive, fr_X1_countBelow, fr_X3_set, fr_X0_startWalk, fr_X0_letMinutePass, fr_X3_goUp]; first | with_reducible assumption | with_reducible omega | decide) | exact (b_X3_goUp (by with_reducible assumption) (by with_reducible assumption)).1 | exact (b_X3_goUp (by with_reducible assumption) (by with_reducible assumption)).2 | exact Or.inl rfl | exact Or.inr rfl), (by first | decide | with_reducible assumption | with_reducible omega | (simp (disch := omega) only [g_upd_ne, g_upd_eq, fr_X4_fix, fr_X5_put, fr_X1_startAnew, fr_X1_walkTo, fr_X1_arrive, fr_X1_countBelow, fr_X3_set, fr_X0_startWalk, fr_X0_letMinutePass, fr_X3_goUp]; first | with_reducible assumption | with_reducible omega | decide) | exact (b_X3_goUp (by with_reducible assumption) (by with_reducible assumption)).1 | exact (b_X3_goUp (by with_reducible assumption) (by with_reducible assumption)).2 | exact Or.inl rfl | exact Or.inr rfl), (by first | decide | with_reducible assumption | with_reducible omega | (simp (disch := omega) only [g_upd_ne, g_upd_eq, fr_X4_fix, fr_X5_put, fr_X1_startAnew, fr_X1_walkTo, fr_X1_arrive, fr_X1_countBelow, fr_X3_set, fr_X0_startWalk, fr_X0_letMinutePass, fr_X3_goUp]; first | with_reducible assumption | with_reducible omega | decide) | exact (b_X3_goUp (by with_reducible assumption) (by with_reducible assumption)).1 | exact (b_X3_goUp (by with_reducible assumption) (by with_reducible assumption)).2 | exact Or.inl rfl | exact Or.inr rfl)⟩
  refine r_sub [2, 3, 1, 0] rfl ?_
  exact L_10 601 0 m ⟨(by first | decide | with_reducible assumption | with_reducible omega | (simp (disch := omega) only [g_upd_ne, g_upd_eq, fr_X4_fix, fr_X5_put, fr_X1_startAnew, fr_X1_walkTo, fr_X1_arrive, fr_X1_countBelow, fr_X3_set, fr_X0_startWalk, fr_X0_letMinutePass, fr_X3_goUp]; first | with_reducible assumption | with_reducible omega | decide) | exact (b_X3_goUp (by with_reducible assumption) (by with_reducible assumption)).1 | exact (b_X3_goUp (by with_reducible assumption) (by with_reducible assumption)).2 | exact Or.inl rfl | exact Or.inr rfl), (by first | decide | with_reducible assumption | with_reducible omega | (simp (disch := omega) only [g_upd_ne, g_upd_eq, fr_X4_fix, fr_X5_put, fr_X1_startAnew, fr_X1_walkTo, fr_X1_arrive, fr_X1_countBelow, fr_X3_set, fr_X0_startWalk, fr_X0_letMinutePass, fr_X3_goUp]; first | with_reducible assumption | with_reducible omega | decide) | exact (b_X3_goUp (by with_reducible assumption) (by with_reducible assumption)).1 | exact (b_X3_goUp (by with_reducible assumption) (by with_reducible assumption)).2 | exact Or.inl rfl | exact Or.inr rfl), (by first | decide | with_reducible assumption | with_reducible omega | (simp (disch := omega) only [g_upd_ne, g_upd_eq, fr_X4_fix, fr_X5_put, fr_X1_startAnew, fr_X1_walkTo, fr_X1_arrive, fr_X1_countBelow, fr_X3_set, fr_X0_startWalk, fr_X0_letMinutePass, fr_X3_goUp]; first | with_reducible assumption | with_reducible omega | decide) | exact (b_X3_goUp (by with_reducible assumption) (by with_reducible assumption)).1 | exact (b_X3_goUp (by with_reducible assumption) (by with_reducible assumption)).2 | exact Or.inl rfl | exact Or.inr rfl), (by first | decide | with_reducible assumption | with_reducible omega | (simp (disch := omega) only [g_upd_ne, g_upd_eq, fr_X4_fix, fr_X5_put, fr_X1_startAnew, fr_X1_walkTo, fr_X1_arrive, fr_X1_countBelow, fr_X3_set, fr_X0_startWalk, fr_X0_letMinutePass, fr_X3_goUp]; first | with_reducible assumption | with_reducible omega | decide) | exact (b_X3_goUp (by with_reducible assumption) (by with_reducible assumption)).1 | exact (b_X3_goUp (by with_reducible assumption) (by with_reducible assumption)).2 | exact Or.inl rfl | exact Or.inr rfl), (by first | decide | with_reducible assumption | with_reducible omega | (simp (disch := omega) only [g_upd_ne, g_upd_eq, fr_X4_fix, fr_X5_put, fr_X1_startAnew, fr_X1_walkTo, fr_X1_arrive, fr_X1_countBelow, fr_X3_set, fr_X0_startWalk, fr_X0_letMinutePass, fr_X3_goUp]; first | with_reducible assumption | with_reducible omega | decide) | exact (b_X3_goUp (by with_reducible assumption) (by with_reducible assumption)).1 | exact (b_X3_goUp (by with_reducible assumption) (by with_reducible assumption)).2 | exact Or.inl rfl | exact Or.inr rfl), (by first | decide | with_reducible assumption | with_reducible omega | (simp (disch := omega) only [g_upd_ne, g_upd_eq, fr_X4_fix, fr_X5_put, fr_X1_startAnew, fr_X1_walkTo, fr_X1_arrive, fr_X1_countBelow, fr_X3_set, fr_X0_startWalk, fr_X0_letMinutePass, fr_X3_goUp]; first | with_reducible assumption | with_reducible omega | decide) | exact (b_X3_goUp (by with_reducible assumption) (by with_reducible assumption)).1 | exact (b_X3_goUp (by with_reducible assumption) (by with_reducible assumption)).2 | exact Or.inl rfl | exact Or.inr rfl), (by first | decide | with_reducible assumption | with_reducible omega | (simp (disch := omega) only [g_upd_ne, g_upd_eq, fr_X4_fix, fr_X5_put, fr_X1_startAnew, fr_X1_walkTo, fr_X1_arrive, fr_X1_countBelow, fr_X3_set, fr_X0_startWalk, fr_X0_letMinutePass, fr_X3_goUp]; first | with_reducible assumption | with_reducible omega | decide) | exact (b_X3_goUp (by with_reducible assumption) (by with_reducible assumption)).1 | exact (b_X3_goUp (by with_reducible assumption) (by with_reducible assumption)).2 | exact Or.inl rfl | exact Or.inr rfl)⟩
theorem met_X0_letPass (l : Launch) (hs : l.stackTraces = false) (q : g_q) (m : Nat → Int32) (x1 : Int32) (p0 : x1.toInt ≤ 600) (p1 : (m 0).toInt ≤ 7) (p2 : (m 1).toInt ≤ 8) (p3 : (m 2).toInt ≤ 6) (p4 : 0 ≤ (m 6).toInt) (p5 : (m 6).toInt ≤ 10) : g_SM l yX0_letPass cX0_letPass 5 (some .int) ({ frames := 4, cells := 0, slots := 0, locals := 96 } : Room) (fun ad => [.ref (ad 0), .int x1]) m q ((fun r : Int32 × (Nat → Int32) => ((.inl (some (.int r.1)), (r.2, q)) : g_Res)) (R_X0_letPass m x1)) :=
  g_sm_of (by decide) (fun _ => Nat.le_of_ble_eq_true rfl) hs (fun X hl hn O => walk_X0_letPass O (by rw [hl]; exact hs) hn p0 p1 p2 p3 p4 p5)
def R_X0_countOfBelow_27 (K_4 : Int32 → Nat → Int32) (n : Nat) (v1_27 : Int32) : Int32 := (K_4 v1_27 (n + 1))
def R_X0_countOfBelow_4 (m : Nat → Int32) : Nat → Int32 → Nat → Int32
  | 0, _, _ => 0
  | f + 1, v1_4, n => (if (m 2) ≤ (nI n) then v1_4 else (if (R_X1_isBelow m ((nI n).toNatClampNeg)) = 0 then (R_X0_countOfBelow_27 (R_X0_countOfBelow_4 m f) n v1_4) else (R_X0_countOfBelow_27 (R_X0_countOfBelow_4 m f) n (v1_4 + 1))))
def R_X0_countOfBelow (m : Nat → Int32) : Int32 := (R_X0_countOfBelow_4 m 7 0 0)
set_option maxRecDepth 100000 in
set_option maxHeartbeats 4000000 in
theorem walk_X0_countOfBelow {X : g_X} (O : g_ok X cX0_countOfBelow RX0 (some .int) ({ frames := 1, cells := 0, slots := 0, locals := 20 } : Room)) (hs : (g_xl X).stackTraces = false) (hn : g_xn X = 3) {q : g_q} {m : Nat → Int32} (p0 : (m 2).toInt ≤ 6) : g_V X (fun r : Int32 => ((.inl (some (.int r)), (m, q)) : g_Res)) (R_X0_countOfBelow m) 0 0 m q 0 [(0, .ref (g_ad X 0))] [] := by
  have hN : ∀ i, Nat.blt i 3 = true → i < g_xn X := fun i h => by rw [hn]; exact g_blt.mp h
  refine r_iconst (x := 0) O dX0_countOfBelow_0 rfl ?_
  refine r_istore_n (lc' := [(1, .int 0), (0, .ref (g_ad X 0))]) O dX0_countOfBelow_1 rfl (hN 1 rfl) rfl ?_
  refine r_iconst (x := 0) O dX0_countOfBelow_2 rfl ?_
  refine r_istore_n (lc' := [(2, .int 0), (1, .int 0), (0, .ref (g_ad X 0))]) O dX0_countOfBelow_3 rfl (hN 2 rfl) rfl ?_
  have L_4 : ∀ (f_4 : Nat) (v1_4 : Int32) (n : Nat) (hi_4 : n ≤ 6 ∧ 6 < f_4 + n), g_V X (fun r : Int32 => ((.inl (some (.int r)), (m, q)) : g_Res)) (R_X0_countOfBelow_4 m f_4 v1_4 n) 0 0 m q 4 [(0, .ref (g_ad X 0)), (1, .int v1_4), (2, .int (nI n))] [] := by
    intro f_4
    induction f_4 with
    | zero => intro v1_4 n hi_4; exact absurd hi_4 (by omega)
    | succ f_4 ih_4 =>
      intro v1_4 n hi_4
      have hc_n : (nI n).toInt = (n : Int) := nI_toInt (by omega)
      refine r_iload_n O 2 dX0_countOfBelow_4 rfl rfl ?_
      refine r_aload_n O 0 dX0_countOfBelow_5 rfl rfl ?_
      refine r_get O FX0_31 G_0_3 dX0_countOfBelow_6 ?_
      refine r_icmp_ge O 33 dX0_countOfBelow_9 (by decide) (fun c_9 => ?_) (fun c_9 => ?_)
      · have e_9 : (m 2).toInt ≤ (nI n).toInt := j_le c_9
        refine r_iload_n O 1 dX0_countOfBelow_33 rfl rfl ?_
        exact r_iret O dX0_countOfBelow_34 rfl (Nat.le_of_ble_eq_true rfl) (Nat.le_of_ble_eq_true rfl) rfl
      · have e_9 : (nI n).toInt < (m 2).toInt := j_nle c_9
        refine r_aload_n O 0 dX0_countOfBelow_12 rfl rfl ?_
        refine r_get O FX0_27 G_0_2 dX0_countOfBelow_13 ?_
        refine r_iload_n O 2 dX0_countOfBelow_16 rfl rfl ?_
        have hv1 : vp_in (nI n) 6 := (show vp_in (nI n) 6 from g_vin (by with_reducible omega) (by with_reducible omega))
        have hv1c := g_cl hv1
        refine r_aald O hv1 dX0_countOfBelow_17 ?_
        refine r_callVi O [] [] (met_X1_isBelow (g_xl X) hs q m ((nI n).toNatClampNeg) hv1c) LX0_247 (obj_h hv1c) rfl rfl rfl dX0_countOfBelow_18 rfl rfl ?_
        have J_27 : ∀ (v1_27 : Int32), g_V X (fun r : Int32 => ((.inl (some (.int r)), (m, q)) : g_Res)) (R_X0_countOfBelow_27 ((R_X0_countOfBelow_4 m f_4)) n v1_27) 0 0 m q 27 [(0, .ref (g_ad X 0)), (1, .int v1_27), (2, .int (nI n))] [] := by
          intro v1_27
          refine r_iinc (lc' := [(2, .int (nI (n + 1))), (0, .ref (g_ad X 0)), (1, .int v1_27)]) O 2 dX0_countOfBelow_27 rfl (nI_1 n) (hN 2 rfl) rfl ?_
          refine r_goto O 4 dX0_countOfBelow_30 (by decide) ?_
          refine r_sub [1, 2, 0] rfl ?_
          exact ih_4 v1_27 (n + 1) (by with_reducible omega)
        refine r_if_eq O 27 dX0_countOfBelow_21 (by decide) (fun c_21 => ?_) (fun c_21 => ?_)
        · have e_21 : (R_X1_isBelow m ((nI n).toNatClampNeg)).toInt = (0 : Int) := j_eqR c_21 rfl
          exact J_27 v1_4
        · have e_21 : (R_X1_isBelow m ((nI n).toNatClampNeg)).toInt ≠ (0 : Int) := j_neR c_21 rfl
          refine r_iinc (lc' := [(1, .int (v1_4 + 1)), (0, .ref (g_ad X 0)), (2, .int (nI n))]) O 1 dX0_countOfBelow_24 rfl rfl (hN 1 rfl) rfl ?_
          refine r_sub [1, 0, 2] rfl ?_
          exact J_27 (v1_4 + 1)
  refine r_sub [2, 1, 0] rfl ?_
  exact L_4 7 0 0 (by with_reducible omega)
theorem met_X0_countOfBelow (l : Launch) (hs : l.stackTraces = false) (q : g_q) (m : Nat → Int32) (p0 : (m 2).toInt ≤ 6) : g_SM l yX0_countOfBelow cX0_countOfBelow 3 (some .int) ({ frames := 1, cells := 0, slots := 0, locals := 20 } : Room) (fun ad => [.ref (ad 0)]) m q ((fun r : Int32 => ((.inl (some (.int r)), (m, q)) : g_Res)) (R_X0_countOfBelow m)) :=
  g_sm_of (by decide) (fun _ => Nat.le_of_ble_eq_true rfl) hs (fun X hl hn O => walk_X0_countOfBelow O (by rw [hl]; exact hs) hn p0)
def R_X0_aboutPassage (m : Nat → Int32) (x1 : Int32) (x2 : Int32) : Int32 := (if x2 = 0 then (R_X4_dropOf m x1) else (if x2 = 1 then (R_X4_minutesOf m x1) else (if x2 = 2 then (R_X4_ropeOf m x1) else (if x2 = 3 then (R_X0_walkersThrough m x1) else (R_X0_riggerOf m x1)))))
set_option maxRecDepth 100000 in
set_option maxHeartbeats 4000000 in
theorem walk_X0_aboutPassage {X : g_X} (O : g_ok X cX0_aboutPassage RX0 (some .int) ({ frames := 3, cells := 0, slots := 0, locals := 65 } : Room)) (hs : (g_xl X).stackTraces = false) (hn : g_xn X = 3) {q : g_q} {m : Nat → Int32} {x1 : Int32} {x2 : Int32} (p0 : (m 0).toInt ≤ 7) (p1 : (m 2).toInt ≤ 6) : g_V X (fun r : Int32 => ((.inl (some (.int r)), (m, q)) : g_Res)) (R_X0_aboutPassage m x1 x2) 0 0 m q 0 [(0, .ref (g_ad X 0)), (1, .int x1), (2, .int x2)] [] := by
  have hN : ∀ i, Nat.blt i 3 = true → i < g_xn X := fun i h => by rw [hn]; exact g_blt.mp h
  refine r_iload_n O 2 dX0_aboutPassage_0 rfl rfl ?_
  refine g_if (fun c_1_0 => ?_) (fun c_1_0 => ?_)
  · refine r_tabIn O 32 dX0_aboutPassage_1 (by rw [c_1_0]; decide) (by rw [c_1_0]; decide) (by rw [c_1_0]; rfl) (by decide) ?_
    refine r_aload_n O 0 dX0_aboutPassage_32 rfl rfl ?_
    refine r_get O FX0_12 G_0_0 dX0_aboutPassage_33 ?_
    refine r_iload_n O 1 dX0_aboutPassage_36 rfl rfl ?_
    refine r_callVi O [.int x1] [] (met_X4_dropOf (g_xl X) hs q m x1 (by first | decide | with_reducible assumption | with_reducible omega | (simp (disch := omega) only [g_upd_ne, g_upd_eq, fr_X4_fix, fr_X5_put, fr_X1_startAnew, fr_X1_walkTo, fr_X1_arrive, fr_X1_countBelow, fr_X3_set, fr_X0_startWalk, fr_X0_letMinutePass, fr_X3_goUp]; first | with_reducible assumption | with_reducible omega | decide) | exact (b_X3_goUp (by with_reducible assumption) (by with_reducible assumption)).1 | exact (b_X3_goUp (by with_reducible assumption) (by with_reducible assumption)).2 | exact Or.inl rfl | exact Or.inr rfl)) LX0_180 obj_1 rfl rfl rfl dX0_aboutPassage_37 rfl rfl ?_
    exact r_iret O dX0_aboutPassage_40 rfl (Nat.le_of_ble_eq_true rfl) (Nat.le_of_ble_eq_true rfl) rfl
  · refine g_if (fun c_1_1 => ?_) (fun c_1_1 => ?_)
    · refine r_tabIn O 41 dX0_aboutPassage_1 (by rw [c_1_1]; decide) (by rw [c_1_1]; decide) (by rw [c_1_1]; rfl) (by decide) ?_
      refine r_aload_n O 0 dX0_aboutPassage_41 rfl rfl ?_
      refine r_get O FX0_12 G_0_0 dX0_aboutPassage_42 ?_
      refine r_iload_n O 1 dX0_aboutPassage_45 rfl rfl ?_
      refine r_callVi O [.int x1] [] (met_X4_minutesOf (g_xl X) hs q m x1 (by first | decide | with_reducible assumption | with_reducible omega | (simp (disch := omega) only [g_upd_ne, g_upd_eq, fr_X4_fix, fr_X5_put, fr_X1_startAnew, fr_X1_walkTo, fr_X1_arrive, fr_X1_countBelow, fr_X3_set, fr_X0_startWalk, fr_X0_letMinutePass, fr_X3_goUp]; first | with_reducible assumption | with_reducible omega | decide) | exact (b_X3_goUp (by with_reducible assumption) (by with_reducible assumption)).1 | exact (b_X3_goUp (by with_reducible assumption) (by with_reducible assumption)).2 | exact Or.inl rfl | exact Or.inr rfl)) LX0_136 obj_1 rfl rfl rfl dX0_aboutPassage_46 rfl rfl ?_
      exact r_iret O dX0_aboutPassage_49 rfl (Nat.le_of_ble_eq_true rfl) (Nat.le_of_ble_eq_true rfl) rfl
    · refine g_if (fun c_1_2 => ?_) (fun c_1_2 => ?_)
      · refine r_tabIn O 50 dX0_aboutPassage_1 (by rw [c_1_2]; decide) (by rw [c_1_2]; decide) (by rw [c_1_2]; rfl) (by decide) ?_
        refine r_aload_n O 0 dX0_aboutPassage_50 rfl rfl ?_
        refine r_get O FX0_12 G_0_0 dX0_aboutPassage_51 ?_
        refine r_iload_n O 1 dX0_aboutPassage_54 rfl rfl ?_
        refine r_callVi O [.int x1] [] (met_X4_ropeOf (g_xl X) hs q m x1 (by first | decide | with_reducible assumption | with_reducible omega | (simp (disch := omega) only [g_upd_ne, g_upd_eq, fr_X4_fix, fr_X5_put, fr_X1_startAnew, fr_X1_walkTo, fr_X1_arrive, fr_X1_countBelow, fr_X3_set, fr_X0_startWalk, fr_X0_letMinutePass, fr_X3_goUp]; first | with_reducible assumption | with_reducible omega | decide) | exact (b_X3_goUp (by with_reducible assumption) (by with_reducible assumption)).1 | exact (b_X3_goUp (by with_reducible assumption) (by with_reducible assumption)).2 | exact Or.inl rfl | exact Or.inr rfl)) LX0_113 obj_1 rfl rfl rfl dX0_aboutPassage_55 rfl rfl ?_
        exact r_iret O dX0_aboutPassage_58 rfl (Nat.le_of_ble_eq_true rfl) (Nat.le_of_ble_eq_true rfl) rfl
      · refine g_if (fun c_1_3 => ?_) (fun c_1_3 => ?_)
        · refine r_tabIn O 59 dX0_aboutPassage_1 (by rw [c_1_3]; decide) (by rw [c_1_3]; decide) (by rw [c_1_3]; rfl) (by decide) ?_
          refine r_aload_n O 0 dX0_aboutPassage_59 rfl rfl ?_
          refine r_iload_n O 1 dX0_aboutPassage_60 rfl rfl ?_
          refine r_callVi O [.int x1] [] (met_X0_walkersThrough (g_xl X) hs q m x1 (by first | decide | with_reducible assumption | with_reducible omega | (simp (disch := omega) only [g_upd_ne, g_upd_eq, fr_X4_fix, fr_X5_put, fr_X1_startAnew, fr_X1_walkTo, fr_X1_arrive, fr_X1_countBelow, fr_X3_set, fr_X0_startWalk, fr_X0_letMinutePass, fr_X3_goUp]; first | with_reducible assumption | with_reducible omega | decide) | exact (b_X3_goUp (by with_reducible assumption) (by with_reducible assumption)).1 | exact (b_X3_goUp (by with_reducible assumption) (by with_reducible assumption)).2 | exact Or.inl rfl | exact Or.inr rfl)) LX0_120 obj_0 rfl rfl rfl dX0_aboutPassage_61 rfl rfl ?_
          exact r_iret O dX0_aboutPassage_64 rfl (Nat.le_of_ble_eq_true rfl) (Nat.le_of_ble_eq_true rfl) rfl
        · refine r_tabOut O 65 dX0_aboutPassage_1 (by have e0 : (x2).toInt ≠ 0 := j_neR c_1_0 rfl; have e1 : (x2).toInt ≠ 1 := j_neR c_1_1 rfl; have e2 : (x2).toInt ≠ 2 := j_neR c_1_2 rfl; have e3 : (x2).toInt ≠ 3 := j_neR c_1_3 rfl; omega) (by decide) ?_
          refine r_aload_n O 0 dX0_aboutPassage_65 rfl rfl ?_
          refine r_iload_n O 1 dX0_aboutPassage_66 rfl rfl ?_
          refine r_callVi O [.int x1] [] (met_X0_riggerOf (g_xl X) hs q m x1 (by first | decide | with_reducible assumption | with_reducible omega | (simp (disch := omega) only [g_upd_ne, g_upd_eq, fr_X4_fix, fr_X5_put, fr_X1_startAnew, fr_X1_walkTo, fr_X1_arrive, fr_X1_countBelow, fr_X3_set, fr_X0_startWalk, fr_X0_letMinutePass, fr_X3_goUp]; first | with_reducible assumption | with_reducible omega | decide) | exact (b_X3_goUp (by with_reducible assumption) (by with_reducible assumption)).1 | exact (b_X3_goUp (by with_reducible assumption) (by with_reducible assumption)).2 | exact Or.inl rfl | exact Or.inr rfl)) LX0_117 obj_0 rfl rfl rfl dX0_aboutPassage_67 rfl rfl ?_
          exact r_iret O dX0_aboutPassage_70 rfl (Nat.le_of_ble_eq_true rfl) (Nat.le_of_ble_eq_true rfl) rfl
theorem met_X0_aboutPassage (l : Launch) (hs : l.stackTraces = false) (q : g_q) (m : Nat → Int32) (x1 : Int32) (x2 : Int32) (p0 : (m 0).toInt ≤ 7) (p1 : (m 2).toInt ≤ 6) : g_SM l yX0_aboutPassage cX0_aboutPassage 3 (some .int) ({ frames := 3, cells := 0, slots := 0, locals := 65 } : Room) (fun ad => [.ref (ad 0), .int x1, .int x2]) m q ((fun r : Int32 => ((.inl (some (.int r)), (m, q)) : g_Res)) (R_X0_aboutPassage m x1 x2)) :=
  g_sm_of (by decide) (fun _ => Nat.le_of_ble_eq_true rfl) hs (fun X hl hn O => walk_X0_aboutPassage O (by rw [hl]; exact hs) hn p0 p1)
def R_X0_about (m : Nat → Int32) (x1 : Int32) : Int32 := (if x1 = 0 then (m 0) else (if x1 = 1 then (m 1) else (if x1 = 2 then (m 2) else (if x1 = 3 then (m 3) else (if x1 = 4 then (m 4) else (if x1 = 5 then (if (m 5) = 0 then 0 else 1) else (if x1 = 6 then (R_X0_countOfBelow m) else (if x1 = 7 then (m 6) else (if x1 = 8 then (m 7) else (if x1 = 9 then (m 8) else (if x1 = 10 then (R_X4_countOfClosed m) else (if x1 = 11 then (m 9) else (if x1 = 12 then (m 10) else (m 11))))))))))))))
set_option maxRecDepth 100000 in
set_option maxHeartbeats 4000000 in
theorem walk_X0_about {X : g_X} (O : g_ok X cX0_about RX0 (some .int) ({ frames := 3, cells := 0, slots := 0, locals := 64 } : Room)) (hs : (g_xl X).stackTraces = false) (hn : g_xn X = 2) {q : g_q} {m : Nat → Int32} {x1 : Int32} (p0 : (m 0).toInt ≤ 7) (p1 : (m 2).toInt ≤ 6) : g_V X (fun r : Int32 => ((.inl (some (.int r)), (m, q)) : g_Res)) (R_X0_about m x1) 0 0 m q 0 [(0, .ref (g_ad X 0)), (1, .int x1)] [] := by
  have hN : ∀ i, Nat.blt i 2 = true → i < g_xn X := fun i h => by rw [hn]; exact g_blt.mp h
  refine r_iload_n O 1 dX0_about_0 rfl rfl ?_
  refine g_if (fun c_1_0 => ?_) (fun c_1_0 => ?_)
  · refine r_tabIn O 68 dX0_about_1 (by rw [c_1_0]; decide) (by rw [c_1_0]; decide) (by rw [c_1_0]; rfl) (by decide) ?_
    refine r_aload_n O 0 dX0_about_68 rfl rfl ?_
    refine r_get O FX0_12 G_0_0 dX0_about_69 ?_
    refine r_get O FX0_132 G_1_3 dX0_about_72 ?_
    exact r_iret O dX0_about_75 rfl (Nat.le_of_ble_eq_true rfl) (Nat.le_of_ble_eq_true rfl) rfl
  · refine g_if (fun c_1_1 => ?_) (fun c_1_1 => ?_)
    · refine r_tabIn O 76 dX0_about_1 (by rw [c_1_1]; decide) (by rw [c_1_1]; decide) (by rw [c_1_1]; rfl) (by decide) ?_
      refine r_aload_n O 0 dX0_about_76 rfl rfl ?_
      refine r_get O FX0_21 G_0_1 dX0_about_77 ?_
      refine r_get O FX0_73 G_5_3 dX0_about_80 ?_
      exact r_iret O dX0_about_83 rfl (Nat.le_of_ble_eq_true rfl) (Nat.le_of_ble_eq_true rfl) rfl
    · refine g_if (fun c_1_2 => ?_) (fun c_1_2 => ?_)
      · refine r_tabIn O 84 dX0_about_1 (by rw [c_1_2]; decide) (by rw [c_1_2]; decide) (by rw [c_1_2]; rfl) (by decide) ?_
        refine r_aload_n O 0 dX0_about_84 rfl rfl ?_
        refine r_get O FX0_31 G_0_3 dX0_about_85 ?_
        exact r_iret O dX0_about_88 rfl (Nat.le_of_ble_eq_true rfl) (Nat.le_of_ble_eq_true rfl) rfl
      · refine g_if (fun c_1_3 => ?_) (fun c_1_3 => ?_)
        · refine r_tabIn O 89 dX0_about_1 (by rw [c_1_3]; decide) (by rw [c_1_3]; decide) (by rw [c_1_3]; rfl) (by decide) ?_
          refine r_aload_n O 0 dX0_about_89 rfl rfl ?_
          refine r_get O FX0_49 G_0_6 dX0_about_90 ?_
          exact r_iret O dX0_about_93 rfl (Nat.le_of_ble_eq_true rfl) (Nat.le_of_ble_eq_true rfl) rfl
        · refine g_if (fun c_1_4 => ?_) (fun c_1_4 => ?_)
          · refine r_tabIn O 94 dX0_about_1 (by rw [c_1_4]; decide) (by rw [c_1_4]; decide) (by rw [c_1_4]; rfl) (by decide) ?_
            refine r_aload_n O 0 dX0_about_94 rfl rfl ?_
            refine r_get O FX0_52 G_0_7 dX0_about_95 ?_
            exact r_iret O dX0_about_98 rfl (Nat.le_of_ble_eq_true rfl) (Nat.le_of_ble_eq_true rfl) rfl
          · refine g_if (fun c_1_5 => ?_) (fun c_1_5 => ?_)
            · refine r_tabIn O 99 dX0_about_1 (by rw [c_1_5]; decide) (by rw [c_1_5]; decide) (by rw [c_1_5]; rfl) (by decide) ?_
              refine r_aload_n O 0 dX0_about_99 rfl rfl ?_
              refine r_get O FX0_55 G_0_8 dX0_about_100 ?_
              refine r_if_eq O 110 dX0_about_103 (by decide) (fun c_103 => ?_) (fun c_103 => ?_)
              · have e_103 : (m 5).toInt = (0 : Int) := j_eqR c_103 rfl
                refine r_iconst (x := 0) O dX0_about_110 rfl ?_
                exact r_iret O dX0_about_111 rfl (Nat.le_of_ble_eq_true rfl) (Nat.le_of_ble_eq_true rfl) rfl
              · have e_103 : (m 5).toInt ≠ (0 : Int) := j_neR c_103 rfl
                refine r_iconst (x := 1) O dX0_about_106 rfl ?_
                refine r_goto O 111 dX0_about_107 (by decide) ?_
                exact r_iret O dX0_about_111 rfl (Nat.le_of_ble_eq_true rfl) (Nat.le_of_ble_eq_true rfl) rfl
            · refine g_if (fun c_1_6 => ?_) (fun c_1_6 => ?_)
              · refine r_tabIn O 112 dX0_about_1 (by rw [c_1_6]; decide) (by rw [c_1_6]; decide) (by rw [c_1_6]; rfl) (by decide) ?_
                refine r_aload_n O 0 dX0_about_112 rfl rfl ?_
                refine r_callVi O [] [] (met_X0_countOfBelow (g_xl X) hs q m (by first | decide | with_reducible assumption | with_reducible omega | (simp (disch := omega) only [g_upd_ne, g_upd_eq, fr_X4_fix, fr_X5_put, fr_X1_startAnew, fr_X1_walkTo, fr_X1_arrive, fr_X1_countBelow, fr_X3_set, fr_X0_startWalk, fr_X0_letMinutePass, fr_X3_goUp]; first | with_reducible assumption | with_reducible omega | decide) | exact (b_X3_goUp (by with_reducible assumption) (by with_reducible assumption)).1 | exact (b_X3_goUp (by with_reducible assumption) (by with_reducible assumption)).2 | exact Or.inl rfl | exact Or.inr rfl)) LX0_250 obj_0 rfl rfl rfl dX0_about_113 rfl rfl ?_
                exact r_iret O dX0_about_116 rfl (Nat.le_of_ble_eq_true rfl) (Nat.le_of_ble_eq_true rfl) rfl
              · refine g_if (fun c_1_7 => ?_) (fun c_1_7 => ?_)
                · refine r_tabIn O 117 dX0_about_1 (by rw [c_1_7]; decide) (by rw [c_1_7]; decide) (by rw [c_1_7]; rfl) (by decide) ?_
                  refine r_aload_n O 0 dX0_about_117 rfl rfl ?_
                  refine r_get O FX0_38 G_0_4 dX0_about_118 ?_
                  refine r_get O FX0_76 G_16_3 dX0_about_121 ?_
                  exact r_iret O dX0_about_124 rfl (Nat.le_of_ble_eq_true rfl) (Nat.le_of_ble_eq_true rfl) rfl
                · refine g_if (fun c_1_8 => ?_) (fun c_1_8 => ?_)
                  · refine r_tabIn O 125 dX0_about_1 (by rw [c_1_8]; decide) (by rw [c_1_8]; decide) (by rw [c_1_8]; rfl) (by decide) ?_
                    refine r_aload_n O 0 dX0_about_125 rfl rfl ?_
                    refine r_get O FX0_38 G_0_4 dX0_about_126 ?_
                    refine r_get O FX0_77 G_16_4 dX0_about_129 ?_
                    exact r_iret O dX0_about_132 rfl (Nat.le_of_ble_eq_true rfl) (Nat.le_of_ble_eq_true rfl) rfl
                  · refine g_if (fun c_1_9 => ?_) (fun c_1_9 => ?_)
                    · refine r_tabIn O 133 dX0_about_1 (by rw [c_1_9]; decide) (by rw [c_1_9]; decide) (by rw [c_1_9]; rfl) (by decide) ?_
                      refine r_aload_n O 0 dX0_about_133 rfl rfl ?_
                      refine r_get O FX0_45 G_0_5 dX0_about_134 ?_
                      refine r_get O FX0_83 G_20_4 dX0_about_137 ?_
                      exact r_iret O dX0_about_140 rfl (Nat.le_of_ble_eq_true rfl) (Nat.le_of_ble_eq_true rfl) rfl
                    · refine g_if (fun c_1_10 => ?_) (fun c_1_10 => ?_)
                      · refine r_tabIn O 141 dX0_about_1 (by rw [c_1_10]; decide) (by rw [c_1_10]; decide) (by rw [c_1_10]; rfl) (by decide) ?_
                        refine r_aload_n O 0 dX0_about_141 rfl rfl ?_
                        refine r_get O FX0_12 G_0_0 dX0_about_142 ?_
                        refine r_callVi O [] [] (met_X4_countOfClosed (g_xl X) hs q m (by first | decide | with_reducible assumption | with_reducible omega | (simp (disch := omega) only [g_upd_ne, g_upd_eq, fr_X4_fix, fr_X5_put, fr_X1_startAnew, fr_X1_walkTo, fr_X1_arrive, fr_X1_countBelow, fr_X3_set, fr_X0_startWalk, fr_X0_letMinutePass, fr_X3_goUp]; first | with_reducible assumption | with_reducible omega | decide) | exact (b_X3_goUp (by with_reducible assumption) (by with_reducible assumption)).1 | exact (b_X3_goUp (by with_reducible assumption) (by with_reducible assumption)).2 | exact Or.inl rfl | exact Or.inr rfl)) LX0_253 obj_1 rfl rfl rfl dX0_about_145 rfl rfl ?_
                        exact r_iret O dX0_about_148 rfl (Nat.le_of_ble_eq_true rfl) (Nat.le_of_ble_eq_true rfl) rfl
                      · refine g_if (fun c_1_11 => ?_) (fun c_1_11 => ?_)
                        · refine r_tabIn O 149 dX0_about_1 (by rw [c_1_11]; decide) (by rw [c_1_11]; decide) (by rw [c_1_11]; rfl) (by decide) ?_
                          refine r_aload_n O 0 dX0_about_149 rfl rfl ?_
                          refine r_get O FX0_59 G_0_9 dX0_about_150 ?_
                          exact r_iret O dX0_about_153 rfl (Nat.le_of_ble_eq_true rfl) (Nat.le_of_ble_eq_true rfl) rfl
                        · refine g_if (fun c_1_12 => ?_) (fun c_1_12 => ?_)
                          · refine r_tabIn O 154 dX0_about_1 (by rw [c_1_12]; decide) (by rw [c_1_12]; decide) (by rw [c_1_12]; rfl) (by decide) ?_
                            refine r_aload_n O 0 dX0_about_154 rfl rfl ?_
                            refine r_get O FX0_62 G_0_10 dX0_about_155 ?_
                            exact r_iret O dX0_about_158 rfl (Nat.le_of_ble_eq_true rfl) (Nat.le_of_ble_eq_true rfl) rfl
                          · refine r_tabOut O 159 dX0_about_1 (by have e0 : (x1).toInt ≠ 0 := j_neR c_1_0 rfl; have e1 : (x1).toInt ≠ 1 := j_neR c_1_1 rfl; have e2 : (x1).toInt ≠ 2 := j_neR c_1_2 rfl; have e3 : (x1).toInt ≠ 3 := j_neR c_1_3 rfl; have e4 : (x1).toInt ≠ 4 := j_neR c_1_4 rfl; have e5 : (x1).toInt ≠ 5 := j_neR c_1_5 rfl; have e6 : (x1).toInt ≠ 6 := j_neR c_1_6 rfl; have e7 : (x1).toInt ≠ 7 := j_neR c_1_7 rfl; have e8 : (x1).toInt ≠ 8 := j_neR c_1_8 rfl; have e9 : (x1).toInt ≠ 9 := j_neR c_1_9 rfl; have e10 : (x1).toInt ≠ 10 := j_neR c_1_10 rfl; have e11 : (x1).toInt ≠ 11 := j_neR c_1_11 rfl; have e12 : (x1).toInt ≠ 12 := j_neR c_1_12 rfl; omega) (by decide) ?_
                            refine r_aload_n O 0 dX0_about_159 rfl rfl ?_
                            refine r_get O FX0_65 G_0_11 dX0_about_160 ?_
                            exact r_iret O dX0_about_163 rfl (Nat.le_of_ble_eq_true rfl) (Nat.le_of_ble_eq_true rfl) rfl
theorem met_X0_about (l : Launch) (hs : l.stackTraces = false) (q : g_q) (m : Nat → Int32) (x1 : Int32) (p0 : (m 0).toInt ≤ 7) (p1 : (m 2).toInt ≤ 6) : g_SM l yX0_about cX0_about 2 (some .int) ({ frames := 3, cells := 0, slots := 0, locals := 64 } : Room) (fun ad => [.ref (ad 0), .int x1]) m q ((fun r : Int32 => ((.inl (some (.int r)), (m, q)) : g_Res)) (R_X0_about m x1)) :=
  g_sm_of (by decide) (fun _ => Nat.le_of_ble_eq_true rfl) hs (fun X hl hn O => walk_X0_about O (by rw [hl]; exact hs) hn p0 p1)
