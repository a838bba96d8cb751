/-! ===== the model: silence, undo ===== -/
def R_X8_setSilence_20 (s : Nat → Int32) : (Int32 × (Nat → Int32)) := ((R_X8_fails s 1).1, (R_X8_fails s 1).2)
def R_X8_setSilence (s : Nat → Int32) (x1 : Int32) (x2 : Int32) : (Int32 × (Nat → Int32)) := (if (R_X8_in s x1 0 100000) = 0 then (R_X8_setSilence_20 s ) else (if (R_X8_in s x2 x1 100000) = 0 then (R_X8_setSilence_20 s ) else ((R_X8_ends (upd (upd (R_X8_hold s) (9) x1) (10) x2) ((upd (upd (R_X8_hold s) (9) x1) (10) x2) (210))).1, (R_X8_ends (upd (upd (R_X8_hold s) (9) x1) (10) x2) ((upd (upd (R_X8_hold s) (9) x1) (10) x2) (210))).2)))
set_option maxRecDepth 100000 in
set_option maxHeartbeats 4000000 in
theorem walk_X8_setSilence {X : g_X} (O : g_ok X cX8_setSilence RX8 (some .int) ({ frames := 2, cells := 0, slots := 0, locals := 43 } : Room)) (hs : (g_xl X).stackTraces = false) (hn : g_xn X = 3) {m : Nat → Int32} {lm : Nat → Int64} {pm : Nat → Nat} {s : Nat → Int32} {x1 : Int32} {x2 : Int32} (p0 : g_J s) (p1 : 0 ≤ (s 1300).toInt) (p2 : (s 1300).toInt ≤ 4) : g_V X (fun r : Int32 × (Nat → Int32) => ((.inl (some (.int r.1)), (m, r.2, lm, pm)) : g_Res)) (R_X8_setSilence s x1 x2) 0 0 m (s, lm, pm) 0 [(0, .ref (g_ad X 124)), (1, .int x1), (2, .int x2)] [] := by
  have hN : ∀ i, Nat.blt i 3 = true → i < g_xn X := fun i h => by rw [hn]; exact g_blt.mp h
  obtain ⟨n0, n1, n2, n4, n6, n12, n3⟩ := p0.n
  refine r_iload_n O 1 dX8_setSilence_0 rfl rfl ?_
  refine r_iconst (x := 0) O dX8_setSilence_1 rfl ?_
  refine r_ldc O dX8_setSilence_2 w_con_X8_80 ?_
  refine r_callSi O [.int x1, .int 0, .int 100000] [] (met_X8_in (g_xl X) hs lm pm m s x1 0 100000 ) LX8_54 rfl rfl rfl dX8_setSilence_4 rfl rfl ?_
  have J_20 : g_V X (fun r : Int32 × (Nat → Int32) => ((.inl (some (.int r.1)), (m, r.2, lm, pm)) : g_Res)) (R_X8_setSilence_20 s ) 0 0 m (s, lm, pm) 20 [(0, .ref (g_ad X 124))] [] := by
    refine r_aload_n O 0 dX8_setSilence_20 rfl rfl ?_
    refine r_iconst (x := 1) O dX8_setSilence_21 rfl ?_
    refine r_callVi O [.int 1] [] (met_X8_fails (g_xl X) hs lm pm m s 1 ) LX8_58 obj_124 rfl rfl rfl dX8_setSilence_22 rfl rfl ?_
    exact r_iret O dX8_setSilence_25 rfl (Nat.le_of_ble_eq_true rfl) (Nat.le_of_ble_eq_true rfl) rfl
  refine r_if_eq O 20 dX8_setSilence_7 (by decide) (fun c_7 => ?_) (fun c_7 => ?_)
  · have e_7 : (R_X8_in s x1 0 100000).toInt = (0 : Int) := j_eqR c_7 rfl
    refine r_sub [0] rfl ?_
    exact J_20
  · have e_7 : (R_X8_in s x1 0 100000).toInt ≠ (0 : Int) := j_neR c_7 rfl
    have z_7a : (0 : Int) ≤ (x1).toInt := (nz_X8_in c_7).1
    have z_7b : (x1).toInt ≤ (100000 : Int) := (nz_X8_in c_7).2
    refine r_iload_n O 2 dX8_setSilence_10 rfl rfl ?_
    refine r_iload_n O 1 dX8_setSilence_11 rfl rfl ?_
    refine r_ldc O dX8_setSilence_12 w_con_X8_80 ?_
    refine r_callSi O [.int x2, .int x1, .int 100000] [] (met_X8_in (g_xl X) hs lm pm m s x2 x1 100000 ) LX8_54 rfl rfl rfl dX8_setSilence_14 rfl rfl ?_
    refine r_if_ne O 26 dX8_setSilence_17 (by decide) (fun c_17 => ?_) (fun c_17 => ?_)
    · have e_17 : (R_X8_in s x2 x1 100000).toInt = (0 : Int) := j_eqR c_17 rfl
      refine r_sub [0] rfl ?_
      exact J_20
    · have e_17 : (R_X8_in s x2 x1 100000).toInt ≠ (0 : Int) := j_neR c_17 rfl
      have z_17a : (x1).toInt ≤ (x2).toInt := (nz_X8_in c_17).1
      have z_17b : (x2).toInt ≤ (100000 : Int) := (nz_X8_in c_17).2
      refine r_aload_n O 0 dX8_setSilence_26 rfl rfl ?_
      refine r_callVv O [] [] (met_X8_hold (g_xl X) hs lm pm m s ) LX8_61 obj_124 rfl rfl rfl dX8_setSilence_27 rfl rfl ?_
      have hJ_27 : g_J (R_X8_hold s) := J_hold p0
      refine r_aload_n O 0 dX8_setSilence_30 rfl rfl ?_
      refine r_get O FX8_7 G_124_0 dX8_setSilence_31 ?_
      refine r_bipush (x := 9) O dX8_setSilence_34 rfl ?_
      refine r_iload_n O 1 dX8_setSilence_36 rfl rfl ?_
      refine r_iastM O T_125 (g_vin (by decide) (by decide)) dX8_setSilence_37 ?_
      refine r_aload_n O 0 dX8_setSilence_38 rfl rfl ?_
      refine r_get O FX8_7 G_124_0 dX8_setSilence_39 ?_
      refine r_bipush (x := 10) O dX8_setSilence_42 rfl ?_
      refine r_iload_n O 2 dX8_setSilence_44 rfl rfl ?_
      refine r_iastM O T_125 (g_vin (by decide) (by decide)) dX8_setSilence_45 ?_
      refine r_aload_n O 0 dX8_setSilence_46 rfl rfl ?_
      refine r_aload_n O 0 dX8_setSilence_47 rfl rfl ?_
      refine r_get O FX8_16 G_124_2 dX8_setSilence_48 ?_
      refine r_bipush (x := 10) O dX8_setSilence_51 rfl ?_
      refine r_iald O R_127 (g_vin (by decide) (by decide)) dX8_setSilence_53 ?_
      refine r_callVi O [.int ((upd (upd (R_X8_hold s) (9) x1) (10) x2) (210))] [] (met_X8_ends (g_xl X) hs lm pm m (upd (upd (R_X8_hold s) (9) x1) (10) x2) ((upd (upd (R_X8_hold s) (9) x1) (10) x2) (210)) (by first | decide | with_reducible assumption | with_reducible omega | (simp (disch := omega) only [g_upd_ne, g_upd_eq, fr_X8_walks, fr_X8_sets, hold_ne, fr_leaves_hi, fr_gives_hi]; first | with_reducible assumption | with_reducible omega | decide) | exact Or.inl rfl | exact Or.inr rfl) (by first | decide | with_reducible assumption | with_reducible omega | (simp (disch := omega) only [g_upd_ne, g_upd_eq, fr_X8_walks, fr_X8_sets, hold_ne, fr_leaves_hi, fr_gives_hi]; first | with_reducible assumption | with_reducible omega | decide) | exact Or.inl rfl | exact Or.inr rfl)) LX8_64 obj_124 rfl rfl rfl dX8_setSilence_54 rfl rfl ?_
      exact r_iret O dX8_setSilence_57 rfl (Nat.le_of_ble_eq_true rfl) (Nat.le_of_ble_eq_true rfl) rfl
theorem met_X8_setSilence (l : Launch) (hs : l.stackTraces = false) (lm : Nat → Int64) (pm : Nat → Nat) (m : Nat → Int32) (s : Nat → Int32) (x1 : Int32) (x2 : Int32) (p0 : g_J s) (p1 : 0 ≤ (s 1300).toInt) (p2 : (s 1300).toInt ≤ 4) : g_SM l yX8_setSilence cX8_setSilence 3 (some .int) ({ frames := 2, cells := 0, slots := 0, locals := 43 } : Room) (fun ad => [.ref (ad 124), .int x1, .int x2]) m (s, lm, pm) ((fun r : Int32 × (Nat → Int32) => ((.inl (some (.int r.1)), (m, r.2, lm, pm)) : g_Res)) (R_X8_setSilence s x1 x2)) :=
  g_sm_of (by decide) (fun _ => Nat.le_of_ble_eq_true rfl) hs (fun X hl hn O => walk_X8_setSilence O (by rw [hl]; exact hs) hn p0 p1 p2)
def R_X8_undo_25 (s : Nat → Int32) : Nat → Nat → (Nat → Int32) → (Int32 × (Nat → Int32))
  | 0, _, _ => (0, s)
  | f + 1, k, s_25 => (if 178 ≤ (nI k) then ((R_X8_tells s_25 (s_25 1300)).1, (R_X8_tells s_25 (s_25 1300)).2) else ((R_X8_undo_25 s f) (k + 1) (upd s_25 ((nI k).toNatClampNeg) (s_25 (400 + ((178 * (s_25 1300)) + (nI k)).toNatClampNeg)))))
def R_X8_undo (s : Nat → Int32) : (Int32 × (Nat → Int32)) := (if (s 1300) = 0 then ((R_X8_fails s 1).1, (R_X8_fails s 1).2) else (R_X8_undo_25 s 179 0 (upd s 1300 ((s 1300) - 1))))
set_option maxRecDepth 100000 in
set_option maxHeartbeats 4000000 in
theorem walk_X8_undo {X : g_X} (O : g_ok X cX8_undo RX8 (some .int) ({ frames := 1, cells := 0, slots := 0, locals := 21 } : Room)) (hs : (g_xl X).stackTraces = false) (hn : g_xn X = 2) {m : Nat → Int32} {lm : Nat → Int64} {pm : Nat → Nat} {s : Nat → Int32} (p0 : 0 ≤ (s 1300).toInt) (p1 : (s 1300).toInt ≤ 4) : g_V X (fun r : Int32 × (Nat → Int32) => ((.inl (some (.int r.1)), (m, r.2, lm, pm)) : g_Res)) (R_X8_undo s) 0 0 m (s, lm, pm) 0 [(0, .ref (g_ad X 124))] [] := by
  have hN : ∀ i, Nat.blt i 2 = true → i < g_xn X := fun i h => by rw [hn]; exact g_blt.mp h
  have hq := j_sub1 (x := s 1300) (by omega)
  refine r_aload_n O 0 dX8_undo_0 rfl rfl ?_
  refine r_get O FX8_30 G_124_3 dX8_undo_1 ?_
  refine r_if_ne O 13 dX8_undo_4 (by decide) (fun c_4 => ?_) (fun c_4 => ?_)
  · have e_4 : (s 1300).toInt = (0 : Int) := j_eqR c_4 rfl
    refine r_aload_n O 0 dX8_undo_7 rfl rfl ?_
    refine r_iconst (x := 1) O dX8_undo_8 rfl ?_
    refine r_callVi O [.int 1] [] (met_X8_fails (g_xl X) hs lm pm m s 1 ) LX8_58 obj_124 rfl rfl rfl dX8_undo_9 rfl rfl ?_
    exact r_iret O dX8_undo_12 rfl (Nat.le_of_ble_eq_true rfl) (Nat.le_of_ble_eq_true rfl) rfl
  · have e_4 : (s 1300).toInt ≠ (0 : Int) := j_neR c_4 rfl
    refine r_aload_n O 0 dX8_undo_13 rfl rfl ?_
    refine r_dup O dX8_undo_14 rfl ?_
    refine r_get O FX8_30 G_124_3 dX8_undo_15 ?_
    refine r_iconst (x := 1) O dX8_undo_18 rfl ?_
    refine r_isub O dX8_undo_19 ?_
    refine r_put O (FPX8_30 ((s 1300) - 1)) (S_124_3 ((s 1300) - 1)) dX8_undo_20 ?_
    refine r_iconst (x := 0) O dX8_undo_23 rfl ?_
    refine r_istore_n (lc' := [(1, .int 0), (0, .ref (g_ad X 124))]) O dX8_undo_24 rfl (hN 1 rfl) rfl ?_
    have L_25 : ∀ (f_25 : Nat) (k : Nat) (s_25 : Nat → Int32) (hi_25 : k ≤ 178 ∧ 178 < f_25 + k ∧ 0 ≤ (s_25 1300).toInt ∧ (s_25 1300).toInt ≤ 3), g_V X (fun r : Int32 × (Nat → Int32) => ((.inl (some (.int r.1)), (m, r.2, lm, pm)) : g_Res)) (R_X8_undo_25 s f_25 k s_25) 0 0 m (s_25, lm, pm) 25 [(0, .ref (g_ad X 124)), (1, .int (nI k))] [] := by
      intro f_25
      induction f_25 with
      | zero => intro k s_25 hi_25; exact absurd hi_25 (by omega)
      | succ f_25 ih_25 =>
        intro k s_25 hi_25
        have hc_k : (nI k).toInt = (k : Int) := nI_toInt (by omega)
        obtain ⟨hi1, hi2, hT1, hT2⟩ := hi_25
        refine r_iload_n O 1 dX8_undo_25 rfl rfl ?_
        refine r_sipush (x := 178) O dX8_undo_26 rfl ?_
        refine r_icmp_ge O 59 dX8_undo_29 (by decide) (fun c_29 => ?_) (fun c_29 => ?_)
        · have e_29 : (178 : Int) ≤ (nI k).toInt := j_leL c_29 rfl
          refine r_aload_n O 0 dX8_undo_59 rfl rfl ?_
          refine r_aload_n O 0 dX8_undo_60 rfl rfl ?_
          refine r_get O FX8_30 G_124_3 dX8_undo_61 ?_
          refine r_callVi O [.int (s_25 1300)] [] (met_X8_tells (g_xl X) hs lm pm m s_25 (s_25 1300) ) LX8_33 obj_124 rfl rfl rfl dX8_undo_64 rfl rfl ?_
          exact r_iret O dX8_undo_67 rfl (Nat.le_of_ble_eq_true rfl) (Nat.le_of_ble_eq_true rfl) rfl
        · have e_29 : (nI k).toInt < (178 : Int) := j_nleL c_29 rfl
          refine r_aload_n O 0 dX8_undo_32 rfl rfl ?_
          refine r_get O FX8_7 G_124_0 dX8_undo_33 ?_
          refine r_iload_n O 1 dX8_undo_36 rfl rfl ?_
          refine r_aload_n O 0 dX8_undo_37 rfl rfl ?_
          refine r_get O FX8_13 G_124_1 dX8_undo_38 ?_
          refine r_sipush (x := 178) O dX8_undo_41 rfl ?_
          refine r_aload_n O 0 dX8_undo_44 rfl rfl ?_
          refine r_get O FX8_30 G_124_3 dX8_undo_45 ?_
          refine r_imul O dX8_undo_48 ?_
          refine r_iload_n O 1 dX8_undo_49 rfl rfl ?_
          refine r_iadd O dX8_undo_50 ?_
          have ix_51 : ((178 * (s_25 1300)) + (nI k)).toInt = (((178 : Int) * (s_25 1300).toInt) + (nI k).toInt) := (j_addE (j_mulE rfl rfl (by with_reducible omega) (by with_reducible omega)) rfl (by with_reducible omega) (by with_reducible omega))
          have iy_51 := j_nat (x := ((178 * (s_25 1300)) + (nI k))) (by with_reducible omega)
          refine r_iald O R_126 (show vp_in ((178 * (s_25 1300)) + (nI k)) 712 from g_vin (by with_reducible omega) (by with_reducible omega)) dX8_undo_51 ?_
          have iy_52 := nI_clamp (n := k) (by with_reducible omega)
          refine r_iastM O T_125 (show vp_in (nI k) 178 from g_vin (by with_reducible omega) (by with_reducible omega)) dX8_undo_52 ?_
          refine r_iinc (lc' := [(1, .int (nI (k + 1))), (0, .ref (g_ad X 124))]) O 1 dX8_undo_53 rfl (nI_1 k) (hN 1 rfl) rfl ?_
          refine r_goto O 25 dX8_undo_56 (by decide) ?_
          refine r_sub [1, 0] rfl ?_
          exact ih_25 (k + 1) (upd s_25 ((nI k).toNatClampNeg) (s_25 (400 + ((178 * (s_25 1300)) + (nI k)).toNatClampNeg))) ⟨(by first | decide | with_reducible assumption | with_reducible omega | (simp (disch := omega) only [g_upd_ne, g_upd_eq, fr_X8_walks, fr_X8_sets, hold_ne, fr_leaves_hi, fr_gives_hi]; first | with_reducible assumption | with_reducible omega | decide) | exact Or.inl rfl | exact Or.inr rfl), (by first | decide | with_reducible assumption | with_reducible omega | (simp (disch := omega) only [g_upd_ne, g_upd_eq, fr_X8_walks, fr_X8_sets, hold_ne, fr_leaves_hi, fr_gives_hi]; first | with_reducible assumption | with_reducible omega | decide) | exact Or.inl rfl | exact Or.inr rfl), (by first | decide | with_reducible assumption | with_reducible omega | (simp (disch := omega) only [g_upd_ne, g_upd_eq, fr_X8_walks, fr_X8_sets, hold_ne, fr_leaves_hi, fr_gives_hi]; first | with_reducible assumption | with_reducible omega | decide) | exact Or.inl rfl | exact Or.inr rfl), (by first | decide | with_reducible assumption | with_reducible omega | (simp (disch := omega) only [g_upd_ne, g_upd_eq, fr_X8_walks, fr_X8_sets, hold_ne, fr_leaves_hi, fr_gives_hi]; first | with_reducible assumption | with_reducible omega | decide) | exact Or.inl rfl | exact Or.inr rfl)⟩
    refine r_sub [1, 0] rfl ?_
    exact L_25 179 0 (upd s 1300 ((s 1300) - 1)) ⟨(by first | decide | with_reducible assumption | with_reducible omega | (simp (disch := omega) only [g_upd_ne, g_upd_eq, fr_X8_walks, fr_X8_sets, hold_ne, fr_leaves_hi, fr_gives_hi]; first | with_reducible assumption | with_reducible omega | decide) | exact Or.inl rfl | exact Or.inr rfl), (by first | decide | with_reducible assumption | with_reducible omega | (simp (disch := omega) only [g_upd_ne, g_upd_eq, fr_X8_walks, fr_X8_sets, hold_ne, fr_leaves_hi, fr_gives_hi]; first | with_reducible assumption | with_reducible omega | decide) | exact Or.inl rfl | exact Or.inr rfl), (by first | decide | with_reducible assumption | with_reducible omega | (simp (disch := omega) only [g_upd_ne, g_upd_eq, fr_X8_walks, fr_X8_sets, hold_ne, fr_leaves_hi, fr_gives_hi]; first | with_reducible assumption | with_reducible omega | decide) | exact Or.inl rfl | exact Or.inr rfl), (by first | decide | with_reducible assumption | with_reducible omega | (simp (disch := omega) only [g_upd_ne, g_upd_eq, fr_X8_walks, fr_X8_sets, hold_ne, fr_leaves_hi, fr_gives_hi]; first | with_reducible assumption | with_reducible omega | decide) | exact Or.inl rfl | exact Or.inr rfl)⟩
theorem met_X8_undo (l : Launch) (hs : l.stackTraces = false) (lm : Nat → Int64) (pm : Nat → Nat) (m : Nat → Int32) (s : Nat → Int32) (p0 : 0 ≤ (s 1300).toInt) (p1 : (s 1300).toInt ≤ 4) : g_SM l yX8_undo cX8_undo 2 (some .int) ({ frames := 1, cells := 0, slots := 0, locals := 21 } : Room) (fun ad => [.ref (ad 124)]) m (s, lm, pm) ((fun r : Int32 × (Nat → Int32) => ((.inl (some (.int r.1)), (m, r.2, lm, pm)) : g_Res)) (R_X8_undo s)) :=
  g_sm_of (by decide) (fun _ => Nat.le_of_ble_eq_true rfl) hs (fun X hl hn O => walk_X8_undo O (by rw [hl]; exact hs) hn p0 p1)
