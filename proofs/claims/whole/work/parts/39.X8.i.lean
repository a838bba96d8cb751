/-! ===== the model: reading numbers, teams ===== -/
def R_X8_readsMinutes_115 (s : Nat → Int32) (s_17 : Nat → Int32) (t0_101 : Int32) (t0_115 : Int32) : (Int32 × (Nat → Int32)) := (if t0_101 = 0 then (0, (upd s_17 1304 t0_115)) else (if ((upd s_17 1304 t0_115) 1304) ≤ (s 1304) then (0, (upd s_17 1304 t0_115)) else (1, (upd s_17 1304 t0_115))))
def R_X8_readsMinutes_101 (s : Nat → Int32) (s_17 : Nat → Int32) (t0_101 : Int32) : (Int32 × (Nat → Int32)) := (if t0_101 = 0 then (R_X8_readsMinutes_115 s s_17 t0_101 (s 1304)) else (R_X8_readsMinutes_115 s s_17 t0_101 (s_17 1304)))
def R_X8_readsMinutes_96 (s : Nat → Int32) (s_17 : Nat → Int32) : (Int32 × (Nat → Int32)) := (R_X8_readsMinutes_101 s s_17 1)
def R_X8_readsMinutes_55 (s : Nat → Int32) (s_17 : Nat → Int32) : (Int32 × (Nat → Int32)) := (if ((s_17 1304) - (s 1304)) ≤ 3 then (if (s_17 1304) = (s 1304) then (R_X8_readsMinutes_96 s s_17 ) else (if (R_X8_in s_17 (s_17 1306) 1 600) = 0 then (R_X8_readsMinutes_101 s s_17 0) else (R_X8_readsMinutes_96 s s_17 ))) else (0, (upd s_17 1304 ((s 1304) + 3))))
def R_X8_readsMinutes_17 (s : Nat → Int32) : Nat → Int32 → (Nat → Int32) → (Int32 × (Nat → Int32))
  | 0, _, _ => (0, s)
  | f + 1, v2_17, s_17 => (if v2_17 = (-1) then (R_X8_readsMinutes_55 s s_17 ) else (if 3 < ((s_17 1304) - (s 1304)) then (R_X8_readsMinutes_55 s s_17 ) else ((R_X8_readsMinutes_17 s f) ((R_X8_digit (upd s_17 1306 ((10 * (s_17 1306)) + v2_17)) 9).1) ((R_X8_digit (upd s_17 1306 ((10 * (s_17 1306)) + v2_17)) 9).2))))
def R_X8_readsMinutes (s : Nat → Int32) : (Int32 × (Nat → Int32)) := (R_X8_readsMinutes_17 s 7 ((R_X8_digit (upd s 1306 0) 9).1) ((R_X8_digit (upd s 1306 0) 9).2))
set_option maxRecDepth 100000 in
set_option maxHeartbeats 4000000 in
theorem walk_X8_readsMinutes {X : g_X} (O : g_ok X cX8_readsMinutes RX8 (some .boolean) ({ frames := 2, cells := 0, slots := 0, locals := 45 } : Room)) (hs : (g_xl X).stackTraces = false) (hn : g_xn X = 4) {m : Nat → Int32} {lm : Nat → Int64} {pm : Nat → Nat} {s : Nat → Int32} (p0 : 0 ≤ (s 1304).toInt) (p1 : (s 1304).toInt ≤ (s 1301).toInt) (p2 : (s 1301).toInt ≤ 90) : g_V X (fun r : Int32 × (Nat → Int32) => ((.inl (some (.int r.1)), (m, r.2, lm, pm)) : g_Res)) (R_X8_readsMinutes s) 0 0 m (s, lm, pm) 0 [(0, .ref (g_ad X 124))] [] := by
  have hN : ∀ i, Nat.blt i 4 = true → i < g_xn X := fun i h => by rw [hn]; exact g_blt.mp h
  refine r_aload_n O 0 dX8_readsMinutes_0 rfl rfl ?_
  refine r_get O FX8_186 G_124_8 dX8_readsMinutes_1 ?_
  refine r_istore_n (lc' := [(1, .int (s 1304)), (0, .ref (g_ad X 124))]) O dX8_readsMinutes_4 rfl (hN 1 rfl) rfl ?_
  refine r_aload_n O 1 dX8_readsMinutes_5 rfl rfl ?_
  refine r_iconst (x := 0) O dX8_readsMinutes_6 rfl ?_
  refine r_put O (FPX8_189 0) (S_124_10 0) dX8_readsMinutes_7 ?_
  refine r_aload_n O 1 dX8_readsMinutes_10 rfl rfl ?_
  refine r_bipush (x := 9) O dX8_readsMinutes_11 rfl ?_
  refine r_callVi O [.int 9] [] (met_X8_digit (g_xl X) hs lm pm m (upd s 1306 0) 9 (by first | decide | with_reducible assumption | with_reducible omega | (simp (disch := omega) only [g_upd_ne, g_upd_eq, fr_X8_walks, fr_X8_sets]; first | with_reducible assumption | with_reducible omega | decide) | exact Or.inl rfl | exact Or.inr rfl) (by first | decide | with_reducible assumption | with_reducible omega | (simp (disch := omega) only [g_upd_ne, g_upd_eq, fr_X8_walks, fr_X8_sets]; first | with_reducible assumption | with_reducible omega | decide) | exact Or.inl rfl | exact Or.inr rfl) (by first | decide | with_reducible assumption | with_reducible omega | (simp (disch := omega) only [g_upd_ne, g_upd_eq, fr_X8_walks, fr_X8_sets]; first | with_reducible assumption | with_reducible omega | decide) | exact Or.inl rfl | exact Or.inr rfl)) LX8_192 obj_124 rfl rfl rfl dX8_readsMinutes_13 rfl rfl ?_
  have fd_13 := F_digit (s := (upd s 1306 0)) (x := 9) (by first | decide | with_reducible assumption | with_reducible omega | (simp (disch := omega) only [g_upd_ne, g_upd_eq, fr_X8_walks, fr_X8_sets]; first | with_reducible assumption | with_reducible omega | decide) | exact Or.inl rfl | exact Or.inr rfl) (by first | decide | with_reducible assumption | with_reducible omega | (simp (disch := omega) only [g_upd_ne, g_upd_eq, fr_X8_walks, fr_X8_sets]; first | with_reducible assumption | with_reducible omega | decide) | exact Or.inl rfl | exact Or.inr rfl) (by first | decide | with_reducible assumption | with_reducible omega | (simp (disch := omega) only [g_upd_ne, g_upd_eq, fr_X8_walks, fr_X8_sets]; first | with_reducible assumption | with_reducible omega | decide) | exact Or.inl rfl | exact Or.inr rfl)
  try simp (disch := omega) only [g_upd_ne, g_upd_eq] at fd_13
  refine r_istore_n (lc' := [(2, .int ((R_X8_digit (upd s 1306 0) 9).1)), (1, .int (s 1304)), (0, .ref (g_ad X 124))]) O dX8_readsMinutes_16 rfl (hN 2 rfl) rfl ?_
  have L_17 : ∀ (f_17 : Nat) (v2_17 : Int32) (s_17 : Nat → Int32) (hi_17 : 0 < f_17 ∧ 0 ≤ (s_17 1304).toInt ∧ (s_17 1304).toInt ≤ (s_17 1301).toInt ∧ (s_17 1301).toInt ≤ 90 ∧ (v2_17.toInt = -1 ∨ 5 < f_17 + (s_17 1304).toInt - (s 1304).toInt) ∧ (s 1304).toInt ≤ (s_17 1304).toInt), g_V X (fun r : Int32 × (Nat → Int32) => ((.inl (some (.int r.1)), (m, r.2, lm, pm)) : g_Res)) (R_X8_readsMinutes_17 s f_17 v2_17 s_17) 0 0 m (s_17, lm, pm) 17 [(0, .ref (g_ad X 124)), (1, .int (s 1304)), (2, .int v2_17)] [] := by
    intro f_17
    induction f_17 with
    | zero => intro v2_17 s_17 hi_17; exact absurd hi_17 (by omega)
    | succ f_17 ih_17 =>
      intro v2_17 s_17 hi_17
      obtain ⟨q1, q2, q3, q4, q5, q6⟩ := hi_17
      have hsub := j_sub (x := s_17 1304) (y := s 1304) (by omega) (by omega)
      refine r_iload_n O 2 dX8_readsMinutes_17 rfl rfl ?_
      refine r_iconst (x := (-1)) O dX8_readsMinutes_18 rfl ?_
      have J_55 : g_V X (fun r : Int32 × (Nat → Int32) => ((.inl (some (.int r.1)), (m, r.2, lm, pm)) : g_Res)) (R_X8_readsMinutes_55 s s_17 ) 0 0 m (s_17, lm, pm) 55 [(0, .ref (g_ad X 124)), (1, .int (s 1304))] [] := by
        refine r_aload_n O 0 dX8_readsMinutes_55 rfl rfl ?_
        refine r_get O FX8_186 G_124_8 dX8_readsMinutes_56 ?_
        refine r_iload_n O 1 dX8_readsMinutes_59 rfl rfl ?_
        refine r_isub O dX8_readsMinutes_60 ?_
        refine r_iconst (x := 3) O dX8_readsMinutes_61 rfl ?_
        refine r_icmp_le O 74 dX8_readsMinutes_62 (by decide) (fun c_62 => ?_) (fun c_62 => ?_)
        · have e_62 : ((s_17 1304) - (s 1304)).toInt ≤ (3 : Int) := j_leR c_62 rfl
          refine r_aload_n O 0 dX8_readsMinutes_74 rfl rfl ?_
          refine r_get O FX8_186 G_124_8 dX8_readsMinutes_75 ?_
          refine r_iload_n O 1 dX8_readsMinutes_78 rfl rfl ?_
          have J_101 : ∀ (t0_101 : Int32), g_V X (fun r : Int32 × (Nat → Int32) => ((.inl (some (.int r.1)), (m, r.2, lm, pm)) : g_Res)) (R_X8_readsMinutes_101 s s_17 t0_101) 0 0 m (s_17, lm, pm) 101 [(0, .ref (g_ad X 124)), (1, .int (s 1304))] [.int t0_101] := by
            intro t0_101
            refine r_istore_n (lc' := [(3, .int t0_101), (0, .ref (g_ad X 124)), (1, .int (s 1304))]) O dX8_readsMinutes_101 rfl (hN 3 rfl) rfl ?_
            refine r_aload_n O 1 dX8_readsMinutes_102 rfl rfl ?_
            refine r_iload_n O 0 dX8_readsMinutes_103 rfl rfl ?_
            have J_115 : ∀ (t0_115 : Int32), g_V X (fun r : Int32 × (Nat → Int32) => ((.inl (some (.int r.1)), (m, r.2, lm, pm)) : g_Res)) (R_X8_readsMinutes_115 s s_17 t0_101 t0_115) 0 0 m (s_17, lm, pm) 115 [(0, .ref (g_ad X 124)), (1, .int (s 1304)), (3, .int t0_101)] [.int t0_115, .ref (g_ad X 124)] := by
              intro t0_115
              refine r_put O (FPX8_186 t0_115) (S_124_8 t0_115) dX8_readsMinutes_115 ?_
              refine r_iload_n O 2 dX8_readsMinutes_118 rfl rfl ?_
              refine r_if_eq O 134 dX8_readsMinutes_119 (by decide) (fun c_119 => ?_) (fun c_119 => ?_)
              · have e_119 : (t0_101).toInt = (0 : Int) := j_eqR c_119 rfl
                refine r_iconst (x := 0) O dX8_readsMinutes_134 rfl ?_
                exact r_iret O dX8_readsMinutes_135 rfl (Nat.le_of_ble_eq_true rfl) (Nat.le_of_ble_eq_true rfl) rfl
              · have e_119 : (t0_101).toInt ≠ (0 : Int) := j_neR c_119 rfl
                refine r_aload_n O 0 dX8_readsMinutes_122 rfl rfl ?_
                refine r_get O FX8_186 G_124_8 dX8_readsMinutes_123 ?_
                refine r_iload_n O 1 dX8_readsMinutes_126 rfl rfl ?_
                refine r_icmp_le O 134 dX8_readsMinutes_127 (by decide) (fun c_127 => ?_) (fun c_127 => ?_)
                · have e_127 : ((upd s_17 1304 t0_115) 1304).toInt ≤ (s 1304).toInt := j_le c_127
                  refine r_iconst (x := 0) O dX8_readsMinutes_134 rfl ?_
                  exact r_iret O dX8_readsMinutes_135 rfl (Nat.le_of_ble_eq_true rfl) (Nat.le_of_ble_eq_true rfl) rfl
                · have e_127 : (s 1304).toInt < ((upd s_17 1304 t0_115) 1304).toInt := j_nle c_127
                  refine r_iconst (x := 1) O dX8_readsMinutes_130 rfl ?_
                  refine r_goto O 135 dX8_readsMinutes_131 (by decide) ?_
                  exact r_iret O dX8_readsMinutes_135 rfl (Nat.le_of_ble_eq_true rfl) (Nat.le_of_ble_eq_true rfl) rfl
            refine r_if_eq O 114 dX8_readsMinutes_104 (by decide) (fun c_104 => ?_) (fun c_104 => ?_)
            · have e_104 : (t0_101).toInt = (0 : Int) := j_eqR c_104 rfl
              refine r_iload_n O 2 dX8_readsMinutes_114 rfl rfl ?_
              refine r_sub [1, 2, 0] rfl ?_
              exact J_115 (s 1304)
            · have e_104 : (t0_101).toInt ≠ (0 : Int) := j_neR c_104 rfl
              refine r_aload_n O 1 dX8_readsMinutes_107 rfl rfl ?_
              refine r_get O FX8_186 G_124_8 dX8_readsMinutes_108 ?_
              refine r_goto O 115 dX8_readsMinutes_111 (by decide) ?_
              refine r_sub [1, 2, 0] rfl ?_
              exact J_115 (s_17 1304)
          have J_96 : g_V X (fun r : Int32 × (Nat → Int32) => ((.inl (some (.int r.1)), (m, r.2, lm, pm)) : g_Res)) (R_X8_readsMinutes_96 s s_17 ) 0 0 m (s_17, lm, pm) 96 [(0, .ref (g_ad X 124)), (1, .int (s 1304))] [] := by
            refine r_iconst (x := 1) O dX8_readsMinutes_96 rfl ?_
            refine r_goto O 101 dX8_readsMinutes_97 (by decide) ?_
            exact J_101 1
          refine r_icmp_eq O 96 dX8_readsMinutes_79 (by decide) (fun c_79 => ?_) (fun c_79 => ?_)
          · have e_79 : (s_17 1304).toInt = (s 1304).toInt := j_eq c_79
            exact J_96
          · have e_79 : (s_17 1304).toInt ≠ (s 1304).toInt := j_ne c_79
            refine r_aload_n O 0 dX8_readsMinutes_82 rfl rfl ?_
            refine r_get O FX8_189 G_124_10 dX8_readsMinutes_83 ?_
            refine r_iconst (x := 1) O dX8_readsMinutes_86 rfl ?_
            refine r_sipush (x := 600) O dX8_readsMinutes_87 rfl ?_
            refine r_callSi O [.int (s_17 1306), .int 1, .int 600] [] (met_X8_in (g_xl X) hs lm pm m s_17 (s_17 1306) 1 600 ) LX8_54 rfl rfl rfl dX8_readsMinutes_90 rfl rfl ?_
            refine r_if_eq O 100 dX8_readsMinutes_93 (by decide) (fun c_93 => ?_) (fun c_93 => ?_)
            · have e_93 : (R_X8_in s_17 (s_17 1306) 1 600).toInt = (0 : Int) := j_eqR c_93 rfl
              refine r_iconst (x := 0) O dX8_readsMinutes_100 rfl ?_
              exact J_101 0
            · have e_93 : (R_X8_in s_17 (s_17 1306) 1 600).toInt ≠ (0 : Int) := j_neR c_93 rfl
              have z_93a : (1 : Int) ≤ (s_17 1306).toInt := (nz_X8_in c_93).1
              have z_93b : (s_17 1306).toInt ≤ (600 : Int) := (nz_X8_in c_93).2
              exact J_96
        · have e_62 : (3 : Int) < ((s_17 1304) - (s 1304)).toInt := j_nleR c_62 rfl
          refine r_aload_n O 0 dX8_readsMinutes_65 rfl rfl ?_
          refine r_iload_n O 1 dX8_readsMinutes_66 rfl rfl ?_
          refine r_iconst (x := 3) O dX8_readsMinutes_67 rfl ?_
          refine r_iadd O dX8_readsMinutes_68 ?_
          refine r_put O (FPX8_186 ((s 1304) + 3)) (S_124_8 ((s 1304) + 3)) dX8_readsMinutes_69 ?_
          refine r_iconst (x := 0) O dX8_readsMinutes_72 rfl ?_
          exact r_iret O dX8_readsMinutes_73 rfl (Nat.le_of_ble_eq_true rfl) (Nat.le_of_ble_eq_true rfl) rfl
      refine r_icmp_eq O 55 dX8_readsMinutes_19 (by decide) (fun c_19 => ?_) (fun c_19 => ?_)
      · have e_19 : (v2_17).toInt = (-1 : Int) := j_eqR c_19 rfl
        refine r_sub [0, 1] rfl ?_
        exact J_55
      · have e_19 : (v2_17).toInt ≠ (-1 : Int) := j_neR c_19 rfl
        refine r_aload_n O 0 dX8_readsMinutes_22 rfl rfl ?_
        refine r_get O FX8_186 G_124_8 dX8_readsMinutes_23 ?_
        refine r_iload_n O 1 dX8_readsMinutes_26 rfl rfl ?_
        refine r_isub O dX8_readsMinutes_27 ?_
        refine r_iconst (x := 3) O dX8_readsMinutes_28 rfl ?_
        refine r_icmp_gt O 55 dX8_readsMinutes_29 (by decide) (fun c_29 => ?_) (fun c_29 => ?_)
        · have e_29 : (3 : Int) < ((s_17 1304) - (s 1304)).toInt := j_ltL c_29 rfl
          refine r_sub [0, 1] rfl ?_
          exact J_55
        · have e_29 : ((s_17 1304) - (s 1304)).toInt ≤ (3 : Int) := j_nltL c_29 rfl
          refine r_aload_n O 0 dX8_readsMinutes_32 rfl rfl ?_
          refine r_bipush (x := 10) O dX8_readsMinutes_33 rfl ?_
          refine r_aload_n O 0 dX8_readsMinutes_35 rfl rfl ?_
          refine r_get O FX8_189 G_124_10 dX8_readsMinutes_36 ?_
          refine r_imul O dX8_readsMinutes_39 ?_
          refine r_iload_n O 2 dX8_readsMinutes_40 rfl rfl ?_
          refine r_iadd O dX8_readsMinutes_41 ?_
          refine r_put O (FPX8_189 ((10 * (s_17 1306)) + v2_17)) (S_124_10 ((10 * (s_17 1306)) + v2_17)) dX8_readsMinutes_42 ?_
          refine r_aload_n O 0 dX8_readsMinutes_45 rfl rfl ?_
          refine r_bipush (x := 9) O dX8_readsMinutes_46 rfl ?_
          refine r_callVi O [.int 9] [] (met_X8_digit (g_xl X) hs lm pm m (upd s_17 1306 ((10 * (s_17 1306)) + v2_17)) 9 (by first | decide | with_reducible assumption | with_reducible omega | (simp (disch := omega) only [g_upd_ne, g_upd_eq, fr_X8_walks, fr_X8_sets]; first | with_reducible assumption | with_reducible omega | decide) | exact Or.inl rfl | exact Or.inr rfl) (by first | decide | with_reducible assumption | with_reducible omega | (simp (disch := omega) only [g_upd_ne, g_upd_eq, fr_X8_walks, fr_X8_sets]; first | with_reducible assumption | with_reducible omega | decide) | exact Or.inl rfl | exact Or.inr rfl) (by first | decide | with_reducible assumption | with_reducible omega | (simp (disch := omega) only [g_upd_ne, g_upd_eq, fr_X8_walks, fr_X8_sets]; first | with_reducible assumption | with_reducible omega | decide) | exact Or.inl rfl | exact Or.inr rfl)) LX8_192 obj_124 rfl rfl rfl dX8_readsMinutes_48 rfl rfl ?_
          have fd_48 := F_digit (s := (upd s_17 1306 ((10 * (s_17 1306)) + v2_17))) (x := 9) (by first | decide | with_reducible assumption | with_reducible omega | (simp (disch := omega) only [g_upd_ne, g_upd_eq, fr_X8_walks, fr_X8_sets]; first | with_reducible assumption | with_reducible omega | decide) | exact Or.inl rfl | exact Or.inr rfl) (by first | decide | with_reducible assumption | with_reducible omega | (simp (disch := omega) only [g_upd_ne, g_upd_eq, fr_X8_walks, fr_X8_sets]; first | with_reducible assumption | with_reducible omega | decide) | exact Or.inl rfl | exact Or.inr rfl) (by first | decide | with_reducible assumption | with_reducible omega | (simp (disch := omega) only [g_upd_ne, g_upd_eq, fr_X8_walks, fr_X8_sets]; first | with_reducible assumption | with_reducible omega | decide) | exact Or.inl rfl | exact Or.inr rfl)
          try simp (disch := omega) only [g_upd_ne, g_upd_eq] at fd_48
          refine r_istore_n (lc' := [(2, .int ((R_X8_digit (upd s_17 1306 ((10 * (s_17 1306)) + v2_17)) 9).1)), (0, .ref (g_ad X 124)), (1, .int (s 1304))]) O dX8_readsMinutes_51 rfl (hN 2 rfl) rfl ?_
          refine r_goto O 17 dX8_readsMinutes_52 (by decide) ?_
          refine r_sub [1, 2, 0] rfl ?_
          exact ih_17 ((R_X8_digit (upd s_17 1306 ((10 * (s_17 1306)) + v2_17)) 9).1) ((R_X8_digit (upd s_17 1306 ((10 * (s_17 1306)) + v2_17)) 9).2) ⟨(by with_reducible omega), (by with_reducible omega), (by with_reducible omega), (by with_reducible omega), (by with_reducible omega), (by with_reducible omega)⟩
  refine r_sub [2, 1, 0] rfl ?_
  exact L_17 7 ((R_X8_digit (upd s 1306 0) 9).1) ((R_X8_digit (upd s 1306 0) 9).2) ⟨(by with_reducible omega), (by with_reducible omega), (by with_reducible omega), (by with_reducible omega), (by with_reducible omega), (by with_reducible omega)⟩
theorem met_X8_readsMinutes (l : Launch) (hs : l.stackTraces = false) (lm : Nat → Int64) (pm : Nat → Nat) (m : Nat → Int32) (s : Nat → Int32) (p0 : 0 ≤ (s 1304).toInt) (p1 : (s 1304).toInt ≤ (s 1301).toInt) (p2 : (s 1301).toInt ≤ 90) : g_SM l yX8_readsMinutes cX8_readsMinutes 4 (some .boolean) ({ frames := 2, cells := 0, slots := 0, locals := 45 } : Room) (fun ad => [.ref (ad 124)]) m (s, lm, pm) ((fun r : Int32 × (Nat → Int32) => ((.inl (some (.int r.1)), (m, r.2, lm, pm)) : g_Res)) (R_X8_readsMinutes s)) :=
  g_sm_of (by decide) (fun _ => Nat.le_of_ble_eq_true rfl) hs (fun X hl hn O => walk_X8_readsMinutes O (by rw [hl]; exact hs) hn p0 p1 p2)
/-- what reading a piece of an order does to the place -/
def g_rd (s : Nat → Int32) (r : Int32 × (Nat → Int32)) : Prop := (r.1 = 0 ∨ r.1 = 1) ∧ (r.2 1301).toInt = (s 1301).toInt ∧ (r.1 = 1 → (s 1304).toInt ≤ (r.2 1304).toInt ∧ (r.2 1304).toInt ≤ (s 1301).toInt)
theorem g_rd0 {s t : Nat → Int32} (h : (t 1301).toInt = (s 1301).toInt) : g_rd s (0, t) := ⟨Or.inl rfl, h, fun z => absurd (show (0 : Int32) = 1 from z) (by decide)⟩
theorem g_rd1 {s t : Nat → Int32} (h : (t 1301).toInt = (s 1301).toInt) (h1 : (s 1304).toInt ≤ (t 1304).toInt) (h2 : (t 1304).toInt ≤ (s 1301).toInt) : g_rd s (1, t) := ⟨Or.inr rfl, h, fun _ => ⟨h1, h2⟩⟩
theorem P_min55 {s t : Nat → Int32} (e : (t 1301).toInt = (s 1301).toInt) (h1 : (s 1304).toInt ≤ (t 1304).toInt) (h2 : (t 1304).toInt ≤ (s 1301).toInt) : g_rd s (R_X8_readsMinutes_55 s t) := by
  have k0 : ∀ x : Int32, ((upd t 1304 x) 1301).toInt = (s 1301).toInt := fun x => by rw [g_upd_ne (by omega)]; exact e
  unfold R_X8_readsMinutes_55 R_X8_readsMinutes_96 R_X8_readsMinutes_101 R_X8_readsMinutes_115
  rw [if_neg (by decide : ¬ (1 : Int32) = 0), if_neg (by decide : ¬ (1 : Int32) = 0), if_pos rfl, if_pos rfl]
  have k1 : g_rd s (if upd t 1304 (t 1304) 1304 ≤ s 1304 then (0, upd t 1304 (t 1304)) else (1, upd t 1304 (t 1304))) := by
    split
    · exact g_rd0 (k0 _)
    · exact g_rd1 (k0 _) (by rw [g_upd_eq]; exact h1) (by rw [g_upd_eq]; exact h2)
  split
  · split
    · exact k1
    · split
      · exact g_rd0 (k0 _)
      · exact k1
  · exact g_rd0 (k0 _)
theorem P_min17 {s : Nat → Int32} : ∀ (f : Nat) (v : Int32) (t : Nat → Int32), 0 ≤ (t 1304).toInt → (t 1304).toInt ≤ (t 1301).toInt → (t 1301).toInt ≤ 90 → (t 1301).toInt = (s 1301).toInt → (s 1304).toInt ≤ (t 1304).toInt → g_rd s (R_X8_readsMinutes_17 s f v t)
  | 0, _, _, _, _, _, _, _ => g_rd0 rfl
  | f + 1, v, t, h0, h1, h2, e, h3 => by
    unfold R_X8_readsMinutes_17
    split
    · exact P_min55 e h3 (by omega)
    · split
      · exact P_min55 e h3 (by omega)
      · have fd := F_digit (s := upd t 1306 (10 * t 1306 + v)) (x := 9) (by rw [g_upd_ne (by omega)]; exact h0) (by rw [g_upd_ne (by omega), g_upd_ne (by omega)]; exact h1) (by rw [g_upd_ne (by omega)]; exact h2)
        simp (disch := omega) only [g_upd_ne] at fd
        exact P_min17 f _ _ (by omega) (by omega) (by omega) (by omega) (by omega)
theorem P_minutes {s : Nat → Int32} (h0 : 0 ≤ (s 1304).toInt) (h1 : (s 1304).toInt ≤ (s 1301).toInt) (h2 : (s 1301).toInt ≤ 90) : g_rd s (R_X8_readsMinutes s) := by
  unfold R_X8_readsMinutes
  have fd := F_digit (s := upd s 1306 0) (x := 9) (by rw [g_upd_ne (by omega)]; exact h0) (by rw [g_upd_ne (by omega), g_upd_ne (by omega)]; exact h1) (by rw [g_upd_ne (by omega)]; exact h2)
  simp (disch := omega) only [g_upd_ne] at fd
  exact P_min17 _ _ _ (by omega) (by omega) (by omega) (by omega) (by omega)
def R_X8_readsTeam_56 (v2_13 : Int32) (s_13 : Nat → Int32) (t0_56 : Int32) : (Int32 × (Nat → Int32)) := (if v2_13 = (-1) then (if (R_X8_ones (upd s_13 1304 ((s_13 1304) - t0_56)) ((upd s_13 1304 ((s_13 1304) - t0_56)) 1306)) ≤ 2 then (0, (upd s_13 1304 ((s_13 1304) - t0_56))) else (1, (upd s_13 1304 ((s_13 1304) - t0_56)))) else (0, (upd s_13 1304 ((s_13 1304) - t0_56))))
def R_X8_readsTeam_13 (s : Nat → Int32) : Nat → Int32 → Int32 → (Nat → Int32) → (Int32 × (Nat → Int32))
  | 0, _, _, _ => (0, s)
  | f + 1, v1_13, v2_13, s_13 => (if v2_13 ≤ v1_13 then (if v2_13 = (-1) then (R_X8_readsTeam_56 v2_13 s_13 0) else (R_X8_readsTeam_56 v2_13 s_13 1)) else ((R_X8_readsTeam_13 s f) v2_13 ((R_X8_digit (upd s_13 1306 ((s_13 1306) ||| (1 <<< (v2_13 &&& 31)))) 5).1) ((R_X8_digit (upd s_13 1306 ((s_13 1306) ||| (1 <<< (v2_13 &&& 31)))) 5).2)))
def R_X8_readsTeam (s : Nat → Int32) : (Int32 × (Nat → Int32)) := (R_X8_readsTeam_13 s 8 (-1) ((R_X8_digit (upd s 1306 0) 5).1) ((R_X8_digit (upd s 1306 0) 5).2))
set_option maxRecDepth 100000 in
set_option maxHeartbeats 4000000 in
theorem walk_X8_readsTeam {X : g_X} (O : g_ok X cX8_readsTeam RX8 (some .boolean) ({ frames := 2, cells := 0, slots := 0, locals := 45 } : Room)) (hs : (g_xl X).stackTraces = false) (hn : g_xn X = 3) {m : Nat → Int32} {lm : Nat → Int64} {pm : Nat → Nat} {s : Nat → Int32} (p0 : 0 ≤ (s 1304).toInt) (p1 : (s 1304).toInt ≤ (s 1301).toInt) (p2 : (s 1301).toInt ≤ 90) : g_V X (fun r : Int32 × (Nat → Int32) => ((.inl (some (.int r.1)), (m, r.2, lm, pm)) : g_Res)) (R_X8_readsTeam s) 0 0 m (s, lm, pm) 0 [(0, .ref (g_ad X 124))] [] := by
  have hN : ∀ i, Nat.blt i 3 = true → i < g_xn X := fun i h => by rw [hn]; exact g_blt.mp h
  have e5 : (5 : Int32).toInt = 5 := rfl
  refine r_aload_n O 0 dX8_readsTeam_0 rfl rfl ?_
  refine r_iconst (x := 0) O dX8_readsTeam_1 rfl ?_
  refine r_put O (FPX8_189 0) (S_124_10 0) dX8_readsTeam_2 ?_
  refine r_iconst (x := (-1)) O dX8_readsTeam_5 rfl ?_
  refine r_istore_n (lc' := [(1, .int (-1)), (0, .ref (g_ad X 124))]) O dX8_readsTeam_6 rfl (hN 1 rfl) rfl ?_
  refine r_aload_n O 1 dX8_readsTeam_7 rfl rfl ?_
  refine r_iconst (x := 5) O dX8_readsTeam_8 rfl ?_
  refine r_callVi O [.int 5] [] (met_X8_digit (g_xl X) hs lm pm m (upd s 1306 0) 5 (by first | decide | with_reducible assumption | with_reducible omega | (simp (disch := omega) only [g_upd_ne, g_upd_eq, fr_X8_walks, fr_X8_sets]; first | with_reducible assumption | with_reducible omega | decide) | exact Or.inl rfl | exact Or.inr rfl) (by first | decide | with_reducible assumption | with_reducible omega | (simp (disch := omega) only [g_upd_ne, g_upd_eq, fr_X8_walks, fr_X8_sets]; first | with_reducible assumption | with_reducible omega | decide) | exact Or.inl rfl | exact Or.inr rfl) (by first | decide | with_reducible assumption | with_reducible omega | (simp (disch := omega) only [g_upd_ne, g_upd_eq, fr_X8_walks, fr_X8_sets]; first | with_reducible assumption | with_reducible omega | decide) | exact Or.inl rfl | exact Or.inr rfl)) LX8_192 obj_124 rfl rfl rfl dX8_readsTeam_9 rfl rfl ?_
  have fd_9 := F_digit (s := (upd s 1306 0)) (x := 5) (by first | decide | with_reducible assumption | with_reducible omega | (simp (disch := omega) only [g_upd_ne, g_upd_eq, fr_X8_walks, fr_X8_sets]; first | with_reducible assumption | with_reducible omega | decide) | exact Or.inl rfl | exact Or.inr rfl) (by first | decide | with_reducible assumption | with_reducible omega | (simp (disch := omega) only [g_upd_ne, g_upd_eq, fr_X8_walks, fr_X8_sets]; first | with_reducible assumption | with_reducible omega | decide) | exact Or.inl rfl | exact Or.inr rfl) (by first | decide | with_reducible assumption | with_reducible omega | (simp (disch := omega) only [g_upd_ne, g_upd_eq, fr_X8_walks, fr_X8_sets]; first | with_reducible assumption | with_reducible omega | decide) | exact Or.inl rfl | exact Or.inr rfl)
  try simp (disch := omega) only [g_upd_ne, g_upd_eq] at fd_9
  refine r_istore_n (lc' := [(2, .int ((R_X8_digit (upd s 1306 0) 5).1)), (1, .int (-1)), (0, .ref (g_ad X 124))]) O dX8_readsTeam_12 rfl (hN 2 rfl) rfl ?_
  have L_13 : ∀ (f_13 : Nat) (v1_13 : Int32) (v2_13 : Int32) (s_13 : Nat → Int32) (hi_13 : 0 ≤ (s_13 1304).toInt ∧ (s_13 1304).toInt ≤ (s_13 1301).toInt ∧ (s_13 1301).toInt ≤ 90 ∧ -1 ≤ v1_13.toInt ∧ v1_13.toInt ≤ 5 ∧ v2_13.toInt ≤ 5 ∧ 6 < f_13 + v1_13.toInt), g_V X (fun r : Int32 × (Nat → Int32) => ((.inl (some (.int r.1)), (m, r.2, lm, pm)) : g_Res)) (R_X8_readsTeam_13 s f_13 v1_13 v2_13 s_13) 0 0 m (s_13, lm, pm) 13 [(0, .ref (g_ad X 124)), (1, .int v1_13), (2, .int v2_13)] [] := by
    intro f_13
    induction f_13 with
    | zero => intro v1_13 v2_13 s_13 hi_13; exact absurd hi_13 (by omega)
    | succ f_13 ih_13 =>
      intro v1_13 v2_13 s_13 hi_13
      obtain ⟨q1, q2, q3, q4, q5, q6, q7⟩ := hi_13
      refine r_iload_n O 2 dX8_readsTeam_13 rfl rfl ?_
      refine r_iload_n O 1 dX8_readsTeam_14 rfl rfl ?_
      refine r_icmp_le O 41 dX8_readsTeam_15 (by decide) (fun c_15 => ?_) (fun c_15 => ?_)
      · have e_15 : (v2_13).toInt ≤ (v1_13).toInt := j_le c_15
        refine r_aload_n O 0 dX8_readsTeam_41 rfl rfl ?_
        refine r_dup O dX8_readsTeam_42 rfl ?_
        refine r_get O FX8_186 G_124_8 dX8_readsTeam_43 ?_
        refine r_iload_n O 2 dX8_readsTeam_46 rfl rfl ?_
        refine r_iconst (x := (-1)) O dX8_readsTeam_47 rfl ?_
        have J_56 : ∀ (t0_56 : Int32), g_V X (fun r : Int32 × (Nat → Int32) => ((.inl (some (.int r.1)), (m, r.2, lm, pm)) : g_Res)) (R_X8_readsTeam_56 v2_13 s_13 t0_56) 0 0 m (s_13, lm, pm) 56 [(0, .ref (g_ad X 124)), (2, .int v2_13)] [.int t0_56, .int (s_13 1304), .ref (g_ad X 124)] := by
          intro t0_56
          refine r_isub O dX8_readsTeam_56 ?_
          refine r_put O (FPX8_186 ((s_13 1304) - t0_56)) (S_124_8 ((s_13 1304) - t0_56)) dX8_readsTeam_57 ?_
          refine r_iload_n O 1 dX8_readsTeam_60 rfl rfl ?_
          refine r_iconst (x := (-1)) O dX8_readsTeam_61 rfl ?_
          refine r_icmp_ne O 80 dX8_readsTeam_62 (by decide) (fun c_62 => ?_) (fun c_62 => ?_)
          · have e_62 : (v2_13).toInt = (-1 : Int) := j_eqR c_62 rfl
            refine r_aload_n O 0 dX8_readsTeam_65 rfl rfl ?_
            refine r_get O FX8_189 G_124_10 dX8_readsTeam_66 ?_
            refine r_callSi O [.int ((upd s_13 1304 ((s_13 1304) - t0_56)) 1306)] [] (met_X8_ones (g_xl X) hs lm pm m (upd s_13 1304 ((s_13 1304) - t0_56)) ((upd s_13 1304 ((s_13 1304) - t0_56)) 1306) ) LX8_118 rfl rfl rfl dX8_readsTeam_69 rfl rfl ?_
            refine r_iconst (x := 2) O dX8_readsTeam_72 rfl ?_
            refine r_icmp_le O 80 dX8_readsTeam_73 (by decide) (fun c_73 => ?_) (fun c_73 => ?_)
            · have e_73 : (R_X8_ones (upd s_13 1304 ((s_13 1304) - t0_56)) ((upd s_13 1304 ((s_13 1304) - t0_56)) 1306)).toInt ≤ (2 : Int) := j_leR c_73 rfl
              refine r_iconst (x := 0) O dX8_readsTeam_80 rfl ?_
              exact r_iret O dX8_readsTeam_81 rfl (Nat.le_of_ble_eq_true rfl) (Nat.le_of_ble_eq_true rfl) rfl
            · have e_73 : (2 : Int) < (R_X8_ones (upd s_13 1304 ((s_13 1304) - t0_56)) ((upd s_13 1304 ((s_13 1304) - t0_56)) 1306)).toInt := j_nleR c_73 rfl
              refine r_iconst (x := 1) O dX8_readsTeam_76 rfl ?_
              refine r_goto O 81 dX8_readsTeam_77 (by decide) ?_
              exact r_iret O dX8_readsTeam_81 rfl (Nat.le_of_ble_eq_true rfl) (Nat.le_of_ble_eq_true rfl) rfl
          · have e_62 : (v2_13).toInt ≠ (-1 : Int) := j_neR c_62 rfl
            refine r_iconst (x := 0) O dX8_readsTeam_80 rfl ?_
            exact r_iret O dX8_readsTeam_81 rfl (Nat.le_of_ble_eq_true rfl) (Nat.le_of_ble_eq_true rfl) rfl
        refine r_icmp_eq O 55 dX8_readsTeam_48 (by decide) (fun c_48 => ?_) (fun c_48 => ?_)
        · have e_48 : (v2_13).toInt = (-1 : Int) := j_eqR c_48 rfl
          refine r_iconst (x := 0) O dX8_readsTeam_55 rfl ?_
          refine r_sub [0, 2] rfl ?_
          exact J_56 0
        · have e_48 : (v2_13).toInt ≠ (-1 : Int) := j_neR c_48 rfl
          refine r_iconst (x := 1) O dX8_readsTeam_51 rfl ?_
          refine r_goto O 56 dX8_readsTeam_52 (by decide) ?_
          refine r_sub [0, 2] rfl ?_
          exact J_56 1
      · have e_15 : (v1_13).toInt < (v2_13).toInt := j_nle c_15
        refine r_aload_n O 0 dX8_readsTeam_18 rfl rfl ?_
        refine r_dup O dX8_readsTeam_19 rfl ?_
        refine r_get O FX8_189 G_124_10 dX8_readsTeam_20 ?_
        refine r_iconst (x := 1) O dX8_readsTeam_23 rfl ?_
        refine r_iload_n O 2 dX8_readsTeam_24 rfl rfl ?_
        refine r_ishl O dX8_readsTeam_25 ?_
        refine r_ior O dX8_readsTeam_26 ?_
        refine r_put O (FPX8_189 ((s_13 1306) ||| (1 <<< (v2_13 &&& 31)))) (S_124_10 ((s_13 1306) ||| (1 <<< (v2_13 &&& 31)))) dX8_readsTeam_27 ?_
        refine r_iload_n O 2 dX8_readsTeam_30 rfl rfl ?_
        refine r_istore_n (lc' := [(1, .int v2_13), (0, .ref (g_ad X 124)), (2, .int v2_13)]) O dX8_readsTeam_31 rfl (hN 1 rfl) rfl ?_
        refine r_aload_n O 1 dX8_readsTeam_32 rfl rfl ?_
        refine r_iconst (x := 5) O dX8_readsTeam_33 rfl ?_
        refine r_callVi O [.int 5] [] (met_X8_digit (g_xl X) hs lm pm m (upd s_13 1306 ((s_13 1306) ||| (1 <<< (v2_13 &&& 31)))) 5 (by first | decide | with_reducible assumption | with_reducible omega | (simp (disch := omega) only [g_upd_ne, g_upd_eq, fr_X8_walks, fr_X8_sets]; first | with_reducible assumption | with_reducible omega | decide) | exact Or.inl rfl | exact Or.inr rfl) (by first | decide | with_reducible assumption | with_reducible omega | (simp (disch := omega) only [g_upd_ne, g_upd_eq, fr_X8_walks, fr_X8_sets]; first | with_reducible assumption | with_reducible omega | decide) | exact Or.inl rfl | exact Or.inr rfl) (by first | decide | with_reducible assumption | with_reducible omega | (simp (disch := omega) only [g_upd_ne, g_upd_eq, fr_X8_walks, fr_X8_sets]; first | with_reducible assumption | with_reducible omega | decide) | exact Or.inl rfl | exact Or.inr rfl)) LX8_192 obj_124 rfl rfl rfl dX8_readsTeam_34 rfl rfl ?_
        have fd_34 := F_digit (s := (upd s_13 1306 ((s_13 1306) ||| (1 <<< (v2_13 &&& 31))))) (x := 5) (by first | decide | with_reducible assumption | with_reducible omega | (simp (disch := omega) only [g_upd_ne, g_upd_eq, fr_X8_walks, fr_X8_sets]; first | with_reducible assumption | with_reducible omega | decide) | exact Or.inl rfl | exact Or.inr rfl) (by first | decide | with_reducible assumption | with_reducible omega | (simp (disch := omega) only [g_upd_ne, g_upd_eq, fr_X8_walks, fr_X8_sets]; first | with_reducible assumption | with_reducible omega | decide) | exact Or.inl rfl | exact Or.inr rfl) (by first | decide | with_reducible assumption | with_reducible omega | (simp (disch := omega) only [g_upd_ne, g_upd_eq, fr_X8_walks, fr_X8_sets]; first | with_reducible assumption | with_reducible omega | decide) | exact Or.inl rfl | exact Or.inr rfl)
        try simp (disch := omega) only [g_upd_ne, g_upd_eq] at fd_34
        refine r_istore_n (lc' := [(2, .int ((R_X8_digit (upd s_13 1306 ((s_13 1306) ||| (1 <<< (v2_13 &&& 31)))) 5).1)), (1, .int v2_13), (0, .ref (g_ad X 124))]) O dX8_readsTeam_37 rfl (hN 2 rfl) rfl ?_
        refine r_goto O 13 dX8_readsTeam_38 (by decide) ?_
        refine r_sub [2, 1, 0] rfl ?_
        exact ih_13 v2_13 ((R_X8_digit (upd s_13 1306 ((s_13 1306) ||| (1 <<< (v2_13 &&& 31)))) 5).1) ((R_X8_digit (upd s_13 1306 ((s_13 1306) ||| (1 <<< (v2_13 &&& 31)))) 5).2) ⟨(by with_reducible omega), (by with_reducible omega), (by with_reducible omega), (by with_reducible omega), (by with_reducible omega), (by with_reducible omega), (by with_reducible omega)⟩
  refine r_sub [2, 1, 0] rfl ?_
  have hlit_v1_13 : ((-1) : Int32).toInt = (-1) := rfl
  exact L_13 8 (-1) ((R_X8_digit (upd s 1306 0) 5).1) ((R_X8_digit (upd s 1306 0) 5).2) ⟨(by with_reducible omega), (by with_reducible omega), (by with_reducible omega), (by with_reducible omega), (by with_reducible omega), (by with_reducible omega), (by with_reducible omega)⟩
theorem met_X8_readsTeam (l : Launch) (hs : l.stackTraces = false) (lm : Nat → Int64) (pm : Nat → Nat) (m : Nat → Int32) (s : Nat → Int32) (p0 : 0 ≤ (s 1304).toInt) (p1 : (s 1304).toInt ≤ (s 1301).toInt) (p2 : (s 1301).toInt ≤ 90) : g_SM l yX8_readsTeam cX8_readsTeam 3 (some .boolean) ({ frames := 2, cells := 0, slots := 0, locals := 45 } : Room) (fun ad => [.ref (ad 124)]) m (s, lm, pm) ((fun r : Int32 × (Nat → Int32) => ((.inl (some (.int r.1)), (m, r.2, lm, pm)) : g_Res)) (R_X8_readsTeam s)) :=
  g_sm_of (by decide) (fun _ => Nat.le_of_ble_eq_true rfl) hs (fun X hl hn O => walk_X8_readsTeam O (by rw [hl]; exact hs) hn p0 p1 p2)
theorem P_team56 {s t : Nat → Int32} {v : Int32} (e : (t 1301).toInt = (s 1301).toInt) (h1 : (s 1304).toInt ≤ (t 1304).toInt) (h2 : (t 1304).toInt ≤ (s 1301).toInt) : g_rd s (if v = (-1) then R_X8_readsTeam_56 v t 0 else R_X8_readsTeam_56 v t 1) := by
  have k0 : ∀ x : Int32, ((upd t 1304 x) 1301).toInt = (s 1301).toInt := fun x => by rw [g_upd_ne (by omega)]; exact e
  have hz : t 1304 - 0 = t 1304 := by simp
  by_cases c : v = (-1)
  · rw [if_pos c]
    unfold R_X8_readsTeam_56
    rw [if_pos c]
    split
    · exact g_rd0 (k0 _)
    · exact g_rd1 (k0 _) (by rw [g_upd_eq, hz]; exact h1) (by rw [g_upd_eq, hz]; exact h2)
  · rw [if_neg c]
    unfold R_X8_readsTeam_56
    rw [if_neg c]
    exact g_rd0 (k0 _)
theorem P_team13 {s : Nat → Int32} : ∀ (f : Nat) (u v : Int32) (t : Nat → Int32), 0 ≤ (t 1304).toInt → (t 1304).toInt ≤ (t 1301).toInt → (t 1301).toInt ≤ 90 → (t 1301).toInt = (s 1301).toInt → (s 1304).toInt ≤ (t 1304).toInt → g_rd s (R_X8_readsTeam_13 s f u v t)
  | 0, _, _, _, _, _, _, _, _ => g_rd0 rfl
  | f + 1, u, v, t, h0, h1, h2, e, h3 => by
    unfold R_X8_readsTeam_13
    split
    · exact P_team56 e h3 (by omega)
    · have fd := F_digit (s := upd t 1306 (t 1306 ||| (1 <<< (v &&& 31)))) (x := 5) (by rw [g_upd_ne (by omega)]; exact h0) (by rw [g_upd_ne (by omega), g_upd_ne (by omega)]; exact h1) (by rw [g_upd_ne (by omega)]; exact h2)
      simp (disch := omega) only [g_upd_ne] at fd
      exact P_team13 f _ _ _ (by omega) (by omega) (by omega) (by omega) (by omega)
theorem P_team {s : Nat → Int32} (h0 : 0 ≤ (s 1304).toInt) (h1 : (s 1304).toInt ≤ (s 1301).toInt) (h2 : (s 1301).toInt ≤ 90) : g_rd s (R_X8_readsTeam s) := by
  unfold R_X8_readsTeam
  have fd := F_digit (s := upd s 1306 0) (x := 5) (by rw [g_upd_ne (by omega)]; exact h0) (by rw [g_upd_ne (by omega), g_upd_ne (by omega)]; exact h1) (by rw [g_upd_ne (by omega)]; exact h2)
  simp (disch := omega) only [g_upd_ne] at fd
  exact P_team13 _ _ _ _ (by omega) (by omega) (by omega) (by omega) (by omega)
def R_X8_readsRest_111 (s : Nat → Int32) : (Int32 × (Nat → Int32)) := (if ((upd (R_X8_digit s 5).2 1306 ((R_X8_digit s 5).1)) 1306) = (-1) then (0, (upd (R_X8_digit s 5).2 1306 ((R_X8_digit s 5).1))) else (1, (upd (R_X8_digit s 5).2 1306 ((R_X8_digit s 5).1))))
def R_X8_readsRest_76 (s : Nat → Int32) : (Int32 × (Nat → Int32)) := (if ((upd (R_X8_digit s 5).2 1306 ((R_X8_digit s 5).1)) 1306) = (-1) then (R_X8_readsRest_111 s ) else (if ((upd (R_X8_digit s 5).2 1306 ((R_X8_digit s 5).1)) 1305) = 114 then (R_X8_readsRest_111 s ) else (if ((upd (R_X8_digit s 5).2 1306 ((R_X8_digit s 5).1)) 1305) = 109 then (R_X8_readsRest_111 s ) else (if ((upd (R_X8_digit (upd (R_X8_digit s 5).2 1306 ((R_X8_digit s 5).1)) 7).2 1307 ((R_X8_digit (upd (R_X8_digit s 5).2 1306 ((R_X8_digit s 5).1)) 7).1)) 1307) = (-1) then (0, (upd (R_X8_digit (upd (R_X8_digit s 5).2 1306 ((R_X8_digit s 5).1)) 7).2 1307 ((R_X8_digit (upd (R_X8_digit s 5).2 1306 ((R_X8_digit s 5).1)) 7).1))) else (1, (upd (R_X8_digit (upd (R_X8_digit s 5).2 1306 ((R_X8_digit s 5).1)) 7).2 1307 ((R_X8_digit (upd (R_X8_digit s 5).2 1306 ((R_X8_digit s 5).1)) 7).1)))))))
def R_X8_readsRest (s : Nat → Int32) : (Int32 × (Nat → Int32)) := (if (s 1305) = 112 then ((R_X8_readsMinutes s).1, (R_X8_readsMinutes s).2) else (if (s 1305) = 99 then ((R_X8_readsTeam s).1, (R_X8_readsTeam s).2) else (if (s 1305) = 103 then (R_X8_readsRest_76 s ) else (if (s 1305) = 114 then (R_X8_readsRest_76 s ) else (if (s 1305) = 116 then (R_X8_readsRest_76 s ) else (if (s 1305) = 109 then (R_X8_readsRest_76 s ) else (0, (upd s 1304 ((s 1304) - 1)))))))))
set_option maxRecDepth 100000 in
set_option maxHeartbeats 4000000 in
theorem walk_X8_readsRest {X : g_X} (O : g_ok X cX8_readsRest RX8 (some .boolean) ({ frames := 3, cells := 0, slots := 0, locals := 68 } : Room)) (hs : (g_xl X).stackTraces = false) (hn : g_xn X = 1) {m : Nat → Int32} {lm : Nat → Int64} {pm : Nat → Nat} {s : Nat → Int32} (p0 : 0 ≤ (s 1304).toInt) (p1 : (s 1304).toInt ≤ (s 1301).toInt) (p2 : (s 1301).toInt ≤ 90) : g_V X (fun r : Int32 × (Nat → Int32) => ((.inl (some (.int r.1)), (m, r.2, lm, pm)) : g_Res)) (R_X8_readsRest s) 0 0 m (s, lm, pm) 0 [(0, .ref (g_ad X 124))] [] := by
  have hN : ∀ i, Nat.blt i 1 = true → i < g_xn X := fun i h => by rw [hn]; exact g_blt.mp h
  refine r_aload_n O 0 dX8_readsRest_0 rfl rfl ?_
  refine r_get O FX8_195 G_124_9 dX8_readsRest_1 ?_
  refine r_bipush (x := 112) O dX8_readsRest_4 rfl ?_
  refine r_icmp_ne O 14 dX8_readsRest_6 (by decide) (fun c_6 => ?_) (fun c_6 => ?_)
  · have e_6 : (s 1305).toInt = (112 : Int) := j_eqR c_6 rfl
    refine r_aload_n O 0 dX8_readsRest_9 rfl rfl ?_
    refine r_callVi O [] [] (met_X8_readsMinutes (g_xl X) hs lm pm m s (by first | decide | with_reducible assumption | with_reducible omega | (simp (disch := omega) only [g_upd_ne, g_upd_eq, fr_X8_walks, fr_X8_sets]; first | with_reducible assumption | with_reducible omega | decide) | exact Or.inl rfl | exact Or.inr rfl) (by first | decide | with_reducible assumption | with_reducible omega | (simp (disch := omega) only [g_upd_ne, g_upd_eq, fr_X8_walks, fr_X8_sets]; first | with_reducible assumption | with_reducible omega | decide) | exact Or.inl rfl | exact Or.inr rfl) (by first | decide | with_reducible assumption | with_reducible omega | (simp (disch := omega) only [g_upd_ne, g_upd_eq, fr_X8_walks, fr_X8_sets]; first | with_reducible assumption | with_reducible omega | decide) | exact Or.inl rfl | exact Or.inr rfl)) LX8_198 obj_124 rfl rfl rfl dX8_readsRest_10 rfl rfl ?_
    exact r_iret O dX8_readsRest_13 (narrow_b (P_minutes p0 p1 p2).1) (Nat.le_of_ble_eq_true rfl) (Nat.le_of_ble_eq_true rfl) rfl
  · have e_6 : (s 1305).toInt ≠ (112 : Int) := j_neR c_6 rfl
    refine r_aload_n O 0 dX8_readsRest_14 rfl rfl ?_
    refine r_get O FX8_195 G_124_9 dX8_readsRest_15 ?_
    refine r_bipush (x := 99) O dX8_readsRest_18 rfl ?_
    refine r_icmp_ne O 28 dX8_readsRest_20 (by decide) (fun c_20 => ?_) (fun c_20 => ?_)
    · have e_20 : (s 1305).toInt = (99 : Int) := j_eqR c_20 rfl
      refine r_aload_n O 0 dX8_readsRest_23 rfl rfl ?_
      refine r_callVi O [] [] (met_X8_readsTeam (g_xl X) hs lm pm m s (by first | decide | with_reducible assumption | with_reducible omega | (simp (disch := omega) only [g_upd_ne, g_upd_eq, fr_X8_walks, fr_X8_sets]; first | with_reducible assumption | with_reducible omega | decide) | exact Or.inl rfl | exact Or.inr rfl) (by first | decide | with_reducible assumption | with_reducible omega | (simp (disch := omega) only [g_upd_ne, g_upd_eq, fr_X8_walks, fr_X8_sets]; first | with_reducible assumption | with_reducible omega | decide) | exact Or.inl rfl | exact Or.inr rfl) (by first | decide | with_reducible assumption | with_reducible omega | (simp (disch := omega) only [g_upd_ne, g_upd_eq, fr_X8_walks, fr_X8_sets]; first | with_reducible assumption | with_reducible omega | decide) | exact Or.inl rfl | exact Or.inr rfl)) LX8_201 obj_124 rfl rfl rfl dX8_readsRest_24 rfl rfl ?_
      exact r_iret O dX8_readsRest_27 (narrow_b (P_team p0 p1 p2).1) (Nat.le_of_ble_eq_true rfl) (Nat.le_of_ble_eq_true rfl) rfl
    · have e_20 : (s 1305).toInt ≠ (99 : Int) := j_neR c_20 rfl
      refine r_aload_n O 0 dX8_readsRest_28 rfl rfl ?_
      refine r_get O FX8_195 G_124_9 dX8_readsRest_29 ?_
      refine r_bipush (x := 103) O dX8_readsRest_32 rfl ?_
      have J_76 : g_V X (fun r : Int32 × (Nat → Int32) => ((.inl (some (.int r.1)), (m, r.2, lm, pm)) : g_Res)) (R_X8_readsRest_76 s ) 0 0 m (s, lm, pm) 76 [(0, .ref (g_ad X 124))] [] := by
        refine r_aload_n O 0 dX8_readsRest_76 rfl rfl ?_
        refine r_aload_n O 0 dX8_readsRest_77 rfl rfl ?_
        refine r_iconst (x := 5) O dX8_readsRest_78 rfl ?_
        refine r_callVi O [.int 5] [.ref (g_ad X 124)] (met_X8_digit (g_xl X) hs lm pm m s 5 (by first | decide | with_reducible assumption | with_reducible omega | (simp (disch := omega) only [g_upd_ne, g_upd_eq, fr_X8_walks, fr_X8_sets]; first | with_reducible assumption | with_reducible omega | decide) | exact Or.inl rfl | exact Or.inr rfl) (by first | decide | with_reducible assumption | with_reducible omega | (simp (disch := omega) only [g_upd_ne, g_upd_eq, fr_X8_walks, fr_X8_sets]; first | with_reducible assumption | with_reducible omega | decide) | exact Or.inl rfl | exact Or.inr rfl) (by first | decide | with_reducible assumption | with_reducible omega | (simp (disch := omega) only [g_upd_ne, g_upd_eq, fr_X8_walks, fr_X8_sets]; first | with_reducible assumption | with_reducible omega | decide) | exact Or.inl rfl | exact Or.inr rfl)) LX8_192 obj_124 rfl rfl rfl dX8_readsRest_79 rfl rfl ?_
        have fd_79 := F_digit (s := s) (x := 5) (by first | decide | with_reducible assumption | with_reducible omega | (simp (disch := omega) only [g_upd_ne, g_upd_eq, fr_X8_walks, fr_X8_sets]; first | with_reducible assumption | with_reducible omega | decide) | exact Or.inl rfl | exact Or.inr rfl) (by first | decide | with_reducible assumption | with_reducible omega | (simp (disch := omega) only [g_upd_ne, g_upd_eq, fr_X8_walks, fr_X8_sets]; first | with_reducible assumption | with_reducible omega | decide) | exact Or.inl rfl | exact Or.inr rfl) (by first | decide | with_reducible assumption | with_reducible omega | (simp (disch := omega) only [g_upd_ne, g_upd_eq, fr_X8_walks, fr_X8_sets]; first | with_reducible assumption | with_reducible omega | decide) | exact Or.inl rfl | exact Or.inr rfl)
        try simp (disch := omega) only [g_upd_ne, g_upd_eq] at fd_79
        refine r_put O (FPX8_189 ((R_X8_digit s 5).1)) (S_124_10 ((R_X8_digit s 5).1)) dX8_readsRest_82 ?_
        refine r_aload_n O 0 dX8_readsRest_85 rfl rfl ?_
        refine r_get O FX8_189 G_124_10 dX8_readsRest_86 ?_
        refine r_iconst (x := (-1)) O dX8_readsRest_89 rfl ?_
        have J_111 : g_V X (fun r : Int32 × (Nat → Int32) => ((.inl (some (.int r.1)), (m, r.2, lm, pm)) : g_Res)) (R_X8_readsRest_111 s ) 0 0 m ((upd (R_X8_digit s 5).2 1306 ((R_X8_digit s 5).1)), lm, pm) 111 [(0, .ref (g_ad X 124))] [] := by
          refine r_aload_n O 0 dX8_readsRest_111 rfl rfl ?_
          refine r_get O FX8_189 G_124_10 dX8_readsRest_112 ?_
          refine r_iconst (x := (-1)) O dX8_readsRest_115 rfl ?_
          refine r_icmp_eq O 123 dX8_readsRest_116 (by decide) (fun c_116 => ?_) (fun c_116 => ?_)
          · have e_116 : ((upd (R_X8_digit s 5).2 1306 ((R_X8_digit s 5).1)) 1306).toInt = (-1 : Int) := j_eqR c_116 rfl
            refine r_iconst (x := 0) O dX8_readsRest_123 rfl ?_
            exact r_iret O dX8_readsRest_124 rfl (Nat.le_of_ble_eq_true rfl) (Nat.le_of_ble_eq_true rfl) rfl
          · have e_116 : ((upd (R_X8_digit s 5).2 1306 ((R_X8_digit s 5).1)) 1306).toInt ≠ (-1 : Int) := j_neR c_116 rfl
            refine r_iconst (x := 1) O dX8_readsRest_119 rfl ?_
            refine r_goto O 124 dX8_readsRest_120 (by decide) ?_
            exact r_iret O dX8_readsRest_124 rfl (Nat.le_of_ble_eq_true rfl) (Nat.le_of_ble_eq_true rfl) rfl
        refine r_icmp_eq O 111 dX8_readsRest_90 (by decide) (fun c_90 => ?_) (fun c_90 => ?_)
        · have e_90 : ((upd (R_X8_digit s 5).2 1306 ((R_X8_digit s 5).1)) 1306).toInt = (-1 : Int) := j_eqR c_90 rfl
          exact J_111
        · have e_90 : ((upd (R_X8_digit s 5).2 1306 ((R_X8_digit s 5).1)) 1306).toInt ≠ (-1 : Int) := j_neR c_90 rfl
          refine r_aload_n O 0 dX8_readsRest_93 rfl rfl ?_
          refine r_get O FX8_195 G_124_9 dX8_readsRest_94 ?_
          refine r_bipush (x := 114) O dX8_readsRest_97 rfl ?_
          refine r_icmp_eq O 111 dX8_readsRest_99 (by decide) (fun c_99 => ?_) (fun c_99 => ?_)
          · have e_99 : ((upd (R_X8_digit s 5).2 1306 ((R_X8_digit s 5).1)) 1305).toInt = (114 : Int) := j_eqR c_99 rfl
            exact J_111
          · have e_99 : ((upd (R_X8_digit s 5).2 1306 ((R_X8_digit s 5).1)) 1305).toInt ≠ (114 : Int) := j_neR c_99 rfl
            refine r_aload_n O 0 dX8_readsRest_102 rfl rfl ?_
            refine r_get O FX8_195 G_124_9 dX8_readsRest_103 ?_
            refine r_bipush (x := 109) O dX8_readsRest_106 rfl ?_
            refine r_icmp_ne O 125 dX8_readsRest_108 (by decide) (fun c_108 => ?_) (fun c_108 => ?_)
            · have e_108 : ((upd (R_X8_digit s 5).2 1306 ((R_X8_digit s 5).1)) 1305).toInt = (109 : Int) := j_eqR c_108 rfl
              exact J_111
            · have e_108 : ((upd (R_X8_digit s 5).2 1306 ((R_X8_digit s 5).1)) 1305).toInt ≠ (109 : Int) := j_neR c_108 rfl
              refine r_aload_n O 0 dX8_readsRest_125 rfl rfl ?_
              refine r_aload_n O 0 dX8_readsRest_126 rfl rfl ?_
              refine r_bipush (x := 7) O dX8_readsRest_127 rfl ?_
              refine r_callVi O [.int 7] [.ref (g_ad X 124)] (met_X8_digit (g_xl X) hs lm pm m (upd (R_X8_digit s 5).2 1306 ((R_X8_digit s 5).1)) 7 (by first | decide | with_reducible assumption | with_reducible omega | (simp (disch := omega) only [g_upd_ne, g_upd_eq, fr_X8_walks, fr_X8_sets]; first | with_reducible assumption | with_reducible omega | decide) | exact Or.inl rfl | exact Or.inr rfl) (by first | decide | with_reducible assumption | with_reducible omega | (simp (disch := omega) only [g_upd_ne, g_upd_eq, fr_X8_walks, fr_X8_sets]; first | with_reducible assumption | with_reducible omega | decide) | exact Or.inl rfl | exact Or.inr rfl) (by first | decide | with_reducible assumption | with_reducible omega | (simp (disch := omega) only [g_upd_ne, g_upd_eq, fr_X8_walks, fr_X8_sets]; first | with_reducible assumption | with_reducible omega | decide) | exact Or.inl rfl | exact Or.inr rfl)) LX8_192 obj_124 rfl rfl rfl dX8_readsRest_129 rfl rfl ?_
              have fd_129 := F_digit (s := (upd (R_X8_digit s 5).2 1306 ((R_X8_digit s 5).1))) (x := 7) (by first | decide | with_reducible assumption | with_reducible omega | (simp (disch := omega) only [g_upd_ne, g_upd_eq, fr_X8_walks, fr_X8_sets]; first | with_reducible assumption | with_reducible omega | decide) | exact Or.inl rfl | exact Or.inr rfl) (by first | decide | with_reducible assumption | with_reducible omega | (simp (disch := omega) only [g_upd_ne, g_upd_eq, fr_X8_walks, fr_X8_sets]; first | with_reducible assumption | with_reducible omega | decide) | exact Or.inl rfl | exact Or.inr rfl) (by first | decide | with_reducible assumption | with_reducible omega | (simp (disch := omega) only [g_upd_ne, g_upd_eq, fr_X8_walks, fr_X8_sets]; first | with_reducible assumption | with_reducible omega | decide) | exact Or.inl rfl | exact Or.inr rfl)
              try simp (disch := omega) only [g_upd_ne, g_upd_eq] at fd_129
              refine r_put O (FPX8_204 ((R_X8_digit (upd (R_X8_digit s 5).2 1306 ((R_X8_digit s 5).1)) 7).1)) (S_124_11 ((R_X8_digit (upd (R_X8_digit s 5).2 1306 ((R_X8_digit s 5).1)) 7).1)) dX8_readsRest_132 ?_
              refine r_aload_n O 0 dX8_readsRest_135 rfl rfl ?_
              refine r_get O FX8_204 G_124_11 dX8_readsRest_136 ?_
              refine r_iconst (x := (-1)) O dX8_readsRest_139 rfl ?_
              refine r_icmp_eq O 147 dX8_readsRest_140 (by decide) (fun c_140 => ?_) (fun c_140 => ?_)
              · have e_140 : ((upd (R_X8_digit (upd (R_X8_digit s 5).2 1306 ((R_X8_digit s 5).1)) 7).2 1307 ((R_X8_digit (upd (R_X8_digit s 5).2 1306 ((R_X8_digit s 5).1)) 7).1)) 1307).toInt = (-1 : Int) := j_eqR c_140 rfl
                refine r_iconst (x := 0) O dX8_readsRest_147 rfl ?_
                exact r_iret O dX8_readsRest_148 rfl (Nat.le_of_ble_eq_true rfl) (Nat.le_of_ble_eq_true rfl) rfl
              · have e_140 : ((upd (R_X8_digit (upd (R_X8_digit s 5).2 1306 ((R_X8_digit s 5).1)) 7).2 1307 ((R_X8_digit (upd (R_X8_digit s 5).2 1306 ((R_X8_digit s 5).1)) 7).1)) 1307).toInt ≠ (-1 : Int) := j_neR c_140 rfl
                refine r_iconst (x := 1) O dX8_readsRest_143 rfl ?_
                refine r_goto O 148 dX8_readsRest_144 (by decide) ?_
                exact r_iret O dX8_readsRest_148 rfl (Nat.le_of_ble_eq_true rfl) (Nat.le_of_ble_eq_true rfl) rfl
      refine r_icmp_eq O 76 dX8_readsRest_34 (by decide) (fun c_34 => ?_) (fun c_34 => ?_)
      · have e_34 : (s 1305).toInt = (103 : Int) := j_eqR c_34 rfl
        exact J_76
      · have e_34 : (s 1305).toInt ≠ (103 : Int) := j_neR c_34 rfl
        refine r_aload_n O 0 dX8_readsRest_37 rfl rfl ?_
        refine r_get O FX8_195 G_124_9 dX8_readsRest_38 ?_
        refine r_bipush (x := 114) O dX8_readsRest_41 rfl ?_
        refine r_icmp_eq O 76 dX8_readsRest_43 (by decide) (fun c_43 => ?_) (fun c_43 => ?_)
        · have e_43 : (s 1305).toInt = (114 : Int) := j_eqR c_43 rfl
          exact J_76
        · have e_43 : (s 1305).toInt ≠ (114 : Int) := j_neR c_43 rfl
          refine r_aload_n O 0 dX8_readsRest_46 rfl rfl ?_
          refine r_get O FX8_195 G_124_9 dX8_readsRest_47 ?_
          refine r_bipush (x := 116) O dX8_readsRest_50 rfl ?_
          refine r_icmp_eq O 76 dX8_readsRest_52 (by decide) (fun c_52 => ?_) (fun c_52 => ?_)
          · have e_52 : (s 1305).toInt = (116 : Int) := j_eqR c_52 rfl
            exact J_76
          · have e_52 : (s 1305).toInt ≠ (116 : Int) := j_neR c_52 rfl
            refine r_aload_n O 0 dX8_readsRest_55 rfl rfl ?_
            refine r_get O FX8_195 G_124_9 dX8_readsRest_56 ?_
            refine r_bipush (x := 109) O dX8_readsRest_59 rfl ?_
            refine r_icmp_eq O 76 dX8_readsRest_61 (by decide) (fun c_61 => ?_) (fun c_61 => ?_)
            · have e_61 : (s 1305).toInt = (109 : Int) := j_eqR c_61 rfl
              exact J_76
            · have e_61 : (s 1305).toInt ≠ (109 : Int) := j_neR c_61 rfl
              refine r_aload_n O 0 dX8_readsRest_64 rfl rfl ?_
              refine r_dup O dX8_readsRest_65 rfl ?_
              refine r_get O FX8_186 G_124_8 dX8_readsRest_66 ?_
              refine r_iconst (x := 1) O dX8_readsRest_69 rfl ?_
              refine r_isub O dX8_readsRest_70 ?_
              refine r_put O (FPX8_186 ((s 1304) - 1)) (S_124_8 ((s 1304) - 1)) dX8_readsRest_71 ?_
              refine r_iconst (x := 0) O dX8_readsRest_74 rfl ?_
              exact r_iret O dX8_readsRest_75 rfl (Nat.le_of_ble_eq_true rfl) (Nat.le_of_ble_eq_true rfl) rfl
theorem met_X8_readsRest (l : Launch) (hs : l.stackTraces = false) (lm : Nat → Int64) (pm : Nat → Nat) (m : Nat → Int32) (s : Nat → Int32) (p0 : 0 ≤ (s 1304).toInt) (p1 : (s 1304).toInt ≤ (s 1301).toInt) (p2 : (s 1301).toInt ≤ 90) : g_SM l yX8_readsRest cX8_readsRest 1 (some .boolean) ({ frames := 3, cells := 0, slots := 0, locals := 68 } : Room) (fun ad => [.ref (ad 124)]) m (s, lm, pm) ((fun r : Int32 × (Nat → Int32) => ((.inl (some (.int r.1)), (m, r.2, lm, pm)) : g_Res)) (R_X8_readsRest s)) :=
  g_sm_of (by decide) (fun _ => Nat.le_of_ble_eq_true rfl) hs (fun X hl hn O => walk_X8_readsRest O (by rw [hl]; exact hs) hn p0 p1 p2)
theorem P_rest76 {s : Nat → Int32} (h0 : 0 ≤ (s 1304).toInt) (h1 : (s 1304).toInt ≤ (s 1301).toInt) (h2 : (s 1301).toInt ≤ 90) : g_rd s (R_X8_readsRest_76 s) := by
  have fd := F_digit (s := s) (x := 5) h0 h1 h2
  generalize hr : R_X8_digit s 5 = r at fd
  have fe := F_digit (s := upd r.2 1306 r.1) (x := 7) (by rw [g_upd_ne (by omega)]; omega) (by rw [g_upd_ne (by omega), g_upd_ne (by omega)]; omega) (by rw [g_upd_ne (by omega)]; omega)
  simp (disch := omega) only [g_upd_ne] at fe
  have k1 : ((upd r.2 1306 r.1) 1301).toInt = (s 1301).toInt := by rw [g_upd_ne (by omega)]; exact fd.1
  have k4 : (upd r.2 1306 r.1) 1304 = r.2 1304 := g_upd_ne (by omega)
  unfold R_X8_readsRest_76 R_X8_readsRest_111
  rw [hr]
  rw [g_upd_eq]
  by_cases c : r.1 = (-1)
  · rw [if_pos c, if_pos c]
    exact g_rd0 k1
  · have fd2 : (r.2 1304).toInt = (s 1304).toInt + 1 ∧ (s 1304).toInt < (s 1301).toInt := by
      rcases fd.2 with ⟨a, -⟩ | ⟨-, -, a, b⟩
      · exact absurd (Int32.toInt_inj.mp a) c
      · exact ⟨a, b⟩
    have k : g_rd s (1, upd r.2 1306 r.1) := g_rd1 k1 (by rw [k4]; omega) (by rw [k4]; omega)
    rw [if_neg c, if_neg c]
    split
    · exact k
    · split
      · exact k
      · generalize R_X8_digit (upd r.2 1306 r.1) 7 = w at *
        split
        · exact g_rd0 (by rw [g_upd_ne (by omega)]; omega)
        · exact g_rd1 (by rw [g_upd_ne (by omega)]; omega) (by rw [g_upd_ne (by omega)]; omega) (by rw [g_upd_ne (by omega)]; omega)
theorem P_rest {s : Nat → Int32} (h0 : 0 ≤ (s 1304).toInt) (h1 : (s 1304).toInt ≤ (s 1301).toInt) (h2 : (s 1301).toInt ≤ 90) : g_rd s (R_X8_readsRest s) := by
  have a := P_minutes h0 h1 h2
  have b := P_team h0 h1 h2
  have c := P_rest76 h0 h1 h2
  unfold R_X8_readsRest
  split
  · exact a
  · split
    · exact b
    · split
      · exact c
      · split
        · exact c
        · split
          · exact c
          · split
            · exact c
            · exact g_rd0 (by rw [g_upd_ne (by omega)])
