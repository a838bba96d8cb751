/-! ===== the model: passing ===== -/
def R_X8_passes_35 (s : Nat → Int32) (x1 : Int32) : Nat → Nat → (Nat → Int32) → (Int32 × (Nat → Int32))
  | 0, _, _ => (0, s)
  | f + 1, k, s_35 => (if x1 ≤ (nI k) then (0, s_35) else ((R_X8_passes_35 s x1 f) (k + 1) (upd (R_X8_minute s_35).2 1303 ((s_35 1303) + (R_X8_minute s_35).1))))
def R_X8_passes (s : Nat → Int32) (x1 : Int32) : (Int32 × (Nat → Int32)) := (if (R_X8_in s x1 1 600) = 0 then (1, s) else (if ((s (3)) + x1) ≤ 100000 then (R_X8_passes_35 s x1 601 0 (upd s 1303 0)) else (2, s)))
set_option maxRecDepth 100000 in
set_option maxHeartbeats 4000000 in
theorem walk_X8_passes {X : g_X} (O : g_ok X cX8_passes RX8 (some .int) ({ frames := 6, cells := 0, slots := 0, locals := 145 } : Room)) (hs : (g_xl X).stackTraces = false) (hn : g_xn X = 3) {m : Nat → Int32} {lm : Nat → Int64} {pm : Nat → Nat} {s : Nat → Int32} {x1 : Int32} (p0 : g_J s) : g_V X (fun r : Int32 × (Nat → Int32) => ((.inl (some (.int r.1)), (m, r.2, lm, pm)) : g_Res)) (R_X8_passes s x1) 0 0 m (s, lm, pm) 0 [(0, .ref (g_ad X 124)), (1, .int x1)] [] := by
  have hN : ∀ i, Nat.blt i 3 = true → i < g_xn X := fun i h => by rw [hn]; exact g_blt.mp h
  obtain ⟨n0, n1, n2, n4, n6, n12, n3⟩ := p0.n
  refine r_iload_n O 1 dX8_passes_0 rfl rfl ?_
  refine r_iconst (x := 1) O dX8_passes_1 rfl ?_
  refine r_sipush (x := 600) O dX8_passes_2 rfl ?_
  refine r_callSi O [.int x1, .int 1, .int 600] [] (met_X8_in (g_xl X) hs lm pm m s x1 1 600 ) LX8_54 rfl rfl rfl dX8_passes_5 rfl rfl ?_
  refine r_if_ne O 13 dX8_passes_8 (by decide) (fun c_8 => ?_) (fun c_8 => ?_)
  · have e_8 : (R_X8_in s x1 1 600).toInt = (0 : Int) := j_eqR c_8 rfl
    refine r_iconst (x := 1) O dX8_passes_11 rfl ?_
    exact r_iret O dX8_passes_12 rfl (Nat.le_of_ble_eq_true rfl) (Nat.le_of_ble_eq_true rfl) rfl
  · have e_8 : (R_X8_in s x1 1 600).toInt ≠ (0 : Int) := j_neR c_8 rfl
    have z_8a : (1 : Int) ≤ (x1).toInt := (nz_X8_in c_8).1
    have z_8b : (x1).toInt ≤ (600 : Int) := (nz_X8_in c_8).2
    refine r_aload_n O 0 dX8_passes_13 rfl rfl ?_
    refine r_get O FX8_7 G_124_0 dX8_passes_14 ?_
    refine r_iconst (x := 3) O dX8_passes_17 rfl ?_
    refine r_iald O R_125 (g_vin (by decide) (by decide)) dX8_passes_18 ?_
    refine r_iload_n O 1 dX8_passes_19 rfl rfl ?_
    refine r_iadd O dX8_passes_20 ?_
    refine r_ldc O dX8_passes_21 w_con_X8_80 ?_
    have ix_23l : ((s (3)) + x1).toInt = ((s (3)).toInt + x1.toInt) := (j_addE rfl rfl (by with_reducible omega) (by with_reducible omega))
    refine r_icmp_le O 28 dX8_passes_23 (by decide) (fun c_23 => ?_) (fun c_23 => ?_)
    · have e_23 : ((s (3)) + x1).toInt ≤ (100000 : Int) := j_leR c_23 rfl
      refine r_aload_n O 0 dX8_passes_28 rfl rfl ?_
      refine r_iconst (x := 0) O dX8_passes_29 rfl ?_
      refine r_put O (FPX8_105 0) (S_124_7 0) dX8_passes_30 ?_
      refine r_iconst (x := 0) O dX8_passes_33 rfl ?_
      refine r_istore_n (lc' := [(2, .int 0), (0, .ref (g_ad X 124)), (1, .int x1)]) O dX8_passes_34 rfl (hN 2 rfl) rfl ?_
      have L_35 : ∀ (f_35 : Nat) (k : Nat) (s_35 : Nat → Int32) (hi_35 : k ≤ 600 ∧ 600 < f_35 + k ∧ g_J s_35 ∧ (s_35 3).toInt = (s 3).toInt + k), g_V X (fun r : Int32 × (Nat → Int32) => ((.inl (some (.int r.1)), (m, r.2, lm, pm)) : g_Res)) (R_X8_passes_35 s x1 f_35 k s_35) 0 0 m (s_35, lm, pm) 35 [(0, .ref (g_ad X 124)), (1, .int x1), (2, .int (nI k))] [] := by
        intro f_35
        induction f_35 with
        | zero => intro k s_35 hi_35; exact absurd hi_35 (by omega)
        | succ f_35 ih_35 =>
          intro k s_35 hi_35
          have hc_k : (nI k).toInt = (k : Int) := nI_toInt (by omega)
          obtain ⟨hi1, hi2, hJ, hT⟩ := hi_35
          refine r_iload_n O 2 dX8_passes_35 rfl rfl ?_
          refine r_iload_n O 1 dX8_passes_36 rfl rfl ?_
          refine r_icmp_ge O 59 dX8_passes_37 (by decide) (fun c_37 => ?_) (fun c_37 => ?_)
          · have e_37 : (x1).toInt ≤ (nI k).toInt := j_le c_37
            refine r_iconst (x := 0) O dX8_passes_59 rfl ?_
            exact r_iret O dX8_passes_60 rfl (Nat.le_of_ble_eq_true rfl) (Nat.le_of_ble_eq_true rfl) rfl
          · have e_37 : (nI k).toInt < (x1).toInt := j_nle c_37
            refine r_aload_n O 0 dX8_passes_40 rfl rfl ?_
            refine r_dup O dX8_passes_41 rfl ?_
            refine r_get O FX8_105 G_124_7 dX8_passes_42 ?_
            refine r_aload_n O 0 dX8_passes_45 rfl rfl ?_
            refine r_callVi O [] [.int (s_35 1303), .ref (g_ad X 124)] (met_X8_minute (g_xl X) hs lm pm m s_35 (by first | decide | with_reducible assumption | with_reducible omega | (simp (disch := omega) only [g_upd_ne, g_upd_eq, fr_X8_walks, fr_X8_sets]; first | with_reducible assumption | with_reducible omega | decide) | exact Or.inl rfl | exact Or.inr rfl)) LX8_140 obj_124 rfl rfl rfl dX8_passes_46 rfl rfl ?_
            refine r_iadd O dX8_passes_49 ?_
            refine r_put O (FPX8_105 ((s_35 1303) + (R_X8_minute s_35).1)) (S_124_7 ((s_35 1303) + (R_X8_minute s_35).1)) dX8_passes_50 ?_
            refine r_iinc (lc' := [(2, .int (nI (k + 1))), (0, .ref (g_ad X 124)), (1, .int x1)]) O 2 dX8_passes_53 rfl (nI_1 k) (hN 2 rfl) rfl ?_
            refine r_goto O 35 dX8_passes_56 (by decide) ?_
            refine r_sub [1, 2, 0] rfl ?_
            exact ih_35 (k + 1) (upd (R_X8_minute s_35).2 1303 ((s_35 1303) + (R_X8_minute s_35).1)) ⟨(by with_reducible omega), (by with_reducible omega), J_hi (by omega) (J_minute hJ (by with_reducible omega)), by rw [g_upd_ne (by omega), t_minute hJ (by with_reducible omega)]; omega⟩
      refine r_sub [1, 2, 0] rfl ?_
      exact L_35 601 0 (upd s 1303 0) ⟨(by with_reducible omega), (by with_reducible omega), J_hi (by omega) p0, by rw [g_upd_ne (by omega)]; omega⟩
    · have e_23 : (100000 : Int) < ((s (3)) + x1).toInt := j_nleR c_23 rfl
      refine r_iconst (x := 2) O dX8_passes_26 rfl ?_
      exact r_iret O dX8_passes_27 rfl (Nat.le_of_ble_eq_true rfl) (Nat.le_of_ble_eq_true rfl) rfl
theorem met_X8_passes (l : Launch) (hs : l.stackTraces = false) (lm : Nat → Int64) (pm : Nat → Nat) (m : Nat → Int32) (s : Nat → Int32) (x1 : Int32) (p0 : g_J s) : g_SM l yX8_passes cX8_passes 3 (some .int) ({ frames := 6, cells := 0, slots := 0, locals := 145 } : Room) (fun ad => [.ref (ad 124), .int x1]) m (s, lm, pm) ((fun r : Int32 × (Nat → Int32) => ((.inl (some (.int r.1)), (m, r.2, lm, pm)) : g_Res)) (R_X8_passes s x1)) :=
  g_sm_of (by decide) (fun _ => Nat.le_of_ble_eq_true rfl) hs (fun X hl hn O => walk_X8_passes O (by rw [hl]; exact hs) hn p0)
