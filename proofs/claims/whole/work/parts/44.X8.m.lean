/-! ===== the model: laying, taking off, the cave ===== -/
def R_X8_lay_34 (s : Nat → Int32) : (Int32 × (Nat → Int32)) := ((R_X8_fails s 2).1, (R_X8_fails s 2).2)
def R_X8_lay (s : Nat → Int32) (x1 : Int32) : (Int32 × (Nat → Int32)) := (if (R_X8_isHelper s x1) = 0 then ((R_X8_fails s 1).1, (R_X8_fails s 1).2) else (if (R_X8_stands s x1) = 0 then (R_X8_lay_34 s ) else (if (s (58 + 9 * x1.toNatClampNeg + 5)) = (-1) then (R_X8_lay_34 s ) else ((R_X8_ends (R_X8_leaves (R_X8_hold s) x1 0 ((R_X8_hold s) (58 + 9 * x1.toNatClampNeg + 1))) (s (58 + 9 * x1.toNatClampNeg + 5))).1, (R_X8_ends (R_X8_leaves (R_X8_hold s) x1 0 ((R_X8_hold s) (58 + 9 * x1.toNatClampNeg + 1))) (s (58 + 9 * x1.toNatClampNeg + 5))).2))))
set_option maxRecDepth 100000 in
set_option maxHeartbeats 4000000 in
theorem walk_X8_lay {X : g_X} (O : g_ok X cX8_lay RX8 (some .int) ({ frames := 2, cells := 0, slots := 0, locals := 47 } : Room)) (hs : (g_xl X).stackTraces = false) (hn : g_xn X = 3) {m : Nat → Int32} {lm : Nat → Int64} {pm : Nat → Nat} {s : Nat → Int32} {x1 : Int32} (p0 : g_J s) (p1 : 0 ≤ (s 1300).toInt) (p2 : (s 1300).toInt ≤ 4) : g_V X (fun r : Int32 × (Nat → Int32) => ((.inl (some (.int r.1)), (m, r.2, lm, pm)) : g_Res)) (R_X8_lay s x1) 0 0 m (s, lm, pm) 0 [(0, .ref (g_ad X 124)), (1, .int x1)] [] := by
  have hN : ∀ i, Nat.blt i 3 = true → i < g_xn X := fun i h => by rw [hn]; exact g_blt.mp h
  obtain ⟨n0, n1, n2, n4, n6, n12, n3⟩ := p0.n
  refine r_aload_n O 0 dX8_lay_0 rfl rfl ?_
  refine r_iload_n O 1 dX8_lay_1 rfl rfl ?_
  refine r_callVi O [.int x1] [] (met_X8_isHelper (g_xl X) hs lm pm m s x1 ) LX8_95 obj_124 rfl rfl rfl dX8_lay_2 rfl rfl ?_
  refine r_if_ne O 14 dX8_lay_5 (by decide) (fun c_5 => ?_) (fun c_5 => ?_)
  · have e_5 : (R_X8_isHelper s x1).toInt = (0 : Int) := j_eqR c_5 rfl
    refine r_aload_n O 0 dX8_lay_8 rfl rfl ?_
    refine r_iconst (x := 1) O dX8_lay_9 rfl ?_
    refine r_callVi O [.int 1] [] (met_X8_fails (g_xl X) hs lm pm m s 1 ) LX8_58 obj_124 rfl rfl rfl dX8_lay_10 rfl rfl ?_
    exact r_iret O dX8_lay_13 rfl (Nat.le_of_ble_eq_true rfl) (Nat.le_of_ble_eq_true rfl) rfl
  · have e_5 : (R_X8_isHelper s x1).toInt ≠ (0 : Int) := j_neR c_5 rfl
    obtain ⟨z_5a, z_5b⟩ := nz_X8_isHelper c_5
    obtain ⟨jst, jrp⟩ := p0.h z_5a z_5b
    have nx := j_nat z_5a
    have hnx : x1.toNatClampNeg < 6 := by with_reducible omega
    have e1 : R_X8_hold s (58 + 9 * x1.toNatClampNeg + 1) = s (58 + 9 * x1.toNatClampNeg + 1) := hold_ne (by omega)
    have e5 : R_X8_hold s (58 + 9 * x1.toNatClampNeg + 5) = s (58 + 9 * x1.toNatClampNeg + 5) := hold_ne (by omega)
    have e13 : R_X8_hold s 1300 = s 1300 := hold_ne (by omega)
    have w13 : (R_X8_leaves (R_X8_hold s) x1 0 (R_X8_hold s (58 + 9 * x1.toNatClampNeg + 1)) 1300).toInt = (s 1300).toInt := by rw [fr_leaves_hi (by rw [e5]; omega) (by rw [e5]; omega) hnx (by omega), e13]
    refine r_aload_n O 0 dX8_lay_14 rfl rfl ?_
    refine r_iload_n O 1 dX8_lay_15 rfl rfl ?_
    refine r_iconst (x := 5) O dX8_lay_16 rfl ?_
    refine r_callVi O [.int x1, .int 5] [] (metn_X8_of (g_xl X) hs lm pm m s x1 5 (by first | decide | with_reducible assumption | with_reducible omega | (simp (disch := omega) only [g_upd_ne, g_upd_eq, fr_X8_walks, fr_X8_sets, hold_ne, fr_leaves_hi, fr_gives_hi]; first | with_reducible assumption | with_reducible omega | decide) | exact Or.inl rfl | exact Or.inr rfl) (by first | decide | with_reducible assumption | with_reducible omega | (simp (disch := omega) only [g_upd_ne, g_upd_eq, fr_X8_walks, fr_X8_sets, hold_ne, fr_leaves_hi, fr_gives_hi]; first | with_reducible assumption | with_reducible omega | decide) | exact Or.inl rfl | exact Or.inr rfl) (by decide)) LX8_37 obj_124 rfl rfl rfl dX8_lay_17 rfl rfl ?_
    refine r_istore_n (lc' := [(2, .int (s (58 + 9 * x1.toNatClampNeg + 5))), (0, .ref (g_ad X 124)), (1, .int x1)]) O dX8_lay_20 rfl (hN 2 rfl) rfl ?_
    refine r_aload_n O 1 dX8_lay_21 rfl rfl ?_
    refine r_iload_n O 2 dX8_lay_22 rfl rfl ?_
    refine r_callVi O [.int x1] [] (met_X8_stands (g_xl X) hs lm pm m s x1 (by first | decide | with_reducible assumption | with_reducible omega | (simp (disch := omega) only [g_upd_ne, g_upd_eq, fr_X8_walks, fr_X8_sets, hold_ne, fr_leaves_hi, fr_gives_hi]; first | with_reducible assumption | with_reducible omega | decide) | exact Or.inl rfl | exact Or.inr rfl) (by first | decide | with_reducible assumption | with_reducible omega | (simp (disch := omega) only [g_upd_ne, g_upd_eq, fr_X8_walks, fr_X8_sets, hold_ne, fr_leaves_hi, fr_gives_hi]; first | with_reducible assumption | with_reducible omega | decide) | exact Or.inl rfl | exact Or.inr rfl)) LX8_81 obj_124 rfl rfl rfl dX8_lay_23 rfl rfl ?_
    have J_34 : g_V X (fun r : Int32 × (Nat → Int32) => ((.inl (some (.int r.1)), (m, r.2, lm, pm)) : g_Res)) (R_X8_lay_34 s ) 0 0 m (s, lm, pm) 34 [(0, .ref (g_ad X 124))] [] := by
      refine r_aload_n O 0 dX8_lay_34 rfl rfl ?_
      refine r_iconst (x := 2) O dX8_lay_35 rfl ?_
      refine r_callVi O [.int 2] [] (met_X8_fails (g_xl X) hs lm pm m s 2 ) LX8_58 obj_124 rfl rfl rfl dX8_lay_36 rfl rfl ?_
      exact r_iret O dX8_lay_39 rfl (Nat.le_of_ble_eq_true rfl) (Nat.le_of_ble_eq_true rfl) rfl
    refine r_if_eq O 34 dX8_lay_26 (by decide) (fun c_26 => ?_) (fun c_26 => ?_)
    · have e_26 : (R_X8_stands s x1).toInt = (0 : Int) := j_eqR c_26 rfl
      refine r_sub [1] rfl ?_
      exact J_34
    · have e_26 : (R_X8_stands s x1).toInt ≠ (0 : Int) := j_neR c_26 rfl
      refine r_iload_n O 0 dX8_lay_29 rfl rfl ?_
      refine r_iconst (x := (-1)) O dX8_lay_30 rfl ?_
      refine r_icmp_ne O 40 dX8_lay_31 (by decide) (fun c_31 => ?_) (fun c_31 => ?_)
      · have e_31 : (s (58 + 9 * x1.toNatClampNeg + 5)).toInt = (-1 : Int) := j_eqR c_31 rfl
        refine r_sub [1] rfl ?_
        exact J_34
      · have e_31 : (s (58 + 9 * x1.toNatClampNeg + 5)).toInt ≠ (-1 : Int) := j_neR c_31 rfl
        refine r_aload_n O 1 dX8_lay_40 rfl rfl ?_
        refine r_callVv O [] [] (met_X8_hold (g_xl X) hs lm pm m s ) LX8_61 obj_124 rfl rfl rfl dX8_lay_41 rfl rfl ?_
        have hJ_41 : g_J (R_X8_hold s) := J_hold p0
        refine r_aload_n O 1 dX8_lay_44 rfl rfl ?_
        refine r_iload_n O 2 dX8_lay_45 rfl rfl ?_
        refine r_iconst (x := 0) O dX8_lay_46 rfl ?_
        refine r_aload_n O 1 dX8_lay_47 rfl rfl ?_
        refine r_iload_n O 2 dX8_lay_48 rfl rfl ?_
        refine r_iconst (x := 1) O dX8_lay_49 rfl ?_
        refine r_callVi O [.int x1, .int 1] [.int 0, .int x1, .ref (g_ad X 124)] (metn_X8_of (g_xl X) hs lm pm m (R_X8_hold s) x1 1 (by first | decide | with_reducible assumption | with_reducible omega | (simp (disch := omega) only [g_upd_ne, g_upd_eq, fr_X8_walks, fr_X8_sets, hold_ne, fr_leaves_hi, fr_gives_hi]; first | with_reducible assumption | with_reducible omega | decide) | exact Or.inl rfl | exact Or.inr rfl) (by first | decide | with_reducible assumption | with_reducible omega | (simp (disch := omega) only [g_upd_ne, g_upd_eq, fr_X8_walks, fr_X8_sets, hold_ne, fr_leaves_hi, fr_gives_hi]; first | with_reducible assumption | with_reducible omega | decide) | exact Or.inl rfl | exact Or.inr rfl) (by decide)) LX8_37 obj_124 rfl rfl rfl dX8_lay_50 rfl rfl ?_
        refine r_callVv O [.int x1, .int 0, .int ((R_X8_hold s) (58 + 9 * x1.toNatClampNeg + 1))] [] (met_X8_leaves (g_xl X) hs lm pm m (R_X8_hold s) x1 0 ((R_X8_hold s) (58 + 9 * x1.toNatClampNeg + 1)) (by first | decide | with_reducible assumption | with_reducible omega | (simp (disch := omega) only [g_upd_ne, g_upd_eq, fr_X8_walks, fr_X8_sets, hold_ne, fr_leaves_hi, fr_gives_hi]; first | with_reducible assumption | with_reducible omega | decide) | exact Or.inl rfl | exact Or.inr rfl) (by first | decide | with_reducible assumption | with_reducible omega | (simp (disch := omega) only [g_upd_ne, g_upd_eq, fr_X8_walks, fr_X8_sets, hold_ne, fr_leaves_hi, fr_gives_hi]; first | with_reducible assumption | with_reducible omega | decide) | exact Or.inl rfl | exact Or.inr rfl) (by first | decide | with_reducible assumption | with_reducible omega | (simp (disch := omega) only [g_upd_ne, g_upd_eq, fr_X8_walks, fr_X8_sets, hold_ne, fr_leaves_hi, fr_gives_hi]; first | with_reducible assumption | with_reducible omega | decide) | exact Or.inl rfl | exact Or.inr rfl) (by first | decide | with_reducible assumption | with_reducible omega | (simp (disch := omega) only [g_upd_ne, g_upd_eq, fr_X8_walks, fr_X8_sets, hold_ne, fr_leaves_hi, fr_gives_hi]; first | with_reducible assumption | with_reducible omega | decide) | exact Or.inl rfl | exact Or.inr rfl)) LX8_128 obj_124 rfl rfl rfl dX8_lay_53 rfl rfl ?_
        refine r_aload_n O 1 dX8_lay_56 rfl rfl ?_
        refine r_iload_n O 0 dX8_lay_57 rfl rfl ?_
        refine r_callVi O [.int (s (58 + 9 * x1.toNatClampNeg + 5))] [] (met_X8_ends (g_xl X) hs lm pm m (R_X8_leaves (R_X8_hold s) x1 0 ((R_X8_hold s) (58 + 9 * x1.toNatClampNeg + 1))) (s (58 + 9 * x1.toNatClampNeg + 5)) (by first | decide | with_reducible assumption | with_reducible omega | (simp (disch := omega) only [g_upd_ne, g_upd_eq, fr_X8_walks, fr_X8_sets, hold_ne, fr_leaves_hi, fr_gives_hi]; first | with_reducible assumption | with_reducible omega | decide) | exact Or.inl rfl | exact Or.inr rfl) (by first | decide | with_reducible assumption | with_reducible omega | (simp (disch := omega) only [g_upd_ne, g_upd_eq, fr_X8_walks, fr_X8_sets, hold_ne, fr_leaves_hi, fr_gives_hi]; first | with_reducible assumption | with_reducible omega | decide) | exact Or.inl rfl | exact Or.inr rfl)) LX8_64 obj_124 rfl rfl rfl dX8_lay_58 rfl rfl ?_
        exact r_iret O dX8_lay_61 rfl (Nat.le_of_ble_eq_true rfl) (Nat.le_of_ble_eq_true rfl) rfl
theorem met_X8_lay (l : Launch) (hs : l.stackTraces = false) (lm : Nat → Int64) (pm : Nat → Nat) (m : Nat → Int32) (s : Nat → Int32) (x1 : Int32) (p0 : g_J s) (p1 : 0 ≤ (s 1300).toInt) (p2 : (s 1300).toInt ≤ 4) : g_SM l yX8_lay cX8_lay 3 (some .int) ({ frames := 2, cells := 0, slots := 0, locals := 47 } : Room) (fun ad => [.ref (ad 124), .int x1]) m (s, lm, pm) ((fun r : Int32 × (Nat → Int32) => ((.inl (some (.int r.1)), (m, r.2, lm, pm)) : g_Res)) (R_X8_lay s x1)) :=
  g_sm_of (by decide) (fun _ => Nat.le_of_ble_eq_true rfl) hs (fun X hl hn O => walk_X8_lay O (by rw [hl]; exact hs) hn p0 p1 p2)
def R_X8_takeOff_68 (s : Nat → Int32) : (Int32 × (Nat → Int32)) := ((R_X8_fails s 2).1, (R_X8_fails s 2).2)
def R_X8_takeOff (s : Nat → Int32) (x1 : Int32) : (Int32 × (Nat → Int32)) := (if (R_X8_isHelper s x1) = 0 then ((R_X8_fails s 1).1, (R_X8_fails s 1).2) else (if (R_X8_stands s x1) = 0 then (R_X8_takeOff_68 s ) else (if (s (58 + 9 * x1.toNatClampNeg + 5)) = (-1) then (if (R_X8_isPassage s (s (58 + 9 * x1.toNatClampNeg + 1))) = 0 then (R_X8_takeOff_68 s ) else (if (s ((27 + (s (58 + 9 * x1.toNatClampNeg + 1))).toNatClampNeg)) = (-1) then (R_X8_takeOff_68 s ) else (if (R_X8_walkers s (s (58 + 9 * x1.toNatClampNeg + 1))) ≤ 0 then ((R_X8_ends (R_X8_gives (upd (R_X8_hold s) ((27 + (s (58 + 9 * x1.toNatClampNeg + 1))).toNatClampNeg) (-1)) ((R_X8_hold s) ((27 + (s (58 + 9 * x1.toNatClampNeg + 1))).toNatClampNeg)) x1) ((R_X8_hold s) ((27 + (s (58 + 9 * x1.toNatClampNeg + 1))).toNatClampNeg))).1, (R_X8_ends (R_X8_gives (upd (R_X8_hold s) ((27 + (s (58 + 9 * x1.toNatClampNeg + 1))).toNatClampNeg) (-1)) ((R_X8_hold s) ((27 + (s (58 + 9 * x1.toNatClampNeg + 1))).toNatClampNeg)) x1) ((R_X8_hold s) ((27 + (s (58 + 9 * x1.toNatClampNeg + 1))).toNatClampNeg))).2) else (R_X8_takeOff_68 s )))) else (R_X8_takeOff_68 s ))))
set_option maxRecDepth 100000 in
set_option maxHeartbeats 4000000 in
theorem walk_X8_takeOff {X : g_X} (O : g_ok X cX8_takeOff RX8 (some .int) ({ frames := 3, cells := 0, slots := 0, locals := 67 } : Room)) (hs : (g_xl X).stackTraces = false) (hn : g_xn X = 4) {m : Nat → Int32} {lm : Nat → Int64} {pm : Nat → Nat} {s : Nat → Int32} {x1 : Int32} (p0 : g_J s) (p1 : 0 ≤ (s 1300).toInt) (p2 : (s 1300).toInt ≤ 4) : g_V X (fun r : Int32 × (Nat → Int32) => ((.inl (some (.int r.1)), (m, r.2, lm, pm)) : g_Res)) (R_X8_takeOff s x1) 0 0 m (s, lm, pm) 0 [(0, .ref (g_ad X 124)), (1, .int x1)] [] := by
  have hN : ∀ i, Nat.blt i 4 = true → i < g_xn X := fun i h => by rw [hn]; exact g_blt.mp h
  obtain ⟨n0, n1, n2, n4, n6, n12, n3⟩ := p0.n
  refine r_aload_n O 0 dX8_takeOff_0 rfl rfl ?_
  refine r_iload_n O 1 dX8_takeOff_1 rfl rfl ?_
  refine r_callVi O [.int x1] [] (met_X8_isHelper (g_xl X) hs lm pm m s x1 ) LX8_95 obj_124 rfl rfl rfl dX8_takeOff_2 rfl rfl ?_
  refine r_if_ne O 14 dX8_takeOff_5 (by decide) (fun c_5 => ?_) (fun c_5 => ?_)
  · have e_5 : (R_X8_isHelper s x1).toInt = (0 : Int) := j_eqR c_5 rfl
    refine r_aload_n O 0 dX8_takeOff_8 rfl rfl ?_
    refine r_iconst (x := 1) O dX8_takeOff_9 rfl ?_
    refine r_callVi O [.int 1] [] (met_X8_fails (g_xl X) hs lm pm m s 1 ) LX8_58 obj_124 rfl rfl rfl dX8_takeOff_10 rfl rfl ?_
    exact r_iret O dX8_takeOff_13 rfl (Nat.le_of_ble_eq_true rfl) (Nat.le_of_ble_eq_true rfl) rfl
  · have e_5 : (R_X8_isHelper s x1).toInt ≠ (0 : Int) := j_neR c_5 rfl
    obtain ⟨z_5a, z_5b⟩ := nz_X8_isHelper c_5
    obtain ⟨jst, jrp⟩ := p0.h z_5a z_5b
    have nx := j_nat z_5a
    have hnx : x1.toNatClampNeg < 6 := by with_reducible omega
    refine r_aload_n O 0 dX8_takeOff_14 rfl rfl ?_
    refine r_iload_n O 1 dX8_takeOff_15 rfl rfl ?_
    refine r_iconst (x := 1) O dX8_takeOff_16 rfl ?_
    refine r_callVi O [.int x1, .int 1] [] (metn_X8_of (g_xl X) hs lm pm m s x1 1 (by first | decide | with_reducible assumption | with_reducible omega | (simp (disch := omega) only [g_upd_ne, g_upd_eq, fr_X8_walks, fr_X8_sets, hold_ne, fr_leaves_hi, fr_gives_hi]; first | with_reducible assumption | with_reducible omega | decide) | exact Or.inl rfl | exact Or.inr rfl) (by first | decide | with_reducible assumption | with_reducible omega | (simp (disch := omega) only [g_upd_ne, g_upd_eq, fr_X8_walks, fr_X8_sets, hold_ne, fr_leaves_hi, fr_gives_hi]; first | with_reducible assumption | with_reducible omega | decide) | exact Or.inl rfl | exact Or.inr rfl) (by decide)) LX8_37 obj_124 rfl rfl rfl dX8_takeOff_17 rfl rfl ?_
    refine r_istore_n (lc' := [(2, .int (s (58 + 9 * x1.toNatClampNeg + 1))), (0, .ref (g_ad X 124)), (1, .int x1)]) O dX8_takeOff_20 rfl (hN 2 rfl) rfl ?_
    refine r_aload_n O 1 dX8_takeOff_21 rfl rfl ?_
    refine r_iload_n O 2 dX8_takeOff_22 rfl rfl ?_
    refine r_callVi O [.int x1] [] (met_X8_stands (g_xl X) hs lm pm m s x1 (by first | decide | with_reducible assumption | with_reducible omega | (simp (disch := omega) only [g_upd_ne, g_upd_eq, fr_X8_walks, fr_X8_sets, hold_ne, fr_leaves_hi, fr_gives_hi]; first | with_reducible assumption | with_reducible omega | decide) | exact Or.inl rfl | exact Or.inr rfl) (by first | decide | with_reducible assumption | with_reducible omega | (simp (disch := omega) only [g_upd_ne, g_upd_eq, fr_X8_walks, fr_X8_sets, hold_ne, fr_leaves_hi, fr_gives_hi]; first | with_reducible assumption | with_reducible omega | decide) | exact Or.inl rfl | exact Or.inr rfl)) LX8_81 obj_124 rfl rfl rfl dX8_takeOff_23 rfl rfl ?_
    have J_68 : g_V X (fun r : Int32 × (Nat → Int32) => ((.inl (some (.int r.1)), (m, r.2, lm, pm)) : g_Res)) (R_X8_takeOff_68 s ) 0 0 m (s, lm, pm) 68 [(0, .ref (g_ad X 124))] [] := by
      refine r_aload_n O 0 dX8_takeOff_68 rfl rfl ?_
      refine r_iconst (x := 2) O dX8_takeOff_69 rfl ?_
      refine r_callVi O [.int 2] [] (met_X8_fails (g_xl X) hs lm pm m s 2 ) LX8_58 obj_124 rfl rfl rfl dX8_takeOff_70 rfl rfl ?_
      exact r_iret O dX8_takeOff_73 rfl (Nat.le_of_ble_eq_true rfl) (Nat.le_of_ble_eq_true rfl) rfl
    refine r_if_eq O 68 dX8_takeOff_26 (by decide) (fun c_26 => ?_) (fun c_26 => ?_)
    · have e_26 : (R_X8_stands s x1).toInt = (0 : Int) := j_eqR c_26 rfl
      refine r_sub [1] rfl ?_
      exact J_68
    · have e_26 : (R_X8_stands s x1).toInt ≠ (0 : Int) := j_neR c_26 rfl
      refine r_aload_n O 1 dX8_takeOff_29 rfl rfl ?_
      refine r_iload_n O 2 dX8_takeOff_30 rfl rfl ?_
      refine r_iconst (x := 5) O dX8_takeOff_31 rfl ?_
      refine r_callVi O [.int x1, .int 5] [] (metn_X8_of (g_xl X) hs lm pm m s x1 5 (by first | decide | with_reducible assumption | with_reducible omega | (simp (disch := omega) only [g_upd_ne, g_upd_eq, fr_X8_walks, fr_X8_sets, hold_ne, fr_leaves_hi, fr_gives_hi]; first | with_reducible assumption | with_reducible omega | decide) | exact Or.inl rfl | exact Or.inr rfl) (by first | decide | with_reducible assumption | with_reducible omega | (simp (disch := omega) only [g_upd_ne, g_upd_eq, fr_X8_walks, fr_X8_sets, hold_ne, fr_leaves_hi, fr_gives_hi]; first | with_reducible assumption | with_reducible omega | decide) | exact Or.inl rfl | exact Or.inr rfl) (by decide)) LX8_37 obj_124 rfl rfl rfl dX8_takeOff_32 rfl rfl ?_
      refine r_iconst (x := (-1)) O dX8_takeOff_35 rfl ?_
      refine r_icmp_ne O 68 dX8_takeOff_36 (by decide) (fun c_36 => ?_) (fun c_36 => ?_)
      · have e_36 : (s (58 + 9 * x1.toNatClampNeg + 5)).toInt = (-1 : Int) := j_eqR c_36 rfl
        refine r_aload_n O 1 dX8_takeOff_39 rfl rfl ?_
        refine r_iload_n O 0 dX8_takeOff_40 rfl rfl ?_
        refine r_callVi O [.int (s (58 + 9 * x1.toNatClampNeg + 1))] [] (met_X8_isPassage (g_xl X) hs lm pm m s (s (58 + 9 * x1.toNatClampNeg + 1)) ) LX8_67 obj_124 rfl rfl rfl dX8_takeOff_41 rfl rfl ?_
        refine r_if_eq O 68 dX8_takeOff_44 (by decide) (fun c_44 => ?_) (fun c_44 => ?_)
        · have e_44 : (R_X8_isPassage s (s (58 + 9 * x1.toNatClampNeg + 1))).toInt = (0 : Int) := j_eqR c_44 rfl
          refine r_sub [1] rfl ?_
          exact J_68
        · have e_44 : (R_X8_isPassage s (s (58 + 9 * x1.toNatClampNeg + 1))).toInt ≠ (0 : Int) := j_neR c_44 rfl
          obtain ⟨z_44a, z_44b⟩ := nz_X8_isPassage c_44
          have ixp := ix_p (x := s (58 + 9 * x1.toNatClampNeg + 1)) (b := 27) (w := 27) rfl (by decide) (by with_reducible omega) (by with_reducible omega)
          have jr := J_rig (x := s (58 + 9 * x1.toNatClampNeg + 1)) p0 (by with_reducible omega) (by with_reducible omega)
          have e27 : R_X8_hold s ((27 + s (58 + 9 * x1.toNatClampNeg + 1)).toNatClampNeg) = s ((27 + s (58 + 9 * x1.toNatClampNeg + 1)).toNatClampNeg) := hold_ne (by omega)
          refine r_aload_n O 1 dX8_takeOff_47 rfl rfl ?_
          refine r_get O FX8_7 G_124_0 dX8_takeOff_48 ?_
          refine r_bipush (x := 27) O dX8_takeOff_51 rfl ?_
          refine r_iload_n O 0 dX8_takeOff_53 rfl rfl ?_
          refine r_iadd O dX8_takeOff_54 ?_
          have ix_55 : (27 + (s (58 + 9 * x1.toNatClampNeg + 1))).toInt = ((27 : Int) + (s (58 + 9 * x1.toNatClampNeg + 1)).toInt) := (j_addE rfl rfl (by with_reducible omega) (by with_reducible omega))
          have iy_55 := j_nat (x := (27 + (s (58 + 9 * x1.toNatClampNeg + 1)))) (by with_reducible omega)
          refine r_iald O R_125 (show vp_in (27 + (s (58 + 9 * x1.toNatClampNeg + 1))) 178 from g_vin (by with_reducible omega) (by with_reducible omega)) dX8_takeOff_55 ?_
          refine r_iconst (x := (-1)) O dX8_takeOff_56 rfl ?_
          refine r_icmp_eq O 68 dX8_takeOff_57 (by decide) (fun c_57 => ?_) (fun c_57 => ?_)
          · have e_57 : (s ((27 + (s (58 + 9 * x1.toNatClampNeg + 1))).toNatClampNeg)).toInt = (-1 : Int) := j_eqR c_57 rfl
            refine r_sub [1] rfl ?_
            exact J_68
          · have e_57 : (s ((27 + (s (58 + 9 * x1.toNatClampNeg + 1))).toNatClampNeg)).toInt ≠ (-1 : Int) := j_neR c_57 rfl
            have jr2 : (R_X8_hold s ((27 + s (58 + 9 * x1.toNatClampNeg + 1)).toNatClampNeg)).toInt ≠ -1 := by rw [e27]; exact j_neR c_57 rfl
            have jr3 : -1 ≤ (R_X8_hold s ((27 + s (58 + 9 * x1.toNatClampNeg + 1)).toNatClampNeg)).toInt ∧ (R_X8_hold s ((27 + s (58 + 9 * x1.toNatClampNeg + 1)).toNatClampNeg)).toInt ≤ 7 := by rw [e27]; exact jr
            have w13 : (R_X8_gives (upd (R_X8_hold s) ((27 + s (58 + 9 * x1.toNatClampNeg + 1)).toNatClampNeg) (-1)) (R_X8_hold s ((27 + s (58 + 9 * x1.toNatClampNeg + 1)).toNatClampNeg)) x1 1300).toInt = (s 1300).toInt := by rw [fr_gives_hi (by omega) (by omega) hnx (by omega), g_upd_ne (by omega), hold_ne (by omega)]
            refine r_aload_n O 1 dX8_takeOff_60 rfl rfl ?_
            refine r_iload_n O 0 dX8_takeOff_61 rfl rfl ?_
            refine r_callVi O [.int (s (58 + 9 * x1.toNatClampNeg + 1))] [] (met_X8_walkers (g_xl X) hs lm pm m s (s (58 + 9 * x1.toNatClampNeg + 1)) (by first | decide | with_reducible assumption | with_reducible omega | (simp (disch := omega) only [g_upd_ne, g_upd_eq, fr_X8_walks, fr_X8_sets, hold_ne, fr_leaves_hi, fr_gives_hi]; first | with_reducible assumption | with_reducible omega | decide) | exact Or.inl rfl | exact Or.inr rfl)) LX8_73 obj_124 rfl rfl rfl dX8_takeOff_62 rfl rfl ?_
            refine r_if_le O 74 dX8_takeOff_65 (by decide) (fun c_65 => ?_) (fun c_65 => ?_)
            · have e_65 : (R_X8_walkers s (s (58 + 9 * x1.toNatClampNeg + 1))).toInt ≤ (0 : Int) := j_leR c_65 rfl
              refine r_aload_n O 1 dX8_takeOff_74 rfl rfl ?_
              refine r_callVv O [] [] (met_X8_hold (g_xl X) hs lm pm m s ) LX8_61 obj_124 rfl rfl rfl dX8_takeOff_75 rfl rfl ?_
              have hJ_75 : g_J (R_X8_hold s) := J_hold p0
              refine r_aload_n O 1 dX8_takeOff_78 rfl rfl ?_
              refine r_get O FX8_7 G_124_0 dX8_takeOff_79 ?_
              refine r_bipush (x := 27) O dX8_takeOff_82 rfl ?_
              refine r_iload_n O 0 dX8_takeOff_84 rfl rfl ?_
              refine r_iadd O dX8_takeOff_85 ?_
              have ix_86 : (27 + (s (58 + 9 * x1.toNatClampNeg + 1))).toInt = ((27 : Int) + (s (58 + 9 * x1.toNatClampNeg + 1)).toInt) := (j_addE rfl rfl (by with_reducible omega) (by with_reducible omega))
              have iy_86 := j_nat (x := (27 + (s (58 + 9 * x1.toNatClampNeg + 1)))) (by with_reducible omega)
              refine r_iald O R_125 (show vp_in (27 + (s (58 + 9 * x1.toNatClampNeg + 1))) 178 from g_vin (by with_reducible omega) (by with_reducible omega)) dX8_takeOff_86 ?_
              refine r_istore_n (lc' := [(3, .int ((R_X8_hold s) ((27 + (s (58 + 9 * x1.toNatClampNeg + 1))).toNatClampNeg))), (2, .int (s (58 + 9 * x1.toNatClampNeg + 1))), (0, .ref (g_ad X 124)), (1, .int x1)]) O dX8_takeOff_87 rfl (hN 3 rfl) rfl ?_
              refine r_aload_n O 2 dX8_takeOff_88 rfl rfl ?_
              refine r_get O FX8_7 G_124_0 dX8_takeOff_89 ?_
              refine r_bipush (x := 27) O dX8_takeOff_92 rfl ?_
              refine r_iload_n O 1 dX8_takeOff_94 rfl rfl ?_
              refine r_iadd O dX8_takeOff_95 ?_
              refine r_iconst (x := (-1)) O dX8_takeOff_96 rfl ?_
              have ix_97 : (27 + (s (58 + 9 * x1.toNatClampNeg + 1))).toInt = ((27 : Int) + (s (58 + 9 * x1.toNatClampNeg + 1)).toInt) := (j_addE rfl rfl (by with_reducible omega) (by with_reducible omega))
              have iy_97 := j_nat (x := (27 + (s (58 + 9 * x1.toNatClampNeg + 1)))) (by with_reducible omega)
              refine r_iastM O T_125 (show vp_in (27 + (s (58 + 9 * x1.toNatClampNeg + 1))) 178 from g_vin (by with_reducible omega) (by with_reducible omega)) dX8_takeOff_97 ?_
              refine r_aload_n O 2 dX8_takeOff_98 rfl rfl ?_
              refine r_iload_n O 0 dX8_takeOff_99 rfl rfl ?_
              refine r_iload_n O 3 dX8_takeOff_100 rfl rfl ?_
              refine r_callVv O [.int ((R_X8_hold s) ((27 + (s (58 + 9 * x1.toNatClampNeg + 1))).toNatClampNeg)), .int x1] [] (met_X8_gives (g_xl X) hs lm pm m (upd (R_X8_hold s) ((27 + (s (58 + 9 * x1.toNatClampNeg + 1))).toNatClampNeg) (-1)) ((R_X8_hold s) ((27 + (s (58 + 9 * x1.toNatClampNeg + 1))).toNatClampNeg)) x1 (by first | decide | with_reducible assumption | with_reducible omega | (simp (disch := omega) only [g_upd_ne, g_upd_eq, fr_X8_walks, fr_X8_sets, hold_ne, fr_leaves_hi, fr_gives_hi]; first | with_reducible assumption | with_reducible omega | decide) | exact Or.inl rfl | exact Or.inr rfl) (by first | decide | with_reducible assumption | with_reducible omega | (simp (disch := omega) only [g_upd_ne, g_upd_eq, fr_X8_walks, fr_X8_sets, hold_ne, fr_leaves_hi, fr_gives_hi]; first | with_reducible assumption | with_reducible omega | decide) | exact Or.inl rfl | exact Or.inr rfl) (by first | decide | with_reducible assumption | with_reducible omega | (simp (disch := omega) only [g_upd_ne, g_upd_eq, fr_X8_walks, fr_X8_sets, hold_ne, fr_leaves_hi, fr_gives_hi]; first | with_reducible assumption | with_reducible omega | decide) | exact Or.inl rfl | exact Or.inr rfl) (by first | decide | with_reducible assumption | with_reducible omega | (simp (disch := omega) only [g_upd_ne, g_upd_eq, fr_X8_walks, fr_X8_sets, hold_ne, fr_leaves_hi, fr_gives_hi]; first | with_reducible assumption | with_reducible omega | decide) | exact Or.inl rfl | exact Or.inr rfl)) LX8_111 obj_124 rfl rfl rfl dX8_takeOff_101 rfl rfl ?_
              refine r_aload_n O 2 dX8_takeOff_104 rfl rfl ?_
              refine r_iload_n O 0 dX8_takeOff_105 rfl rfl ?_
              refine r_callVi O [.int ((R_X8_hold s) ((27 + (s (58 + 9 * x1.toNatClampNeg + 1))).toNatClampNeg))] [] (met_X8_ends (g_xl X) hs lm pm m (R_X8_gives (upd (R_X8_hold s) ((27 + (s (58 + 9 * x1.toNatClampNeg + 1))).toNatClampNeg) (-1)) ((R_X8_hold s) ((27 + (s (58 + 9 * x1.toNatClampNeg + 1))).toNatClampNeg)) x1) ((R_X8_hold s) ((27 + (s (58 + 9 * x1.toNatClampNeg + 1))).toNatClampNeg)) (by first | decide | with_reducible assumption | with_reducible omega | (simp (disch := omega) only [g_upd_ne, g_upd_eq, fr_X8_walks, fr_X8_sets, hold_ne, fr_leaves_hi, fr_gives_hi]; first | with_reducible assumption | with_reducible omega | decide) | exact Or.inl rfl | exact Or.inr rfl) (by first | decide | with_reducible assumption | with_reducible omega | (simp (disch := omega) only [g_upd_ne, g_upd_eq, fr_X8_walks, fr_X8_sets, hold_ne, fr_leaves_hi, fr_gives_hi]; first | with_reducible assumption | with_reducible omega | decide) | exact Or.inl rfl | exact Or.inr rfl)) LX8_64 obj_124 rfl rfl rfl dX8_takeOff_106 rfl rfl ?_
              exact r_iret O dX8_takeOff_109 rfl (Nat.le_of_ble_eq_true rfl) (Nat.le_of_ble_eq_true rfl) rfl
            · have e_65 : (0 : Int) < (R_X8_walkers s (s (58 + 9 * x1.toNatClampNeg + 1))).toInt := j_nleR c_65 rfl
              refine r_sub [1] rfl ?_
              exact J_68
      · have e_36 : (s (58 + 9 * x1.toNatClampNeg + 5)).toInt ≠ (-1 : Int) := j_neR c_36 rfl
        refine r_sub [1] rfl ?_
        exact J_68
theorem met_X8_takeOff (l : Launch) (hs : l.stackTraces = false) (lm : Nat → Int64) (pm : Nat → Nat) (m : Nat → Int32) (s : Nat → Int32) (x1 : Int32) (p0 : g_J s) (p1 : 0 ≤ (s 1300).toInt) (p2 : (s 1300).toInt ≤ 4) : g_SM l yX8_takeOff cX8_takeOff 4 (some .int) ({ frames := 3, cells := 0, slots := 0, locals := 67 } : Room) (fun ad => [.ref (ad 124), .int x1]) m (s, lm, pm) ((fun r : Int32 × (Nat → Int32) => ((.inl (some (.int r.1)), (m, r.2, lm, pm)) : g_Res)) (R_X8_takeOff s x1)) :=
  g_sm_of (by decide) (fun _ => Nat.le_of_ble_eq_true rfl) hs (fun X hl hn O => walk_X8_takeOff O (by rw [hl]; exact hs) hn p0 p1 p2)
def R_X8_setPassage_34 (s : Nat → Int32) : (Int32 × (Nat → Int32)) := ((R_X8_fails s 2).1, (R_X8_fails s 2).2)
def R_X8_setPassage_70 (s : Nat → Int32) : (Int32 × (Nat → Int32)) := ((R_X8_fails s 3).1, (R_X8_fails s 3).2)
def R_X8_setPassage (s : Nat → Int32) (x1 : Int32) (x2 : Int32) (x3 : Int32) : (Int32 × (Nat → Int32)) := (if (R_X8_isPassage s x1) = 0 then ((R_X8_fails s 1).1, (R_X8_fails s 1).2) else (if (R_X8_in s x2 0 60) = 0 then (R_X8_setPassage_34 s ) else (if (R_X8_in s x3 1 30) = 0 then (R_X8_setPassage_34 s ) else (if (s ((27 + x1).toNatClampNeg)) = (-1) then (if (R_X8_rigger s x1) = (-1) then (if (R_X8_walkers s x1) ≤ 0 then ((R_X8_ends (upd (upd (R_X8_hold s) ((13 + x1).toNatClampNeg) x2) ((20 + x1).toNatClampNeg) x3) ((upd (upd (R_X8_hold s) ((13 + x1).toNatClampNeg) x2) ((20 + x1).toNatClampNeg) x3) (200 + (13 + x1).toNatClampNeg))).1, (R_X8_ends (upd (upd (R_X8_hold s) ((13 + x1).toNatClampNeg) x2) ((20 + x1).toNatClampNeg) x3) ((upd (upd (R_X8_hold s) ((13 + x1).toNatClampNeg) x2) ((20 + x1).toNatClampNeg) x3) (200 + (13 + x1).toNatClampNeg))).2) else (R_X8_setPassage_70 s )) else (R_X8_setPassage_70 s )) else (R_X8_setPassage_70 s )))))
set_option maxRecDepth 100000 in
set_option maxHeartbeats 4000000 in
theorem walk_X8_setPassage {X : g_X} (O : g_ok X cX8_setPassage RX8 (some .int) ({ frames := 3, cells := 0, slots := 0, locals := 67 } : Room)) (hs : (g_xl X).stackTraces = false) (hn : g_xn X = 4) {m : Nat → Int32} {lm : Nat → Int64} {pm : Nat → Nat} {s : Nat → Int32} {x1 : Int32} {x2 : Int32} {x3 : Int32} (p0 : g_J s) (p1 : 0 ≤ (s 1300).toInt) (p2 : (s 1300).toInt ≤ 4) : g_V X (fun r : Int32 × (Nat → Int32) => ((.inl (some (.int r.1)), (m, r.2, lm, pm)) : g_Res)) (R_X8_setPassage s x1 x2 x3) 0 0 m (s, lm, pm) 0 [(0, .ref (g_ad X 124)), (1, .int x1), (2, .int x2), (3, .int x3)] [] := by
  have hN : ∀ i, Nat.blt i 4 = true → i < g_xn X := fun i h => by rw [hn]; exact g_blt.mp h
  obtain ⟨n0, n1, n2, n4, n6, n12, n3⟩ := p0.n
  refine r_aload_n O 0 dX8_setPassage_0 rfl rfl ?_
  refine r_iload_n O 1 dX8_setPassage_1 rfl rfl ?_
  refine r_callVi O [.int x1] [] (met_X8_isPassage (g_xl X) hs lm pm m s x1 ) LX8_67 obj_124 rfl rfl rfl dX8_setPassage_2 rfl rfl ?_
  refine r_if_ne O 14 dX8_setPassage_5 (by decide) (fun c_5 => ?_) (fun c_5 => ?_)
  · have e_5 : (R_X8_isPassage s x1).toInt = (0 : Int) := j_eqR c_5 rfl
    refine r_aload_n O 0 dX8_setPassage_8 rfl rfl ?_
    refine r_iconst (x := 1) O dX8_setPassage_9 rfl ?_
    refine r_callVi O [.int 1] [] (met_X8_fails (g_xl X) hs lm pm m s 1 ) LX8_58 obj_124 rfl rfl rfl dX8_setPassage_10 rfl rfl ?_
    exact r_iret O dX8_setPassage_13 rfl (Nat.le_of_ble_eq_true rfl) (Nat.le_of_ble_eq_true rfl) rfl
  · have e_5 : (R_X8_isPassage s x1).toInt ≠ (0 : Int) := j_neR c_5 rfl
    obtain ⟨z_5a, z_5b⟩ := nz_X8_isPassage c_5
    have ix13 := ix_p (x := x1) (b := 13) (w := 13) rfl (by decide) (by with_reducible omega) (by with_reducible omega)
    have ix20 := ix_p (x := x1) (b := 20) (w := 20) rfl (by decide) (by with_reducible omega) (by with_reducible omega)
    have ix27 := ix_p (x := x1) (b := 27) (w := 27) rfl (by decide) (by with_reducible omega) (by with_reducible omega)
    refine r_iload_n O 2 dX8_setPassage_14 rfl rfl ?_
    refine r_iconst (x := 0) O dX8_setPassage_15 rfl ?_
    refine r_bipush (x := 60) O dX8_setPassage_16 rfl ?_
    refine r_callSi O [.int x2, .int 0, .int 60] [] (met_X8_in (g_xl X) hs lm pm m s x2 0 60 ) LX8_54 rfl rfl rfl dX8_setPassage_18 rfl rfl ?_
    have J_34 : g_V X (fun r : Int32 × (Nat → Int32) => ((.inl (some (.int r.1)), (m, r.2, lm, pm)) : g_Res)) (R_X8_setPassage_34 s ) 0 0 m (s, lm, pm) 34 [(0, .ref (g_ad X 124))] [] := by
      refine r_aload_n O 0 dX8_setPassage_34 rfl rfl ?_
      refine r_iconst (x := 2) O dX8_setPassage_35 rfl ?_
      refine r_callVi O [.int 2] [] (met_X8_fails (g_xl X) hs lm pm m s 2 ) LX8_58 obj_124 rfl rfl rfl dX8_setPassage_36 rfl rfl ?_
      exact r_iret O dX8_setPassage_39 rfl (Nat.le_of_ble_eq_true rfl) (Nat.le_of_ble_eq_true rfl) rfl
    refine r_if_eq O 34 dX8_setPassage_21 (by decide) (fun c_21 => ?_) (fun c_21 => ?_)
    · have e_21 : (R_X8_in s x2 0 60).toInt = (0 : Int) := j_eqR c_21 rfl
      refine r_sub [0] rfl ?_
      exact J_34
    · have e_21 : (R_X8_in s x2 0 60).toInt ≠ (0 : Int) := j_neR c_21 rfl
      have z_21a : (0 : Int) ≤ (x2).toInt := (nz_X8_in c_21).1
      have z_21b : (x2).toInt ≤ (60 : Int) := (nz_X8_in c_21).2
      refine r_iload_n O 3 dX8_setPassage_24 rfl rfl ?_
      refine r_iconst (x := 1) O dX8_setPassage_25 rfl ?_
      refine r_bipush (x := 30) O dX8_setPassage_26 rfl ?_
      refine r_callSi O [.int x3, .int 1, .int 30] [] (met_X8_in (g_xl X) hs lm pm m s x3 1 30 ) LX8_54 rfl rfl rfl dX8_setPassage_28 rfl rfl ?_
      refine r_if_ne O 40 dX8_setPassage_31 (by decide) (fun c_31 => ?_) (fun c_31 => ?_)
      · have e_31 : (R_X8_in s x3 1 30).toInt = (0 : Int) := j_eqR c_31 rfl
        refine r_sub [0] rfl ?_
        exact J_34
      · have e_31 : (R_X8_in s x3 1 30).toInt ≠ (0 : Int) := j_neR c_31 rfl
        have z_31a : (1 : Int) ≤ (x3).toInt := (nz_X8_in c_31).1
        have z_31b : (x3).toInt ≤ (30 : Int) := (nz_X8_in c_31).2
        refine r_aload_n O 0 dX8_setPassage_40 rfl rfl ?_
        refine r_get O FX8_7 G_124_0 dX8_setPassage_41 ?_
        refine r_bipush (x := 27) O dX8_setPassage_44 rfl ?_
        refine r_iload_n O 1 dX8_setPassage_46 rfl rfl ?_
        refine r_iadd O dX8_setPassage_47 ?_
        have ix_48 : (27 + x1).toInt = ((27 : Int) + x1.toInt) := (j_addE rfl rfl (by with_reducible omega) (by with_reducible omega))
        have iy_48 := j_nat (x := (27 + x1)) (by with_reducible omega)
        refine r_iald O R_125 (show vp_in (27 + x1) 178 from g_vin (by with_reducible omega) (by with_reducible omega)) dX8_setPassage_48 ?_
        refine r_iconst (x := (-1)) O dX8_setPassage_49 rfl ?_
        have J_70 : g_V X (fun r : Int32 × (Nat → Int32) => ((.inl (some (.int r.1)), (m, r.2, lm, pm)) : g_Res)) (R_X8_setPassage_70 s ) 0 0 m (s, lm, pm) 70 [(0, .ref (g_ad X 124))] [] := by
          refine r_aload_n O 0 dX8_setPassage_70 rfl rfl ?_
          refine r_iconst (x := 3) O dX8_setPassage_71 rfl ?_
          refine r_callVi O [.int 3] [] (met_X8_fails (g_xl X) hs lm pm m s 3 ) LX8_58 obj_124 rfl rfl rfl dX8_setPassage_72 rfl rfl ?_
          exact r_iret O dX8_setPassage_75 rfl (Nat.le_of_ble_eq_true rfl) (Nat.le_of_ble_eq_true rfl) rfl
        refine r_icmp_ne O 70 dX8_setPassage_50 (by decide) (fun c_50 => ?_) (fun c_50 => ?_)
        · have e_50 : (s ((27 + x1).toNatClampNeg)).toInt = (-1 : Int) := j_eqR c_50 rfl
          refine r_aload_n O 0 dX8_setPassage_53 rfl rfl ?_
          refine r_iload_n O 1 dX8_setPassage_54 rfl rfl ?_
          refine r_callVi O [.int x1] [] (met_X8_rigger (g_xl X) hs lm pm m s x1 (by first | decide | with_reducible assumption | with_reducible omega | (simp (disch := omega) only [g_upd_ne, g_upd_eq, fr_X8_walks, fr_X8_sets, hold_ne, fr_leaves_hi, fr_gives_hi]; first | with_reducible assumption | with_reducible omega | decide) | exact Or.inl rfl | exact Or.inr rfl)) LX8_70 obj_124 rfl rfl rfl dX8_setPassage_55 rfl rfl ?_
          refine r_iconst (x := (-1)) O dX8_setPassage_58 rfl ?_
          refine r_icmp_ne O 70 dX8_setPassage_59 (by decide) (fun c_59 => ?_) (fun c_59 => ?_)
          · have e_59 : (R_X8_rigger s x1).toInt = (-1 : Int) := j_eqR c_59 rfl
            refine r_aload_n O 0 dX8_setPassage_62 rfl rfl ?_
            refine r_iload_n O 1 dX8_setPassage_63 rfl rfl ?_
            refine r_callVi O [.int x1] [] (met_X8_walkers (g_xl X) hs lm pm m s x1 (by first | decide | with_reducible assumption | with_reducible omega | (simp (disch := omega) only [g_upd_ne, g_upd_eq, fr_X8_walks, fr_X8_sets, hold_ne, fr_leaves_hi, fr_gives_hi]; first | with_reducible assumption | with_reducible omega | decide) | exact Or.inl rfl | exact Or.inr rfl)) LX8_73 obj_124 rfl rfl rfl dX8_setPassage_64 rfl rfl ?_
            refine r_if_le O 76 dX8_setPassage_67 (by decide) (fun c_67 => ?_) (fun c_67 => ?_)
            · have e_67 : (R_X8_walkers s x1).toInt ≤ (0 : Int) := j_leR c_67 rfl
              refine r_aload_n O 0 dX8_setPassage_76 rfl rfl ?_
              refine r_callVv O [] [] (met_X8_hold (g_xl X) hs lm pm m s ) LX8_61 obj_124 rfl rfl rfl dX8_setPassage_77 rfl rfl ?_
              have hJ_77 : g_J (R_X8_hold s) := J_hold p0
              refine r_aload_n O 0 dX8_setPassage_80 rfl rfl ?_
              refine r_get O FX8_7 G_124_0 dX8_setPassage_81 ?_
              refine r_bipush (x := 13) O dX8_setPassage_84 rfl ?_
              refine r_iload_n O 1 dX8_setPassage_86 rfl rfl ?_
              refine r_iadd O dX8_setPassage_87 ?_
              refine r_iload_n O 2 dX8_setPassage_88 rfl rfl ?_
              have ix_89 : (13 + x1).toInt = ((13 : Int) + x1.toInt) := (j_addE rfl rfl (by with_reducible omega) (by with_reducible omega))
              have iy_89 := j_nat (x := (13 + x1)) (by with_reducible omega)
              refine r_iastM O T_125 (show vp_in (13 + x1) 178 from g_vin (by with_reducible omega) (by with_reducible omega)) dX8_setPassage_89 ?_
              refine r_aload_n O 0 dX8_setPassage_90 rfl rfl ?_
              refine r_get O FX8_7 G_124_0 dX8_setPassage_91 ?_
              refine r_bipush (x := 20) O dX8_setPassage_94 rfl ?_
              refine r_iload_n O 1 dX8_setPassage_96 rfl rfl ?_
              refine r_iadd O dX8_setPassage_97 ?_
              refine r_iload_n O 3 dX8_setPassage_98 rfl rfl ?_
              have ix_99 : (20 + x1).toInt = ((20 : Int) + x1.toInt) := (j_addE rfl rfl (by with_reducible omega) (by with_reducible omega))
              have iy_99 := j_nat (x := (20 + x1)) (by with_reducible omega)
              refine r_iastM O T_125 (show vp_in (20 + x1) 178 from g_vin (by with_reducible omega) (by with_reducible omega)) dX8_setPassage_99 ?_
              refine r_aload_n O 0 dX8_setPassage_100 rfl rfl ?_
              refine r_aload_n O 0 dX8_setPassage_101 rfl rfl ?_
              refine r_get O FX8_16 G_124_2 dX8_setPassage_102 ?_
              refine r_bipush (x := 13) O dX8_setPassage_105 rfl ?_
              refine r_iload_n O 1 dX8_setPassage_107 rfl rfl ?_
              refine r_iadd O dX8_setPassage_108 ?_
              have ix_109 : (13 + x1).toInt = ((13 : Int) + x1.toInt) := (j_addE rfl rfl (by with_reducible omega) (by with_reducible omega))
              have iy_109 := j_nat (x := (13 + x1)) (by with_reducible omega)
              refine r_iald O R_127 (show vp_in (13 + x1) 178 from g_vin (by with_reducible omega) (by with_reducible omega)) dX8_setPassage_109 ?_
              refine r_callVi O [.int ((upd (upd (R_X8_hold s) ((13 + x1).toNatClampNeg) x2) ((20 + x1).toNatClampNeg) x3) (200 + (13 + x1).toNatClampNeg))] [] (met_X8_ends (g_xl X) hs lm pm m (upd (upd (R_X8_hold s) ((13 + x1).toNatClampNeg) x2) ((20 + x1).toNatClampNeg) x3) ((upd (upd (R_X8_hold s) ((13 + x1).toNatClampNeg) x2) ((20 + x1).toNatClampNeg) x3) (200 + (13 + x1).toNatClampNeg)) (by first | decide | with_reducible assumption | with_reducible omega | (simp (disch := omega) only [g_upd_ne, g_upd_eq, fr_X8_walks, fr_X8_sets, hold_ne, fr_leaves_hi, fr_gives_hi]; first | with_reducible assumption | with_reducible omega | decide) | exact Or.inl rfl | exact Or.inr rfl) (by first | decide | with_reducible assumption | with_reducible omega | (simp (disch := omega) only [g_upd_ne, g_upd_eq, fr_X8_walks, fr_X8_sets, hold_ne, fr_leaves_hi, fr_gives_hi]; first | with_reducible assumption | with_reducible omega | decide) | exact Or.inl rfl | exact Or.inr rfl)) LX8_64 obj_124 rfl rfl rfl dX8_setPassage_110 rfl rfl ?_
              exact r_iret O dX8_setPassage_113 rfl (Nat.le_of_ble_eq_true rfl) (Nat.le_of_ble_eq_true rfl) rfl
            · have e_67 : (0 : Int) < (R_X8_walkers s x1).toInt := j_nleR c_67 rfl
              refine r_sub [0] rfl ?_
              exact J_70
          · have e_59 : (R_X8_rigger s x1).toInt ≠ (-1 : Int) := j_neR c_59 rfl
            refine r_sub [0] rfl ?_
            exact J_70
        · have e_50 : (s ((27 + x1).toNatClampNeg)).toInt ≠ (-1 : Int) := j_neR c_50 rfl
          refine r_sub [0] rfl ?_
          exact J_70
theorem met_X8_setPassage (l : Launch) (hs : l.stackTraces = false) (lm : Nat → Int64) (pm : Nat → Nat) (m : Nat → Int32) (s : Nat → Int32) (x1 : Int32) (x2 : Int32) (x3 : Int32) (p0 : g_J s) (p1 : 0 ≤ (s 1300).toInt) (p2 : (s 1300).toInt ≤ 4) : g_SM l yX8_setPassage cX8_setPassage 4 (some .int) ({ frames := 3, cells := 0, slots := 0, locals := 67 } : Room) (fun ad => [.ref (ad 124), .int x1, .int x2, .int x3]) m (s, lm, pm) ((fun r : Int32 × (Nat → Int32) => ((.inl (some (.int r.1)), (m, r.2, lm, pm)) : g_Res)) (R_X8_setPassage s x1 x2 x3)) :=
  g_sm_of (by decide) (fun _ => Nat.le_of_ble_eq_true rfl) hs (fun X hl hn O => walk_X8_setPassage O (by rw [hl]; exact hs) hn p0 p1 p2)
