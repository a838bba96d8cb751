/-! ===== the face of the class ===== -/
def R_X7_begin (m : Nat → Int32) (pm : Nat → Nat) (x1 : Int32) : g_P7 := (if x1 < ((1) : Int32) ∨ ((7) : Int32) < x1 then ((.inr "java/lang/IllegalArgumentException" : Option Value ⊕ String), m, pm) else ((.inl (some (.int (m 3))) : Option Value ⊕ String), (R_X0_startAnew ((R_X7_save m pm).1) x1), (R_X7_save m pm).2))
set_option maxRecDepth 100000 in
set_option maxHeartbeats 4000000 in
theorem walk_X7_begin {X : g_X} (O : g_ok X cX7_begin RX7 (some .int) ({ frames := 8, cells := 1, slots := 6, locals := 142 } : Room)) (hs : (g_xl X).stackTraces = false) (Y : g_Y (g_xs X)) (hn : g_xn X = 3) {s : Nat → Int32} {lm : Nat → Int64} {m : Nat → Int32} {pm : Nat → Nat} {x1 : Int32} (p0 : g_I m pm) : g_V X (fun r : g_P7 => ((r.1, (r.2.1, s, lm, r.2.2)) : g_Res)) (R_X7_begin m pm x1) 0 0 m (s, lm, pm) 0 [(0, .ref (g_ad X 122)), (1, .int x1)] [] := by
  have hN : ∀ i, Nat.blt i 3 = true → i < g_xn X := fun i h => by rw [hn]; exact g_blt.mp h
  obtain ⟨⟨⟨i0a, i0⟩, ⟨i1a, i1⟩, ⟨i2a, i2⟩, ⟨i6a, i6⟩, ⟨i12a, i12⟩, ⟨i90a, i90⟩, i91a, i91⟩, hBo, hPm⟩ := g_I.all p0
  refine r_iload_n O 1 dX7_begin_0 rfl rfl ?_
  refine r_iconst (x := 1) O dX7_begin_1 rfl ?_
  refine r_bipush (x := 7) O dX7_begin_2 rfl ?_
  refine g_if (fun c_4 => ?_) (fun c_4 => ?_)
  · exact r_ySx O Y [.int x1, .int 1, .int 7] [] (bad_X7_requireRange (g_xl X) hs (s, lm, pm) m x1 ((1) : Int32) ((7) : Int32) c_4) LX7_31 rfl rfl rfl dX7_begin_4 rfl rfl rfl
  · have e_4a : (1 : Int) ≤ (x1).toInt := j_nltR (fun z => c_4 (Or.inl z)) rfl
    have e_4b : (x1).toInt ≤ (7 : Int) := j_nltL (fun z => c_4 (Or.inr z)) rfl
    refine r_ySv O Y [.int x1, .int 1, .int 7] [] (ok_X7_requireRange (g_xl X) hs (s, lm, pm) m x1 ((1) : Int32) ((7) : Int32) c_4) LX7_31 rfl rfl rfl dX7_begin_4 rfl rfl ?_
    refine r_aload_n O 0 dX7_begin_7 rfl rfl ?_
    refine r_get O FX7_10 G_122_0 dX7_begin_8 ?_
    refine r_get O FX7_35 G_0_6 dX7_begin_11 ?_
    refine r_istore_n (lc' := [(2, .int (m 3)), (0, .ref (g_ad X 122)), (1, .int x1)]) O dX7_begin_14 rfl (hN 2 rfl) rfl ?_
    refine r_aload_n O 1 dX7_begin_15 rfl rfl ?_
    refine r_callVv O [] [] (met_X7_save (g_xl X) hs m s lm pm hPm hBo i91a) LX7_38 obj_122 rfl rfl rfl dX7_begin_16 rfl rfl ?_
    refine r_aload_n O 1 dX7_begin_19 rfl rfl ?_
    refine r_get O FX7_10 G_122_0 dX7_begin_20 ?_
    refine r_iload_n O 2 dX7_begin_23 rfl rfl ?_
    refine r_yVv O Y [.int x1] [] (met_X0_startAnew (g_xl X) hs (s, lm, ((R_X7_save m pm).2)) ((R_X7_save m pm).1) x1 ) LX7_41 obj_0 rfl rfl rfl dX7_begin_24 rfl rfl ?_
    refine r_iload_n O 0 dX7_begin_27 rfl rfl ?_
    exact r_iret O dX7_begin_28 rfl (Nat.le_of_ble_eq_true rfl) (Nat.le_of_ble_eq_true rfl) rfl
theorem met_X7_begin (l : Launch) (hs : l.stackTraces = false) (s : Nat → Int32) (lm : Nat → Int64) (m : Nat → Int32) (pm : Nat → Nat) (x1 : Int32) (p0 : g_I m pm) : g_SY l yX7_begin cX7_begin 3 (some .int) ({ frames := 8, cells := 1, slots := 6, locals := 142 } : Room) (fun ad => [.ref (ad 122), .int x1]) m (s, lm, pm) ((fun r : g_P7 => ((r.1, (r.2.1, s, lm, r.2.2)) : g_Res)) (R_X7_begin m pm x1)) :=
  g_sy_of (by decide) (fun _ => Nat.le_of_ble_eq_true rfl) (fun X hl hn O Y => walk_X7_begin O (by rw [hl]; exact hs) Y hn p0)
def R_X7_setPassage_44 (m : Nat → Int32) (pm : Nat → Nat) (x1 : Int32) (x2 : Int32) (x3 : Int32) (t0_44 : Int32) : g_P7 := (if t0_44 = 0 then ((.inr "java/lang/IllegalStateException" : Option Value ⊕ String), m, pm) else ((.inl (some (.int (R_X4_dropOf m x1))) : Option Value ⊕ String), (R_X4_change ((R_X7_save m pm).1) x1 x2 x3), (R_X7_save m pm).2))
def R_X7_setPassage (m : Nat → Int32) (pm : Nat → Nat) (x1 : Int32) (x2 : Int32) (x3 : Int32) : g_P7 := (if x1 < 0 ∨ (m 0) ≤ x1 then ((.inr "java/lang/IndexOutOfBoundsException" : Option Value ⊕ String), m, pm) else (if x2 < ((0) : Int32) ∨ ((60) : Int32) < x2 then ((.inr "java/lang/IllegalArgumentException" : Option Value ⊕ String), m, pm) else (if x3 < ((1) : Int32) ∨ ((30) : Int32) < x3 then ((.inr "java/lang/IllegalArgumentException" : Option Value ⊕ String), m, pm) else (if (R_X0_isInUse m x1) = 0 then (R_X7_setPassage_44 m pm x1 x2 x3 1) else (R_X7_setPassage_44 m pm x1 x2 x3 0)))))
set_option maxRecDepth 100000 in
set_option maxHeartbeats 4000000 in
theorem walk_X7_setPassage {X : g_X} (O : g_ok X cX7_setPassage RX7 (some .int) ({ frames := 8, cells := 4, slots := 24, locals := 142 } : Room)) (hs : (g_xl X).stackTraces = false) (Y : g_Y (g_xs X)) (hn : g_xn X = 5) {s : Nat → Int32} {lm : Nat → Int64} {m : Nat → Int32} {pm : Nat → Nat} {x1 : Int32} {x2 : Int32} {x3 : Int32} (p0 : g_I m pm) : g_V X (fun r : g_P7 => ((r.1, (r.2.1, s, lm, r.2.2)) : g_Res)) (R_X7_setPassage m pm x1 x2 x3) 0 0 m (s, lm, pm) 0 [(0, .ref (g_ad X 122)), (1, .int x1), (2, .int x2), (3, .int x3)] [] := by
  have hN : ∀ i, Nat.blt i 5 = true → i < g_xn X := fun i h => by rw [hn]; exact g_blt.mp h
  obtain ⟨⟨⟨i0a, i0⟩, ⟨i1a, i1⟩, ⟨i2a, i2⟩, ⟨i6a, i6⟩, ⟨i12a, i12⟩, ⟨i90a, i90⟩, i91a, i91⟩, hBo, hPm⟩ := g_I.all p0
  refine r_iload_n O 1 dX7_setPassage_0 rfl rfl ?_
  refine r_aload_n O 0 dX7_setPassage_1 rfl rfl ?_
  refine r_get O FX7_10 G_122_0 dX7_setPassage_2 ?_
  refine r_get O FX7_45 G_0_0 dX7_setPassage_5 ?_
  refine r_get O FX7_49 G_1_3 dX7_setPassage_8 ?_
  refine g_if (fun c_11 => ?_) (fun c_11 => ?_)
  · exact r_ySx O Y [.int x1, .int (m 0)] [] (bad_X7_requireIndex (g_xl X) hs (s, lm, pm) m x1 (m 0) c_11) LX7_54 rfl rfl rfl dX7_setPassage_11 rfl rfl rfl
  · have e_11a : 0 ≤ (x1).toInt := j_nltR (fun z => c_11 (Or.inl z)) rfl
    have e_11b : (x1).toInt < (m 0).toInt := j_nle (fun z => c_11 (Or.inr z))
    refine r_ySv O Y [.int x1, .int (m 0)] [] (ok_X7_requireIndex (g_xl X) hs (s, lm, pm) m x1 (m 0) c_11) LX7_54 rfl rfl rfl dX7_setPassage_11 rfl rfl ?_
    refine r_iload_n O 2 dX7_setPassage_14 rfl rfl ?_
    refine r_iconst (x := 0) O dX7_setPassage_15 rfl ?_
    refine r_bipush (x := 60) O dX7_setPassage_16 rfl ?_
    refine g_if (fun c_18 => ?_) (fun c_18 => ?_)
    · exact r_ySx O Y [.int x2, .int 0, .int 60] [] (bad_X7_requireRange (g_xl X) hs (s, lm, pm) m x2 ((0) : Int32) ((60) : Int32) c_18) LX7_31 rfl rfl rfl dX7_setPassage_18 rfl rfl rfl
    · have e_18a : (0 : Int) ≤ (x2).toInt := j_nltR (fun z => c_18 (Or.inl z)) rfl
      have e_18b : (x2).toInt ≤ (60 : Int) := j_nltL (fun z => c_18 (Or.inr z)) rfl
      refine r_ySv O Y [.int x2, .int 0, .int 60] [] (ok_X7_requireRange (g_xl X) hs (s, lm, pm) m x2 ((0) : Int32) ((60) : Int32) c_18) LX7_31 rfl rfl rfl dX7_setPassage_18 rfl rfl ?_
      refine r_iload_n O 3 dX7_setPassage_21 rfl rfl ?_
      refine r_iconst (x := 1) O dX7_setPassage_22 rfl ?_
      refine r_bipush (x := 30) O dX7_setPassage_23 rfl ?_
      refine g_if (fun c_25 => ?_) (fun c_25 => ?_)
      · exact r_ySx O Y [.int x3, .int 1, .int 30] [] (bad_X7_requireRange (g_xl X) hs (s, lm, pm) m x3 ((1) : Int32) ((30) : Int32) c_25) LX7_31 rfl rfl rfl dX7_setPassage_25 rfl rfl rfl
      · have e_25a : (1 : Int) ≤ (x3).toInt := j_nltR (fun z => c_25 (Or.inl z)) rfl
        have e_25b : (x3).toInt ≤ (30 : Int) := j_nltL (fun z => c_25 (Or.inr z)) rfl
        refine r_ySv O Y [.int x3, .int 1, .int 30] [] (ok_X7_requireRange (g_xl X) hs (s, lm, pm) m x3 ((1) : Int32) ((30) : Int32) c_25) LX7_31 rfl rfl rfl dX7_setPassage_25 rfl rfl ?_
        refine r_aload_n O 0 dX7_setPassage_28 rfl rfl ?_
        refine r_get O FX7_10 G_122_0 dX7_setPassage_29 ?_
        refine r_iload_n O 1 dX7_setPassage_32 rfl rfl ?_
        refine r_callVi O [.int x1] [] (met_X0_isInUse (g_xl X) hs (s, lm, pm) m x1 (by first | decide | with_reducible assumption | with_reducible omega | (simp (disch := omega) only [g_upd_ne, g_upd_eq, fr_X4_fix, fr_X5_put, fr_X1_startAnew, fr_X1_walkTo, fr_X1_arrive, fr_X1_countBelow, fr_X3_set, fr_X0_startWalk, fr_X0_letMinutePass, fr_X3_goUp]; first | with_reducible assumption | with_reducible omega | decide) | (simp (disch := first | omega | with_reducible assumption) only [g_upd_ne, fr_save, fr_X0_takeRope]; first | with_reducible assumption | with_reducible omega) | exact (b_X3_goUp (by with_reducible assumption) (by with_reducible assumption)).1 | exact (b_X3_goUp (by with_reducible assumption) (by with_reducible assumption)).2 | exact Or.inl rfl | exact Or.inr rfl) (by first | decide | with_reducible assumption | with_reducible omega | (simp (disch := omega) only [g_upd_ne, g_upd_eq, fr_X4_fix, fr_X5_put, fr_X1_startAnew, fr_X1_walkTo, fr_X1_arrive, fr_X1_countBelow, fr_X3_set, fr_X0_startWalk, fr_X0_letMinutePass, fr_X3_goUp]; first | with_reducible assumption | with_reducible omega | decide) | (simp (disch := first | omega | with_reducible assumption) only [g_upd_ne, fr_save, fr_X0_takeRope]; first | with_reducible assumption | with_reducible omega) | exact (b_X3_goUp (by with_reducible assumption) (by with_reducible assumption)).1 | exact (b_X3_goUp (by with_reducible assumption) (by with_reducible assumption)).2 | exact Or.inl rfl | exact Or.inr rfl)) LX7_58 obj_0 rfl rfl rfl dX7_setPassage_33 rfl rfl ?_
        have J_44 : ∀ (t0_44 : Int32), g_V X (fun r : g_P7 => ((r.1, (r.2.1, s, lm, r.2.2)) : g_Res)) (R_X7_setPassage_44 m pm x1 x2 x3 t0_44) 3 18 m (s, lm, pm) 44 [(0, .ref (g_ad X 122)), (1, .int x1), (2, .int x2), (3, .int x3)] [.int t0_44] := by
          intro t0_44
          refine g_if (fun c_44 => ?_) (fun c_44 => ?_)
          · exact r_ySx O Y [.int t0_44] [] (bad_X7_requirePossible (g_xl X) hs (s, lm, pm) m t0_44 c_44) LX7_62 rfl rfl rfl dX7_setPassage_44 rfl rfl rfl
          · refine r_ySv O Y [.int t0_44] [] (ok_X7_requirePossible (g_xl X) hs (s, lm, pm) m t0_44 c_44) LX7_62 rfl rfl rfl dX7_setPassage_44 rfl rfl ?_
            refine r_aload_n O 0 dX7_setPassage_47 rfl rfl ?_
            refine r_get O FX7_10 G_122_0 dX7_setPassage_48 ?_
            refine r_get O FX7_45 G_0_0 dX7_setPassage_51 ?_
            refine r_iload_n O 1 dX7_setPassage_54 rfl rfl ?_
            refine r_callVi O [.int x1] [] (met_X4_dropOf (g_xl X) hs (s, lm, pm) m x1 (by first | decide | with_reducible assumption | with_reducible omega | (simp (disch := omega) only [g_upd_ne, g_upd_eq, fr_X4_fix, fr_X5_put, fr_X1_startAnew, fr_X1_walkTo, fr_X1_arrive, fr_X1_countBelow, fr_X3_set, fr_X0_startWalk, fr_X0_letMinutePass, fr_X3_goUp]; first | with_reducible assumption | with_reducible omega | decide) | (simp (disch := first | omega | with_reducible assumption) only [g_upd_ne, fr_save, fr_X0_takeRope]; first | with_reducible assumption | with_reducible omega) | exact (b_X3_goUp (by with_reducible assumption) (by with_reducible assumption)).1 | exact (b_X3_goUp (by with_reducible assumption) (by with_reducible assumption)).2 | exact Or.inl rfl | exact Or.inr rfl)) LX7_66 obj_1 rfl rfl rfl dX7_setPassage_55 rfl rfl ?_
            refine r_istore (lc' := [(4, .int (R_X4_dropOf m x1)), (0, .ref (g_ad X 122)), (1, .int x1), (2, .int x2), (3, .int x3)]) O dX7_setPassage_58 (hN 4 rfl) rfl ?_
            refine r_aload_n O 1 dX7_setPassage_60 rfl rfl ?_
            refine r_callVv O [] [] (met_X7_save (g_xl X) hs m s lm pm hPm hBo i91a) LX7_38 obj_122 rfl rfl rfl dX7_setPassage_61 rfl rfl ?_
            refine r_aload_n O 1 dX7_setPassage_64 rfl rfl ?_
            refine r_get O FX7_10 G_122_0 dX7_setPassage_65 ?_
            refine r_get O FX7_45 G_0_0 dX7_setPassage_68 ?_
            refine r_iload_n O 2 dX7_setPassage_71 rfl rfl ?_
            refine r_iload_n O 3 dX7_setPassage_72 rfl rfl ?_
            refine r_iload_n O 4 dX7_setPassage_73 rfl rfl ?_
            refine r_callVv O [.int x1, .int x2, .int x3] [] (met_X4_change (g_xl X) hs (s, lm, ((R_X7_save m pm).2)) ((R_X7_save m pm).1) x1 x2 x3 (by first | decide | with_reducible assumption | with_reducible omega | (simp (disch := omega) only [g_upd_ne, g_upd_eq, fr_X4_fix, fr_X5_put, fr_X1_startAnew, fr_X1_walkTo, fr_X1_arrive, fr_X1_countBelow, fr_X3_set, fr_X0_startWalk, fr_X0_letMinutePass, fr_X3_goUp]; first | with_reducible assumption | with_reducible omega | decide) | (simp (disch := first | omega | with_reducible assumption) only [g_upd_ne, fr_save, fr_X0_takeRope]; first | with_reducible assumption | with_reducible omega) | exact (b_X3_goUp (by with_reducible assumption) (by with_reducible assumption)).1 | exact (b_X3_goUp (by with_reducible assumption) (by with_reducible assumption)).2 | exact Or.inl rfl | exact Or.inr rfl)) LX7_70 obj_1 rfl rfl rfl dX7_setPassage_74 rfl rfl ?_
            refine r_iload O 0 dX7_setPassage_77 rfl ?_
            exact r_iret O dX7_setPassage_79 rfl (Nat.le_of_ble_eq_true rfl) (Nat.le_of_ble_eq_true rfl) rfl
        refine r_if_ne O 43 dX7_setPassage_36 (by decide) (fun c_36 => ?_) (fun c_36 => ?_)
        · have e_36 : (R_X0_isInUse m x1).toInt = (0 : Int) := j_eqR c_36 rfl
          refine r_iconst (x := 1) O dX7_setPassage_39 rfl ?_
          refine r_goto O 44 dX7_setPassage_40 (by decide) ?_
          exact J_44 1
        · have e_36 : (R_X0_isInUse m x1).toInt ≠ (0 : Int) := j_neR c_36 rfl
          refine r_iconst (x := 0) O dX7_setPassage_43 rfl ?_
          exact J_44 0
theorem met_X7_setPassage (l : Launch) (hs : l.stackTraces = false) (s : Nat → Int32) (lm : Nat → Int64) (m : Nat → Int32) (pm : Nat → Nat) (x1 : Int32) (x2 : Int32) (x3 : Int32) (p0 : g_I m pm) : g_SY l yX7_setPassage cX7_setPassage 5 (some .int) ({ frames := 8, cells := 4, slots := 24, locals := 142 } : Room) (fun ad => [.ref (ad 122), .int x1, .int x2, .int x3]) m (s, lm, pm) ((fun r : g_P7 => ((r.1, (r.2.1, s, lm, r.2.2)) : g_Res)) (R_X7_setPassage m pm x1 x2 x3)) :=
  g_sy_of (by decide) (fun _ => Nat.le_of_ble_eq_true rfl) (fun X hl hn O Y => walk_X7_setPassage O (by rw [hl]; exact hs) Y hn p0)
def R_X7_addRope_28 (m : Nat → Int32) (pm : Nat → Nat) (x1 : Int32) (t0_28 : Int32) : g_P7 := (if t0_28 = 0 then ((.inr "java/lang/IllegalStateException" : Option Value ⊕ String), m, pm) else ((.inl (some (.int ((R_X5_addOne ((R_X7_save m pm).1) x1).1))) : Option Value ⊕ String), (R_X5_addOne ((R_X7_save m pm).1) x1).2, (R_X7_save m pm).2))
def R_X7_addRope (m : Nat → Int32) (pm : Nat → Nat) (x1 : Int32) : g_P7 := (if x1 < ((10) : Int32) ∨ ((80) : Int32) < x1 then ((.inr "java/lang/IllegalArgumentException" : Option Value ⊕ String), m, pm) else (if 8 ≤ (m 1) then (R_X7_addRope_28 m pm x1 0) else (R_X7_addRope_28 m pm x1 1)))
set_option maxRecDepth 100000 in
set_option maxHeartbeats 4000000 in
theorem walk_X7_addRope {X : g_X} (O : g_ok X cX7_addRope RX7 (some .int) ({ frames := 8, cells := 2, slots := 12, locals := 142 } : Room)) (hs : (g_xl X).stackTraces = false) (Y : g_Y (g_xs X)) (hn : g_xn X = 2) {s : Nat → Int32} {lm : Nat → Int64} {m : Nat → Int32} {pm : Nat → Nat} {x1 : Int32} (p0 : g_I m pm) : g_V X (fun r : g_P7 => ((r.1, (r.2.1, s, lm, r.2.2)) : g_Res)) (R_X7_addRope m pm x1) 0 0 m (s, lm, pm) 0 [(0, .ref (g_ad X 122)), (1, .int x1)] [] := by
  have hN : ∀ i, Nat.blt i 2 = true → i < g_xn X := fun i h => by rw [hn]; exact g_blt.mp h
  obtain ⟨⟨⟨i0a, i0⟩, ⟨i1a, i1⟩, ⟨i2a, i2⟩, ⟨i6a, i6⟩, ⟨i12a, i12⟩, ⟨i90a, i90⟩, i91a, i91⟩, hBo, hPm⟩ := g_I.all p0
  refine r_iload_n O 1 dX7_addRope_0 rfl rfl ?_
  refine r_bipush (x := 10) O dX7_addRope_1 rfl ?_
  refine r_bipush (x := 80) O dX7_addRope_3 rfl ?_
  refine g_if (fun c_5 => ?_) (fun c_5 => ?_)
  · exact r_ySx O Y [.int x1, .int 10, .int 80] [] (bad_X7_requireRange (g_xl X) hs (s, lm, pm) m x1 ((10) : Int32) ((80) : Int32) c_5) LX7_31 rfl rfl rfl dX7_addRope_5 rfl rfl rfl
  · have e_5a : (10 : Int) ≤ (x1).toInt := j_nltR (fun z => c_5 (Or.inl z)) rfl
    have e_5b : (x1).toInt ≤ (80 : Int) := j_nltL (fun z => c_5 (Or.inr z)) rfl
    refine r_ySv O Y [.int x1, .int 10, .int 80] [] (ok_X7_requireRange (g_xl X) hs (s, lm, pm) m x1 ((10) : Int32) ((80) : Int32) c_5) LX7_31 rfl rfl rfl dX7_addRope_5 rfl rfl ?_
    refine r_aload_n O 0 dX7_addRope_8 rfl rfl ?_
    refine r_get O FX7_10 G_122_0 dX7_addRope_9 ?_
    refine r_get O FX7_73 G_0_1 dX7_addRope_12 ?_
    refine r_get O FX7_77 G_5_3 dX7_addRope_15 ?_
    refine r_bipush (x := 8) O dX7_addRope_18 rfl ?_
    have J_28 : ∀ (t0_28 : Int32), g_V X (fun r : g_P7 => ((r.1, (r.2.1, s, lm, r.2.2)) : g_Res)) (R_X7_addRope_28 m pm x1 t0_28) 1 6 m (s, lm, pm) 28 [(0, .ref (g_ad X 122)), (1, .int x1)] [.int t0_28] := by
      intro t0_28
      refine g_if (fun c_28 => ?_) (fun c_28 => ?_)
      · exact r_ySx O Y [.int t0_28] [] (bad_X7_requirePossible (g_xl X) hs (s, lm, pm) m t0_28 c_28) LX7_62 rfl rfl rfl dX7_addRope_28 rfl rfl rfl
      · refine r_ySv O Y [.int t0_28] [] (ok_X7_requirePossible (g_xl X) hs (s, lm, pm) m t0_28 c_28) LX7_62 rfl rfl rfl dX7_addRope_28 rfl rfl ?_
        refine r_aload_n O 0 dX7_addRope_31 rfl rfl ?_
        refine r_callVv O [] [] (met_X7_save (g_xl X) hs m s lm pm hPm hBo i91a) LX7_38 obj_122 rfl rfl rfl dX7_addRope_32 rfl rfl ?_
        refine r_aload_n O 0 dX7_addRope_35 rfl rfl ?_
        refine r_get O FX7_10 G_122_0 dX7_addRope_36 ?_
        refine r_get O FX7_73 G_0_1 dX7_addRope_39 ?_
        refine r_iload_n O 1 dX7_addRope_42 rfl rfl ?_
        refine r_callVi O [.int x1] [] (met_X5_addOne (g_xl X) hs (s, lm, ((R_X7_save m pm).2)) ((R_X7_save m pm).1) x1 (by first | decide | with_reducible assumption | with_reducible omega | (simp (disch := omega) only [g_upd_ne, g_upd_eq, fr_X4_fix, fr_X5_put, fr_X1_startAnew, fr_X1_walkTo, fr_X1_arrive, fr_X1_countBelow, fr_X3_set, fr_X0_startWalk, fr_X0_letMinutePass, fr_X3_goUp]; first | with_reducible assumption | with_reducible omega | decide) | (simp (disch := first | omega | with_reducible assumption) only [g_upd_ne, fr_save, fr_X0_takeRope]; first | with_reducible assumption | with_reducible omega) | exact (b_X3_goUp (by with_reducible assumption) (by with_reducible assumption)).1 | exact (b_X3_goUp (by with_reducible assumption) (by with_reducible assumption)).2 | exact Or.inl rfl | exact Or.inr rfl) (by first | decide | with_reducible assumption | with_reducible omega | (simp (disch := omega) only [g_upd_ne, g_upd_eq, fr_X4_fix, fr_X5_put, fr_X1_startAnew, fr_X1_walkTo, fr_X1_arrive, fr_X1_countBelow, fr_X3_set, fr_X0_startWalk, fr_X0_letMinutePass, fr_X3_goUp]; first | with_reducible assumption | with_reducible omega | decide) | (simp (disch := first | omega | with_reducible assumption) only [g_upd_ne, fr_save, fr_X0_takeRope]; first | with_reducible assumption | with_reducible omega) | exact (b_X3_goUp (by with_reducible assumption) (by with_reducible assumption)).1 | exact (b_X3_goUp (by with_reducible assumption) (by with_reducible assumption)).2 | exact Or.inl rfl | exact Or.inr rfl)) LX7_80 obj_5 rfl rfl rfl dX7_addRope_43 rfl rfl ?_
        exact r_iret O dX7_addRope_46 rfl (Nat.le_of_ble_eq_true rfl) (Nat.le_of_ble_eq_true rfl) rfl
    refine r_icmp_ge O 27 dX7_addRope_20 (by decide) (fun c_20 => ?_) (fun c_20 => ?_)
    · have e_20 : (8 : Int) ≤ (m 1).toInt := j_leL c_20 rfl
      refine r_iconst (x := 0) O dX7_addRope_27 rfl ?_
      exact J_28 0
    · have e_20 : (m 1).toInt < (8 : Int) := j_nleL c_20 rfl
      refine r_iconst (x := 1) O dX7_addRope_23 rfl ?_
      refine r_goto O 28 dX7_addRope_24 (by decide) ?_
      exact J_28 1
theorem met_X7_addRope (l : Launch) (hs : l.stackTraces = false) (s : Nat → Int32) (lm : Nat → Int64) (m : Nat → Int32) (pm : Nat → Nat) (x1 : Int32) (p0 : g_I m pm) : g_SY l yX7_addRope cX7_addRope 2 (some .int) ({ frames := 8, cells := 2, slots := 12, locals := 142 } : Room) (fun ad => [.ref (ad 122), .int x1]) m (s, lm, pm) ((fun r : g_P7 => ((r.1, (r.2.1, s, lm, r.2.2)) : g_Res)) (R_X7_addRope m pm x1)) :=
  g_sy_of (by decide) (fun _ => Nat.le_of_ble_eq_true rfl) (fun X hl hn O Y => walk_X7_addRope O (by rw [hl]; exact hs) Y hn p0)
def R_X7_addHelper_26 (m : Nat → Int32) (pm : Nat → Nat) (x1 : Int32) (t0_26 : Int32) : g_P7 := (if t0_26 = 0 then ((.inr "java/lang/IllegalStateException" : Option Value ⊕ String), m, pm) else ((.inl (some (.int ((R_X0_addOne ((R_X7_save m pm).1) x1).1))) : Option Value ⊕ String), (R_X0_addOne ((R_X7_save m pm).1) x1).2, (R_X7_save m pm).2))
def R_X7_addHelper (m : Nat → Int32) (pm : Nat → Nat) (x1 : Int32) : g_P7 := (if x1 < ((30) : Int32) ∨ ((600) : Int32) < x1 then ((.inr "java/lang/IllegalArgumentException" : Option Value ⊕ String), m, pm) else (if 6 ≤ (m 2) then (R_X7_addHelper_26 m pm x1 0) else (R_X7_addHelper_26 m pm x1 1)))
set_option maxRecDepth 100000 in
set_option maxHeartbeats 4000000 in
theorem walk_X7_addHelper {X : g_X} (O : g_ok X cX7_addHelper RX7 (some .int) ({ frames := 8, cells := 2, slots := 12, locals := 142 } : Room)) (hs : (g_xl X).stackTraces = false) (Y : g_Y (g_xs X)) (hn : g_xn X = 2) {s : Nat → Int32} {lm : Nat → Int64} {m : Nat → Int32} {pm : Nat → Nat} {x1 : Int32} (p0 : g_I m pm) : g_V X (fun r : g_P7 => ((r.1, (r.2.1, s, lm, r.2.2)) : g_Res)) (R_X7_addHelper m pm x1) 0 0 m (s, lm, pm) 0 [(0, .ref (g_ad X 122)), (1, .int x1)] [] := by
  have hN : ∀ i, Nat.blt i 2 = true → i < g_xn X := fun i h => by rw [hn]; exact g_blt.mp h
  obtain ⟨⟨⟨i0a, i0⟩, ⟨i1a, i1⟩, ⟨i2a, i2⟩, ⟨i6a, i6⟩, ⟨i12a, i12⟩, ⟨i90a, i90⟩, i91a, i91⟩, hBo, hPm⟩ := g_I.all p0
  refine r_iload_n O 1 dX7_addHelper_0 rfl rfl ?_
  refine r_bipush (x := 30) O dX7_addHelper_1 rfl ?_
  refine r_sipush (x := 600) O dX7_addHelper_3 rfl ?_
  refine g_if (fun c_6 => ?_) (fun c_6 => ?_)
  · exact r_ySx O Y [.int x1, .int 30, .int 600] [] (bad_X7_requireRange (g_xl X) hs (s, lm, pm) m x1 ((30) : Int32) ((600) : Int32) c_6) LX7_31 rfl rfl rfl dX7_addHelper_6 rfl rfl rfl
  · have e_6a : (30 : Int) ≤ (x1).toInt := j_nltR (fun z => c_6 (Or.inl z)) rfl
    have e_6b : (x1).toInt ≤ (600 : Int) := j_nltL (fun z => c_6 (Or.inr z)) rfl
    refine r_ySv O Y [.int x1, .int 30, .int 600] [] (ok_X7_requireRange (g_xl X) hs (s, lm, pm) m x1 ((30) : Int32) ((600) : Int32) c_6) LX7_31 rfl rfl rfl dX7_addHelper_6 rfl rfl ?_
    refine r_aload_n O 0 dX7_addHelper_9 rfl rfl ?_
    refine r_get O FX7_10 G_122_0 dX7_addHelper_10 ?_
    refine r_get O FX7_83 G_0_3 dX7_addHelper_13 ?_
    refine r_bipush (x := 6) O dX7_addHelper_16 rfl ?_
    have J_26 : ∀ (t0_26 : Int32), g_V X (fun r : g_P7 => ((r.1, (r.2.1, s, lm, r.2.2)) : g_Res)) (R_X7_addHelper_26 m pm x1 t0_26) 1 6 m (s, lm, pm) 26 [(0, .ref (g_ad X 122)), (1, .int x1)] [.int t0_26] := by
      intro t0_26
      refine g_if (fun c_26 => ?_) (fun c_26 => ?_)
      · exact r_ySx O Y [.int t0_26] [] (bad_X7_requirePossible (g_xl X) hs (s, lm, pm) m t0_26 c_26) LX7_62 rfl rfl rfl dX7_addHelper_26 rfl rfl rfl
      · refine r_ySv O Y [.int t0_26] [] (ok_X7_requirePossible (g_xl X) hs (s, lm, pm) m t0_26 c_26) LX7_62 rfl rfl rfl dX7_addHelper_26 rfl rfl ?_
        refine r_aload_n O 0 dX7_addHelper_29 rfl rfl ?_
        refine r_callVv O [] [] (met_X7_save (g_xl X) hs m s lm pm hPm hBo i91a) LX7_38 obj_122 rfl rfl rfl dX7_addHelper_30 rfl rfl ?_
        refine r_aload_n O 0 dX7_addHelper_33 rfl rfl ?_
        refine r_get O FX7_10 G_122_0 dX7_addHelper_34 ?_
        refine r_iload_n O 1 dX7_addHelper_37 rfl rfl ?_
        refine r_callVi O [.int x1] [] (met_X0_addOne (g_xl X) hs (s, lm, ((R_X7_save m pm).2)) ((R_X7_save m pm).1) x1 (by first | decide | with_reducible assumption | with_reducible omega | (simp (disch := omega) only [g_upd_ne, g_upd_eq, fr_X4_fix, fr_X5_put, fr_X1_startAnew, fr_X1_walkTo, fr_X1_arrive, fr_X1_countBelow, fr_X3_set, fr_X0_startWalk, fr_X0_letMinutePass, fr_X3_goUp]; first | with_reducible assumption | with_reducible omega | decide) | (simp (disch := first | omega | with_reducible assumption) only [g_upd_ne, fr_save, fr_X0_takeRope]; first | with_reducible assumption | with_reducible omega) | exact (b_X3_goUp (by with_reducible assumption) (by with_reducible assumption)).1 | exact (b_X3_goUp (by with_reducible assumption) (by with_reducible assumption)).2 | exact Or.inl rfl | exact Or.inr rfl)) LX7_86 obj_0 rfl rfl rfl dX7_addHelper_38 rfl rfl ?_
        exact r_iret O dX7_addHelper_41 rfl (Nat.le_of_ble_eq_true rfl) (Nat.le_of_ble_eq_true rfl) rfl
    refine r_icmp_ge O 25 dX7_addHelper_18 (by decide) (fun c_18 => ?_) (fun c_18 => ?_)
    · have e_18 : (6 : Int) ≤ (m 2).toInt := j_leL c_18 rfl
      refine r_iconst (x := 0) O dX7_addHelper_25 rfl ?_
      exact J_26 0
    · have e_18 : (m 2).toInt < (6 : Int) := j_nleL c_18 rfl
      refine r_iconst (x := 1) O dX7_addHelper_21 rfl ?_
      refine r_goto O 26 dX7_addHelper_22 (by decide) ?_
      exact J_26 1
theorem met_X7_addHelper (l : Launch) (hs : l.stackTraces = false) (s : Nat → Int32) (lm : Nat → Int64) (m : Nat → Int32) (pm : Nat → Nat) (x1 : Int32) (p0 : g_I m pm) : g_SY l yX7_addHelper cX7_addHelper 2 (some .int) ({ frames := 8, cells := 2, slots := 12, locals := 142 } : Room) (fun ad => [.ref (ad 122), .int x1]) m (s, lm, pm) ((fun r : g_P7 => ((r.1, (r.2.1, s, lm, r.2.2)) : g_Res)) (R_X7_addHelper m pm x1)) :=
  g_sy_of (by decide) (fun _ => Nat.le_of_ble_eq_true rfl) (fun X hl hn O Y => walk_X7_addHelper O (by rw [hl]; exact hs) Y hn p0)
def R_X7_setSilence (m : Nat → Int32) (pm : Nat → Nat) (x1 : Int32) (x2 : Int32) : g_P7 := (if x1 < ((0) : Int32) ∨ ((100000) : Int32) < x1 then ((.inr "java/lang/IllegalArgumentException" : Option Value ⊕ String), m, pm) else (if x2 < x1 ∨ ((100000) : Int32) < x2 then ((.inr "java/lang/IllegalArgumentException" : Option Value ⊕ String), m, pm) else ((.inl (some (.int (m 10))) : Option Value ⊕ String), (upd (upd (R_X7_save m pm).1 9 x1) 10 x2), (R_X7_save m pm).2)))
set_option maxRecDepth 100000 in
set_option maxHeartbeats 4000000 in
theorem walk_X7_setSilence {X : g_X} (O : g_ok X cX7_setSilence RX7 (some .int) ({ frames := 8, cells := 2, slots := 12, locals := 142 } : Room)) (hs : (g_xl X).stackTraces = false) (Y : g_Y (g_xs X)) (hn : g_xn X = 4) {s : Nat → Int32} {lm : Nat → Int64} {m : Nat → Int32} {pm : Nat → Nat} {x1 : Int32} {x2 : Int32} (p0 : g_I m pm) : g_V X (fun r : g_P7 => ((r.1, (r.2.1, s, lm, r.2.2)) : g_Res)) (R_X7_setSilence m pm x1 x2) 0 0 m (s, lm, pm) 0 [(0, .ref (g_ad X 122)), (1, .int x1), (2, .int x2)] [] := by
  have hN : ∀ i, Nat.blt i 4 = true → i < g_xn X := fun i h => by rw [hn]; exact g_blt.mp h
  obtain ⟨⟨⟨i0a, i0⟩, ⟨i1a, i1⟩, ⟨i2a, i2⟩, ⟨i6a, i6⟩, ⟨i12a, i12⟩, ⟨i90a, i90⟩, i91a, i91⟩, hBo, hPm⟩ := g_I.all p0
  refine r_iload_n O 1 dX7_setSilence_0 rfl rfl ?_
  refine r_iconst (x := 0) O dX7_setSilence_1 rfl ?_
  refine r_ldc O dX7_setSilence_2 w_con_X7_87 ?_
  refine g_if (fun c_4 => ?_) (fun c_4 => ?_)
  · exact r_ySx O Y [.int x1, .int 0, .int 100000] [] (bad_X7_requireRange (g_xl X) hs (s, lm, pm) m x1 ((0) : Int32) ((100000) : Int32) c_4) LX7_31 rfl rfl rfl dX7_setSilence_4 rfl rfl rfl
  · have e_4a : (0 : Int) ≤ (x1).toInt := j_nltR (fun z => c_4 (Or.inl z)) rfl
    have e_4b : (x1).toInt ≤ (100000 : Int) := j_nltL (fun z => c_4 (Or.inr z)) rfl
    refine r_ySv O Y [.int x1, .int 0, .int 100000] [] (ok_X7_requireRange (g_xl X) hs (s, lm, pm) m x1 ((0) : Int32) ((100000) : Int32) c_4) LX7_31 rfl rfl rfl dX7_setSilence_4 rfl rfl ?_
    refine r_iload_n O 2 dX7_setSilence_7 rfl rfl ?_
    refine r_iload_n O 1 dX7_setSilence_8 rfl rfl ?_
    refine r_ldc O dX7_setSilence_9 w_con_X7_87 ?_
    refine g_if (fun c_11 => ?_) (fun c_11 => ?_)
    · exact r_ySx O Y [.int x2, .int x1, .int 100000] [] (bad_X7_requireRange (g_xl X) hs (s, lm, pm) m x2 x1 ((100000) : Int32) c_11) LX7_31 rfl rfl rfl dX7_setSilence_11 rfl rfl rfl
    · have e_11a : (x1).toInt ≤ (x2).toInt := j_nlt (fun z => c_11 (Or.inl z))
      have e_11b : (x2).toInt ≤ (100000 : Int) := j_nltL (fun z => c_11 (Or.inr z)) rfl
      refine r_ySv O Y [.int x2, .int x1, .int 100000] [] (ok_X7_requireRange (g_xl X) hs (s, lm, pm) m x2 x1 ((100000) : Int32) c_11) LX7_31 rfl rfl rfl dX7_setSilence_11 rfl rfl ?_
      refine r_aload_n O 0 dX7_setSilence_14 rfl rfl ?_
      refine r_get O FX7_10 G_122_0 dX7_setSilence_15 ?_
      refine r_get O FX7_88 G_0_10 dX7_setSilence_18 ?_
      refine r_istore_n (lc' := [(3, .int (m 10)), (0, .ref (g_ad X 122)), (1, .int x1), (2, .int x2)]) O dX7_setSilence_21 rfl (hN 3 rfl) rfl ?_
      refine r_aload_n O 1 dX7_setSilence_22 rfl rfl ?_
      refine r_callVv O [] [] (met_X7_save (g_xl X) hs m s lm pm hPm hBo i91a) LX7_38 obj_122 rfl rfl rfl dX7_setSilence_23 rfl rfl ?_
      refine r_aload_n O 1 dX7_setSilence_26 rfl rfl ?_
      refine r_get O FX7_10 G_122_0 dX7_setSilence_27 ?_
      refine r_iload_n O 2 dX7_setSilence_30 rfl rfl ?_
      refine r_put O (FPX7_91 x1) (S_0_9 x1) dX7_setSilence_31 ?_
      refine r_aload_n O 1 dX7_setSilence_34 rfl rfl ?_
      refine r_get O FX7_10 G_122_0 dX7_setSilence_35 ?_
      refine r_iload_n O 3 dX7_setSilence_38 rfl rfl ?_
      refine r_put O (FPX7_88 x2) (S_0_10 x2) dX7_setSilence_39 ?_
      refine r_iload_n O 0 dX7_setSilence_42 rfl rfl ?_
      exact r_iret O dX7_setSilence_43 rfl (Nat.le_of_ble_eq_true rfl) (Nat.le_of_ble_eq_true rfl) rfl
theorem met_X7_setSilence (l : Launch) (hs : l.stackTraces = false) (s : Nat → Int32) (lm : Nat → Int64) (m : Nat → Int32) (pm : Nat → Nat) (x1 : Int32) (x2 : Int32) (p0 : g_I m pm) : g_SY l yX7_setSilence cX7_setSilence 4 (some .int) ({ frames := 8, cells := 2, slots := 12, locals := 142 } : Room) (fun ad => [.ref (ad 122), .int x1, .int x2]) m (s, lm, pm) ((fun r : g_P7 => ((r.1, (r.2.1, s, lm, r.2.2)) : g_Res)) (R_X7_setSilence m pm x1 x2)) :=
  g_sy_of (by decide) (fun _ => Nat.le_of_ble_eq_true rfl) (fun X hl hn O Y => walk_X7_setSilence O (by rw [hl]; exact hs) Y hn p0)
def R_X7_go (m : Nat → Int32) (pm : Nat → Nat) (x1 : Int32) (x2 : Int32) : g_P7 := (if x1 < 0 ∨ (m 2) ≤ x1 then ((.inr "java/lang/IndexOutOfBoundsException" : Option Value ⊕ String), m, pm) else (if (R_X0_canWalk m x1 x2) = 0 then ((.inr "java/lang/IllegalStateException" : Option Value ⊕ String), m, pm) else ((.inl (some (.int ((R_X0_startWalk ((R_X7_save m pm).1) x1 x2).1))) : Option Value ⊕ String), (R_X0_startWalk ((R_X7_save m pm).1) x1 x2).2, (R_X7_save m pm).2)))
set_option maxRecDepth 100000 in
set_option maxHeartbeats 4000000 in
theorem walk_X7_go {X : g_X} (O : g_ok X cX7_go RX7 (some .int) ({ frames := 7, cells := 2, slots := 12, locals := 111 } : Room)) (hs : (g_xl X).stackTraces = false) (Y : g_Y (g_xs X)) (hn : g_xn X = 3) {s : Nat → Int32} {lm : Nat → Int64} {m : Nat → Int32} {pm : Nat → Nat} {x1 : Int32} {x2 : Int32} (p0 : g_I m pm) : g_V X (fun r : g_P7 => ((r.1, (r.2.1, s, lm, r.2.2)) : g_Res)) (R_X7_go m pm x1 x2) 0 0 m (s, lm, pm) 0 [(0, .ref (g_ad X 122)), (1, .int x1), (2, .int x2)] [] := by
  have hN : ∀ i, Nat.blt i 3 = true → i < g_xn X := fun i h => by rw [hn]; exact g_blt.mp h
  obtain ⟨⟨⟨i0a, i0⟩, ⟨i1a, i1⟩, ⟨i2a, i2⟩, ⟨i6a, i6⟩, ⟨i12a, i12⟩, ⟨i90a, i90⟩, i91a, i91⟩, hBo, hPm⟩ := g_I.all p0
  refine r_iload_n O 1 dX7_go_0 rfl rfl ?_
  refine r_aload_n O 0 dX7_go_1 rfl rfl ?_
  refine r_get O FX7_10 G_122_0 dX7_go_2 ?_
  refine r_get O FX7_83 G_0_3 dX7_go_5 ?_
  refine g_if (fun c_8 => ?_) (fun c_8 => ?_)
  · exact r_ySx O Y [.int x1, .int (m 2)] [] (bad_X7_requireIndex (g_xl X) hs (s, lm, pm) m x1 (m 2) c_8) LX7_54 rfl rfl rfl dX7_go_8 rfl rfl rfl
  · have e_8a : 0 ≤ (x1).toInt := j_nltR (fun z => c_8 (Or.inl z)) rfl
    have e_8b : (x1).toInt < (m 2).toInt := j_nle (fun z => c_8 (Or.inr z))
    refine r_ySv O Y [.int x1, .int (m 2)] [] (ok_X7_requireIndex (g_xl X) hs (s, lm, pm) m x1 (m 2) c_8) LX7_54 rfl rfl rfl dX7_go_8 rfl rfl ?_
    refine r_aload_n O 0 dX7_go_11 rfl rfl ?_
    refine r_get O FX7_10 G_122_0 dX7_go_12 ?_
    refine r_iload_n O 1 dX7_go_15 rfl rfl ?_
    refine r_iload_n O 2 dX7_go_16 rfl rfl ?_
    refine r_callVi O [.int x1, .int x2] [] (met_X0_canWalk (g_xl X) hs (s, lm, pm) m x1 x2 (by first | decide | with_reducible assumption | with_reducible omega | (simp (disch := omega) only [g_upd_ne, g_upd_eq, fr_X4_fix, fr_X5_put, fr_X1_startAnew, fr_X1_walkTo, fr_X1_arrive, fr_X1_countBelow, fr_X3_set, fr_X0_startWalk, fr_X0_letMinutePass, fr_X3_goUp]; first | with_reducible assumption | with_reducible omega | decide) | (simp (disch := first | omega | with_reducible assumption) only [g_upd_ne, fr_save, fr_X0_takeRope]; first | with_reducible assumption | with_reducible omega) | exact (b_X3_goUp (by with_reducible assumption) (by with_reducible assumption)).1 | exact (b_X3_goUp (by with_reducible assumption) (by with_reducible assumption)).2 | exact Or.inl rfl | exact Or.inr rfl) (by first | decide | with_reducible assumption | with_reducible omega | (simp (disch := omega) only [g_upd_ne, g_upd_eq, fr_X4_fix, fr_X5_put, fr_X1_startAnew, fr_X1_walkTo, fr_X1_arrive, fr_X1_countBelow, fr_X3_set, fr_X0_startWalk, fr_X0_letMinutePass, fr_X3_goUp]; first | with_reducible assumption | with_reducible omega | decide) | (simp (disch := first | omega | with_reducible assumption) only [g_upd_ne, fr_save, fr_X0_takeRope]; first | with_reducible assumption | with_reducible omega) | exact (b_X3_goUp (by with_reducible assumption) (by with_reducible assumption)).1 | exact (b_X3_goUp (by with_reducible assumption) (by with_reducible assumption)).2 | exact Or.inl rfl | exact Or.inr rfl)) LX7_94 obj_0 rfl rfl rfl dX7_go_17 rfl rfl ?_
    refine g_if (fun c_20 => ?_) (fun c_20 => ?_)
    · exact r_ySx O Y [.int (R_X0_canWalk m x1 x2)] [] (bad_X7_requirePossible (g_xl X) hs (s, lm, pm) m (R_X0_canWalk m x1 x2) c_20) LX7_62 rfl rfl rfl dX7_go_20 rfl rfl rfl
    · refine r_ySv O Y [.int (R_X0_canWalk m x1 x2)] [] (ok_X7_requirePossible (g_xl X) hs (s, lm, pm) m (R_X0_canWalk m x1 x2) c_20) LX7_62 rfl rfl rfl dX7_go_20 rfl rfl ?_
      refine r_aload_n O 0 dX7_go_23 rfl rfl ?_
      refine r_callVv O [] [] (met_X7_save (g_xl X) hs m s lm pm hPm hBo i91a) LX7_38 obj_122 rfl rfl rfl dX7_go_24 rfl rfl ?_
      refine r_aload_n O 0 dX7_go_27 rfl rfl ?_
      refine r_get O FX7_10 G_122_0 dX7_go_28 ?_
      refine r_iload_n O 1 dX7_go_31 rfl rfl ?_
      refine r_iload_n O 2 dX7_go_32 rfl rfl ?_
      refine r_callVi O [.int x1, .int x2] [] (met_X0_startWalk (g_xl X) hs (s, lm, ((R_X7_save m pm).2)) ((R_X7_save m pm).1) x1 x2 (by first | decide | with_reducible assumption | with_reducible omega | (simp (disch := omega) only [g_upd_ne, g_upd_eq, fr_X4_fix, fr_X5_put, fr_X1_startAnew, fr_X1_walkTo, fr_X1_arrive, fr_X1_countBelow, fr_X3_set, fr_X0_startWalk, fr_X0_letMinutePass, fr_X3_goUp]; first | with_reducible assumption | with_reducible omega | decide) | (simp (disch := first | omega | with_reducible assumption) only [g_upd_ne, fr_save, fr_X0_takeRope]; first | with_reducible assumption | with_reducible omega) | exact (b_X3_goUp (by with_reducible assumption) (by with_reducible assumption)).1 | exact (b_X3_goUp (by with_reducible assumption) (by with_reducible assumption)).2 | exact Or.inl rfl | exact Or.inr rfl) (by first | decide | with_reducible assumption | with_reducible omega | (simp (disch := omega) only [g_upd_ne, g_upd_eq, fr_X4_fix, fr_X5_put, fr_X1_startAnew, fr_X1_walkTo, fr_X1_arrive, fr_X1_countBelow, fr_X3_set, fr_X0_startWalk, fr_X0_letMinutePass, fr_X3_goUp]; first | with_reducible assumption | with_reducible omega | decide) | (simp (disch := first | omega | with_reducible assumption) only [g_upd_ne, fr_save, fr_X0_takeRope]; first | with_reducible assumption | with_reducible omega) | exact (b_X3_goUp (by with_reducible assumption) (by with_reducible assumption)).1 | exact (b_X3_goUp (by with_reducible assumption) (by with_reducible assumption)).2 | exact Or.inl rfl | exact Or.inr rfl) (by first | decide | with_reducible assumption | with_reducible omega | (simp (disch := omega) only [g_upd_ne, g_upd_eq, fr_X4_fix, fr_X5_put, fr_X1_startAnew, fr_X1_walkTo, fr_X1_arrive, fr_X1_countBelow, fr_X3_set, fr_X0_startWalk, fr_X0_letMinutePass, fr_X3_goUp]; first | with_reducible assumption | with_reducible omega | decide) | (simp (disch := first | omega | with_reducible assumption) only [g_upd_ne, fr_save, fr_X0_takeRope]; first | with_reducible assumption | with_reducible omega) | exact (b_X3_goUp (by with_reducible assumption) (by with_reducible assumption)).1 | exact (b_X3_goUp (by with_reducible assumption) (by with_reducible assumption)).2 | exact Or.inl rfl | exact Or.inr rfl)) LX7_98 obj_0 rfl rfl rfl dX7_go_33 rfl rfl ?_
      exact r_iret O dX7_go_36 rfl (Nat.le_of_ble_eq_true rfl) (Nat.le_of_ble_eq_true rfl) rfl
theorem met_X7_go (l : Launch) (hs : l.stackTraces = false) (s : Nat → Int32) (lm : Nat → Int64) (m : Nat → Int32) (pm : Nat → Nat) (x1 : Int32) (x2 : Int32) (p0 : g_I m pm) : g_SY l yX7_go cX7_go 3 (some .int) ({ frames := 7, cells := 2, slots := 12, locals := 111 } : Room) (fun ad => [.ref (ad 122), .int x1, .int x2]) m (s, lm, pm) ((fun r : g_P7 => ((r.1, (r.2.1, s, lm, r.2.2)) : g_Res)) (R_X7_go m pm x1 x2)) :=
  g_sy_of (by decide) (fun _ => Nat.le_of_ble_eq_true rfl) (fun X hl hn O Y => walk_X7_go O (by rw [hl]; exact hs) Y hn p0)
def R_X7_take (m : Nat → Int32) (pm : Nat → Nat) (x1 : Int32) (x2 : Int32) : g_P7 := (if x1 < 0 ∨ (m 2) ≤ x1 then ((.inr "java/lang/IndexOutOfBoundsException" : Option Value ⊕ String), m, pm) else (if x2 < 0 ∨ (m 1) ≤ x2 then ((.inr "java/lang/IndexOutOfBoundsException" : Option Value ⊕ String), m, pm) else (if (R_X0_canTake m x1 x2) = 0 then ((.inr "java/lang/IllegalStateException" : Option Value ⊕ String), m, pm) else ((.inl (some (.int (R_X5_lengthOf (R_X0_takeRope ((R_X7_save m pm).1) x1 x2) x2))) : Option Value ⊕ String), (R_X0_takeRope ((R_X7_save m pm).1) x1 x2), (R_X7_save m pm).2))))
set_option maxRecDepth 100000 in
set_option maxHeartbeats 4000000 in
theorem walk_X7_take {X : g_X} (O : g_ok X cX7_take RX7 (some .int) ({ frames := 7, cells := 3, slots := 18, locals := 111 } : Room)) (hs : (g_xl X).stackTraces = false) (Y : g_Y (g_xs X)) (hn : g_xn X = 3) {s : Nat → Int32} {lm : Nat → Int64} {m : Nat → Int32} {pm : Nat → Nat} {x1 : Int32} {x2 : Int32} (p0 : g_I m pm) : g_V X (fun r : g_P7 => ((r.1, (r.2.1, s, lm, r.2.2)) : g_Res)) (R_X7_take m pm x1 x2) 0 0 m (s, lm, pm) 0 [(0, .ref (g_ad X 122)), (1, .int x1), (2, .int x2)] [] := by
  have hN : ∀ i, Nat.blt i 3 = true → i < g_xn X := fun i h => by rw [hn]; exact g_blt.mp h
  obtain ⟨⟨⟨i0a, i0⟩, ⟨i1a, i1⟩, ⟨i2a, i2⟩, ⟨i6a, i6⟩, ⟨i12a, i12⟩, ⟨i90a, i90⟩, i91a, i91⟩, hBo, hPm⟩ := g_I.all p0
  refine r_iload_n O 1 dX7_take_0 rfl rfl ?_
  refine r_aload_n O 0 dX7_take_1 rfl rfl ?_
  refine r_get O FX7_10 G_122_0 dX7_take_2 ?_
  refine r_get O FX7_83 G_0_3 dX7_take_5 ?_
  refine g_if (fun c_8 => ?_) (fun c_8 => ?_)
  · exact r_ySx O Y [.int x1, .int (m 2)] [] (bad_X7_requireIndex (g_xl X) hs (s, lm, pm) m x1 (m 2) c_8) LX7_54 rfl rfl rfl dX7_take_8 rfl rfl rfl
  · have e_8a : 0 ≤ (x1).toInt := j_nltR (fun z => c_8 (Or.inl z)) rfl
    have e_8b : (x1).toInt < (m 2).toInt := j_nle (fun z => c_8 (Or.inr z))
    refine r_ySv O Y [.int x1, .int (m 2)] [] (ok_X7_requireIndex (g_xl X) hs (s, lm, pm) m x1 (m 2) c_8) LX7_54 rfl rfl rfl dX7_take_8 rfl rfl ?_
    refine r_iload_n O 2 dX7_take_11 rfl rfl ?_
    refine r_aload_n O 0 dX7_take_12 rfl rfl ?_
    refine r_get O FX7_10 G_122_0 dX7_take_13 ?_
    refine r_get O FX7_73 G_0_1 dX7_take_16 ?_
    refine r_get O FX7_77 G_5_3 dX7_take_19 ?_
    refine g_if (fun c_22 => ?_) (fun c_22 => ?_)
    · exact r_ySx O Y [.int x2, .int (m 1)] [] (bad_X7_requireIndex (g_xl X) hs (s, lm, pm) m x2 (m 1) c_22) LX7_54 rfl rfl rfl dX7_take_22 rfl rfl rfl
    · have e_22a : 0 ≤ (x2).toInt := j_nltR (fun z => c_22 (Or.inl z)) rfl
      have e_22b : (x2).toInt < (m 1).toInt := j_nle (fun z => c_22 (Or.inr z))
      refine r_ySv O Y [.int x2, .int (m 1)] [] (ok_X7_requireIndex (g_xl X) hs (s, lm, pm) m x2 (m 1) c_22) LX7_54 rfl rfl rfl dX7_take_22 rfl rfl ?_
      refine r_aload_n O 0 dX7_take_25 rfl rfl ?_
      refine r_get O FX7_10 G_122_0 dX7_take_26 ?_
      refine r_iload_n O 1 dX7_take_29 rfl rfl ?_
      refine r_iload_n O 2 dX7_take_30 rfl rfl ?_
      refine r_callVi O [.int x1, .int x2] [] (met_X0_canTake (g_xl X) hs (s, lm, pm) m x1 x2 (by first | decide | with_reducible assumption | with_reducible omega | (simp (disch := omega) only [g_upd_ne, g_upd_eq, fr_X4_fix, fr_X5_put, fr_X1_startAnew, fr_X1_walkTo, fr_X1_arrive, fr_X1_countBelow, fr_X3_set, fr_X0_startWalk, fr_X0_letMinutePass, fr_X3_goUp]; first | with_reducible assumption | with_reducible omega | decide) | (simp (disch := first | omega | with_reducible assumption) only [g_upd_ne, fr_save, fr_X0_takeRope]; first | with_reducible assumption | with_reducible omega) | exact (b_X3_goUp (by with_reducible assumption) (by with_reducible assumption)).1 | exact (b_X3_goUp (by with_reducible assumption) (by with_reducible assumption)).2 | exact Or.inl rfl | exact Or.inr rfl) (by first | decide | with_reducible assumption | with_reducible omega | (simp (disch := omega) only [g_upd_ne, g_upd_eq, fr_X4_fix, fr_X5_put, fr_X1_startAnew, fr_X1_walkTo, fr_X1_arrive, fr_X1_countBelow, fr_X3_set, fr_X0_startWalk, fr_X0_letMinutePass, fr_X3_goUp]; first | with_reducible assumption | with_reducible omega | decide) | (simp (disch := first | omega | with_reducible assumption) only [g_upd_ne, fr_save, fr_X0_takeRope]; first | with_reducible assumption | with_reducible omega) | exact (b_X3_goUp (by with_reducible assumption) (by with_reducible assumption)).1 | exact (b_X3_goUp (by with_reducible assumption) (by with_reducible assumption)).2 | exact Or.inl rfl | exact Or.inr rfl)) LX7_102 obj_0 rfl rfl rfl dX7_take_31 rfl rfl ?_
      refine g_if (fun c_34 => ?_) (fun c_34 => ?_)
      · exact r_ySx O Y [.int (R_X0_canTake m x1 x2)] [] (bad_X7_requirePossible (g_xl X) hs (s, lm, pm) m (R_X0_canTake m x1 x2) c_34) LX7_62 rfl rfl rfl dX7_take_34 rfl rfl rfl
      · refine r_ySv O Y [.int (R_X0_canTake m x1 x2)] [] (ok_X7_requirePossible (g_xl X) hs (s, lm, pm) m (R_X0_canTake m x1 x2) c_34) LX7_62 rfl rfl rfl dX7_take_34 rfl rfl ?_
        refine r_aload_n O 0 dX7_take_37 rfl rfl ?_
        refine r_callVv O [] [] (met_X7_save (g_xl X) hs m s lm pm hPm hBo i91a) LX7_38 obj_122 rfl rfl rfl dX7_take_38 rfl rfl ?_
        refine r_aload_n O 0 dX7_take_41 rfl rfl ?_
        refine r_get O FX7_10 G_122_0 dX7_take_42 ?_
        refine r_iload_n O 1 dX7_take_45 rfl rfl ?_
        refine r_iload_n O 2 dX7_take_46 rfl rfl ?_
        refine r_callVv O [.int x1, .int x2] [] (met_X0_takeRope (g_xl X) hs (s, lm, ((R_X7_save m pm).2)) ((R_X7_save m pm).1) x1 x2 (by first | decide | with_reducible assumption | with_reducible omega | (simp (disch := omega) only [g_upd_ne, g_upd_eq, fr_X4_fix, fr_X5_put, fr_X1_startAnew, fr_X1_walkTo, fr_X1_arrive, fr_X1_countBelow, fr_X3_set, fr_X0_startWalk, fr_X0_letMinutePass, fr_X3_goUp]; first | with_reducible assumption | with_reducible omega | decide) | (simp (disch := first | omega | with_reducible assumption) only [g_upd_ne, fr_save, fr_X0_takeRope]; first | with_reducible assumption | with_reducible omega) | exact (b_X3_goUp (by with_reducible assumption) (by with_reducible assumption)).1 | exact (b_X3_goUp (by with_reducible assumption) (by with_reducible assumption)).2 | exact Or.inl rfl | exact Or.inr rfl) (by first | decide | with_reducible assumption | with_reducible omega | (simp (disch := omega) only [g_upd_ne, g_upd_eq, fr_X4_fix, fr_X5_put, fr_X1_startAnew, fr_X1_walkTo, fr_X1_arrive, fr_X1_countBelow, fr_X3_set, fr_X0_startWalk, fr_X0_letMinutePass, fr_X3_goUp]; first | with_reducible assumption | with_reducible omega | decide) | (simp (disch := first | omega | with_reducible assumption) only [g_upd_ne, fr_save, fr_X0_takeRope]; first | with_reducible assumption | with_reducible omega) | exact (b_X3_goUp (by with_reducible assumption) (by with_reducible assumption)).1 | exact (b_X3_goUp (by with_reducible assumption) (by with_reducible assumption)).2 | exact Or.inl rfl | exact Or.inr rfl) (by first | decide | with_reducible assumption | with_reducible omega | (simp (disch := omega) only [g_upd_ne, g_upd_eq, fr_X4_fix, fr_X5_put, fr_X1_startAnew, fr_X1_walkTo, fr_X1_arrive, fr_X1_countBelow, fr_X3_set, fr_X0_startWalk, fr_X0_letMinutePass, fr_X3_goUp]; first | with_reducible assumption | with_reducible omega | decide) | (simp (disch := first | omega | with_reducible assumption) only [g_upd_ne, fr_save, fr_X0_takeRope]; first | with_reducible assumption | with_reducible omega) | exact (b_X3_goUp (by with_reducible assumption) (by with_reducible assumption)).1 | exact (b_X3_goUp (by with_reducible assumption) (by with_reducible assumption)).2 | exact Or.inl rfl | exact Or.inr rfl)) LX7_105 obj_0 rfl rfl rfl dX7_take_47 rfl rfl ?_
        refine r_aload_n O 0 dX7_take_50 rfl rfl ?_
        refine r_get O FX7_10 G_122_0 dX7_take_51 ?_
        refine r_get O FX7_73 G_0_1 dX7_take_54 ?_
        refine r_iload_n O 2 dX7_take_57 rfl rfl ?_
        refine r_callVi O [.int x2] [] (met_X5_lengthOf (g_xl X) hs (s, lm, ((R_X7_save m pm).2)) (R_X0_takeRope ((R_X7_save m pm).1) x1 x2) x2 (by first | decide | with_reducible assumption | with_reducible omega | (simp (disch := omega) only [g_upd_ne, g_upd_eq, fr_X4_fix, fr_X5_put, fr_X1_startAnew, fr_X1_walkTo, fr_X1_arrive, fr_X1_countBelow, fr_X3_set, fr_X0_startWalk, fr_X0_letMinutePass, fr_X3_goUp]; first | with_reducible assumption | with_reducible omega | decide) | (simp (disch := first | omega | with_reducible assumption) only [g_upd_ne, fr_save, fr_X0_takeRope]; first | with_reducible assumption | with_reducible omega) | exact (b_X3_goUp (by with_reducible assumption) (by with_reducible assumption)).1 | exact (b_X3_goUp (by with_reducible assumption) (by with_reducible assumption)).2 | exact Or.inl rfl | exact Or.inr rfl)) LX7_108 obj_5 rfl rfl rfl dX7_take_58 rfl rfl ?_
        exact r_iret O dX7_take_61 rfl (Nat.le_of_ble_eq_true rfl) (Nat.le_of_ble_eq_true rfl) rfl
theorem met_X7_take (l : Launch) (hs : l.stackTraces = false) (s : Nat → Int32) (lm : Nat → Int64) (m : Nat → Int32) (pm : Nat → Nat) (x1 : Int32) (x2 : Int32) (p0 : g_I m pm) : g_SY l yX7_take cX7_take 3 (some .int) ({ frames := 7, cells := 3, slots := 18, locals := 111 } : Room) (fun ad => [.ref (ad 122), .int x1, .int x2]) m (s, lm, pm) ((fun r : g_P7 => ((r.1, (r.2.1, s, lm, r.2.2)) : g_Res)) (R_X7_take m pm x1 x2)) :=
  g_sy_of (by decide) (fun _ => Nat.le_of_ble_eq_true rfl) (fun X hl hn O Y => walk_X7_take O (by rw [hl]; exact hs) Y hn p0)
def R_X7_lay (m : Nat → Int32) (pm : Nat → Nat) (x1 : Int32) : g_P7 := (if x1 < 0 ∨ (m 2) ≤ x1 then ((.inr "java/lang/IndexOutOfBoundsException" : Option Value ⊕ String), m, pm) else (if (R_X0_canLay m x1) = 0 then ((.inr "java/lang/IllegalStateException" : Option Value ⊕ String), m, pm) else ((.inl (some (.int ((R_X0_layRope ((R_X7_save m pm).1) x1).1))) : Option Value ⊕ String), (R_X0_layRope ((R_X7_save m pm).1) x1).2, (R_X7_save m pm).2)))
set_option maxRecDepth 100000 in
set_option maxHeartbeats 4000000 in
theorem walk_X7_lay {X : g_X} (O : g_ok X cX7_lay RX7 (some .int) ({ frames := 7, cells := 2, slots := 12, locals := 111 } : Room)) (hs : (g_xl X).stackTraces = false) (Y : g_Y (g_xs X)) (hn : g_xn X = 2) {s : Nat → Int32} {lm : Nat → Int64} {m : Nat → Int32} {pm : Nat → Nat} {x1 : Int32} (p0 : g_I m pm) : g_V X (fun r : g_P7 => ((r.1, (r.2.1, s, lm, r.2.2)) : g_Res)) (R_X7_lay m pm x1) 0 0 m (s, lm, pm) 0 [(0, .ref (g_ad X 122)), (1, .int x1)] [] := by
  have hN : ∀ i, Nat.blt i 2 = true → i < g_xn X := fun i h => by rw [hn]; exact g_blt.mp h
  obtain ⟨⟨⟨i0a, i0⟩, ⟨i1a, i1⟩, ⟨i2a, i2⟩, ⟨i6a, i6⟩, ⟨i12a, i12⟩, ⟨i90a, i90⟩, i91a, i91⟩, hBo, hPm⟩ := g_I.all p0
  refine r_iload_n O 1 dX7_lay_0 rfl rfl ?_
  refine r_aload_n O 0 dX7_lay_1 rfl rfl ?_
  refine r_get O FX7_10 G_122_0 dX7_lay_2 ?_
  refine r_get O FX7_83 G_0_3 dX7_lay_5 ?_
  refine g_if (fun c_8 => ?_) (fun c_8 => ?_)
  · exact r_ySx O Y [.int x1, .int (m 2)] [] (bad_X7_requireIndex (g_xl X) hs (s, lm, pm) m x1 (m 2) c_8) LX7_54 rfl rfl rfl dX7_lay_8 rfl rfl rfl
  · have e_8a : 0 ≤ (x1).toInt := j_nltR (fun z => c_8 (Or.inl z)) rfl
    have e_8b : (x1).toInt < (m 2).toInt := j_nle (fun z => c_8 (Or.inr z))
    refine r_ySv O Y [.int x1, .int (m 2)] [] (ok_X7_requireIndex (g_xl X) hs (s, lm, pm) m x1 (m 2) c_8) LX7_54 rfl rfl rfl dX7_lay_8 rfl rfl ?_
    refine r_aload_n O 0 dX7_lay_11 rfl rfl ?_
    refine r_get O FX7_10 G_122_0 dX7_lay_12 ?_
    refine r_iload_n O 1 dX7_lay_15 rfl rfl ?_
    refine r_callVi O [.int x1] [] (met_X0_canLay (g_xl X) hs (s, lm, pm) m x1 (by first | decide | with_reducible assumption | with_reducible omega | (simp (disch := omega) only [g_upd_ne, g_upd_eq, fr_X4_fix, fr_X5_put, fr_X1_startAnew, fr_X1_walkTo, fr_X1_arrive, fr_X1_countBelow, fr_X3_set, fr_X0_startWalk, fr_X0_letMinutePass, fr_X3_goUp]; first | with_reducible assumption | with_reducible omega | decide) | (simp (disch := first | omega | with_reducible assumption) only [g_upd_ne, fr_save, fr_X0_takeRope]; first | with_reducible assumption | with_reducible omega) | exact (b_X3_goUp (by with_reducible assumption) (by with_reducible assumption)).1 | exact (b_X3_goUp (by with_reducible assumption) (by with_reducible assumption)).2 | exact Or.inl rfl | exact Or.inr rfl)) LX7_111 obj_0 rfl rfl rfl dX7_lay_16 rfl rfl ?_
    refine g_if (fun c_19 => ?_) (fun c_19 => ?_)
    · exact r_ySx O Y [.int (R_X0_canLay m x1)] [] (bad_X7_requirePossible (g_xl X) hs (s, lm, pm) m (R_X0_canLay m x1) c_19) LX7_62 rfl rfl rfl dX7_lay_19 rfl rfl rfl
    · refine r_ySv O Y [.int (R_X0_canLay m x1)] [] (ok_X7_requirePossible (g_xl X) hs (s, lm, pm) m (R_X0_canLay m x1) c_19) LX7_62 rfl rfl rfl dX7_lay_19 rfl rfl ?_
      refine r_aload_n O 0 dX7_lay_22 rfl rfl ?_
      refine r_callVv O [] [] (met_X7_save (g_xl X) hs m s lm pm hPm hBo i91a) LX7_38 obj_122 rfl rfl rfl dX7_lay_23 rfl rfl ?_
      refine r_aload_n O 0 dX7_lay_26 rfl rfl ?_
      refine r_get O FX7_10 G_122_0 dX7_lay_27 ?_
      refine r_iload_n O 1 dX7_lay_30 rfl rfl ?_
      refine r_callVi O [.int x1] [] (met_X0_layRope (g_xl X) hs (s, lm, ((R_X7_save m pm).2)) ((R_X7_save m pm).1) x1 (by first | decide | with_reducible assumption | with_reducible omega | (simp (disch := omega) only [g_upd_ne, g_upd_eq, fr_X4_fix, fr_X5_put, fr_X1_startAnew, fr_X1_walkTo, fr_X1_arrive, fr_X1_countBelow, fr_X3_set, fr_X0_startWalk, fr_X0_letMinutePass, fr_X3_goUp]; first | with_reducible assumption | with_reducible omega | decide) | (simp (disch := first | omega | with_reducible assumption) only [g_upd_ne, fr_save, fr_X0_takeRope]; first | with_reducible assumption | with_reducible omega) | exact (b_X3_goUp (by with_reducible assumption) (by with_reducible assumption)).1 | exact (b_X3_goUp (by with_reducible assumption) (by with_reducible assumption)).2 | exact Or.inl rfl | exact Or.inr rfl) (by first | decide | with_reducible assumption | with_reducible omega | (simp (disch := omega) only [g_upd_ne, g_upd_eq, fr_X4_fix, fr_X5_put, fr_X1_startAnew, fr_X1_walkTo, fr_X1_arrive, fr_X1_countBelow, fr_X3_set, fr_X0_startWalk, fr_X0_letMinutePass, fr_X3_goUp]; first | with_reducible assumption | with_reducible omega | decide) | (simp (disch := first | omega | with_reducible assumption) only [g_upd_ne, fr_save, fr_X0_takeRope]; first | with_reducible assumption | with_reducible omega) | exact (b_X3_goUp (by with_reducible assumption) (by with_reducible assumption)).1 | exact (b_X3_goUp (by with_reducible assumption) (by with_reducible assumption)).2 | exact Or.inl rfl | exact Or.inr rfl) (by first | decide | with_reducible assumption | with_reducible omega | (simp (disch := omega) only [g_upd_ne, g_upd_eq, fr_X4_fix, fr_X5_put, fr_X1_startAnew, fr_X1_walkTo, fr_X1_arrive, fr_X1_countBelow, fr_X3_set, fr_X0_startWalk, fr_X0_letMinutePass, fr_X3_goUp]; first | with_reducible assumption | with_reducible omega | decide) | (simp (disch := first | omega | with_reducible assumption) only [g_upd_ne, fr_save, fr_X0_takeRope]; first | with_reducible assumption | with_reducible omega) | exact (b_X3_goUp (by with_reducible assumption) (by with_reducible assumption)).1 | exact (b_X3_goUp (by with_reducible assumption) (by with_reducible assumption)).2 | exact Or.inl rfl | exact Or.inr rfl)) LX7_114 obj_0 rfl rfl rfl dX7_lay_31 rfl rfl ?_
      exact r_iret O dX7_lay_34 rfl (Nat.le_of_ble_eq_true rfl) (Nat.le_of_ble_eq_true rfl) rfl
theorem met_X7_lay (l : Launch) (hs : l.stackTraces = false) (s : Nat → Int32) (lm : Nat → Int64) (m : Nat → Int32) (pm : Nat → Nat) (x1 : Int32) (p0 : g_I m pm) : g_SY l yX7_lay cX7_lay 2 (some .int) ({ frames := 7, cells := 2, slots := 12, locals := 111 } : Room) (fun ad => [.ref (ad 122), .int x1]) m (s, lm, pm) ((fun r : g_P7 => ((r.1, (r.2.1, s, lm, r.2.2)) : g_Res)) (R_X7_lay m pm x1)) :=
  g_sy_of (by decide) (fun _ => Nat.le_of_ble_eq_true rfl) (fun X hl hn O Y => walk_X7_lay O (by rw [hl]; exact hs) Y hn p0)
def R_X7_rig (m : Nat → Int32) (pm : Nat → Nat) (x1 : Int32) : g_P7 := (if x1 < 0 ∨ (m 2) ≤ x1 then ((.inr "java/lang/IndexOutOfBoundsException" : Option Value ⊕ String), m, pm) else (if (R_X0_canRig m x1) = 0 then ((.inr "java/lang/IllegalStateException" : Option Value ⊕ String), m, pm) else ((.inl (some (.int ((R_X0_startRig ((R_X7_save m pm).1) x1).1))) : Option Value ⊕ String), (R_X0_startRig ((R_X7_save m pm).1) x1).2, (R_X7_save m pm).2)))
set_option maxRecDepth 100000 in
set_option maxHeartbeats 4000000 in
theorem walk_X7_rig {X : g_X} (O : g_ok X cX7_rig RX7 (some .int) ({ frames := 7, cells := 2, slots := 12, locals := 111 } : Room)) (hs : (g_xl X).stackTraces = false) (Y : g_Y (g_xs X)) (hn : g_xn X = 2) {s : Nat → Int32} {lm : Nat → Int64} {m : Nat → Int32} {pm : Nat → Nat} {x1 : Int32} (p0 : g_I m pm) : g_V X (fun r : g_P7 => ((r.1, (r.2.1, s, lm, r.2.2)) : g_Res)) (R_X7_rig m pm x1) 0 0 m (s, lm, pm) 0 [(0, .ref (g_ad X 122)), (1, .int x1)] [] := by
  have hN : ∀ i, Nat.blt i 2 = true → i < g_xn X := fun i h => by rw [hn]; exact g_blt.mp h
  obtain ⟨⟨⟨i0a, i0⟩, ⟨i1a, i1⟩, ⟨i2a, i2⟩, ⟨i6a, i6⟩, ⟨i12a, i12⟩, ⟨i90a, i90⟩, i91a, i91⟩, hBo, hPm⟩ := g_I.all p0
  refine r_iload_n O 1 dX7_rig_0 rfl rfl ?_
  refine r_aload_n O 0 dX7_rig_1 rfl rfl ?_
  refine r_get O FX7_10 G_122_0 dX7_rig_2 ?_
  refine r_get O FX7_83 G_0_3 dX7_rig_5 ?_
  refine g_if (fun c_8 => ?_) (fun c_8 => ?_)
  · exact r_ySx O Y [.int x1, .int (m 2)] [] (bad_X7_requireIndex (g_xl X) hs (s, lm, pm) m x1 (m 2) c_8) LX7_54 rfl rfl rfl dX7_rig_8 rfl rfl rfl
  · have e_8a : 0 ≤ (x1).toInt := j_nltR (fun z => c_8 (Or.inl z)) rfl
    have e_8b : (x1).toInt < (m 2).toInt := j_nle (fun z => c_8 (Or.inr z))
    refine r_ySv O Y [.int x1, .int (m 2)] [] (ok_X7_requireIndex (g_xl X) hs (s, lm, pm) m x1 (m 2) c_8) LX7_54 rfl rfl rfl dX7_rig_8 rfl rfl ?_
    refine r_aload_n O 0 dX7_rig_11 rfl rfl ?_
    refine r_get O FX7_10 G_122_0 dX7_rig_12 ?_
    refine r_iload_n O 1 dX7_rig_15 rfl rfl ?_
    refine r_callVi O [.int x1] [] (met_X0_canRig (g_xl X) hs (s, lm, pm) m x1 (by first | decide | with_reducible assumption | with_reducible omega | (simp (disch := omega) only [g_upd_ne, g_upd_eq, fr_X4_fix, fr_X5_put, fr_X1_startAnew, fr_X1_walkTo, fr_X1_arrive, fr_X1_countBelow, fr_X3_set, fr_X0_startWalk, fr_X0_letMinutePass, fr_X3_goUp]; first | with_reducible assumption | with_reducible omega | decide) | (simp (disch := first | omega | with_reducible assumption) only [g_upd_ne, fr_save, fr_X0_takeRope]; first | with_reducible assumption | with_reducible omega) | exact (b_X3_goUp (by with_reducible assumption) (by with_reducible assumption)).1 | exact (b_X3_goUp (by with_reducible assumption) (by with_reducible assumption)).2 | exact Or.inl rfl | exact Or.inr rfl) (by first | decide | with_reducible assumption | with_reducible omega | (simp (disch := omega) only [g_upd_ne, g_upd_eq, fr_X4_fix, fr_X5_put, fr_X1_startAnew, fr_X1_walkTo, fr_X1_arrive, fr_X1_countBelow, fr_X3_set, fr_X0_startWalk, fr_X0_letMinutePass, fr_X3_goUp]; first | with_reducible assumption | with_reducible omega | decide) | (simp (disch := first | omega | with_reducible assumption) only [g_upd_ne, fr_save, fr_X0_takeRope]; first | with_reducible assumption | with_reducible omega) | exact (b_X3_goUp (by with_reducible assumption) (by with_reducible assumption)).1 | exact (b_X3_goUp (by with_reducible assumption) (by with_reducible assumption)).2 | exact Or.inl rfl | exact Or.inr rfl) (by first | decide | with_reducible assumption | with_reducible omega | (simp (disch := omega) only [g_upd_ne, g_upd_eq, fr_X4_fix, fr_X5_put, fr_X1_startAnew, fr_X1_walkTo, fr_X1_arrive, fr_X1_countBelow, fr_X3_set, fr_X0_startWalk, fr_X0_letMinutePass, fr_X3_goUp]; first | with_reducible assumption | with_reducible omega | decide) | (simp (disch := first | omega | with_reducible assumption) only [g_upd_ne, fr_save, fr_X0_takeRope]; first | with_reducible assumption | with_reducible omega) | exact (b_X3_goUp (by with_reducible assumption) (by with_reducible assumption)).1 | exact (b_X3_goUp (by with_reducible assumption) (by with_reducible assumption)).2 | exact Or.inl rfl | exact Or.inr rfl)) LX7_117 obj_0 rfl rfl rfl dX7_rig_16 rfl rfl ?_
    refine g_if (fun c_19 => ?_) (fun c_19 => ?_)
    · exact r_ySx O Y [.int (R_X0_canRig m x1)] [] (bad_X7_requirePossible (g_xl X) hs (s, lm, pm) m (R_X0_canRig m x1) c_19) LX7_62 rfl rfl rfl dX7_rig_19 rfl rfl rfl
    · refine r_ySv O Y [.int (R_X0_canRig m x1)] [] (ok_X7_requirePossible (g_xl X) hs (s, lm, pm) m (R_X0_canRig m x1) c_19) LX7_62 rfl rfl rfl dX7_rig_19 rfl rfl ?_
      refine r_aload_n O 0 dX7_rig_22 rfl rfl ?_
      refine r_callVv O [] [] (met_X7_save (g_xl X) hs m s lm pm hPm hBo i91a) LX7_38 obj_122 rfl rfl rfl dX7_rig_23 rfl rfl ?_
      refine r_aload_n O 0 dX7_rig_26 rfl rfl ?_
      refine r_get O FX7_10 G_122_0 dX7_rig_27 ?_
      refine r_iload_n O 1 dX7_rig_30 rfl rfl ?_
      refine r_callVi O [.int x1] [] (met_X0_startRig (g_xl X) hs (s, lm, ((R_X7_save m pm).2)) ((R_X7_save m pm).1) x1 (by first | decide | with_reducible assumption | with_reducible omega | (simp (disch := omega) only [g_upd_ne, g_upd_eq, fr_X4_fix, fr_X5_put, fr_X1_startAnew, fr_X1_walkTo, fr_X1_arrive, fr_X1_countBelow, fr_X3_set, fr_X0_startWalk, fr_X0_letMinutePass, fr_X3_goUp]; first | with_reducible assumption | with_reducible omega | decide) | (simp (disch := first | omega | with_reducible assumption) only [g_upd_ne, fr_save, fr_X0_takeRope]; first | with_reducible assumption | with_reducible omega) | exact (b_X3_goUp (by with_reducible assumption) (by with_reducible assumption)).1 | exact (b_X3_goUp (by with_reducible assumption) (by with_reducible assumption)).2 | exact Or.inl rfl | exact Or.inr rfl) (by first | decide | with_reducible assumption | with_reducible omega | (simp (disch := omega) only [g_upd_ne, g_upd_eq, fr_X4_fix, fr_X5_put, fr_X1_startAnew, fr_X1_walkTo, fr_X1_arrive, fr_X1_countBelow, fr_X3_set, fr_X0_startWalk, fr_X0_letMinutePass, fr_X3_goUp]; first | with_reducible assumption | with_reducible omega | decide) | (simp (disch := first | omega | with_reducible assumption) only [g_upd_ne, fr_save, fr_X0_takeRope]; first | with_reducible assumption | with_reducible omega) | exact (b_X3_goUp (by with_reducible assumption) (by with_reducible assumption)).1 | exact (b_X3_goUp (by with_reducible assumption) (by with_reducible assumption)).2 | exact Or.inl rfl | exact Or.inr rfl)) LX7_120 obj_0 rfl rfl rfl dX7_rig_31 rfl rfl ?_
      exact r_iret O dX7_rig_34 rfl (Nat.le_of_ble_eq_true rfl) (Nat.le_of_ble_eq_true rfl) rfl
theorem met_X7_rig (l : Launch) (hs : l.stackTraces = false) (s : Nat → Int32) (lm : Nat → Int64) (m : Nat → Int32) (pm : Nat → Nat) (x1 : Int32) (p0 : g_I m pm) : g_SY l yX7_rig cX7_rig 2 (some .int) ({ frames := 7, cells := 2, slots := 12, locals := 111 } : Room) (fun ad => [.ref (ad 122), .int x1]) m (s, lm, pm) ((fun r : g_P7 => ((r.1, (r.2.1, s, lm, r.2.2)) : g_Res)) (R_X7_rig m pm x1)) :=
  g_sy_of (by decide) (fun _ => Nat.le_of_ble_eq_true rfl) (fun X hl hn O Y => walk_X7_rig O (by rw [hl]; exact hs) Y hn p0)
def R_X7_takeOff (m : Nat → Int32) (pm : Nat → Nat) (x1 : Int32) : g_P7 := (if x1 < 0 ∨ (m 2) ≤ x1 then ((.inr "java/lang/IndexOutOfBoundsException" : Option Value ⊕ String), m, pm) else (if (R_X0_canUnrig m x1) = 0 then ((.inr "java/lang/IllegalStateException" : Option Value ⊕ String), m, pm) else ((.inl (some (.int ((R_X0_unrig ((R_X7_save m pm).1) x1).1))) : Option Value ⊕ String), (R_X0_unrig ((R_X7_save m pm).1) x1).2, (R_X7_save m pm).2)))
set_option maxRecDepth 100000 in
set_option maxHeartbeats 4000000 in
theorem walk_X7_takeOff {X : g_X} (O : g_ok X cX7_takeOff RX7 (some .int) ({ frames := 7, cells := 2, slots := 12, locals := 111 } : Room)) (hs : (g_xl X).stackTraces = false) (Y : g_Y (g_xs X)) (hn : g_xn X = 2) {s : Nat → Int32} {lm : Nat → Int64} {m : Nat → Int32} {pm : Nat → Nat} {x1 : Int32} (p0 : g_I m pm) : g_V X (fun r : g_P7 => ((r.1, (r.2.1, s, lm, r.2.2)) : g_Res)) (R_X7_takeOff m pm x1) 0 0 m (s, lm, pm) 0 [(0, .ref (g_ad X 122)), (1, .int x1)] [] := by
  have hN : ∀ i, Nat.blt i 2 = true → i < g_xn X := fun i h => by rw [hn]; exact g_blt.mp h
  obtain ⟨⟨⟨i0a, i0⟩, ⟨i1a, i1⟩, ⟨i2a, i2⟩, ⟨i6a, i6⟩, ⟨i12a, i12⟩, ⟨i90a, i90⟩, i91a, i91⟩, hBo, hPm⟩ := g_I.all p0
  refine r_iload_n O 1 dX7_takeOff_0 rfl rfl ?_
  refine r_aload_n O 0 dX7_takeOff_1 rfl rfl ?_
  refine r_get O FX7_10 G_122_0 dX7_takeOff_2 ?_
  refine r_get O FX7_83 G_0_3 dX7_takeOff_5 ?_
  refine g_if (fun c_8 => ?_) (fun c_8 => ?_)
  · exact r_ySx O Y [.int x1, .int (m 2)] [] (bad_X7_requireIndex (g_xl X) hs (s, lm, pm) m x1 (m 2) c_8) LX7_54 rfl rfl rfl dX7_takeOff_8 rfl rfl rfl
  · have e_8a : 0 ≤ (x1).toInt := j_nltR (fun z => c_8 (Or.inl z)) rfl
    have e_8b : (x1).toInt < (m 2).toInt := j_nle (fun z => c_8 (Or.inr z))
    refine r_ySv O Y [.int x1, .int (m 2)] [] (ok_X7_requireIndex (g_xl X) hs (s, lm, pm) m x1 (m 2) c_8) LX7_54 rfl rfl rfl dX7_takeOff_8 rfl rfl ?_
    refine r_aload_n O 0 dX7_takeOff_11 rfl rfl ?_
    refine r_get O FX7_10 G_122_0 dX7_takeOff_12 ?_
    refine r_iload_n O 1 dX7_takeOff_15 rfl rfl ?_
    refine r_callVi O [.int x1] [] (met_X0_canUnrig (g_xl X) hs (s, lm, pm) m x1 (by first | decide | with_reducible assumption | with_reducible omega | (simp (disch := omega) only [g_upd_ne, g_upd_eq, fr_X4_fix, fr_X5_put, fr_X1_startAnew, fr_X1_walkTo, fr_X1_arrive, fr_X1_countBelow, fr_X3_set, fr_X0_startWalk, fr_X0_letMinutePass, fr_X3_goUp]; first | with_reducible assumption | with_reducible omega | decide) | (simp (disch := first | omega | with_reducible assumption) only [g_upd_ne, fr_save, fr_X0_takeRope]; first | with_reducible assumption | with_reducible omega) | exact (b_X3_goUp (by with_reducible assumption) (by with_reducible assumption)).1 | exact (b_X3_goUp (by with_reducible assumption) (by with_reducible assumption)).2 | exact Or.inl rfl | exact Or.inr rfl) (by first | decide | with_reducible assumption | with_reducible omega | (simp (disch := omega) only [g_upd_ne, g_upd_eq, fr_X4_fix, fr_X5_put, fr_X1_startAnew, fr_X1_walkTo, fr_X1_arrive, fr_X1_countBelow, fr_X3_set, fr_X0_startWalk, fr_X0_letMinutePass, fr_X3_goUp]; first | with_reducible assumption | with_reducible omega | decide) | (simp (disch := first | omega | with_reducible assumption) only [g_upd_ne, fr_save, fr_X0_takeRope]; first | with_reducible assumption | with_reducible omega) | exact (b_X3_goUp (by with_reducible assumption) (by with_reducible assumption)).1 | exact (b_X3_goUp (by with_reducible assumption) (by with_reducible assumption)).2 | exact Or.inl rfl | exact Or.inr rfl)) LX7_123 obj_0 rfl rfl rfl dX7_takeOff_16 rfl rfl ?_
    refine g_if (fun c_19 => ?_) (fun c_19 => ?_)
    · exact r_ySx O Y [.int (R_X0_canUnrig m x1)] [] (bad_X7_requirePossible (g_xl X) hs (s, lm, pm) m (R_X0_canUnrig m x1) c_19) LX7_62 rfl rfl rfl dX7_takeOff_19 rfl rfl rfl
    · refine r_ySv O Y [.int (R_X0_canUnrig m x1)] [] (ok_X7_requirePossible (g_xl X) hs (s, lm, pm) m (R_X0_canUnrig m x1) c_19) LX7_62 rfl rfl rfl dX7_takeOff_19 rfl rfl ?_
      refine r_aload_n O 0 dX7_takeOff_22 rfl rfl ?_
      refine r_callVv O [] [] (met_X7_save (g_xl X) hs m s lm pm hPm hBo i91a) LX7_38 obj_122 rfl rfl rfl dX7_takeOff_23 rfl rfl ?_
      refine r_aload_n O 0 dX7_takeOff_26 rfl rfl ?_
      refine r_get O FX7_10 G_122_0 dX7_takeOff_27 ?_
      refine r_iload_n O 1 dX7_takeOff_30 rfl rfl ?_
      refine r_callVi O [.int x1] [] (met_X0_unrig (g_xl X) hs (s, lm, ((R_X7_save m pm).2)) ((R_X7_save m pm).1) x1 (by first | decide | with_reducible assumption | with_reducible omega | (simp (disch := omega) only [g_upd_ne, g_upd_eq, fr_X4_fix, fr_X5_put, fr_X1_startAnew, fr_X1_walkTo, fr_X1_arrive, fr_X1_countBelow, fr_X3_set, fr_X0_startWalk, fr_X0_letMinutePass, fr_X3_goUp]; first | with_reducible assumption | with_reducible omega | decide) | (simp (disch := first | omega | with_reducible assumption) only [g_upd_ne, fr_save, fr_X0_takeRope]; first | with_reducible assumption | with_reducible omega) | exact (b_X3_goUp (by with_reducible assumption) (by with_reducible assumption)).1 | exact (b_X3_goUp (by with_reducible assumption) (by with_reducible assumption)).2 | exact Or.inl rfl | exact Or.inr rfl) (by first | decide | with_reducible assumption | with_reducible omega | (simp (disch := omega) only [g_upd_ne, g_upd_eq, fr_X4_fix, fr_X5_put, fr_X1_startAnew, fr_X1_walkTo, fr_X1_arrive, fr_X1_countBelow, fr_X3_set, fr_X0_startWalk, fr_X0_letMinutePass, fr_X3_goUp]; first | with_reducible assumption | with_reducible omega | decide) | (simp (disch := first | omega | with_reducible assumption) only [g_upd_ne, fr_save, fr_X0_takeRope]; first | with_reducible assumption | with_reducible omega) | exact (b_X3_goUp (by with_reducible assumption) (by with_reducible assumption)).1 | exact (b_X3_goUp (by with_reducible assumption) (by with_reducible assumption)).2 | exact Or.inl rfl | exact Or.inr rfl) (by first | decide | with_reducible assumption | with_reducible omega | (simp (disch := omega) only [g_upd_ne, g_upd_eq, fr_X4_fix, fr_X5_put, fr_X1_startAnew, fr_X1_walkTo, fr_X1_arrive, fr_X1_countBelow, fr_X3_set, fr_X0_startWalk, fr_X0_letMinutePass, fr_X3_goUp]; first | with_reducible assumption | with_reducible omega | decide) | (simp (disch := first | omega | with_reducible assumption) only [g_upd_ne, fr_save, fr_X0_takeRope]; first | with_reducible assumption | with_reducible omega) | exact (b_X3_goUp (by with_reducible assumption) (by with_reducible assumption)).1 | exact (b_X3_goUp (by with_reducible assumption) (by with_reducible assumption)).2 | exact Or.inl rfl | exact Or.inr rfl) (by first | decide | with_reducible assumption | with_reducible omega | (simp (disch := omega) only [g_upd_ne, g_upd_eq, fr_X4_fix, fr_X5_put, fr_X1_startAnew, fr_X1_walkTo, fr_X1_arrive, fr_X1_countBelow, fr_X3_set, fr_X0_startWalk, fr_X0_letMinutePass, fr_X3_goUp]; first | with_reducible assumption | with_reducible omega | decide) | (simp (disch := first | omega | with_reducible assumption) only [g_upd_ne, fr_save, fr_X0_takeRope]; first | with_reducible assumption | with_reducible omega) | exact (b_X3_goUp (by with_reducible assumption) (by with_reducible assumption)).1 | exact (b_X3_goUp (by with_reducible assumption) (by with_reducible assumption)).2 | exact Or.inl rfl | exact Or.inr rfl)) LX7_126 obj_0 rfl rfl rfl dX7_takeOff_31 rfl rfl ?_
      exact r_iret O dX7_takeOff_34 rfl (Nat.le_of_ble_eq_true rfl) (Nat.le_of_ble_eq_true rfl) rfl
theorem met_X7_takeOff (l : Launch) (hs : l.stackTraces = false) (s : Nat → Int32) (lm : Nat → Int64) (m : Nat → Int32) (pm : Nat → Nat) (x1 : Int32) (p0 : g_I m pm) : g_SY l yX7_takeOff cX7_takeOff 2 (some .int) ({ frames := 7, cells := 2, slots := 12, locals := 111 } : Room) (fun ad => [.ref (ad 122), .int x1]) m (s, lm, pm) ((fun r : g_P7 => ((r.1, (r.2.1, s, lm, r.2.2)) : g_Res)) (R_X7_takeOff m pm x1)) :=
  g_sy_of (by decide) (fun _ => Nat.le_of_ble_eq_true rfl) (fun X hl hn O Y => walk_X7_takeOff O (by rw [hl]; exact hs) Y hn p0)
def R_X7_carry (m : Nat → Int32) (pm : Nat → Nat) (x1 : Int32) : g_P7 := (if (R_X0_isTeam m x1) = 0 then ((.inr "java/lang/IllegalArgumentException" : Option Value ⊕ String), m, pm) else (if (R_X0_canCarry m x1) = 0 then ((.inr "java/lang/IllegalStateException" : Option Value ⊕ String), m, pm) else ((.inl (some (.int ((R_X0_startCarry ((R_X7_save m pm).1) x1).1))) : Option Value ⊕ String), (R_X0_startCarry ((R_X7_save m pm).1) x1).2, (R_X7_save m pm).2)))
set_option maxRecDepth 100000 in
set_option maxHeartbeats 4000000 in
theorem walk_X7_carry {X : g_X} (O : g_ok X cX7_carry RX7 (some .int) ({ frames := 7, cells := 2, slots := 12, locals := 111 } : Room)) (hs : (g_xl X).stackTraces = false) (Y : g_Y (g_xs X)) (hn : g_xn X = 2) {s : Nat → Int32} {lm : Nat → Int64} {m : Nat → Int32} {pm : Nat → Nat} {x1 : Int32} (p0 : g_I m pm) : g_V X (fun r : g_P7 => ((r.1, (r.2.1, s, lm, r.2.2)) : g_Res)) (R_X7_carry m pm x1) 0 0 m (s, lm, pm) 0 [(0, .ref (g_ad X 122)), (1, .int x1)] [] := by
  have hN : ∀ i, Nat.blt i 2 = true → i < g_xn X := fun i h => by rw [hn]; exact g_blt.mp h
  obtain ⟨⟨⟨i0a, i0⟩, ⟨i1a, i1⟩, ⟨i2a, i2⟩, ⟨i6a, i6⟩, ⟨i12a, i12⟩, ⟨i90a, i90⟩, i91a, i91⟩, hBo, hPm⟩ := g_I.all p0
  refine r_aload_n O 0 dX7_carry_0 rfl rfl ?_
  refine r_get O FX7_10 G_122_0 dX7_carry_1 ?_
  refine r_iload_n O 1 dX7_carry_4 rfl rfl ?_
  refine r_callVi O [.int x1] [] (met_X0_isTeam (g_xl X) hs (s, lm, pm) m x1 ) LX7_129 obj_0 rfl rfl rfl dX7_carry_5 rfl rfl ?_
  refine g_if (fun c_8 => ?_) (fun c_8 => ?_)
  · exact r_ySx O Y [.int (R_X0_isTeam m x1)] [] (bad_X7_requireArgument (g_xl X) hs (s, lm, pm) m (R_X0_isTeam m x1) c_8) LX7_132 rfl rfl rfl dX7_carry_8 rfl rfl rfl
  · refine r_ySv O Y [.int (R_X0_isTeam m x1)] [] (ok_X7_requireArgument (g_xl X) hs (s, lm, pm) m (R_X0_isTeam m x1) c_8) LX7_132 rfl rfl rfl dX7_carry_8 rfl rfl ?_
    refine r_aload_n O 0 dX7_carry_11 rfl rfl ?_
    refine r_get O FX7_10 G_122_0 dX7_carry_12 ?_
    refine r_iload_n O 1 dX7_carry_15 rfl rfl ?_
    refine r_callVi O [.int x1] [] (met_X0_canCarry (g_xl X) hs (s, lm, pm) m x1 (by first | decide | with_reducible assumption | with_reducible omega | (simp (disch := omega) only [g_upd_ne, g_upd_eq, fr_X4_fix, fr_X5_put, fr_X1_startAnew, fr_X1_walkTo, fr_X1_arrive, fr_X1_countBelow, fr_X3_set, fr_X0_startWalk, fr_X0_letMinutePass, fr_X3_goUp]; first | with_reducible assumption | with_reducible omega | decide) | (simp (disch := first | omega | with_reducible assumption) only [g_upd_ne, fr_save, fr_X0_takeRope]; first | with_reducible assumption | with_reducible omega) | exact (b_X3_goUp (by with_reducible assumption) (by with_reducible assumption)).1 | exact (b_X3_goUp (by with_reducible assumption) (by with_reducible assumption)).2 | exact Or.inl rfl | exact Or.inr rfl) (by first | decide | with_reducible assumption | with_reducible omega | (simp (disch := omega) only [g_upd_ne, g_upd_eq, fr_X4_fix, fr_X5_put, fr_X1_startAnew, fr_X1_walkTo, fr_X1_arrive, fr_X1_countBelow, fr_X3_set, fr_X0_startWalk, fr_X0_letMinutePass, fr_X3_goUp]; first | with_reducible assumption | with_reducible omega | decide) | (simp (disch := first | omega | with_reducible assumption) only [g_upd_ne, fr_save, fr_X0_takeRope]; first | with_reducible assumption | with_reducible omega) | exact (b_X3_goUp (by with_reducible assumption) (by with_reducible assumption)).1 | exact (b_X3_goUp (by with_reducible assumption) (by with_reducible assumption)).2 | exact Or.inl rfl | exact Or.inr rfl)) LX7_135 obj_0 rfl rfl rfl dX7_carry_16 rfl rfl ?_
    refine g_if (fun c_19 => ?_) (fun c_19 => ?_)
    · exact r_ySx O Y [.int (R_X0_canCarry m x1)] [] (bad_X7_requirePossible (g_xl X) hs (s, lm, pm) m (R_X0_canCarry m x1) c_19) LX7_62 rfl rfl rfl dX7_carry_19 rfl rfl rfl
    · refine r_ySv O Y [.int (R_X0_canCarry m x1)] [] (ok_X7_requirePossible (g_xl X) hs (s, lm, pm) m (R_X0_canCarry m x1) c_19) LX7_62 rfl rfl rfl dX7_carry_19 rfl rfl ?_
      refine r_aload_n O 0 dX7_carry_22 rfl rfl ?_
      refine r_callVv O [] [] (met_X7_save (g_xl X) hs m s lm pm hPm hBo i91a) LX7_38 obj_122 rfl rfl rfl dX7_carry_23 rfl rfl ?_
      refine r_aload_n O 0 dX7_carry_26 rfl rfl ?_
      refine r_get O FX7_10 G_122_0 dX7_carry_27 ?_
      refine r_iload_n O 1 dX7_carry_30 rfl rfl ?_
      refine r_callVi O [.int x1] [] (met_X0_startCarry (g_xl X) hs (s, lm, ((R_X7_save m pm).2)) ((R_X7_save m pm).1) x1 (by first | decide | with_reducible assumption | with_reducible omega | (simp (disch := omega) only [g_upd_ne, g_upd_eq, fr_X4_fix, fr_X5_put, fr_X1_startAnew, fr_X1_walkTo, fr_X1_arrive, fr_X1_countBelow, fr_X3_set, fr_X0_startWalk, fr_X0_letMinutePass, fr_X3_goUp]; first | with_reducible assumption | with_reducible omega | decide) | (simp (disch := first | omega | with_reducible assumption) only [g_upd_ne, fr_save, fr_X0_takeRope]; first | with_reducible assumption | with_reducible omega) | exact (b_X3_goUp (by with_reducible assumption) (by with_reducible assumption)).1 | exact (b_X3_goUp (by with_reducible assumption) (by with_reducible assumption)).2 | exact Or.inl rfl | exact Or.inr rfl) (by first | decide | with_reducible assumption | with_reducible omega | (simp (disch := omega) only [g_upd_ne, g_upd_eq, fr_X4_fix, fr_X5_put, fr_X1_startAnew, fr_X1_walkTo, fr_X1_arrive, fr_X1_countBelow, fr_X3_set, fr_X0_startWalk, fr_X0_letMinutePass, fr_X3_goUp]; first | with_reducible assumption | with_reducible omega | decide) | (simp (disch := first | omega | with_reducible assumption) only [g_upd_ne, fr_save, fr_X0_takeRope]; first | with_reducible assumption | with_reducible omega) | exact (b_X3_goUp (by with_reducible assumption) (by with_reducible assumption)).1 | exact (b_X3_goUp (by with_reducible assumption) (by with_reducible assumption)).2 | exact Or.inl rfl | exact Or.inr rfl)) LX7_138 obj_0 rfl rfl rfl dX7_carry_31 rfl rfl ?_
      exact r_iret O dX7_carry_34 rfl (Nat.le_of_ble_eq_true rfl) (Nat.le_of_ble_eq_true rfl) rfl
theorem met_X7_carry (l : Launch) (hs : l.stackTraces = false) (s : Nat → Int32) (lm : Nat → Int64) (m : Nat → Int32) (pm : Nat → Nat) (x1 : Int32) (p0 : g_I m pm) : g_SY l yX7_carry cX7_carry 2 (some .int) ({ frames := 7, cells := 2, slots := 12, locals := 111 } : Room) (fun ad => [.ref (ad 122), .int x1]) m (s, lm, pm) ((fun r : g_P7 => ((r.1, (r.2.1, s, lm, r.2.2)) : g_Res)) (R_X7_carry m pm x1)) :=
  g_sy_of (by decide) (fun _ => Nat.le_of_ble_eq_true rfl) (fun X hl hn O Y => walk_X7_carry O (by rw [hl]; exact hs) Y hn p0)
def R_X7_send (m : Nat → Int32) (pm : Nat → Nat) (x1 : Int32) : g_P7 := (if x1 < 0 ∨ (m 2) ≤ x1 then ((.inr "java/lang/IndexOutOfBoundsException" : Option Value ⊕ String), m, pm) else (if (R_X0_canSend m x1) = 0 then ((.inr "java/lang/IllegalStateException" : Option Value ⊕ String), m, pm) else ((.inl (some (.int ((R_X0_sendFrom ((R_X7_save m pm).1) x1) 6))) : Option Value ⊕ String), (R_X0_sendFrom ((R_X7_save m pm).1) x1), (R_X7_save m pm).2)))
set_option maxRecDepth 100000 in
set_option maxHeartbeats 4000000 in
theorem walk_X7_send {X : g_X} (O : g_ok X cX7_send RX7 (some .int) ({ frames := 7, cells := 2, slots := 12, locals := 111 } : Room)) (hs : (g_xl X).stackTraces = false) (Y : g_Y (g_xs X)) (hn : g_xn X = 2) {s : Nat → Int32} {lm : Nat → Int64} {m : Nat → Int32} {pm : Nat → Nat} {x1 : Int32} (p0 : g_I m pm) : g_V X (fun r : g_P7 => ((r.1, (r.2.1, s, lm, r.2.2)) : g_Res)) (R_X7_send m pm x1) 0 0 m (s, lm, pm) 0 [(0, .ref (g_ad X 122)), (1, .int x1)] [] := by
  have hN : ∀ i, Nat.blt i 2 = true → i < g_xn X := fun i h => by rw [hn]; exact g_blt.mp h
  obtain ⟨⟨⟨i0a, i0⟩, ⟨i1a, i1⟩, ⟨i2a, i2⟩, ⟨i6a, i6⟩, ⟨i12a, i12⟩, ⟨i90a, i90⟩, i91a, i91⟩, hBo, hPm⟩ := g_I.all p0
  refine r_iload_n O 1 dX7_send_0 rfl rfl ?_
  refine r_aload_n O 0 dX7_send_1 rfl rfl ?_
  refine r_get O FX7_10 G_122_0 dX7_send_2 ?_
  refine r_get O FX7_83 G_0_3 dX7_send_5 ?_
  refine g_if (fun c_8 => ?_) (fun c_8 => ?_)
  · exact r_ySx O Y [.int x1, .int (m 2)] [] (bad_X7_requireIndex (g_xl X) hs (s, lm, pm) m x1 (m 2) c_8) LX7_54 rfl rfl rfl dX7_send_8 rfl rfl rfl
  · have e_8a : 0 ≤ (x1).toInt := j_nltR (fun z => c_8 (Or.inl z)) rfl
    have e_8b : (x1).toInt < (m 2).toInt := j_nle (fun z => c_8 (Or.inr z))
    refine r_ySv O Y [.int x1, .int (m 2)] [] (ok_X7_requireIndex (g_xl X) hs (s, lm, pm) m x1 (m 2) c_8) LX7_54 rfl rfl rfl dX7_send_8 rfl rfl ?_
    refine r_aload_n O 0 dX7_send_11 rfl rfl ?_
    refine r_get O FX7_10 G_122_0 dX7_send_12 ?_
    refine r_iload_n O 1 dX7_send_15 rfl rfl ?_
    refine r_callVi O [.int x1] [] (met_X0_canSend (g_xl X) hs (s, lm, pm) m x1 (by first | decide | with_reducible assumption | with_reducible omega | (simp (disch := omega) only [g_upd_ne, g_upd_eq, fr_X4_fix, fr_X5_put, fr_X1_startAnew, fr_X1_walkTo, fr_X1_arrive, fr_X1_countBelow, fr_X3_set, fr_X0_startWalk, fr_X0_letMinutePass, fr_X3_goUp]; first | with_reducible assumption | with_reducible omega | decide) | (simp (disch := first | omega | with_reducible assumption) only [g_upd_ne, fr_save, fr_X0_takeRope]; first | with_reducible assumption | with_reducible omega) | exact (b_X3_goUp (by with_reducible assumption) (by with_reducible assumption)).1 | exact (b_X3_goUp (by with_reducible assumption) (by with_reducible assumption)).2 | exact Or.inl rfl | exact Or.inr rfl)) LX7_141 obj_0 rfl rfl rfl dX7_send_16 rfl rfl ?_
    refine g_if (fun c_19 => ?_) (fun c_19 => ?_)
    · exact r_ySx O Y [.int (R_X0_canSend m x1)] [] (bad_X7_requirePossible (g_xl X) hs (s, lm, pm) m (R_X0_canSend m x1) c_19) LX7_62 rfl rfl rfl dX7_send_19 rfl rfl rfl
    · refine r_ySv O Y [.int (R_X0_canSend m x1)] [] (ok_X7_requirePossible (g_xl X) hs (s, lm, pm) m (R_X0_canSend m x1) c_19) LX7_62 rfl rfl rfl dX7_send_19 rfl rfl ?_
      refine r_aload_n O 0 dX7_send_22 rfl rfl ?_
      refine r_callVv O [] [] (met_X7_save (g_xl X) hs m s lm pm hPm hBo i91a) LX7_38 obj_122 rfl rfl rfl dX7_send_23 rfl rfl ?_
      refine r_aload_n O 0 dX7_send_26 rfl rfl ?_
      refine r_get O FX7_10 G_122_0 dX7_send_27 ?_
      refine r_iload_n O 1 dX7_send_30 rfl rfl ?_
      refine r_callVv O [.int x1] [] (met_X0_sendFrom (g_xl X) hs (s, lm, ((R_X7_save m pm).2)) ((R_X7_save m pm).1) x1 (by first | decide | with_reducible assumption | with_reducible omega | (simp (disch := omega) only [g_upd_ne, g_upd_eq, fr_X4_fix, fr_X5_put, fr_X1_startAnew, fr_X1_walkTo, fr_X1_arrive, fr_X1_countBelow, fr_X3_set, fr_X0_startWalk, fr_X0_letMinutePass, fr_X3_goUp]; first | with_reducible assumption | with_reducible omega | decide) | (simp (disch := first | omega | with_reducible assumption) only [g_upd_ne, fr_save, fr_X0_takeRope]; first | with_reducible assumption | with_reducible omega) | exact (b_X3_goUp (by with_reducible assumption) (by with_reducible assumption)).1 | exact (b_X3_goUp (by with_reducible assumption) (by with_reducible assumption)).2 | exact Or.inl rfl | exact Or.inr rfl) (by first | decide | with_reducible assumption | with_reducible omega | (simp (disch := omega) only [g_upd_ne, g_upd_eq, fr_X4_fix, fr_X5_put, fr_X1_startAnew, fr_X1_walkTo, fr_X1_arrive, fr_X1_countBelow, fr_X3_set, fr_X0_startWalk, fr_X0_letMinutePass, fr_X3_goUp]; first | with_reducible assumption | with_reducible omega | decide) | (simp (disch := first | omega | with_reducible assumption) only [g_upd_ne, fr_save, fr_X0_takeRope]; first | with_reducible assumption | with_reducible omega) | exact (b_X3_goUp (by with_reducible assumption) (by with_reducible assumption)).1 | exact (b_X3_goUp (by with_reducible assumption) (by with_reducible assumption)).2 | exact Or.inl rfl | exact Or.inr rfl) (by first | decide | with_reducible assumption | with_reducible omega | (simp (disch := omega) only [g_upd_ne, g_upd_eq, fr_X4_fix, fr_X5_put, fr_X1_startAnew, fr_X1_walkTo, fr_X1_arrive, fr_X1_countBelow, fr_X3_set, fr_X0_startWalk, fr_X0_letMinutePass, fr_X3_goUp]; first | with_reducible assumption | with_reducible omega | decide) | (simp (disch := first | omega | with_reducible assumption) only [g_upd_ne, fr_save, fr_X0_takeRope]; first | with_reducible assumption | with_reducible omega) | exact (b_X3_goUp (by with_reducible assumption) (by with_reducible assumption)).1 | exact (b_X3_goUp (by with_reducible assumption) (by with_reducible assumption)).2 | exact Or.inl rfl | exact Or.inr rfl) (by first | decide | with_reducible assumption | with_reducible omega | (simp (disch := omega) only [g_upd_ne, g_upd_eq, fr_X4_fix, fr_X5_put, fr_X1_startAnew, fr_X1_walkTo, fr_X1_arrive, fr_X1_countBelow, fr_X3_set, fr_X0_startWalk, fr_X0_letMinutePass, fr_X3_goUp]; first | with_reducible assumption | with_reducible omega | decide) | (simp (disch := first | omega | with_reducible assumption) only [g_upd_ne, fr_save, fr_X0_takeRope]; first | with_reducible assumption | with_reducible omega) | exact (b_X3_goUp (by with_reducible assumption) (by with_reducible assumption)).1 | exact (b_X3_goUp (by with_reducible assumption) (by with_reducible assumption)).2 | exact Or.inl rfl | exact Or.inr rfl)) LX7_144 obj_0 rfl rfl rfl dX7_send_31 rfl rfl ?_
      refine r_aload_n O 0 dX7_send_34 rfl rfl ?_
      refine r_get O FX7_10 G_122_0 dX7_send_35 ?_
      refine r_get O FX7_147 G_0_4 dX7_send_38 ?_
      refine r_get O FX7_151 G_16_3 dX7_send_41 ?_
      exact r_iret O dX7_send_44 rfl (Nat.le_of_ble_eq_true rfl) (Nat.le_of_ble_eq_true rfl) rfl
theorem met_X7_send (l : Launch) (hs : l.stackTraces = false) (s : Nat → Int32) (lm : Nat → Int64) (m : Nat → Int32) (pm : Nat → Nat) (x1 : Int32) (p0 : g_I m pm) : g_SY l yX7_send cX7_send 2 (some .int) ({ frames := 7, cells := 2, slots := 12, locals := 111 } : Room) (fun ad => [.ref (ad 122), .int x1]) m (s, lm, pm) ((fun r : g_P7 => ((r.1, (r.2.1, s, lm, r.2.2)) : g_Res)) (R_X7_send m pm x1)) :=
  g_sy_of (by decide) (fun _ => Nat.le_of_ble_eq_true rfl) (fun X hl hn O Y => walk_X7_send O (by rw [hl]; exact hs) Y hn p0)
def R_X7_pass (m : Nat → Int32) (pm : Nat → Nat) (x1 : Int32) : g_P7 := (if x1 < ((1) : Int32) ∨ ((600) : Int32) < x1 then ((.inr "java/lang/IllegalArgumentException" : Option Value ⊕ String), m, pm) else (if (R_X0_canPass m x1) = 0 then ((.inr "java/lang/IllegalStateException" : Option Value ⊕ String), m, pm) else ((.inl (some (.int ((R_X0_letPass ((R_X7_save m pm).1) x1).1))) : Option Value ⊕ String), (R_X0_letPass ((R_X7_save m pm).1) x1).2, (R_X7_save m pm).2)))
set_option maxRecDepth 100000 in
set_option maxHeartbeats 4000000 in
theorem walk_X7_pass {X : g_X} (O : g_ok X cX7_pass RX7 (some .int) ({ frames := 8, cells := 2, slots := 12, locals := 142 } : Room)) (hs : (g_xl X).stackTraces = false) (Y : g_Y (g_xs X)) (hn : g_xn X = 2) {s : Nat → Int32} {lm : Nat → Int64} {m : Nat → Int32} {pm : Nat → Nat} {x1 : Int32} (p0 : g_I m pm) : g_V X (fun r : g_P7 => ((r.1, (r.2.1, s, lm, r.2.2)) : g_Res)) (R_X7_pass m pm x1) 0 0 m (s, lm, pm) 0 [(0, .ref (g_ad X 122)), (1, .int x1)] [] := by
  have hN : ∀ i, Nat.blt i 2 = true → i < g_xn X := fun i h => by rw [hn]; exact g_blt.mp h
  obtain ⟨⟨⟨i0a, i0⟩, ⟨i1a, i1⟩, ⟨i2a, i2⟩, ⟨i6a, i6⟩, ⟨i12a, i12⟩, ⟨i90a, i90⟩, i91a, i91⟩, hBo, hPm⟩ := g_I.all p0
  refine r_iload_n O 1 dX7_pass_0 rfl rfl ?_
  refine r_iconst (x := 1) O dX7_pass_1 rfl ?_
  refine r_sipush (x := 600) O dX7_pass_2 rfl ?_
  refine g_if (fun c_5 => ?_) (fun c_5 => ?_)
  · exact r_ySx O Y [.int x1, .int 1, .int 600] [] (bad_X7_requireRange (g_xl X) hs (s, lm, pm) m x1 ((1) : Int32) ((600) : Int32) c_5) LX7_31 rfl rfl rfl dX7_pass_5 rfl rfl rfl
  · have e_5a : (1 : Int) ≤ (x1).toInt := j_nltR (fun z => c_5 (Or.inl z)) rfl
    have e_5b : (x1).toInt ≤ (600 : Int) := j_nltL (fun z => c_5 (Or.inr z)) rfl
    refine r_ySv O Y [.int x1, .int 1, .int 600] [] (ok_X7_requireRange (g_xl X) hs (s, lm, pm) m x1 ((1) : Int32) ((600) : Int32) c_5) LX7_31 rfl rfl rfl dX7_pass_5 rfl rfl ?_
    refine r_aload_n O 0 dX7_pass_8 rfl rfl ?_
    refine r_get O FX7_10 G_122_0 dX7_pass_9 ?_
    refine r_iload_n O 1 dX7_pass_12 rfl rfl ?_
    refine r_callVi O [.int x1] [] (met_X0_canPass (g_xl X) hs (s, lm, pm) m x1 ) LX7_154 obj_0 rfl rfl rfl dX7_pass_13 rfl rfl ?_
    refine g_if (fun c_16 => ?_) (fun c_16 => ?_)
    · exact r_ySx O Y [.int (R_X0_canPass m x1)] [] (bad_X7_requirePossible (g_xl X) hs (s, lm, pm) m (R_X0_canPass m x1) c_16) LX7_62 rfl rfl rfl dX7_pass_16 rfl rfl rfl
    · refine r_ySv O Y [.int (R_X0_canPass m x1)] [] (ok_X7_requirePossible (g_xl X) hs (s, lm, pm) m (R_X0_canPass m x1) c_16) LX7_62 rfl rfl rfl dX7_pass_16 rfl rfl ?_
      refine r_aload_n O 0 dX7_pass_19 rfl rfl ?_
      refine r_callVv O [] [] (met_X7_save (g_xl X) hs m s lm pm hPm hBo i91a) LX7_38 obj_122 rfl rfl rfl dX7_pass_20 rfl rfl ?_
      refine r_aload_n O 0 dX7_pass_23 rfl rfl ?_
      refine r_get O FX7_10 G_122_0 dX7_pass_24 ?_
      refine r_iload_n O 1 dX7_pass_27 rfl rfl ?_
      refine r_callVi O [.int x1] [] (met_X0_letPass (g_xl X) hs (s, lm, ((R_X7_save m pm).2)) ((R_X7_save m pm).1) x1 (by first | decide | with_reducible assumption | with_reducible omega | (simp (disch := omega) only [g_upd_ne, g_upd_eq, fr_X4_fix, fr_X5_put, fr_X1_startAnew, fr_X1_walkTo, fr_X1_arrive, fr_X1_countBelow, fr_X3_set, fr_X0_startWalk, fr_X0_letMinutePass, fr_X3_goUp]; first | with_reducible assumption | with_reducible omega | decide) | (simp (disch := first | omega | with_reducible assumption) only [g_upd_ne, fr_save, fr_X0_takeRope]; first | with_reducible assumption | with_reducible omega) | exact (b_X3_goUp (by with_reducible assumption) (by with_reducible assumption)).1 | exact (b_X3_goUp (by with_reducible assumption) (by with_reducible assumption)).2 | exact Or.inl rfl | exact Or.inr rfl) (by first | decide | with_reducible assumption | with_reducible omega | (simp (disch := omega) only [g_upd_ne, g_upd_eq, fr_X4_fix, fr_X5_put, fr_X1_startAnew, fr_X1_walkTo, fr_X1_arrive, fr_X1_countBelow, fr_X3_set, fr_X0_startWalk, fr_X0_letMinutePass, fr_X3_goUp]; first | with_reducible assumption | with_reducible omega | decide) | (simp (disch := first | omega | with_reducible assumption) only [g_upd_ne, fr_save, fr_X0_takeRope]; first | with_reducible assumption | with_reducible omega) | exact (b_X3_goUp (by with_reducible assumption) (by with_reducible assumption)).1 | exact (b_X3_goUp (by with_reducible assumption) (by with_reducible assumption)).2 | exact Or.inl rfl | exact Or.inr rfl) (by first | decide | with_reducible assumption | with_reducible omega | (simp (disch := omega) only [g_upd_ne, g_upd_eq, fr_X4_fix, fr_X5_put, fr_X1_startAnew, fr_X1_walkTo, fr_X1_arrive, fr_X1_countBelow, fr_X3_set, fr_X0_startWalk, fr_X0_letMinutePass, fr_X3_goUp]; first | with_reducible assumption | with_reducible omega | decide) | (simp (disch := first | omega | with_reducible assumption) only [g_upd_ne, fr_save, fr_X0_takeRope]; first | with_reducible assumption | with_reducible omega) | exact (b_X3_goUp (by with_reducible assumption) (by with_reducible assumption)).1 | exact (b_X3_goUp (by with_reducible assumption) (by with_reducible assumption)).2 | exact Or.inl rfl | exact Or.inr rfl) (by first | decide | with_reducible assumption | with_reducible omega | (simp (disch := omega) only [g_upd_ne, g_upd_eq, fr_X4_fix, fr_X5_put, fr_X1_startAnew, fr_X1_walkTo, fr_X1_arrive, fr_X1_countBelow, fr_X3_set, fr_X0_startWalk, fr_X0_letMinutePass, fr_X3_goUp]; first | with_reducible assumption | with_reducible omega | decide) | (simp (disch := first | omega | with_reducible assumption) only [g_upd_ne, fr_save, fr_X0_takeRope]; first | with_reducible assumption | with_reducible omega) | exact (b_X3_goUp (by with_reducible assumption) (by with_reducible assumption)).1 | exact (b_X3_goUp (by with_reducible assumption) (by with_reducible assumption)).2 | exact Or.inl rfl | exact Or.inr rfl) (by first | decide | with_reducible assumption | with_reducible omega | (simp (disch := omega) only [g_upd_ne, g_upd_eq, fr_X4_fix, fr_X5_put, fr_X1_startAnew, fr_X1_walkTo, fr_X1_arrive, fr_X1_countBelow, fr_X3_set, fr_X0_startWalk, fr_X0_letMinutePass, fr_X3_goUp]; first | with_reducible assumption | with_reducible omega | decide) | (simp (disch := first | omega | with_reducible assumption) only [g_upd_ne, fr_save, fr_X0_takeRope]; first | with_reducible assumption | with_reducible omega) | exact (b_X3_goUp (by with_reducible assumption) (by with_reducible assumption)).1 | exact (b_X3_goUp (by with_reducible assumption) (by with_reducible assumption)).2 | exact Or.inl rfl | exact Or.inr rfl) (by first | decide | with_reducible assumption | with_reducible omega | (simp (disch := omega) only [g_upd_ne, g_upd_eq, fr_X4_fix, fr_X5_put, fr_X1_startAnew, fr_X1_walkTo, fr_X1_arrive, fr_X1_countBelow, fr_X3_set, fr_X0_startWalk, fr_X0_letMinutePass, fr_X3_goUp]; first | with_reducible assumption | with_reducible omega | decide) | (simp (disch := first | omega | with_reducible assumption) only [g_upd_ne, fr_save, fr_X0_takeRope]; first | with_reducible assumption | with_reducible omega) | exact (b_X3_goUp (by with_reducible assumption) (by with_reducible assumption)).1 | exact (b_X3_goUp (by with_reducible assumption) (by with_reducible assumption)).2 | exact Or.inl rfl | exact Or.inr rfl)) LX7_157 obj_0 rfl rfl rfl dX7_pass_28 rfl rfl ?_
      exact r_iret O dX7_pass_31 rfl (Nat.le_of_ble_eq_true rfl) (Nat.le_of_ble_eq_true rfl) rfl
theorem met_X7_pass (l : Launch) (hs : l.stackTraces = false) (s : Nat → Int32) (lm : Nat → Int64) (m : Nat → Int32) (pm : Nat → Nat) (x1 : Int32) (p0 : g_I m pm) : g_SY l yX7_pass cX7_pass 2 (some .int) ({ frames := 8, cells := 2, slots := 12, locals := 142 } : Room) (fun ad => [.ref (ad 122), .int x1]) m (s, lm, pm) ((fun r : g_P7 => ((r.1, (r.2.1, s, lm, r.2.2)) : g_Res)) (R_X7_pass m pm x1)) :=
  g_sy_of (by decide) (fun _ => Nat.le_of_ble_eq_true rfl) (fun X hl hn O Y => walk_X7_pass O (by rw [hl]; exact hs) Y hn p0)
def R_X7_passage (m : Nat → Int32) (pm : Nat → Nat) (x1 : Int32) (x2 : Int32) : g_P7 := (if x1 < 0 ∨ (m 0) ≤ x1 then ((.inr "java/lang/IndexOutOfBoundsException" : Option Value ⊕ String), m, pm) else (if x2 < ((0) : Int32) ∨ ((4) : Int32) < x2 then ((.inr "java/lang/IllegalArgumentException" : Option Value ⊕ String), m, pm) else ((.inl (some (.int (R_X0_aboutPassage m x1 x2))) : Option Value ⊕ String), m, pm)))
set_option maxRecDepth 100000 in
set_option maxHeartbeats 4000000 in
theorem walk_X7_passage {X : g_X} (O : g_ok X cX7_passage RX7 (some .int) ({ frames := 8, cells := 2, slots := 12, locals := 142 } : Room)) (hs : (g_xl X).stackTraces = false) (Y : g_Y (g_xs X)) (hn : g_xn X = 3) {s : Nat → Int32} {lm : Nat → Int64} {m : Nat → Int32} {pm : Nat → Nat} {x1 : Int32} {x2 : Int32} (p0 : g_I m pm) : g_V X (fun r : g_P7 => ((r.1, (r.2.1, s, lm, r.2.2)) : g_Res)) (R_X7_passage m pm x1 x2) 0 0 m (s, lm, pm) 0 [(0, .ref (g_ad X 122)), (1, .int x1), (2, .int x2)] [] := by
  have hN : ∀ i, Nat.blt i 3 = true → i < g_xn X := fun i h => by rw [hn]; exact g_blt.mp h
  obtain ⟨⟨⟨i0a, i0⟩, ⟨i1a, i1⟩, ⟨i2a, i2⟩, ⟨i6a, i6⟩, ⟨i12a, i12⟩, ⟨i90a, i90⟩, i91a, i91⟩, hBo, hPm⟩ := g_I.all p0
  refine r_iload_n O 1 dX7_passage_0 rfl rfl ?_
  refine r_aload_n O 0 dX7_passage_1 rfl rfl ?_
  refine r_get O FX7_10 G_122_0 dX7_passage_2 ?_
  refine r_get O FX7_45 G_0_0 dX7_passage_5 ?_
  refine r_get O FX7_49 G_1_3 dX7_passage_8 ?_
  refine g_if (fun c_11 => ?_) (fun c_11 => ?_)
  · exact r_ySx O Y [.int x1, .int (m 0)] [] (bad_X7_requireIndex (g_xl X) hs (s, lm, pm) m x1 (m 0) c_11) LX7_54 rfl rfl rfl dX7_passage_11 rfl rfl rfl
  · have e_11a : 0 ≤ (x1).toInt := j_nltR (fun z => c_11 (Or.inl z)) rfl
    have e_11b : (x1).toInt < (m 0).toInt := j_nle (fun z => c_11 (Or.inr z))
    refine r_ySv O Y [.int x1, .int (m 0)] [] (ok_X7_requireIndex (g_xl X) hs (s, lm, pm) m x1 (m 0) c_11) LX7_54 rfl rfl rfl dX7_passage_11 rfl rfl ?_
    refine r_iload_n O 2 dX7_passage_14 rfl rfl ?_
    refine r_iconst (x := 0) O dX7_passage_15 rfl ?_
    refine r_iconst (x := 4) O dX7_passage_16 rfl ?_
    refine g_if (fun c_17 => ?_) (fun c_17 => ?_)
    · exact r_ySx O Y [.int x2, .int 0, .int 4] [] (bad_X7_requireRange (g_xl X) hs (s, lm, pm) m x2 ((0) : Int32) ((4) : Int32) c_17) LX7_31 rfl rfl rfl dX7_passage_17 rfl rfl rfl
    · have e_17a : (0 : Int) ≤ (x2).toInt := j_nltR (fun z => c_17 (Or.inl z)) rfl
      have e_17b : (x2).toInt ≤ (4 : Int) := j_nltL (fun z => c_17 (Or.inr z)) rfl
      refine r_ySv O Y [.int x2, .int 0, .int 4] [] (ok_X7_requireRange (g_xl X) hs (s, lm, pm) m x2 ((0) : Int32) ((4) : Int32) c_17) LX7_31 rfl rfl rfl dX7_passage_17 rfl rfl ?_
      refine r_aload_n O 0 dX7_passage_20 rfl rfl ?_
      refine r_get O FX7_10 G_122_0 dX7_passage_21 ?_
      refine r_iload_n O 1 dX7_passage_24 rfl rfl ?_
      refine r_iload_n O 2 dX7_passage_25 rfl rfl ?_
      refine r_callVi O [.int x1, .int x2] [] (met_X0_aboutPassage (g_xl X) hs (s, lm, pm) m x1 x2 (by first | decide | with_reducible assumption | with_reducible omega | (simp (disch := omega) only [g_upd_ne, g_upd_eq, fr_X4_fix, fr_X5_put, fr_X1_startAnew, fr_X1_walkTo, fr_X1_arrive, fr_X1_countBelow, fr_X3_set, fr_X0_startWalk, fr_X0_letMinutePass, fr_X3_goUp]; first | with_reducible assumption | with_reducible omega | decide) | (simp (disch := first | omega | with_reducible assumption) only [g_upd_ne, fr_save, fr_X0_takeRope]; first | with_reducible assumption | with_reducible omega) | exact (b_X3_goUp (by with_reducible assumption) (by with_reducible assumption)).1 | exact (b_X3_goUp (by with_reducible assumption) (by with_reducible assumption)).2 | exact Or.inl rfl | exact Or.inr rfl) (by first | decide | with_reducible assumption | with_reducible omega | (simp (disch := omega) only [g_upd_ne, g_upd_eq, fr_X4_fix, fr_X5_put, fr_X1_startAnew, fr_X1_walkTo, fr_X1_arrive, fr_X1_countBelow, fr_X3_set, fr_X0_startWalk, fr_X0_letMinutePass, fr_X3_goUp]; first | with_reducible assumption | with_reducible omega | decide) | (simp (disch := first | omega | with_reducible assumption) only [g_upd_ne, fr_save, fr_X0_takeRope]; first | with_reducible assumption | with_reducible omega) | exact (b_X3_goUp (by with_reducible assumption) (by with_reducible assumption)).1 | exact (b_X3_goUp (by with_reducible assumption) (by with_reducible assumption)).2 | exact Or.inl rfl | exact Or.inr rfl)) LX7_160 obj_0 rfl rfl rfl dX7_passage_26 rfl rfl ?_
      exact r_iret O dX7_passage_29 rfl (Nat.le_of_ble_eq_true rfl) (Nat.le_of_ble_eq_true rfl) rfl
theorem met_X7_passage (l : Launch) (hs : l.stackTraces = false) (s : Nat → Int32) (lm : Nat → Int64) (m : Nat → Int32) (pm : Nat → Nat) (x1 : Int32) (x2 : Int32) (p0 : g_I m pm) : g_SY l yX7_passage cX7_passage 3 (some .int) ({ frames := 8, cells := 2, slots := 12, locals := 142 } : Room) (fun ad => [.ref (ad 122), .int x1, .int x2]) m (s, lm, pm) ((fun r : g_P7 => ((r.1, (r.2.1, s, lm, r.2.2)) : g_Res)) (R_X7_passage m pm x1 x2)) :=
  g_sy_of (by decide) (fun _ => Nat.le_of_ble_eq_true rfl) (fun X hl hn O Y => walk_X7_passage O (by rw [hl]; exact hs) Y hn p0)
def R_X7_rope (m : Nat → Int32) (pm : Nat → Nat) (x1 : Int32) (x2 : Int32) : g_P7 := (if x1 < 0 ∨ (m 1) ≤ x1 then ((.inr "java/lang/IndexOutOfBoundsException" : Option Value ⊕ String), m, pm) else (if x2 < ((0) : Int32) ∨ ((2) : Int32) < x2 then ((.inr "java/lang/IllegalArgumentException" : Option Value ⊕ String), m, pm) else ((.inl (some (.int (R_X5_about m x1 x2))) : Option Value ⊕ String), m, pm)))
set_option maxRecDepth 100000 in
set_option maxHeartbeats 4000000 in
theorem walk_X7_rope {X : g_X} (O : g_ok X cX7_rope RX7 (some .int) ({ frames := 8, cells := 2, slots := 12, locals := 142 } : Room)) (hs : (g_xl X).stackTraces = false) (Y : g_Y (g_xs X)) (hn : g_xn X = 3) {s : Nat → Int32} {lm : Nat → Int64} {m : Nat → Int32} {pm : Nat → Nat} {x1 : Int32} {x2 : Int32} (p0 : g_I m pm) : g_V X (fun r : g_P7 => ((r.1, (r.2.1, s, lm, r.2.2)) : g_Res)) (R_X7_rope m pm x1 x2) 0 0 m (s, lm, pm) 0 [(0, .ref (g_ad X 122)), (1, .int x1), (2, .int x2)] [] := by
  have hN : ∀ i, Nat.blt i 3 = true → i < g_xn X := fun i h => by rw [hn]; exact g_blt.mp h
  obtain ⟨⟨⟨i0a, i0⟩, ⟨i1a, i1⟩, ⟨i2a, i2⟩, ⟨i6a, i6⟩, ⟨i12a, i12⟩, ⟨i90a, i90⟩, i91a, i91⟩, hBo, hPm⟩ := g_I.all p0
  refine r_iload_n O 1 dX7_rope_0 rfl rfl ?_
  refine r_aload_n O 0 dX7_rope_1 rfl rfl ?_
  refine r_get O FX7_10 G_122_0 dX7_rope_2 ?_
  refine r_get O FX7_73 G_0_1 dX7_rope_5 ?_
  refine r_get O FX7_77 G_5_3 dX7_rope_8 ?_
  refine g_if (fun c_11 => ?_) (fun c_11 => ?_)
  · exact r_ySx O Y [.int x1, .int (m 1)] [] (bad_X7_requireIndex (g_xl X) hs (s, lm, pm) m x1 (m 1) c_11) LX7_54 rfl rfl rfl dX7_rope_11 rfl rfl rfl
  · have e_11a : 0 ≤ (x1).toInt := j_nltR (fun z => c_11 (Or.inl z)) rfl
    have e_11b : (x1).toInt < (m 1).toInt := j_nle (fun z => c_11 (Or.inr z))
    refine r_ySv O Y [.int x1, .int (m 1)] [] (ok_X7_requireIndex (g_xl X) hs (s, lm, pm) m x1 (m 1) c_11) LX7_54 rfl rfl rfl dX7_rope_11 rfl rfl ?_
    refine r_iload_n O 2 dX7_rope_14 rfl rfl ?_
    refine r_iconst (x := 0) O dX7_rope_15 rfl ?_
    refine r_iconst (x := 2) O dX7_rope_16 rfl ?_
    refine g_if (fun c_17 => ?_) (fun c_17 => ?_)
    · exact r_ySx O Y [.int x2, .int 0, .int 2] [] (bad_X7_requireRange (g_xl X) hs (s, lm, pm) m x2 ((0) : Int32) ((2) : Int32) c_17) LX7_31 rfl rfl rfl dX7_rope_17 rfl rfl rfl
    · have e_17a : (0 : Int) ≤ (x2).toInt := j_nltR (fun z => c_17 (Or.inl z)) rfl
      have e_17b : (x2).toInt ≤ (2 : Int) := j_nltL (fun z => c_17 (Or.inr z)) rfl
      refine r_ySv O Y [.int x2, .int 0, .int 2] [] (ok_X7_requireRange (g_xl X) hs (s, lm, pm) m x2 ((0) : Int32) ((2) : Int32) c_17) LX7_31 rfl rfl rfl dX7_rope_17 rfl rfl ?_
      refine r_aload_n O 0 dX7_rope_20 rfl rfl ?_
      refine r_get O FX7_10 G_122_0 dX7_rope_21 ?_
      refine r_get O FX7_73 G_0_1 dX7_rope_24 ?_
      refine r_iload_n O 1 dX7_rope_27 rfl rfl ?_
      refine r_iload_n O 2 dX7_rope_28 rfl rfl ?_
      refine r_callVi O [.int x1, .int x2] [] (met_X5_about (g_xl X) hs (s, lm, pm) m x1 x2 (by first | decide | with_reducible assumption | with_reducible omega | (simp (disch := omega) only [g_upd_ne, g_upd_eq, fr_X4_fix, fr_X5_put, fr_X1_startAnew, fr_X1_walkTo, fr_X1_arrive, fr_X1_countBelow, fr_X3_set, fr_X0_startWalk, fr_X0_letMinutePass, fr_X3_goUp]; first | with_reducible assumption | with_reducible omega | decide) | (simp (disch := first | omega | with_reducible assumption) only [g_upd_ne, fr_save, fr_X0_takeRope]; first | with_reducible assumption | with_reducible omega) | exact (b_X3_goUp (by with_reducible assumption) (by with_reducible assumption)).1 | exact (b_X3_goUp (by with_reducible assumption) (by with_reducible assumption)).2 | exact Or.inl rfl | exact Or.inr rfl)) LX7_163 obj_5 rfl rfl rfl dX7_rope_29 rfl rfl ?_
      exact r_iret O dX7_rope_32 rfl (Nat.le_of_ble_eq_true rfl) (Nat.le_of_ble_eq_true rfl) rfl
theorem met_X7_rope (l : Launch) (hs : l.stackTraces = false) (s : Nat → Int32) (lm : Nat → Int64) (m : Nat → Int32) (pm : Nat → Nat) (x1 : Int32) (x2 : Int32) (p0 : g_I m pm) : g_SY l yX7_rope cX7_rope 3 (some .int) ({ frames := 8, cells := 2, slots := 12, locals := 142 } : Room) (fun ad => [.ref (ad 122), .int x1, .int x2]) m (s, lm, pm) ((fun r : g_P7 => ((r.1, (r.2.1, s, lm, r.2.2)) : g_Res)) (R_X7_rope m pm x1 x2)) :=
  g_sy_of (by decide) (fun _ => Nat.le_of_ble_eq_true rfl) (fun X hl hn O Y => walk_X7_rope O (by rw [hl]; exact hs) Y hn p0)
def R_X7_helper (m : Nat → Int32) (pm : Nat → Nat) (x1 : Int32) (x2 : Int32) : g_P7 := (if x1 < 0 ∨ (m 2) ≤ x1 then ((.inr "java/lang/IndexOutOfBoundsException" : Option Value ⊕ String), m, pm) else (if x2 < ((0) : Int32) ∨ ((8) : Int32) < x2 then ((.inr "java/lang/IllegalArgumentException" : Option Value ⊕ String), m, pm) else ((.inl (some (.int (R_X1_about m x1.toNatClampNeg x2))) : Option Value ⊕ String), m, pm)))
set_option maxRecDepth 100000 in
set_option maxHeartbeats 4000000 in
theorem walk_X7_helper {X : g_X} (O : g_ok X cX7_helper RX7 (some .int) ({ frames := 8, cells := 2, slots := 12, locals := 142 } : Room)) (hs : (g_xl X).stackTraces = false) (Y : g_Y (g_xs X)) (hn : g_xn X = 3) {s : Nat → Int32} {lm : Nat → Int64} {m : Nat → Int32} {pm : Nat → Nat} {x1 : Int32} {x2 : Int32} (p0 : g_I m pm) : g_V X (fun r : g_P7 => ((r.1, (r.2.1, s, lm, r.2.2)) : g_Res)) (R_X7_helper m pm x1 x2) 0 0 m (s, lm, pm) 0 [(0, .ref (g_ad X 122)), (1, .int x1), (2, .int x2)] [] := by
  have hN : ∀ i, Nat.blt i 3 = true → i < g_xn X := fun i h => by rw [hn]; exact g_blt.mp h
  obtain ⟨⟨⟨i0a, i0⟩, ⟨i1a, i1⟩, ⟨i2a, i2⟩, ⟨i6a, i6⟩, ⟨i12a, i12⟩, ⟨i90a, i90⟩, i91a, i91⟩, hBo, hPm⟩ := g_I.all p0
  refine r_iload_n O 1 dX7_helper_0 rfl rfl ?_
  refine r_aload_n O 0 dX7_helper_1 rfl rfl ?_
  refine r_get O FX7_10 G_122_0 dX7_helper_2 ?_
  refine r_get O FX7_83 G_0_3 dX7_helper_5 ?_
  refine g_if (fun c_8 => ?_) (fun c_8 => ?_)
  · exact r_ySx O Y [.int x1, .int (m 2)] [] (bad_X7_requireIndex (g_xl X) hs (s, lm, pm) m x1 (m 2) c_8) LX7_54 rfl rfl rfl dX7_helper_8 rfl rfl rfl
  · have e_8a : 0 ≤ (x1).toInt := j_nltR (fun z => c_8 (Or.inl z)) rfl
    have e_8b : (x1).toInt < (m 2).toInt := j_nle (fun z => c_8 (Or.inr z))
    refine r_ySv O Y [.int x1, .int (m 2)] [] (ok_X7_requireIndex (g_xl X) hs (s, lm, pm) m x1 (m 2) c_8) LX7_54 rfl rfl rfl dX7_helper_8 rfl rfl ?_
    refine r_iload_n O 2 dX7_helper_11 rfl rfl ?_
    refine r_iconst (x := 0) O dX7_helper_12 rfl ?_
    refine r_bipush (x := 8) O dX7_helper_13 rfl ?_
    refine g_if (fun c_15 => ?_) (fun c_15 => ?_)
    · exact r_ySx O Y [.int x2, .int 0, .int 8] [] (bad_X7_requireRange (g_xl X) hs (s, lm, pm) m x2 ((0) : Int32) ((8) : Int32) c_15) LX7_31 rfl rfl rfl dX7_helper_15 rfl rfl rfl
    · have e_15a : (0 : Int) ≤ (x2).toInt := j_nltR (fun z => c_15 (Or.inl z)) rfl
      have e_15b : (x2).toInt ≤ (8 : Int) := j_nltL (fun z => c_15 (Or.inr z)) rfl
      refine r_ySv O Y [.int x2, .int 0, .int 8] [] (ok_X7_requireRange (g_xl X) hs (s, lm, pm) m x2 ((0) : Int32) ((8) : Int32) c_15) LX7_31 rfl rfl rfl dX7_helper_15 rfl rfl ?_
      refine r_aload_n O 0 dX7_helper_18 rfl rfl ?_
      refine r_get O FX7_10 G_122_0 dX7_helper_19 ?_
      refine r_get O FX7_166 G_0_2 dX7_helper_22 ?_
      refine r_iload_n O 1 dX7_helper_25 rfl rfl ?_
      have hv1 : vp_in x1 6 := (show vp_in x1 6 from g_vin (by with_reducible omega) (by with_reducible omega))
      have hv1c := g_cl hv1
      refine r_aald O hv1 dX7_helper_26 ?_
      refine r_iload_n O 2 dX7_helper_27 rfl rfl ?_
      refine r_callVi O [.int x2] [] (met_X1_about (g_xl X) hs (s, lm, pm) m x1.toNatClampNeg x2 hv1c) LX7_170 (obj_h hv1c) rfl rfl rfl dX7_helper_28 rfl rfl ?_
      exact r_iret O dX7_helper_31 rfl (Nat.le_of_ble_eq_true rfl) (Nat.le_of_ble_eq_true rfl) rfl
theorem met_X7_helper (l : Launch) (hs : l.stackTraces = false) (s : Nat → Int32) (lm : Nat → Int64) (m : Nat → Int32) (pm : Nat → Nat) (x1 : Int32) (x2 : Int32) (p0 : g_I m pm) : g_SY l yX7_helper cX7_helper 3 (some .int) ({ frames := 8, cells := 2, slots := 12, locals := 142 } : Room) (fun ad => [.ref (ad 122), .int x1, .int x2]) m (s, lm, pm) ((fun r : g_P7 => ((r.1, (r.2.1, s, lm, r.2.2)) : g_Res)) (R_X7_helper m pm x1 x2)) :=
  g_sy_of (by decide) (fun _ => Nat.le_of_ble_eq_true rfl) (fun X hl hn O Y => walk_X7_helper O (by rw [hl]; exact hs) Y hn p0)
def R_X7_value (m : Nat → Int32) (pm : Nat → Nat) (x1 : Int32) : g_P7 := (if x1 < ((0) : Int32) ∨ ((13) : Int32) < x1 then ((.inr "java/lang/IllegalArgumentException" : Option Value ⊕ String), m, pm) else ((.inl (some (.int (R_X0_about m x1))) : Option Value ⊕ String), m, pm))
set_option maxRecDepth 100000 in
set_option maxHeartbeats 4000000 in
theorem walk_X7_value {X : g_X} (O : g_ok X cX7_value RX7 (some .int) ({ frames := 8, cells := 1, slots := 6, locals := 142 } : Room)) (hs : (g_xl X).stackTraces = false) (Y : g_Y (g_xs X)) (hn : g_xn X = 2) {s : Nat → Int32} {lm : Nat → Int64} {m : Nat → Int32} {pm : Nat → Nat} {x1 : Int32} (p0 : g_I m pm) : g_V X (fun r : g_P7 => ((r.1, (r.2.1, s, lm, r.2.2)) : g_Res)) (R_X7_value m pm x1) 0 0 m (s, lm, pm) 0 [(0, .ref (g_ad X 122)), (1, .int x1)] [] := by
  have hN : ∀ i, Nat.blt i 2 = true → i < g_xn X := fun i h => by rw [hn]; exact g_blt.mp h
  obtain ⟨⟨⟨i0a, i0⟩, ⟨i1a, i1⟩, ⟨i2a, i2⟩, ⟨i6a, i6⟩, ⟨i12a, i12⟩, ⟨i90a, i90⟩, i91a, i91⟩, hBo, hPm⟩ := g_I.all p0
  refine r_iload_n O 1 dX7_value_0 rfl rfl ?_
  refine r_iconst (x := 0) O dX7_value_1 rfl ?_
  refine r_bipush (x := 13) O dX7_value_2 rfl ?_
  refine g_if (fun c_4 => ?_) (fun c_4 => ?_)
  · exact r_ySx O Y [.int x1, .int 0, .int 13] [] (bad_X7_requireRange (g_xl X) hs (s, lm, pm) m x1 ((0) : Int32) ((13) : Int32) c_4) LX7_31 rfl rfl rfl dX7_value_4 rfl rfl rfl
  · have e_4a : (0 : Int) ≤ (x1).toInt := j_nltR (fun z => c_4 (Or.inl z)) rfl
    have e_4b : (x1).toInt ≤ (13 : Int) := j_nltL (fun z => c_4 (Or.inr z)) rfl
    refine r_ySv O Y [.int x1, .int 0, .int 13] [] (ok_X7_requireRange (g_xl X) hs (s, lm, pm) m x1 ((0) : Int32) ((13) : Int32) c_4) LX7_31 rfl rfl rfl dX7_value_4 rfl rfl ?_
    refine r_aload_n O 0 dX7_value_7 rfl rfl ?_
    refine r_get O FX7_10 G_122_0 dX7_value_8 ?_
    refine r_iload_n O 1 dX7_value_11 rfl rfl ?_
    refine r_callVi O [.int x1] [] (met_X0_about (g_xl X) hs (s, lm, pm) m x1 (by first | decide | with_reducible assumption | with_reducible omega | (simp (disch := omega) only [g_upd_ne, g_upd_eq, fr_X4_fix, fr_X5_put, fr_X1_startAnew, fr_X1_walkTo, fr_X1_arrive, fr_X1_countBelow, fr_X3_set, fr_X0_startWalk, fr_X0_letMinutePass, fr_X3_goUp]; first | with_reducible assumption | with_reducible omega | decide) | (simp (disch := first | omega | with_reducible assumption) only [g_upd_ne, fr_save, fr_X0_takeRope]; first | with_reducible assumption | with_reducible omega) | exact (b_X3_goUp (by with_reducible assumption) (by with_reducible assumption)).1 | exact (b_X3_goUp (by with_reducible assumption) (by with_reducible assumption)).2 | exact Or.inl rfl | exact Or.inr rfl) (by first | decide | with_reducible assumption | with_reducible omega | (simp (disch := omega) only [g_upd_ne, g_upd_eq, fr_X4_fix, fr_X5_put, fr_X1_startAnew, fr_X1_walkTo, fr_X1_arrive, fr_X1_countBelow, fr_X3_set, fr_X0_startWalk, fr_X0_letMinutePass, fr_X3_goUp]; first | with_reducible assumption | with_reducible omega | decide) | (simp (disch := first | omega | with_reducible assumption) only [g_upd_ne, fr_save, fr_X0_takeRope]; first | with_reducible assumption | with_reducible omega) | exact (b_X3_goUp (by with_reducible assumption) (by with_reducible assumption)).1 | exact (b_X3_goUp (by with_reducible assumption) (by with_reducible assumption)).2 | exact Or.inl rfl | exact Or.inr rfl)) LX7_174 obj_0 rfl rfl rfl dX7_value_12 rfl rfl ?_
    exact r_iret O dX7_value_15 rfl (Nat.le_of_ble_eq_true rfl) (Nat.le_of_ble_eq_true rfl) rfl
theorem met_X7_value (l : Launch) (hs : l.stackTraces = false) (s : Nat → Int32) (lm : Nat → Int64) (m : Nat → Int32) (pm : Nat → Nat) (x1 : Int32) (p0 : g_I m pm) : g_SY l yX7_value cX7_value 2 (some .int) ({ frames := 8, cells := 1, slots := 6, locals := 142 } : Room) (fun ad => [.ref (ad 122), .int x1]) m (s, lm, pm) ((fun r : g_P7 => ((r.1, (r.2.1, s, lm, r.2.2)) : g_Res)) (R_X7_value m pm x1)) :=
  g_sy_of (by decide) (fun _ => Nat.le_of_ble_eq_true rfl) (fun X hl hn O Y => walk_X7_value O (by rw [hl]; exact hs) Y hn p0)
def R_X7_message (m : Nat → Int32) (pm : Nat → Nat) (x1 : Int32) (x2 : Int32) : g_P7 := (if x1 < 0 ∨ (m 6) ≤ x1 then ((.inr "java/lang/IndexOutOfBoundsException" : Option Value ⊕ String), m, pm) else (if x2 < ((0) : Int32) ∨ ((2) : Int32) < x2 then ((.inr "java/lang/IllegalArgumentException" : Option Value ⊕ String), m, pm) else ((.inl (some (.int (R_X3_about m x1 x2))) : Option Value ⊕ String), m, pm)))
set_option maxRecDepth 100000 in
set_option maxHeartbeats 4000000 in
theorem walk_X7_message {X : g_X} (O : g_ok X cX7_message RX7 (some .int) ({ frames := 8, cells := 2, slots := 12, locals := 142 } : Room)) (hs : (g_xl X).stackTraces = false) (Y : g_Y (g_xs X)) (hn : g_xn X = 3) {s : Nat → Int32} {lm : Nat → Int64} {m : Nat → Int32} {pm : Nat → Nat} {x1 : Int32} {x2 : Int32} (p0 : g_I m pm) : g_V X (fun r : g_P7 => ((r.1, (r.2.1, s, lm, r.2.2)) : g_Res)) (R_X7_message m pm x1 x2) 0 0 m (s, lm, pm) 0 [(0, .ref (g_ad X 122)), (1, .int x1), (2, .int x2)] [] := by
  have hN : ∀ i, Nat.blt i 3 = true → i < g_xn X := fun i h => by rw [hn]; exact g_blt.mp h
  obtain ⟨⟨⟨i0a, i0⟩, ⟨i1a, i1⟩, ⟨i2a, i2⟩, ⟨i6a, i6⟩, ⟨i12a, i12⟩, ⟨i90a, i90⟩, i91a, i91⟩, hBo, hPm⟩ := g_I.all p0
  refine r_iload_n O 1 dX7_message_0 rfl rfl ?_
  refine r_aload_n O 0 dX7_message_1 rfl rfl ?_
  refine r_get O FX7_10 G_122_0 dX7_message_2 ?_
  refine r_get O FX7_147 G_0_4 dX7_message_5 ?_
  refine r_get O FX7_151 G_16_3 dX7_message_8 ?_
  refine g_if (fun c_11 => ?_) (fun c_11 => ?_)
  · exact r_ySx O Y [.int x1, .int (m 6)] [] (bad_X7_requireIndex (g_xl X) hs (s, lm, pm) m x1 (m 6) c_11) LX7_54 rfl rfl rfl dX7_message_11 rfl rfl rfl
  · have e_11a : 0 ≤ (x1).toInt := j_nltR (fun z => c_11 (Or.inl z)) rfl
    have e_11b : (x1).toInt < (m 6).toInt := j_nle (fun z => c_11 (Or.inr z))
    refine r_ySv O Y [.int x1, .int (m 6)] [] (ok_X7_requireIndex (g_xl X) hs (s, lm, pm) m x1 (m 6) c_11) LX7_54 rfl rfl rfl dX7_message_11 rfl rfl ?_
    refine r_iload_n O 2 dX7_message_14 rfl rfl ?_
    refine r_iconst (x := 0) O dX7_message_15 rfl ?_
    refine r_iconst (x := 2) O dX7_message_16 rfl ?_
    refine g_if (fun c_17 => ?_) (fun c_17 => ?_)
    · exact r_ySx O Y [.int x2, .int 0, .int 2] [] (bad_X7_requireRange (g_xl X) hs (s, lm, pm) m x2 ((0) : Int32) ((2) : Int32) c_17) LX7_31 rfl rfl rfl dX7_message_17 rfl rfl rfl
    · have e_17a : (0 : Int) ≤ (x2).toInt := j_nltR (fun z => c_17 (Or.inl z)) rfl
      have e_17b : (x2).toInt ≤ (2 : Int) := j_nltL (fun z => c_17 (Or.inr z)) rfl
      refine r_ySv O Y [.int x2, .int 0, .int 2] [] (ok_X7_requireRange (g_xl X) hs (s, lm, pm) m x2 ((0) : Int32) ((2) : Int32) c_17) LX7_31 rfl rfl rfl dX7_message_17 rfl rfl ?_
      refine r_aload_n O 0 dX7_message_20 rfl rfl ?_
      refine r_get O FX7_10 G_122_0 dX7_message_21 ?_
      refine r_get O FX7_147 G_0_4 dX7_message_24 ?_
      refine r_iload_n O 1 dX7_message_27 rfl rfl ?_
      refine r_iload_n O 2 dX7_message_28 rfl rfl ?_
      refine r_callVi O [.int x1, .int x2] [] (met_X3_about (g_xl X) hs (s, lm, pm) m x1 x2 (by first | decide | with_reducible assumption | with_reducible omega | (simp (disch := omega) only [g_upd_ne, g_upd_eq, fr_X4_fix, fr_X5_put, fr_X1_startAnew, fr_X1_walkTo, fr_X1_arrive, fr_X1_countBelow, fr_X3_set, fr_X0_startWalk, fr_X0_letMinutePass, fr_X3_goUp]; first | with_reducible assumption | with_reducible omega | decide) | (simp (disch := first | omega | with_reducible assumption) only [g_upd_ne, fr_save, fr_X0_takeRope]; first | with_reducible assumption | with_reducible omega) | exact (b_X3_goUp (by with_reducible assumption) (by with_reducible assumption)).1 | exact (b_X3_goUp (by with_reducible assumption) (by with_reducible assumption)).2 | exact Or.inl rfl | exact Or.inr rfl) (by first | decide | with_reducible assumption | with_reducible omega | (simp (disch := omega) only [g_upd_ne, g_upd_eq, fr_X4_fix, fr_X5_put, fr_X1_startAnew, fr_X1_walkTo, fr_X1_arrive, fr_X1_countBelow, fr_X3_set, fr_X0_startWalk, fr_X0_letMinutePass, fr_X3_goUp]; first | with_reducible assumption | with_reducible omega | decide) | (simp (disch := first | omega | with_reducible assumption) only [g_upd_ne, fr_save, fr_X0_takeRope]; first | with_reducible assumption | with_reducible omega) | exact (b_X3_goUp (by with_reducible assumption) (by with_reducible assumption)).1 | exact (b_X3_goUp (by with_reducible assumption) (by with_reducible assumption)).2 | exact Or.inl rfl | exact Or.inr rfl)) LX7_175 obj_16 rfl rfl rfl dX7_message_29 rfl rfl ?_
      exact r_iret O dX7_message_32 rfl (Nat.le_of_ble_eq_true rfl) (Nat.le_of_ble_eq_true rfl) rfl
theorem met_X7_message (l : Launch) (hs : l.stackTraces = false) (s : Nat → Int32) (lm : Nat → Int64) (m : Nat → Int32) (pm : Nat → Nat) (x1 : Int32) (x2 : Int32) (p0 : g_I m pm) : g_SY l yX7_message cX7_message 3 (some .int) ({ frames := 8, cells := 2, slots := 12, locals := 142 } : Room) (fun ad => [.ref (ad 122), .int x1, .int x2]) m (s, lm, pm) ((fun r : g_P7 => ((r.1, (r.2.1, s, lm, r.2.2)) : g_Res)) (R_X7_message m pm x1 x2)) :=
  g_sy_of (by decide) (fun _ => Nat.le_of_ble_eq_true rfl) (fun X hl hn O Y => walk_X7_message O (by rw [hl]; exact hs) Y hn p0)
def R_X7_carried (m : Nat → Int32) (pm : Nat → Nat) (x1 : Int32) (x2 : Int32) : g_P7 := (if x1 < 0 ∨ (m 12) ≤ x1 then ((.inr "java/lang/IndexOutOfBoundsException" : Option Value ⊕ String), m, pm) else (if x2 < ((0) : Int32) ∨ ((2) : Int32) < x2 then ((.inr "java/lang/IllegalArgumentException" : Option Value ⊕ String), m, pm) else ((.inl (some (.int (R_X2_about m x1 x2))) : Option Value ⊕ String), m, pm)))
set_option maxRecDepth 100000 in
set_option maxHeartbeats 4000000 in
theorem walk_X7_carried {X : g_X} (O : g_ok X cX7_carried RX7 (some .int) ({ frames := 8, cells := 2, slots := 12, locals := 142 } : Room)) (hs : (g_xl X).stackTraces = false) (Y : g_Y (g_xs X)) (hn : g_xn X = 3) {s : Nat → Int32} {lm : Nat → Int64} {m : Nat → Int32} {pm : Nat → Nat} {x1 : Int32} {x2 : Int32} (p0 : g_I m pm) : g_V X (fun r : g_P7 => ((r.1, (r.2.1, s, lm, r.2.2)) : g_Res)) (R_X7_carried m pm x1 x2) 0 0 m (s, lm, pm) 0 [(0, .ref (g_ad X 122)), (1, .int x1), (2, .int x2)] [] := by
  have hN : ∀ i, Nat.blt i 3 = true → i < g_xn X := fun i h => by rw [hn]; exact g_blt.mp h
  obtain ⟨⟨⟨i0a, i0⟩, ⟨i1a, i1⟩, ⟨i2a, i2⟩, ⟨i6a, i6⟩, ⟨i12a, i12⟩, ⟨i90a, i90⟩, i91a, i91⟩, hBo, hPm⟩ := g_I.all p0
  refine r_iload_n O 1 dX7_carried_0 rfl rfl ?_
  refine r_aload_n O 0 dX7_carried_1 rfl rfl ?_
  refine r_get O FX7_10 G_122_0 dX7_carried_2 ?_
  refine r_get O FX7_176 G_0_5 dX7_carried_5 ?_
  refine r_get O FX7_180 G_20_3 dX7_carried_8 ?_
  refine g_if (fun c_11 => ?_) (fun c_11 => ?_)
  · exact r_ySx O Y [.int x1, .int (m 12)] [] (bad_X7_requireIndex (g_xl X) hs (s, lm, pm) m x1 (m 12) c_11) LX7_54 rfl rfl rfl dX7_carried_11 rfl rfl rfl
  · have e_11a : 0 ≤ (x1).toInt := j_nltR (fun z => c_11 (Or.inl z)) rfl
    have e_11b : (x1).toInt < (m 12).toInt := j_nle (fun z => c_11 (Or.inr z))
    refine r_ySv O Y [.int x1, .int (m 12)] [] (ok_X7_requireIndex (g_xl X) hs (s, lm, pm) m x1 (m 12) c_11) LX7_54 rfl rfl rfl dX7_carried_11 rfl rfl ?_
    refine r_iload_n O 2 dX7_carried_14 rfl rfl ?_
    refine r_iconst (x := 0) O dX7_carried_15 rfl ?_
    refine r_iconst (x := 2) O dX7_carried_16 rfl ?_
    refine g_if (fun c_17 => ?_) (fun c_17 => ?_)
    · exact r_ySx O Y [.int x2, .int 0, .int 2] [] (bad_X7_requireRange (g_xl X) hs (s, lm, pm) m x2 ((0) : Int32) ((2) : Int32) c_17) LX7_31 rfl rfl rfl dX7_carried_17 rfl rfl rfl
    · have e_17a : (0 : Int) ≤ (x2).toInt := j_nltR (fun z => c_17 (Or.inl z)) rfl
      have e_17b : (x2).toInt ≤ (2 : Int) := j_nltL (fun z => c_17 (Or.inr z)) rfl
      refine r_ySv O Y [.int x2, .int 0, .int 2] [] (ok_X7_requireRange (g_xl X) hs (s, lm, pm) m x2 ((0) : Int32) ((2) : Int32) c_17) LX7_31 rfl rfl rfl dX7_carried_17 rfl rfl ?_
      refine r_aload_n O 0 dX7_carried_20 rfl rfl ?_
      refine r_get O FX7_10 G_122_0 dX7_carried_21 ?_
      refine r_get O FX7_176 G_0_5 dX7_carried_24 ?_
      refine r_iload_n O 1 dX7_carried_27 rfl rfl ?_
      refine r_iload_n O 2 dX7_carried_28 rfl rfl ?_
      refine r_callVi O [.int x1, .int x2] [] (met_X2_about (g_xl X) hs (s, lm, pm) m x1 x2 (by first | decide | with_reducible assumption | with_reducible omega | (simp (disch := omega) only [g_upd_ne, g_upd_eq, fr_X4_fix, fr_X5_put, fr_X1_startAnew, fr_X1_walkTo, fr_X1_arrive, fr_X1_countBelow, fr_X3_set, fr_X0_startWalk, fr_X0_letMinutePass, fr_X3_goUp]; first | with_reducible assumption | with_reducible omega | decide) | (simp (disch := first | omega | with_reducible assumption) only [g_upd_ne, fr_save, fr_X0_takeRope]; first | with_reducible assumption | with_reducible omega) | exact (b_X3_goUp (by with_reducible assumption) (by with_reducible assumption)).1 | exact (b_X3_goUp (by with_reducible assumption) (by with_reducible assumption)).2 | exact Or.inl rfl | exact Or.inr rfl)) LX7_185 obj_20 rfl rfl rfl dX7_carried_29 rfl rfl ?_
      exact r_iret O dX7_carried_32 rfl (Nat.le_of_ble_eq_true rfl) (Nat.le_of_ble_eq_true rfl) rfl
theorem met_X7_carried (l : Launch) (hs : l.stackTraces = false) (s : Nat → Int32) (lm : Nat → Int64) (m : Nat → Int32) (pm : Nat → Nat) (x1 : Int32) (x2 : Int32) (p0 : g_I m pm) : g_SY l yX7_carried cX7_carried 3 (some .int) ({ frames := 8, cells := 2, slots := 12, locals := 142 } : Room) (fun ad => [.ref (ad 122), .int x1, .int x2]) m (s, lm, pm) ((fun r : g_P7 => ((r.1, (r.2.1, s, lm, r.2.2)) : g_Res)) (R_X7_carried m pm x1 x2)) :=
  g_sy_of (by decide) (fun _ => Nat.le_of_ble_eq_true rfl) (fun X hl hn O Y => walk_X7_carried O (by rw [hl]; exact hs) Y hn p0)
