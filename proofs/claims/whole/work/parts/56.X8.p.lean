/-! ===== the model: an order is done ===== -/
def R_X8_does (s : Nat → Int32) : (Int32 × (Nat → Int32)) := (if (s 1305) = 99 then ((R_X8_carries s (s 1306)).1, (R_X8_carries s (s 1306)).2) else (if (s 1305) = 103 then ((R_X8_goes s (s 1306) (s 1307)).1, (R_X8_goes s (s 1306) (s 1307)).2) else (if (s 1305) = 109 then ((R_X8_sends s (s 1306)).1, (R_X8_sends s (s 1306)).2) else (if (s 1305) = 114 then ((R_X8_rigsAt s (s 1306)).1, (R_X8_rigsAt s (s 1306)).2) else (if (s 1305) = 116 then ((R_X8_takes s (s 1306) (s 1307)).1, (R_X8_takes s (s 1306) (s 1307)).2) else ((R_X8_passes s (s 1306)).1, (R_X8_passes s (s 1306)).2))))))
set_option maxRecDepth 100000 in
set_option maxHeartbeats 4000000 in
theorem walk_X8_does {X : g_X} (O : g_ok X cX8_does RX8 (some .int) ({ frames := 7, cells := 0, slots := 0, locals := 167 } : Room)) (hs : (g_xl X).stackTraces = false) (hn : g_xn X = 1) {m : Nat → Int32} {lm : Nat → Int64} {pm : Nat → Nat} {s : Nat → Int32} (p0 : g_J s) : g_V X (fun r : Int32 × (Nat → Int32) => ((.inl (some (.int r.1)), (m, r.2, lm, pm)) : g_Res)) (R_X8_does s) 0 0 m (s, lm, pm) 0 [(0, .ref (g_ad X 124))] [] := by
  have hN : ∀ i, Nat.blt i 1 = true → i < g_xn X := fun i h => by rw [hn]; exact g_blt.mp h
  refine r_aload_n O 0 dX8_does_0 rfl rfl ?_
  refine r_get O FX8_195 G_124_9 dX8_does_1 ?_
  refine g_if (fun c_4_0 => ?_) (fun c_4_0 => ?_)
  · refine r_lookup O (off := 87) 91 dX8_does_4 rfl (by show Op.lookupswitch.offset [(99, 87), (103, 52), (109, 96), (114, 65), (116, 74)] 105 _ = 87; rw [c_4_0] <;> rfl) (by decide) ?_
    refine r_aload_n O 0 dX8_does_91 rfl rfl ?_
    refine r_aload_n O 0 dX8_does_92 rfl rfl ?_
    refine r_get O FX8_189 G_124_10 dX8_does_93 ?_
    refine r_callVi O [.int (s 1306)] [] (met_X8_carries (g_xl X) hs lm pm m s (s 1306) (by first | decide | with_reducible assumption | with_reducible omega | (simp (disch := omega) only [g_upd_ne, g_upd_eq, fr_X8_walks, fr_X8_sets, hold_ne, fr_leaves_hi, fr_gives_hi, begins_hi]; first | with_reducible assumption | with_reducible omega | decide) | exact Or.inl rfl | exact Or.inr rfl)) LX8_156 obj_124 rfl rfl rfl dX8_does_96 rfl rfl ?_
    exact r_iret O dX8_does_99 rfl (Nat.le_of_ble_eq_true rfl) (Nat.le_of_ble_eq_true rfl) rfl
  · refine g_if (fun c_4_1 => ?_) (fun c_4_1 => ?_)
    · refine r_lookup O (off := 52) 56 dX8_does_4 rfl (by show Op.lookupswitch.offset [(99, 87), (103, 52), (109, 96), (114, 65), (116, 74)] 105 _ = 52; rw [lv_osw (a := 99) c_4_0 rfl, c_4_1] <;> rfl) (by decide) ?_
      refine r_aload_n O 0 dX8_does_56 rfl rfl ?_
      refine r_aload_n O 0 dX8_does_57 rfl rfl ?_
      refine r_get O FX8_189 G_124_10 dX8_does_58 ?_
      refine r_aload_n O 0 dX8_does_61 rfl rfl ?_
      refine r_get O FX8_204 G_124_11 dX8_does_62 ?_
      refine r_callVi O [.int (s 1306), .int (s 1307)] [] (met_X8_goes (g_xl X) hs lm pm m s (s 1306) (s 1307) (by first | decide | with_reducible assumption | with_reducible omega | (simp (disch := omega) only [g_upd_ne, g_upd_eq, fr_X8_walks, fr_X8_sets, hold_ne, fr_leaves_hi, fr_gives_hi, begins_hi]; first | with_reducible assumption | with_reducible omega | decide) | exact Or.inl rfl | exact Or.inr rfl)) LX8_144 obj_124 rfl rfl rfl dX8_does_65 rfl rfl ?_
      exact r_iret O dX8_does_68 rfl (Nat.le_of_ble_eq_true rfl) (Nat.le_of_ble_eq_true rfl) rfl
    · refine g_if (fun c_4_2 => ?_) (fun c_4_2 => ?_)
      · refine r_lookup O (off := 96) 100 dX8_does_4 rfl (by show Op.lookupswitch.offset [(99, 87), (103, 52), (109, 96), (114, 65), (116, 74)] 105 _ = 96; rw [lv_osw (a := 99) c_4_0 rfl, lv_osw (a := 103) c_4_1 rfl, c_4_2] <;> rfl) (by decide) ?_
        refine r_aload_n O 0 dX8_does_100 rfl rfl ?_
        refine r_aload_n O 0 dX8_does_101 rfl rfl ?_
        refine r_get O FX8_189 G_124_10 dX8_does_102 ?_
        refine r_callVi O [.int (s 1306)] [] (met_X8_sends (g_xl X) hs lm pm m s (s 1306) (by first | decide | with_reducible assumption | with_reducible omega | (simp (disch := omega) only [g_upd_ne, g_upd_eq, fr_X8_walks, fr_X8_sets, hold_ne, fr_leaves_hi, fr_gives_hi, begins_hi]; first | with_reducible assumption | with_reducible omega | decide) | exact Or.inl rfl | exact Or.inr rfl)) LX8_159 obj_124 rfl rfl rfl dX8_does_105 rfl rfl ?_
        exact r_iret O dX8_does_108 rfl (Nat.le_of_ble_eq_true rfl) (Nat.le_of_ble_eq_true rfl) rfl
      · refine g_if (fun c_4_3 => ?_) (fun c_4_3 => ?_)
        · refine r_lookup O (off := 65) 69 dX8_does_4 rfl (by show Op.lookupswitch.offset [(99, 87), (103, 52), (109, 96), (114, 65), (116, 74)] 105 _ = 65; rw [lv_osw (a := 99) c_4_0 rfl, lv_osw (a := 103) c_4_1 rfl, lv_osw (a := 109) c_4_2 rfl, c_4_3] <;> rfl) (by decide) ?_
          refine r_aload_n O 0 dX8_does_69 rfl rfl ?_
          refine r_aload_n O 0 dX8_does_70 rfl rfl ?_
          refine r_get O FX8_189 G_124_10 dX8_does_71 ?_
          refine r_callVi O [.int (s 1306)] [] (met_X8_rigsAt (g_xl X) hs lm pm m s (s 1306) (by first | decide | with_reducible assumption | with_reducible omega | (simp (disch := omega) only [g_upd_ne, g_upd_eq, fr_X8_walks, fr_X8_sets, hold_ne, fr_leaves_hi, fr_gives_hi, begins_hi]; first | with_reducible assumption | with_reducible omega | decide) | exact Or.inl rfl | exact Or.inr rfl)) LX8_153 obj_124 rfl rfl rfl dX8_does_74 rfl rfl ?_
          exact r_iret O dX8_does_77 rfl (Nat.le_of_ble_eq_true rfl) (Nat.le_of_ble_eq_true rfl) rfl
        · refine g_if (fun c_4_4 => ?_) (fun c_4_4 => ?_)
          · refine r_lookup O (off := 74) 78 dX8_does_4 rfl (by show Op.lookupswitch.offset [(99, 87), (103, 52), (109, 96), (114, 65), (116, 74)] 105 _ = 74; rw [lv_osw (a := 99) c_4_0 rfl, lv_osw (a := 103) c_4_1 rfl, lv_osw (a := 109) c_4_2 rfl, lv_osw (a := 114) c_4_3 rfl, c_4_4] <;> rfl) (by decide) ?_
            refine r_aload_n O 0 dX8_does_78 rfl rfl ?_
            refine r_aload_n O 0 dX8_does_79 rfl rfl ?_
            refine r_get O FX8_189 G_124_10 dX8_does_80 ?_
            refine r_aload_n O 0 dX8_does_83 rfl rfl ?_
            refine r_get O FX8_204 G_124_11 dX8_does_84 ?_
            refine r_callVi O [.int (s 1306), .int (s 1307)] [] (met_X8_takes (g_xl X) hs lm pm m s (s 1306) (s 1307) (by first | decide | with_reducible assumption | with_reducible omega | (simp (disch := omega) only [g_upd_ne, g_upd_eq, fr_X8_walks, fr_X8_sets, hold_ne, fr_leaves_hi, fr_gives_hi, begins_hi]; first | with_reducible assumption | with_reducible omega | decide) | exact Or.inl rfl | exact Or.inr rfl)) LX8_150 obj_124 rfl rfl rfl dX8_does_87 rfl rfl ?_
            exact r_iret O dX8_does_90 rfl (Nat.le_of_ble_eq_true rfl) (Nat.le_of_ble_eq_true rfl) rfl
          · refine r_lookup O (off := 105) 109 dX8_does_4 rfl (by show Op.lookupswitch.offset [(99, 87), (103, 52), (109, 96), (114, 65), (116, 74)] 105 _ = 105; rw [lv_osw (a := 99) c_4_0 rfl, lv_osw (a := 103) c_4_1 rfl, lv_osw (a := 109) c_4_2 rfl, lv_osw (a := 114) c_4_3 rfl, lv_osw (a := 116) c_4_4 rfl] <;> rfl) (by decide) ?_
            refine r_aload_n O 0 dX8_does_109 rfl rfl ?_
            refine r_aload_n O 0 dX8_does_110 rfl rfl ?_
            refine r_get O FX8_189 G_124_10 dX8_does_111 ?_
            refine r_callVi O [.int (s 1306)] [] (met_X8_passes (g_xl X) hs lm pm m s (s 1306) (by first | decide | with_reducible assumption | with_reducible omega | (simp (disch := omega) only [g_upd_ne, g_upd_eq, fr_X8_walks, fr_X8_sets, hold_ne, fr_leaves_hi, fr_gives_hi, begins_hi]; first | with_reducible assumption | with_reducible omega | decide) | exact Or.inl rfl | exact Or.inr rfl)) LX8_162 obj_124 rfl rfl rfl dX8_does_114 rfl rfl ?_
            exact r_iret O dX8_does_117 rfl (Nat.le_of_ble_eq_true rfl) (Nat.le_of_ble_eq_true rfl) rfl
theorem met_X8_does (l : Launch) (hs : l.stackTraces = false) (lm : Nat → Int64) (pm : Nat → Nat) (m : Nat → Int32) (s : Nat → Int32) (p0 : g_J s) : g_SM l yX8_does cX8_does 1 (some .int) ({ frames := 7, cells := 0, slots := 0, locals := 167 } : Room) (fun ad => [.ref (ad 124)]) m (s, lm, pm) ((fun r : Int32 × (Nat → Int32) => ((.inl (some (.int r.1)), (m, r.2, lm, pm)) : g_Res)) (R_X8_does s)) :=
  g_sm_of (by decide) (fun _ => Nat.le_of_ble_eq_true rfl) hs (fun X hl hn O => walk_X8_does O (by rw [hl]; exact hs) hn p0)
theorem does_JU {s : Nat → Int32} (a : g_J s) : g_J (R_X8_does s).2 ∧ g_Up s (R_X8_does s).2 := by
  unfold R_X8_does
  split
  · exact ⟨J_carries a, U_carries a⟩
  split
  · exact ⟨J_goes a, U_goes a⟩
  split
  · exact ⟨J_sends a, U_sends a⟩
  split
  · exact ⟨J_rigsAt a, U_rigsAt a⟩
  split
  · exact ⟨J_takes a, U_takes a⟩
  · exact ⟨(U_passes a).2, (U_passes a).1⟩
