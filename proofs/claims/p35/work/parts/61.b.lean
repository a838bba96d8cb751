/-! ===== the law's wrappers ===== -/
theorem th_begin {m : Nat → Int32} {pm : Nat → Nat} {x1 : Int32} : g_W7 ["java/lang/IllegalArgumentException"] pm (R_X7_begin m pm x1) := by
  unfold R_X7_begin
  repeat' split
  all_goals first | exact g_W7.x (by decide) | exact g_W7.r rfl | exact g_W7.r p4_save
set_option maxRecDepth 100000 in
set_option maxHeartbeats 4000000 in
theorem walk_L_begins {X : g_X} (O : g_oT X cL_begins RL (some .int) ({ frames := 9, cells := 1, slots := 6, locals := 164 } : Room) (tableOf [(0, 5, 6, 101)])) (hs : (g_xl X).stackTraces = false) (Y : g_Y (g_xs X)) (hn : g_xn X = 3) {m s : Nat → Int32} {lm : Nat → Int64} {pm : Nat → Nat} {x1 : Int32} (p0 : g_I m pm) : g_V X (fun r : g_Res => r) (g_w (R_X7_begin m pm x1) s lm) 0 0 m (s, lm, pm) 0 [(0, .ref (g_ad X 122)), (1, .int x1)] [] := by
  have hN : ∀ i, Nat.blt i 3 = true → i < g_xn X := fun i h => by rw [hn]; exact g_blt.mp h
  have M := met_X7_begin (g_xl X) hs s lm m pm x1 p0
  have hw := th_begin (m := m) (pm := pm) (x1 := x1)
  refine tt_aload_n O 0 dL_begins_0 rfl rfl ?_
  refine tt_iload_n O 1 dL_begins_1 rfl rfl ?_
  generalize R_X7_begin m pm x1 = rr at hw M ⊢
  obtain ⟨o, m1, pm1⟩ := rr
  obtain ⟨h5, hw⟩ := hw
  rcases hw with ⟨v, hv⟩ | ⟨E, hE, hv⟩
  · have hv : o = .inl (some (.int v)) := hv
    subst hv
    refine tt_callVi O Y [.int x1] [] M LL_95 obj_122 rfl rfl rfl dL_begins_2 rfl rfl ?_
    exact tt_iret O dL_begins_5 (Nat.le_of_ble_eq_true rfl) (Nat.le_of_ble_eq_true rfl) rfl
  · have hv : o = .inr E := hv
    subst hv
    simp only [List.mem_cons, List.not_mem_nil, or_false] at hE
    subst hE
    refine tt_callVx O Y [.int x1] [] M LL_95 obj_122 rfl rfl rfl dL_begins_2 rfl rfl [] ⟨0, 5, 6, 101⟩ [] rfl (fun z hz => absurd hz List.not_mem_nil) (by decide) (by decide) (gW_in (i := 277) (by decide +kernel) rfl) Y.2.1.2.1 (fun q9 => ?_)
    refine tt_astore_n (lc' := [(2, .ref q9), (0, .ref (g_ad X 122)), (1, .int x1)]) O dL_begins_6 rfl (hN 2 rfl) rfl ?_
    refine tt_ldc O dL_begins_7 w_con_L_51 ?_
    exact tt_iret O dL_begins_9 (Nat.le_of_ble_eq_true rfl) (Nat.le_of_ble_eq_true rfl) (by simp [g_w, g_wv, g_wx])
theorem met_L_begins (l : Launch) (hs : l.stackTraces = false) (m s : Nat → Int32) (lm : Nat → Int64) (pm : Nat → Nat) (x1 : Int32) (p0 : g_I m pm) : g_SW l yL_begins cL_begins 3 [(0, 5, 6, 101)] ({ frames := 9, cells := 1, slots := 6, locals := 164 } : Room) (fun ad => [.ref (ad 122), .int x1]) m (s, lm, pm) (g_w (R_X7_begin m pm x1) s lm) :=
  g_sw_of (by decide) (fun _ => Nat.le_of_ble_eq_true rfl) (fun X hl hn O Y => walk_L_begins O (by rw [hl]; exact hs) Y hn p0)
theorem LW_35 : g_LW 35 yL_begins cL_begins 3 2 [(0, 5, 6, 101)] := ⟨gW_in (i := 274) (by decide +kernel) rfl, w_ini_L, gW_in (i := 276) (by decide +kernel) rfl, by decide +kernel, gW_in (i := 275) (by decide +kernel) rfl⟩
theorem th_setPassage {m : Nat → Int32} {pm : Nat → Nat} {x1 : Int32} {x2 : Int32} {x3 : Int32} : g_W7 ["java/lang/IndexOutOfBoundsException", "java/lang/IllegalArgumentException", "java/lang/IllegalStateException"] pm (R_X7_setPassage m pm x1 x2 x3) := by
  unfold R_X7_setPassage R_X7_setPassage_44
  repeat' split
  all_goals first | exact g_W7.x (by decide) | exact g_W7.r rfl | exact g_W7.r p4_save
set_option maxRecDepth 100000 in
set_option maxHeartbeats 4000000 in
theorem walk_L_passages {X : g_X} (O : g_oT X cL_passages RL (some .int) ({ frames := 9, cells := 4, slots := 24, locals := 166 } : Room) (tableOf [(0, 7, 8, 107), (0, 7, 13, 101), (0, 7, 18, 109)])) (hs : (g_xl X).stackTraces = false) (Y : g_Y (g_xs X)) (hn : g_xn X = 5) {m s : Nat → Int32} {lm : Nat → Int64} {pm : Nat → Nat} {x1 : Int32} {x2 : Int32} {x3 : Int32} (p0 : g_I m pm) : g_V X (fun r : g_Res => r) (g_w (R_X7_setPassage m pm x1 x2 x3) s lm) 0 0 m (s, lm, pm) 0 [(0, .ref (g_ad X 122)), (1, .int x1), (2, .int x2), (3, .int x3)] [] := by
  have hN : ∀ i, Nat.blt i 5 = true → i < g_xn X := fun i h => by rw [hn]; exact g_blt.mp h
  have M := met_X7_setPassage (g_xl X) hs s lm m pm x1 x2 x3 p0
  have hw := th_setPassage (m := m) (pm := pm) (x1 := x1) (x2 := x2) (x3 := x3)
  refine tt_aload_n O 0 dL_passages_0 rfl rfl ?_
  refine tt_iload_n O 1 dL_passages_1 rfl rfl ?_
  refine tt_iload_n O 2 dL_passages_2 rfl rfl ?_
  refine tt_iload_n O 3 dL_passages_3 rfl rfl ?_
  generalize R_X7_setPassage m pm x1 x2 x3 = rr at hw M ⊢
  obtain ⟨o, m1, pm1⟩ := rr
  obtain ⟨h5, hw⟩ := hw
  rcases hw with ⟨v, hv⟩ | ⟨E, hE, hv⟩
  · have hv : o = .inl (some (.int v)) := hv
    subst hv
    refine tt_callVi O Y [.int x1, .int x2, .int x3] [] M LL_103 obj_122 rfl rfl rfl dL_passages_4 rfl rfl ?_
    exact tt_iret O dL_passages_7 (Nat.le_of_ble_eq_true rfl) (Nat.le_of_ble_eq_true rfl) rfl
  · have hv : o = .inr E := hv
    subst hv
    simp only [List.mem_cons, List.not_mem_nil, or_false] at hE
    rcases hE with rfl | rfl | rfl
    · refine tt_callVx O Y [.int x1, .int x2, .int x3] [] M LL_103 obj_122 rfl rfl rfl dL_passages_4 rfl rfl [] ⟨0, 7, 8, 107⟩ [⟨0, 7, 13, 101⟩, ⟨0, 7, 18, 109⟩] rfl (fun z hz => absurd hz List.not_mem_nil) (by decide) (by decide) (gW_in (i := 409) (by decide +kernel) rfl) Y.2.1.1 (fun q9 => ?_)
      refine tt_astore (lc' := [(4, .ref q9), (0, .ref (g_ad X 122)), (1, .int x1), (2, .int x2), (3, .int x3)]) O dL_passages_8 (hN 4 rfl) rfl ?_
      refine tt_ldc O dL_passages_10 w_con_L_68 ?_
      exact tt_iret O dL_passages_12 (Nat.le_of_ble_eq_true rfl) (Nat.le_of_ble_eq_true rfl) (by simp [g_w, g_wv, g_wx])
    · refine tt_callVx O Y [.int x1, .int x2, .int x3] [] M LL_103 obj_122 rfl rfl rfl dL_passages_4 rfl rfl [⟨0, 7, 8, 107⟩] ⟨0, 7, 13, 101⟩ [⟨0, 7, 18, 109⟩] rfl (fun z hz => by
          simp only [List.mem_cons, List.not_mem_nil, or_false] at hz
          subst hz
          exact ⟨by decide, "java/lang/IndexOutOfBoundsException", gW_in (i := 409) (by decide +kernel) rfl, Y.2.2.1.1⟩) (by decide) (by decide) (gW_in (i := 277) (by decide +kernel) rfl) Y.2.1.2.1 (fun q9 => ?_)
      refine tt_astore (lc' := [(4, .ref q9), (0, .ref (g_ad X 122)), (1, .int x1), (2, .int x2), (3, .int x3)]) O dL_passages_13 (hN 4 rfl) rfl ?_
      refine tt_ldc O dL_passages_15 w_con_L_51 ?_
      exact tt_iret O dL_passages_17 (Nat.le_of_ble_eq_true rfl) (Nat.le_of_ble_eq_true rfl) (by simp [g_w, g_wv, g_wx])
    · refine tt_callVx O Y [.int x1, .int x2, .int x3] [] M LL_103 obj_122 rfl rfl rfl dL_passages_4 rfl rfl [⟨0, 7, 8, 107⟩, ⟨0, 7, 13, 101⟩] ⟨0, 7, 18, 109⟩ [] rfl (fun z hz => by
          simp only [List.mem_cons, List.not_mem_nil, or_false] at hz
          rcases hz with rfl | rfl
          · exact ⟨by decide, "java/lang/IndexOutOfBoundsException", gW_in (i := 409) (by decide +kernel) rfl, Y.2.2.1.2.1⟩
          · exact ⟨by decide, "java/lang/IllegalArgumentException", gW_in (i := 277) (by decide +kernel) rfl, Y.2.2.1.2.2⟩) (by decide) (by decide) (gW_in (i := 410) (by decide +kernel) rfl) Y.2.1.2.2 (fun q9 => ?_)
      refine tt_astore (lc' := [(4, .ref q9), (0, .ref (g_ad X 122)), (1, .int x1), (2, .int x2), (3, .int x3)]) O dL_passages_18 (hN 4 rfl) rfl ?_
      refine tt_ldc O dL_passages_20 w_con_L_50 ?_
      exact tt_iret O dL_passages_22 (Nat.le_of_ble_eq_true rfl) (Nat.le_of_ble_eq_true rfl) (by simp [g_w, g_wv, g_wx])
theorem met_L_passages (l : Launch) (hs : l.stackTraces = false) (m s : Nat → Int32) (lm : Nat → Int64) (pm : Nat → Nat) (x1 : Int32) (x2 : Int32) (x3 : Int32) (p0 : g_I m pm) : g_SW l yL_passages cL_passages 5 [(0, 7, 8, 107), (0, 7, 13, 101), (0, 7, 18, 109)] ({ frames := 9, cells := 4, slots := 24, locals := 166 } : Room) (fun ad => [.ref (ad 122), .int x1, .int x2, .int x3]) m (s, lm, pm) (g_w (R_X7_setPassage m pm x1 x2 x3) s lm) :=
  g_sw_of (by decide) (fun _ => Nat.le_of_ble_eq_true rfl) (fun X hl hn O Y => walk_L_passages O (by rw [hl]; exact hs) Y hn p0)
theorem LW_46 : g_LW 46 yL_passages cL_passages 5 4 [(0, 7, 8, 107), (0, 7, 13, 101), (0, 7, 18, 109)] := ⟨gW_in (i := 406) (by decide +kernel) rfl, w_ini_L, gW_in (i := 408) (by decide +kernel) rfl, by decide +kernel, gW_in (i := 407) (by decide +kernel) rfl⟩
theorem th_addRope {m : Nat → Int32} {pm : Nat → Nat} {x1 : Int32} : g_W7 ["java/lang/IllegalArgumentException", "java/lang/IllegalStateException"] pm (R_X7_addRope m pm x1) := by
  unfold R_X7_addRope R_X7_addRope_28
  repeat' split
  all_goals first | exact g_W7.x (by decide) | exact g_W7.r rfl | exact g_W7.r p4_save
set_option maxRecDepth 100000 in
set_option maxHeartbeats 4000000 in
theorem walk_L_ropes {X : g_X} (O : g_oT X cL_ropes RL (some .int) ({ frames := 9, cells := 2, slots := 12, locals := 163 } : Room) (tableOf [(0, 5, 6, 101), (0, 5, 10, 109)])) (hs : (g_xl X).stackTraces = false) (Y : g_Y (g_xs X)) (hn : g_xn X = 3) {m s : Nat → Int32} {lm : Nat → Int64} {pm : Nat → Nat} {x1 : Int32} (p0 : g_I m pm) : g_V X (fun r : g_Res => r) (g_w (R_X7_addRope m pm x1) s lm) 0 0 m (s, lm, pm) 0 [(0, .ref (g_ad X 122)), (1, .int x1)] [] := by
  have hN : ∀ i, Nat.blt i 3 = true → i < g_xn X := fun i h => by rw [hn]; exact g_blt.mp h
  have M := met_X7_addRope (g_xl X) hs s lm m pm x1 p0
  have hw := th_addRope (m := m) (pm := pm) (x1 := x1)
  refine tt_aload_n O 0 dL_ropes_0 rfl rfl ?_
  refine tt_iload_n O 1 dL_ropes_1 rfl rfl ?_
  generalize R_X7_addRope m pm x1 = rr at hw M ⊢
  obtain ⟨o, m1, pm1⟩ := rr
  obtain ⟨h5, hw⟩ := hw
  rcases hw with ⟨v, hv⟩ | ⟨E, hE, hv⟩
  · have hv : o = .inl (some (.int v)) := hv
    subst hv
    refine tt_callVi O Y [.int x1] [] M LL_111 obj_122 rfl rfl rfl dL_ropes_2 rfl rfl ?_
    exact tt_iret O dL_ropes_5 (Nat.le_of_ble_eq_true rfl) (Nat.le_of_ble_eq_true rfl) rfl
  · have hv : o = .inr E := hv
    subst hv
    simp only [List.mem_cons, List.not_mem_nil, or_false] at hE
    rcases hE with rfl | rfl
    · refine tt_callVx O Y [.int x1] [] M LL_111 obj_122 rfl rfl rfl dL_ropes_2 rfl rfl [] ⟨0, 5, 6, 101⟩ [⟨0, 5, 10, 109⟩] rfl (fun z hz => absurd hz List.not_mem_nil) (by decide) (by decide) (gW_in (i := 277) (by decide +kernel) rfl) Y.2.1.2.1 (fun q9 => ?_)
      refine tt_astore_n (lc' := [(2, .ref q9), (0, .ref (g_ad X 122)), (1, .int x1)]) O dL_ropes_6 rfl (hN 2 rfl) rfl ?_
      refine tt_ldc O dL_ropes_7 w_con_L_51 ?_
      exact tt_iret O dL_ropes_9 (Nat.le_of_ble_eq_true rfl) (Nat.le_of_ble_eq_true rfl) (by simp [g_w, g_wv, g_wx])
    · refine tt_callVx O Y [.int x1] [] M LL_111 obj_122 rfl rfl rfl dL_ropes_2 rfl rfl [⟨0, 5, 6, 101⟩] ⟨0, 5, 10, 109⟩ [] rfl (fun z hz => by
          simp only [List.mem_cons, List.not_mem_nil, or_false] at hz
          subst hz
          exact ⟨by decide, "java/lang/IllegalArgumentException", gW_in (i := 277) (by decide +kernel) rfl, Y.2.2.1.2.2⟩) (by decide) (by decide) (gW_in (i := 410) (by decide +kernel) rfl) Y.2.1.2.2 (fun q9 => ?_)
      refine tt_astore_n (lc' := [(2, .ref q9), (0, .ref (g_ad X 122)), (1, .int x1)]) O dL_ropes_10 rfl (hN 2 rfl) rfl ?_
      refine tt_ldc O dL_ropes_11 w_con_L_50 ?_
      exact tt_iret O dL_ropes_13 (Nat.le_of_ble_eq_true rfl) (Nat.le_of_ble_eq_true rfl) (by simp [g_w, g_wv, g_wx])
theorem met_L_ropes (l : Launch) (hs : l.stackTraces = false) (m s : Nat → Int32) (lm : Nat → Int64) (pm : Nat → Nat) (x1 : Int32) (p0 : g_I m pm) : g_SW l yL_ropes cL_ropes 3 [(0, 5, 6, 101), (0, 5, 10, 109)] ({ frames := 9, cells := 2, slots := 12, locals := 163 } : Room) (fun ad => [.ref (ad 122), .int x1]) m (s, lm, pm) (g_w (R_X7_addRope m pm x1) s lm) :=
  g_sw_of (by decide) (fun _ => Nat.le_of_ble_eq_true rfl) (fun X hl hn O Y => walk_L_ropes O (by rw [hl]; exact hs) Y hn p0)
theorem LW_52 : g_LW 52 yL_ropes cL_ropes 3 2 [(0, 5, 6, 101), (0, 5, 10, 109)] := ⟨gW_in (i := 490) (by decide +kernel) rfl, w_ini_L, gW_in (i := 492) (by decide +kernel) rfl, by decide +kernel, gW_in (i := 491) (by decide +kernel) rfl⟩
theorem th_addHelper {m : Nat → Int32} {pm : Nat → Nat} {x1 : Int32} : g_W7 ["java/lang/IllegalArgumentException", "java/lang/IllegalStateException"] pm (R_X7_addHelper m pm x1) := by
  unfold R_X7_addHelper R_X7_addHelper_26
  repeat' split
  all_goals first | exact g_W7.x (by decide) | exact g_W7.r rfl | exact g_W7.r p4_save
set_option maxRecDepth 100000 in
set_option maxHeartbeats 4000000 in
theorem walk_L_helpers {X : g_X} (O : g_oT X cL_helpers RL (some .int) ({ frames := 9, cells := 2, slots := 12, locals := 163 } : Room) (tableOf [(0, 5, 6, 101), (0, 5, 10, 109)])) (hs : (g_xl X).stackTraces = false) (Y : g_Y (g_xs X)) (hn : g_xn X = 3) {m s : Nat → Int32} {lm : Nat → Int64} {pm : Nat → Nat} {x1 : Int32} (p0 : g_I m pm) : g_V X (fun r : g_Res => r) (g_w (R_X7_addHelper m pm x1) s lm) 0 0 m (s, lm, pm) 0 [(0, .ref (g_ad X 122)), (1, .int x1)] [] := by
  have hN : ∀ i, Nat.blt i 3 = true → i < g_xn X := fun i h => by rw [hn]; exact g_blt.mp h
  have M := met_X7_addHelper (g_xl X) hs s lm m pm x1 p0
  have hw := th_addHelper (m := m) (pm := pm) (x1 := x1)
  refine tt_aload_n O 0 dL_helpers_0 rfl rfl ?_
  refine tt_iload_n O 1 dL_helpers_1 rfl rfl ?_
  generalize R_X7_addHelper m pm x1 = rr at hw M ⊢
  obtain ⟨o, m1, pm1⟩ := rr
  obtain ⟨h5, hw⟩ := hw
  rcases hw with ⟨v, hv⟩ | ⟨E, hE, hv⟩
  · have hv : o = .inl (some (.int v)) := hv
    subst hv
    refine tt_callVi O Y [.int x1] [] M LL_114 obj_122 rfl rfl rfl dL_helpers_2 rfl rfl ?_
    exact tt_iret O dL_helpers_5 (Nat.le_of_ble_eq_true rfl) (Nat.le_of_ble_eq_true rfl) rfl
  · have hv : o = .inr E := hv
    subst hv
    simp only [List.mem_cons, List.not_mem_nil, or_false] at hE
    rcases hE with rfl | rfl
    · refine tt_callVx O Y [.int x1] [] M LL_114 obj_122 rfl rfl rfl dL_helpers_2 rfl rfl [] ⟨0, 5, 6, 101⟩ [⟨0, 5, 10, 109⟩] rfl (fun z hz => absurd hz List.not_mem_nil) (by decide) (by decide) (gW_in (i := 277) (by decide +kernel) rfl) Y.2.1.2.1 (fun q9 => ?_)
      refine tt_astore_n (lc' := [(2, .ref q9), (0, .ref (g_ad X 122)), (1, .int x1)]) O dL_helpers_6 rfl (hN 2 rfl) rfl ?_
      refine tt_ldc O dL_helpers_7 w_con_L_51 ?_
      exact tt_iret O dL_helpers_9 (Nat.le_of_ble_eq_true rfl) (Nat.le_of_ble_eq_true rfl) (by simp [g_w, g_wv, g_wx])
    · refine tt_callVx O Y [.int x1] [] M LL_114 obj_122 rfl rfl rfl dL_helpers_2 rfl rfl [⟨0, 5, 6, 101⟩] ⟨0, 5, 10, 109⟩ [] rfl (fun z hz => by
          simp only [List.mem_cons, List.not_mem_nil, or_false] at hz
          subst hz
          exact ⟨by decide, "java/lang/IllegalArgumentException", gW_in (i := 277) (by decide +kernel) rfl, Y.2.2.1.2.2⟩) (by decide) (by decide) (gW_in (i := 410) (by decide +kernel) rfl) Y.2.1.2.2 (fun q9 => ?_)
      refine tt_astore_n (lc' := [(2, .ref q9), (0, .ref (g_ad X 122)), (1, .int x1)]) O dL_helpers_10 rfl (hN 2 rfl) rfl ?_
      refine tt_ldc O dL_helpers_11 w_con_L_50 ?_
      exact tt_iret O dL_helpers_13 (Nat.le_of_ble_eq_true rfl) (Nat.le_of_ble_eq_true rfl) (by simp [g_w, g_wv, g_wx])
theorem met_L_helpers (l : Launch) (hs : l.stackTraces = false) (m s : Nat → Int32) (lm : Nat → Int64) (pm : Nat → Nat) (x1 : Int32) (p0 : g_I m pm) : g_SW l yL_helpers cL_helpers 3 [(0, 5, 6, 101), (0, 5, 10, 109)] ({ frames := 9, cells := 2, slots := 12, locals := 163 } : Room) (fun ad => [.ref (ad 122), .int x1]) m (s, lm, pm) (g_w (R_X7_addHelper m pm x1) s lm) :=
  g_sw_of (by decide) (fun _ => Nat.le_of_ble_eq_true rfl) (fun X hl hn O Y => walk_L_helpers O (by rw [hl]; exact hs) Y hn p0)
theorem LW_55 : g_LW 55 yL_helpers cL_helpers 3 2 [(0, 5, 6, 101), (0, 5, 10, 109)] := ⟨gW_in (i := 509) (by decide +kernel) rfl, w_ini_L, gW_in (i := 511) (by decide +kernel) rfl, by decide +kernel, gW_in (i := 510) (by decide +kernel) rfl⟩
theorem th_setSilence {m : Nat → Int32} {pm : Nat → Nat} {x1 : Int32} {x2 : Int32} : g_W7 ["java/lang/IllegalArgumentException"] pm (R_X7_setSilence m pm x1 x2) := by
  unfold R_X7_setSilence
  repeat' split
  all_goals first | exact g_W7.x (by decide) | exact g_W7.r rfl | exact g_W7.r p4_save
set_option maxRecDepth 100000 in
set_option maxHeartbeats 4000000 in
theorem walk_L_silences {X : g_X} (O : g_oT X cL_silences RL (some .int) ({ frames := 9, cells := 2, slots := 12, locals := 165 } : Room) (tableOf [(0, 6, 7, 101)])) (hs : (g_xl X).stackTraces = false) (Y : g_Y (g_xs X)) (hn : g_xn X = 4) {m s : Nat → Int32} {lm : Nat → Int64} {pm : Nat → Nat} {x1 : Int32} {x2 : Int32} (p0 : g_I m pm) : g_V X (fun r : g_Res => r) (g_w (R_X7_setSilence m pm x1 x2) s lm) 0 0 m (s, lm, pm) 0 [(0, .ref (g_ad X 122)), (1, .int x1), (2, .int x2)] [] := by
  have hN : ∀ i, Nat.blt i 4 = true → i < g_xn X := fun i h => by rw [hn]; exact g_blt.mp h
  have M := met_X7_setSilence (g_xl X) hs s lm m pm x1 x2 p0
  have hw := th_setSilence (m := m) (pm := pm) (x1 := x1) (x2 := x2)
  refine tt_aload_n O 0 dL_silences_0 rfl rfl ?_
  refine tt_iload_n O 1 dL_silences_1 rfl rfl ?_
  refine tt_iload_n O 2 dL_silences_2 rfl rfl ?_
  generalize R_X7_setSilence m pm x1 x2 = rr at hw M ⊢
  obtain ⟨o, m1, pm1⟩ := rr
  obtain ⟨h5, hw⟩ := hw
  rcases hw with ⟨v, hv⟩ | ⟨E, hE, hv⟩
  · have hv : o = .inl (some (.int v)) := hv
    subst hv
    refine tt_callVi O Y [.int x1, .int x2] [] M LL_117 obj_122 rfl rfl rfl dL_silences_3 rfl rfl ?_
    exact tt_iret O dL_silences_6 (Nat.le_of_ble_eq_true rfl) (Nat.le_of_ble_eq_true rfl) rfl
  · have hv : o = .inr E := hv
    subst hv
    simp only [List.mem_cons, List.not_mem_nil, or_false] at hE
    subst hE
    refine tt_callVx O Y [.int x1, .int x2] [] M LL_117 obj_122 rfl rfl rfl dL_silences_3 rfl rfl [] ⟨0, 6, 7, 101⟩ [] rfl (fun z hz => absurd hz List.not_mem_nil) (by decide) (by decide) (gW_in (i := 277) (by decide +kernel) rfl) Y.2.1.2.1 (fun q9 => ?_)
    refine tt_astore_n (lc' := [(3, .ref q9), (0, .ref (g_ad X 122)), (1, .int x1), (2, .int x2)]) O dL_silences_7 rfl (hN 3 rfl) rfl ?_
    refine tt_ldc O dL_silences_8 w_con_L_51 ?_
    exact tt_iret O dL_silences_10 (Nat.le_of_ble_eq_true rfl) (Nat.le_of_ble_eq_true rfl) (by simp [g_w, g_wv, g_wx])
theorem met_L_silences (l : Launch) (hs : l.stackTraces = false) (m s : Nat → Int32) (lm : Nat → Int64) (pm : Nat → Nat) (x1 : Int32) (x2 : Int32) (p0 : g_I m pm) : g_SW l yL_silences cL_silences 4 [(0, 6, 7, 101)] ({ frames := 9, cells := 2, slots := 12, locals := 165 } : Room) (fun ad => [.ref (ad 122), .int x1, .int x2]) m (s, lm, pm) (g_w (R_X7_setSilence m pm x1 x2) s lm) :=
  g_sw_of (by decide) (fun _ => Nat.le_of_ble_eq_true rfl) (fun X hl hn O Y => walk_L_silences O (by rw [hl]; exact hs) Y hn p0)
theorem LW_58 : g_LW 58 yL_silences cL_silences 4 3 [(0, 6, 7, 101)] := ⟨gW_in (i := 524) (by decide +kernel) rfl, w_ini_L, gW_in (i := 526) (by decide +kernel) rfl, by decide +kernel, gW_in (i := 525) (by decide +kernel) rfl⟩
theorem th_go {m : Nat → Int32} {pm : Nat → Nat} {x1 : Int32} {x2 : Int32} : g_W7 ["java/lang/IndexOutOfBoundsException", "java/lang/IllegalStateException"] pm (R_X7_go m pm x1 x2) := by
  unfold R_X7_go
  repeat' split
  all_goals first | exact g_W7.x (by decide) | exact g_W7.r rfl | exact g_W7.r p4_save
set_option maxRecDepth 100000 in
set_option maxHeartbeats 4000000 in
theorem walk_L_goes {X : g_X} (O : g_oT X cL_goes RL (some .int) ({ frames := 8, cells := 2, slots := 12, locals := 133 } : Room) (tableOf [(0, 6, 7, 107), (0, 6, 11, 109)])) (hs : (g_xl X).stackTraces = false) (Y : g_Y (g_xs X)) (hn : g_xn X = 4) {m s : Nat → Int32} {lm : Nat → Int64} {pm : Nat → Nat} {x1 : Int32} {x2 : Int32} (p0 : g_I m pm) : g_V X (fun r : g_Res => r) (g_w (R_X7_go m pm x1 x2) s lm) 0 0 m (s, lm, pm) 0 [(0, .ref (g_ad X 122)), (1, .int x1), (2, .int x2)] [] := by
  have hN : ∀ i, Nat.blt i 4 = true → i < g_xn X := fun i h => by rw [hn]; exact g_blt.mp h
  have M := met_X7_go (g_xl X) hs s lm m pm x1 x2 p0
  have hw := th_go (m := m) (pm := pm) (x1 := x1) (x2 := x2)
  refine tt_aload_n O 0 dL_goes_0 rfl rfl ?_
  refine tt_iload_n O 1 dL_goes_1 rfl rfl ?_
  refine tt_iload_n O 2 dL_goes_2 rfl rfl ?_
  generalize R_X7_go m pm x1 x2 = rr at hw M ⊢
  obtain ⟨o, m1, pm1⟩ := rr
  obtain ⟨h5, hw⟩ := hw
  rcases hw with ⟨v, hv⟩ | ⟨E, hE, hv⟩
  · have hv : o = .inl (some (.int v)) := hv
    subst hv
    refine tt_callVi O Y [.int x1, .int x2] [] M LL_120 obj_122 rfl rfl rfl dL_goes_3 rfl rfl ?_
    exact tt_iret O dL_goes_6 (Nat.le_of_ble_eq_true rfl) (Nat.le_of_ble_eq_true rfl) rfl
  · have hv : o = .inr E := hv
    subst hv
    simp only [List.mem_cons, List.not_mem_nil, or_false] at hE
    rcases hE with rfl | rfl
    · refine tt_callVx O Y [.int x1, .int x2] [] M LL_120 obj_122 rfl rfl rfl dL_goes_3 rfl rfl [] ⟨0, 6, 7, 107⟩ [⟨0, 6, 11, 109⟩] rfl (fun z hz => absurd hz List.not_mem_nil) (by decide) (by decide) (gW_in (i := 409) (by decide +kernel) rfl) Y.2.1.1 (fun q9 => ?_)
      refine tt_astore_n (lc' := [(3, .ref q9), (0, .ref (g_ad X 122)), (1, .int x1), (2, .int x2)]) O dL_goes_7 rfl (hN 3 rfl) rfl ?_
      refine tt_ldc O dL_goes_8 w_con_L_68 ?_
      exact tt_iret O dL_goes_10 (Nat.le_of_ble_eq_true rfl) (Nat.le_of_ble_eq_true rfl) (by simp [g_w, g_wv, g_wx])
    · refine tt_callVx O Y [.int x1, .int x2] [] M LL_120 obj_122 rfl rfl rfl dL_goes_3 rfl rfl [⟨0, 6, 7, 107⟩] ⟨0, 6, 11, 109⟩ [] rfl (fun z hz => by
          simp only [List.mem_cons, List.not_mem_nil, or_false] at hz
          subst hz
          exact ⟨by decide, "java/lang/IndexOutOfBoundsException", gW_in (i := 409) (by decide +kernel) rfl, Y.2.2.1.2.1⟩) (by decide) (by decide) (gW_in (i := 410) (by decide +kernel) rfl) Y.2.1.2.2 (fun q9 => ?_)
      refine tt_astore_n (lc' := [(3, .ref q9), (0, .ref (g_ad X 122)), (1, .int x1), (2, .int x2)]) O dL_goes_11 rfl (hN 3 rfl) rfl ?_
      refine tt_ldc O dL_goes_12 w_con_L_50 ?_
      exact tt_iret O dL_goes_14 (Nat.le_of_ble_eq_true rfl) (Nat.le_of_ble_eq_true rfl) (by simp [g_w, g_wv, g_wx])
theorem met_L_goes (l : Launch) (hs : l.stackTraces = false) (m s : Nat → Int32) (lm : Nat → Int64) (pm : Nat → Nat) (x1 : Int32) (x2 : Int32) (p0 : g_I m pm) : g_SW l yL_goes cL_goes 4 [(0, 6, 7, 107), (0, 6, 11, 109)] ({ frames := 8, cells := 2, slots := 12, locals := 133 } : Room) (fun ad => [.ref (ad 122), .int x1, .int x2]) m (s, lm, pm) (g_w (R_X7_go m pm x1 x2) s lm) :=
  g_sw_of (by decide) (fun _ => Nat.le_of_ble_eq_true rfl) (fun X hl hn O Y => walk_L_goes O (by rw [hl]; exact hs) Y hn p0)
theorem LW_62 : g_LW 62 yL_goes cL_goes 4 3 [(0, 6, 7, 107), (0, 6, 11, 109)] := ⟨gW_in (i := 541) (by decide +kernel) rfl, w_ini_L, gW_in (i := 543) (by decide +kernel) rfl, by decide +kernel, gW_in (i := 542) (by decide +kernel) rfl⟩
theorem th_take {m : Nat → Int32} {pm : Nat → Nat} {x1 : Int32} {x2 : Int32} : g_W7 ["java/lang/IndexOutOfBoundsException", "java/lang/IllegalStateException"] pm (R_X7_take m pm x1 x2) := by
  unfold R_X7_take
  repeat' split
  all_goals first | exact g_W7.x (by decide) | exact g_W7.r rfl | exact g_W7.r p4_save
set_option maxRecDepth 100000 in
set_option maxHeartbeats 4000000 in
theorem walk_L_takes {X : g_X} (O : g_oT X cL_takes RL (some .int) ({ frames := 8, cells := 3, slots := 18, locals := 133 } : Room) (tableOf [(0, 6, 7, 107), (0, 6, 11, 109)])) (hs : (g_xl X).stackTraces = false) (Y : g_Y (g_xs X)) (hn : g_xn X = 4) {m s : Nat → Int32} {lm : Nat → Int64} {pm : Nat → Nat} {x1 : Int32} {x2 : Int32} (p0 : g_I m pm) : g_V X (fun r : g_Res => r) (g_w (R_X7_take m pm x1 x2) s lm) 0 0 m (s, lm, pm) 0 [(0, .ref (g_ad X 122)), (1, .int x1), (2, .int x2)] [] := by
  have hN : ∀ i, Nat.blt i 4 = true → i < g_xn X := fun i h => by rw [hn]; exact g_blt.mp h
  have M := met_X7_take (g_xl X) hs s lm m pm x1 x2 p0
  have hw := th_take (m := m) (pm := pm) (x1 := x1) (x2 := x2)
  refine tt_aload_n O 0 dL_takes_0 rfl rfl ?_
  refine tt_iload_n O 1 dL_takes_1 rfl rfl ?_
  refine tt_iload_n O 2 dL_takes_2 rfl rfl ?_
  generalize R_X7_take m pm x1 x2 = rr at hw M ⊢
  obtain ⟨o, m1, pm1⟩ := rr
  obtain ⟨h5, hw⟩ := hw
  rcases hw with ⟨v, hv⟩ | ⟨E, hE, hv⟩
  · have hv : o = .inl (some (.int v)) := hv
    subst hv
    refine tt_callVi O Y [.int x1, .int x2] [] M LL_123 obj_122 rfl rfl rfl dL_takes_3 rfl rfl ?_
    exact tt_iret O dL_takes_6 (Nat.le_of_ble_eq_true rfl) (Nat.le_of_ble_eq_true rfl) rfl
  · have hv : o = .inr E := hv
    subst hv
    simp only [List.mem_cons, List.not_mem_nil, or_false] at hE
    rcases hE with rfl | rfl
    · refine tt_callVx O Y [.int x1, .int x2] [] M LL_123 obj_122 rfl rfl rfl dL_takes_3 rfl rfl [] ⟨0, 6, 7, 107⟩ [⟨0, 6, 11, 109⟩] rfl (fun z hz => absurd hz List.not_mem_nil) (by decide) (by decide) (gW_in (i := 409) (by decide +kernel) rfl) Y.2.1.1 (fun q9 => ?_)
      refine tt_astore_n (lc' := [(3, .ref q9), (0, .ref (g_ad X 122)), (1, .int x1), (2, .int x2)]) O dL_takes_7 rfl (hN 3 rfl) rfl ?_
      refine tt_ldc O dL_takes_8 w_con_L_68 ?_
      exact tt_iret O dL_takes_10 (Nat.le_of_ble_eq_true rfl) (Nat.le_of_ble_eq_true rfl) (by simp [g_w, g_wv, g_wx])
    · refine tt_callVx O Y [.int x1, .int x2] [] M LL_123 obj_122 rfl rfl rfl dL_takes_3 rfl rfl [⟨0, 6, 7, 107⟩] ⟨0, 6, 11, 109⟩ [] rfl (fun z hz => by
          simp only [List.mem_cons, List.not_mem_nil, or_false] at hz
          subst hz
          exact ⟨by decide, "java/lang/IndexOutOfBoundsException", gW_in (i := 409) (by decide +kernel) rfl, Y.2.2.1.2.1⟩) (by decide) (by decide) (gW_in (i := 410) (by decide +kernel) rfl) Y.2.1.2.2 (fun q9 => ?_)
      refine tt_astore_n (lc' := [(3, .ref q9), (0, .ref (g_ad X 122)), (1, .int x1), (2, .int x2)]) O dL_takes_11 rfl (hN 3 rfl) rfl ?_
      refine tt_ldc O dL_takes_12 w_con_L_50 ?_
      exact tt_iret O dL_takes_14 (Nat.le_of_ble_eq_true rfl) (Nat.le_of_ble_eq_true rfl) (by simp [g_w, g_wv, g_wx])
theorem met_L_takes (l : Launch) (hs : l.stackTraces = false) (m s : Nat → Int32) (lm : Nat → Int64) (pm : Nat → Nat) (x1 : Int32) (x2 : Int32) (p0 : g_I m pm) : g_SW l yL_takes cL_takes 4 [(0, 6, 7, 107), (0, 6, 11, 109)] ({ frames := 8, cells := 3, slots := 18, locals := 133 } : Room) (fun ad => [.ref (ad 122), .int x1, .int x2]) m (s, lm, pm) (g_w (R_X7_take m pm x1 x2) s lm) :=
  g_sw_of (by decide) (fun _ => Nat.le_of_ble_eq_true rfl) (fun X hl hn O Y => walk_L_takes O (by rw [hl]; exact hs) Y hn p0)
theorem LW_65 : g_LW 65 yL_takes cL_takes 4 3 [(0, 6, 7, 107), (0, 6, 11, 109)] := ⟨gW_in (i := 592) (by decide +kernel) rfl, w_ini_L, gW_in (i := 594) (by decide +kernel) rfl, by decide +kernel, gW_in (i := 593) (by decide +kernel) rfl⟩
theorem th_lay {m : Nat → Int32} {pm : Nat → Nat} {x1 : Int32} : g_W7 ["java/lang/IndexOutOfBoundsException", "java/lang/IllegalStateException"] pm (R_X7_lay m pm x1) := by
  unfold R_X7_lay
  repeat' split
  all_goals first | exact g_W7.x (by decide) | exact g_W7.r rfl | exact g_W7.r p4_save
set_option maxRecDepth 100000 in
set_option maxHeartbeats 4000000 in
theorem walk_L_lays {X : g_X} (O : g_oT X cL_lays RL (some .int) ({ frames := 8, cells := 2, slots := 12, locals := 132 } : Room) (tableOf [(0, 5, 6, 107), (0, 5, 10, 109)])) (hs : (g_xl X).stackTraces = false) (Y : g_Y (g_xs X)) (hn : g_xn X = 3) {m s : Nat → Int32} {lm : Nat → Int64} {pm : Nat → Nat} {x1 : Int32} (p0 : g_I m pm) : g_V X (fun r : g_Res => r) (g_w (R_X7_lay m pm x1) s lm) 0 0 m (s, lm, pm) 0 [(0, .ref (g_ad X 122)), (1, .int x1)] [] := by
  have hN : ∀ i, Nat.blt i 3 = true → i < g_xn X := fun i h => by rw [hn]; exact g_blt.mp h
  have M := met_X7_lay (g_xl X) hs s lm m pm x1 p0
  have hw := th_lay (m := m) (pm := pm) (x1 := x1)
  refine tt_aload_n O 0 dL_lays_0 rfl rfl ?_
  refine tt_iload_n O 1 dL_lays_1 rfl rfl ?_
  generalize R_X7_lay m pm x1 = rr at hw M ⊢
  obtain ⟨o, m1, pm1⟩ := rr
  obtain ⟨h5, hw⟩ := hw
  rcases hw with ⟨v, hv⟩ | ⟨E, hE, hv⟩
  · have hv : o = .inl (some (.int v)) := hv
    subst hv
    refine tt_callVi O Y [.int x1] [] M LL_126 obj_122 rfl rfl rfl dL_lays_2 rfl rfl ?_
    exact tt_iret O dL_lays_5 (Nat.le_of_ble_eq_true rfl) (Nat.le_of_ble_eq_true rfl) rfl
  · have hv : o = .inr E := hv
    subst hv
    simp only [List.mem_cons, List.not_mem_nil, or_false] at hE
    rcases hE with rfl | rfl
    · refine tt_callVx O Y [.int x1] [] M LL_126 obj_122 rfl rfl rfl dL_lays_2 rfl rfl [] ⟨0, 5, 6, 107⟩ [⟨0, 5, 10, 109⟩] rfl (fun z hz => absurd hz List.not_mem_nil) (by decide) (by decide) (gW_in (i := 409) (by decide +kernel) rfl) Y.2.1.1 (fun q9 => ?_)
      refine tt_astore_n (lc' := [(2, .ref q9), (0, .ref (g_ad X 122)), (1, .int x1)]) O dL_lays_6 rfl (hN 2 rfl) rfl ?_
      refine tt_ldc O dL_lays_7 w_con_L_68 ?_
      exact tt_iret O dL_lays_9 (Nat.le_of_ble_eq_true rfl) (Nat.le_of_ble_eq_true rfl) (by simp [g_w, g_wv, g_wx])
    · refine tt_callVx O Y [.int x1] [] M LL_126 obj_122 rfl rfl rfl dL_lays_2 rfl rfl [⟨0, 5, 6, 107⟩] ⟨0, 5, 10, 109⟩ [] rfl (fun z hz => by
          simp only [List.mem_cons, List.not_mem_nil, or_false] at hz
          subst hz
          exact ⟨by decide, "java/lang/IndexOutOfBoundsException", gW_in (i := 409) (by decide +kernel) rfl, Y.2.2.1.2.1⟩) (by decide) (by decide) (gW_in (i := 410) (by decide +kernel) rfl) Y.2.1.2.2 (fun q9 => ?_)
      refine tt_astore_n (lc' := [(2, .ref q9), (0, .ref (g_ad X 122)), (1, .int x1)]) O dL_lays_10 rfl (hN 2 rfl) rfl ?_
      refine tt_ldc O dL_lays_11 w_con_L_50 ?_
      exact tt_iret O dL_lays_13 (Nat.le_of_ble_eq_true rfl) (Nat.le_of_ble_eq_true rfl) (by simp [g_w, g_wv, g_wx])
theorem met_L_lays (l : Launch) (hs : l.stackTraces = false) (m s : Nat → Int32) (lm : Nat → Int64) (pm : Nat → Nat) (x1 : Int32) (p0 : g_I m pm) : g_SW l yL_lays cL_lays 3 [(0, 5, 6, 107), (0, 5, 10, 109)] ({ frames := 8, cells := 2, slots := 12, locals := 132 } : Room) (fun ad => [.ref (ad 122), .int x1]) m (s, lm, pm) (g_w (R_X7_lay m pm x1) s lm) :=
  g_sw_of (by decide) (fun _ => Nat.le_of_ble_eq_true rfl) (fun X hl hn O Y => walk_L_lays O (by rw [hl]; exact hs) Y hn p0)
theorem LW_69 : g_LW 69 yL_lays cL_lays 3 2 [(0, 5, 6, 107), (0, 5, 10, 109)] := ⟨gW_in (i := 616) (by decide +kernel) rfl, w_ini_L, gW_in (i := 618) (by decide +kernel) rfl, by decide +kernel, gW_in (i := 617) (by decide +kernel) rfl⟩
theorem th_rig {m : Nat → Int32} {pm : Nat → Nat} {x1 : Int32} : g_W7 ["java/lang/IndexOutOfBoundsException", "java/lang/IllegalStateException"] pm (R_X7_rig m pm x1) := by
  unfold R_X7_rig
  repeat' split
  all_goals first | exact g_W7.x (by decide) | exact g_W7.r rfl | exact g_W7.r p4_save
set_option maxRecDepth 100000 in
set_option maxHeartbeats 4000000 in
theorem walk_L_rigs {X : g_X} (O : g_oT X cL_rigs RL (some .int) ({ frames := 8, cells := 2, slots := 12, locals := 132 } : Room) (tableOf [(0, 5, 6, 107), (0, 5, 10, 109)])) (hs : (g_xl X).stackTraces = false) (Y : g_Y (g_xs X)) (hn : g_xn X = 3) {m s : Nat → Int32} {lm : Nat → Int64} {pm : Nat → Nat} {x1 : Int32} (p0 : g_I m pm) : g_V X (fun r : g_Res => r) (g_w (R_X7_rig m pm x1) s lm) 0 0 m (s, lm, pm) 0 [(0, .ref (g_ad X 122)), (1, .int x1)] [] := by
  have hN : ∀ i, Nat.blt i 3 = true → i < g_xn X := fun i h => by rw [hn]; exact g_blt.mp h
  have M := met_X7_rig (g_xl X) hs s lm m pm x1 p0
  have hw := th_rig (m := m) (pm := pm) (x1 := x1)
  refine tt_aload_n O 0 dL_rigs_0 rfl rfl ?_
  refine tt_iload_n O 1 dL_rigs_1 rfl rfl ?_
  generalize R_X7_rig m pm x1 = rr at hw M ⊢
  obtain ⟨o, m1, pm1⟩ := rr
  obtain ⟨h5, hw⟩ := hw
  rcases hw with ⟨v, hv⟩ | ⟨E, hE, hv⟩
  · have hv : o = .inl (some (.int v)) := hv
    subst hv
    refine tt_callVi O Y [.int x1] [] M LL_129 obj_122 rfl rfl rfl dL_rigs_2 rfl rfl ?_
    exact tt_iret O dL_rigs_5 (Nat.le_of_ble_eq_true rfl) (Nat.le_of_ble_eq_true rfl) rfl
  · have hv : o = .inr E := hv
    subst hv
    simp only [List.mem_cons, List.not_mem_nil, or_false] at hE
    rcases hE with rfl | rfl
    · refine tt_callVx O Y [.int x1] [] M LL_129 obj_122 rfl rfl rfl dL_rigs_2 rfl rfl [] ⟨0, 5, 6, 107⟩ [⟨0, 5, 10, 109⟩] rfl (fun z hz => absurd hz List.not_mem_nil) (by decide) (by decide) (gW_in (i := 409) (by decide +kernel) rfl) Y.2.1.1 (fun q9 => ?_)
      refine tt_astore_n (lc' := [(2, .ref q9), (0, .ref (g_ad X 122)), (1, .int x1)]) O dL_rigs_6 rfl (hN 2 rfl) rfl ?_
      refine tt_ldc O dL_rigs_7 w_con_L_68 ?_
      exact tt_iret O dL_rigs_9 (Nat.le_of_ble_eq_true rfl) (Nat.le_of_ble_eq_true rfl) (by simp [g_w, g_wv, g_wx])
    · refine tt_callVx O Y [.int x1] [] M LL_129 obj_122 rfl rfl rfl dL_rigs_2 rfl rfl [⟨0, 5, 6, 107⟩] ⟨0, 5, 10, 109⟩ [] rfl (fun z hz => by
          simp only [List.mem_cons, List.not_mem_nil, or_false] at hz
          subst hz
          exact ⟨by decide, "java/lang/IndexOutOfBoundsException", gW_in (i := 409) (by decide +kernel) rfl, Y.2.2.1.2.1⟩) (by decide) (by decide) (gW_in (i := 410) (by decide +kernel) rfl) Y.2.1.2.2 (fun q9 => ?_)
      refine tt_astore_n (lc' := [(2, .ref q9), (0, .ref (g_ad X 122)), (1, .int x1)]) O dL_rigs_10 rfl (hN 2 rfl) rfl ?_
      refine tt_ldc O dL_rigs_11 w_con_L_50 ?_
      exact tt_iret O dL_rigs_13 (Nat.le_of_ble_eq_true rfl) (Nat.le_of_ble_eq_true rfl) (by simp [g_w, g_wv, g_wx])
theorem met_L_rigs (l : Launch) (hs : l.stackTraces = false) (m s : Nat → Int32) (lm : Nat → Int64) (pm : Nat → Nat) (x1 : Int32) (p0 : g_I m pm) : g_SW l yL_rigs cL_rigs 3 [(0, 5, 6, 107), (0, 5, 10, 109)] ({ frames := 8, cells := 2, slots := 12, locals := 132 } : Room) (fun ad => [.ref (ad 122), .int x1]) m (s, lm, pm) (g_w (R_X7_rig m pm x1) s lm) :=
  g_sw_of (by decide) (fun _ => Nat.le_of_ble_eq_true rfl) (fun X hl hn O Y => walk_L_rigs O (by rw [hl]; exact hs) Y hn p0)
theorem LW_72 : g_LW 72 yL_rigs cL_rigs 3 2 [(0, 5, 6, 107), (0, 5, 10, 109)] := ⟨gW_in (i := 631) (by decide +kernel) rfl, w_ini_L, gW_in (i := 633) (by decide +kernel) rfl, by decide +kernel, gW_in (i := 632) (by decide +kernel) rfl⟩
theorem th_takeOff {m : Nat → Int32} {pm : Nat → Nat} {x1 : Int32} : g_W7 ["java/lang/IndexOutOfBoundsException", "java/lang/IllegalStateException"] pm (R_X7_takeOff m pm x1) := by
  unfold R_X7_takeOff
  repeat' split
  all_goals first | exact g_W7.x (by decide) | exact g_W7.r rfl | exact g_W7.r p4_save
set_option maxRecDepth 100000 in
set_option maxHeartbeats 4000000 in
theorem walk_L_offs {X : g_X} (O : g_oT X cL_offs RL (some .int) ({ frames := 8, cells := 2, slots := 12, locals := 132 } : Room) (tableOf [(0, 5, 6, 107), (0, 5, 10, 109)])) (hs : (g_xl X).stackTraces = false) (Y : g_Y (g_xs X)) (hn : g_xn X = 3) {m s : Nat → Int32} {lm : Nat → Int64} {pm : Nat → Nat} {x1 : Int32} (p0 : g_I m pm) : g_V X (fun r : g_Res => r) (g_w (R_X7_takeOff m pm x1) s lm) 0 0 m (s, lm, pm) 0 [(0, .ref (g_ad X 122)), (1, .int x1)] [] := by
  have hN : ∀ i, Nat.blt i 3 = true → i < g_xn X := fun i h => by rw [hn]; exact g_blt.mp h
  have M := met_X7_takeOff (g_xl X) hs s lm m pm x1 p0
  have hw := th_takeOff (m := m) (pm := pm) (x1 := x1)
  refine tt_aload_n O 0 dL_offs_0 rfl rfl ?_
  refine tt_iload_n O 1 dL_offs_1 rfl rfl ?_
  generalize R_X7_takeOff m pm x1 = rr at hw M ⊢
  obtain ⟨o, m1, pm1⟩ := rr
  obtain ⟨h5, hw⟩ := hw
  rcases hw with ⟨v, hv⟩ | ⟨E, hE, hv⟩
  · have hv : o = .inl (some (.int v)) := hv
    subst hv
    refine tt_callVi O Y [.int x1] [] M LL_132 obj_122 rfl rfl rfl dL_offs_2 rfl rfl ?_
    exact tt_iret O dL_offs_5 (Nat.le_of_ble_eq_true rfl) (Nat.le_of_ble_eq_true rfl) rfl
  · have hv : o = .inr E := hv
    subst hv
    simp only [List.mem_cons, List.not_mem_nil, or_false] at hE
    rcases hE with rfl | rfl
    · refine tt_callVx O Y [.int x1] [] M LL_132 obj_122 rfl rfl rfl dL_offs_2 rfl rfl [] ⟨0, 5, 6, 107⟩ [⟨0, 5, 10, 109⟩] rfl (fun z hz => absurd hz List.not_mem_nil) (by decide) (by decide) (gW_in (i := 409) (by decide +kernel) rfl) Y.2.1.1 (fun q9 => ?_)
      refine tt_astore_n (lc' := [(2, .ref q9), (0, .ref (g_ad X 122)), (1, .int x1)]) O dL_offs_6 rfl (hN 2 rfl) rfl ?_
      refine tt_ldc O dL_offs_7 w_con_L_68 ?_
      exact tt_iret O dL_offs_9 (Nat.le_of_ble_eq_true rfl) (Nat.le_of_ble_eq_true rfl) (by simp [g_w, g_wv, g_wx])
    · refine tt_callVx O Y [.int x1] [] M LL_132 obj_122 rfl rfl rfl dL_offs_2 rfl rfl [⟨0, 5, 6, 107⟩] ⟨0, 5, 10, 109⟩ [] rfl (fun z hz => by
          simp only [List.mem_cons, List.not_mem_nil, or_false] at hz
          subst hz
          exact ⟨by decide, "java/lang/IndexOutOfBoundsException", gW_in (i := 409) (by decide +kernel) rfl, Y.2.2.1.2.1⟩) (by decide) (by decide) (gW_in (i := 410) (by decide +kernel) rfl) Y.2.1.2.2 (fun q9 => ?_)
      refine tt_astore_n (lc' := [(2, .ref q9), (0, .ref (g_ad X 122)), (1, .int x1)]) O dL_offs_10 rfl (hN 2 rfl) rfl ?_
      refine tt_ldc O dL_offs_11 w_con_L_50 ?_
      exact tt_iret O dL_offs_13 (Nat.le_of_ble_eq_true rfl) (Nat.le_of_ble_eq_true rfl) (by simp [g_w, g_wv, g_wx])
theorem met_L_offs (l : Launch) (hs : l.stackTraces = false) (m s : Nat → Int32) (lm : Nat → Int64) (pm : Nat → Nat) (x1 : Int32) (p0 : g_I m pm) : g_SW l yL_offs cL_offs 3 [(0, 5, 6, 107), (0, 5, 10, 109)] ({ frames := 8, cells := 2, slots := 12, locals := 132 } : Room) (fun ad => [.ref (ad 122), .int x1]) m (s, lm, pm) (g_w (R_X7_takeOff m pm x1) s lm) :=
  g_sw_of (by decide) (fun _ => Nat.le_of_ble_eq_true rfl) (fun X hl hn O Y => walk_L_offs O (by rw [hl]; exact hs) Y hn p0)
theorem LW_75 : g_LW 75 yL_offs cL_offs 3 2 [(0, 5, 6, 107), (0, 5, 10, 109)] := ⟨gW_in (i := 652) (by decide +kernel) rfl, w_ini_L, gW_in (i := 654) (by decide +kernel) rfl, by decide +kernel, gW_in (i := 653) (by decide +kernel) rfl⟩
theorem th_carry {m : Nat → Int32} {pm : Nat → Nat} {x1 : Int32} : g_W7 ["java/lang/IllegalArgumentException", "java/lang/IllegalStateException"] pm (R_X7_carry m pm x1) := by
  unfold R_X7_carry
  repeat' split
  all_goals first | exact g_W7.x (by decide) | exact g_W7.r rfl | exact g_W7.r p4_save
set_option maxRecDepth 100000 in
set_option maxHeartbeats 4000000 in
theorem walk_L_carries {X : g_X} (O : g_oT X cL_carries RL (some .int) ({ frames := 8, cells := 2, slots := 12, locals := 132 } : Room) (tableOf [(0, 5, 6, 101), (0, 5, 10, 109)])) (hs : (g_xl X).stackTraces = false) (Y : g_Y (g_xs X)) (hn : g_xn X = 3) {m s : Nat → Int32} {lm : Nat → Int64} {pm : Nat → Nat} {x1 : Int32} (p0 : g_I m pm) : g_V X (fun r : g_Res => r) (g_w (R_X7_carry m pm x1) s lm) 0 0 m (s, lm, pm) 0 [(0, .ref (g_ad X 122)), (1, .int x1)] [] := by
  have hN : ∀ i, Nat.blt i 3 = true → i < g_xn X := fun i h => by rw [hn]; exact g_blt.mp h
  have M := met_X7_carry (g_xl X) hs s lm m pm x1 p0
  have hw := th_carry (m := m) (pm := pm) (x1 := x1)
  refine tt_aload_n O 0 dL_carries_0 rfl rfl ?_
  refine tt_iload_n O 1 dL_carries_1 rfl rfl ?_
  generalize R_X7_carry m pm x1 = rr at hw M ⊢
  obtain ⟨o, m1, pm1⟩ := rr
  obtain ⟨h5, hw⟩ := hw
  rcases hw with ⟨v, hv⟩ | ⟨E, hE, hv⟩
  · have hv : o = .inl (some (.int v)) := hv
    subst hv
    refine tt_callVi O Y [.int x1] [] M LL_135 obj_122 rfl rfl rfl dL_carries_2 rfl rfl ?_
    exact tt_iret O dL_carries_5 (Nat.le_of_ble_eq_true rfl) (Nat.le_of_ble_eq_true rfl) rfl
  · have hv : o = .inr E := hv
    subst hv
    simp only [List.mem_cons, List.not_mem_nil, or_false] at hE
    rcases hE with rfl | rfl
    · refine tt_callVx O Y [.int x1] [] M LL_135 obj_122 rfl rfl rfl dL_carries_2 rfl rfl [] ⟨0, 5, 6, 101⟩ [⟨0, 5, 10, 109⟩] rfl (fun z hz => absurd hz List.not_mem_nil) (by decide) (by decide) (gW_in (i := 277) (by decide +kernel) rfl) Y.2.1.2.1 (fun q9 => ?_)
      refine tt_astore_n (lc' := [(2, .ref q9), (0, .ref (g_ad X 122)), (1, .int x1)]) O dL_carries_6 rfl (hN 2 rfl) rfl ?_
      refine tt_ldc O dL_carries_7 w_con_L_51 ?_
      exact tt_iret O dL_carries_9 (Nat.le_of_ble_eq_true rfl) (Nat.le_of_ble_eq_true rfl) (by simp [g_w, g_wv, g_wx])
    · refine tt_callVx O Y [.int x1] [] M LL_135 obj_122 rfl rfl rfl dL_carries_2 rfl rfl [⟨0, 5, 6, 101⟩] ⟨0, 5, 10, 109⟩ [] rfl (fun z hz => by
          simp only [List.mem_cons, List.not_mem_nil, or_false] at hz
          subst hz
          exact ⟨by decide, "java/lang/IllegalArgumentException", gW_in (i := 277) (by decide +kernel) rfl, Y.2.2.1.2.2⟩) (by decide) (by decide) (gW_in (i := 410) (by decide +kernel) rfl) Y.2.1.2.2 (fun q9 => ?_)
      refine tt_astore_n (lc' := [(2, .ref q9), (0, .ref (g_ad X 122)), (1, .int x1)]) O dL_carries_10 rfl (hN 2 rfl) rfl ?_
      refine tt_ldc O dL_carries_11 w_con_L_50 ?_
      exact tt_iret O dL_carries_13 (Nat.le_of_ble_eq_true rfl) (Nat.le_of_ble_eq_true rfl) (by simp [g_w, g_wv, g_wx])
theorem met_L_carries (l : Launch) (hs : l.stackTraces = false) (m s : Nat → Int32) (lm : Nat → Int64) (pm : Nat → Nat) (x1 : Int32) (p0 : g_I m pm) : g_SW l yL_carries cL_carries 3 [(0, 5, 6, 101), (0, 5, 10, 109)] ({ frames := 8, cells := 2, slots := 12, locals := 132 } : Room) (fun ad => [.ref (ad 122), .int x1]) m (s, lm, pm) (g_w (R_X7_carry m pm x1) s lm) :=
  g_sw_of (by decide) (fun _ => Nat.le_of_ble_eq_true rfl) (fun X hl hn O Y => walk_L_carries O (by rw [hl]; exact hs) Y hn p0)
theorem LW_82 : g_LW 82 yL_carries cL_carries 3 2 [(0, 5, 6, 101), (0, 5, 10, 109)] := ⟨gW_in (i := 675) (by decide +kernel) rfl, w_ini_L, gW_in (i := 677) (by decide +kernel) rfl, by decide +kernel, gW_in (i := 676) (by decide +kernel) rfl⟩
theorem th_send {m : Nat → Int32} {pm : Nat → Nat} {x1 : Int32} : g_W7 ["java/lang/IndexOutOfBoundsException", "java/lang/IllegalStateException"] pm (R_X7_send m pm x1) := by
  unfold R_X7_send
  repeat' split
  all_goals first | exact g_W7.x (by decide) | exact g_W7.r rfl | exact g_W7.r p4_save
set_option maxRecDepth 100000 in
set_option maxHeartbeats 4000000 in
theorem walk_L_sends {X : g_X} (O : g_oT X cL_sends RL (some .int) ({ frames := 8, cells := 2, slots := 12, locals := 132 } : Room) (tableOf [(0, 5, 6, 107), (0, 5, 10, 109)])) (hs : (g_xl X).stackTraces = false) (Y : g_Y (g_xs X)) (hn : g_xn X = 3) {m s : Nat → Int32} {lm : Nat → Int64} {pm : Nat → Nat} {x1 : Int32} (p0 : g_I m pm) : g_V X (fun r : g_Res => r) (g_w (R_X7_send m pm x1) s lm) 0 0 m (s, lm, pm) 0 [(0, .ref (g_ad X 122)), (1, .int x1)] [] := by
  have hN : ∀ i, Nat.blt i 3 = true → i < g_xn X := fun i h => by rw [hn]; exact g_blt.mp h
  have M := met_X7_send (g_xl X) hs s lm m pm x1 p0
  have hw := th_send (m := m) (pm := pm) (x1 := x1)
  refine tt_aload_n O 0 dL_sends_0 rfl rfl ?_
  refine tt_iload_n O 1 dL_sends_1 rfl rfl ?_
  generalize R_X7_send m pm x1 = rr at hw M ⊢
  obtain ⟨o, m1, pm1⟩ := rr
  obtain ⟨h5, hw⟩ := hw
  rcases hw with ⟨v, hv⟩ | ⟨E, hE, hv⟩
  · have hv : o = .inl (some (.int v)) := hv
    subst hv
    refine tt_callVi O Y [.int x1] [] M LL_138 obj_122 rfl rfl rfl dL_sends_2 rfl rfl ?_
    exact tt_iret O dL_sends_5 (Nat.le_of_ble_eq_true rfl) (Nat.le_of_ble_eq_true rfl) rfl
  · have hv : o = .inr E := hv
    subst hv
    simp only [List.mem_cons, List.not_mem_nil, or_false] at hE
    rcases hE with rfl | rfl
    · refine tt_callVx O Y [.int x1] [] M LL_138 obj_122 rfl rfl rfl dL_sends_2 rfl rfl [] ⟨0, 5, 6, 107⟩ [⟨0, 5, 10, 109⟩] rfl (fun z hz => absurd hz List.not_mem_nil) (by decide) (by decide) (gW_in (i := 409) (by decide +kernel) rfl) Y.2.1.1 (fun q9 => ?_)
      refine tt_astore_n (lc' := [(2, .ref q9), (0, .ref (g_ad X 122)), (1, .int x1)]) O dL_sends_6 rfl (hN 2 rfl) rfl ?_
      refine tt_ldc O dL_sends_7 w_con_L_68 ?_
      exact tt_iret O dL_sends_9 (Nat.le_of_ble_eq_true rfl) (Nat.le_of_ble_eq_true rfl) (by simp [g_w, g_wv, g_wx])
    · refine tt_callVx O Y [.int x1] [] M LL_138 obj_122 rfl rfl rfl dL_sends_2 rfl rfl [⟨0, 5, 6, 107⟩] ⟨0, 5, 10, 109⟩ [] rfl (fun z hz => by
          simp only [List.mem_cons, List.not_mem_nil, or_false] at hz
          subst hz
          exact ⟨by decide, "java/lang/IndexOutOfBoundsException", gW_in (i := 409) (by decide +kernel) rfl, Y.2.2.1.2.1⟩) (by decide) (by decide) (gW_in (i := 410) (by decide +kernel) rfl) Y.2.1.2.2 (fun q9 => ?_)
      refine tt_astore_n (lc' := [(2, .ref q9), (0, .ref (g_ad X 122)), (1, .int x1)]) O dL_sends_10 rfl (hN 2 rfl) rfl ?_
      refine tt_ldc O dL_sends_11 w_con_L_50 ?_
      exact tt_iret O dL_sends_13 (Nat.le_of_ble_eq_true rfl) (Nat.le_of_ble_eq_true rfl) (by simp [g_w, g_wv, g_wx])
theorem met_L_sends (l : Launch) (hs : l.stackTraces = false) (m s : Nat → Int32) (lm : Nat → Int64) (pm : Nat → Nat) (x1 : Int32) (p0 : g_I m pm) : g_SW l yL_sends cL_sends 3 [(0, 5, 6, 107), (0, 5, 10, 109)] ({ frames := 8, cells := 2, slots := 12, locals := 132 } : Room) (fun ad => [.ref (ad 122), .int x1]) m (s, lm, pm) (g_w (R_X7_send m pm x1) s lm) :=
  g_sw_of (by decide) (fun _ => Nat.le_of_ble_eq_true rfl) (fun X hl hn O Y => walk_L_sends O (by rw [hl]; exact hs) Y hn p0)
theorem LW_85 : g_LW 85 yL_sends cL_sends 3 2 [(0, 5, 6, 107), (0, 5, 10, 109)] := ⟨gW_in (i := 709) (by decide +kernel) rfl, w_ini_L, gW_in (i := 711) (by decide +kernel) rfl, by decide +kernel, gW_in (i := 710) (by decide +kernel) rfl⟩
theorem th_pass {m : Nat → Int32} {pm : Nat → Nat} {x1 : Int32} : g_W7 ["java/lang/IllegalArgumentException", "java/lang/IllegalStateException"] pm (R_X7_pass m pm x1) := by
  unfold R_X7_pass
  repeat' split
  all_goals first | exact g_W7.x (by decide) | exact g_W7.r rfl | exact g_W7.r p4_save
set_option maxRecDepth 100000 in
set_option maxHeartbeats 4000000 in
theorem walk_L_passes {X : g_X} (O : g_oT X cL_passes RL (some .int) ({ frames := 9, cells := 2, slots := 12, locals := 163 } : Room) (tableOf [(0, 5, 6, 101), (0, 5, 10, 109)])) (hs : (g_xl X).stackTraces = false) (Y : g_Y (g_xs X)) (hn : g_xn X = 3) {m s : Nat → Int32} {lm : Nat → Int64} {pm : Nat → Nat} {x1 : Int32} (p0 : g_I m pm) : g_V X (fun r : g_Res => r) (g_w (R_X7_pass m pm x1) s lm) 0 0 m (s, lm, pm) 0 [(0, .ref (g_ad X 122)), (1, .int x1)] [] := by
  have hN : ∀ i, Nat.blt i 3 = true → i < g_xn X := fun i h => by rw [hn]; exact g_blt.mp h
  have M := met_X7_pass (g_xl X) hs s lm m pm x1 p0
  have hw := th_pass (m := m) (pm := pm) (x1 := x1)
  refine tt_aload_n O 0 dL_passes_0 rfl rfl ?_
  refine tt_iload_n O 1 dL_passes_1 rfl rfl ?_
  generalize R_X7_pass m pm x1 = rr at hw M ⊢
  obtain ⟨o, m1, pm1⟩ := rr
  obtain ⟨h5, hw⟩ := hw
  rcases hw with ⟨v, hv⟩ | ⟨E, hE, hv⟩
  · have hv : o = .inl (some (.int v)) := hv
    subst hv
    refine tt_callVi O Y [.int x1] [] M LL_141 obj_122 rfl rfl rfl dL_passes_2 rfl rfl ?_
    exact tt_iret O dL_passes_5 (Nat.le_of_ble_eq_true rfl) (Nat.le_of_ble_eq_true rfl) rfl
  · have hv : o = .inr E := hv
    subst hv
    simp only [List.mem_cons, List.not_mem_nil, or_false] at hE
    rcases hE with rfl | rfl
    · refine tt_callVx O Y [.int x1] [] M LL_141 obj_122 rfl rfl rfl dL_passes_2 rfl rfl [] ⟨0, 5, 6, 101⟩ [⟨0, 5, 10, 109⟩] rfl (fun z hz => absurd hz List.not_mem_nil) (by decide) (by decide) (gW_in (i := 277) (by decide +kernel) rfl) Y.2.1.2.1 (fun q9 => ?_)
      refine tt_astore_n (lc' := [(2, .ref q9), (0, .ref (g_ad X 122)), (1, .int x1)]) O dL_passes_6 rfl (hN 2 rfl) rfl ?_
      refine tt_ldc O dL_passes_7 w_con_L_51 ?_
      exact tt_iret O dL_passes_9 (Nat.le_of_ble_eq_true rfl) (Nat.le_of_ble_eq_true rfl) (by simp [g_w, g_wv, g_wx])
    · refine tt_callVx O Y [.int x1] [] M LL_141 obj_122 rfl rfl rfl dL_passes_2 rfl rfl [⟨0, 5, 6, 101⟩] ⟨0, 5, 10, 109⟩ [] rfl (fun z hz => by
          simp only [List.mem_cons, List.not_mem_nil, or_false] at hz
          subst hz
          exact ⟨by decide, "java/lang/IllegalArgumentException", gW_in (i := 277) (by decide +kernel) rfl, Y.2.2.1.2.2⟩) (by decide) (by decide) (gW_in (i := 410) (by decide +kernel) rfl) Y.2.1.2.2 (fun q9 => ?_)
      refine tt_astore_n (lc' := [(2, .ref q9), (0, .ref (g_ad X 122)), (1, .int x1)]) O dL_passes_10 rfl (hN 2 rfl) rfl ?_
      refine tt_ldc O dL_passes_11 w_con_L_50 ?_
      exact tt_iret O dL_passes_13 (Nat.le_of_ble_eq_true rfl) (Nat.le_of_ble_eq_true rfl) (by simp [g_w, g_wv, g_wx])
theorem met_L_passes (l : Launch) (hs : l.stackTraces = false) (m s : Nat → Int32) (lm : Nat → Int64) (pm : Nat → Nat) (x1 : Int32) (p0 : g_I m pm) : g_SW l yL_passes cL_passes 3 [(0, 5, 6, 101), (0, 5, 10, 109)] ({ frames := 9, cells := 2, slots := 12, locals := 163 } : Room) (fun ad => [.ref (ad 122), .int x1]) m (s, lm, pm) (g_w (R_X7_pass m pm x1) s lm) :=
  g_sw_of (by decide) (fun _ => Nat.le_of_ble_eq_true rfl) (fun X hl hn O Y => walk_L_passes O (by rw [hl]; exact hs) Y hn p0)
theorem LW_92 : g_LW 92 yL_passes cL_passes 3 2 [(0, 5, 6, 101), (0, 5, 10, 109)] := ⟨gW_in (i := 735) (by decide +kernel) rfl, w_ini_L, gW_in (i := 737) (by decide +kernel) rfl, by decide +kernel, gW_in (i := 736) (by decide +kernel) rfl⟩
theorem th_passage {m : Nat → Int32} {pm : Nat → Nat} {x1 : Int32} {x2 : Int32} : g_W7 ["java/lang/IndexOutOfBoundsException", "java/lang/IllegalArgumentException"] pm (R_X7_passage m pm x1 x2) := by
  unfold R_X7_passage
  repeat' split
  all_goals first | exact g_W7.x (by decide) | exact g_W7.r rfl | exact g_W7.r p4_save
theorem ro_passage {m : Nat → Int32} {pm : Nat → Nat} {x1 : Int32} {x2 : Int32} : (R_X7_passage m pm x1 x2).2 = (m, pm) := by
  unfold R_X7_passage
  repeat' split
  all_goals rfl
set_option maxRecDepth 100000 in
set_option maxHeartbeats 4000000 in
theorem walk_L_passageOf {X : g_X} (O : g_oT X cL_passageOf RL (some .int) ({ frames := 9, cells := 2, slots := 12, locals := 164 } : Room) (tableOf [(0, 6, 7, 107), (0, 6, 11, 101)])) (hs : (g_xl X).stackTraces = false) (Y : g_Y (g_xs X)) (hn : g_xn X = 4) {m s : Nat → Int32} {lm : Nat → Int64} {pm : Nat → Nat} {x1 : Int32} {x2 : Int32} (p0 : g_I m pm) : g_V X (fun r : g_Res => r) (g_w (R_X7_passage m pm x1 x2) s lm) 0 0 m (s, lm, pm) 0 [(0, .ref (g_ad X 122)), (1, .int x1), (2, .int x2)] [] := by
  have hN : ∀ i, Nat.blt i 4 = true → i < g_xn X := fun i h => by rw [hn]; exact g_blt.mp h
  have M := met_X7_passage (g_xl X) hs s lm m pm x1 x2 p0
  have hw := th_passage (m := m) (pm := pm) (x1 := x1) (x2 := x2)
  refine tt_aload_n O 0 dL_passageOf_0 rfl rfl ?_
  refine tt_iload_n O 1 dL_passageOf_1 rfl rfl ?_
  refine tt_iload_n O 2 dL_passageOf_2 rfl rfl ?_
  generalize R_X7_passage m pm x1 x2 = rr at hw M ⊢
  obtain ⟨o, m1, pm1⟩ := rr
  obtain ⟨h5, hw⟩ := hw
  rcases hw with ⟨v, hv⟩ | ⟨E, hE, hv⟩
  · have hv : o = .inl (some (.int v)) := hv
    subst hv
    refine tt_callVi O Y [.int x1, .int x2] [] M LL_144 obj_122 rfl rfl rfl dL_passageOf_3 rfl rfl ?_
    exact tt_iret O dL_passageOf_6 (Nat.le_of_ble_eq_true rfl) (Nat.le_of_ble_eq_true rfl) rfl
  · have hv : o = .inr E := hv
    subst hv
    simp only [List.mem_cons, List.not_mem_nil, or_false] at hE
    rcases hE with rfl | rfl
    · refine tt_callVx O Y [.int x1, .int x2] [] M LL_144 obj_122 rfl rfl rfl dL_passageOf_3 rfl rfl [] ⟨0, 6, 7, 107⟩ [⟨0, 6, 11, 101⟩] rfl (fun z hz => absurd hz List.not_mem_nil) (by decide) (by decide) (gW_in (i := 409) (by decide +kernel) rfl) Y.2.1.1 (fun q9 => ?_)
      refine tt_astore_n (lc' := [(3, .ref q9), (0, .ref (g_ad X 122)), (1, .int x1), (2, .int x2)]) O dL_passageOf_7 rfl (hN 3 rfl) rfl ?_
      refine tt_ldc O dL_passageOf_8 w_con_L_68 ?_
      exact tt_iret O dL_passageOf_10 (Nat.le_of_ble_eq_true rfl) (Nat.le_of_ble_eq_true rfl) (by simp [g_w, g_wv, g_wx])
    · refine tt_callVx O Y [.int x1, .int x2] [] M LL_144 obj_122 rfl rfl rfl dL_passageOf_3 rfl rfl [⟨0, 6, 7, 107⟩] ⟨0, 6, 11, 101⟩ [] rfl (fun z hz => by
          simp only [List.mem_cons, List.not_mem_nil, or_false] at hz
          subst hz
          exact ⟨by decide, "java/lang/IndexOutOfBoundsException", gW_in (i := 409) (by decide +kernel) rfl, Y.2.2.1.1⟩) (by decide) (by decide) (gW_in (i := 277) (by decide +kernel) rfl) Y.2.1.2.1 (fun q9 => ?_)
      refine tt_astore_n (lc' := [(3, .ref q9), (0, .ref (g_ad X 122)), (1, .int x1), (2, .int x2)]) O dL_passageOf_11 rfl (hN 3 rfl) rfl ?_
      refine tt_ldc O dL_passageOf_12 w_con_L_51 ?_
      exact tt_iret O dL_passageOf_14 (Nat.le_of_ble_eq_true rfl) (Nat.le_of_ble_eq_true rfl) (by simp [g_w, g_wv, g_wx])
theorem met_L_passageOf (l : Launch) (hs : l.stackTraces = false) (m s : Nat → Int32) (lm : Nat → Int64) (pm : Nat → Nat) (x1 : Int32) (x2 : Int32) (p0 : g_I m pm) : g_SW l yL_passageOf cL_passageOf 4 [(0, 6, 7, 107), (0, 6, 11, 101)] ({ frames := 9, cells := 2, slots := 12, locals := 164 } : Room) (fun ad => [.ref (ad 122), .int x1, .int x2]) m (s, lm, pm) (g_w (R_X7_passage m pm x1 x2) s lm) :=
  g_sw_of (by decide) (fun _ => Nat.le_of_ble_eq_true rfl) (fun X hl hn O Y => walk_L_passageOf O (by rw [hl]; exact hs) Y hn p0)
theorem rd_L_passageOf (l : Launch) (hs : l.stackTraces = false) (m s : Nat → Int32) (lm : Nat → Int64) (pm : Nat → Nat) (x1 : Int32) (x2 : Int32) (p0 : g_I m pm) : g_SW l yL_passageOf cL_passageOf 4 [(0, 6, 7, 107), (0, 6, 11, 101)] ({ frames := 9, cells := 2, slots := 12, locals := 164 } : Room) (fun ad => [.ref (ad 122), .int x1, .int x2]) m (s, lm, pm) (.inl (some (.int (g_wv (R_X7_passage m pm x1 x2)))), m, s, lm, pm) := by
  have h := met_L_passageOf l hs m s lm pm x1 x2 p0
  have e := ro_passage (m := m) (pm := pm) (x1 := x1) (x2 := x2)
  unfold g_w at h
  rw [e] at h
  exact h
theorem LW_165 : g_LW 165 yL_passageOf cL_passageOf 4 3 [(0, 6, 7, 107), (0, 6, 11, 101)] := ⟨gW_in (i := 804) (by decide +kernel) rfl, w_ini_L, gW_in (i := 806) (by decide +kernel) rfl, by decide +kernel, gW_in (i := 805) (by decide +kernel) rfl⟩
theorem th_rope {m : Nat → Int32} {pm : Nat → Nat} {x1 : Int32} {x2 : Int32} : g_W7 ["java/lang/IndexOutOfBoundsException", "java/lang/IllegalArgumentException"] pm (R_X7_rope m pm x1 x2) := by
  unfold R_X7_rope
  repeat' split
  all_goals first | exact g_W7.x (by decide) | exact g_W7.r rfl | exact g_W7.r p4_save
theorem ro_rope {m : Nat → Int32} {pm : Nat → Nat} {x1 : Int32} {x2 : Int32} : (R_X7_rope m pm x1 x2).2 = (m, pm) := by
  unfold R_X7_rope
  repeat' split
  all_goals rfl
set_option maxRecDepth 100000 in
set_option maxHeartbeats 4000000 in
theorem walk_L_ropeOf {X : g_X} (O : g_oT X cL_ropeOf RL (some .int) ({ frames := 9, cells := 2, slots := 12, locals := 164 } : Room) (tableOf [(0, 6, 7, 107), (0, 6, 11, 101)])) (hs : (g_xl X).stackTraces = false) (Y : g_Y (g_xs X)) (hn : g_xn X = 4) {m s : Nat → Int32} {lm : Nat → Int64} {pm : Nat → Nat} {x1 : Int32} {x2 : Int32} (p0 : g_I m pm) : g_V X (fun r : g_Res => r) (g_w (R_X7_rope m pm x1 x2) s lm) 0 0 m (s, lm, pm) 0 [(0, .ref (g_ad X 122)), (1, .int x1), (2, .int x2)] [] := by
  have hN : ∀ i, Nat.blt i 4 = true → i < g_xn X := fun i h => by rw [hn]; exact g_blt.mp h
  have M := met_X7_rope (g_xl X) hs s lm m pm x1 x2 p0
  have hw := th_rope (m := m) (pm := pm) (x1 := x1) (x2 := x2)
  refine tt_aload_n O 0 dL_ropeOf_0 rfl rfl ?_
  refine tt_iload_n O 1 dL_ropeOf_1 rfl rfl ?_
  refine tt_iload_n O 2 dL_ropeOf_2 rfl rfl ?_
  generalize R_X7_rope m pm x1 x2 = rr at hw M ⊢
  obtain ⟨o, m1, pm1⟩ := rr
  obtain ⟨h5, hw⟩ := hw
  rcases hw with ⟨v, hv⟩ | ⟨E, hE, hv⟩
  · have hv : o = .inl (some (.int v)) := hv
    subst hv
    refine tt_callVi O Y [.int x1, .int x2] [] M LL_147 obj_122 rfl rfl rfl dL_ropeOf_3 rfl rfl ?_
    exact tt_iret O dL_ropeOf_6 (Nat.le_of_ble_eq_true rfl) (Nat.le_of_ble_eq_true rfl) rfl
  · have hv : o = .inr E := hv
    subst hv
    simp only [List.mem_cons, List.not_mem_nil, or_false] at hE
    rcases hE with rfl | rfl
    · refine tt_callVx O Y [.int x1, .int x2] [] M LL_147 obj_122 rfl rfl rfl dL_ropeOf_3 rfl rfl [] ⟨0, 6, 7, 107⟩ [⟨0, 6, 11, 101⟩] rfl (fun z hz => absurd hz List.not_mem_nil) (by decide) (by decide) (gW_in (i := 409) (by decide +kernel) rfl) Y.2.1.1 (fun q9 => ?_)
      refine tt_astore_n (lc' := [(3, .ref q9), (0, .ref (g_ad X 122)), (1, .int x1), (2, .int x2)]) O dL_ropeOf_7 rfl (hN 3 rfl) rfl ?_
      refine tt_ldc O dL_ropeOf_8 w_con_L_68 ?_
      exact tt_iret O dL_ropeOf_10 (Nat.le_of_ble_eq_true rfl) (Nat.le_of_ble_eq_true rfl) (by simp [g_w, g_wv, g_wx])
    · refine tt_callVx O Y [.int x1, .int x2] [] M LL_147 obj_122 rfl rfl rfl dL_ropeOf_3 rfl rfl [⟨0, 6, 7, 107⟩] ⟨0, 6, 11, 101⟩ [] rfl (fun z hz => by
          simp only [List.mem_cons, List.not_mem_nil, or_false] at hz
          subst hz
          exact ⟨by decide, "java/lang/IndexOutOfBoundsException", gW_in (i := 409) (by decide +kernel) rfl, Y.2.2.1.1⟩) (by decide) (by decide) (gW_in (i := 277) (by decide +kernel) rfl) Y.2.1.2.1 (fun q9 => ?_)
      refine tt_astore_n (lc' := [(3, .ref q9), (0, .ref (g_ad X 122)), (1, .int x1), (2, .int x2)]) O dL_ropeOf_11 rfl (hN 3 rfl) rfl ?_
      refine tt_ldc O dL_ropeOf_12 w_con_L_51 ?_
      exact tt_iret O dL_ropeOf_14 (Nat.le_of_ble_eq_true rfl) (Nat.le_of_ble_eq_true rfl) (by simp [g_w, g_wv, g_wx])
theorem met_L_ropeOf (l : Launch) (hs : l.stackTraces = false) (m s : Nat → Int32) (lm : Nat → Int64) (pm : Nat → Nat) (x1 : Int32) (x2 : Int32) (p0 : g_I m pm) : g_SW l yL_ropeOf cL_ropeOf 4 [(0, 6, 7, 107), (0, 6, 11, 101)] ({ frames := 9, cells := 2, slots := 12, locals := 164 } : Room) (fun ad => [.ref (ad 122), .int x1, .int x2]) m (s, lm, pm) (g_w (R_X7_rope m pm x1 x2) s lm) :=
  g_sw_of (by decide) (fun _ => Nat.le_of_ble_eq_true rfl) (fun X hl hn O Y => walk_L_ropeOf O (by rw [hl]; exact hs) Y hn p0)
theorem rd_L_ropeOf (l : Launch) (hs : l.stackTraces = false) (m s : Nat → Int32) (lm : Nat → Int64) (pm : Nat → Nat) (x1 : Int32) (x2 : Int32) (p0 : g_I m pm) : g_SW l yL_ropeOf cL_ropeOf 4 [(0, 6, 7, 107), (0, 6, 11, 101)] ({ frames := 9, cells := 2, slots := 12, locals := 164 } : Room) (fun ad => [.ref (ad 122), .int x1, .int x2]) m (s, lm, pm) (.inl (some (.int (g_wv (R_X7_rope m pm x1 x2)))), m, s, lm, pm) := by
  have h := met_L_ropeOf l hs m s lm pm x1 x2 p0
  have e := ro_rope (m := m) (pm := pm) (x1 := x1) (x2 := x2)
  unfold g_w at h
  rw [e] at h
  exact h
theorem LW_168 : g_LW 168 yL_ropeOf cL_ropeOf 4 3 [(0, 6, 7, 107), (0, 6, 11, 101)] := ⟨gW_in (i := 815) (by decide +kernel) rfl, w_ini_L, gW_in (i := 817) (by decide +kernel) rfl, by decide +kernel, gW_in (i := 816) (by decide +kernel) rfl⟩
theorem th_helper {m : Nat → Int32} {pm : Nat → Nat} {x1 : Int32} {x2 : Int32} : g_W7 ["java/lang/IndexOutOfBoundsException", "java/lang/IllegalArgumentException"] pm (R_X7_helper m pm x1 x2) := by
  unfold R_X7_helper
  repeat' split
  all_goals first | exact g_W7.x (by decide) | exact g_W7.r rfl | exact g_W7.r p4_save
theorem ro_helper {m : Nat → Int32} {pm : Nat → Nat} {x1 : Int32} {x2 : Int32} : (R_X7_helper m pm x1 x2).2 = (m, pm) := by
  unfold R_X7_helper
  repeat' split
  all_goals rfl
set_option maxRecDepth 100000 in
set_option maxHeartbeats 4000000 in
theorem walk_L_helperOf {X : g_X} (O : g_oT X cL_helperOf RL (some .int) ({ frames := 9, cells := 2, slots := 12, locals := 164 } : Room) (tableOf [(0, 6, 7, 107), (0, 6, 11, 101)])) (hs : (g_xl X).stackTraces = false) (Y : g_Y (g_xs X)) (hn : g_xn X = 4) {m s : Nat → Int32} {lm : Nat → Int64} {pm : Nat → Nat} {x1 : Int32} {x2 : Int32} (p0 : g_I m pm) : g_V X (fun r : g_Res => r) (g_w (R_X7_helper m pm x1 x2) s lm) 0 0 m (s, lm, pm) 0 [(0, .ref (g_ad X 122)), (1, .int x1), (2, .int x2)] [] := by
  have hN : ∀ i, Nat.blt i 4 = true → i < g_xn X := fun i h => by rw [hn]; exact g_blt.mp h
  have M := met_X7_helper (g_xl X) hs s lm m pm x1 x2 p0
  have hw := th_helper (m := m) (pm := pm) (x1 := x1) (x2 := x2)
  refine tt_aload_n O 0 dL_helperOf_0 rfl rfl ?_
  refine tt_iload_n O 1 dL_helperOf_1 rfl rfl ?_
  refine tt_iload_n O 2 dL_helperOf_2 rfl rfl ?_
  generalize R_X7_helper m pm x1 x2 = rr at hw M ⊢
  obtain ⟨o, m1, pm1⟩ := rr
  obtain ⟨h5, hw⟩ := hw
  rcases hw with ⟨v, hv⟩ | ⟨E, hE, hv⟩
  · have hv : o = .inl (some (.int v)) := hv
    subst hv
    refine tt_callVi O Y [.int x1, .int x2] [] M LL_150 obj_122 rfl rfl rfl dL_helperOf_3 rfl rfl ?_
    exact tt_iret O dL_helperOf_6 (Nat.le_of_ble_eq_true rfl) (Nat.le_of_ble_eq_true rfl) rfl
  · have hv : o = .inr E := hv
    subst hv
    simp only [List.mem_cons, List.not_mem_nil, or_false] at hE
    rcases hE with rfl | rfl
    · refine tt_callVx O Y [.int x1, .int x2] [] M LL_150 obj_122 rfl rfl rfl dL_helperOf_3 rfl rfl [] ⟨0, 6, 7, 107⟩ [⟨0, 6, 11, 101⟩] rfl (fun z hz => absurd hz List.not_mem_nil) (by decide) (by decide) (gW_in (i := 409) (by decide +kernel) rfl) Y.2.1.1 (fun q9 => ?_)
      refine tt_astore_n (lc' := [(3, .ref q9), (0, .ref (g_ad X 122)), (1, .int x1), (2, .int x2)]) O dL_helperOf_7 rfl (hN 3 rfl) rfl ?_
      refine tt_ldc O dL_helperOf_8 w_con_L_68 ?_
      exact tt_iret O dL_helperOf_10 (Nat.le_of_ble_eq_true rfl) (Nat.le_of_ble_eq_true rfl) (by simp [g_w, g_wv, g_wx])
    · refine tt_callVx O Y [.int x1, .int x2] [] M LL_150 obj_122 rfl rfl rfl dL_helperOf_3 rfl rfl [⟨0, 6, 7, 107⟩] ⟨0, 6, 11, 101⟩ [] rfl (fun z hz => by
          simp only [List.mem_cons, List.not_mem_nil, or_false] at hz
          subst hz
          exact ⟨by decide, "java/lang/IndexOutOfBoundsException", gW_in (i := 409) (by decide +kernel) rfl, Y.2.2.1.1⟩) (by decide) (by decide) (gW_in (i := 277) (by decide +kernel) rfl) Y.2.1.2.1 (fun q9 => ?_)
      refine tt_astore_n (lc' := [(3, .ref q9), (0, .ref (g_ad X 122)), (1, .int x1), (2, .int x2)]) O dL_helperOf_11 rfl (hN 3 rfl) rfl ?_
      refine tt_ldc O dL_helperOf_12 w_con_L_51 ?_
      exact tt_iret O dL_helperOf_14 (Nat.le_of_ble_eq_true rfl) (Nat.le_of_ble_eq_true rfl) (by simp [g_w, g_wv, g_wx])
theorem met_L_helperOf (l : Launch) (hs : l.stackTraces = false) (m s : Nat → Int32) (lm : Nat → Int64) (pm : Nat → Nat) (x1 : Int32) (x2 : Int32) (p0 : g_I m pm) : g_SW l yL_helperOf cL_helperOf 4 [(0, 6, 7, 107), (0, 6, 11, 101)] ({ frames := 9, cells := 2, slots := 12, locals := 164 } : Room) (fun ad => [.ref (ad 122), .int x1, .int x2]) m (s, lm, pm) (g_w (R_X7_helper m pm x1 x2) s lm) :=
  g_sw_of (by decide) (fun _ => Nat.le_of_ble_eq_true rfl) (fun X hl hn O Y => walk_L_helperOf O (by rw [hl]; exact hs) Y hn p0)
theorem rd_L_helperOf (l : Launch) (hs : l.stackTraces = false) (m s : Nat → Int32) (lm : Nat → Int64) (pm : Nat → Nat) (x1 : Int32) (x2 : Int32) (p0 : g_I m pm) : g_SW l yL_helperOf cL_helperOf 4 [(0, 6, 7, 107), (0, 6, 11, 101)] ({ frames := 9, cells := 2, slots := 12, locals := 164 } : Room) (fun ad => [.ref (ad 122), .int x1, .int x2]) m (s, lm, pm) (.inl (some (.int (g_wv (R_X7_helper m pm x1 x2)))), m, s, lm, pm) := by
  have h := met_L_helperOf l hs m s lm pm x1 x2 p0
  have e := ro_helper (m := m) (pm := pm) (x1 := x1) (x2 := x2)
  unfold g_w at h
  rw [e] at h
  exact h
theorem LW_171 : g_LW 171 yL_helperOf cL_helperOf 4 3 [(0, 6, 7, 107), (0, 6, 11, 101)] := ⟨gW_in (i := 826) (by decide +kernel) rfl, w_ini_L, gW_in (i := 828) (by decide +kernel) rfl, by decide +kernel, gW_in (i := 827) (by decide +kernel) rfl⟩
theorem th_value {m : Nat → Int32} {pm : Nat → Nat} {x1 : Int32} : g_W7 ["java/lang/IllegalArgumentException"] pm (R_X7_value m pm x1) := by
  unfold R_X7_value
  repeat' split
  all_goals first | exact g_W7.x (by decide) | exact g_W7.r rfl | exact g_W7.r p4_save
theorem ro_value {m : Nat → Int32} {pm : Nat → Nat} {x1 : Int32} : (R_X7_value m pm x1).2 = (m, pm) := by
  unfold R_X7_value
  repeat' split
  all_goals rfl
set_option maxRecDepth 100000 in
set_option maxHeartbeats 4000000 in
theorem walk_L_valueOf {X : g_X} (O : g_oT X cL_valueOf RL (some .int) ({ frames := 9, cells := 1, slots := 6, locals := 163 } : Room) (tableOf [(0, 5, 6, 101)])) (hs : (g_xl X).stackTraces = false) (Y : g_Y (g_xs X)) (hn : g_xn X = 3) {m s : Nat → Int32} {lm : Nat → Int64} {pm : Nat → Nat} {x1 : Int32} (p0 : g_I m pm) : g_V X (fun r : g_Res => r) (g_w (R_X7_value m pm x1) s lm) 0 0 m (s, lm, pm) 0 [(0, .ref (g_ad X 122)), (1, .int x1)] [] := by
  have hN : ∀ i, Nat.blt i 3 = true → i < g_xn X := fun i h => by rw [hn]; exact g_blt.mp h
  have M := met_X7_value (g_xl X) hs s lm m pm x1 p0
  have hw := th_value (m := m) (pm := pm) (x1 := x1)
  refine tt_aload_n O 0 dL_valueOf_0 rfl rfl ?_
  refine tt_iload_n O 1 dL_valueOf_1 rfl rfl ?_
  generalize R_X7_value m pm x1 = rr at hw M ⊢
  obtain ⟨o, m1, pm1⟩ := rr
  obtain ⟨h5, hw⟩ := hw
  rcases hw with ⟨v, hv⟩ | ⟨E, hE, hv⟩
  · have hv : o = .inl (some (.int v)) := hv
    subst hv
    refine tt_callVi O Y [.int x1] [] M LL_153 obj_122 rfl rfl rfl dL_valueOf_2 rfl rfl ?_
    exact tt_iret O dL_valueOf_5 (Nat.le_of_ble_eq_true rfl) (Nat.le_of_ble_eq_true rfl) rfl
  · have hv : o = .inr E := hv
    subst hv
    simp only [List.mem_cons, List.not_mem_nil, or_false] at hE
    subst hE
    refine tt_callVx O Y [.int x1] [] M LL_153 obj_122 rfl rfl rfl dL_valueOf_2 rfl rfl [] ⟨0, 5, 6, 101⟩ [] rfl (fun z hz => absurd hz List.not_mem_nil) (by decide) (by decide) (gW_in (i := 277) (by decide +kernel) rfl) Y.2.1.2.1 (fun q9 => ?_)
    refine tt_astore_n (lc' := [(2, .ref q9), (0, .ref (g_ad X 122)), (1, .int x1)]) O dL_valueOf_6 rfl (hN 2 rfl) rfl ?_
    refine tt_ldc O dL_valueOf_7 w_con_L_51 ?_
    exact tt_iret O dL_valueOf_9 (Nat.le_of_ble_eq_true rfl) (Nat.le_of_ble_eq_true rfl) (by simp [g_w, g_wv, g_wx])
theorem met_L_valueOf (l : Launch) (hs : l.stackTraces = false) (m s : Nat → Int32) (lm : Nat → Int64) (pm : Nat → Nat) (x1 : Int32) (p0 : g_I m pm) : g_SW l yL_valueOf cL_valueOf 3 [(0, 5, 6, 101)] ({ frames := 9, cells := 1, slots := 6, locals := 163 } : Room) (fun ad => [.ref (ad 122), .int x1]) m (s, lm, pm) (g_w (R_X7_value m pm x1) s lm) :=
  g_sw_of (by decide) (fun _ => Nat.le_of_ble_eq_true rfl) (fun X hl hn O Y => walk_L_valueOf O (by rw [hl]; exact hs) Y hn p0)
theorem rd_L_valueOf (l : Launch) (hs : l.stackTraces = false) (m s : Nat → Int32) (lm : Nat → Int64) (pm : Nat → Nat) (x1 : Int32) (p0 : g_I m pm) : g_SW l yL_valueOf cL_valueOf 3 [(0, 5, 6, 101)] ({ frames := 9, cells := 1, slots := 6, locals := 163 } : Room) (fun ad => [.ref (ad 122), .int x1]) m (s, lm, pm) (.inl (some (.int (g_wv (R_X7_value m pm x1)))), m, s, lm, pm) := by
  have h := met_L_valueOf l hs m s lm pm x1 p0
  have e := ro_value (m := m) (pm := pm) (x1 := x1)
  unfold g_w at h
  rw [e] at h
  exact h
theorem LW_162 : g_LW 162 yL_valueOf cL_valueOf 3 2 [(0, 5, 6, 101)] := ⟨gW_in (i := 780) (by decide +kernel) rfl, w_ini_L, gW_in (i := 782) (by decide +kernel) rfl, by decide +kernel, gW_in (i := 781) (by decide +kernel) rfl⟩
theorem th_message {m : Nat → Int32} {pm : Nat → Nat} {x1 : Int32} {x2 : Int32} : g_W7 ["java/lang/IndexOutOfBoundsException", "java/lang/IllegalArgumentException"] pm (R_X7_message m pm x1 x2) := by
  unfold R_X7_message
  repeat' split
  all_goals first | exact g_W7.x (by decide) | exact g_W7.r rfl | exact g_W7.r p4_save
theorem ro_message {m : Nat → Int32} {pm : Nat → Nat} {x1 : Int32} {x2 : Int32} : (R_X7_message m pm x1 x2).2 = (m, pm) := by
  unfold R_X7_message
  repeat' split
  all_goals rfl
set_option maxRecDepth 100000 in
set_option maxHeartbeats 4000000 in
theorem walk_L_messageOf {X : g_X} (O : g_oT X cL_messageOf RL (some .int) ({ frames := 9, cells := 2, slots := 12, locals := 164 } : Room) (tableOf [(0, 6, 7, 107), (0, 6, 11, 101)])) (hs : (g_xl X).stackTraces = false) (Y : g_Y (g_xs X)) (hn : g_xn X = 4) {m s : Nat → Int32} {lm : Nat → Int64} {pm : Nat → Nat} {x1 : Int32} {x2 : Int32} (p0 : g_I m pm) : g_V X (fun r : g_Res => r) (g_w (R_X7_message m pm x1 x2) s lm) 0 0 m (s, lm, pm) 0 [(0, .ref (g_ad X 122)), (1, .int x1), (2, .int x2)] [] := by
  have hN : ∀ i, Nat.blt i 4 = true → i < g_xn X := fun i h => by rw [hn]; exact g_blt.mp h
  have M := met_X7_message (g_xl X) hs s lm m pm x1 x2 p0
  have hw := th_message (m := m) (pm := pm) (x1 := x1) (x2 := x2)
  refine tt_aload_n O 0 dL_messageOf_0 rfl rfl ?_
  refine tt_iload_n O 1 dL_messageOf_1 rfl rfl ?_
  refine tt_iload_n O 2 dL_messageOf_2 rfl rfl ?_
  generalize R_X7_message m pm x1 x2 = rr at hw M ⊢
  obtain ⟨o, m1, pm1⟩ := rr
  obtain ⟨h5, hw⟩ := hw
  rcases hw with ⟨v, hv⟩ | ⟨E, hE, hv⟩
  · have hv : o = .inl (some (.int v)) := hv
    subst hv
    refine tt_callVi O Y [.int x1, .int x2] [] M LL_156 obj_122 rfl rfl rfl dL_messageOf_3 rfl rfl ?_
    exact tt_iret O dL_messageOf_6 (Nat.le_of_ble_eq_true rfl) (Nat.le_of_ble_eq_true rfl) rfl
  · have hv : o = .inr E := hv
    subst hv
    simp only [List.mem_cons, List.not_mem_nil, or_false] at hE
    rcases hE with rfl | rfl
    · refine tt_callVx O Y [.int x1, .int x2] [] M LL_156 obj_122 rfl rfl rfl dL_messageOf_3 rfl rfl [] ⟨0, 6, 7, 107⟩ [⟨0, 6, 11, 101⟩] rfl (fun z hz => absurd hz List.not_mem_nil) (by decide) (by decide) (gW_in (i := 409) (by decide +kernel) rfl) Y.2.1.1 (fun q9 => ?_)
      refine tt_astore_n (lc' := [(3, .ref q9), (0, .ref (g_ad X 122)), (1, .int x1), (2, .int x2)]) O dL_messageOf_7 rfl (hN 3 rfl) rfl ?_
      refine tt_ldc O dL_messageOf_8 w_con_L_68 ?_
      exact tt_iret O dL_messageOf_10 (Nat.le_of_ble_eq_true rfl) (Nat.le_of_ble_eq_true rfl) (by simp [g_w, g_wv, g_wx])
    · refine tt_callVx O Y [.int x1, .int x2] [] M LL_156 obj_122 rfl rfl rfl dL_messageOf_3 rfl rfl [⟨0, 6, 7, 107⟩] ⟨0, 6, 11, 101⟩ [] rfl (fun z hz => by
          simp only [List.mem_cons, List.not_mem_nil, or_false] at hz
          subst hz
          exact ⟨by decide, "java/lang/IndexOutOfBoundsException", gW_in (i := 409) (by decide +kernel) rfl, Y.2.2.1.1⟩) (by decide) (by decide) (gW_in (i := 277) (by decide +kernel) rfl) Y.2.1.2.1 (fun q9 => ?_)
      refine tt_astore_n (lc' := [(3, .ref q9), (0, .ref (g_ad X 122)), (1, .int x1), (2, .int x2)]) O dL_messageOf_11 rfl (hN 3 rfl) rfl ?_
      refine tt_ldc O dL_messageOf_12 w_con_L_51 ?_
      exact tt_iret O dL_messageOf_14 (Nat.le_of_ble_eq_true rfl) (Nat.le_of_ble_eq_true rfl) (by simp [g_w, g_wv, g_wx])
theorem met_L_messageOf (l : Launch) (hs : l.stackTraces = false) (m s : Nat → Int32) (lm : Nat → Int64) (pm : Nat → Nat) (x1 : Int32) (x2 : Int32) (p0 : g_I m pm) : g_SW l yL_messageOf cL_messageOf 4 [(0, 6, 7, 107), (0, 6, 11, 101)] ({ frames := 9, cells := 2, slots := 12, locals := 164 } : Room) (fun ad => [.ref (ad 122), .int x1, .int x2]) m (s, lm, pm) (g_w (R_X7_message m pm x1 x2) s lm) :=
  g_sw_of (by decide) (fun _ => Nat.le_of_ble_eq_true rfl) (fun X hl hn O Y => walk_L_messageOf O (by rw [hl]; exact hs) Y hn p0)
theorem rd_L_messageOf (l : Launch) (hs : l.stackTraces = false) (m s : Nat → Int32) (lm : Nat → Int64) (pm : Nat → Nat) (x1 : Int32) (x2 : Int32) (p0 : g_I m pm) : g_SW l yL_messageOf cL_messageOf 4 [(0, 6, 7, 107), (0, 6, 11, 101)] ({ frames := 9, cells := 2, slots := 12, locals := 164 } : Room) (fun ad => [.ref (ad 122), .int x1, .int x2]) m (s, lm, pm) (.inl (some (.int (g_wv (R_X7_message m pm x1 x2)))), m, s, lm, pm) := by
  have h := met_L_messageOf l hs m s lm pm x1 x2 p0
  have e := ro_message (m := m) (pm := pm) (x1 := x1) (x2 := x2)
  unfold g_w at h
  rw [e] at h
  exact h
theorem LW_174 : g_LW 174 yL_messageOf cL_messageOf 4 3 [(0, 6, 7, 107), (0, 6, 11, 101)] := ⟨gW_in (i := 837) (by decide +kernel) rfl, w_ini_L, gW_in (i := 839) (by decide +kernel) rfl, by decide +kernel, gW_in (i := 838) (by decide +kernel) rfl⟩
theorem th_carried {m : Nat → Int32} {pm : Nat → Nat} {x1 : Int32} {x2 : Int32} : g_W7 ["java/lang/IndexOutOfBoundsException", "java/lang/IllegalArgumentException"] pm (R_X7_carried m pm x1 x2) := by
  unfold R_X7_carried
  repeat' split
  all_goals first | exact g_W7.x (by decide) | exact g_W7.r rfl | exact g_W7.r p4_save
theorem ro_carried {m : Nat → Int32} {pm : Nat → Nat} {x1 : Int32} {x2 : Int32} : (R_X7_carried m pm x1 x2).2 = (m, pm) := by
  unfold R_X7_carried
  repeat' split
  all_goals rfl
set_option maxRecDepth 100000 in
set_option maxHeartbeats 4000000 in
theorem walk_L_carriedOf {X : g_X} (O : g_oT X cL_carriedOf RL (some .int) ({ frames := 9, cells := 2, slots := 12, locals := 164 } : Room) (tableOf [(0, 6, 7, 107), (0, 6, 11, 101)])) (hs : (g_xl X).stackTraces = false) (Y : g_Y (g_xs X)) (hn : g_xn X = 4) {m s : Nat → Int32} {lm : Nat → Int64} {pm : Nat → Nat} {x1 : Int32} {x2 : Int32} (p0 : g_I m pm) : g_V X (fun r : g_Res => r) (g_w (R_X7_carried m pm x1 x2) s lm) 0 0 m (s, lm, pm) 0 [(0, .ref (g_ad X 122)), (1, .int x1), (2, .int x2)] [] := by
  have hN : ∀ i, Nat.blt i 4 = true → i < g_xn X := fun i h => by rw [hn]; exact g_blt.mp h
  have M := met_X7_carried (g_xl X) hs s lm m pm x1 x2 p0
  have hw := th_carried (m := m) (pm := pm) (x1 := x1) (x2 := x2)
  refine tt_aload_n O 0 dL_carriedOf_0 rfl rfl ?_
  refine tt_iload_n O 1 dL_carriedOf_1 rfl rfl ?_
  refine tt_iload_n O 2 dL_carriedOf_2 rfl rfl ?_
  generalize R_X7_carried m pm x1 x2 = rr at hw M ⊢
  obtain ⟨o, m1, pm1⟩ := rr
  obtain ⟨h5, hw⟩ := hw
  rcases hw with ⟨v, hv⟩ | ⟨E, hE, hv⟩
  · have hv : o = .inl (some (.int v)) := hv
    subst hv
    refine tt_callVi O Y [.int x1, .int x2] [] M LL_159 obj_122 rfl rfl rfl dL_carriedOf_3 rfl rfl ?_
    exact tt_iret O dL_carriedOf_6 (Nat.le_of_ble_eq_true rfl) (Nat.le_of_ble_eq_true rfl) rfl
  · have hv : o = .inr E := hv
    subst hv
    simp only [List.mem_cons, List.not_mem_nil, or_false] at hE
    rcases hE with rfl | rfl
    · refine tt_callVx O Y [.int x1, .int x2] [] M LL_159 obj_122 rfl rfl rfl dL_carriedOf_3 rfl rfl [] ⟨0, 6, 7, 107⟩ [⟨0, 6, 11, 101⟩] rfl (fun z hz => absurd hz List.not_mem_nil) (by decide) (by decide) (gW_in (i := 409) (by decide +kernel) rfl) Y.2.1.1 (fun q9 => ?_)
      refine tt_astore_n (lc' := [(3, .ref q9), (0, .ref (g_ad X 122)), (1, .int x1), (2, .int x2)]) O dL_carriedOf_7 rfl (hN 3 rfl) rfl ?_
      refine tt_ldc O dL_carriedOf_8 w_con_L_68 ?_
      exact tt_iret O dL_carriedOf_10 (Nat.le_of_ble_eq_true rfl) (Nat.le_of_ble_eq_true rfl) (by simp [g_w, g_wv, g_wx])
    · refine tt_callVx O Y [.int x1, .int x2] [] M LL_159 obj_122 rfl rfl rfl dL_carriedOf_3 rfl rfl [⟨0, 6, 7, 107⟩] ⟨0, 6, 11, 101⟩ [] rfl (fun z hz => by
          simp only [List.mem_cons, List.not_mem_nil, or_false] at hz
          subst hz
          exact ⟨by decide, "java/lang/IndexOutOfBoundsException", gW_in (i := 409) (by decide +kernel) rfl, Y.2.2.1.1⟩) (by decide) (by decide) (gW_in (i := 277) (by decide +kernel) rfl) Y.2.1.2.1 (fun q9 => ?_)
      refine tt_astore_n (lc' := [(3, .ref q9), (0, .ref (g_ad X 122)), (1, .int x1), (2, .int x2)]) O dL_carriedOf_11 rfl (hN 3 rfl) rfl ?_
      refine tt_ldc O dL_carriedOf_12 w_con_L_51 ?_
      exact tt_iret O dL_carriedOf_14 (Nat.le_of_ble_eq_true rfl) (Nat.le_of_ble_eq_true rfl) (by simp [g_w, g_wv, g_wx])
theorem met_L_carriedOf (l : Launch) (hs : l.stackTraces = false) (m s : Nat → Int32) (lm : Nat → Int64) (pm : Nat → Nat) (x1 : Int32) (x2 : Int32) (p0 : g_I m pm) : g_SW l yL_carriedOf cL_carriedOf 4 [(0, 6, 7, 107), (0, 6, 11, 101)] ({ frames := 9, cells := 2, slots := 12, locals := 164 } : Room) (fun ad => [.ref (ad 122), .int x1, .int x2]) m (s, lm, pm) (g_w (R_X7_carried m pm x1 x2) s lm) :=
  g_sw_of (by decide) (fun _ => Nat.le_of_ble_eq_true rfl) (fun X hl hn O Y => walk_L_carriedOf O (by rw [hl]; exact hs) Y hn p0)
theorem rd_L_carriedOf (l : Launch) (hs : l.stackTraces = false) (m s : Nat → Int32) (lm : Nat → Int64) (pm : Nat → Nat) (x1 : Int32) (x2 : Int32) (p0 : g_I m pm) : g_SW l yL_carriedOf cL_carriedOf 4 [(0, 6, 7, 107), (0, 6, 11, 101)] ({ frames := 9, cells := 2, slots := 12, locals := 164 } : Room) (fun ad => [.ref (ad 122), .int x1, .int x2]) m (s, lm, pm) (.inl (some (.int (g_wv (R_X7_carried m pm x1 x2)))), m, s, lm, pm) := by
  have h := met_L_carriedOf l hs m s lm pm x1 x2 p0
  have e := ro_carried (m := m) (pm := pm) (x1 := x1) (x2 := x2)
  unfold g_w at h
  rw [e] at h
  exact h
theorem LW_177 : g_LW 177 yL_carriedOf cL_carriedOf 4 3 [(0, 6, 7, 107), (0, 6, 11, 101)] := ⟨gW_in (i := 848) (by decide +kernel) rfl, w_ini_L, gW_in (i := 850) (by decide +kernel) rfl, by decide +kernel, gW_in (i := 849) (by decide +kernel) rfl⟩
