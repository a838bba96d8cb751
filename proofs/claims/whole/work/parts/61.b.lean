/-! ===== the law's wrappers ===== -/
theorem th_begin {m : Nat → Int32} {pm : Nat → Nat} {x1 : Int32} : g_W7 ["java/lang/IllegalArgumentException"] pm (R_X7_begin m pm x1) := by
  unfold R_X7_begin
  repeat' split
  all_goals first | exact g_W7.x (by decide) | exact g_W7.r rfl | exact g_W7.r p4_save
set_option maxRecDepth 100000 in
set_option maxHeartbeats 4000000 in
theorem walk_L_begin {X : g_X} (O : g_oT X cL_begin RL (some .int) ({ frames := 9, cells := 1, slots := 6, locals := 164 } : Room) (tableOf [(0, 9, 12, 13)])) (hs : (g_xl X).stackTraces = false) (Y : g_Y (g_xs X)) (hn : g_xn X = 4) {m s : Nat → Int32} {lm : Nat → Int64} {pm : Nat → Nat} {x1 : Int32} (p0 : g_I m pm) (h4 : pm 4 = 1) : g_V X (fun r : g_Res => r) (g_w ["java/lang/IllegalArgumentException"] (R_X7_begin m pm x1) s lm) 0 0 m (s, lm, pm) 0 [(0, .ref (g_ad X 122)), (1, .int x1), (2, .ref (g_ad X 129))] [] := by
  have hN : ∀ i, Nat.blt i 4 = true → i < g_xn X := fun i h => by rw [hn]; exact g_blt.mp h
  have M := met_X7_begin (g_xl X) hs s lm m pm x1 p0
  have hw := th_begin (m := m) (pm := pm) (x1 := x1)
  refine tt_aload_n O 2 dL_begin_0 rfl rfl ?_
  refine tt_iconst (x := 0) O dL_begin_1 rfl ?_
  refine tt_aload_n O 0 dL_begin_2 rfl rfl ?_
  refine tt_iload_n O 1 dL_begin_3 rfl rfl ?_
  generalize R_X7_begin m pm x1 = rr at hw M ⊢
  obtain ⟨o, m1, pm1⟩ := rr
  obtain ⟨h5, hw⟩ := hw
  rcases hw with ⟨v, hv⟩ | ⟨E, hE, hv⟩
  · have hv : o = .inl (some (.int v)) := hv
    subst hv
    have h5 : pm1 4 = 1 := h5.trans h4
    refine tt_callVi O Y [.int x1] [.int 0, .ref (g_ad X 129)] M LL_7 obj_122 rfl rfl rfl dL_begin_4 rfl rfl ?_
    refine tt_i2l O dL_begin_7 ?_
    refine tt_last O h5 dL_begin_8 ?_
    refine tt_goto O 15 dL_begin_9 (by decide) ?_
    refine tt_iconst (x := 0) O dL_begin_15 rfl ?_
    exact tt_iret O dL_begin_16 (Nat.le_of_ble_eq_true rfl) (Nat.le_of_ble_eq_true rfl) rfl
  · have hv : o = .inr E := hv
    subst hv
    simp only [List.mem_cons, List.not_mem_nil, or_false] at hE
    subst hE
    refine tt_callVx O Y [.int x1] [.int 0, .ref (g_ad X 129)] M LL_7 obj_122 rfl rfl rfl dL_begin_4 rfl rfl [] ⟨0, 9, 12, 13⟩ [] rfl (fun z hz => absurd hz List.not_mem_nil) (by decide) (by decide) (gW_in (i := 697) (by decide +kernel) rfl) Y.2.1.2.1 (fun q9 => ?_)
    refine tt_astore_n (lc' := [(3, .ref q9), (0, .ref (g_ad X 122)), (1, .int x1), (2, .ref (g_ad X 129))]) O dL_begin_12 rfl (hN 3 rfl) rfl ?_
    refine tt_iconst (x := 1) O dL_begin_13 rfl ?_
    exact tt_iret O dL_begin_14 (Nat.le_of_ble_eq_true rfl) (Nat.le_of_ble_eq_true rfl) (by simp [g_w, g_k])
theorem met_L_begin (l : Launch) (hs : l.stackTraces = false) (m s : Nat → Int32) (lm : Nat → Int64) (pm : Nat → Nat) (x1 : Int32) (p0 : g_I m pm) (h4 : pm 4 = 1) : g_SW l yL_begin cL_begin 4 [(0, 9, 12, 13)] ({ frames := 9, cells := 1, slots := 6, locals := 164 } : Room) (fun ad => [.ref (ad 122), .int x1, .ref (ad 129)]) m (s, lm, pm) (g_w ["java/lang/IllegalArgumentException"] (R_X7_begin m pm x1) s lm) :=
  g_sw_of (by decide) (fun _ => Nat.le_of_ble_eq_true rfl) (fun X hl hn O Y => walk_L_begin O (by rw [hl]; exact hs) Y hn p0 h4)
theorem th_setPassage {m : Nat → Int32} {pm : Nat → Nat} {x1 : Int32} {x2 : Int32} {x3 : Int32} : g_W7 ["java/lang/IndexOutOfBoundsException", "java/lang/IllegalArgumentException", "java/lang/IllegalStateException"] pm (R_X7_setPassage m pm x1 x2 x3) := by
  unfold R_X7_setPassage R_X7_setPassage_44
  repeat' split
  all_goals first | exact g_W7.x (by decide) | exact g_W7.r rfl | exact g_W7.r p4_save
set_option maxRecDepth 100000 in
set_option maxHeartbeats 4000000 in
theorem walk_L_setPassage {X : g_X} (O : g_oT X cL_setPassage RL (some .int) ({ frames := 9, cells := 4, slots := 24, locals := 166 } : Room) (tableOf [(0, 12, 15, 19), (0, 12, 19, 13), (0, 12, 23, 21)])) (hs : (g_xl X).stackTraces = false) (Y : g_Y (g_xs X)) (hn : g_xn X = 6) {m s : Nat → Int32} {lm : Nat → Int64} {pm : Nat → Nat} {x1 : Int32} {x2 : Int32} {x3 : Int32} (p0 : g_I m pm) (h4 : pm 4 = 1) : g_V X (fun r : g_Res => r) (g_w ["java/lang/IndexOutOfBoundsException", "java/lang/IllegalArgumentException", "java/lang/IllegalStateException"] (R_X7_setPassage m pm x1 x2 x3) s lm) 0 0 m (s, lm, pm) 0 [(0, .ref (g_ad X 122)), (1, .int x1), (2, .int x2), (3, .int x3), (4, .ref (g_ad X 129))] [] := by
  have hN : ∀ i, Nat.blt i 6 = true → i < g_xn X := fun i h => by rw [hn]; exact g_blt.mp h
  have M := met_X7_setPassage (g_xl X) hs s lm m pm x1 x2 x3 p0
  have hw := th_setPassage (m := m) (pm := pm) (x1 := x1) (x2 := x2) (x3 := x3)
  refine tt_aload O 4 dL_setPassage_0 rfl ?_
  refine tt_iconst (x := 0) O dL_setPassage_2 rfl ?_
  refine tt_aload_n O 0 dL_setPassage_3 rfl rfl ?_
  refine tt_iload_n O 1 dL_setPassage_4 rfl rfl ?_
  refine tt_iload_n O 2 dL_setPassage_5 rfl rfl ?_
  refine tt_iload_n O 3 dL_setPassage_6 rfl rfl ?_
  generalize R_X7_setPassage m pm x1 x2 x3 = rr at hw M ⊢
  obtain ⟨o, m1, pm1⟩ := rr
  obtain ⟨h5, hw⟩ := hw
  rcases hw with ⟨v, hv⟩ | ⟨E, hE, hv⟩
  · have hv : o = .inl (some (.int v)) := hv
    subst hv
    have h5 : pm1 4 = 1 := h5.trans h4
    refine tt_callVi O Y [.int x1, .int x2, .int x3] [.int 0, .ref (g_ad X 129)] M LL_15 obj_122 rfl rfl rfl dL_setPassage_7 rfl rfl ?_
    refine tt_i2l O dL_setPassage_10 ?_
    refine tt_last O h5 dL_setPassage_11 ?_
    refine tt_goto O 27 dL_setPassage_12 (by decide) ?_
    refine tt_iconst (x := 0) O dL_setPassage_27 rfl ?_
    exact tt_iret O dL_setPassage_28 (Nat.le_of_ble_eq_true rfl) (Nat.le_of_ble_eq_true rfl) rfl
  · have hv : o = .inr E := hv
    subst hv
    simp only [List.mem_cons, List.not_mem_nil, or_false] at hE
    rcases hE with rfl | rfl | rfl
    · refine tt_callVx O Y [.int x1, .int x2, .int x3] [.int 0, .ref (g_ad X 129)] M LL_15 obj_122 rfl rfl rfl dL_setPassage_7 rfl rfl [] ⟨0, 12, 15, 19⟩ [⟨0, 12, 19, 13⟩, ⟨0, 12, 23, 21⟩] rfl (fun z hz => absurd hz List.not_mem_nil) (by decide) (by decide) (gW_in (i := 787) (by decide +kernel) rfl) Y.2.1.1 (fun q9 => ?_)
      refine tt_astore (lc' := [(5, .ref q9), (0, .ref (g_ad X 122)), (1, .int x1), (2, .int x2), (3, .int x3), (4, .ref (g_ad X 129))]) O dL_setPassage_15 (hN 5 rfl) rfl ?_
      refine tt_iconst (x := 1) O dL_setPassage_17 rfl ?_
      exact tt_iret O dL_setPassage_18 (Nat.le_of_ble_eq_true rfl) (Nat.le_of_ble_eq_true rfl) (by simp [g_w, g_k])
    · refine tt_callVx O Y [.int x1, .int x2, .int x3] [.int 0, .ref (g_ad X 129)] M LL_15 obj_122 rfl rfl rfl dL_setPassage_7 rfl rfl [⟨0, 12, 15, 19⟩] ⟨0, 12, 19, 13⟩ [⟨0, 12, 23, 21⟩] rfl (fun z hz => by
          simp only [List.mem_cons, List.not_mem_nil, or_false] at hz
          subst hz
          exact ⟨by decide, "java/lang/IndexOutOfBoundsException", gW_in (i := 787) (by decide +kernel) rfl, Y.2.2.1.1⟩) (by decide) (by decide) (gW_in (i := 697) (by decide +kernel) rfl) Y.2.1.2.1 (fun q9 => ?_)
      refine tt_astore (lc' := [(5, .ref q9), (0, .ref (g_ad X 122)), (1, .int x1), (2, .int x2), (3, .int x3), (4, .ref (g_ad X 129))]) O dL_setPassage_19 (hN 5 rfl) rfl ?_
      refine tt_iconst (x := 2) O dL_setPassage_21 rfl ?_
      exact tt_iret O dL_setPassage_22 (Nat.le_of_ble_eq_true rfl) (Nat.le_of_ble_eq_true rfl) (by simp [g_w, g_k])
    · refine tt_callVx O Y [.int x1, .int x2, .int x3] [.int 0, .ref (g_ad X 129)] M LL_15 obj_122 rfl rfl rfl dL_setPassage_7 rfl rfl [⟨0, 12, 15, 19⟩, ⟨0, 12, 19, 13⟩] ⟨0, 12, 23, 21⟩ [] rfl (fun z hz => by
          simp only [List.mem_cons, List.not_mem_nil, or_false] at hz
          rcases hz with rfl | rfl
          · exact ⟨by decide, "java/lang/IndexOutOfBoundsException", gW_in (i := 787) (by decide +kernel) rfl, Y.2.2.1.2.1⟩
          · exact ⟨by decide, "java/lang/IllegalArgumentException", gW_in (i := 697) (by decide +kernel) rfl, Y.2.2.1.2.2⟩) (by decide) (by decide) (gW_in (i := 788) (by decide +kernel) rfl) Y.2.1.2.2 (fun q9 => ?_)
      refine tt_astore (lc' := [(5, .ref q9), (0, .ref (g_ad X 122)), (1, .int x1), (2, .int x2), (3, .int x3), (4, .ref (g_ad X 129))]) O dL_setPassage_23 (hN 5 rfl) rfl ?_
      refine tt_iconst (x := 3) O dL_setPassage_25 rfl ?_
      exact tt_iret O dL_setPassage_26 (Nat.le_of_ble_eq_true rfl) (Nat.le_of_ble_eq_true rfl) (by simp [g_w, g_k])
theorem met_L_setPassage (l : Launch) (hs : l.stackTraces = false) (m s : Nat → Int32) (lm : Nat → Int64) (pm : Nat → Nat) (x1 : Int32) (x2 : Int32) (x3 : Int32) (p0 : g_I m pm) (h4 : pm 4 = 1) : g_SW l yL_setPassage cL_setPassage 6 [(0, 12, 15, 19), (0, 12, 19, 13), (0, 12, 23, 21)] ({ frames := 9, cells := 4, slots := 24, locals := 166 } : Room) (fun ad => [.ref (ad 122), .int x1, .int x2, .int x3, .ref (ad 129)]) m (s, lm, pm) (g_w ["java/lang/IndexOutOfBoundsException", "java/lang/IllegalArgumentException", "java/lang/IllegalStateException"] (R_X7_setPassage m pm x1 x2 x3) s lm) :=
  g_sw_of (by decide) (fun _ => Nat.le_of_ble_eq_true rfl) (fun X hl hn O Y => walk_L_setPassage O (by rw [hl]; exact hs) Y hn p0 h4)
theorem th_addRope {m : Nat → Int32} {pm : Nat → Nat} {x1 : Int32} : g_W7 ["java/lang/IllegalArgumentException", "java/lang/IllegalStateException"] pm (R_X7_addRope m pm x1) := by
  unfold R_X7_addRope R_X7_addRope_28
  repeat' split
  all_goals first | exact g_W7.x (by decide) | exact g_W7.r rfl | exact g_W7.r p4_save
set_option maxRecDepth 100000 in
set_option maxHeartbeats 4000000 in
theorem walk_L_addRope {X : g_X} (O : g_oT X cL_addRope RL (some .int) ({ frames := 9, cells := 2, slots := 12, locals := 163 } : Room) (tableOf [(0, 9, 12, 13), (0, 9, 15, 21)])) (hs : (g_xl X).stackTraces = false) (Y : g_Y (g_xs X)) (hn : g_xn X = 4) {m s : Nat → Int32} {lm : Nat → Int64} {pm : Nat → Nat} {x1 : Int32} (p0 : g_I m pm) (h4 : pm 4 = 1) : g_V X (fun r : g_Res => r) (g_w ["java/lang/IllegalArgumentException", "java/lang/IllegalStateException"] (R_X7_addRope m pm x1) s lm) 0 0 m (s, lm, pm) 0 [(0, .ref (g_ad X 122)), (1, .int x1), (2, .ref (g_ad X 129))] [] := by
  have hN : ∀ i, Nat.blt i 4 = true → i < g_xn X := fun i h => by rw [hn]; exact g_blt.mp h
  have M := met_X7_addRope (g_xl X) hs s lm m pm x1 p0
  have hw := th_addRope (m := m) (pm := pm) (x1 := x1)
  refine tt_aload_n O 2 dL_addRope_0 rfl rfl ?_
  refine tt_iconst (x := 0) O dL_addRope_1 rfl ?_
  refine tt_aload_n O 0 dL_addRope_2 rfl rfl ?_
  refine tt_iload_n O 1 dL_addRope_3 rfl rfl ?_
  generalize R_X7_addRope m pm x1 = rr at hw M ⊢
  obtain ⟨o, m1, pm1⟩ := rr
  obtain ⟨h5, hw⟩ := hw
  rcases hw with ⟨v, hv⟩ | ⟨E, hE, hv⟩
  · have hv : o = .inl (some (.int v)) := hv
    subst hv
    have h5 : pm1 4 = 1 := h5.trans h4
    refine tt_callVi O Y [.int x1] [.int 0, .ref (g_ad X 129)] M LL_23 obj_122 rfl rfl rfl dL_addRope_4 rfl rfl ?_
    refine tt_i2l O dL_addRope_7 ?_
    refine tt_last O h5 dL_addRope_8 ?_
    refine tt_goto O 18 dL_addRope_9 (by decide) ?_
    refine tt_iconst (x := 0) O dL_addRope_18 rfl ?_
    exact tt_iret O dL_addRope_19 (Nat.le_of_ble_eq_true rfl) (Nat.le_of_ble_eq_true rfl) rfl
  · have hv : o = .inr E := hv
    subst hv
    simp only [List.mem_cons, List.not_mem_nil, or_false] at hE
    rcases hE with rfl | rfl
    · refine tt_callVx O Y [.int x1] [.int 0, .ref (g_ad X 129)] M LL_23 obj_122 rfl rfl rfl dL_addRope_4 rfl rfl [] ⟨0, 9, 12, 13⟩ [⟨0, 9, 15, 21⟩] rfl (fun z hz => absurd hz List.not_mem_nil) (by decide) (by decide) (gW_in (i := 697) (by decide +kernel) rfl) Y.2.1.2.1 (fun q9 => ?_)
      refine tt_astore_n (lc' := [(3, .ref q9), (0, .ref (g_ad X 122)), (1, .int x1), (2, .ref (g_ad X 129))]) O dL_addRope_12 rfl (hN 3 rfl) rfl ?_
      refine tt_iconst (x := 1) O dL_addRope_13 rfl ?_
      exact tt_iret O dL_addRope_14 (Nat.le_of_ble_eq_true rfl) (Nat.le_of_ble_eq_true rfl) (by simp [g_w, g_k])
    · refine tt_callVx O Y [.int x1] [.int 0, .ref (g_ad X 129)] M LL_23 obj_122 rfl rfl rfl dL_addRope_4 rfl rfl [⟨0, 9, 12, 13⟩] ⟨0, 9, 15, 21⟩ [] rfl (fun z hz => by
          simp only [List.mem_cons, List.not_mem_nil, or_false] at hz
          subst hz
          exact ⟨by decide, "java/lang/IllegalArgumentException", gW_in (i := 697) (by decide +kernel) rfl, Y.2.2.1.2.2⟩) (by decide) (by decide) (gW_in (i := 788) (by decide +kernel) rfl) Y.2.1.2.2 (fun q9 => ?_)
      refine tt_astore_n (lc' := [(3, .ref q9), (0, .ref (g_ad X 122)), (1, .int x1), (2, .ref (g_ad X 129))]) O dL_addRope_15 rfl (hN 3 rfl) rfl ?_
      refine tt_iconst (x := 2) O dL_addRope_16 rfl ?_
      exact tt_iret O dL_addRope_17 (Nat.le_of_ble_eq_true rfl) (Nat.le_of_ble_eq_true rfl) (by simp [g_w, g_k])
theorem met_L_addRope (l : Launch) (hs : l.stackTraces = false) (m s : Nat → Int32) (lm : Nat → Int64) (pm : Nat → Nat) (x1 : Int32) (p0 : g_I m pm) (h4 : pm 4 = 1) : g_SW l yL_addRope cL_addRope 4 [(0, 9, 12, 13), (0, 9, 15, 21)] ({ frames := 9, cells := 2, slots := 12, locals := 163 } : Room) (fun ad => [.ref (ad 122), .int x1, .ref (ad 129)]) m (s, lm, pm) (g_w ["java/lang/IllegalArgumentException", "java/lang/IllegalStateException"] (R_X7_addRope m pm x1) s lm) :=
  g_sw_of (by decide) (fun _ => Nat.le_of_ble_eq_true rfl) (fun X hl hn O Y => walk_L_addRope O (by rw [hl]; exact hs) Y hn p0 h4)
theorem th_addHelper {m : Nat → Int32} {pm : Nat → Nat} {x1 : Int32} : g_W7 ["java/lang/IllegalArgumentException", "java/lang/IllegalStateException"] pm (R_X7_addHelper m pm x1) := by
  unfold R_X7_addHelper R_X7_addHelper_26
  repeat' split
  all_goals first | exact g_W7.x (by decide) | exact g_W7.r rfl | exact g_W7.r p4_save
set_option maxRecDepth 100000 in
set_option maxHeartbeats 4000000 in
theorem walk_L_addHelper {X : g_X} (O : g_oT X cL_addHelper RL (some .int) ({ frames := 9, cells := 2, slots := 12, locals := 163 } : Room) (tableOf [(0, 9, 12, 13), (0, 9, 15, 21)])) (hs : (g_xl X).stackTraces = false) (Y : g_Y (g_xs X)) (hn : g_xn X = 4) {m s : Nat → Int32} {lm : Nat → Int64} {pm : Nat → Nat} {x1 : Int32} (p0 : g_I m pm) (h4 : pm 4 = 1) : g_V X (fun r : g_Res => r) (g_w ["java/lang/IllegalArgumentException", "java/lang/IllegalStateException"] (R_X7_addHelper m pm x1) s lm) 0 0 m (s, lm, pm) 0 [(0, .ref (g_ad X 122)), (1, .int x1), (2, .ref (g_ad X 129))] [] := by
  have hN : ∀ i, Nat.blt i 4 = true → i < g_xn X := fun i h => by rw [hn]; exact g_blt.mp h
  have M := met_X7_addHelper (g_xl X) hs s lm m pm x1 p0
  have hw := th_addHelper (m := m) (pm := pm) (x1 := x1)
  refine tt_aload_n O 2 dL_addHelper_0 rfl rfl ?_
  refine tt_iconst (x := 0) O dL_addHelper_1 rfl ?_
  refine tt_aload_n O 0 dL_addHelper_2 rfl rfl ?_
  refine tt_iload_n O 1 dL_addHelper_3 rfl rfl ?_
  generalize R_X7_addHelper m pm x1 = rr at hw M ⊢
  obtain ⟨o, m1, pm1⟩ := rr
  obtain ⟨h5, hw⟩ := hw
  rcases hw with ⟨v, hv⟩ | ⟨E, hE, hv⟩
  · have hv : o = .inl (some (.int v)) := hv
    subst hv
    have h5 : pm1 4 = 1 := h5.trans h4
    refine tt_callVi O Y [.int x1] [.int 0, .ref (g_ad X 129)] M LL_26 obj_122 rfl rfl rfl dL_addHelper_4 rfl rfl ?_
    refine tt_i2l O dL_addHelper_7 ?_
    refine tt_last O h5 dL_addHelper_8 ?_
    refine tt_goto O 18 dL_addHelper_9 (by decide) ?_
    refine tt_iconst (x := 0) O dL_addHelper_18 rfl ?_
    exact tt_iret O dL_addHelper_19 (Nat.le_of_ble_eq_true rfl) (Nat.le_of_ble_eq_true rfl) rfl
  · have hv : o = .inr E := hv
    subst hv
    simp only [List.mem_cons, List.not_mem_nil, or_false] at hE
    rcases hE with rfl | rfl
    · refine tt_callVx O Y [.int x1] [.int 0, .ref (g_ad X 129)] M LL_26 obj_122 rfl rfl rfl dL_addHelper_4 rfl rfl [] ⟨0, 9, 12, 13⟩ [⟨0, 9, 15, 21⟩] rfl (fun z hz => absurd hz List.not_mem_nil) (by decide) (by decide) (gW_in (i := 697) (by decide +kernel) rfl) Y.2.1.2.1 (fun q9 => ?_)
      refine tt_astore_n (lc' := [(3, .ref q9), (0, .ref (g_ad X 122)), (1, .int x1), (2, .ref (g_ad X 129))]) O dL_addHelper_12 rfl (hN 3 rfl) rfl ?_
      refine tt_iconst (x := 1) O dL_addHelper_13 rfl ?_
      exact tt_iret O dL_addHelper_14 (Nat.le_of_ble_eq_true rfl) (Nat.le_of_ble_eq_true rfl) (by simp [g_w, g_k])
    · refine tt_callVx O Y [.int x1] [.int 0, .ref (g_ad X 129)] M LL_26 obj_122 rfl rfl rfl dL_addHelper_4 rfl rfl [⟨0, 9, 12, 13⟩] ⟨0, 9, 15, 21⟩ [] rfl (fun z hz => by
          simp only [List.mem_cons, List.not_mem_nil, or_false] at hz
          subst hz
          exact ⟨by decide, "java/lang/IllegalArgumentException", gW_in (i := 697) (by decide +kernel) rfl, Y.2.2.1.2.2⟩) (by decide) (by decide) (gW_in (i := 788) (by decide +kernel) rfl) Y.2.1.2.2 (fun q9 => ?_)
      refine tt_astore_n (lc' := [(3, .ref q9), (0, .ref (g_ad X 122)), (1, .int x1), (2, .ref (g_ad X 129))]) O dL_addHelper_15 rfl (hN 3 rfl) rfl ?_
      refine tt_iconst (x := 2) O dL_addHelper_16 rfl ?_
      exact tt_iret O dL_addHelper_17 (Nat.le_of_ble_eq_true rfl) (Nat.le_of_ble_eq_true rfl) (by simp [g_w, g_k])
theorem met_L_addHelper (l : Launch) (hs : l.stackTraces = false) (m s : Nat → Int32) (lm : Nat → Int64) (pm : Nat → Nat) (x1 : Int32) (p0 : g_I m pm) (h4 : pm 4 = 1) : g_SW l yL_addHelper cL_addHelper 4 [(0, 9, 12, 13), (0, 9, 15, 21)] ({ frames := 9, cells := 2, slots := 12, locals := 163 } : Room) (fun ad => [.ref (ad 122), .int x1, .ref (ad 129)]) m (s, lm, pm) (g_w ["java/lang/IllegalArgumentException", "java/lang/IllegalStateException"] (R_X7_addHelper m pm x1) s lm) :=
  g_sw_of (by decide) (fun _ => Nat.le_of_ble_eq_true rfl) (fun X hl hn O Y => walk_L_addHelper O (by rw [hl]; exact hs) Y hn p0 h4)
theorem th_setSilence {m : Nat → Int32} {pm : Nat → Nat} {x1 : Int32} {x2 : Int32} : g_W7 ["java/lang/IllegalArgumentException"] pm (R_X7_setSilence m pm x1 x2) := by
  unfold R_X7_setSilence
  repeat' split
  all_goals first | exact g_W7.x (by decide) | exact g_W7.r rfl | exact g_W7.r p4_save
set_option maxRecDepth 100000 in
set_option maxHeartbeats 4000000 in
theorem walk_L_setSilence {X : g_X} (O : g_oT X cL_setSilence RL (some .int) ({ frames := 9, cells := 2, slots := 12, locals := 165 } : Room) (tableOf [(0, 10, 13, 13)])) (hs : (g_xl X).stackTraces = false) (Y : g_Y (g_xs X)) (hn : g_xn X = 5) {m s : Nat → Int32} {lm : Nat → Int64} {pm : Nat → Nat} {x1 : Int32} {x2 : Int32} (p0 : g_I m pm) (h4 : pm 4 = 1) : g_V X (fun r : g_Res => r) (g_w ["java/lang/IllegalArgumentException"] (R_X7_setSilence m pm x1 x2) s lm) 0 0 m (s, lm, pm) 0 [(0, .ref (g_ad X 122)), (1, .int x1), (2, .int x2), (3, .ref (g_ad X 129))] [] := by
  have hN : ∀ i, Nat.blt i 5 = true → i < g_xn X := fun i h => by rw [hn]; exact g_blt.mp h
  have M := met_X7_setSilence (g_xl X) hs s lm m pm x1 x2 p0
  have hw := th_setSilence (m := m) (pm := pm) (x1 := x1) (x2 := x2)
  refine tt_aload_n O 3 dL_setSilence_0 rfl rfl ?_
  refine tt_iconst (x := 0) O dL_setSilence_1 rfl ?_
  refine tt_aload_n O 0 dL_setSilence_2 rfl rfl ?_
  refine tt_iload_n O 1 dL_setSilence_3 rfl rfl ?_
  refine tt_iload_n O 2 dL_setSilence_4 rfl rfl ?_
  generalize R_X7_setSilence m pm x1 x2 = rr at hw M ⊢
  obtain ⟨o, m1, pm1⟩ := rr
  obtain ⟨h5, hw⟩ := hw
  rcases hw with ⟨v, hv⟩ | ⟨E, hE, hv⟩
  · have hv : o = .inl (some (.int v)) := hv
    subst hv
    have h5 : pm1 4 = 1 := h5.trans h4
    refine tt_callVi O Y [.int x1, .int x2] [.int 0, .ref (g_ad X 129)] M LL_29 obj_122 rfl rfl rfl dL_setSilence_5 rfl rfl ?_
    refine tt_i2l O dL_setSilence_8 ?_
    refine tt_last O h5 dL_setSilence_9 ?_
    refine tt_goto O 17 dL_setSilence_10 (by decide) ?_
    refine tt_iconst (x := 0) O dL_setSilence_17 rfl ?_
    exact tt_iret O dL_setSilence_18 (Nat.le_of_ble_eq_true rfl) (Nat.le_of_ble_eq_true rfl) rfl
  · have hv : o = .inr E := hv
    subst hv
    simp only [List.mem_cons, List.not_mem_nil, or_false] at hE
    subst hE
    refine tt_callVx O Y [.int x1, .int x2] [.int 0, .ref (g_ad X 129)] M LL_29 obj_122 rfl rfl rfl dL_setSilence_5 rfl rfl [] ⟨0, 10, 13, 13⟩ [] rfl (fun z hz => absurd hz List.not_mem_nil) (by decide) (by decide) (gW_in (i := 697) (by decide +kernel) rfl) Y.2.1.2.1 (fun q9 => ?_)
    refine tt_astore (lc' := [(4, .ref q9), (0, .ref (g_ad X 122)), (1, .int x1), (2, .int x2), (3, .ref (g_ad X 129))]) O dL_setSilence_13 (hN 4 rfl) rfl ?_
    refine tt_iconst (x := 1) O dL_setSilence_15 rfl ?_
    exact tt_iret O dL_setSilence_16 (Nat.le_of_ble_eq_true rfl) (Nat.le_of_ble_eq_true rfl) (by simp [g_w, g_k])
theorem met_L_setSilence (l : Launch) (hs : l.stackTraces = false) (m s : Nat → Int32) (lm : Nat → Int64) (pm : Nat → Nat) (x1 : Int32) (x2 : Int32) (p0 : g_I m pm) (h4 : pm 4 = 1) : g_SW l yL_setSilence cL_setSilence 5 [(0, 10, 13, 13)] ({ frames := 9, cells := 2, slots := 12, locals := 165 } : Room) (fun ad => [.ref (ad 122), .int x1, .int x2, .ref (ad 129)]) m (s, lm, pm) (g_w ["java/lang/IllegalArgumentException"] (R_X7_setSilence m pm x1 x2) s lm) :=
  g_sw_of (by decide) (fun _ => Nat.le_of_ble_eq_true rfl) (fun X hl hn O Y => walk_L_setSilence O (by rw [hl]; exact hs) Y hn p0 h4)
theorem th_go {m : Nat → Int32} {pm : Nat → Nat} {x1 : Int32} {x2 : Int32} : g_W7 ["java/lang/IndexOutOfBoundsException", "java/lang/IllegalStateException"] pm (R_X7_go m pm x1 x2) := by
  unfold R_X7_go
  repeat' split
  all_goals first | exact g_W7.x (by decide) | exact g_W7.r rfl | exact g_W7.r p4_save
set_option maxRecDepth 100000 in
set_option maxHeartbeats 4000000 in
theorem walk_L_go {X : g_X} (O : g_oT X cL_go RL (some .int) ({ frames := 8, cells := 2, slots := 12, locals := 133 } : Room) (tableOf [(0, 10, 13, 19), (0, 10, 17, 21)])) (hs : (g_xl X).stackTraces = false) (Y : g_Y (g_xs X)) (hn : g_xn X = 5) {m s : Nat → Int32} {lm : Nat → Int64} {pm : Nat → Nat} {x1 : Int32} {x2 : Int32} (p0 : g_I m pm) (h4 : pm 4 = 1) : g_V X (fun r : g_Res => r) (g_w ["java/lang/IndexOutOfBoundsException", "java/lang/IllegalStateException"] (R_X7_go m pm x1 x2) s lm) 0 0 m (s, lm, pm) 0 [(0, .ref (g_ad X 122)), (1, .int x1), (2, .int x2), (3, .ref (g_ad X 129))] [] := by
  have hN : ∀ i, Nat.blt i 5 = true → i < g_xn X := fun i h => by rw [hn]; exact g_blt.mp h
  have M := met_X7_go (g_xl X) hs s lm m pm x1 x2 p0
  have hw := th_go (m := m) (pm := pm) (x1 := x1) (x2 := x2)
  refine tt_aload_n O 3 dL_go_0 rfl rfl ?_
  refine tt_iconst (x := 0) O dL_go_1 rfl ?_
  refine tt_aload_n O 0 dL_go_2 rfl rfl ?_
  refine tt_iload_n O 1 dL_go_3 rfl rfl ?_
  refine tt_iload_n O 2 dL_go_4 rfl rfl ?_
  generalize R_X7_go m pm x1 x2 = rr at hw M ⊢
  obtain ⟨o, m1, pm1⟩ := rr
  obtain ⟨h5, hw⟩ := hw
  rcases hw with ⟨v, hv⟩ | ⟨E, hE, hv⟩
  · have hv : o = .inl (some (.int v)) := hv
    subst hv
    have h5 : pm1 4 = 1 := h5.trans h4
    refine tt_callVi O Y [.int x1, .int x2] [.int 0, .ref (g_ad X 129)] M LL_33 obj_122 rfl rfl rfl dL_go_5 rfl rfl ?_
    refine tt_i2l O dL_go_8 ?_
    refine tt_last O h5 dL_go_9 ?_
    refine tt_goto O 21 dL_go_10 (by decide) ?_
    refine tt_iconst (x := 0) O dL_go_21 rfl ?_
    exact tt_iret O dL_go_22 (Nat.le_of_ble_eq_true rfl) (Nat.le_of_ble_eq_true rfl) rfl
  · have hv : o = .inr E := hv
    subst hv
    simp only [List.mem_cons, List.not_mem_nil, or_false] at hE
    rcases hE with rfl | rfl
    · refine tt_callVx O Y [.int x1, .int x2] [.int 0, .ref (g_ad X 129)] M LL_33 obj_122 rfl rfl rfl dL_go_5 rfl rfl [] ⟨0, 10, 13, 19⟩ [⟨0, 10, 17, 21⟩] rfl (fun z hz => absurd hz List.not_mem_nil) (by decide) (by decide) (gW_in (i := 787) (by decide +kernel) rfl) Y.2.1.1 (fun q9 => ?_)
      refine tt_astore (lc' := [(4, .ref q9), (0, .ref (g_ad X 122)), (1, .int x1), (2, .int x2), (3, .ref (g_ad X 129))]) O dL_go_13 (hN 4 rfl) rfl ?_
      refine tt_iconst (x := 1) O dL_go_15 rfl ?_
      exact tt_iret O dL_go_16 (Nat.le_of_ble_eq_true rfl) (Nat.le_of_ble_eq_true rfl) (by simp [g_w, g_k])
    · refine tt_callVx O Y [.int x1, .int x2] [.int 0, .ref (g_ad X 129)] M LL_33 obj_122 rfl rfl rfl dL_go_5 rfl rfl [⟨0, 10, 13, 19⟩] ⟨0, 10, 17, 21⟩ [] rfl (fun z hz => by
          simp only [List.mem_cons, List.not_mem_nil, or_false] at hz
          subst hz
          exact ⟨by decide, "java/lang/IndexOutOfBoundsException", gW_in (i := 787) (by decide +kernel) rfl, Y.2.2.1.2.1⟩) (by decide) (by decide) (gW_in (i := 788) (by decide +kernel) rfl) Y.2.1.2.2 (fun q9 => ?_)
      refine tt_astore (lc' := [(4, .ref q9), (0, .ref (g_ad X 122)), (1, .int x1), (2, .int x2), (3, .ref (g_ad X 129))]) O dL_go_17 (hN 4 rfl) rfl ?_
      refine tt_iconst (x := 2) O dL_go_19 rfl ?_
      exact tt_iret O dL_go_20 (Nat.le_of_ble_eq_true rfl) (Nat.le_of_ble_eq_true rfl) (by simp [g_w, g_k])
theorem met_L_go (l : Launch) (hs : l.stackTraces = false) (m s : Nat → Int32) (lm : Nat → Int64) (pm : Nat → Nat) (x1 : Int32) (x2 : Int32) (p0 : g_I m pm) (h4 : pm 4 = 1) : g_SW l yL_go cL_go 5 [(0, 10, 13, 19), (0, 10, 17, 21)] ({ frames := 8, cells := 2, slots := 12, locals := 133 } : Room) (fun ad => [.ref (ad 122), .int x1, .int x2, .ref (ad 129)]) m (s, lm, pm) (g_w ["java/lang/IndexOutOfBoundsException", "java/lang/IllegalStateException"] (R_X7_go m pm x1 x2) s lm) :=
  g_sw_of (by decide) (fun _ => Nat.le_of_ble_eq_true rfl) (fun X hl hn O Y => walk_L_go O (by rw [hl]; exact hs) Y hn p0 h4)
theorem th_take {m : Nat → Int32} {pm : Nat → Nat} {x1 : Int32} {x2 : Int32} : g_W7 ["java/lang/IndexOutOfBoundsException", "java/lang/IllegalStateException"] pm (R_X7_take m pm x1 x2) := by
  unfold R_X7_take
  repeat' split
  all_goals first | exact g_W7.x (by decide) | exact g_W7.r rfl | exact g_W7.r p4_save
set_option maxRecDepth 100000 in
set_option maxHeartbeats 4000000 in
theorem walk_L_take {X : g_X} (O : g_oT X cL_take RL (some .int) ({ frames := 8, cells := 3, slots := 18, locals := 133 } : Room) (tableOf [(0, 10, 13, 19), (0, 10, 17, 21)])) (hs : (g_xl X).stackTraces = false) (Y : g_Y (g_xs X)) (hn : g_xn X = 5) {m s : Nat → Int32} {lm : Nat → Int64} {pm : Nat → Nat} {x1 : Int32} {x2 : Int32} (p0 : g_I m pm) (h4 : pm 4 = 1) : g_V X (fun r : g_Res => r) (g_w ["java/lang/IndexOutOfBoundsException", "java/lang/IllegalStateException"] (R_X7_take m pm x1 x2) s lm) 0 0 m (s, lm, pm) 0 [(0, .ref (g_ad X 122)), (1, .int x1), (2, .int x2), (3, .ref (g_ad X 129))] [] := by
  have hN : ∀ i, Nat.blt i 5 = true → i < g_xn X := fun i h => by rw [hn]; exact g_blt.mp h
  have M := met_X7_take (g_xl X) hs s lm m pm x1 x2 p0
  have hw := th_take (m := m) (pm := pm) (x1 := x1) (x2 := x2)
  refine tt_aload_n O 3 dL_take_0 rfl rfl ?_
  refine tt_iconst (x := 0) O dL_take_1 rfl ?_
  refine tt_aload_n O 0 dL_take_2 rfl rfl ?_
  refine tt_iload_n O 1 dL_take_3 rfl rfl ?_
  refine tt_iload_n O 2 dL_take_4 rfl rfl ?_
  generalize R_X7_take m pm x1 x2 = rr at hw M ⊢
  obtain ⟨o, m1, pm1⟩ := rr
  obtain ⟨h5, hw⟩ := hw
  rcases hw with ⟨v, hv⟩ | ⟨E, hE, hv⟩
  · have hv : o = .inl (some (.int v)) := hv
    subst hv
    have h5 : pm1 4 = 1 := h5.trans h4
    refine tt_callVi O Y [.int x1, .int x2] [.int 0, .ref (g_ad X 129)] M LL_36 obj_122 rfl rfl rfl dL_take_5 rfl rfl ?_
    refine tt_i2l O dL_take_8 ?_
    refine tt_last O h5 dL_take_9 ?_
    refine tt_goto O 21 dL_take_10 (by decide) ?_
    refine tt_iconst (x := 0) O dL_take_21 rfl ?_
    exact tt_iret O dL_take_22 (Nat.le_of_ble_eq_true rfl) (Nat.le_of_ble_eq_true rfl) rfl
  · have hv : o = .inr E := hv
    subst hv
    simp only [List.mem_cons, List.not_mem_nil, or_false] at hE
    rcases hE with rfl | rfl
    · refine tt_callVx O Y [.int x1, .int x2] [.int 0, .ref (g_ad X 129)] M LL_36 obj_122 rfl rfl rfl dL_take_5 rfl rfl [] ⟨0, 10, 13, 19⟩ [⟨0, 10, 17, 21⟩] rfl (fun z hz => absurd hz List.not_mem_nil) (by decide) (by decide) (gW_in (i := 787) (by decide +kernel) rfl) Y.2.1.1 (fun q9 => ?_)
      refine tt_astore (lc' := [(4, .ref q9), (0, .ref (g_ad X 122)), (1, .int x1), (2, .int x2), (3, .ref (g_ad X 129))]) O dL_take_13 (hN 4 rfl) rfl ?_
      refine tt_iconst (x := 1) O dL_take_15 rfl ?_
      exact tt_iret O dL_take_16 (Nat.le_of_ble_eq_true rfl) (Nat.le_of_ble_eq_true rfl) (by simp [g_w, g_k])
    · refine tt_callVx O Y [.int x1, .int x2] [.int 0, .ref (g_ad X 129)] M LL_36 obj_122 rfl rfl rfl dL_take_5 rfl rfl [⟨0, 10, 13, 19⟩] ⟨0, 10, 17, 21⟩ [] rfl (fun z hz => by
          simp only [List.mem_cons, List.not_mem_nil, or_false] at hz
          subst hz
          exact ⟨by decide, "java/lang/IndexOutOfBoundsException", gW_in (i := 787) (by decide +kernel) rfl, Y.2.2.1.2.1⟩) (by decide) (by decide) (gW_in (i := 788) (by decide +kernel) rfl) Y.2.1.2.2 (fun q9 => ?_)
      refine tt_astore (lc' := [(4, .ref q9), (0, .ref (g_ad X 122)), (1, .int x1), (2, .int x2), (3, .ref (g_ad X 129))]) O dL_take_17 (hN 4 rfl) rfl ?_
      refine tt_iconst (x := 2) O dL_take_19 rfl ?_
      exact tt_iret O dL_take_20 (Nat.le_of_ble_eq_true rfl) (Nat.le_of_ble_eq_true rfl) (by simp [g_w, g_k])
theorem met_L_take (l : Launch) (hs : l.stackTraces = false) (m s : Nat → Int32) (lm : Nat → Int64) (pm : Nat → Nat) (x1 : Int32) (x2 : Int32) (p0 : g_I m pm) (h4 : pm 4 = 1) : g_SW l yL_take cL_take 5 [(0, 10, 13, 19), (0, 10, 17, 21)] ({ frames := 8, cells := 3, slots := 18, locals := 133 } : Room) (fun ad => [.ref (ad 122), .int x1, .int x2, .ref (ad 129)]) m (s, lm, pm) (g_w ["java/lang/IndexOutOfBoundsException", "java/lang/IllegalStateException"] (R_X7_take m pm x1 x2) s lm) :=
  g_sw_of (by decide) (fun _ => Nat.le_of_ble_eq_true rfl) (fun X hl hn O Y => walk_L_take O (by rw [hl]; exact hs) Y hn p0 h4)
theorem th_lay {m : Nat → Int32} {pm : Nat → Nat} {x1 : Int32} : g_W7 ["java/lang/IndexOutOfBoundsException", "java/lang/IllegalStateException"] pm (R_X7_lay m pm x1) := by
  unfold R_X7_lay
  repeat' split
  all_goals first | exact g_W7.x (by decide) | exact g_W7.r rfl | exact g_W7.r p4_save
set_option maxRecDepth 100000 in
set_option maxHeartbeats 4000000 in
theorem walk_L_lay {X : g_X} (O : g_oT X cL_lay RL (some .int) ({ frames := 8, cells := 2, slots := 12, locals := 132 } : Room) (tableOf [(0, 9, 12, 19), (0, 9, 15, 21)])) (hs : (g_xl X).stackTraces = false) (Y : g_Y (g_xs X)) (hn : g_xn X = 4) {m s : Nat → Int32} {lm : Nat → Int64} {pm : Nat → Nat} {x1 : Int32} (p0 : g_I m pm) (h4 : pm 4 = 1) : g_V X (fun r : g_Res => r) (g_w ["java/lang/IndexOutOfBoundsException", "java/lang/IllegalStateException"] (R_X7_lay m pm x1) s lm) 0 0 m (s, lm, pm) 0 [(0, .ref (g_ad X 122)), (1, .int x1), (2, .ref (g_ad X 129))] [] := by
  have hN : ∀ i, Nat.blt i 4 = true → i < g_xn X := fun i h => by rw [hn]; exact g_blt.mp h
  have M := met_X7_lay (g_xl X) hs s lm m pm x1 p0
  have hw := th_lay (m := m) (pm := pm) (x1 := x1)
  refine tt_aload_n O 2 dL_lay_0 rfl rfl ?_
  refine tt_iconst (x := 0) O dL_lay_1 rfl ?_
  refine tt_aload_n O 0 dL_lay_2 rfl rfl ?_
  refine tt_iload_n O 1 dL_lay_3 rfl rfl ?_
  generalize R_X7_lay m pm x1 = rr at hw M ⊢
  obtain ⟨o, m1, pm1⟩ := rr
  obtain ⟨h5, hw⟩ := hw
  rcases hw with ⟨v, hv⟩ | ⟨E, hE, hv⟩
  · have hv : o = .inl (some (.int v)) := hv
    subst hv
    have h5 : pm1 4 = 1 := h5.trans h4
    refine tt_callVi O Y [.int x1] [.int 0, .ref (g_ad X 129)] M LL_39 obj_122 rfl rfl rfl dL_lay_4 rfl rfl ?_
    refine tt_i2l O dL_lay_7 ?_
    refine tt_last O h5 dL_lay_8 ?_
    refine tt_goto O 18 dL_lay_9 (by decide) ?_
    refine tt_iconst (x := 0) O dL_lay_18 rfl ?_
    exact tt_iret O dL_lay_19 (Nat.le_of_ble_eq_true rfl) (Nat.le_of_ble_eq_true rfl) rfl
  · have hv : o = .inr E := hv
    subst hv
    simp only [List.mem_cons, List.not_mem_nil, or_false] at hE
    rcases hE with rfl | rfl
    · refine tt_callVx O Y [.int x1] [.int 0, .ref (g_ad X 129)] M LL_39 obj_122 rfl rfl rfl dL_lay_4 rfl rfl [] ⟨0, 9, 12, 19⟩ [⟨0, 9, 15, 21⟩] rfl (fun z hz => absurd hz List.not_mem_nil) (by decide) (by decide) (gW_in (i := 787) (by decide +kernel) rfl) Y.2.1.1 (fun q9 => ?_)
      refine tt_astore_n (lc' := [(3, .ref q9), (0, .ref (g_ad X 122)), (1, .int x1), (2, .ref (g_ad X 129))]) O dL_lay_12 rfl (hN 3 rfl) rfl ?_
      refine tt_iconst (x := 1) O dL_lay_13 rfl ?_
      exact tt_iret O dL_lay_14 (Nat.le_of_ble_eq_true rfl) (Nat.le_of_ble_eq_true rfl) (by simp [g_w, g_k])
    · refine tt_callVx O Y [.int x1] [.int 0, .ref (g_ad X 129)] M LL_39 obj_122 rfl rfl rfl dL_lay_4 rfl rfl [⟨0, 9, 12, 19⟩] ⟨0, 9, 15, 21⟩ [] rfl (fun z hz => by
          simp only [List.mem_cons, List.not_mem_nil, or_false] at hz
          subst hz
          exact ⟨by decide, "java/lang/IndexOutOfBoundsException", gW_in (i := 787) (by decide +kernel) rfl, Y.2.2.1.2.1⟩) (by decide) (by decide) (gW_in (i := 788) (by decide +kernel) rfl) Y.2.1.2.2 (fun q9 => ?_)
      refine tt_astore_n (lc' := [(3, .ref q9), (0, .ref (g_ad X 122)), (1, .int x1), (2, .ref (g_ad X 129))]) O dL_lay_15 rfl (hN 3 rfl) rfl ?_
      refine tt_iconst (x := 2) O dL_lay_16 rfl ?_
      exact tt_iret O dL_lay_17 (Nat.le_of_ble_eq_true rfl) (Nat.le_of_ble_eq_true rfl) (by simp [g_w, g_k])
theorem met_L_lay (l : Launch) (hs : l.stackTraces = false) (m s : Nat → Int32) (lm : Nat → Int64) (pm : Nat → Nat) (x1 : Int32) (p0 : g_I m pm) (h4 : pm 4 = 1) : g_SW l yL_lay cL_lay 4 [(0, 9, 12, 19), (0, 9, 15, 21)] ({ frames := 8, cells := 2, slots := 12, locals := 132 } : Room) (fun ad => [.ref (ad 122), .int x1, .ref (ad 129)]) m (s, lm, pm) (g_w ["java/lang/IndexOutOfBoundsException", "java/lang/IllegalStateException"] (R_X7_lay m pm x1) s lm) :=
  g_sw_of (by decide) (fun _ => Nat.le_of_ble_eq_true rfl) (fun X hl hn O Y => walk_L_lay O (by rw [hl]; exact hs) Y hn p0 h4)
theorem th_rig {m : Nat → Int32} {pm : Nat → Nat} {x1 : Int32} : g_W7 ["java/lang/IndexOutOfBoundsException", "java/lang/IllegalStateException"] pm (R_X7_rig m pm x1) := by
  unfold R_X7_rig
  repeat' split
  all_goals first | exact g_W7.x (by decide) | exact g_W7.r rfl | exact g_W7.r p4_save
set_option maxRecDepth 100000 in
set_option maxHeartbeats 4000000 in
theorem walk_L_rig {X : g_X} (O : g_oT X cL_rig RL (some .int) ({ frames := 8, cells := 2, slots := 12, locals := 132 } : Room) (tableOf [(0, 9, 12, 19), (0, 9, 15, 21)])) (hs : (g_xl X).stackTraces = false) (Y : g_Y (g_xs X)) (hn : g_xn X = 4) {m s : Nat → Int32} {lm : Nat → Int64} {pm : Nat → Nat} {x1 : Int32} (p0 : g_I m pm) (h4 : pm 4 = 1) : g_V X (fun r : g_Res => r) (g_w ["java/lang/IndexOutOfBoundsException", "java/lang/IllegalStateException"] (R_X7_rig m pm x1) s lm) 0 0 m (s, lm, pm) 0 [(0, .ref (g_ad X 122)), (1, .int x1), (2, .ref (g_ad X 129))] [] := by
  have hN : ∀ i, Nat.blt i 4 = true → i < g_xn X := fun i h => by rw [hn]; exact g_blt.mp h
  have M := met_X7_rig (g_xl X) hs s lm m pm x1 p0
  have hw := th_rig (m := m) (pm := pm) (x1 := x1)
  refine tt_aload_n O 2 dL_rig_0 rfl rfl ?_
  refine tt_iconst (x := 0) O dL_rig_1 rfl ?_
  refine tt_aload_n O 0 dL_rig_2 rfl rfl ?_
  refine tt_iload_n O 1 dL_rig_3 rfl rfl ?_
  generalize R_X7_rig m pm x1 = rr at hw M ⊢
  obtain ⟨o, m1, pm1⟩ := rr
  obtain ⟨h5, hw⟩ := hw
  rcases hw with ⟨v, hv⟩ | ⟨E, hE, hv⟩
  · have hv : o = .inl (some (.int v)) := hv
    subst hv
    have h5 : pm1 4 = 1 := h5.trans h4
    refine tt_callVi O Y [.int x1] [.int 0, .ref (g_ad X 129)] M LL_42 obj_122 rfl rfl rfl dL_rig_4 rfl rfl ?_
    refine tt_i2l O dL_rig_7 ?_
    refine tt_last O h5 dL_rig_8 ?_
    refine tt_goto O 18 dL_rig_9 (by decide) ?_
    refine tt_iconst (x := 0) O dL_rig_18 rfl ?_
    exact tt_iret O dL_rig_19 (Nat.le_of_ble_eq_true rfl) (Nat.le_of_ble_eq_true rfl) rfl
  · have hv : o = .inr E := hv
    subst hv
    simp only [List.mem_cons, List.not_mem_nil, or_false] at hE
    rcases hE with rfl | rfl
    · refine tt_callVx O Y [.int x1] [.int 0, .ref (g_ad X 129)] M LL_42 obj_122 rfl rfl rfl dL_rig_4 rfl rfl [] ⟨0, 9, 12, 19⟩ [⟨0, 9, 15, 21⟩] rfl (fun z hz => absurd hz List.not_mem_nil) (by decide) (by decide) (gW_in (i := 787) (by decide +kernel) rfl) Y.2.1.1 (fun q9 => ?_)
      refine tt_astore_n (lc' := [(3, .ref q9), (0, .ref (g_ad X 122)), (1, .int x1), (2, .ref (g_ad X 129))]) O dL_rig_12 rfl (hN 3 rfl) rfl ?_
      refine tt_iconst (x := 1) O dL_rig_13 rfl ?_
      exact tt_iret O dL_rig_14 (Nat.le_of_ble_eq_true rfl) (Nat.le_of_ble_eq_true rfl) (by simp [g_w, g_k])
    · refine tt_callVx O Y [.int x1] [.int 0, .ref (g_ad X 129)] M LL_42 obj_122 rfl rfl rfl dL_rig_4 rfl rfl [⟨0, 9, 12, 19⟩] ⟨0, 9, 15, 21⟩ [] rfl (fun z hz => by
          simp only [List.mem_cons, List.not_mem_nil, or_false] at hz
          subst hz
          exact ⟨by decide, "java/lang/IndexOutOfBoundsException", gW_in (i := 787) (by decide +kernel) rfl, Y.2.2.1.2.1⟩) (by decide) (by decide) (gW_in (i := 788) (by decide +kernel) rfl) Y.2.1.2.2 (fun q9 => ?_)
      refine tt_astore_n (lc' := [(3, .ref q9), (0, .ref (g_ad X 122)), (1, .int x1), (2, .ref (g_ad X 129))]) O dL_rig_15 rfl (hN 3 rfl) rfl ?_
      refine tt_iconst (x := 2) O dL_rig_16 rfl ?_
      exact tt_iret O dL_rig_17 (Nat.le_of_ble_eq_true rfl) (Nat.le_of_ble_eq_true rfl) (by simp [g_w, g_k])
theorem met_L_rig (l : Launch) (hs : l.stackTraces = false) (m s : Nat → Int32) (lm : Nat → Int64) (pm : Nat → Nat) (x1 : Int32) (p0 : g_I m pm) (h4 : pm 4 = 1) : g_SW l yL_rig cL_rig 4 [(0, 9, 12, 19), (0, 9, 15, 21)] ({ frames := 8, cells := 2, slots := 12, locals := 132 } : Room) (fun ad => [.ref (ad 122), .int x1, .ref (ad 129)]) m (s, lm, pm) (g_w ["java/lang/IndexOutOfBoundsException", "java/lang/IllegalStateException"] (R_X7_rig m pm x1) s lm) :=
  g_sw_of (by decide) (fun _ => Nat.le_of_ble_eq_true rfl) (fun X hl hn O Y => walk_L_rig O (by rw [hl]; exact hs) Y hn p0 h4)
theorem th_takeOff {m : Nat → Int32} {pm : Nat → Nat} {x1 : Int32} : g_W7 ["java/lang/IndexOutOfBoundsException", "java/lang/IllegalStateException"] pm (R_X7_takeOff m pm x1) := by
  unfold R_X7_takeOff
  repeat' split
  all_goals first | exact g_W7.x (by decide) | exact g_W7.r rfl | exact g_W7.r p4_save
set_option maxRecDepth 100000 in
set_option maxHeartbeats 4000000 in
theorem walk_L_takeOff {X : g_X} (O : g_oT X cL_takeOff RL (some .int) ({ frames := 8, cells := 2, slots := 12, locals := 132 } : Room) (tableOf [(0, 9, 12, 19), (0, 9, 15, 21)])) (hs : (g_xl X).stackTraces = false) (Y : g_Y (g_xs X)) (hn : g_xn X = 4) {m s : Nat → Int32} {lm : Nat → Int64} {pm : Nat → Nat} {x1 : Int32} (p0 : g_I m pm) (h4 : pm 4 = 1) : g_V X (fun r : g_Res => r) (g_w ["java/lang/IndexOutOfBoundsException", "java/lang/IllegalStateException"] (R_X7_takeOff m pm x1) s lm) 0 0 m (s, lm, pm) 0 [(0, .ref (g_ad X 122)), (1, .int x1), (2, .ref (g_ad X 129))] [] := by
  have hN : ∀ i, Nat.blt i 4 = true → i < g_xn X := fun i h => by rw [hn]; exact g_blt.mp h
  have M := met_X7_takeOff (g_xl X) hs s lm m pm x1 p0
  have hw := th_takeOff (m := m) (pm := pm) (x1 := x1)
  refine tt_aload_n O 2 dL_takeOff_0 rfl rfl ?_
  refine tt_iconst (x := 0) O dL_takeOff_1 rfl ?_
  refine tt_aload_n O 0 dL_takeOff_2 rfl rfl ?_
  refine tt_iload_n O 1 dL_takeOff_3 rfl rfl ?_
  generalize R_X7_takeOff m pm x1 = rr at hw M ⊢
  obtain ⟨o, m1, pm1⟩ := rr
  obtain ⟨h5, hw⟩ := hw
  rcases hw with ⟨v, hv⟩ | ⟨E, hE, hv⟩
  · have hv : o = .inl (some (.int v)) := hv
    subst hv
    have h5 : pm1 4 = 1 := h5.trans h4
    refine tt_callVi O Y [.int x1] [.int 0, .ref (g_ad X 129)] M LL_45 obj_122 rfl rfl rfl dL_takeOff_4 rfl rfl ?_
    refine tt_i2l O dL_takeOff_7 ?_
    refine tt_last O h5 dL_takeOff_8 ?_
    refine tt_goto O 18 dL_takeOff_9 (by decide) ?_
    refine tt_iconst (x := 0) O dL_takeOff_18 rfl ?_
    exact tt_iret O dL_takeOff_19 (Nat.le_of_ble_eq_true rfl) (Nat.le_of_ble_eq_true rfl) rfl
  · have hv : o = .inr E := hv
    subst hv
    simp only [List.mem_cons, List.not_mem_nil, or_false] at hE
    rcases hE with rfl | rfl
    · refine tt_callVx O Y [.int x1] [.int 0, .ref (g_ad X 129)] M LL_45 obj_122 rfl rfl rfl dL_takeOff_4 rfl rfl [] ⟨0, 9, 12, 19⟩ [⟨0, 9, 15, 21⟩] rfl (fun z hz => absurd hz List.not_mem_nil) (by decide) (by decide) (gW_in (i := 787) (by decide +kernel) rfl) Y.2.1.1 (fun q9 => ?_)
      refine tt_astore_n (lc' := [(3, .ref q9), (0, .ref (g_ad X 122)), (1, .int x1), (2, .ref (g_ad X 129))]) O dL_takeOff_12 rfl (hN 3 rfl) rfl ?_
      refine tt_iconst (x := 1) O dL_takeOff_13 rfl ?_
      exact tt_iret O dL_takeOff_14 (Nat.le_of_ble_eq_true rfl) (Nat.le_of_ble_eq_true rfl) (by simp [g_w, g_k])
    · refine tt_callVx O Y [.int x1] [.int 0, .ref (g_ad X 129)] M LL_45 obj_122 rfl rfl rfl dL_takeOff_4 rfl rfl [⟨0, 9, 12, 19⟩] ⟨0, 9, 15, 21⟩ [] rfl (fun z hz => by
          simp only [List.mem_cons, List.not_mem_nil, or_false] at hz
          subst hz
          exact ⟨by decide, "java/lang/IndexOutOfBoundsException", gW_in (i := 787) (by decide +kernel) rfl, Y.2.2.1.2.1⟩) (by decide) (by decide) (gW_in (i := 788) (by decide +kernel) rfl) Y.2.1.2.2 (fun q9 => ?_)
      refine tt_astore_n (lc' := [(3, .ref q9), (0, .ref (g_ad X 122)), (1, .int x1), (2, .ref (g_ad X 129))]) O dL_takeOff_15 rfl (hN 3 rfl) rfl ?_
      refine tt_iconst (x := 2) O dL_takeOff_16 rfl ?_
      exact tt_iret O dL_takeOff_17 (Nat.le_of_ble_eq_true rfl) (Nat.le_of_ble_eq_true rfl) (by simp [g_w, g_k])
theorem met_L_takeOff (l : Launch) (hs : l.stackTraces = false) (m s : Nat → Int32) (lm : Nat → Int64) (pm : Nat → Nat) (x1 : Int32) (p0 : g_I m pm) (h4 : pm 4 = 1) : g_SW l yL_takeOff cL_takeOff 4 [(0, 9, 12, 19), (0, 9, 15, 21)] ({ frames := 8, cells := 2, slots := 12, locals := 132 } : Room) (fun ad => [.ref (ad 122), .int x1, .ref (ad 129)]) m (s, lm, pm) (g_w ["java/lang/IndexOutOfBoundsException", "java/lang/IllegalStateException"] (R_X7_takeOff m pm x1) s lm) :=
  g_sw_of (by decide) (fun _ => Nat.le_of_ble_eq_true rfl) (fun X hl hn O Y => walk_L_takeOff O (by rw [hl]; exact hs) Y hn p0 h4)
theorem th_carry {m : Nat → Int32} {pm : Nat → Nat} {x1 : Int32} : g_W7 ["java/lang/IllegalArgumentException", "java/lang/IllegalStateException"] pm (R_X7_carry m pm x1) := by
  unfold R_X7_carry
  repeat' split
  all_goals first | exact g_W7.x (by decide) | exact g_W7.r rfl | exact g_W7.r p4_save
set_option maxRecDepth 100000 in
set_option maxHeartbeats 4000000 in
theorem walk_L_carry {X : g_X} (O : g_oT X cL_carry RL (some .int) ({ frames := 8, cells := 2, slots := 12, locals := 132 } : Room) (tableOf [(0, 9, 12, 13), (0, 9, 15, 21)])) (hs : (g_xl X).stackTraces = false) (Y : g_Y (g_xs X)) (hn : g_xn X = 4) {m s : Nat → Int32} {lm : Nat → Int64} {pm : Nat → Nat} {x1 : Int32} (p0 : g_I m pm) (h4 : pm 4 = 1) : g_V X (fun r : g_Res => r) (g_w ["java/lang/IllegalArgumentException", "java/lang/IllegalStateException"] (R_X7_carry m pm x1) s lm) 0 0 m (s, lm, pm) 0 [(0, .ref (g_ad X 122)), (1, .int x1), (2, .ref (g_ad X 129))] [] := by
  have hN : ∀ i, Nat.blt i 4 = true → i < g_xn X := fun i h => by rw [hn]; exact g_blt.mp h
  have M := met_X7_carry (g_xl X) hs s lm m pm x1 p0
  have hw := th_carry (m := m) (pm := pm) (x1 := x1)
  refine tt_aload_n O 2 dL_carry_0 rfl rfl ?_
  refine tt_iconst (x := 0) O dL_carry_1 rfl ?_
  refine tt_aload_n O 0 dL_carry_2 rfl rfl ?_
  refine tt_iload_n O 1 dL_carry_3 rfl rfl ?_
  generalize R_X7_carry m pm x1 = rr at hw M ⊢
  obtain ⟨o, m1, pm1⟩ := rr
  obtain ⟨h5, hw⟩ := hw
  rcases hw with ⟨v, hv⟩ | ⟨E, hE, hv⟩
  · have hv : o = .inl (some (.int v)) := hv
    subst hv
    have h5 : pm1 4 = 1 := h5.trans h4
    refine tt_callVi O Y [.int x1] [.int 0, .ref (g_ad X 129)] M LL_48 obj_122 rfl rfl rfl dL_carry_4 rfl rfl ?_
    refine tt_i2l O dL_carry_7 ?_
    refine tt_last O h5 dL_carry_8 ?_
    refine tt_goto O 18 dL_carry_9 (by decide) ?_
    refine tt_iconst (x := 0) O dL_carry_18 rfl ?_
    exact tt_iret O dL_carry_19 (Nat.le_of_ble_eq_true rfl) (Nat.le_of_ble_eq_true rfl) rfl
  · have hv : o = .inr E := hv
    subst hv
    simp only [List.mem_cons, List.not_mem_nil, or_false] at hE
    rcases hE with rfl | rfl
    · refine tt_callVx O Y [.int x1] [.int 0, .ref (g_ad X 129)] M LL_48 obj_122 rfl rfl rfl dL_carry_4 rfl rfl [] ⟨0, 9, 12, 13⟩ [⟨0, 9, 15, 21⟩] rfl (fun z hz => absurd hz List.not_mem_nil) (by decide) (by decide) (gW_in (i := 697) (by decide +kernel) rfl) Y.2.1.2.1 (fun q9 => ?_)
      refine tt_astore_n (lc' := [(3, .ref q9), (0, .ref (g_ad X 122)), (1, .int x1), (2, .ref (g_ad X 129))]) O dL_carry_12 rfl (hN 3 rfl) rfl ?_
      refine tt_iconst (x := 1) O dL_carry_13 rfl ?_
      exact tt_iret O dL_carry_14 (Nat.le_of_ble_eq_true rfl) (Nat.le_of_ble_eq_true rfl) (by simp [g_w, g_k])
    · refine tt_callVx O Y [.int x1] [.int 0, .ref (g_ad X 129)] M LL_48 obj_122 rfl rfl rfl dL_carry_4 rfl rfl [⟨0, 9, 12, 13⟩] ⟨0, 9, 15, 21⟩ [] rfl (fun z hz => by
          simp only [List.mem_cons, List.not_mem_nil, or_false] at hz
          subst hz
          exact ⟨by decide, "java/lang/IllegalArgumentException", gW_in (i := 697) (by decide +kernel) rfl, Y.2.2.1.2.2⟩) (by decide) (by decide) (gW_in (i := 788) (by decide +kernel) rfl) Y.2.1.2.2 (fun q9 => ?_)
      refine tt_astore_n (lc' := [(3, .ref q9), (0, .ref (g_ad X 122)), (1, .int x1), (2, .ref (g_ad X 129))]) O dL_carry_15 rfl (hN 3 rfl) rfl ?_
      refine tt_iconst (x := 2) O dL_carry_16 rfl ?_
      exact tt_iret O dL_carry_17 (Nat.le_of_ble_eq_true rfl) (Nat.le_of_ble_eq_true rfl) (by simp [g_w, g_k])
theorem met_L_carry (l : Launch) (hs : l.stackTraces = false) (m s : Nat → Int32) (lm : Nat → Int64) (pm : Nat → Nat) (x1 : Int32) (p0 : g_I m pm) (h4 : pm 4 = 1) : g_SW l yL_carry cL_carry 4 [(0, 9, 12, 13), (0, 9, 15, 21)] ({ frames := 8, cells := 2, slots := 12, locals := 132 } : Room) (fun ad => [.ref (ad 122), .int x1, .ref (ad 129)]) m (s, lm, pm) (g_w ["java/lang/IllegalArgumentException", "java/lang/IllegalStateException"] (R_X7_carry m pm x1) s lm) :=
  g_sw_of (by decide) (fun _ => Nat.le_of_ble_eq_true rfl) (fun X hl hn O Y => walk_L_carry O (by rw [hl]; exact hs) Y hn p0 h4)
theorem th_send {m : Nat → Int32} {pm : Nat → Nat} {x1 : Int32} : g_W7 ["java/lang/IndexOutOfBoundsException", "java/lang/IllegalStateException"] pm (R_X7_send m pm x1) := by
  unfold R_X7_send
  repeat' split
  all_goals first | exact g_W7.x (by decide) | exact g_W7.r rfl | exact g_W7.r p4_save
set_option maxRecDepth 100000 in
set_option maxHeartbeats 4000000 in
theorem walk_L_send {X : g_X} (O : g_oT X cL_send RL (some .int) ({ frames := 8, cells := 2, slots := 12, locals := 132 } : Room) (tableOf [(0, 9, 12, 19), (0, 9, 15, 21)])) (hs : (g_xl X).stackTraces = false) (Y : g_Y (g_xs X)) (hn : g_xn X = 4) {m s : Nat → Int32} {lm : Nat → Int64} {pm : Nat → Nat} {x1 : Int32} (p0 : g_I m pm) (h4 : pm 4 = 1) : g_V X (fun r : g_Res => r) (g_w ["java/lang/IndexOutOfBoundsException", "java/lang/IllegalStateException"] (R_X7_send m pm x1) s lm) 0 0 m (s, lm, pm) 0 [(0, .ref (g_ad X 122)), (1, .int x1), (2, .ref (g_ad X 129))] [] := by
  have hN : ∀ i, Nat.blt i 4 = true → i < g_xn X := fun i h => by rw [hn]; exact g_blt.mp h
  have M := met_X7_send (g_xl X) hs s lm m pm x1 p0
  have hw := th_send (m := m) (pm := pm) (x1 := x1)
  refine tt_aload_n O 2 dL_send_0 rfl rfl ?_
  refine tt_iconst (x := 0) O dL_send_1 rfl ?_
  refine tt_aload_n O 0 dL_send_2 rfl rfl ?_
  refine tt_iload_n O 1 dL_send_3 rfl rfl ?_
  generalize R_X7_send m pm x1 = rr at hw M ⊢
  obtain ⟨o, m1, pm1⟩ := rr
  obtain ⟨h5, hw⟩ := hw
  rcases hw with ⟨v, hv⟩ | ⟨E, hE, hv⟩
  · have hv : o = .inl (some (.int v)) := hv
    subst hv
    have h5 : pm1 4 = 1 := h5.trans h4
    refine tt_callVi O Y [.int x1] [.int 0, .ref (g_ad X 129)] M LL_51 obj_122 rfl rfl rfl dL_send_4 rfl rfl ?_
    refine tt_i2l O dL_send_7 ?_
    refine tt_last O h5 dL_send_8 ?_
    refine tt_goto O 18 dL_send_9 (by decide) ?_
    refine tt_iconst (x := 0) O dL_send_18 rfl ?_
    exact tt_iret O dL_send_19 (Nat.le_of_ble_eq_true rfl) (Nat.le_of_ble_eq_true rfl) rfl
  · have hv : o = .inr E := hv
    subst hv
    simp only [List.mem_cons, List.not_mem_nil, or_false] at hE
    rcases hE with rfl | rfl
    · refine tt_callVx O Y [.int x1] [.int 0, .ref (g_ad X 129)] M LL_51 obj_122 rfl rfl rfl dL_send_4 rfl rfl [] ⟨0, 9, 12, 19⟩ [⟨0, 9, 15, 21⟩] rfl (fun z hz => absurd hz List.not_mem_nil) (by decide) (by decide) (gW_in (i := 787) (by decide +kernel) rfl) Y.2.1.1 (fun q9 => ?_)
      refine tt_astore_n (lc' := [(3, .ref q9), (0, .ref (g_ad X 122)), (1, .int x1), (2, .ref (g_ad X 129))]) O dL_send_12 rfl (hN 3 rfl) rfl ?_
      refine tt_iconst (x := 1) O dL_send_13 rfl ?_
      exact tt_iret O dL_send_14 (Nat.le_of_ble_eq_true rfl) (Nat.le_of_ble_eq_true rfl) (by simp [g_w, g_k])
    · refine tt_callVx O Y [.int x1] [.int 0, .ref (g_ad X 129)] M LL_51 obj_122 rfl rfl rfl dL_send_4 rfl rfl [⟨0, 9, 12, 19⟩] ⟨0, 9, 15, 21⟩ [] rfl (fun z hz => by
          simp only [List.mem_cons, List.not_mem_nil, or_false] at hz
          subst hz
          exact ⟨by decide, "java/lang/IndexOutOfBoundsException", gW_in (i := 787) (by decide +kernel) rfl, Y.2.2.1.2.1⟩) (by decide) (by decide) (gW_in (i := 788) (by decide +kernel) rfl) Y.2.1.2.2 (fun q9 => ?_)
      refine tt_astore_n (lc' := [(3, .ref q9), (0, .ref (g_ad X 122)), (1, .int x1), (2, .ref (g_ad X 129))]) O dL_send_15 rfl (hN 3 rfl) rfl ?_
      refine tt_iconst (x := 2) O dL_send_16 rfl ?_
      exact tt_iret O dL_send_17 (Nat.le_of_ble_eq_true rfl) (Nat.le_of_ble_eq_true rfl) (by simp [g_w, g_k])
theorem met_L_send (l : Launch) (hs : l.stackTraces = false) (m s : Nat → Int32) (lm : Nat → Int64) (pm : Nat → Nat) (x1 : Int32) (p0 : g_I m pm) (h4 : pm 4 = 1) : g_SW l yL_send cL_send 4 [(0, 9, 12, 19), (0, 9, 15, 21)] ({ frames := 8, cells := 2, slots := 12, locals := 132 } : Room) (fun ad => [.ref (ad 122), .int x1, .ref (ad 129)]) m (s, lm, pm) (g_w ["java/lang/IndexOutOfBoundsException", "java/lang/IllegalStateException"] (R_X7_send m pm x1) s lm) :=
  g_sw_of (by decide) (fun _ => Nat.le_of_ble_eq_true rfl) (fun X hl hn O Y => walk_L_send O (by rw [hl]; exact hs) Y hn p0 h4)
theorem th_pass {m : Nat → Int32} {pm : Nat → Nat} {x1 : Int32} : g_W7 ["java/lang/IllegalArgumentException", "java/lang/IllegalStateException"] pm (R_X7_pass m pm x1) := by
  unfold R_X7_pass
  repeat' split
  all_goals first | exact g_W7.x (by decide) | exact g_W7.r rfl | exact g_W7.r p4_save
set_option maxRecDepth 100000 in
set_option maxHeartbeats 4000000 in
theorem walk_L_pass {X : g_X} (O : g_oT X cL_pass RL (some .int) ({ frames := 9, cells := 2, slots := 12, locals := 163 } : Room) (tableOf [(0, 9, 12, 13), (0, 9, 15, 21)])) (hs : (g_xl X).stackTraces = false) (Y : g_Y (g_xs X)) (hn : g_xn X = 4) {m s : Nat → Int32} {lm : Nat → Int64} {pm : Nat → Nat} {x1 : Int32} (p0 : g_I m pm) (h4 : pm 4 = 1) : g_V X (fun r : g_Res => r) (g_w ["java/lang/IllegalArgumentException", "java/lang/IllegalStateException"] (R_X7_pass m pm x1) s lm) 0 0 m (s, lm, pm) 0 [(0, .ref (g_ad X 122)), (1, .int x1), (2, .ref (g_ad X 129))] [] := by
  have hN : ∀ i, Nat.blt i 4 = true → i < g_xn X := fun i h => by rw [hn]; exact g_blt.mp h
  have M := met_X7_pass (g_xl X) hs s lm m pm x1 p0
  have hw := th_pass (m := m) (pm := pm) (x1 := x1)
  refine tt_aload_n O 2 dL_pass_0 rfl rfl ?_
  refine tt_iconst (x := 0) O dL_pass_1 rfl ?_
  refine tt_aload_n O 0 dL_pass_2 rfl rfl ?_
  refine tt_iload_n O 1 dL_pass_3 rfl rfl ?_
  generalize R_X7_pass m pm x1 = rr at hw M ⊢
  obtain ⟨o, m1, pm1⟩ := rr
  obtain ⟨h5, hw⟩ := hw
  rcases hw with ⟨v, hv⟩ | ⟨E, hE, hv⟩
  · have hv : o = .inl (some (.int v)) := hv
    subst hv
    have h5 : pm1 4 = 1 := h5.trans h4
    refine tt_callVi O Y [.int x1] [.int 0, .ref (g_ad X 129)] M LL_54 obj_122 rfl rfl rfl dL_pass_4 rfl rfl ?_
    refine tt_i2l O dL_pass_7 ?_
    refine tt_last O h5 dL_pass_8 ?_
    refine tt_goto O 18 dL_pass_9 (by decide) ?_
    refine tt_iconst (x := 0) O dL_pass_18 rfl ?_
    exact tt_iret O dL_pass_19 (Nat.le_of_ble_eq_true rfl) (Nat.le_of_ble_eq_true rfl) rfl
  · have hv : o = .inr E := hv
    subst hv
    simp only [List.mem_cons, List.not_mem_nil, or_false] at hE
    rcases hE with rfl | rfl
    · refine tt_callVx O Y [.int x1] [.int 0, .ref (g_ad X 129)] M LL_54 obj_122 rfl rfl rfl dL_pass_4 rfl rfl [] ⟨0, 9, 12, 13⟩ [⟨0, 9, 15, 21⟩] rfl (fun z hz => absurd hz List.not_mem_nil) (by decide) (by decide) (gW_in (i := 697) (by decide +kernel) rfl) Y.2.1.2.1 (fun q9 => ?_)
      refine tt_astore_n (lc' := [(3, .ref q9), (0, .ref (g_ad X 122)), (1, .int x1), (2, .ref (g_ad X 129))]) O dL_pass_12 rfl (hN 3 rfl) rfl ?_
      refine tt_iconst (x := 1) O dL_pass_13 rfl ?_
      exact tt_iret O dL_pass_14 (Nat.le_of_ble_eq_true rfl) (Nat.le_of_ble_eq_true rfl) (by simp [g_w, g_k])
    · refine tt_callVx O Y [.int x1] [.int 0, .ref (g_ad X 129)] M LL_54 obj_122 rfl rfl rfl dL_pass_4 rfl rfl [⟨0, 9, 12, 13⟩] ⟨0, 9, 15, 21⟩ [] rfl (fun z hz => by
          simp only [List.mem_cons, List.not_mem_nil, or_false] at hz
          subst hz
          exact ⟨by decide, "java/lang/IllegalArgumentException", gW_in (i := 697) (by decide +kernel) rfl, Y.2.2.1.2.2⟩) (by decide) (by decide) (gW_in (i := 788) (by decide +kernel) rfl) Y.2.1.2.2 (fun q9 => ?_)
      refine tt_astore_n (lc' := [(3, .ref q9), (0, .ref (g_ad X 122)), (1, .int x1), (2, .ref (g_ad X 129))]) O dL_pass_15 rfl (hN 3 rfl) rfl ?_
      refine tt_iconst (x := 2) O dL_pass_16 rfl ?_
      exact tt_iret O dL_pass_17 (Nat.le_of_ble_eq_true rfl) (Nat.le_of_ble_eq_true rfl) (by simp [g_w, g_k])
theorem met_L_pass (l : Launch) (hs : l.stackTraces = false) (m s : Nat → Int32) (lm : Nat → Int64) (pm : Nat → Nat) (x1 : Int32) (p0 : g_I m pm) (h4 : pm 4 = 1) : g_SW l yL_pass cL_pass 4 [(0, 9, 12, 13), (0, 9, 15, 21)] ({ frames := 9, cells := 2, slots := 12, locals := 163 } : Room) (fun ad => [.ref (ad 122), .int x1, .ref (ad 129)]) m (s, lm, pm) (g_w ["java/lang/IllegalArgumentException", "java/lang/IllegalStateException"] (R_X7_pass m pm x1) s lm) :=
  g_sw_of (by decide) (fun _ => Nat.le_of_ble_eq_true rfl) (fun X hl hn O Y => walk_L_pass O (by rw [hl]; exact hs) Y hn p0 h4)
theorem th_passage {m : Nat → Int32} {pm : Nat → Nat} {x1 : Int32} {x2 : Int32} : g_W7 ["java/lang/IndexOutOfBoundsException", "java/lang/IllegalArgumentException"] pm (R_X7_passage m pm x1 x2) := by
  unfold R_X7_passage
  repeat' split
  all_goals first | exact g_W7.x (by decide) | exact g_W7.r rfl | exact g_W7.r p4_save
set_option maxRecDepth 100000 in
set_option maxHeartbeats 4000000 in
theorem walk_L_passage {X : g_X} (O : g_oT X cL_passage RL (some .int) ({ frames := 9, cells := 2, slots := 12, locals := 164 } : Room) (tableOf [(0, 10, 13, 19), (0, 10, 17, 13)])) (hs : (g_xl X).stackTraces = false) (Y : g_Y (g_xs X)) (hn : g_xn X = 5) {m s : Nat → Int32} {lm : Nat → Int64} {pm : Nat → Nat} {x1 : Int32} {x2 : Int32} (p0 : g_I m pm) (h4 : pm 4 = 1) : g_V X (fun r : g_Res => r) (g_w ["java/lang/IndexOutOfBoundsException", "java/lang/IllegalArgumentException"] (R_X7_passage m pm x1 x2) s lm) 0 0 m (s, lm, pm) 0 [(0, .ref (g_ad X 122)), (1, .int x1), (2, .int x2), (3, .ref (g_ad X 129))] [] := by
  have hN : ∀ i, Nat.blt i 5 = true → i < g_xn X := fun i h => by rw [hn]; exact g_blt.mp h
  have M := met_X7_passage (g_xl X) hs s lm m pm x1 x2 p0
  have hw := th_passage (m := m) (pm := pm) (x1 := x1) (x2 := x2)
  refine tt_aload_n O 3 dL_passage_0 rfl rfl ?_
  refine tt_iconst (x := 0) O dL_passage_1 rfl ?_
  refine tt_aload_n O 0 dL_passage_2 rfl rfl ?_
  refine tt_iload_n O 1 dL_passage_3 rfl rfl ?_
  refine tt_iload_n O 2 dL_passage_4 rfl rfl ?_
  generalize R_X7_passage m pm x1 x2 = rr at hw M ⊢
  obtain ⟨o, m1, pm1⟩ := rr
  obtain ⟨h5, hw⟩ := hw
  rcases hw with ⟨v, hv⟩ | ⟨E, hE, hv⟩
  · have hv : o = .inl (some (.int v)) := hv
    subst hv
    have h5 : pm1 4 = 1 := h5.trans h4
    refine tt_callVi O Y [.int x1, .int x2] [.int 0, .ref (g_ad X 129)] M LL_57 obj_122 rfl rfl rfl dL_passage_5 rfl rfl ?_
    refine tt_i2l O dL_passage_8 ?_
    refine tt_last O h5 dL_passage_9 ?_
    refine tt_goto O 21 dL_passage_10 (by decide) ?_
    refine tt_iconst (x := 0) O dL_passage_21 rfl ?_
    exact tt_iret O dL_passage_22 (Nat.le_of_ble_eq_true rfl) (Nat.le_of_ble_eq_true rfl) rfl
  · have hv : o = .inr E := hv
    subst hv
    simp only [List.mem_cons, List.not_mem_nil, or_false] at hE
    rcases hE with rfl | rfl
    · refine tt_callVx O Y [.int x1, .int x2] [.int 0, .ref (g_ad X 129)] M LL_57 obj_122 rfl rfl rfl dL_passage_5 rfl rfl [] ⟨0, 10, 13, 19⟩ [⟨0, 10, 17, 13⟩] rfl (fun z hz => absurd hz List.not_mem_nil) (by decide) (by decide) (gW_in (i := 787) (by decide +kernel) rfl) Y.2.1.1 (fun q9 => ?_)
      refine tt_astore (lc' := [(4, .ref q9), (0, .ref (g_ad X 122)), (1, .int x1), (2, .int x2), (3, .ref (g_ad X 129))]) O dL_passage_13 (hN 4 rfl) rfl ?_
      refine tt_iconst (x := 1) O dL_passage_15 rfl ?_
      exact tt_iret O dL_passage_16 (Nat.le_of_ble_eq_true rfl) (Nat.le_of_ble_eq_true rfl) (by simp [g_w, g_k])
    · refine tt_callVx O Y [.int x1, .int x2] [.int 0, .ref (g_ad X 129)] M LL_57 obj_122 rfl rfl rfl dL_passage_5 rfl rfl [⟨0, 10, 13, 19⟩] ⟨0, 10, 17, 13⟩ [] rfl (fun z hz => by
          simp only [List.mem_cons, List.not_mem_nil, or_false] at hz
          subst hz
          exact ⟨by decide, "java/lang/IndexOutOfBoundsException", gW_in (i := 787) (by decide +kernel) rfl, Y.2.2.1.1⟩) (by decide) (by decide) (gW_in (i := 697) (by decide +kernel) rfl) Y.2.1.2.1 (fun q9 => ?_)
      refine tt_astore (lc' := [(4, .ref q9), (0, .ref (g_ad X 122)), (1, .int x1), (2, .int x2), (3, .ref (g_ad X 129))]) O dL_passage_17 (hN 4 rfl) rfl ?_
      refine tt_iconst (x := 2) O dL_passage_19 rfl ?_
      exact tt_iret O dL_passage_20 (Nat.le_of_ble_eq_true rfl) (Nat.le_of_ble_eq_true rfl) (by simp [g_w, g_k])
theorem met_L_passage (l : Launch) (hs : l.stackTraces = false) (m s : Nat → Int32) (lm : Nat → Int64) (pm : Nat → Nat) (x1 : Int32) (x2 : Int32) (p0 : g_I m pm) (h4 : pm 4 = 1) : g_SW l yL_passage cL_passage 5 [(0, 10, 13, 19), (0, 10, 17, 13)] ({ frames := 9, cells := 2, slots := 12, locals := 164 } : Room) (fun ad => [.ref (ad 122), .int x1, .int x2, .ref (ad 129)]) m (s, lm, pm) (g_w ["java/lang/IndexOutOfBoundsException", "java/lang/IllegalArgumentException"] (R_X7_passage m pm x1 x2) s lm) :=
  g_sw_of (by decide) (fun _ => Nat.le_of_ble_eq_true rfl) (fun X hl hn O Y => walk_L_passage O (by rw [hl]; exact hs) Y hn p0 h4)
theorem th_rope {m : Nat → Int32} {pm : Nat → Nat} {x1 : Int32} {x2 : Int32} : g_W7 ["java/lang/IndexOutOfBoundsException", "java/lang/IllegalArgumentException"] pm (R_X7_rope m pm x1 x2) := by
  unfold R_X7_rope
  repeat' split
  all_goals first | exact g_W7.x (by decide) | exact g_W7.r rfl | exact g_W7.r p4_save
set_option maxRecDepth 100000 in
set_option maxHeartbeats 4000000 in
theorem walk_L_rope {X : g_X} (O : g_oT X cL_rope RL (some .int) ({ frames := 9, cells := 2, slots := 12, locals := 164 } : Room) (tableOf [(0, 10, 13, 19), (0, 10, 17, 13)])) (hs : (g_xl X).stackTraces = false) (Y : g_Y (g_xs X)) (hn : g_xn X = 5) {m s : Nat → Int32} {lm : Nat → Int64} {pm : Nat → Nat} {x1 : Int32} {x2 : Int32} (p0 : g_I m pm) (h4 : pm 4 = 1) : g_V X (fun r : g_Res => r) (g_w ["java/lang/IndexOutOfBoundsException", "java/lang/IllegalArgumentException"] (R_X7_rope m pm x1 x2) s lm) 0 0 m (s, lm, pm) 0 [(0, .ref (g_ad X 122)), (1, .int x1), (2, .int x2), (3, .ref (g_ad X 129))] [] := by
  have hN : ∀ i, Nat.blt i 5 = true → i < g_xn X := fun i h => by rw [hn]; exact g_blt.mp h
  have M := met_X7_rope (g_xl X) hs s lm m pm x1 x2 p0
  have hw := th_rope (m := m) (pm := pm) (x1 := x1) (x2 := x2)
  refine tt_aload_n O 3 dL_rope_0 rfl rfl ?_
  refine tt_iconst (x := 0) O dL_rope_1 rfl ?_
  refine tt_aload_n O 0 dL_rope_2 rfl rfl ?_
  refine tt_iload_n O 1 dL_rope_3 rfl rfl ?_
  refine tt_iload_n O 2 dL_rope_4 rfl rfl ?_
  generalize R_X7_rope m pm x1 x2 = rr at hw M ⊢
  obtain ⟨o, m1, pm1⟩ := rr
  obtain ⟨h5, hw⟩ := hw
  rcases hw with ⟨v, hv⟩ | ⟨E, hE, hv⟩
  · have hv : o = .inl (some (.int v)) := hv
    subst hv
    have h5 : pm1 4 = 1 := h5.trans h4
    refine tt_callVi O Y [.int x1, .int x2] [.int 0, .ref (g_ad X 129)] M LL_60 obj_122 rfl rfl rfl dL_rope_5 rfl rfl ?_
    refine tt_i2l O dL_rope_8 ?_
    refine tt_last O h5 dL_rope_9 ?_
    refine tt_goto O 21 dL_rope_10 (by decide) ?_
    refine tt_iconst (x := 0) O dL_rope_21 rfl ?_
    exact tt_iret O dL_rope_22 (Nat.le_of_ble_eq_true rfl) (Nat.le_of_ble_eq_true rfl) rfl
  · have hv : o = .inr E := hv
    subst hv
    simp only [List.mem_cons, List.not_mem_nil, or_false] at hE
    rcases hE with rfl | rfl
    · refine tt_callVx O Y [.int x1, .int x2] [.int 0, .ref (g_ad X 129)] M LL_60 obj_122 rfl rfl rfl dL_rope_5 rfl rfl [] ⟨0, 10, 13, 19⟩ [⟨0, 10, 17, 13⟩] rfl (fun z hz => absurd hz List.not_mem_nil) (by decide) (by decide) (gW_in (i := 787) (by decide +kernel) rfl) Y.2.1.1 (fun q9 => ?_)
      refine tt_astore (lc' := [(4, .ref q9), (0, .ref (g_ad X 122)), (1, .int x1), (2, .int x2), (3, .ref (g_ad X 129))]) O dL_rope_13 (hN 4 rfl) rfl ?_
      refine tt_iconst (x := 1) O dL_rope_15 rfl ?_
      exact tt_iret O dL_rope_16 (Nat.le_of_ble_eq_true rfl) (Nat.le_of_ble_eq_true rfl) (by simp [g_w, g_k])
    · refine tt_callVx O Y [.int x1, .int x2] [.int 0, .ref (g_ad X 129)] M LL_60 obj_122 rfl rfl rfl dL_rope_5 rfl rfl [⟨0, 10, 13, 19⟩] ⟨0, 10, 17, 13⟩ [] rfl (fun z hz => by
          simp only [List.mem_cons, List.not_mem_nil, or_false] at hz
          subst hz
          exact ⟨by decide, "java/lang/IndexOutOfBoundsException", gW_in (i := 787) (by decide +kernel) rfl, Y.2.2.1.1⟩) (by decide) (by decide) (gW_in (i := 697) (by decide +kernel) rfl) Y.2.1.2.1 (fun q9 => ?_)
      refine tt_astore (lc' := [(4, .ref q9), (0, .ref (g_ad X 122)), (1, .int x1), (2, .int x2), (3, .ref (g_ad X 129))]) O dL_rope_17 (hN 4 rfl) rfl ?_
      refine tt_iconst (x := 2) O dL_rope_19 rfl ?_
      exact tt_iret O dL_rope_20 (Nat.le_of_ble_eq_true rfl) (Nat.le_of_ble_eq_true rfl) (by simp [g_w, g_k])
theorem met_L_rope (l : Launch) (hs : l.stackTraces = false) (m s : Nat → Int32) (lm : Nat → Int64) (pm : Nat → Nat) (x1 : Int32) (x2 : Int32) (p0 : g_I m pm) (h4 : pm 4 = 1) : g_SW l yL_rope cL_rope 5 [(0, 10, 13, 19), (0, 10, 17, 13)] ({ frames := 9, cells := 2, slots := 12, locals := 164 } : Room) (fun ad => [.ref (ad 122), .int x1, .int x2, .ref (ad 129)]) m (s, lm, pm) (g_w ["java/lang/IndexOutOfBoundsException", "java/lang/IllegalArgumentException"] (R_X7_rope m pm x1 x2) s lm) :=
  g_sw_of (by decide) (fun _ => Nat.le_of_ble_eq_true rfl) (fun X hl hn O Y => walk_L_rope O (by rw [hl]; exact hs) Y hn p0 h4)
theorem th_helper {m : Nat → Int32} {pm : Nat → Nat} {x1 : Int32} {x2 : Int32} : g_W7 ["java/lang/IndexOutOfBoundsException", "java/lang/IllegalArgumentException"] pm (R_X7_helper m pm x1 x2) := by
  unfold R_X7_helper
  repeat' split
  all_goals first | exact g_W7.x (by decide) | exact g_W7.r rfl | exact g_W7.r p4_save
set_option maxRecDepth 100000 in
set_option maxHeartbeats 4000000 in
theorem walk_L_helper {X : g_X} (O : g_oT X cL_helper RL (some .int) ({ frames := 9, cells := 2, slots := 12, locals := 164 } : Room) (tableOf [(0, 10, 13, 19), (0, 10, 17, 13)])) (hs : (g_xl X).stackTraces = false) (Y : g_Y (g_xs X)) (hn : g_xn X = 5) {m s : Nat → Int32} {lm : Nat → Int64} {pm : Nat → Nat} {x1 : Int32} {x2 : Int32} (p0 : g_I m pm) (h4 : pm 4 = 1) : g_V X (fun r : g_Res => r) (g_w ["java/lang/IndexOutOfBoundsException", "java/lang/IllegalArgumentException"] (R_X7_helper m pm x1 x2) s lm) 0 0 m (s, lm, pm) 0 [(0, .ref (g_ad X 122)), (1, .int x1), (2, .int x2), (3, .ref (g_ad X 129))] [] := by
  have hN : ∀ i, Nat.blt i 5 = true → i < g_xn X := fun i h => by rw [hn]; exact g_blt.mp h
  have M := met_X7_helper (g_xl X) hs s lm m pm x1 x2 p0
  have hw := th_helper (m := m) (pm := pm) (x1 := x1) (x2 := x2)
  refine tt_aload_n O 3 dL_helper_0 rfl rfl ?_
  refine tt_iconst (x := 0) O dL_helper_1 rfl ?_
  refine tt_aload_n O 0 dL_helper_2 rfl rfl ?_
  refine tt_iload_n O 1 dL_helper_3 rfl rfl ?_
  refine tt_iload_n O 2 dL_helper_4 rfl rfl ?_
  generalize R_X7_helper m pm x1 x2 = rr at hw M ⊢
  obtain ⟨o, m1, pm1⟩ := rr
  obtain ⟨h5, hw⟩ := hw
  rcases hw with ⟨v, hv⟩ | ⟨E, hE, hv⟩
  · have hv : o = .inl (some (.int v)) := hv
    subst hv
    have h5 : pm1 4 = 1 := h5.trans h4
    refine tt_callVi O Y [.int x1, .int x2] [.int 0, .ref (g_ad X 129)] M LL_63 obj_122 rfl rfl rfl dL_helper_5 rfl rfl ?_
    refine tt_i2l O dL_helper_8 ?_
    refine tt_last O h5 dL_helper_9 ?_
    refine tt_goto O 21 dL_helper_10 (by decide) ?_
    refine tt_iconst (x := 0) O dL_helper_21 rfl ?_
    exact tt_iret O dL_helper_22 (Nat.le_of_ble_eq_true rfl) (Nat.le_of_ble_eq_true rfl) rfl
  · have hv : o = .inr E := hv
    subst hv
    simp only [List.mem_cons, List.not_mem_nil, or_false] at hE
    rcases hE with rfl | rfl
    · refine tt_callVx O Y [.int x1, .int x2] [.int 0, .ref (g_ad X 129)] M LL_63 obj_122 rfl rfl rfl dL_helper_5 rfl rfl [] ⟨0, 10, 13, 19⟩ [⟨0, 10, 17, 13⟩] rfl (fun z hz => absurd hz List.not_mem_nil) (by decide) (by decide) (gW_in (i := 787) (by decide +kernel) rfl) Y.2.1.1 (fun q9 => ?_)
      refine tt_astore (lc' := [(4, .ref q9), (0, .ref (g_ad X 122)), (1, .int x1), (2, .int x2), (3, .ref (g_ad X 129))]) O dL_helper_13 (hN 4 rfl) rfl ?_
      refine tt_iconst (x := 1) O dL_helper_15 rfl ?_
      exact tt_iret O dL_helper_16 (Nat.le_of_ble_eq_true rfl) (Nat.le_of_ble_eq_true rfl) (by simp [g_w, g_k])
    · refine tt_callVx O Y [.int x1, .int x2] [.int 0, .ref (g_ad X 129)] M LL_63 obj_122 rfl rfl rfl dL_helper_5 rfl rfl [⟨0, 10, 13, 19⟩] ⟨0, 10, 17, 13⟩ [] rfl (fun z hz => by
          simp only [List.mem_cons, List.not_mem_nil, or_false] at hz
          subst hz
          exact ⟨by decide, "java/lang/IndexOutOfBoundsException", gW_in (i := 787) (by decide +kernel) rfl, Y.2.2.1.1⟩) (by decide) (by decide) (gW_in (i := 697) (by decide +kernel) rfl) Y.2.1.2.1 (fun q9 => ?_)
      refine tt_astore (lc' := [(4, .ref q9), (0, .ref (g_ad X 122)), (1, .int x1), (2, .int x2), (3, .ref (g_ad X 129))]) O dL_helper_17 (hN 4 rfl) rfl ?_
      refine tt_iconst (x := 2) O dL_helper_19 rfl ?_
      exact tt_iret O dL_helper_20 (Nat.le_of_ble_eq_true rfl) (Nat.le_of_ble_eq_true rfl) (by simp [g_w, g_k])
theorem met_L_helper (l : Launch) (hs : l.stackTraces = false) (m s : Nat → Int32) (lm : Nat → Int64) (pm : Nat → Nat) (x1 : Int32) (x2 : Int32) (p0 : g_I m pm) (h4 : pm 4 = 1) : g_SW l yL_helper cL_helper 5 [(0, 10, 13, 19), (0, 10, 17, 13)] ({ frames := 9, cells := 2, slots := 12, locals := 164 } : Room) (fun ad => [.ref (ad 122), .int x1, .int x2, .ref (ad 129)]) m (s, lm, pm) (g_w ["java/lang/IndexOutOfBoundsException", "java/lang/IllegalArgumentException"] (R_X7_helper m pm x1 x2) s lm) :=
  g_sw_of (by decide) (fun _ => Nat.le_of_ble_eq_true rfl) (fun X hl hn O Y => walk_L_helper O (by rw [hl]; exact hs) Y hn p0 h4)
theorem th_value {m : Nat → Int32} {pm : Nat → Nat} {x1 : Int32} : g_W7 ["java/lang/IllegalArgumentException"] pm (R_X7_value m pm x1) := by
  unfold R_X7_value
  repeat' split
  all_goals first | exact g_W7.x (by decide) | exact g_W7.r rfl | exact g_W7.r p4_save
set_option maxRecDepth 100000 in
set_option maxHeartbeats 4000000 in
theorem walk_L_value {X : g_X} (O : g_oT X cL_value RL (some .int) ({ frames := 9, cells := 1, slots := 6, locals := 163 } : Room) (tableOf [(0, 9, 12, 13)])) (hs : (g_xl X).stackTraces = false) (Y : g_Y (g_xs X)) (hn : g_xn X = 4) {m s : Nat → Int32} {lm : Nat → Int64} {pm : Nat → Nat} {x1 : Int32} (p0 : g_I m pm) (h4 : pm 4 = 1) : g_V X (fun r : g_Res => r) (g_w ["java/lang/IllegalArgumentException"] (R_X7_value m pm x1) s lm) 0 0 m (s, lm, pm) 0 [(0, .ref (g_ad X 122)), (1, .int x1), (2, .ref (g_ad X 129))] [] := by
  have hN : ∀ i, Nat.blt i 4 = true → i < g_xn X := fun i h => by rw [hn]; exact g_blt.mp h
  have M := met_X7_value (g_xl X) hs s lm m pm x1 p0
  have hw := th_value (m := m) (pm := pm) (x1 := x1)
  refine tt_aload_n O 2 dL_value_0 rfl rfl ?_
  refine tt_iconst (x := 0) O dL_value_1 rfl ?_
  refine tt_aload_n O 0 dL_value_2 rfl rfl ?_
  refine tt_iload_n O 1 dL_value_3 rfl rfl ?_
  generalize R_X7_value m pm x1 = rr at hw M ⊢
  obtain ⟨o, m1, pm1⟩ := rr
  obtain ⟨h5, hw⟩ := hw
  rcases hw with ⟨v, hv⟩ | ⟨E, hE, hv⟩
  · have hv : o = .inl (some (.int v)) := hv
    subst hv
    have h5 : pm1 4 = 1 := h5.trans h4
    refine tt_callVi O Y [.int x1] [.int 0, .ref (g_ad X 129)] M LL_66 obj_122 rfl rfl rfl dL_value_4 rfl rfl ?_
    refine tt_i2l O dL_value_7 ?_
    refine tt_last O h5 dL_value_8 ?_
    refine tt_goto O 15 dL_value_9 (by decide) ?_
    refine tt_iconst (x := 0) O dL_value_15 rfl ?_
    exact tt_iret O dL_value_16 (Nat.le_of_ble_eq_true rfl) (Nat.le_of_ble_eq_true rfl) rfl
  · have hv : o = .inr E := hv
    subst hv
    simp only [List.mem_cons, List.not_mem_nil, or_false] at hE
    subst hE
    refine tt_callVx O Y [.int x1] [.int 0, .ref (g_ad X 129)] M LL_66 obj_122 rfl rfl rfl dL_value_4 rfl rfl [] ⟨0, 9, 12, 13⟩ [] rfl (fun z hz => absurd hz List.not_mem_nil) (by decide) (by decide) (gW_in (i := 697) (by decide +kernel) rfl) Y.2.1.2.1 (fun q9 => ?_)
    refine tt_astore_n (lc' := [(3, .ref q9), (0, .ref (g_ad X 122)), (1, .int x1), (2, .ref (g_ad X 129))]) O dL_value_12 rfl (hN 3 rfl) rfl ?_
    refine tt_iconst (x := 1) O dL_value_13 rfl ?_
    exact tt_iret O dL_value_14 (Nat.le_of_ble_eq_true rfl) (Nat.le_of_ble_eq_true rfl) (by simp [g_w, g_k])
theorem met_L_value (l : Launch) (hs : l.stackTraces = false) (m s : Nat → Int32) (lm : Nat → Int64) (pm : Nat → Nat) (x1 : Int32) (p0 : g_I m pm) (h4 : pm 4 = 1) : g_SW l yL_value cL_value 4 [(0, 9, 12, 13)] ({ frames := 9, cells := 1, slots := 6, locals := 163 } : Room) (fun ad => [.ref (ad 122), .int x1, .ref (ad 129)]) m (s, lm, pm) (g_w ["java/lang/IllegalArgumentException"] (R_X7_value m pm x1) s lm) :=
  g_sw_of (by decide) (fun _ => Nat.le_of_ble_eq_true rfl) (fun X hl hn O Y => walk_L_value O (by rw [hl]; exact hs) Y hn p0 h4)
theorem th_message {m : Nat → Int32} {pm : Nat → Nat} {x1 : Int32} {x2 : Int32} : g_W7 ["java/lang/IndexOutOfBoundsException", "java/lang/IllegalArgumentException"] pm (R_X7_message m pm x1 x2) := by
  unfold R_X7_message
  repeat' split
  all_goals first | exact g_W7.x (by decide) | exact g_W7.r rfl | exact g_W7.r p4_save
set_option maxRecDepth 100000 in
set_option maxHeartbeats 4000000 in
theorem walk_L_message {X : g_X} (O : g_oT X cL_message RL (some .int) ({ frames := 9, cells := 2, slots := 12, locals := 164 } : Room) (tableOf [(0, 10, 13, 19), (0, 10, 17, 13)])) (hs : (g_xl X).stackTraces = false) (Y : g_Y (g_xs X)) (hn : g_xn X = 5) {m s : Nat → Int32} {lm : Nat → Int64} {pm : Nat → Nat} {x1 : Int32} {x2 : Int32} (p0 : g_I m pm) (h4 : pm 4 = 1) : g_V X (fun r : g_Res => r) (g_w ["java/lang/IndexOutOfBoundsException", "java/lang/IllegalArgumentException"] (R_X7_message m pm x1 x2) s lm) 0 0 m (s, lm, pm) 0 [(0, .ref (g_ad X 122)), (1, .int x1), (2, .int x2), (3, .ref (g_ad X 129))] [] := by
  have hN : ∀ i, Nat.blt i 5 = true → i < g_xn X := fun i h => by rw [hn]; exact g_blt.mp h
  have M := met_X7_message (g_xl X) hs s lm m pm x1 x2 p0
  have hw := th_message (m := m) (pm := pm) (x1 := x1) (x2 := x2)
  refine tt_aload_n O 3 dL_message_0 rfl rfl ?_
  refine tt_iconst (x := 0) O dL_message_1 rfl ?_
  refine tt_aload_n O 0 dL_message_2 rfl rfl ?_
  refine tt_iload_n O 1 dL_message_3 rfl rfl ?_
  refine tt_iload_n O 2 dL_message_4 rfl rfl ?_
  generalize R_X7_message m pm x1 x2 = rr at hw M ⊢
  obtain ⟨o, m1, pm1⟩ := rr
  obtain ⟨h5, hw⟩ := hw
  rcases hw with ⟨v, hv⟩ | ⟨E, hE, hv⟩
  · have hv : o = .inl (some (.int v)) := hv
    subst hv
    have h5 : pm1 4 = 1 := h5.trans h4
    refine tt_callVi O Y [.int x1, .int x2] [.int 0, .ref (g_ad X 129)] M LL_69 obj_122 rfl rfl rfl dL_message_5 rfl rfl ?_
    refine tt_i2l O dL_message_8 ?_
    refine tt_last O h5 dL_message_9 ?_
    refine tt_goto O 21 dL_message_10 (by decide) ?_
    refine tt_iconst (x := 0) O dL_message_21 rfl ?_
    exact tt_iret O dL_message_22 (Nat.le_of_ble_eq_true rfl) (Nat.le_of_ble_eq_true rfl) rfl
  · have hv : o = .inr E := hv
    subst hv
    simp only [List.mem_cons, List.not_mem_nil, or_false] at hE
    rcases hE with rfl | rfl
    · refine tt_callVx O Y [.int x1, .int x2] [.int 0, .ref (g_ad X 129)] M LL_69 obj_122 rfl rfl rfl dL_message_5 rfl rfl [] ⟨0, 10, 13, 19⟩ [⟨0, 10, 17, 13⟩] rfl (fun z hz => absurd hz List.not_mem_nil) (by decide) (by decide) (gW_in (i := 787) (by decide +kernel) rfl) Y.2.1.1 (fun q9 => ?_)
      refine tt_astore (lc' := [(4, .ref q9), (0, .ref (g_ad X 122)), (1, .int x1), (2, .int x2), (3, .ref (g_ad X 129))]) O dL_message_13 (hN 4 rfl) rfl ?_
      refine tt_iconst (x := 1) O dL_message_15 rfl ?_
      exact tt_iret O dL_message_16 (Nat.le_of_ble_eq_true rfl) (Nat.le_of_ble_eq_true rfl) (by simp [g_w, g_k])
    · refine tt_callVx O Y [.int x1, .int x2] [.int 0, .ref (g_ad X 129)] M LL_69 obj_122 rfl rfl rfl dL_message_5 rfl rfl [⟨0, 10, 13, 19⟩] ⟨0, 10, 17, 13⟩ [] rfl (fun z hz => by
          simp only [List.mem_cons, List.not_mem_nil, or_false] at hz
          subst hz
          exact ⟨by decide, "java/lang/IndexOutOfBoundsException", gW_in (i := 787) (by decide +kernel) rfl, Y.2.2.1.1⟩) (by decide) (by decide) (gW_in (i := 697) (by decide +kernel) rfl) Y.2.1.2.1 (fun q9 => ?_)
      refine tt_astore (lc' := [(4, .ref q9), (0, .ref (g_ad X 122)), (1, .int x1), (2, .int x2), (3, .ref (g_ad X 129))]) O dL_message_17 (hN 4 rfl) rfl ?_
      refine tt_iconst (x := 2) O dL_message_19 rfl ?_
      exact tt_iret O dL_message_20 (Nat.le_of_ble_eq_true rfl) (Nat.le_of_ble_eq_true rfl) (by simp [g_w, g_k])
theorem met_L_message (l : Launch) (hs : l.stackTraces = false) (m s : Nat → Int32) (lm : Nat → Int64) (pm : Nat → Nat) (x1 : Int32) (x2 : Int32) (p0 : g_I m pm) (h4 : pm 4 = 1) : g_SW l yL_message cL_message 5 [(0, 10, 13, 19), (0, 10, 17, 13)] ({ frames := 9, cells := 2, slots := 12, locals := 164 } : Room) (fun ad => [.ref (ad 122), .int x1, .int x2, .ref (ad 129)]) m (s, lm, pm) (g_w ["java/lang/IndexOutOfBoundsException", "java/lang/IllegalArgumentException"] (R_X7_message m pm x1 x2) s lm) :=
  g_sw_of (by decide) (fun _ => Nat.le_of_ble_eq_true rfl) (fun X hl hn O Y => walk_L_message O (by rw [hl]; exact hs) Y hn p0 h4)
theorem th_carried {m : Nat → Int32} {pm : Nat → Nat} {x1 : Int32} {x2 : Int32} : g_W7 ["java/lang/IndexOutOfBoundsException", "java/lang/IllegalArgumentException"] pm (R_X7_carried m pm x1 x2) := by
  unfold R_X7_carried
  repeat' split
  all_goals first | exact g_W7.x (by decide) | exact g_W7.r rfl | exact g_W7.r p4_save
set_option maxRecDepth 100000 in
set_option maxHeartbeats 4000000 in
theorem walk_L_carried {X : g_X} (O : g_oT X cL_carried RL (some .int) ({ frames := 9, cells := 2, slots := 12, locals := 164 } : Room) (tableOf [(0, 10, 13, 19), (0, 10, 17, 13)])) (hs : (g_xl X).stackTraces = false) (Y : g_Y (g_xs X)) (hn : g_xn X = 5) {m s : Nat → Int32} {lm : Nat → Int64} {pm : Nat → Nat} {x1 : Int32} {x2 : Int32} (p0 : g_I m pm) (h4 : pm 4 = 1) : g_V X (fun r : g_Res => r) (g_w ["java/lang/IndexOutOfBoundsException", "java/lang/IllegalArgumentException"] (R_X7_carried m pm x1 x2) s lm) 0 0 m (s, lm, pm) 0 [(0, .ref (g_ad X 122)), (1, .int x1), (2, .int x2), (3, .ref (g_ad X 129))] [] := by
  have hN : ∀ i, Nat.blt i 5 = true → i < g_xn X := fun i h => by rw [hn]; exact g_blt.mp h
  have M := met_X7_carried (g_xl X) hs s lm m pm x1 x2 p0
  have hw := th_carried (m := m) (pm := pm) (x1 := x1) (x2 := x2)
  refine tt_aload_n O 3 dL_carried_0 rfl rfl ?_
  refine tt_iconst (x := 0) O dL_carried_1 rfl ?_
  refine tt_aload_n O 0 dL_carried_2 rfl rfl ?_
  refine tt_iload_n O 1 dL_carried_3 rfl rfl ?_
  refine tt_iload_n O 2 dL_carried_4 rfl rfl ?_
  generalize R_X7_carried m pm x1 x2 = rr at hw M ⊢
  obtain ⟨o, m1, pm1⟩ := rr
  obtain ⟨h5, hw⟩ := hw
  rcases hw with ⟨v, hv⟩ | ⟨E, hE, hv⟩
  · have hv : o = .inl (some (.int v)) := hv
    subst hv
    have h5 : pm1 4 = 1 := h5.trans h4
    refine tt_callVi O Y [.int x1, .int x2] [.int 0, .ref (g_ad X 129)] M LL_72 obj_122 rfl rfl rfl dL_carried_5 rfl rfl ?_
    refine tt_i2l O dL_carried_8 ?_
    refine tt_last O h5 dL_carried_9 ?_
    refine tt_goto O 21 dL_carried_10 (by decide) ?_
    refine tt_iconst (x := 0) O dL_carried_21 rfl ?_
    exact tt_iret O dL_carried_22 (Nat.le_of_ble_eq_true rfl) (Nat.le_of_ble_eq_true rfl) rfl
  · have hv : o = .inr E := hv
    subst hv
    simp only [List.mem_cons, List.not_mem_nil, or_false] at hE
    rcases hE with rfl | rfl
    · refine tt_callVx O Y [.int x1, .int x2] [.int 0, .ref (g_ad X 129)] M LL_72 obj_122 rfl rfl rfl dL_carried_5 rfl rfl [] ⟨0, 10, 13, 19⟩ [⟨0, 10, 17, 13⟩] rfl (fun z hz => absurd hz List.not_mem_nil) (by decide) (by decide) (gW_in (i := 787) (by decide +kernel) rfl) Y.2.1.1 (fun q9 => ?_)
      refine tt_astore (lc' := [(4, .ref q9), (0, .ref (g_ad X 122)), (1, .int x1), (2, .int x2), (3, .ref (g_ad X 129))]) O dL_carried_13 (hN 4 rfl) rfl ?_
      refine tt_iconst (x := 1) O dL_carried_15 rfl ?_
      exact tt_iret O dL_carried_16 (Nat.le_of_ble_eq_true rfl) (Nat.le_of_ble_eq_true rfl) (by simp [g_w, g_k])
    · refine tt_callVx O Y [.int x1, .int x2] [.int 0, .ref (g_ad X 129)] M LL_72 obj_122 rfl rfl rfl dL_carried_5 rfl rfl [⟨0, 10, 13, 19⟩] ⟨0, 10, 17, 13⟩ [] rfl (fun z hz => by
          simp only [List.mem_cons, List.not_mem_nil, or_false] at hz
          subst hz
          exact ⟨by decide, "java/lang/IndexOutOfBoundsException", gW_in (i := 787) (by decide +kernel) rfl, Y.2.2.1.1⟩) (by decide) (by decide) (gW_in (i := 697) (by decide +kernel) rfl) Y.2.1.2.1 (fun q9 => ?_)
      refine tt_astore (lc' := [(4, .ref q9), (0, .ref (g_ad X 122)), (1, .int x1), (2, .int x2), (3, .ref (g_ad X 129))]) O dL_carried_17 (hN 4 rfl) rfl ?_
      refine tt_iconst (x := 2) O dL_carried_19 rfl ?_
      exact tt_iret O dL_carried_20 (Nat.le_of_ble_eq_true rfl) (Nat.le_of_ble_eq_true rfl) (by simp [g_w, g_k])
theorem met_L_carried (l : Launch) (hs : l.stackTraces = false) (m s : Nat → Int32) (lm : Nat → Int64) (pm : Nat → Nat) (x1 : Int32) (x2 : Int32) (p0 : g_I m pm) (h4 : pm 4 = 1) : g_SW l yL_carried cL_carried 5 [(0, 10, 13, 19), (0, 10, 17, 13)] ({ frames := 9, cells := 2, slots := 12, locals := 164 } : Room) (fun ad => [.ref (ad 122), .int x1, .int x2, .ref (ad 129)]) m (s, lm, pm) (g_w ["java/lang/IndexOutOfBoundsException", "java/lang/IllegalArgumentException"] (R_X7_carried m pm x1 x2) s lm) :=
  g_sw_of (by decide) (fun _ => Nat.le_of_ble_eq_true rfl) (fun X hl hn O Y => walk_L_carried O (by rw [hl]; exact hs) Y hn p0 h4)
theorem th_why {m : Nat → Int32} {pm : Nat → Nat} {x1 : Int32} {x2 : Int32} : g_W7 ["java/lang/IndexOutOfBoundsException"] pm (R_X7_why m pm x1 x2) := by
  unfold R_X7_why
  repeat' split
  all_goals first | exact g_W7.x (by decide) | exact g_W7.r rfl | exact g_W7.r p4_save
set_option maxRecDepth 100000 in
set_option maxHeartbeats 4000000 in
theorem walk_L_why {X : g_X} (O : g_oT X cL_why RL (some .int) ({ frames := 8, cells := 1, slots := 6, locals := 133 } : Room) (tableOf [(0, 10, 13, 19)])) (hs : (g_xl X).stackTraces = false) (Y : g_Y (g_xs X)) (hn : g_xn X = 5) {m s : Nat → Int32} {lm : Nat → Int64} {pm : Nat → Nat} {x1 : Int32} {x2 : Int32} (p0 : g_I m pm) (h4 : pm 4 = 1) : g_V X (fun r : g_Res => r) (g_w ["java/lang/IndexOutOfBoundsException"] (R_X7_why m pm x1 x2) s lm) 0 0 m (s, lm, pm) 0 [(0, .ref (g_ad X 122)), (1, .int x1), (2, .int x2), (3, .ref (g_ad X 129))] [] := by
  have hN : ∀ i, Nat.blt i 5 = true → i < g_xn X := fun i h => by rw [hn]; exact g_blt.mp h
  have M := met_X7_why (g_xl X) hs s lm m pm x1 x2 p0
  have hw := th_why (m := m) (pm := pm) (x1 := x1) (x2 := x2)
  refine tt_aload_n O 3 dL_why_0 rfl rfl ?_
  refine tt_iconst (x := 0) O dL_why_1 rfl ?_
  refine tt_aload_n O 0 dL_why_2 rfl rfl ?_
  refine tt_iload_n O 1 dL_why_3 rfl rfl ?_
  refine tt_iload_n O 2 dL_why_4 rfl rfl ?_
  generalize R_X7_why m pm x1 x2 = rr at hw M ⊢
  obtain ⟨o, m1, pm1⟩ := rr
  obtain ⟨h5, hw⟩ := hw
  rcases hw with ⟨v, hv⟩ | ⟨E, hE, hv⟩
  · have hv : o = .inl (some (.int v)) := hv
    subst hv
    have h5 : pm1 4 = 1 := h5.trans h4
    refine tt_callVi O Y [.int x1, .int x2] [.int 0, .ref (g_ad X 129)] M LL_75 obj_122 rfl rfl rfl dL_why_5 rfl rfl ?_
    refine tt_i2l O dL_why_8 ?_
    refine tt_last O h5 dL_why_9 ?_
    refine tt_goto O 17 dL_why_10 (by decide) ?_
    refine tt_iconst (x := 0) O dL_why_17 rfl ?_
    exact tt_iret O dL_why_18 (Nat.le_of_ble_eq_true rfl) (Nat.le_of_ble_eq_true rfl) rfl
  · have hv : o = .inr E := hv
    subst hv
    simp only [List.mem_cons, List.not_mem_nil, or_false] at hE
    subst hE
    refine tt_callVx O Y [.int x1, .int x2] [.int 0, .ref (g_ad X 129)] M LL_75 obj_122 rfl rfl rfl dL_why_5 rfl rfl [] ⟨0, 10, 13, 19⟩ [] rfl (fun z hz => absurd hz List.not_mem_nil) (by decide) (by decide) (gW_in (i := 787) (by decide +kernel) rfl) Y.2.1.1 (fun q9 => ?_)
    refine tt_astore (lc' := [(4, .ref q9), (0, .ref (g_ad X 122)), (1, .int x1), (2, .int x2), (3, .ref (g_ad X 129))]) O dL_why_13 (hN 4 rfl) rfl ?_
    refine tt_iconst (x := 1) O dL_why_15 rfl ?_
    exact tt_iret O dL_why_16 (Nat.le_of_ble_eq_true rfl) (Nat.le_of_ble_eq_true rfl) (by simp [g_w, g_k])
theorem met_L_why (l : Launch) (hs : l.stackTraces = false) (m s : Nat → Int32) (lm : Nat → Int64) (pm : Nat → Nat) (x1 : Int32) (x2 : Int32) (p0 : g_I m pm) (h4 : pm 4 = 1) : g_SW l yL_why cL_why 5 [(0, 10, 13, 19)] ({ frames := 8, cells := 1, slots := 6, locals := 133 } : Room) (fun ad => [.ref (ad 122), .int x1, .int x2, .ref (ad 129)]) m (s, lm, pm) (g_w ["java/lang/IndexOutOfBoundsException"] (R_X7_why m pm x1 x2) s lm) :=
  g_sw_of (by decide) (fun _ => Nat.le_of_ble_eq_true rfl) (fun X hl hn O Y => walk_L_why O (by rw [hl]; exact hs) Y hn p0 h4)
theorem th_minutesUp {m : Nat → Int32} {pm : Nat → Nat} {x1 : Int32} : g_W7 ["java/lang/IndexOutOfBoundsException"] pm (R_X7_minutesUp m pm x1) := by
  unfold R_X7_minutesUp
  repeat' split
  all_goals first | exact g_W7.x (by decide) | exact g_W7.r rfl | exact g_W7.r p4_save
set_option maxRecDepth 100000 in
set_option maxHeartbeats 4000000 in
theorem walk_L_minutesUp {X : g_X} (O : g_oT X cL_minutesUp RL (some .int) ({ frames := 8, cells := 1, slots := 6, locals := 132 } : Room) (tableOf [(0, 9, 12, 19)])) (hs : (g_xl X).stackTraces = false) (Y : g_Y (g_xs X)) (hn : g_xn X = 4) {m s : Nat → Int32} {lm : Nat → Int64} {pm : Nat → Nat} {x1 : Int32} (p0 : g_I m pm) (h4 : pm 4 = 1) : g_V X (fun r : g_Res => r) (g_w ["java/lang/IndexOutOfBoundsException"] (R_X7_minutesUp m pm x1) s lm) 0 0 m (s, lm, pm) 0 [(0, .ref (g_ad X 122)), (1, .int x1), (2, .ref (g_ad X 129))] [] := by
  have hN : ∀ i, Nat.blt i 4 = true → i < g_xn X := fun i h => by rw [hn]; exact g_blt.mp h
  have M := met_X7_minutesUp (g_xl X) hs s lm m pm x1 p0
  have hw := th_minutesUp (m := m) (pm := pm) (x1 := x1)
  refine tt_aload_n O 2 dL_minutesUp_0 rfl rfl ?_
  refine tt_iconst (x := 0) O dL_minutesUp_1 rfl ?_
  refine tt_aload_n O 0 dL_minutesUp_2 rfl rfl ?_
  refine tt_iload_n O 1 dL_minutesUp_3 rfl rfl ?_
  generalize R_X7_minutesUp m pm x1 = rr at hw M ⊢
  obtain ⟨o, m1, pm1⟩ := rr
  obtain ⟨h5, hw⟩ := hw
  rcases hw with ⟨v, hv⟩ | ⟨E, hE, hv⟩
  · have hv : o = .inl (some (.int v)) := hv
    subst hv
    have h5 : pm1 4 = 1 := h5.trans h4
    refine tt_callVi O Y [.int x1] [.int 0, .ref (g_ad X 129)] M LL_78 obj_122 rfl rfl rfl dL_minutesUp_4 rfl rfl ?_
    refine tt_i2l O dL_minutesUp_7 ?_
    refine tt_last O h5 dL_minutesUp_8 ?_
    refine tt_goto O 15 dL_minutesUp_9 (by decide) ?_
    refine tt_iconst (x := 0) O dL_minutesUp_15 rfl ?_
    exact tt_iret O dL_minutesUp_16 (Nat.le_of_ble_eq_true rfl) (Nat.le_of_ble_eq_true rfl) rfl
  · have hv : o = .inr E := hv
    subst hv
    simp only [List.mem_cons, List.not_mem_nil, or_false] at hE
    subst hE
    refine tt_callVx O Y [.int x1] [.int 0, .ref (g_ad X 129)] M LL_78 obj_122 rfl rfl rfl dL_minutesUp_4 rfl rfl [] ⟨0, 9, 12, 19⟩ [] rfl (fun z hz => absurd hz List.not_mem_nil) (by decide) (by decide) (gW_in (i := 787) (by decide +kernel) rfl) Y.2.1.1 (fun q9 => ?_)
    refine tt_astore_n (lc' := [(3, .ref q9), (0, .ref (g_ad X 122)), (1, .int x1), (2, .ref (g_ad X 129))]) O dL_minutesUp_12 rfl (hN 3 rfl) rfl ?_
    refine tt_iconst (x := 1) O dL_minutesUp_13 rfl ?_
    exact tt_iret O dL_minutesUp_14 (Nat.le_of_ble_eq_true rfl) (Nat.le_of_ble_eq_true rfl) (by simp [g_w, g_k])
theorem met_L_minutesUp (l : Launch) (hs : l.stackTraces = false) (m s : Nat → Int32) (lm : Nat → Int64) (pm : Nat → Nat) (x1 : Int32) (p0 : g_I m pm) (h4 : pm 4 = 1) : g_SW l yL_minutesUp cL_minutesUp 4 [(0, 9, 12, 19)] ({ frames := 8, cells := 1, slots := 6, locals := 132 } : Room) (fun ad => [.ref (ad 122), .int x1, .ref (ad 129)]) m (s, lm, pm) (g_w ["java/lang/IndexOutOfBoundsException"] (R_X7_minutesUp m pm x1) s lm) :=
  g_sw_of (by decide) (fun _ => Nat.le_of_ble_eq_true rfl) (fun X hl hn O Y => walk_L_minutesUp O (by rw [hl]; exact hs) Y hn p0 h4)
theorem th_spare {m : Nat → Int32} {pm : Nat → Nat} {x1 : Int32} : g_W7 ["java/lang/IndexOutOfBoundsException"] pm (R_X7_spare m pm x1) := by
  unfold R_X7_spare
  repeat' split
  all_goals first | exact g_W7.x (by decide) | exact g_W7.r rfl | exact g_W7.r p4_save
set_option maxRecDepth 100000 in
set_option maxHeartbeats 4000000 in
theorem walk_L_spare {X : g_X} (O : g_oT X cL_spare RL (some .int) ({ frames := 8, cells := 1, slots := 6, locals := 132 } : Room) (tableOf [(0, 9, 12, 19)])) (hs : (g_xl X).stackTraces = false) (Y : g_Y (g_xs X)) (hn : g_xn X = 4) {m s : Nat → Int32} {lm : Nat → Int64} {pm : Nat → Nat} {x1 : Int32} (p0 : g_I m pm) (h4 : pm 4 = 1) : g_V X (fun r : g_Res => r) (g_w ["java/lang/IndexOutOfBoundsException"] (R_X7_spare m pm x1) s lm) 0 0 m (s, lm, pm) 0 [(0, .ref (g_ad X 122)), (1, .int x1), (2, .ref (g_ad X 129))] [] := by
  have hN : ∀ i, Nat.blt i 4 = true → i < g_xn X := fun i h => by rw [hn]; exact g_blt.mp h
  have M := met_X7_spare (g_xl X) hs s lm m pm x1 p0
  have hw := th_spare (m := m) (pm := pm) (x1 := x1)
  refine tt_aload_n O 2 dL_spare_0 rfl rfl ?_
  refine tt_iconst (x := 0) O dL_spare_1 rfl ?_
  refine tt_aload_n O 0 dL_spare_2 rfl rfl ?_
  refine tt_iload_n O 1 dL_spare_3 rfl rfl ?_
  generalize R_X7_spare m pm x1 = rr at hw M ⊢
  obtain ⟨o, m1, pm1⟩ := rr
  obtain ⟨h5, hw⟩ := hw
  rcases hw with ⟨v, hv⟩ | ⟨E, hE, hv⟩
  · have hv : o = .inl (some (.int v)) := hv
    subst hv
    have h5 : pm1 4 = 1 := h5.trans h4
    refine tt_callVi O Y [.int x1] [.int 0, .ref (g_ad X 129)] M LL_81 obj_122 rfl rfl rfl dL_spare_4 rfl rfl ?_
    refine tt_i2l O dL_spare_7 ?_
    refine tt_last O h5 dL_spare_8 ?_
    refine tt_goto O 15 dL_spare_9 (by decide) ?_
    refine tt_iconst (x := 0) O dL_spare_15 rfl ?_
    exact tt_iret O dL_spare_16 (Nat.le_of_ble_eq_true rfl) (Nat.le_of_ble_eq_true rfl) rfl
  · have hv : o = .inr E := hv
    subst hv
    simp only [List.mem_cons, List.not_mem_nil, or_false] at hE
    subst hE
    refine tt_callVx O Y [.int x1] [.int 0, .ref (g_ad X 129)] M LL_81 obj_122 rfl rfl rfl dL_spare_4 rfl rfl [] ⟨0, 9, 12, 19⟩ [] rfl (fun z hz => absurd hz List.not_mem_nil) (by decide) (by decide) (gW_in (i := 787) (by decide +kernel) rfl) Y.2.1.1 (fun q9 => ?_)
    refine tt_astore_n (lc' := [(3, .ref q9), (0, .ref (g_ad X 122)), (1, .int x1), (2, .ref (g_ad X 129))]) O dL_spare_12 rfl (hN 3 rfl) rfl ?_
    refine tt_iconst (x := 1) O dL_spare_13 rfl ?_
    exact tt_iret O dL_spare_14 (Nat.le_of_ble_eq_true rfl) (Nat.le_of_ble_eq_true rfl) (by simp [g_w, g_k])
theorem met_L_spare (l : Launch) (hs : l.stackTraces = false) (m s : Nat → Int32) (lm : Nat → Int64) (pm : Nat → Nat) (x1 : Int32) (p0 : g_I m pm) (h4 : pm 4 = 1) : g_SW l yL_spare cL_spare 4 [(0, 9, 12, 19)] ({ frames := 8, cells := 1, slots := 6, locals := 132 } : Room) (fun ad => [.ref (ad 122), .int x1, .ref (ad 129)]) m (s, lm, pm) (g_w ["java/lang/IndexOutOfBoundsException"] (R_X7_spare m pm x1) s lm) :=
  g_sw_of (by decide) (fun _ => Nat.le_of_ble_eq_true rfl) (fun X hl hn O Y => walk_L_spare O (by rw [hl]; exact hs) Y hn p0 h4)
theorem th_bestRope {m : Nat → Int32} {pm : Nat → Nat} {x1 : Int32} : g_W7 ["java/lang/IndexOutOfBoundsException"] pm (R_X7_bestRope m pm x1) := by
  unfold R_X7_bestRope
  repeat' split
  all_goals first | exact g_W7.x (by decide) | exact g_W7.r rfl | exact g_W7.r p4_save
set_option maxRecDepth 100000 in
set_option maxHeartbeats 4000000 in
theorem walk_L_bestRope {X : g_X} (O : g_oT X cL_bestRope RL (some .int) ({ frames := 8, cells := 1, slots := 6, locals := 132 } : Room) (tableOf [(0, 9, 12, 19)])) (hs : (g_xl X).stackTraces = false) (Y : g_Y (g_xs X)) (hn : g_xn X = 4) {m s : Nat → Int32} {lm : Nat → Int64} {pm : Nat → Nat} {x1 : Int32} (p0 : g_I m pm) (h4 : pm 4 = 1) : g_V X (fun r : g_Res => r) (g_w ["java/lang/IndexOutOfBoundsException"] (R_X7_bestRope m pm x1) s lm) 0 0 m (s, lm, pm) 0 [(0, .ref (g_ad X 122)), (1, .int x1), (2, .ref (g_ad X 129))] [] := by
  have hN : ∀ i, Nat.blt i 4 = true → i < g_xn X := fun i h => by rw [hn]; exact g_blt.mp h
  have M := met_X7_bestRope (g_xl X) hs s lm m pm x1 p0
  have hw := th_bestRope (m := m) (pm := pm) (x1 := x1)
  refine tt_aload_n O 2 dL_bestRope_0 rfl rfl ?_
  refine tt_iconst (x := 0) O dL_bestRope_1 rfl ?_
  refine tt_aload_n O 0 dL_bestRope_2 rfl rfl ?_
  refine tt_iload_n O 1 dL_bestRope_3 rfl rfl ?_
  generalize R_X7_bestRope m pm x1 = rr at hw M ⊢
  obtain ⟨o, m1, pm1⟩ := rr
  obtain ⟨h5, hw⟩ := hw
  rcases hw with ⟨v, hv⟩ | ⟨E, hE, hv⟩
  · have hv : o = .inl (some (.int v)) := hv
    subst hv
    have h5 : pm1 4 = 1 := h5.trans h4
    refine tt_callVi O Y [.int x1] [.int 0, .ref (g_ad X 129)] M LL_84 obj_122 rfl rfl rfl dL_bestRope_4 rfl rfl ?_
    refine tt_i2l O dL_bestRope_7 ?_
    refine tt_last O h5 dL_bestRope_8 ?_
    refine tt_goto O 15 dL_bestRope_9 (by decide) ?_
    refine tt_iconst (x := 0) O dL_bestRope_15 rfl ?_
    exact tt_iret O dL_bestRope_16 (Nat.le_of_ble_eq_true rfl) (Nat.le_of_ble_eq_true rfl) rfl
  · have hv : o = .inr E := hv
    subst hv
    simp only [List.mem_cons, List.not_mem_nil, or_false] at hE
    subst hE
    refine tt_callVx O Y [.int x1] [.int 0, .ref (g_ad X 129)] M LL_84 obj_122 rfl rfl rfl dL_bestRope_4 rfl rfl [] ⟨0, 9, 12, 19⟩ [] rfl (fun z hz => absurd hz List.not_mem_nil) (by decide) (by decide) (gW_in (i := 787) (by decide +kernel) rfl) Y.2.1.1 (fun q9 => ?_)
    refine tt_astore_n (lc' := [(3, .ref q9), (0, .ref (g_ad X 122)), (1, .int x1), (2, .ref (g_ad X 129))]) O dL_bestRope_12 rfl (hN 3 rfl) rfl ?_
    refine tt_iconst (x := 1) O dL_bestRope_13 rfl ?_
    exact tt_iret O dL_bestRope_14 (Nat.le_of_ble_eq_true rfl) (Nat.le_of_ble_eq_true rfl) (by simp [g_w, g_k])
theorem met_L_bestRope (l : Launch) (hs : l.stackTraces = false) (m s : Nat → Int32) (lm : Nat → Int64) (pm : Nat → Nat) (x1 : Int32) (p0 : g_I m pm) (h4 : pm 4 = 1) : g_SW l yL_bestRope cL_bestRope 4 [(0, 9, 12, 19)] ({ frames := 8, cells := 1, slots := 6, locals := 132 } : Room) (fun ad => [.ref (ad 122), .int x1, .ref (ad 129)]) m (s, lm, pm) (g_w ["java/lang/IndexOutOfBoundsException"] (R_X7_bestRope m pm x1) s lm) :=
  g_sw_of (by decide) (fun _ => Nat.le_of_ble_eq_true rfl) (fun X hl hn O Y => walk_L_bestRope O (by rw [hl]; exact hs) Y hn p0 h4)
theorem th_reach {m : Nat → Int32} {pm : Nat → Nat} {x1 : Int32} : g_W7 ["java/lang/IndexOutOfBoundsException"] pm (R_X7_reach m pm x1) := by
  unfold R_X7_reach
  repeat' split
  all_goals first | exact g_W7.x (by decide) | exact g_W7.r rfl | exact g_W7.r p4_save
set_option maxRecDepth 100000 in
set_option maxHeartbeats 4000000 in
theorem walk_L_reach {X : g_X} (O : g_oT X cL_reach RL (some .int) ({ frames := 8, cells := 1, slots := 6, locals := 132 } : Room) (tableOf [(0, 9, 12, 19)])) (hs : (g_xl X).stackTraces = false) (Y : g_Y (g_xs X)) (hn : g_xn X = 4) {m s : Nat → Int32} {lm : Nat → Int64} {pm : Nat → Nat} {x1 : Int32} (p0 : g_I m pm) (h4 : pm 4 = 1) : g_V X (fun r : g_Res => r) (g_w ["java/lang/IndexOutOfBoundsException"] (R_X7_reach m pm x1) s lm) 0 0 m (s, lm, pm) 0 [(0, .ref (g_ad X 122)), (1, .int x1), (2, .ref (g_ad X 129))] [] := by
  have hN : ∀ i, Nat.blt i 4 = true → i < g_xn X := fun i h => by rw [hn]; exact g_blt.mp h
  have M := met_X7_reach (g_xl X) hs s lm m pm x1 p0
  have hw := th_reach (m := m) (pm := pm) (x1 := x1)
  refine tt_aload_n O 2 dL_reach_0 rfl rfl ?_
  refine tt_iconst (x := 0) O dL_reach_1 rfl ?_
  refine tt_aload_n O 0 dL_reach_2 rfl rfl ?_
  refine tt_iload_n O 1 dL_reach_3 rfl rfl ?_
  generalize R_X7_reach m pm x1 = rr at hw M ⊢
  obtain ⟨o, m1, pm1⟩ := rr
  obtain ⟨h5, hw⟩ := hw
  rcases hw with ⟨v, hv⟩ | ⟨E, hE, hv⟩
  · have hv : o = .inl (some (.int v)) := hv
    subst hv
    have h5 : pm1 4 = 1 := h5.trans h4
    refine tt_callVi O Y [.int x1] [.int 0, .ref (g_ad X 129)] M LL_87 obj_122 rfl rfl rfl dL_reach_4 rfl rfl ?_
    refine tt_i2l O dL_reach_7 ?_
    refine tt_last O h5 dL_reach_8 ?_
    refine tt_goto O 15 dL_reach_9 (by decide) ?_
    refine tt_iconst (x := 0) O dL_reach_15 rfl ?_
    exact tt_iret O dL_reach_16 (Nat.le_of_ble_eq_true rfl) (Nat.le_of_ble_eq_true rfl) rfl
  · have hv : o = .inr E := hv
    subst hv
    simp only [List.mem_cons, List.not_mem_nil, or_false] at hE
    subst hE
    refine tt_callVx O Y [.int x1] [.int 0, .ref (g_ad X 129)] M LL_87 obj_122 rfl rfl rfl dL_reach_4 rfl rfl [] ⟨0, 9, 12, 19⟩ [] rfl (fun z hz => absurd hz List.not_mem_nil) (by decide) (by decide) (gW_in (i := 787) (by decide +kernel) rfl) Y.2.1.1 (fun q9 => ?_)
    refine tt_astore_n (lc' := [(3, .ref q9), (0, .ref (g_ad X 122)), (1, .int x1), (2, .ref (g_ad X 129))]) O dL_reach_12 rfl (hN 3 rfl) rfl ?_
    refine tt_iconst (x := 1) O dL_reach_13 rfl ?_
    exact tt_iret O dL_reach_14 (Nat.le_of_ble_eq_true rfl) (Nat.le_of_ble_eq_true rfl) (by simp [g_w, g_k])
theorem met_L_reach (l : Launch) (hs : l.stackTraces = false) (m s : Nat → Int32) (lm : Nat → Int64) (pm : Nat → Nat) (x1 : Int32) (p0 : g_I m pm) (h4 : pm 4 = 1) : g_SW l yL_reach cL_reach 4 [(0, 9, 12, 19)] ({ frames := 8, cells := 1, slots := 6, locals := 132 } : Room) (fun ad => [.ref (ad 122), .int x1, .ref (ad 129)]) m (s, lm, pm) (g_w ["java/lang/IndexOutOfBoundsException"] (R_X7_reach m pm x1) s lm) :=
  g_sw_of (by decide) (fun _ => Nat.le_of_ble_eq_true rfl) (fun X hl hn O Y => walk_L_reach O (by rw [hl]; exact hs) Y hn p0 h4)
theorem th_append {m : Nat → Int32} {pm : Nat → Nat} {x1 : Int32} : g_W7 ["java/lang/IllegalArgumentException", "java/lang/IllegalStateException"] pm (R_X7_append m pm x1) := by
  unfold R_X7_append R_X7_append_24
  repeat' split
  all_goals first | exact g_W7.x (by decide) | exact g_W7.r rfl | exact g_W7.r p4_save
set_option maxRecDepth 100000 in
set_option maxHeartbeats 4000000 in
theorem walk_L_append {X : g_X} (O : g_oT X cL_append RL (some .int) ({ frames := 9, cells := 2, slots := 12, locals := 163 } : Room) (tableOf [(0, 9, 12, 13), (0, 9, 15, 21)])) (hs : (g_xl X).stackTraces = false) (Y : g_Y (g_xs X)) (hn : g_xn X = 4) {m s : Nat → Int32} {lm : Nat → Int64} {pm : Nat → Nat} {x1 : Int32} (p0 : g_I m pm) (h4 : pm 4 = 1) : g_V X (fun r : g_Res => r) (g_w ["java/lang/IllegalArgumentException", "java/lang/IllegalStateException"] (R_X7_append m pm x1) s lm) 0 0 m (s, lm, pm) 0 [(0, .ref (g_ad X 122)), (1, .int x1), (2, .ref (g_ad X 129))] [] := by
  have hN : ∀ i, Nat.blt i 4 = true → i < g_xn X := fun i h => by rw [hn]; exact g_blt.mp h
  have M := met_X7_append (g_xl X) hs s lm m pm x1 p0
  have hw := th_append (m := m) (pm := pm) (x1 := x1)
  refine tt_aload_n O 2 dL_append_0 rfl rfl ?_
  refine tt_iconst (x := 0) O dL_append_1 rfl ?_
  refine tt_aload_n O 0 dL_append_2 rfl rfl ?_
  refine tt_iload_n O 1 dL_append_3 rfl rfl ?_
  generalize R_X7_append m pm x1 = rr at hw M ⊢
  obtain ⟨o, m1, pm1⟩ := rr
  obtain ⟨h5, hw⟩ := hw
  rcases hw with ⟨v, hv⟩ | ⟨E, hE, hv⟩
  · have hv : o = .inl (some (.int v)) := hv
    subst hv
    have h5 : pm1 4 = 1 := h5.trans h4
    refine tt_callVi O Y [.int x1] [.int 0, .ref (g_ad X 129)] M LL_90 obj_122 rfl rfl rfl dL_append_4 rfl rfl ?_
    refine tt_i2l O dL_append_7 ?_
    refine tt_last O h5 dL_append_8 ?_
    refine tt_goto O 18 dL_append_9 (by decide) ?_
    refine tt_iconst (x := 0) O dL_append_18 rfl ?_
    exact tt_iret O dL_append_19 (Nat.le_of_ble_eq_true rfl) (Nat.le_of_ble_eq_true rfl) rfl
  · have hv : o = .inr E := hv
    subst hv
    simp only [List.mem_cons, List.not_mem_nil, or_false] at hE
    rcases hE with rfl | rfl
    · refine tt_callVx O Y [.int x1] [.int 0, .ref (g_ad X 129)] M LL_90 obj_122 rfl rfl rfl dL_append_4 rfl rfl [] ⟨0, 9, 12, 13⟩ [⟨0, 9, 15, 21⟩] rfl (fun z hz => absurd hz List.not_mem_nil) (by decide) (by decide) (gW_in (i := 697) (by decide +kernel) rfl) Y.2.1.2.1 (fun q9 => ?_)
      refine tt_astore_n (lc' := [(3, .ref q9), (0, .ref (g_ad X 122)), (1, .int x1), (2, .ref (g_ad X 129))]) O dL_append_12 rfl (hN 3 rfl) rfl ?_
      refine tt_iconst (x := 1) O dL_append_13 rfl ?_
      exact tt_iret O dL_append_14 (Nat.le_of_ble_eq_true rfl) (Nat.le_of_ble_eq_true rfl) (by simp [g_w, g_k])
    · refine tt_callVx O Y [.int x1] [.int 0, .ref (g_ad X 129)] M LL_90 obj_122 rfl rfl rfl dL_append_4 rfl rfl [⟨0, 9, 12, 13⟩] ⟨0, 9, 15, 21⟩ [] rfl (fun z hz => by
          simp only [List.mem_cons, List.not_mem_nil, or_false] at hz
          subst hz
          exact ⟨by decide, "java/lang/IllegalArgumentException", gW_in (i := 697) (by decide +kernel) rfl, Y.2.2.1.2.2⟩) (by decide) (by decide) (gW_in (i := 788) (by decide +kernel) rfl) Y.2.1.2.2 (fun q9 => ?_)
      refine tt_astore_n (lc' := [(3, .ref q9), (0, .ref (g_ad X 122)), (1, .int x1), (2, .ref (g_ad X 129))]) O dL_append_15 rfl (hN 3 rfl) rfl ?_
      refine tt_iconst (x := 2) O dL_append_16 rfl ?_
      exact tt_iret O dL_append_17 (Nat.le_of_ble_eq_true rfl) (Nat.le_of_ble_eq_true rfl) (by simp [g_w, g_k])
theorem met_L_append (l : Launch) (hs : l.stackTraces = false) (m s : Nat → Int32) (lm : Nat → Int64) (pm : Nat → Nat) (x1 : Int32) (p0 : g_I m pm) (h4 : pm 4 = 1) : g_SW l yL_append cL_append 4 [(0, 9, 12, 13), (0, 9, 15, 21)] ({ frames := 9, cells := 2, slots := 12, locals := 163 } : Room) (fun ad => [.ref (ad 122), .int x1, .ref (ad 129)]) m (s, lm, pm) (g_w ["java/lang/IllegalArgumentException", "java/lang/IllegalStateException"] (R_X7_append m pm x1) s lm) :=
  g_sw_of (by decide) (fun _ => Nat.le_of_ble_eq_true rfl) (fun X hl hn O Y => walk_L_append O (by rw [hl]; exact hs) Y hn p0 h4)
theorem th_undo {m : Nat → Int32} {pm : Nat → Nat}  : g_W7 ["java/lang/IllegalStateException"] pm (R_X7_undo m pm) := by
  unfold R_X7_undo R_X7_undo_15
  repeat' split
  all_goals first | exact g_W7.x (by decide) | exact g_W7.r rfl | exact g_W7.r p4_save
set_option maxRecDepth 100000 in
set_option maxHeartbeats 4000000 in
theorem walk_L_undo {X : g_X} (O : g_oT X cL_undo RL (some .int) ({ frames := 8, cells := 1, slots := 6, locals := 140 } : Room) (tableOf [(0, 8, 11, 21)])) (hs : (g_xl X).stackTraces = false) (Y : g_Y (g_xs X)) (hn : g_xn X = 3) {m s : Nat → Int32} {lm : Nat → Int64} {pm : Nat → Nat}  (p0 : g_I m pm) (h4 : pm 4 = 1) : g_V X (fun r : g_Res => r) (g_w ["java/lang/IllegalStateException"] (R_X7_undo m pm) s lm) 0 0 m (s, lm, pm) 0 [(0, .ref (g_ad X 122)), (1, .ref (g_ad X 129))] [] := by
  have hN : ∀ i, Nat.blt i 3 = true → i < g_xn X := fun i h => by rw [hn]; exact g_blt.mp h
  have M := met_X7_undo (g_xl X) hs m s lm pm p0.2.2 p0.2.1 p0.1.2.2.2.2.2.2.2
  have hw := th_undo (m := m) (pm := pm)
  refine tt_aload_n O 1 dL_undo_0 rfl rfl ?_
  refine tt_iconst (x := 0) O dL_undo_1 rfl ?_
  refine tt_aload_n O 0 dL_undo_2 rfl rfl ?_
  generalize R_X7_undo m pm = rr at hw M ⊢
  obtain ⟨o, m1, pm1⟩ := rr
  obtain ⟨h5, hw⟩ := hw
  rcases hw with ⟨v, hv⟩ | ⟨E, hE, hv⟩
  · have hv : o = .inl (some (.int v)) := hv
    subst hv
    have h5 : pm1 4 = 1 := h5.trans h4
    refine tt_callVi O Y [] [.int 0, .ref (g_ad X 129)] M LL_93 obj_122 rfl rfl rfl dL_undo_3 rfl rfl ?_
    refine tt_i2l O dL_undo_6 ?_
    refine tt_last O h5 dL_undo_7 ?_
    refine tt_goto O 14 dL_undo_8 (by decide) ?_
    refine tt_iconst (x := 0) O dL_undo_14 rfl ?_
    exact tt_iret O dL_undo_15 (Nat.le_of_ble_eq_true rfl) (Nat.le_of_ble_eq_true rfl) rfl
  · have hv : o = .inr E := hv
    subst hv
    simp only [List.mem_cons, List.not_mem_nil, or_false] at hE
    subst hE
    refine tt_callVx O Y [] [.int 0, .ref (g_ad X 129)] M LL_93 obj_122 rfl rfl rfl dL_undo_3 rfl rfl [] ⟨0, 8, 11, 21⟩ [] rfl (fun z hz => absurd hz List.not_mem_nil) (by decide) (by decide) (gW_in (i := 788) (by decide +kernel) rfl) Y.2.1.2.2 (fun q9 => ?_)
    refine tt_astore_n (lc' := [(2, .ref q9), (0, .ref (g_ad X 122)), (1, .ref (g_ad X 129))]) O dL_undo_11 rfl (hN 2 rfl) rfl ?_
    refine tt_iconst (x := 1) O dL_undo_12 rfl ?_
    exact tt_iret O dL_undo_13 (Nat.le_of_ble_eq_true rfl) (Nat.le_of_ble_eq_true rfl) (by simp [g_w, g_k])
theorem met_L_undo (l : Launch) (hs : l.stackTraces = false) (m s : Nat → Int32) (lm : Nat → Int64) (pm : Nat → Nat)  (p0 : g_I m pm) (h4 : pm 4 = 1) : g_SW l yL_undo cL_undo 3 [(0, 8, 11, 21)] ({ frames := 8, cells := 1, slots := 6, locals := 140 } : Room) (fun ad => [.ref (ad 122), .ref (ad 129)]) m (s, lm, pm) (g_w ["java/lang/IllegalStateException"] (R_X7_undo m pm) s lm) :=
  g_sw_of (by decide) (fun _ => Nat.le_of_ble_eq_true rfl) (fun X hl hn O Y => walk_L_undo O (by rw [hl]; exact hs) Y hn p0 h4)
