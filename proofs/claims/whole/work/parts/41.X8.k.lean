/-! ===== the model: the text ===== -/
def R_X8_faultAt_5 (s : Nat → Int32) : Nat → (Nat → Int32) → (Int32 × (Nat → Int32))
  | 0, _ => (0, s)
  | f + 1, s_5 => (if (s_5 1301) ≤ (s_5 1304) then ((-1), s_5) else (if (R_X8_readsOrder s_5).1 = 0 then (((R_X8_readsOrder s_5).2 1304), (R_X8_readsOrder s_5).2) else ((R_X8_faultAt_5 s f) ((R_X8_readsOrder s_5).2))))
def R_X8_faultAt (s : Nat → Int32) : (Int32 × (Nat → Int32)) := (R_X8_faultAt_5 s 91 (upd s 1304 0))
set_option maxRecDepth 100000 in
set_option maxHeartbeats 4000000 in
theorem walk_X8_faultAt {X : g_X} (O : g_ok X cX8_faultAt RX8 (some .int) ({ frames := 5, cells := 0, slots := 0, locals := 108 } : Room)) (hs : (g_xl X).stackTraces = false) (hn : g_xn X = 1) {m : Nat → Int32} {lm : Nat → Int64} {pm : Nat → Nat} {s : Nat → Int32} (p0 : 0 ≤ (s 1301).toInt) (p1 : (s 1301).toInt ≤ 90) : g_V X (fun r : Int32 × (Nat → Int32) => ((.inl (some (.int r.1)), (m, r.2, lm, pm)) : g_Res)) (R_X8_faultAt s) 0 0 m (s, lm, pm) 0 [(0, .ref (g_ad X 124))] [] := by
  have hN : ∀ i, Nat.blt i 1 = true → i < g_xn X := fun i h => by rw [hn]; exact g_blt.mp h
  refine r_aload_n O 0 dX8_faultAt_0 rfl rfl ?_
  refine r_iconst (x := 0) O dX8_faultAt_1 rfl ?_
  refine r_put O (FPX8_186 0) (S_124_8 0) dX8_faultAt_2 ?_
  have L_5 : ∀ (f_5 : Nat) (s_5 : Nat → Int32) (hi_5 : 0 ≤ (s_5 1304).toInt ∧ (s_5 1304).toInt ≤ (s_5 1301).toInt ∧ (s_5 1301).toInt ≤ 90 ∧ 90 < f_5 + (s_5 1304).toInt), g_V X (fun r : Int32 × (Nat → Int32) => ((.inl (some (.int r.1)), (m, r.2, lm, pm)) : g_Res)) (R_X8_faultAt_5 s f_5 s_5) 0 0 m (s_5, lm, pm) 5 [(0, .ref (g_ad X 124))] [] := by
    intro f_5
    induction f_5 with
    | zero => intro s_5 hi_5; exact absurd hi_5 (by omega)
    | succ f_5 ih_5 =>
      intro s_5 hi_5
      obtain ⟨q1, q2, q3, q4⟩ := hi_5
      refine r_aload_n O 0 dX8_faultAt_5 rfl rfl ?_
      refine r_get O FX8_186 G_124_8 dX8_faultAt_6 ?_
      refine r_aload_n O 0 dX8_faultAt_9 rfl rfl ?_
      refine r_get O FX8_183 G_124_5 dX8_faultAt_10 ?_
      refine r_icmp_ge O 28 dX8_faultAt_13 (by decide) (fun c_13 => ?_) (fun c_13 => ?_)
      · have e_13 : (s_5 1301).toInt ≤ (s_5 1304).toInt := j_le c_13
        refine r_iconst (x := (-1)) O dX8_faultAt_28 rfl ?_
        exact r_iret O dX8_faultAt_29 rfl (Nat.le_of_ble_eq_true rfl) (Nat.le_of_ble_eq_true rfl) rfl
      · have e_13 : (s_5 1304).toInt < (s_5 1301).toInt := j_nle c_13
        refine r_aload_n O 0 dX8_faultAt_16 rfl rfl ?_
        refine r_callVi O [] [] (met_X8_readsOrder (g_xl X) hs lm pm m s_5 (by first | decide | with_reducible assumption | with_reducible omega | (simp (disch := omega) only [g_upd_ne, g_upd_eq, fr_X8_walks, fr_X8_sets]; first | with_reducible assumption | with_reducible omega | decide) | exact Or.inl rfl | exact Or.inr rfl) (by first | decide | with_reducible assumption | with_reducible omega | (simp (disch := omega) only [g_upd_ne, g_upd_eq, fr_X8_walks, fr_X8_sets]; first | with_reducible assumption | with_reducible omega | decide) | exact Or.inl rfl | exact Or.inr rfl) (by first | decide | with_reducible assumption | with_reducible omega | (simp (disch := omega) only [g_upd_ne, g_upd_eq, fr_X8_walks, fr_X8_sets]; first | with_reducible assumption | with_reducible omega | decide) | exact Or.inl rfl | exact Or.inr rfl)) LX8_210 obj_124 rfl rfl rfl dX8_faultAt_17 rfl rfl ?_
        have fo_17 := P_order (s := s_5) (by first | decide | with_reducible assumption | with_reducible omega | (simp (disch := omega) only [g_upd_ne, g_upd_eq, fr_X8_walks, fr_X8_sets]; first | with_reducible assumption | with_reducible omega | decide) | exact Or.inl rfl | exact Or.inr rfl) (by first | decide | with_reducible assumption | with_reducible omega | (simp (disch := omega) only [g_upd_ne, g_upd_eq, fr_X8_walks, fr_X8_sets]; first | with_reducible assumption | with_reducible omega | decide) | exact Or.inl rfl | exact Or.inr rfl) (by first | decide | with_reducible assumption | with_reducible omega | (simp (disch := omega) only [g_upd_ne, g_upd_eq, fr_X8_walks, fr_X8_sets]; first | with_reducible assumption | with_reducible omega | decide) | exact Or.inl rfl | exact Or.inr rfl)
        refine r_if_ne O 5 dX8_faultAt_20 (by decide) (fun c_20 => ?_) (fun c_20 => ?_)
        · have e_20 : (R_X8_readsOrder s_5).1.toInt = (0 : Int) := j_eqR c_20 rfl
          refine r_aload_n O 0 dX8_faultAt_23 rfl rfl ?_
          refine r_get O FX8_186 G_124_8 dX8_faultAt_24 ?_
          exact r_iret O dX8_faultAt_27 rfl (Nat.le_of_ble_eq_true rfl) (Nat.le_of_ble_eq_true rfl) rfl
        · have e_20 : (R_X8_readsOrder s_5).1.toInt ≠ (0 : Int) := j_neR c_20 rfl
          have pq := fo_17.2.2 (fo_17.1.resolve_left c_20)
          exact ih_5 ((R_X8_readsOrder s_5).2) ⟨(by with_reducible omega), (by with_reducible omega), (by with_reducible omega), (by with_reducible omega)⟩
  exact L_5 91 (upd s 1304 0) ⟨by rw [g_upd_eq]; decide, by rw [g_upd_eq, g_upd_ne (by omega)]; exact p0, by rw [g_upd_ne (by omega)]; exact p1, by rw [g_upd_eq]; decide⟩
theorem met_X8_faultAt (l : Launch) (hs : l.stackTraces = false) (lm : Nat → Int64) (pm : Nat → Nat) (m : Nat → Int32) (s : Nat → Int32) (p0 : 0 ≤ (s 1301).toInt) (p1 : (s 1301).toInt ≤ 90) : g_SM l yX8_faultAt cX8_faultAt 1 (some .int) ({ frames := 5, cells := 0, slots := 0, locals := 108 } : Room) (fun ad => [.ref (ad 124)]) m (s, lm, pm) ((fun r : Int32 × (Nat → Int32) => ((.inl (some (.int r.1)), (m, r.2, lm, pm)) : g_Res)) (R_X8_faultAt s)) :=
  g_sm_of (by decide) (fun _ => Nat.le_of_ble_eq_true rfl) hs (fun X hl hn O => walk_X8_faultAt O (by rw [hl]; exact hs) hn p0 p1)
def R_X8_append (s : Nat → Int32) (x1 : Int32) : (Int32 × (Nat → Int32)) := (if (R_X8_in s x1 0 127) = 0 then ((R_X8_fails s 1).1, (R_X8_fails s 1).2) else (if (s 1301) = 90 then ((R_X8_fails s 2).1, (R_X8_fails s 2).2) else ((R_X8_tells (upd (upd s (1200 + (s 1301).toNatClampNeg) x1) 1301 (((upd s (1200 + (s 1301).toNatClampNeg) x1) 1301) + 1)) ((upd (upd s (1200 + (s 1301).toNatClampNeg) x1) 1301 (((upd s (1200 + (s 1301).toNatClampNeg) x1) 1301) + 1)) 1301)).1, (R_X8_tells (upd (upd s (1200 + (s 1301).toNatClampNeg) x1) 1301 (((upd s (1200 + (s 1301).toNatClampNeg) x1) 1301) + 1)) ((upd (upd s (1200 + (s 1301).toNatClampNeg) x1) 1301 (((upd s (1200 + (s 1301).toNatClampNeg) x1) 1301) + 1)) 1301)).2)))
set_option maxRecDepth 100000 in
set_option maxHeartbeats 4000000 in
theorem walk_X8_append {X : g_X} (O : g_ok X cX8_append RX8 (some .int) ({ frames := 1, cells := 0, slots := 0, locals := 22 } : Room)) (hs : (g_xl X).stackTraces = false) (hn : g_xn X = 2) {m : Nat → Int32} {lm : Nat → Int64} {pm : Nat → Nat} {s : Nat → Int32} {x1 : Int32} (p0 : 0 ≤ (s 1301).toInt) (p1 : (s 1301).toInt ≤ 90) : g_V X (fun r : Int32 × (Nat → Int32) => ((.inl (some (.int r.1)), (m, r.2, lm, pm)) : g_Res)) (R_X8_append s x1) 0 0 m (s, lm, pm) 0 [(0, .ref (g_ad X 124)), (1, .int x1)] [] := by
  have hN : ∀ i, Nat.blt i 2 = true → i < g_xn X := fun i h => by rw [hn]; exact g_blt.mp h
  refine r_iload_n O 1 dX8_append_0 rfl rfl ?_
  refine r_iconst (x := 0) O dX8_append_1 rfl ?_
  refine r_bipush (x := 127) O dX8_append_2 rfl ?_
  refine r_callSi O [.int x1, .int 0, .int 127] [] (met_X8_in (g_xl X) hs lm pm m s x1 0 127 ) LX8_54 rfl rfl rfl dX8_append_4 rfl rfl ?_
  refine r_if_ne O 16 dX8_append_7 (by decide) (fun c_7 => ?_) (fun c_7 => ?_)
  · have e_7 : (R_X8_in s x1 0 127).toInt = (0 : Int) := j_eqR c_7 rfl
    refine r_aload_n O 0 dX8_append_10 rfl rfl ?_
    refine r_iconst (x := 1) O dX8_append_11 rfl ?_
    refine r_callVi O [.int 1] [] (met_X8_fails (g_xl X) hs lm pm m s 1 ) LX8_58 obj_124 rfl rfl rfl dX8_append_12 rfl rfl ?_
    exact r_iret O dX8_append_15 rfl (Nat.le_of_ble_eq_true rfl) (Nat.le_of_ble_eq_true rfl) rfl
  · have e_7 : (R_X8_in s x1 0 127).toInt ≠ (0 : Int) := j_neR c_7 rfl
    have z_7a : (0 : Int) ≤ (x1).toInt := (nz_X8_in c_7).1
    have z_7b : (x1).toInt ≤ (127 : Int) := (nz_X8_in c_7).2
    refine r_aload_n O 0 dX8_append_16 rfl rfl ?_
    refine r_get O FX8_183 G_124_5 dX8_append_17 ?_
    refine r_bipush (x := 90) O dX8_append_20 rfl ?_
    refine r_icmp_ne O 31 dX8_append_22 (by decide) (fun c_22 => ?_) (fun c_22 => ?_)
    · have e_22 : (s 1301).toInt = (90 : Int) := j_eqR c_22 rfl
      refine r_aload_n O 0 dX8_append_25 rfl rfl ?_
      refine r_iconst (x := 2) O dX8_append_26 rfl ?_
      refine r_callVi O [.int 2] [] (met_X8_fails (g_xl X) hs lm pm m s 2 ) LX8_58 obj_124 rfl rfl rfl dX8_append_27 rfl rfl ?_
      exact r_iret O dX8_append_30 rfl (Nat.le_of_ble_eq_true rfl) (Nat.le_of_ble_eq_true rfl) rfl
    · have e_22 : (s 1301).toInt ≠ (90 : Int) := j_neR c_22 rfl
      refine r_aload_n O 0 dX8_append_31 rfl rfl ?_
      refine r_get O FX8_19 G_124_4 dX8_append_32 ?_
      refine r_aload_n O 0 dX8_append_35 rfl rfl ?_
      refine r_get O FX8_183 G_124_5 dX8_append_36 ?_
      refine r_iload_n O 1 dX8_append_39 rfl rfl ?_
      have iy_40 := j_nat (x := (s 1301)) (by with_reducible omega)
      refine r_iastM O T_128 (show vp_in (s 1301) 90 from g_vin (by with_reducible omega) (by with_reducible omega)) dX8_append_40 ?_
      refine r_aload_n O 0 dX8_append_41 rfl rfl ?_
      refine r_dup O dX8_append_42 rfl ?_
      refine r_get O FX8_183 G_124_5 dX8_append_43 ?_
      refine r_iconst (x := 1) O dX8_append_46 rfl ?_
      refine r_iadd O dX8_append_47 ?_
      refine r_put O (FPX8_183 (((upd s (1200 + (s 1301).toNatClampNeg) x1) 1301) + 1)) (S_124_5 (((upd s (1200 + (s 1301).toNatClampNeg) x1) 1301) + 1)) dX8_append_48 ?_
      refine r_aload_n O 0 dX8_append_51 rfl rfl ?_
      refine r_aload_n O 0 dX8_append_52 rfl rfl ?_
      refine r_get O FX8_183 G_124_5 dX8_append_53 ?_
      refine r_callVi O [.int ((upd (upd s (1200 + (s 1301).toNatClampNeg) x1) 1301 (((upd s (1200 + (s 1301).toNatClampNeg) x1) 1301) + 1)) 1301)] [] (met_X8_tells (g_xl X) hs lm pm m (upd (upd s (1200 + (s 1301).toNatClampNeg) x1) 1301 (((upd s (1200 + (s 1301).toNatClampNeg) x1) 1301) + 1)) ((upd (upd s (1200 + (s 1301).toNatClampNeg) x1) 1301 (((upd s (1200 + (s 1301).toNatClampNeg) x1) 1301) + 1)) 1301) ) LX8_33 obj_124 rfl rfl rfl dX8_append_56 rfl rfl ?_
      exact r_iret O dX8_append_59 rfl (Nat.le_of_ble_eq_true rfl) (Nat.le_of_ble_eq_true rfl) rfl
theorem met_X8_append (l : Launch) (hs : l.stackTraces = false) (lm : Nat → Int64) (pm : Nat → Nat) (m : Nat → Int32) (s : Nat → Int32) (x1 : Int32) (p0 : 0 ≤ (s 1301).toInt) (p1 : (s 1301).toInt ≤ 90) : g_SM l yX8_append cX8_append 2 (some .int) ({ frames := 1, cells := 0, slots := 0, locals := 22 } : Room) (fun ad => [.ref (ad 124), .int x1]) m (s, lm, pm) ((fun r : Int32 × (Nat → Int32) => ((.inl (some (.int r.1)), (m, r.2, lm, pm)) : g_Res)) (R_X8_append s x1)) :=
  g_sm_of (by decide) (fun _ => Nat.le_of_ble_eq_true rfl) hs (fun X hl hn O => walk_X8_append O (by rw [hl]; exact hs) hn p0 p1)
def R_X8_clearText (s : Nat → Int32) : (Int32 × (Nat → Int32)) := ((R_X8_tells (upd s 1301 0) (s 1301)).1, (R_X8_tells (upd s 1301 0) (s 1301)).2)
set_option maxRecDepth 100000 in
set_option maxHeartbeats 4000000 in
theorem walk_X8_clearText {X : g_X} (O : g_ok X cX8_clearText RX8 (some .int) ({ frames := 1, cells := 0, slots := 0, locals := 21 } : Room)) (hs : (g_xl X).stackTraces = false) (hn : g_xn X = 2) {m : Nat → Int32} {lm : Nat → Int64} {pm : Nat → Nat} {s : Nat → Int32}  : g_V X (fun r : Int32 × (Nat → Int32) => ((.inl (some (.int r.1)), (m, r.2, lm, pm)) : g_Res)) (R_X8_clearText s) 0 0 m (s, lm, pm) 0 [(0, .ref (g_ad X 124))] [] := by
  have hN : ∀ i, Nat.blt i 2 = true → i < g_xn X := fun i h => by rw [hn]; exact g_blt.mp h
  refine r_aload_n O 0 dX8_clearText_0 rfl rfl ?_
  refine r_get O FX8_183 G_124_5 dX8_clearText_1 ?_
  refine r_istore_n (lc' := [(1, .int (s 1301)), (0, .ref (g_ad X 124))]) O dX8_clearText_4 rfl (hN 1 rfl) rfl ?_
  refine r_aload_n O 1 dX8_clearText_5 rfl rfl ?_
  refine r_iconst (x := 0) O dX8_clearText_6 rfl ?_
  refine r_put O (FPX8_183 0) (S_124_5 0) dX8_clearText_7 ?_
  refine r_aload_n O 1 dX8_clearText_10 rfl rfl ?_
  refine r_iload_n O 0 dX8_clearText_11 rfl rfl ?_
  refine r_callVi O [.int (s 1301)] [] (met_X8_tells (g_xl X) hs lm pm m (upd s 1301 0) (s 1301) ) LX8_33 obj_124 rfl rfl rfl dX8_clearText_12 rfl rfl ?_
  exact r_iret O dX8_clearText_15 rfl (Nat.le_of_ble_eq_true rfl) (Nat.le_of_ble_eq_true rfl) rfl
theorem met_X8_clearText (l : Launch) (hs : l.stackTraces = false) (lm : Nat → Int64) (pm : Nat → Nat) (m : Nat → Int32) (s : Nat → Int32)  : g_SM l yX8_clearText cX8_clearText 2 (some .int) ({ frames := 1, cells := 0, slots := 0, locals := 21 } : Room) (fun ad => [.ref (ad 124)]) m (s, lm, pm) ((fun r : Int32 × (Nat → Int32) => ((.inl (some (.int r.1)), (m, r.2, lm, pm)) : g_Res)) (R_X8_clearText s)) :=
  g_sm_of (by decide) (fun _ => Nat.le_of_ble_eq_true rfl) hs (fun X hl hn O => walk_X8_clearText O (by rw [hl]; exact hs) hn )
