/-! ===== the model: reading an order ===== -/
def R_X8_readsOrder (s : Nat → Int32) : (Int32 × (Nat → Int32)) := (if (R_X8_readsRest (upd (upd s 1305 (s (1200 + (s 1304).toNatClampNeg))) 1304 (((upd s 1305 (s (1200 + (s 1304).toNatClampNeg))) 1304) + 1))).1 = 0 then (0, (R_X8_readsRest (upd (upd s 1305 (s (1200 + (s 1304).toNatClampNeg))) 1304 (((upd s 1305 (s (1200 + (s 1304).toNatClampNeg))) 1304) + 1))).2) else (if ((R_X8_readsRest (upd (upd s 1305 (s (1200 + (s 1304).toNatClampNeg))) 1304 (((upd s 1305 (s (1200 + (s 1304).toNatClampNeg))) 1304) + 1))).2 1304) = ((R_X8_readsRest (upd (upd s 1305 (s (1200 + (s 1304).toNatClampNeg))) 1304 (((upd s 1305 (s (1200 + (s 1304).toNatClampNeg))) 1304) + 1))).2 1301) then (0, (R_X8_readsRest (upd (upd s 1305 (s (1200 + (s 1304).toNatClampNeg))) 1304 (((upd s 1305 (s (1200 + (s 1304).toNatClampNeg))) 1304) + 1))).2) else (if ((R_X8_readsRest (upd (upd s 1305 (s (1200 + (s 1304).toNatClampNeg))) 1304 (((upd s 1305 (s (1200 + (s 1304).toNatClampNeg))) 1304) + 1))).2 (1200 + ((R_X8_readsRest (upd (upd s 1305 (s (1200 + (s 1304).toNatClampNeg))) 1304 (((upd s 1305 (s (1200 + (s 1304).toNatClampNeg))) 1304) + 1))).2 1304).toNatClampNeg)) = 59 then (1, (upd (R_X8_readsRest (upd (upd s 1305 (s (1200 + (s 1304).toNatClampNeg))) 1304 (((upd s 1305 (s (1200 + (s 1304).toNatClampNeg))) 1304) + 1))).2 1304 (((R_X8_readsRest (upd (upd s 1305 (s (1200 + (s 1304).toNatClampNeg))) 1304 (((upd s 1305 (s (1200 + (s 1304).toNatClampNeg))) 1304) + 1))).2 1304) + 1))) else (0, (R_X8_readsRest (upd (upd s 1305 (s (1200 + (s 1304).toNatClampNeg))) 1304 (((upd s 1305 (s (1200 + (s 1304).toNatClampNeg))) 1304) + 1))).2))))
set_option maxRecDepth 100000 in
set_option maxHeartbeats 4000000 in
theorem walk_X8_readsOrder {X : g_X} (O : g_ok X cX8_readsOrder RX8 (some .boolean) ({ frames := 4, cells := 0, slots := 0, locals := 88 } : Room)) (hs : (g_xl X).stackTraces = false) (hn : g_xn X = 1) {m : Nat → Int32} {lm : Nat → Int64} {pm : Nat → Nat} {s : Nat → Int32} (p0 : 0 ≤ (s 1304).toInt) (p1 : (s 1304).toInt < (s 1301).toInt) (p2 : (s 1301).toInt ≤ 90) : g_V X (fun r : Int32 × (Nat → Int32) => ((.inl (some (.int r.1)), (m, r.2, lm, pm)) : g_Res)) (R_X8_readsOrder s) 0 0 m (s, lm, pm) 0 [(0, .ref (g_ad X 124))] [] := by
  have hN : ∀ i, Nat.blt i 1 = true → i < g_xn X := fun i h => by rw [hn]; exact g_blt.mp h
  have ha := j_add1 (x := s 1304) (by omega)
  refine r_aload_n O 0 dX8_readsOrder_0 rfl rfl ?_
  refine r_aload_n O 0 dX8_readsOrder_1 rfl rfl ?_
  refine r_get O FX8_19 G_124_4 dX8_readsOrder_2 ?_
  refine r_aload_n O 0 dX8_readsOrder_5 rfl rfl ?_
  refine r_get O FX8_186 G_124_8 dX8_readsOrder_6 ?_
  have iy_9 := j_nat (x := (s 1304)) (by with_reducible omega)
  refine r_iald O R_128 (show vp_in (s 1304) 90 from g_vin (by with_reducible omega) (by with_reducible omega)) dX8_readsOrder_9 ?_
  refine r_put O (FPX8_195 (s (1200 + (s 1304).toNatClampNeg))) (S_124_9 (s (1200 + (s 1304).toNatClampNeg))) dX8_readsOrder_10 ?_
  refine r_aload_n O 0 dX8_readsOrder_13 rfl rfl ?_
  refine r_dup O dX8_readsOrder_14 rfl ?_
  refine r_get O FX8_186 G_124_8 dX8_readsOrder_15 ?_
  refine r_iconst (x := 1) O dX8_readsOrder_18 rfl ?_
  refine r_iadd O dX8_readsOrder_19 ?_
  refine r_put O (FPX8_186 (((upd s 1305 (s (1200 + (s 1304).toNatClampNeg))) 1304) + 1)) (S_124_8 (((upd s 1305 (s (1200 + (s 1304).toNatClampNeg))) 1304) + 1)) dX8_readsOrder_20 ?_
  refine r_aload_n O 0 dX8_readsOrder_23 rfl rfl ?_
  refine r_callVi O [] [] (met_X8_readsRest (g_xl X) hs lm pm m (upd (upd s 1305 (s (1200 + (s 1304).toNatClampNeg))) 1304 (((upd s 1305 (s (1200 + (s 1304).toNatClampNeg))) 1304) + 1)) (by first | decide | with_reducible assumption | with_reducible omega | (simp (disch := omega) only [g_upd_ne, g_upd_eq, fr_X8_walks, fr_X8_sets]; first | with_reducible assumption | with_reducible omega | decide) | exact Or.inl rfl | exact Or.inr rfl) (by first | decide | with_reducible assumption | with_reducible omega | (simp (disch := omega) only [g_upd_ne, g_upd_eq, fr_X8_walks, fr_X8_sets]; first | with_reducible assumption | with_reducible omega | decide) | exact Or.inl rfl | exact Or.inr rfl) (by first | decide | with_reducible assumption | with_reducible omega | (simp (disch := omega) only [g_upd_ne, g_upd_eq, fr_X8_walks, fr_X8_sets]; first | with_reducible assumption | with_reducible omega | decide) | exact Or.inl rfl | exact Or.inr rfl)) LX8_207 obj_124 rfl rfl rfl dX8_readsOrder_24 rfl rfl ?_
  have fr_24 := P_rest (s := (upd (upd s 1305 (s (1200 + (s 1304).toNatClampNeg))) 1304 (((upd s 1305 (s (1200 + (s 1304).toNatClampNeg))) 1304) + 1))) (by first | decide | with_reducible assumption | with_reducible omega | (simp (disch := omega) only [g_upd_ne, g_upd_eq, fr_X8_walks, fr_X8_sets]; first | with_reducible assumption | with_reducible omega | decide) | exact Or.inl rfl | exact Or.inr rfl) (by first | decide | with_reducible assumption | with_reducible omega | (simp (disch := omega) only [g_upd_ne, g_upd_eq, fr_X8_walks, fr_X8_sets]; first | with_reducible assumption | with_reducible omega | decide) | exact Or.inl rfl | exact Or.inr rfl) (by first | decide | with_reducible assumption | with_reducible omega | (simp (disch := omega) only [g_upd_ne, g_upd_eq, fr_X8_walks, fr_X8_sets]; first | with_reducible assumption | with_reducible omega | decide) | exact Or.inl rfl | exact Or.inr rfl)
  unfold g_rd at fr_24
  have g4_24 : (((upd (upd s 1305 (s (1200 + (s 1304).toNatClampNeg))) 1304 (((upd s 1305 (s (1200 + (s 1304).toNatClampNeg))) 1304) + 1))) 1304).toInt = (s 1304).toInt + 1 := by rw [g_upd_eq, g_upd_ne (by omega)]; exact ha
  have g1_24 : (((upd (upd s 1305 (s (1200 + (s 1304).toNatClampNeg))) 1304 (((upd s 1305 (s (1200 + (s 1304).toNatClampNeg))) 1304) + 1))) 1301).toInt = (s 1301).toInt := by rw [g_upd_ne (by omega), g_upd_ne (by omega)]
  refine r_if_eq O 55 dX8_readsOrder_27 (by decide) (fun c_27 => ?_) (fun c_27 => ?_)
  · have e_27 : (R_X8_readsRest (upd (upd s 1305 (s (1200 + (s 1304).toNatClampNeg))) 1304 (((upd s 1305 (s (1200 + (s 1304).toNatClampNeg))) 1304) + 1))).1.toInt = (0 : Int) := j_eqR c_27 rfl
    refine r_iconst (x := 0) O dX8_readsOrder_55 rfl ?_
    exact r_iret O dX8_readsOrder_56 rfl (Nat.le_of_ble_eq_true rfl) (Nat.le_of_ble_eq_true rfl) rfl
  · have e_27 : (R_X8_readsRest (upd (upd s 1305 (s (1200 + (s 1304).toNatClampNeg))) 1304 (((upd s 1305 (s (1200 + (s 1304).toNatClampNeg))) 1304) + 1))).1.toInt ≠ (0 : Int) := j_neR c_27 rfl
    have pq := fr_24.2.2 (fr_24.1.resolve_left c_27)
    refine r_aload_n O 0 dX8_readsOrder_30 rfl rfl ?_
    refine r_get O FX8_186 G_124_8 dX8_readsOrder_31 ?_
    refine r_aload_n O 0 dX8_readsOrder_34 rfl rfl ?_
    refine r_get O FX8_183 G_124_5 dX8_readsOrder_35 ?_
    refine r_icmp_eq O 55 dX8_readsOrder_38 (by decide) (fun c_38 => ?_) (fun c_38 => ?_)
    · have e_38 : ((R_X8_readsRest (upd (upd s 1305 (s (1200 + (s 1304).toNatClampNeg))) 1304 (((upd s 1305 (s (1200 + (s 1304).toNatClampNeg))) 1304) + 1))).2 1304).toInt = ((R_X8_readsRest (upd (upd s 1305 (s (1200 + (s 1304).toNatClampNeg))) 1304 (((upd s 1305 (s (1200 + (s 1304).toNatClampNeg))) 1304) + 1))).2 1301).toInt := j_eq c_38
      refine r_iconst (x := 0) O dX8_readsOrder_55 rfl ?_
      exact r_iret O dX8_readsOrder_56 rfl (Nat.le_of_ble_eq_true rfl) (Nat.le_of_ble_eq_true rfl) rfl
    · have e_38 : ((R_X8_readsRest (upd (upd s 1305 (s (1200 + (s 1304).toNatClampNeg))) 1304 (((upd s 1305 (s (1200 + (s 1304).toNatClampNeg))) 1304) + 1))).2 1304).toInt ≠ ((R_X8_readsRest (upd (upd s 1305 (s (1200 + (s 1304).toNatClampNeg))) 1304 (((upd s 1305 (s (1200 + (s 1304).toNatClampNeg))) 1304) + 1))).2 1301).toInt := j_ne c_38
      refine r_aload_n O 0 dX8_readsOrder_41 rfl rfl ?_
      refine r_get O FX8_19 G_124_4 dX8_readsOrder_42 ?_
      refine r_aload_n O 0 dX8_readsOrder_45 rfl rfl ?_
      refine r_get O FX8_186 G_124_8 dX8_readsOrder_46 ?_
      have iy_49 := j_nat (x := ((R_X8_readsRest (upd (upd s 1305 (s (1200 + (s 1304).toNatClampNeg))) 1304 (((upd s 1305 (s (1200 + (s 1304).toNatClampNeg))) 1304) + 1))).2 1304)) (by with_reducible omega)
      refine r_iald O R_128 (show vp_in ((R_X8_readsRest (upd (upd s 1305 (s (1200 + (s 1304).toNatClampNeg))) 1304 (((upd s 1305 (s (1200 + (s 1304).toNatClampNeg))) 1304) + 1))).2 1304) 90 from g_vin (by with_reducible omega) (by with_reducible omega)) dX8_readsOrder_49 ?_
      refine r_bipush (x := 59) O dX8_readsOrder_50 rfl ?_
      refine r_icmp_eq O 57 dX8_readsOrder_52 (by decide) (fun c_52 => ?_) (fun c_52 => ?_)
      · have e_52 : ((R_X8_readsRest (upd (upd s 1305 (s (1200 + (s 1304).toNatClampNeg))) 1304 (((upd s 1305 (s (1200 + (s 1304).toNatClampNeg))) 1304) + 1))).2 (1200 + ((R_X8_readsRest (upd (upd s 1305 (s (1200 + (s 1304).toNatClampNeg))) 1304 (((upd s 1305 (s (1200 + (s 1304).toNatClampNeg))) 1304) + 1))).2 1304).toNatClampNeg)).toInt = (59 : Int) := j_eqR c_52 rfl
        refine r_aload_n O 0 dX8_readsOrder_57 rfl rfl ?_
        refine r_dup O dX8_readsOrder_58 rfl ?_
        refine r_get O FX8_186 G_124_8 dX8_readsOrder_59 ?_
        refine r_iconst (x := 1) O dX8_readsOrder_62 rfl ?_
        refine r_iadd O dX8_readsOrder_63 ?_
        refine r_put O (FPX8_186 (((R_X8_readsRest (upd (upd s 1305 (s (1200 + (s 1304).toNatClampNeg))) 1304 (((upd s 1305 (s (1200 + (s 1304).toNatClampNeg))) 1304) + 1))).2 1304) + 1)) (S_124_8 (((R_X8_readsRest (upd (upd s 1305 (s (1200 + (s 1304).toNatClampNeg))) 1304 (((upd s 1305 (s (1200 + (s 1304).toNatClampNeg))) 1304) + 1))).2 1304) + 1)) dX8_readsOrder_64 ?_
        refine r_iconst (x := 1) O dX8_readsOrder_67 rfl ?_
        exact r_iret O dX8_readsOrder_68 rfl (Nat.le_of_ble_eq_true rfl) (Nat.le_of_ble_eq_true rfl) rfl
      · have e_52 : ((R_X8_readsRest (upd (upd s 1305 (s (1200 + (s 1304).toNatClampNeg))) 1304 (((upd s 1305 (s (1200 + (s 1304).toNatClampNeg))) 1304) + 1))).2 (1200 + ((R_X8_readsRest (upd (upd s 1305 (s (1200 + (s 1304).toNatClampNeg))) 1304 (((upd s 1305 (s (1200 + (s 1304).toNatClampNeg))) 1304) + 1))).2 1304).toNatClampNeg)).toInt ≠ (59 : Int) := j_neR c_52 rfl
        refine r_iconst (x := 0) O dX8_readsOrder_55 rfl ?_
        exact r_iret O dX8_readsOrder_56 rfl (Nat.le_of_ble_eq_true rfl) (Nat.le_of_ble_eq_true rfl) rfl
theorem met_X8_readsOrder (l : Launch) (hs : l.stackTraces = false) (lm : Nat → Int64) (pm : Nat → Nat) (m : Nat → Int32) (s : Nat → Int32) (p0 : 0 ≤ (s 1304).toInt) (p1 : (s 1304).toInt < (s 1301).toInt) (p2 : (s 1301).toInt ≤ 90) : g_SM l yX8_readsOrder cX8_readsOrder 1 (some .boolean) ({ frames := 4, cells := 0, slots := 0, locals := 88 } : Room) (fun ad => [.ref (ad 124)]) m (s, lm, pm) ((fun r : Int32 × (Nat → Int32) => ((.inl (some (.int r.1)), (m, r.2, lm, pm)) : g_Res)) (R_X8_readsOrder s)) :=
  g_sm_of (by decide) (fun _ => Nat.le_of_ble_eq_true rfl) hs (fun X hl hn O => walk_X8_readsOrder O (by rw [hl]; exact hs) hn p0 p1 p2)
theorem P_order {s : Nat → Int32} (h0 : 0 ≤ (s 1304).toInt) (h1 : (s 1304).toInt < (s 1301).toInt) (h2 : (s 1301).toInt ≤ 90) : ((R_X8_readsOrder s).1 = 0 ∨ (R_X8_readsOrder s).1 = 1) ∧ ((R_X8_readsOrder s).2 1301).toInt = (s 1301).toInt ∧ ((R_X8_readsOrder s).1 = 1 → (s 1304).toInt + 2 ≤ ((R_X8_readsOrder s).2 1304).toInt ∧ ((R_X8_readsOrder s).2 1304).toInt ≤ (s 1301).toInt) := by
  have ha := j_add1 (x := s 1304) (by omega)
  have hm : ∀ m : Nat → Int32, m = upd (upd s 1305 (s (1200 + (s 1304).toNatClampNeg))) 1304 ((upd s 1305 (s (1200 + (s 1304).toNatClampNeg))) 1304 + 1) → m 1304 = s 1304 + 1 ∧ m 1301 = s 1301 := by
    intro m e
    subst e
    exact ⟨by rw [g_upd_eq, g_upd_ne (by omega)], by rw [g_upd_ne (by omega), g_upd_ne (by omega)]⟩
  unfold R_X8_readsOrder
  generalize upd (upd s 1305 (s (1200 + (s 1304).toNatClampNeg))) 1304 ((upd s 1305 (s (1200 + (s 1304).toNatClampNeg))) 1304 + 1) = m at hm ⊢
  obtain ⟨m4, m1⟩ := hm m rfl
  obtain ⟨pa, pb, pc⟩ := P_rest (s := m) (by rw [m4]; omega) (by rw [m4, m1]; omega) (by rw [m1]; omega)
  rw [m1] at pb
  rw [m4, m1] at pc
  generalize R_X8_readsRest m = r at pa pb pc ⊢
  by_cases c : r.1 = 0
  · rw [if_pos c]
    exact ⟨Or.inl rfl, pb, fun z => absurd (show (0 : Int32) = 1 from z) (by decide)⟩
  · have pq := pc (pa.resolve_left c)
    rw [if_neg c]
    by_cases d : r.2 1304 = r.2 1301
    · rw [if_pos d]
      exact ⟨Or.inl rfl, pb, fun z => absurd (show (0 : Int32) = 1 from z) (by decide)⟩
    · rw [if_neg d]
      have d' := j_ne d
      by_cases e : r.2 (1200 + (r.2 1304).toNatClampNeg) = 59
      · rw [if_pos e]
        have hb := j_add1 (x := r.2 1304) (by omega)
        refine ⟨Or.inr rfl, ?_, fun _ => ?_⟩
        · show ((upd r.2 1304 (r.2 1304 + 1)) 1301).toInt = _
          rw [g_upd_ne (by omega)]
          exact pb
        · show _ ≤ ((upd r.2 1304 (r.2 1304 + 1)) 1304).toInt ∧ ((upd r.2 1304 (r.2 1304 + 1)) 1304).toInt ≤ _
          rw [g_upd_eq]
          omega
      · rw [if_neg e]
        exact ⟨Or.inl rfl, pb, fun z => absurd (show (0 : Int32) = 1 from z) (by decide)⟩
