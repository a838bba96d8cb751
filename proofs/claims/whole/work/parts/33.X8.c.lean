/-! ===== the model: deeds ===== -/
theorem z_X8_reason {s : Nat → Int32} {x1 x2 : Int32} (h : R_X8_reason s x1 x2 = 0) : 0 ≤ x2.toInt ∧ x2.toInt ≤ (s 0).toInt := by
  unfold R_X8_reason at h
  by_cases a : R_X8_stands s x1 = 0
  · simp [a] at h
  · by_cases b : R_X8_in s x2 0 (s 0) = 0
    · simp [a, b] at h
    · have := nz_X8_in b
      exact this
theorem fr_X8_sets {s : Nat → Int32} {a b : Int32} {n : Nat} (h2 : n ≠ 58 + 9 * a.toNatClampNeg + 2) (h3 : n ≠ 58 + 9 * a.toNatClampNeg + 3) (h4 : n ≠ 58 + 9 * a.toNatClampNeg + 4) (h8 : n ≠ 58 + 9 * a.toNatClampNeg + 8) : R_X8_sets s a b n = s n := by
  unfold R_X8_sets R_X8_sets_26
  simp only [apply_ite (fun f : Nat → Int32 => f n)]
  simp only [fr_X8_walks h2 h3 h4 h8, ite_self]
def R_X8_goes (s : Nat → Int32) (x1 : Int32) (x2 : Int32) : (Int32 × (Nat → Int32)) := (if (R_X8_isHelper s x1) = 0 then (1, s) else (if (R_X8_reason s x1 x2) = 0 then (0, (upd (R_X8_sets s x1 x2) 1303 ((R_X8_sets s x1 x2) (58 + 9 * x1.toNatClampNeg + 4)))) else (2, s)))
set_option maxRecDepth 100000 in
set_option maxHeartbeats 4000000 in
theorem walk_X8_goes {X : g_X} (O : g_ok X cX8_goes RX8 (some .int) ({ frames := 4, cells := 0, slots := 0, locals := 92 } : Room)) (hs : (g_xl X).stackTraces = false) (hn : g_xn X = 3) {m : Nat → Int32} {lm : Nat → Int64} {pm : Nat → Nat} {s : Nat → Int32} {x1 : Int32} {x2 : Int32} (p0 : g_J s) : g_V X (fun r : Int32 × (Nat → Int32) => ((.inl (some (.int r.1)), (m, r.2, lm, pm)) : g_Res)) (R_X8_goes s x1 x2) 0 0 m (s, lm, pm) 0 [(0, .ref (g_ad X 124)), (1, .int x1), (2, .int x2)] [] := by
  have hN : ∀ i, Nat.blt i 3 = true → i < g_xn X := fun i h => by rw [hn]; exact g_blt.mp h
  obtain ⟨n0, n1, n2, n4, n6, n12, n3⟩ := p0.n
  refine r_aload_n O 0 dX8_goes_0 rfl rfl ?_
  refine r_iload_n O 1 dX8_goes_1 rfl rfl ?_
  refine r_callVi O [.int x1] [] (met_X8_isHelper (g_xl X) hs lm pm m s x1 ) LX8_95 obj_124 rfl rfl rfl dX8_goes_2 rfl rfl ?_
  refine r_if_ne O 10 dX8_goes_5 (by decide) (fun c_5 => ?_) (fun c_5 => ?_)
  · have e_5 : (R_X8_isHelper s x1).toInt = (0 : Int) := j_eqR c_5 rfl
    refine r_iconst (x := 1) O dX8_goes_8 rfl ?_
    exact r_iret O dX8_goes_9 rfl (Nat.le_of_ble_eq_true rfl) (Nat.le_of_ble_eq_true rfl) rfl
  · have e_5 : (R_X8_isHelper s x1).toInt ≠ (0 : Int) := j_neR c_5 rfl
    obtain ⟨z_5a, z_5b⟩ := nz_X8_isHelper c_5
    obtain ⟨jst, jrp⟩ := p0.h z_5a z_5b
    refine r_aload_n O 0 dX8_goes_10 rfl rfl ?_
    refine r_iload_n O 1 dX8_goes_11 rfl rfl ?_
    refine r_iload_n O 2 dX8_goes_12 rfl rfl ?_
    refine r_callVi O [.int x1, .int x2] [] (met_X8_reason (g_xl X) hs lm pm m s x1 x2 (by first | decide | with_reducible assumption | with_reducible omega | (simp (disch := omega) only [g_upd_ne, g_upd_eq, fr_X8_walks, fr_X8_sets]; first | with_reducible assumption | with_reducible omega | decide) | exact Or.inl rfl | exact Or.inr rfl) (by first | decide | with_reducible assumption | with_reducible omega | (simp (disch := omega) only [g_upd_ne, g_upd_eq, fr_X8_walks, fr_X8_sets]; first | with_reducible assumption | with_reducible omega | decide) | exact Or.inl rfl | exact Or.inr rfl) (by first | decide | with_reducible assumption | with_reducible omega | (simp (disch := omega) only [g_upd_ne, g_upd_eq, fr_X8_walks, fr_X8_sets]; first | with_reducible assumption | with_reducible omega | decide) | exact Or.inl rfl | exact Or.inr rfl) (by first | decide | with_reducible assumption | with_reducible omega | (simp (disch := omega) only [g_upd_ne, g_upd_eq, fr_X8_walks, fr_X8_sets]; first | with_reducible assumption | with_reducible omega | decide) | exact Or.inl rfl | exact Or.inr rfl) (by first | decide | with_reducible assumption | with_reducible omega | (simp (disch := omega) only [g_upd_ne, g_upd_eq, fr_X8_walks, fr_X8_sets]; first | with_reducible assumption | with_reducible omega | decide) | exact Or.inl rfl | exact Or.inr rfl)) LX8_98 obj_124 rfl rfl rfl dX8_goes_13 rfl rfl ?_
    refine r_if_eq O 21 dX8_goes_16 (by decide) (fun c_16 => ?_) (fun c_16 => ?_)
    · have e_16 : (R_X8_reason s x1 x2).toInt = (0 : Int) := j_eqR c_16 rfl
      obtain ⟨zr1, zr2⟩ := z_X8_reason c_16
      refine r_aload_n O 0 dX8_goes_21 rfl rfl ?_
      refine r_iload_n O 1 dX8_goes_22 rfl rfl ?_
      refine r_iload_n O 2 dX8_goes_23 rfl rfl ?_
      refine r_callVv O [.int x1, .int x2] [] (met_X8_sets (g_xl X) hs lm pm m s x1 x2 (by first | decide | with_reducible assumption | with_reducible omega | (simp (disch := omega) only [g_upd_ne, g_upd_eq, fr_X8_walks, fr_X8_sets]; first | with_reducible assumption | with_reducible omega | decide) | exact Or.inl rfl | exact Or.inr rfl) (by first | decide | with_reducible assumption | with_reducible omega | (simp (disch := omega) only [g_upd_ne, g_upd_eq, fr_X8_walks, fr_X8_sets]; first | with_reducible assumption | with_reducible omega | decide) | exact Or.inl rfl | exact Or.inr rfl) (by first | decide | with_reducible assumption | with_reducible omega | (simp (disch := omega) only [g_upd_ne, g_upd_eq, fr_X8_walks, fr_X8_sets]; first | with_reducible assumption | with_reducible omega | decide) | exact Or.inl rfl | exact Or.inr rfl) (by first | decide | with_reducible assumption | with_reducible omega | (simp (disch := omega) only [g_upd_ne, g_upd_eq, fr_X8_walks, fr_X8_sets]; first | with_reducible assumption | with_reducible omega | decide) | exact Or.inl rfl | exact Or.inr rfl)) LX8_101 obj_124 rfl rfl rfl dX8_goes_24 rfl rfl ?_
      refine r_aload_n O 0 dX8_goes_27 rfl rfl ?_
      refine r_aload_n O 0 dX8_goes_28 rfl rfl ?_
      refine r_iload_n O 1 dX8_goes_29 rfl rfl ?_
      refine r_iconst (x := 4) O dX8_goes_30 rfl ?_
      refine r_callVi O [.int x1, .int 4] [.ref (g_ad X 124)] (metn_X8_of (g_xl X) hs lm pm m (R_X8_sets s x1 x2) x1 4 (by first | decide | with_reducible assumption | with_reducible omega | (simp (disch := omega) only [g_upd_ne, g_upd_eq, fr_X8_walks, fr_X8_sets]; first | with_reducible assumption | with_reducible omega | decide) | exact Or.inl rfl | exact Or.inr rfl) (by first | decide | with_reducible assumption | with_reducible omega | (simp (disch := omega) only [g_upd_ne, g_upd_eq, fr_X8_walks, fr_X8_sets]; first | with_reducible assumption | with_reducible omega | decide) | exact Or.inl rfl | exact Or.inr rfl) (by decide)) LX8_37 obj_124 rfl rfl rfl dX8_goes_31 rfl rfl ?_
      refine r_put O (FPX8_105 ((R_X8_sets s x1 x2) (58 + 9 * x1.toNatClampNeg + 4))) (S_124_7 ((R_X8_sets s x1 x2) (58 + 9 * x1.toNatClampNeg + 4))) dX8_goes_34 ?_
      refine r_iconst (x := 0) O dX8_goes_37 rfl ?_
      exact r_iret O dX8_goes_38 rfl (Nat.le_of_ble_eq_true rfl) (Nat.le_of_ble_eq_true rfl) rfl
    · have e_16 : (R_X8_reason s x1 x2).toInt ≠ (0 : Int) := j_neR c_16 rfl
      refine r_iconst (x := 2) O dX8_goes_19 rfl ?_
      exact r_iret O dX8_goes_20 rfl (Nat.le_of_ble_eq_true rfl) (Nat.le_of_ble_eq_true rfl) rfl
theorem met_X8_goes (l : Launch) (hs : l.stackTraces = false) (lm : Nat → Int64) (pm : Nat → Nat) (m : Nat → Int32) (s : Nat → Int32) (x1 : Int32) (x2 : Int32) (p0 : g_J s) : g_SM l yX8_goes cX8_goes 3 (some .int) ({ frames := 4, cells := 0, slots := 0, locals := 92 } : Room) (fun ad => [.ref (ad 124), .int x1, .int x2]) m (s, lm, pm) ((fun r : Int32 × (Nat → Int32) => ((.inl (some (.int r.1)), (m, r.2, lm, pm)) : g_Res)) (R_X8_goes s x1 x2)) :=
  g_sm_of (by decide) (fun _ => Nat.le_of_ble_eq_true rfl) hs (fun X hl hn O => walk_X8_goes O (by rw [hl]; exact hs) hn p0)
def R_X8_takes (s : Nat → Int32) (x1 : Int32) (x2 : Int32) : (Int32 × (Nat → Int32)) := (if (R_X8_isHelper s x1) = 0 then (1, s) else (if (R_X8_isRope s x2) = 0 then (1, s) else (if (R_X8_stands s x1) = 0 then (2, s) else (if (s (58 + 9 * x1.toNatClampNeg + 5)) = (-1) then (if (s (((34 + (3 * x2)) + 1).toNatClampNeg)) = 0 then (if (s (((34 + (3 * x2)) + 2).toNatClampNeg)) = (s (58 + 9 * x1.toNatClampNeg + 1)) then (0, (upd (R_X8_gives s x2 x1) 1303 ((R_X8_gives s x2 x1) ((34 + (3 * x2)).toNatClampNeg)))) else (2, s)) else (2, s)) else (2, s)))))
set_option maxRecDepth 100000 in
set_option maxHeartbeats 4000000 in
theorem walk_X8_takes {X : g_X} (O : g_ok X cX8_takes RX8 (some .int) ({ frames := 2, cells := 0, slots := 0, locals := 45 } : Room)) (hs : (g_xl X).stackTraces = false) (hn : g_xn X = 4) {m : Nat → Int32} {lm : Nat → Int64} {pm : Nat → Nat} {s : Nat → Int32} {x1 : Int32} {x2 : Int32} (p0 : g_J s) : g_V X (fun r : Int32 × (Nat → Int32) => ((.inl (some (.int r.1)), (m, r.2, lm, pm)) : g_Res)) (R_X8_takes s x1 x2) 0 0 m (s, lm, pm) 0 [(0, .ref (g_ad X 124)), (1, .int x1), (2, .int x2)] [] := by
  have hN : ∀ i, Nat.blt i 4 = true → i < g_xn X := fun i h => by rw [hn]; exact g_blt.mp h
  obtain ⟨n0, n1, n2, n4, n6, n12, n3⟩ := p0.n
  refine r_aload_n O 0 dX8_takes_0 rfl rfl ?_
  refine r_iload_n O 1 dX8_takes_1 rfl rfl ?_
  refine r_callVi O [.int x1] [] (met_X8_isHelper (g_xl X) hs lm pm m s x1 ) LX8_95 obj_124 rfl rfl rfl dX8_takes_2 rfl rfl ?_
  refine r_if_eq O 16 dX8_takes_5 (by decide) (fun c_5 => ?_) (fun c_5 => ?_)
  · have e_5 : (R_X8_isHelper s x1).toInt = (0 : Int) := j_eqR c_5 rfl
    refine r_iconst (x := 1) O dX8_takes_16 rfl ?_
    exact r_iret O dX8_takes_17 rfl (Nat.le_of_ble_eq_true rfl) (Nat.le_of_ble_eq_true rfl) rfl
  · have e_5 : (R_X8_isHelper s x1).toInt ≠ (0 : Int) := j_neR c_5 rfl
    obtain ⟨z_5a, z_5b⟩ := nz_X8_isHelper c_5
    obtain ⟨jst, jrp⟩ := p0.h z_5a z_5b
    refine r_aload_n O 0 dX8_takes_8 rfl rfl ?_
    refine r_iload_n O 2 dX8_takes_9 rfl rfl ?_
    refine r_callVi O [.int x2] [] (met_X8_isRope (g_xl X) hs lm pm m s x2 ) LX8_108 obj_124 rfl rfl rfl dX8_takes_10 rfl rfl ?_
    refine r_if_ne O 18 dX8_takes_13 (by decide) (fun c_13 => ?_) (fun c_13 => ?_)
    · have e_13 : (R_X8_isRope s x2).toInt = (0 : Int) := j_eqR c_13 rfl
      refine r_iconst (x := 1) O dX8_takes_16 rfl ?_
      exact r_iret O dX8_takes_17 rfl (Nat.le_of_ble_eq_true rfl) (Nat.le_of_ble_eq_true rfl) rfl
    · have e_13 : (R_X8_isRope s x2).toInt ≠ (0 : Int) := j_neR c_13 rfl
      obtain ⟨z_13a, z_13b⟩ := nz_X8_isRope c_13
      refine r_bipush (x := 34) O dX8_takes_18 rfl ?_
      refine r_iconst (x := 3) O dX8_takes_20 rfl ?_
      refine r_iload_n O 2 dX8_takes_21 rfl rfl ?_
      refine r_imul O dX8_takes_22 ?_
      refine r_iadd O dX8_takes_23 ?_
      refine r_istore_n (lc' := [(3, .int (34 + (3 * x2))), (0, .ref (g_ad X 124)), (1, .int x1), (2, .int x2)]) O dX8_takes_24 rfl (hN 3 rfl) rfl ?_
      refine r_aload_n O 1 dX8_takes_25 rfl rfl ?_
      refine r_iload_n O 2 dX8_takes_26 rfl rfl ?_
      refine r_callVi O [.int x1] [] (met_X8_stands (g_xl X) hs lm pm m s x1 (by first | decide | with_reducible assumption | with_reducible omega | (simp (disch := omega) only [g_upd_ne, g_upd_eq, fr_X8_walks, fr_X8_sets]; first | with_reducible assumption | with_reducible omega | decide) | exact Or.inl rfl | exact Or.inr rfl) (by first | decide | with_reducible assumption | with_reducible omega | (simp (disch := omega) only [g_upd_ne, g_upd_eq, fr_X8_walks, fr_X8_sets]; first | with_reducible assumption | with_reducible omega | decide) | exact Or.inl rfl | exact Or.inr rfl)) LX8_81 obj_124 rfl rfl rfl dX8_takes_27 rfl rfl ?_
      refine r_if_eq O 71 dX8_takes_30 (by decide) (fun c_30 => ?_) (fun c_30 => ?_)
      · have e_30 : (R_X8_stands s x1).toInt = (0 : Int) := j_eqR c_30 rfl
        refine r_iconst (x := 2) O dX8_takes_71 rfl ?_
        exact r_iret O dX8_takes_72 rfl (Nat.le_of_ble_eq_true rfl) (Nat.le_of_ble_eq_true rfl) rfl
      · have e_30 : (R_X8_stands s x1).toInt ≠ (0 : Int) := j_neR c_30 rfl
        refine r_aload_n O 1 dX8_takes_33 rfl rfl ?_
        refine r_iload_n O 2 dX8_takes_34 rfl rfl ?_
        refine r_iconst (x := 5) O dX8_takes_35 rfl ?_
        refine r_callVi O [.int x1, .int 5] [] (metn_X8_of (g_xl X) hs lm pm m s x1 5 (by first | decide | with_reducible assumption | with_reducible omega | (simp (disch := omega) only [g_upd_ne, g_upd_eq, fr_X8_walks, fr_X8_sets]; first | with_reducible assumption | with_reducible omega | decide) | exact Or.inl rfl | exact Or.inr rfl) (by first | decide | with_reducible assumption | with_reducible omega | (simp (disch := omega) only [g_upd_ne, g_upd_eq, fr_X8_walks, fr_X8_sets]; first | with_reducible assumption | with_reducible omega | decide) | exact Or.inl rfl | exact Or.inr rfl) (by decide)) LX8_37 obj_124 rfl rfl rfl dX8_takes_36 rfl rfl ?_
        refine r_iconst (x := (-1)) O dX8_takes_39 rfl ?_
        refine r_icmp_ne O 71 dX8_takes_40 (by decide) (fun c_40 => ?_) (fun c_40 => ?_)
        · have e_40 : (s (58 + 9 * x1.toNatClampNeg + 5)).toInt = (-1 : Int) := j_eqR c_40 rfl
          refine r_aload_n O 1 dX8_takes_43 rfl rfl ?_
          refine r_get O FX8_7 G_124_0 dX8_takes_44 ?_
          refine r_iload_n O 0 dX8_takes_47 rfl rfl ?_
          refine r_iconst (x := 1) O dX8_takes_48 rfl ?_
          refine r_iadd O dX8_takes_49 ?_
          have ix_50 : ((34 + (3 * x2)) + 1).toInt = (((34 : Int) + ((3 : Int) * x2.toInt)) + (1 : Int)) := (j_addE (j_addE rfl (j_mulE rfl rfl (by with_reducible omega) (by with_reducible omega)) (by with_reducible omega) (by with_reducible omega)) rfl (by with_reducible omega) (by with_reducible omega))
          have iy_50 := j_nat (x := ((34 + (3 * x2)) + 1)) (by with_reducible omega)
          refine r_iald O R_125 (show vp_in ((34 + (3 * x2)) + 1) 178 from g_vin (by with_reducible omega) (by with_reducible omega)) dX8_takes_50 ?_
          refine r_if_ne O 71 dX8_takes_51 (by decide) (fun c_51 => ?_) (fun c_51 => ?_)
          · have e_51 : (s (((34 + (3 * x2)) + 1).toNatClampNeg)).toInt = (0 : Int) := j_eqR c_51 rfl
            refine r_aload_n O 1 dX8_takes_54 rfl rfl ?_
            refine r_get O FX8_7 G_124_0 dX8_takes_55 ?_
            refine r_iload_n O 0 dX8_takes_58 rfl rfl ?_
            refine r_iconst (x := 2) O dX8_takes_59 rfl ?_
            refine r_iadd O dX8_takes_60 ?_
            have ix_61 : ((34 + (3 * x2)) + 2).toInt = (((34 : Int) + ((3 : Int) * x2.toInt)) + (2 : Int)) := (j_addE (j_addE rfl (j_mulE rfl rfl (by with_reducible omega) (by with_reducible omega)) (by with_reducible omega) (by with_reducible omega)) rfl (by with_reducible omega) (by with_reducible omega))
            have iy_61 := j_nat (x := ((34 + (3 * x2)) + 2)) (by with_reducible omega)
            refine r_iald O R_125 (show vp_in ((34 + (3 * x2)) + 2) 178 from g_vin (by with_reducible omega) (by with_reducible omega)) dX8_takes_61 ?_
            refine r_aload_n O 1 dX8_takes_62 rfl rfl ?_
            refine r_iload_n O 2 dX8_takes_63 rfl rfl ?_
            refine r_iconst (x := 1) O dX8_takes_64 rfl ?_
            refine r_callVi O [.int x1, .int 1] [.int (s (((34 + (3 * x2)) + 2).toNatClampNeg))] (metn_X8_of (g_xl X) hs lm pm m s x1 1 (by first | decide | with_reducible assumption | with_reducible omega | (simp (disch := omega) only [g_upd_ne, g_upd_eq, fr_X8_walks, fr_X8_sets]; first | with_reducible assumption | with_reducible omega | decide) | exact Or.inl rfl | exact Or.inr rfl) (by first | decide | with_reducible assumption | with_reducible omega | (simp (disch := omega) only [g_upd_ne, g_upd_eq, fr_X8_walks, fr_X8_sets]; first | with_reducible assumption | with_reducible omega | decide) | exact Or.inl rfl | exact Or.inr rfl) (by decide)) LX8_37 obj_124 rfl rfl rfl dX8_takes_65 rfl rfl ?_
            refine r_icmp_eq O 73 dX8_takes_68 (by decide) (fun c_68 => ?_) (fun c_68 => ?_)
            · have e_68 : (s (((34 + (3 * x2)) + 2).toNatClampNeg)).toInt = (s (58 + 9 * x1.toNatClampNeg + 1)).toInt := j_eq c_68
              refine r_aload_n O 1 dX8_takes_73 rfl rfl ?_
              refine r_iload_n O 3 dX8_takes_74 rfl rfl ?_
              refine r_iload_n O 2 dX8_takes_75 rfl rfl ?_
              refine r_callVv O [.int x2, .int x1] [] (met_X8_gives (g_xl X) hs lm pm m s x2 x1 (by first | decide | with_reducible assumption | with_reducible omega | (simp (disch := omega) only [g_upd_ne, g_upd_eq, fr_X8_walks, fr_X8_sets]; first | with_reducible assumption | with_reducible omega | decide) | exact Or.inl rfl | exact Or.inr rfl) (by first | decide | with_reducible assumption | with_reducible omega | (simp (disch := omega) only [g_upd_ne, g_upd_eq, fr_X8_walks, fr_X8_sets]; first | with_reducible assumption | with_reducible omega | decide) | exact Or.inl rfl | exact Or.inr rfl) (by first | decide | with_reducible assumption | with_reducible omega | (simp (disch := omega) only [g_upd_ne, g_upd_eq, fr_X8_walks, fr_X8_sets]; first | with_reducible assumption | with_reducible omega | decide) | exact Or.inl rfl | exact Or.inr rfl) (by first | decide | with_reducible assumption | with_reducible omega | (simp (disch := omega) only [g_upd_ne, g_upd_eq, fr_X8_walks, fr_X8_sets]; first | with_reducible assumption | with_reducible omega | decide) | exact Or.inl rfl | exact Or.inr rfl)) LX8_111 obj_124 rfl rfl rfl dX8_takes_76 rfl rfl ?_
              refine r_aload_n O 1 dX8_takes_79 rfl rfl ?_
              refine r_aload_n O 1 dX8_takes_80 rfl rfl ?_
              refine r_get O FX8_7 G_124_0 dX8_takes_81 ?_
              refine r_iload_n O 0 dX8_takes_84 rfl rfl ?_
              have ix_85 : (34 + (3 * x2)).toInt = ((34 : Int) + ((3 : Int) * x2.toInt)) := (j_addE rfl (j_mulE rfl rfl (by with_reducible omega) (by with_reducible omega)) (by with_reducible omega) (by with_reducible omega))
              have iy_85 := j_nat (x := (34 + (3 * x2))) (by with_reducible omega)
              refine r_iald O R_125 (show vp_in (34 + (3 * x2)) 178 from g_vin (by with_reducible omega) (by with_reducible omega)) dX8_takes_85 ?_
              refine r_put O (FPX8_105 ((R_X8_gives s x2 x1) ((34 + (3 * x2)).toNatClampNeg))) (S_124_7 ((R_X8_gives s x2 x1) ((34 + (3 * x2)).toNatClampNeg))) dX8_takes_86 ?_
              refine r_iconst (x := 0) O dX8_takes_89 rfl ?_
              exact r_iret O dX8_takes_90 rfl (Nat.le_of_ble_eq_true rfl) (Nat.le_of_ble_eq_true rfl) rfl
            · have e_68 : (s (((34 + (3 * x2)) + 2).toNatClampNeg)).toInt ≠ (s (58 + 9 * x1.toNatClampNeg + 1)).toInt := j_ne c_68
              refine r_iconst (x := 2) O dX8_takes_71 rfl ?_
              exact r_iret O dX8_takes_72 rfl (Nat.le_of_ble_eq_true rfl) (Nat.le_of_ble_eq_true rfl) rfl
          · have e_51 : (s (((34 + (3 * x2)) + 1).toNatClampNeg)).toInt ≠ (0 : Int) := j_neR c_51 rfl
            refine r_iconst (x := 2) O dX8_takes_71 rfl ?_
            exact r_iret O dX8_takes_72 rfl (Nat.le_of_ble_eq_true rfl) (Nat.le_of_ble_eq_true rfl) rfl
        · have e_40 : (s (58 + 9 * x1.toNatClampNeg + 5)).toInt ≠ (-1 : Int) := j_neR c_40 rfl
          refine r_iconst (x := 2) O dX8_takes_71 rfl ?_
          exact r_iret O dX8_takes_72 rfl (Nat.le_of_ble_eq_true rfl) (Nat.le_of_ble_eq_true rfl) rfl
theorem met_X8_takes (l : Launch) (hs : l.stackTraces = false) (lm : Nat → Int64) (pm : Nat → Nat) (m : Nat → Int32) (s : Nat → Int32) (x1 : Int32) (x2 : Int32) (p0 : g_J s) : g_SM l yX8_takes cX8_takes 4 (some .int) ({ frames := 2, cells := 0, slots := 0, locals := 45 } : Room) (fun ad => [.ref (ad 124), .int x1, .int x2]) m (s, lm, pm) ((fun r : Int32 × (Nat → Int32) => ((.inl (some (.int r.1)), (m, r.2, lm, pm)) : g_Res)) (R_X8_takes s x1 x2)) :=
  g_sm_of (by decide) (fun _ => Nat.le_of_ble_eq_true rfl) hs (fun X hl hn O => walk_X8_takes O (by rw [hl]; exact hs) hn p0)
def R_X8_rigsAt (s : Nat → Int32) (x1 : Int32) : (Int32 × (Nat → Int32)) := (if (R_X8_isHelper s x1) = 0 then (1, s) else (if (R_X8_stands s x1) = 0 then (2, s) else (if (s (58 + 9 * x1.toNatClampNeg + 5)) = (-1) then (2, s) else (if (R_X8_isPassage s (s (58 + 9 * x1.toNatClampNeg + 1))) = 0 then (2, s) else (if (R_X8_isShut s (s (58 + 9 * x1.toNatClampNeg + 1))) = 0 then (2, s) else (if (R_X8_rigger s (s (58 + 9 * x1.toNatClampNeg + 1))) = (-1) then (if (R_X8_holdsAt s (s (58 + 9 * x1.toNatClampNeg + 5)) (s (58 + 9 * x1.toNatClampNeg + 1))) = 0 then (2, s) else (if (R_X8_isInTime s x1 (s (58 + 9 * x1.toNatClampNeg + 1)) 10) = 0 then (2, s) else (0, (upd (upd (upd s (58 + 9 * x1.toNatClampNeg + 2) 2) (58 + 9 * x1.toNatClampNeg + 4) 10) 1303 (s (58 + 9 * x1.toNatClampNeg + 1)))))) else (2, s)))))))
set_option maxRecDepth 100000 in
set_option maxHeartbeats 4000000 in
theorem walk_X8_rigsAt {X : g_X} (O : g_ok X cX8_rigsAt RX8 (some .int) ({ frames := 3, cells := 0, slots := 0, locals := 67 } : Room)) (hs : (g_xl X).stackTraces = false) (hn : g_xn X = 3) {m : Nat → Int32} {lm : Nat → Int64} {pm : Nat → Nat} {s : Nat → Int32} {x1 : Int32} (p0 : g_J s) : g_V X (fun r : Int32 × (Nat → Int32) => ((.inl (some (.int r.1)), (m, r.2, lm, pm)) : g_Res)) (R_X8_rigsAt s x1) 0 0 m (s, lm, pm) 0 [(0, .ref (g_ad X 124)), (1, .int x1)] [] := by
  have hN : ∀ i, Nat.blt i 3 = true → i < g_xn X := fun i h => by rw [hn]; exact g_blt.mp h
  obtain ⟨n0, n1, n2, n4, n6, n12, n3⟩ := p0.n
  refine r_aload_n O 0 dX8_rigsAt_0 rfl rfl ?_
  refine r_iload_n O 1 dX8_rigsAt_1 rfl rfl ?_
  refine r_callVi O [.int x1] [] (met_X8_isHelper (g_xl X) hs lm pm m s x1 ) LX8_95 obj_124 rfl rfl rfl dX8_rigsAt_2 rfl rfl ?_
  refine r_if_ne O 10 dX8_rigsAt_5 (by decide) (fun c_5 => ?_) (fun c_5 => ?_)
  · have e_5 : (R_X8_isHelper s x1).toInt = (0 : Int) := j_eqR c_5 rfl
    refine r_iconst (x := 1) O dX8_rigsAt_8 rfl ?_
    exact r_iret O dX8_rigsAt_9 rfl (Nat.le_of_ble_eq_true rfl) (Nat.le_of_ble_eq_true rfl) rfl
  · have e_5 : (R_X8_isHelper s x1).toInt ≠ (0 : Int) := j_neR c_5 rfl
    obtain ⟨z_5a, z_5b⟩ := nz_X8_isHelper c_5
    obtain ⟨jst, jrp⟩ := p0.h z_5a z_5b
    refine r_aload_n O 0 dX8_rigsAt_10 rfl rfl ?_
    refine r_iload_n O 1 dX8_rigsAt_11 rfl rfl ?_
    refine r_iconst (x := 1) O dX8_rigsAt_12 rfl ?_
    refine r_callVi O [.int x1, .int 1] [] (metn_X8_of (g_xl X) hs lm pm m s x1 1 (by first | decide | with_reducible assumption | with_reducible omega | (simp (disch := omega) only [g_upd_ne, g_upd_eq, fr_X8_walks, fr_X8_sets]; first | with_reducible assumption | with_reducible omega | decide) | exact Or.inl rfl | exact Or.inr rfl) (by first | decide | with_reducible assumption | with_reducible omega | (simp (disch := omega) only [g_upd_ne, g_upd_eq, fr_X8_walks, fr_X8_sets]; first | with_reducible assumption | with_reducible omega | decide) | exact Or.inl rfl | exact Or.inr rfl) (by decide)) LX8_37 obj_124 rfl rfl rfl dX8_rigsAt_13 rfl rfl ?_
    refine r_istore_n (lc' := [(2, .int (s (58 + 9 * x1.toNatClampNeg + 1))), (0, .ref (g_ad X 124)), (1, .int x1)]) O dX8_rigsAt_16 rfl (hN 2 rfl) rfl ?_
    refine r_aload_n O 1 dX8_rigsAt_17 rfl rfl ?_
    refine r_iload_n O 2 dX8_rigsAt_18 rfl rfl ?_
    refine r_callVi O [.int x1] [] (met_X8_stands (g_xl X) hs lm pm m s x1 (by first | decide | with_reducible assumption | with_reducible omega | (simp (disch := omega) only [g_upd_ne, g_upd_eq, fr_X8_walks, fr_X8_sets]; first | with_reducible assumption | with_reducible omega | decide) | exact Or.inl rfl | exact Or.inr rfl) (by first | decide | with_reducible assumption | with_reducible omega | (simp (disch := omega) only [g_upd_ne, g_upd_eq, fr_X8_walks, fr_X8_sets]; first | with_reducible assumption | with_reducible omega | decide) | exact Or.inl rfl | exact Or.inr rfl)) LX8_81 obj_124 rfl rfl rfl dX8_rigsAt_19 rfl rfl ?_
    refine r_if_eq O 60 dX8_rigsAt_22 (by decide) (fun c_22 => ?_) (fun c_22 => ?_)
    · have e_22 : (R_X8_stands s x1).toInt = (0 : Int) := j_eqR c_22 rfl
      refine r_iconst (x := 2) O dX8_rigsAt_60 rfl ?_
      exact r_iret O dX8_rigsAt_61 rfl (Nat.le_of_ble_eq_true rfl) (Nat.le_of_ble_eq_true rfl) rfl
    · have e_22 : (R_X8_stands s x1).toInt ≠ (0 : Int) := j_neR c_22 rfl
      refine r_aload_n O 1 dX8_rigsAt_25 rfl rfl ?_
      refine r_iload_n O 2 dX8_rigsAt_26 rfl rfl ?_
      refine r_iconst (x := 5) O dX8_rigsAt_27 rfl ?_
      refine r_callVi O [.int x1, .int 5] [] (metn_X8_of (g_xl X) hs lm pm m s x1 5 (by first | decide | with_reducible assumption | with_reducible omega | (simp (disch := omega) only [g_upd_ne, g_upd_eq, fr_X8_walks, fr_X8_sets]; first | with_reducible assumption | with_reducible omega | decide) | exact Or.inl rfl | exact Or.inr rfl) (by first | decide | with_reducible assumption | with_reducible omega | (simp (disch := omega) only [g_upd_ne, g_upd_eq, fr_X8_walks, fr_X8_sets]; first | with_reducible assumption | with_reducible omega | decide) | exact Or.inl rfl | exact Or.inr rfl) (by decide)) LX8_37 obj_124 rfl rfl rfl dX8_rigsAt_28 rfl rfl ?_
      refine r_iconst (x := (-1)) O dX8_rigsAt_31 rfl ?_
      refine r_icmp_eq O 60 dX8_rigsAt_32 (by decide) (fun c_32 => ?_) (fun c_32 => ?_)
      · have e_32 : (s (58 + 9 * x1.toNatClampNeg + 5)).toInt = (-1 : Int) := j_eqR c_32 rfl
        refine r_iconst (x := 2) O dX8_rigsAt_60 rfl ?_
        exact r_iret O dX8_rigsAt_61 rfl (Nat.le_of_ble_eq_true rfl) (Nat.le_of_ble_eq_true rfl) rfl
      · have e_32 : (s (58 + 9 * x1.toNatClampNeg + 5)).toInt ≠ (-1 : Int) := j_neR c_32 rfl
        refine r_aload_n O 1 dX8_rigsAt_35 rfl rfl ?_
        refine r_iload_n O 0 dX8_rigsAt_36 rfl rfl ?_
        refine r_callVi O [.int (s (58 + 9 * x1.toNatClampNeg + 1))] [] (met_X8_isPassage (g_xl X) hs lm pm m s (s (58 + 9 * x1.toNatClampNeg + 1)) ) LX8_67 obj_124 rfl rfl rfl dX8_rigsAt_37 rfl rfl ?_
        refine r_if_eq O 60 dX8_rigsAt_40 (by decide) (fun c_40 => ?_) (fun c_40 => ?_)
        · have e_40 : (R_X8_isPassage s (s (58 + 9 * x1.toNatClampNeg + 1))).toInt = (0 : Int) := j_eqR c_40 rfl
          refine r_iconst (x := 2) O dX8_rigsAt_60 rfl ?_
          exact r_iret O dX8_rigsAt_61 rfl (Nat.le_of_ble_eq_true rfl) (Nat.le_of_ble_eq_true rfl) rfl
        · have e_40 : (R_X8_isPassage s (s (58 + 9 * x1.toNatClampNeg + 1))).toInt ≠ (0 : Int) := j_neR c_40 rfl
          obtain ⟨z_40a, z_40b⟩ := nz_X8_isPassage c_40
          refine r_aload_n O 1 dX8_rigsAt_43 rfl rfl ?_
          refine r_iload_n O 0 dX8_rigsAt_44 rfl rfl ?_
          refine r_callVi O [.int (s (58 + 9 * x1.toNatClampNeg + 1))] [] (met_X8_isShut (g_xl X) hs lm pm m s (s (58 + 9 * x1.toNatClampNeg + 1)) (by first | decide | with_reducible assumption | with_reducible omega | (simp (disch := omega) only [g_upd_ne, g_upd_eq, fr_X8_walks, fr_X8_sets]; first | with_reducible assumption | with_reducible omega | decide) | exact Or.inl rfl | exact Or.inr rfl) (by first | decide | with_reducible assumption | with_reducible omega | (simp (disch := omega) only [g_upd_ne, g_upd_eq, fr_X8_walks, fr_X8_sets]; first | with_reducible assumption | with_reducible omega | decide) | exact Or.inl rfl | exact Or.inr rfl)) LX8_44 obj_124 rfl rfl rfl dX8_rigsAt_45 rfl rfl ?_
          refine r_if_eq O 60 dX8_rigsAt_48 (by decide) (fun c_48 => ?_) (fun c_48 => ?_)
          · have e_48 : (R_X8_isShut s (s (58 + 9 * x1.toNatClampNeg + 1))).toInt = (0 : Int) := j_eqR c_48 rfl
            refine r_iconst (x := 2) O dX8_rigsAt_60 rfl ?_
            exact r_iret O dX8_rigsAt_61 rfl (Nat.le_of_ble_eq_true rfl) (Nat.le_of_ble_eq_true rfl) rfl
          · have e_48 : (R_X8_isShut s (s (58 + 9 * x1.toNatClampNeg + 1))).toInt ≠ (0 : Int) := j_neR c_48 rfl
            refine r_aload_n O 1 dX8_rigsAt_51 rfl rfl ?_
            refine r_iload_n O 0 dX8_rigsAt_52 rfl rfl ?_
            refine r_callVi O [.int (s (58 + 9 * x1.toNatClampNeg + 1))] [] (met_X8_rigger (g_xl X) hs lm pm m s (s (58 + 9 * x1.toNatClampNeg + 1)) (by first | decide | with_reducible assumption | with_reducible omega | (simp (disch := omega) only [g_upd_ne, g_upd_eq, fr_X8_walks, fr_X8_sets]; first | with_reducible assumption | with_reducible omega | decide) | exact Or.inl rfl | exact Or.inr rfl)) LX8_70 obj_124 rfl rfl rfl dX8_rigsAt_53 rfl rfl ?_
            refine r_iconst (x := (-1)) O dX8_rigsAt_56 rfl ?_
            refine r_icmp_eq O 62 dX8_rigsAt_57 (by decide) (fun c_57 => ?_) (fun c_57 => ?_)
            · have e_57 : (R_X8_rigger s (s (58 + 9 * x1.toNatClampNeg + 1))).toInt = (-1 : Int) := j_eqR c_57 rfl
              refine r_aload_n O 1 dX8_rigsAt_62 rfl rfl ?_
              refine r_aload_n O 1 dX8_rigsAt_63 rfl rfl ?_
              refine r_iload_n O 2 dX8_rigsAt_64 rfl rfl ?_
              refine r_iconst (x := 5) O dX8_rigsAt_65 rfl ?_
              refine r_callVi O [.int x1, .int 5] [.ref (g_ad X 124)] (metn_X8_of (g_xl X) hs lm pm m s x1 5 (by first | decide | with_reducible assumption | with_reducible omega | (simp (disch := omega) only [g_upd_ne, g_upd_eq, fr_X8_walks, fr_X8_sets]; first | with_reducible assumption | with_reducible omega | decide) | exact Or.inl rfl | exact Or.inr rfl) (by first | decide | with_reducible assumption | with_reducible omega | (simp (disch := omega) only [g_upd_ne, g_upd_eq, fr_X8_walks, fr_X8_sets]; first | with_reducible assumption | with_reducible omega | decide) | exact Or.inl rfl | exact Or.inr rfl) (by decide)) LX8_37 obj_124 rfl rfl rfl dX8_rigsAt_66 rfl rfl ?_
              refine r_iload_n O 0 dX8_rigsAt_69 rfl rfl ?_
              refine r_callVi O [.int (s (58 + 9 * x1.toNatClampNeg + 5)), .int (s (58 + 9 * x1.toNatClampNeg + 1))] [] (met_X8_holdsAt (g_xl X) hs lm pm m s (s (58 + 9 * x1.toNatClampNeg + 5)) (s (58 + 9 * x1.toNatClampNeg + 1)) (by first | decide | with_reducible assumption | with_reducible omega | (simp (disch := omega) only [g_upd_ne, g_upd_eq, fr_X8_walks, fr_X8_sets]; first | with_reducible assumption | with_reducible omega | decide) | exact Or.inl rfl | exact Or.inr rfl) (by first | decide | with_reducible assumption | with_reducible omega | (simp (disch := omega) only [g_upd_ne, g_upd_eq, fr_X8_walks, fr_X8_sets]; first | with_reducible assumption | with_reducible omega | decide) | exact Or.inl rfl | exact Or.inr rfl) (by first | decide | with_reducible assumption | with_reducible omega | (simp (disch := omega) only [g_upd_ne, g_upd_eq, fr_X8_walks, fr_X8_sets]; first | with_reducible assumption | with_reducible omega | decide) | exact Or.inl rfl | exact Or.inr rfl) (by first | decide | with_reducible assumption | with_reducible omega | (simp (disch := omega) only [g_upd_ne, g_upd_eq, fr_X8_walks, fr_X8_sets]; first | with_reducible assumption | with_reducible omega | decide) | exact Or.inl rfl | exact Or.inr rfl)) LX8_114 obj_124 rfl rfl rfl dX8_rigsAt_70 rfl rfl ?_
              refine r_if_eq O 87 dX8_rigsAt_73 (by decide) (fun c_73 => ?_) (fun c_73 => ?_)
              · have e_73 : (R_X8_holdsAt s (s (58 + 9 * x1.toNatClampNeg + 5)) (s (58 + 9 * x1.toNatClampNeg + 1))).toInt = (0 : Int) := j_eqR c_73 rfl
                refine r_iconst (x := 2) O dX8_rigsAt_87 rfl ?_
                exact r_iret O dX8_rigsAt_88 rfl (Nat.le_of_ble_eq_true rfl) (Nat.le_of_ble_eq_true rfl) rfl
              · have e_73 : (R_X8_holdsAt s (s (58 + 9 * x1.toNatClampNeg + 5)) (s (58 + 9 * x1.toNatClampNeg + 1))).toInt ≠ (0 : Int) := j_neR c_73 rfl
                refine r_aload_n O 1 dX8_rigsAt_76 rfl rfl ?_
                refine r_iload_n O 2 dX8_rigsAt_77 rfl rfl ?_
                refine r_iload_n O 0 dX8_rigsAt_78 rfl rfl ?_
                refine r_bipush (x := 10) O dX8_rigsAt_79 rfl ?_
                refine r_callVi O [.int x1, .int (s (58 + 9 * x1.toNatClampNeg + 1)), .int 10] [] (met_X8_isInTime (g_xl X) hs lm pm m s x1 (s (58 + 9 * x1.toNatClampNeg + 1)) 10 (by first | decide | with_reducible assumption | with_reducible omega | (simp (disch := omega) only [g_upd_ne, g_upd_eq, fr_X8_walks, fr_X8_sets]; first | with_reducible assumption | with_reducible omega | decide) | exact Or.inl rfl | exact Or.inr rfl) (by first | decide | with_reducible assumption | with_reducible omega | (simp (disch := omega) only [g_upd_ne, g_upd_eq, fr_X8_walks, fr_X8_sets]; first | with_reducible assumption | with_reducible omega | decide) | exact Or.inl rfl | exact Or.inr rfl) (by first | decide | with_reducible assumption | with_reducible omega | (simp (disch := omega) only [g_upd_ne, g_upd_eq, fr_X8_walks, fr_X8_sets]; first | with_reducible assumption | with_reducible omega | decide) | exact Or.inl rfl | exact Or.inr rfl)) LX8_88 obj_124 rfl rfl rfl dX8_rigsAt_81 rfl rfl ?_
                refine r_if_ne O 89 dX8_rigsAt_84 (by decide) (fun c_84 => ?_) (fun c_84 => ?_)
                · have e_84 : (R_X8_isInTime s x1 (s (58 + 9 * x1.toNatClampNeg + 1)) 10).toInt = (0 : Int) := j_eqR c_84 rfl
                  refine r_iconst (x := 2) O dX8_rigsAt_87 rfl ?_
                  exact r_iret O dX8_rigsAt_88 rfl (Nat.le_of_ble_eq_true rfl) (Nat.le_of_ble_eq_true rfl) rfl
                · have e_84 : (R_X8_isInTime s x1 (s (58 + 9 * x1.toNatClampNeg + 1)) 10).toInt ≠ (0 : Int) := j_neR c_84 rfl
                  refine r_aload_n O 1 dX8_rigsAt_89 rfl rfl ?_
                  refine r_iload_n O 2 dX8_rigsAt_90 rfl rfl ?_
                  refine r_iconst (x := 2) O dX8_rigsAt_91 rfl ?_
                  refine r_iconst (x := 2) O dX8_rigsAt_92 rfl ?_
                  refine r_callVv O [.int x1, .int 2, .int 2] [] (metn_X8_lays (g_xl X) hs lm pm m s x1 2 2 (by first | decide | with_reducible assumption | with_reducible omega | (simp (disch := omega) only [g_upd_ne, g_upd_eq, fr_X8_walks, fr_X8_sets]; first | with_reducible assumption | with_reducible omega | decide) | exact Or.inl rfl | exact Or.inr rfl) (by first | decide | with_reducible assumption | with_reducible omega | (simp (disch := omega) only [g_upd_ne, g_upd_eq, fr_X8_walks, fr_X8_sets]; first | with_reducible assumption | with_reducible omega | decide) | exact Or.inl rfl | exact Or.inr rfl) (by decide)) LX8_76 obj_124 rfl rfl rfl dX8_rigsAt_93 rfl rfl ?_
                  refine r_aload_n O 1 dX8_rigsAt_96 rfl rfl ?_
                  refine r_iload_n O 2 dX8_rigsAt_97 rfl rfl ?_
                  refine r_iconst (x := 4) O dX8_rigsAt_98 rfl ?_
                  refine r_bipush (x := 10) O dX8_rigsAt_99 rfl ?_
                  refine r_callVv O [.int x1, .int 4, .int 10] [] (metn_X8_lays (g_xl X) hs lm pm m (upd s (58 + 9 * x1.toNatClampNeg + 2) 2) x1 4 10 (by first | decide | with_reducible assumption | with_reducible omega | (simp (disch := omega) only [g_upd_ne, g_upd_eq, fr_X8_walks, fr_X8_sets]; first | with_reducible assumption | with_reducible omega | decide) | exact Or.inl rfl | exact Or.inr rfl) (by first | decide | with_reducible assumption | with_reducible omega | (simp (disch := omega) only [g_upd_ne, g_upd_eq, fr_X8_walks, fr_X8_sets]; first | with_reducible assumption | with_reducible omega | decide) | exact Or.inl rfl | exact Or.inr rfl) (by decide)) LX8_76 obj_124 rfl rfl rfl dX8_rigsAt_101 rfl rfl ?_
                  refine r_aload_n O 1 dX8_rigsAt_104 rfl rfl ?_
                  refine r_iload_n O 0 dX8_rigsAt_105 rfl rfl ?_
                  refine r_put O (FPX8_105 (s (58 + 9 * x1.toNatClampNeg + 1))) (S_124_7 (s (58 + 9 * x1.toNatClampNeg + 1))) dX8_rigsAt_106 ?_
                  refine r_iconst (x := 0) O dX8_rigsAt_109 rfl ?_
                  exact r_iret O dX8_rigsAt_110 rfl (Nat.le_of_ble_eq_true rfl) (Nat.le_of_ble_eq_true rfl) rfl
            · have e_57 : (R_X8_rigger s (s (58 + 9 * x1.toNatClampNeg + 1))).toInt ≠ (-1 : Int) := j_neR c_57 rfl
              refine r_iconst (x := 2) O dX8_rigsAt_60 rfl ?_
              exact r_iret O dX8_rigsAt_61 rfl (Nat.le_of_ble_eq_true rfl) (Nat.le_of_ble_eq_true rfl) rfl
theorem met_X8_rigsAt (l : Launch) (hs : l.stackTraces = false) (lm : Nat → Int64) (pm : Nat → Nat) (m : Nat → Int32) (s : Nat → Int32) (x1 : Int32) (p0 : g_J s) : g_SM l yX8_rigsAt cX8_rigsAt 3 (some .int) ({ frames := 3, cells := 0, slots := 0, locals := 67 } : Room) (fun ad => [.ref (ad 124), .int x1]) m (s, lm, pm) ((fun r : Int32 × (Nat → Int32) => ((.inl (some (.int r.1)), (m, r.2, lm, pm)) : g_Res)) (R_X8_rigsAt s x1)) :=
  g_sm_of (by decide) (fun _ => Nat.le_of_ble_eq_true rfl) hs (fun X hl hn O => walk_X8_rigsAt O (by rw [hl]; exact hs) hn p0)
def R_X8_sends_115 (s_115 : Nat → Int32) : (Int32 × (Nat → Int32)) := (0, (upd s_115 1303 (s_115 (6))))
def R_X8_sends_43 (s : Nat → Int32) (x1 : Int32) : (Int32 × (Nat → Int32)) := (if (s (58 + 9 * x1.toNatClampNeg + 1)) = 0 then (R_X8_sends_115  (upd s (7) ((s (7)) + 1))) else (R_X8_sends_115  (upd (upd (upd (upd s ((112 + (3 * (s (6)))).toNatClampNeg) x1) (((112 + (3 * (s (6)))) + 1).toNatClampNeg) ((upd s ((112 + (3 * (s (6)))).toNatClampNeg) x1) (3))) (((112 + (3 * (s (6)))) + 2).toNatClampNeg) (s (58 + 9 * x1.toNatClampNeg + 1))) (6) (((upd (upd (upd s ((112 + (3 * (s (6)))).toNatClampNeg) x1) (((112 + (3 * (s (6)))) + 1).toNatClampNeg) ((upd s ((112 + (3 * (s (6)))).toNatClampNeg) x1) (3))) (((112 + (3 * (s (6)))) + 2).toNatClampNeg) (s (58 + 9 * x1.toNatClampNeg + 1))) (6)) + 1))))
def R_X8_sends (s : Nat → Int32) (x1 : Int32) : (Int32 × (Nat → Int32)) := (if (R_X8_isHelper s x1) = 0 then (1, s) else (if (R_X8_stands s x1) = 0 then (2, s) else (if (s (58 + 9 * x1.toNatClampNeg + 1)) ≤ 0 then (R_X8_sends_43 s x1 ) else (if (s (6)) = 10 then (2, s) else (R_X8_sends_43 s x1 )))))
set_option maxRecDepth 100000 in
set_option maxHeartbeats 4000000 in
theorem walk_X8_sends {X : g_X} (O : g_ok X cX8_sends RX8 (some .int) ({ frames := 2, cells := 0, slots := 0, locals := 43 } : Room)) (hs : (g_xl X).stackTraces = false) (hn : g_xn X = 4) {m : Nat → Int32} {lm : Nat → Int64} {pm : Nat → Nat} {s : Nat → Int32} {x1 : Int32} (p0 : g_J s) : g_V X (fun r : Int32 × (Nat → Int32) => ((.inl (some (.int r.1)), (m, r.2, lm, pm)) : g_Res)) (R_X8_sends s x1) 0 0 m (s, lm, pm) 0 [(0, .ref (g_ad X 124)), (1, .int x1)] [] := by
  have hN : ∀ i, Nat.blt i 4 = true → i < g_xn X := fun i h => by rw [hn]; exact g_blt.mp h
  obtain ⟨n0, n1, n2, n4, n6, n12, n3⟩ := p0.n
  refine r_aload_n O 0 dX8_sends_0 rfl rfl ?_
  refine r_iload_n O 1 dX8_sends_1 rfl rfl ?_
  refine r_callVi O [.int x1] [] (met_X8_isHelper (g_xl X) hs lm pm m s x1 ) LX8_95 obj_124 rfl rfl rfl dX8_sends_2 rfl rfl ?_
  refine r_if_ne O 10 dX8_sends_5 (by decide) (fun c_5 => ?_) (fun c_5 => ?_)
  · have e_5 : (R_X8_isHelper s x1).toInt = (0 : Int) := j_eqR c_5 rfl
    refine r_iconst (x := 1) O dX8_sends_8 rfl ?_
    exact r_iret O dX8_sends_9 rfl (Nat.le_of_ble_eq_true rfl) (Nat.le_of_ble_eq_true rfl) rfl
  · have e_5 : (R_X8_isHelper s x1).toInt ≠ (0 : Int) := j_neR c_5 rfl
    obtain ⟨z_5a, z_5b⟩ := nz_X8_isHelper c_5
    obtain ⟨jst, jrp⟩ := p0.h z_5a z_5b
    refine r_aload_n O 0 dX8_sends_10 rfl rfl ?_
    refine r_iload_n O 1 dX8_sends_11 rfl rfl ?_
    refine r_iconst (x := 1) O dX8_sends_12 rfl ?_
    refine r_callVi O [.int x1, .int 1] [] (metn_X8_of (g_xl X) hs lm pm m s x1 1 (by first | decide | with_reducible assumption | with_reducible omega | (simp (disch := omega) only [g_upd_ne, g_upd_eq, fr_X8_walks, fr_X8_sets]; first | with_reducible assumption | with_reducible omega | decide) | exact Or.inl rfl | exact Or.inr rfl) (by first | decide | with_reducible assumption | with_reducible omega | (simp (disch := omega) only [g_upd_ne, g_upd_eq, fr_X8_walks, fr_X8_sets]; first | with_reducible assumption | with_reducible omega | decide) | exact Or.inl rfl | exact Or.inr rfl) (by decide)) LX8_37 obj_124 rfl rfl rfl dX8_sends_13 rfl rfl ?_
    refine r_istore_n (lc' := [(2, .int (s (58 + 9 * x1.toNatClampNeg + 1))), (0, .ref (g_ad X 124)), (1, .int x1)]) O dX8_sends_16 rfl (hN 2 rfl) rfl ?_
    refine r_aload_n O 1 dX8_sends_17 rfl rfl ?_
    refine r_iload_n O 2 dX8_sends_18 rfl rfl ?_
    refine r_callVi O [.int x1] [] (met_X8_stands (g_xl X) hs lm pm m s x1 (by first | decide | with_reducible assumption | with_reducible omega | (simp (disch := omega) only [g_upd_ne, g_upd_eq, fr_X8_walks, fr_X8_sets]; first | with_reducible assumption | with_reducible omega | decide) | exact Or.inl rfl | exact Or.inr rfl) (by first | decide | with_reducible assumption | with_reducible omega | (simp (disch := omega) only [g_upd_ne, g_upd_eq, fr_X8_walks, fr_X8_sets]; first | with_reducible assumption | with_reducible omega | decide) | exact Or.inl rfl | exact Or.inr rfl)) LX8_81 obj_124 rfl rfl rfl dX8_sends_19 rfl rfl ?_
    refine r_if_eq O 41 dX8_sends_22 (by decide) (fun c_22 => ?_) (fun c_22 => ?_)
    · have e_22 : (R_X8_stands s x1).toInt = (0 : Int) := j_eqR c_22 rfl
      refine r_iconst (x := 2) O dX8_sends_41 rfl ?_
      exact r_iret O dX8_sends_42 rfl (Nat.le_of_ble_eq_true rfl) (Nat.le_of_ble_eq_true rfl) rfl
    · have e_22 : (R_X8_stands s x1).toInt ≠ (0 : Int) := j_neR c_22 rfl
      refine r_iload_n O 0 dX8_sends_25 rfl rfl ?_
      have J_43 : ∀  (hj0 : (s (58 + 9 * x1.toNatClampNeg + 1)).toInt ≤ 0 ∨ (s 6).toInt < 10), g_V X (fun r : Int32 × (Nat → Int32) => ((.inl (some (.int r.1)), (m, r.2, lm, pm)) : g_Res)) (R_X8_sends_43 s x1 ) 0 0 m (s, lm, pm) 43 [(0, .ref (g_ad X 124)), (1, .int x1), (2, .int (s (58 + 9 * x1.toNatClampNeg + 1)))] [] := by
        intro  hj0
        refine r_iload_n O 2 dX8_sends_43 rfl rfl ?_
        have J_115 : ∀ (s_115 : Nat → Int32), g_V X (fun r : Int32 × (Nat → Int32) => ((.inl (some (.int r.1)), (m, r.2, lm, pm)) : g_Res)) (R_X8_sends_115  s_115) 0 0 m (s_115, lm, pm) 115 [(0, .ref (g_ad X 124))] [] := by
          intro s_115
          refine r_aload_n O 0 dX8_sends_115 rfl rfl ?_
          refine r_aload_n O 0 dX8_sends_116 rfl rfl ?_
          refine r_get O FX8_7 G_124_0 dX8_sends_117 ?_
          refine r_bipush (x := 6) O dX8_sends_120 rfl ?_
          refine r_iald O R_125 (g_vin (by decide) (by decide)) dX8_sends_122 ?_
          refine r_put O (FPX8_105 (s_115 (6))) (S_124_7 (s_115 (6))) dX8_sends_123 ?_
          refine r_iconst (x := 0) O dX8_sends_126 rfl ?_
          exact r_iret O dX8_sends_127 rfl (Nat.le_of_ble_eq_true rfl) (Nat.le_of_ble_eq_true rfl) rfl
        refine r_if_ne O 61 dX8_sends_44 (by decide) (fun c_44 => ?_) (fun c_44 => ?_)
        · have e_44 : (s (58 + 9 * x1.toNatClampNeg + 1)).toInt = (0 : Int) := j_eqR c_44 rfl
          refine r_aload_n O 0 dX8_sends_47 rfl rfl ?_
          refine r_get O FX8_7 G_124_0 dX8_sends_48 ?_
          refine r_bipush (x := 7) O dX8_sends_51 rfl ?_
          refine r_dup2 O dX8_sends_53 rfl rfl ?_
          refine r_iald O R_125 (g_vin (by decide) (by decide)) dX8_sends_54 ?_
          refine r_iconst (x := 1) O dX8_sends_55 rfl ?_
          refine r_iadd O dX8_sends_56 ?_
          refine r_iastM O T_125 (g_vin (by decide) (by decide)) dX8_sends_57 ?_
          refine r_goto O 115 dX8_sends_58 (by decide) ?_
          refine r_sub [0] rfl ?_
          exact J_115 (upd s (7) ((s (7)) + 1))
        · have e_44 : (s (58 + 9 * x1.toNatClampNeg + 1)).toInt ≠ (0 : Int) := j_neR c_44 rfl
          refine r_bipush (x := 112) O dX8_sends_61 rfl ?_
          refine r_iconst (x := 3) O dX8_sends_63 rfl ?_
          refine r_aload_n O 0 dX8_sends_64 rfl rfl ?_
          refine r_get O FX8_7 G_124_0 dX8_sends_65 ?_
          refine r_bipush (x := 6) O dX8_sends_68 rfl ?_
          refine r_iald O R_125 (g_vin (by decide) (by decide)) dX8_sends_70 ?_
          refine r_imul O dX8_sends_71 ?_
          refine r_iadd O dX8_sends_72 ?_
          refine r_istore_n (lc' := [(3, .int (112 + (3 * (s (6))))), (0, .ref (g_ad X 124)), (1, .int x1), (2, .int (s (58 + 9 * x1.toNatClampNeg + 1)))]) O dX8_sends_73 rfl (hN 3 rfl) rfl ?_
          refine r_aload_n O 1 dX8_sends_74 rfl rfl ?_
          refine r_get O FX8_7 G_124_0 dX8_sends_75 ?_
          refine r_iload_n O 0 dX8_sends_78 rfl rfl ?_
          refine r_iload_n O 2 dX8_sends_79 rfl rfl ?_
          have ix_80 : (112 + (3 * (s (6)))).toInt = ((112 : Int) + ((3 : Int) * (s (6)).toInt)) := (j_addE rfl (j_mulE rfl rfl (by with_reducible omega) (by with_reducible omega)) (by with_reducible omega) (by with_reducible omega))
          have iy_80 := j_nat (x := (112 + (3 * (s (6))))) (by with_reducible omega)
          refine r_iastM O T_125 (show vp_in (112 + (3 * (s (6)))) 178 from g_vin (by with_reducible omega) (by with_reducible omega)) dX8_sends_80 ?_
          refine r_aload_n O 1 dX8_sends_81 rfl rfl ?_
          refine r_get O FX8_7 G_124_0 dX8_sends_82 ?_
          refine r_iload_n O 0 dX8_sends_85 rfl rfl ?_
          refine r_iconst (x := 1) O dX8_sends_86 rfl ?_
          refine r_iadd O dX8_sends_87 ?_
          refine r_aload_n O 1 dX8_sends_88 rfl rfl ?_
          refine r_get O FX8_7 G_124_0 dX8_sends_89 ?_
          refine r_iconst (x := 3) O dX8_sends_92 rfl ?_
          refine r_iald O R_125 (g_vin (by decide) (by decide)) dX8_sends_93 ?_
          have ix_94 : ((112 + (3 * (s (6)))) + 1).toInt = (((112 : Int) + ((3 : Int) * (s (6)).toInt)) + (1 : Int)) := (j_addE (j_addE rfl (j_mulE rfl rfl (by with_reducible omega) (by with_reducible omega)) (by with_reducible omega) (by with_reducible omega)) rfl (by with_reducible omega) (by with_reducible omega))
          have iy_94 := j_nat (x := ((112 + (3 * (s (6)))) + 1)) (by with_reducible omega)
          refine r_iastM O T_125 (show vp_in ((112 + (3 * (s (6)))) + 1) 178 from g_vin (by with_reducible omega) (by with_reducible omega)) dX8_sends_94 ?_
          refine r_aload_n O 1 dX8_sends_95 rfl rfl ?_
          refine r_get O FX8_7 G_124_0 dX8_sends_96 ?_
          refine r_iload_n O 0 dX8_sends_99 rfl rfl ?_
          refine r_iconst (x := 2) O dX8_sends_100 rfl ?_
          refine r_iadd O dX8_sends_101 ?_
          refine r_iload_n O 3 dX8_sends_102 rfl rfl ?_
          have ix_103 : ((112 + (3 * (s (6)))) + 2).toInt = (((112 : Int) + ((3 : Int) * (s (6)).toInt)) + (2 : Int)) := (j_addE (j_addE rfl (j_mulE rfl rfl (by with_reducible omega) (by with_reducible omega)) (by with_reducible omega) (by with_reducible omega)) rfl (by with_reducible omega) (by with_reducible omega))
          have iy_103 := j_nat (x := ((112 + (3 * (s (6)))) + 2)) (by with_reducible omega)
          refine r_iastM O T_125 (show vp_in ((112 + (3 * (s (6)))) + 2) 178 from g_vin (by with_reducible omega) (by with_reducible omega)) dX8_sends_103 ?_
          refine r_aload_n O 1 dX8_sends_104 rfl rfl ?_
          refine r_get O FX8_7 G_124_0 dX8_sends_105 ?_
          refine r_bipush (x := 6) O dX8_sends_108 rfl ?_
          refine r_dup2 O dX8_sends_110 rfl rfl ?_
          refine r_iald O R_125 (g_vin (by decide) (by decide)) dX8_sends_111 ?_
          refine r_iconst (x := 1) O dX8_sends_112 rfl ?_
          refine r_iadd O dX8_sends_113 ?_
          refine r_iastM O T_125 (g_vin (by decide) (by decide)) dX8_sends_114 ?_
          refine r_sub [1] rfl ?_
          exact J_115 (upd (upd (upd (upd s ((112 + (3 * (s (6)))).toNatClampNeg) x1) (((112 + (3 * (s (6)))) + 1).toNatClampNeg) ((upd s ((112 + (3 * (s (6)))).toNatClampNeg) x1) (3))) (((112 + (3 * (s (6)))) + 2).toNatClampNeg) (s (58 + 9 * x1.toNatClampNeg + 1))) (6) (((upd (upd (upd s ((112 + (3 * (s (6)))).toNatClampNeg) x1) (((112 + (3 * (s (6)))) + 1).toNatClampNeg) ((upd s ((112 + (3 * (s (6)))).toNatClampNeg) x1) (3))) (((112 + (3 * (s (6)))) + 2).toNatClampNeg) (s (58 + 9 * x1.toNatClampNeg + 1))) (6)) + 1))
      refine r_if_le O 43 dX8_sends_26 (by decide) (fun c_26 => ?_) (fun c_26 => ?_)
      · have e_26 : (s (58 + 9 * x1.toNatClampNeg + 1)).toInt ≤ (0 : Int) := j_leR c_26 rfl
        refine r_sub [1, 2, 0] rfl ?_
        exact J_43  (by first | decide | with_reducible assumption | with_reducible omega | (simp (disch := omega) only [g_upd_ne, g_upd_eq, fr_X8_walks, fr_X8_sets]; first | with_reducible assumption | with_reducible omega | decide) | exact Or.inl rfl | exact Or.inr rfl)
      · have e_26 : (0 : Int) < (s (58 + 9 * x1.toNatClampNeg + 1)).toInt := j_nleR c_26 rfl
        refine r_aload_n O 1 dX8_sends_29 rfl rfl ?_
        refine r_get O FX8_7 G_124_0 dX8_sends_30 ?_
        refine r_bipush (x := 6) O dX8_sends_33 rfl ?_
        refine r_iald O R_125 (g_vin (by decide) (by decide)) dX8_sends_35 ?_
        refine r_bipush (x := 10) O dX8_sends_36 rfl ?_
        refine r_icmp_ne O 43 dX8_sends_38 (by decide) (fun c_38 => ?_) (fun c_38 => ?_)
        · have e_38 : (s (6)).toInt = (10 : Int) := j_eqR c_38 rfl
          refine r_iconst (x := 2) O dX8_sends_41 rfl ?_
          exact r_iret O dX8_sends_42 rfl (Nat.le_of_ble_eq_true rfl) (Nat.le_of_ble_eq_true rfl) rfl
        · have e_38 : (s (6)).toInt ≠ (10 : Int) := j_neR c_38 rfl
          refine r_sub [1, 2, 0] rfl ?_
          exact J_43  (by first | decide | with_reducible assumption | with_reducible omega | (simp (disch := omega) only [g_upd_ne, g_upd_eq, fr_X8_walks, fr_X8_sets]; first | with_reducible assumption | with_reducible omega | decide) | exact Or.inl rfl | exact Or.inr rfl)
theorem met_X8_sends (l : Launch) (hs : l.stackTraces = false) (lm : Nat → Int64) (pm : Nat → Nat) (m : Nat → Int32) (s : Nat → Int32) (x1 : Int32) (p0 : g_J s) : g_SM l yX8_sends cX8_sends 4 (some .int) ({ frames := 2, cells := 0, slots := 0, locals := 43 } : Room) (fun ad => [.ref (ad 124), .int x1]) m (s, lm, pm) ((fun r : Int32 × (Nat → Int32) => ((.inl (some (.int r.1)), (m, r.2, lm, pm)) : g_Res)) (R_X8_sends s x1)) :=
  g_sm_of (by decide) (fun _ => Nat.le_of_ble_eq_true rfl) hs (fun X hl hn O => walk_X8_sends O (by rw [hl]; exact hs) hn p0)
def R_X8_minuteOf_306 (x1 : Int32) (s_249 : Nat → Int32) (t0_274 : Int32) (t0_306 : Int32) : (Nat → Int32) := (upd (upd s_249 (58 + 9 * x1.toNatClampNeg + 7) t0_274) (11) (((upd s_249 (58 + 9 * x1.toNatClampNeg + 7) t0_274) (11)) + t0_306))
def R_X8_minuteOf_274 (x1 : Int32) (s_249 : Nat → Int32) (t0_274 : Int32) : (Nat → Int32) := (if ((upd s_249 (58 + 9 * x1.toNatClampNeg + 7) t0_274) (58 + 9 * x1.toNatClampNeg + 7)) ≤ ((upd s_249 (58 + 9 * x1.toNatClampNeg + 7) t0_274) (58 + 9 * x1.toNatClampNeg + 0)) then (R_X8_minuteOf_306 x1 s_249 t0_274 0) else (R_X8_minuteOf_306 x1 s_249 t0_274 1))
def R_X8_minuteOf_249 (x1 : Int32) (s_249 : Nat → Int32) : (Nat → Int32) := (if (R_X8_isBelow s_249 x1) = 0 then (R_X8_minuteOf_274 x1 s_249 0) else (R_X8_minuteOf_274 x1 s_249 ((s_249 (58 + 9 * x1.toNatClampNeg + 7)) + 1)))
def R_X8_minuteOf_219 (x1 : Int32) (t0_24 : Int32) (s_219 : Nat → Int32) : (Nat → Int32) := (if t0_24 = 0 then (R_X8_minuteOf_249 x1 s_219) else (if (s_219 (58 + 9 * x1.toNatClampNeg + 6)) ≤ 0 then (R_X8_minuteOf_249 x1 s_219) else (R_X8_minuteOf_249 x1 (upd s_219 (58 + 9 * x1.toNatClampNeg + 6) ((s_219 (58 + 9 * x1.toNatClampNeg + 6)) - 1)))))
def R_X8_minuteOf_205 (x1 : Int32) (t0_24 : Int32) (s_66 : Nat → Int32) (t0_178 : Int32) : (Nat → Int32) := (if ((upd (upd s_66 (58 + 9 * x1.toNatClampNeg + 4) ((s_66 (58 + 9 * x1.toNatClampNeg + 4)) - 1)) (58 + 9 * x1.toNatClampNeg + 6) (((upd s_66 (58 + 9 * x1.toNatClampNeg + 4) ((s_66 (58 + 9 * x1.toNatClampNeg + 4)) - 1)) (58 + 9 * x1.toNatClampNeg + 6)) + t0_178)) (58 + 9 * x1.toNatClampNeg + 4)) = 0 then (R_X8_minuteOf_219 x1 t0_24 (R_X8_hasRigged (upd (upd s_66 (58 + 9 * x1.toNatClampNeg + 4) ((s_66 (58 + 9 * x1.toNatClampNeg + 4)) - 1)) (58 + 9 * x1.toNatClampNeg + 6) (((upd s_66 (58 + 9 * x1.toNatClampNeg + 4) ((s_66 (58 + 9 * x1.toNatClampNeg + 4)) - 1)) (58 + 9 * x1.toNatClampNeg + 6)) + t0_178)) x1)) else (R_X8_minuteOf_219 x1 t0_24 (upd (upd s_66 (58 + 9 * x1.toNatClampNeg + 4) ((s_66 (58 + 9 * x1.toNatClampNeg + 4)) - 1)) (58 + 9 * x1.toNatClampNeg + 6) (((upd s_66 (58 + 9 * x1.toNatClampNeg + 4) ((s_66 (58 + 9 * x1.toNatClampNeg + 4)) - 1)) (58 + 9 * x1.toNatClampNeg + 6)) + t0_178))))
def R_X8_minuteOf_178 (x1 : Int32) (t0_24 : Int32) (s_66 : Nat → Int32) (t0_178 : Int32) : (Nat → Int32) := (if ((upd (upd s_66 (58 + 9 * x1.toNatClampNeg + 4) ((s_66 (58 + 9 * x1.toNatClampNeg + 4)) - 1)) (58 + 9 * x1.toNatClampNeg + 6) (((upd s_66 (58 + 9 * x1.toNatClampNeg + 4) ((s_66 (58 + 9 * x1.toNatClampNeg + 4)) - 1)) (58 + 9 * x1.toNatClampNeg + 6)) + t0_178)) (58 + 9 * x1.toNatClampNeg + 4)) = 0 then (if (s_66 (58 + 9 * x1.toNatClampNeg + 2)) = 1 then (R_X8_minuteOf_219 x1 t0_24 (R_X8_arrives (upd (upd s_66 (58 + 9 * x1.toNatClampNeg + 4) ((s_66 (58 + 9 * x1.toNatClampNeg + 4)) - 1)) (58 + 9 * x1.toNatClampNeg + 6) (((upd s_66 (58 + 9 * x1.toNatClampNeg + 4) ((s_66 (58 + 9 * x1.toNatClampNeg + 4)) - 1)) (58 + 9 * x1.toNatClampNeg + 6)) + t0_178)) x1)) else (R_X8_minuteOf_205 x1 t0_24 s_66 t0_178 )) else (R_X8_minuteOf_205 x1 t0_24 s_66 t0_178 ))
def R_X8_minuteOf_131 (x1 : Int32) (t0_24 : Int32) (s_66 : Nat → Int32) (t0_131 : Int32) : (Nat → Int32) := (if (s_66 (58 + 9 * x1.toNatClampNeg + 2)) = 2 then (R_X8_minuteOf_178 x1 t0_24 s_66 0) else (if t0_131 = 0 then (R_X8_minuteOf_178 x1 t0_24 s_66 1) else (R_X8_minuteOf_178 x1 t0_24 s_66 2)))
def R_X8_minuteOf_126 (x1 : Int32) (t0_24 : Int32) (s_66 : Nat → Int32) : (Nat → Int32) := (R_X8_minuteOf_131 x1 t0_24 s_66 1)
def R_X8_minuteOf_130 (x1 : Int32) (t0_24 : Int32) (s_66 : Nat → Int32) : (Nat → Int32) := (R_X8_minuteOf_131 x1 t0_24 s_66 0)
def R_X8_minuteOf_94 (s : Nat → Int32) (x1 : Int32) (t0_24 : Int32) (s_66 : Nat → Int32) (t0_94 : Int32) : (Nat → Int32) := (if (s_66 (58 + 9 * x1.toNatClampNeg + 8)) = 1 then (R_X8_minuteOf_126 x1 t0_24 s_66 ) else (if t0_94 = 0 then (R_X8_minuteOf_130 x1 t0_24 s_66 ) else (if (s_66 (((13 + (s (58 + 9 * x1.toNatClampNeg + 1))) - 1).toNatClampNeg)) ≤ 0 then (R_X8_minuteOf_130 x1 t0_24 s_66 ) else (R_X8_minuteOf_126 x1 t0_24 s_66 ))))
def R_X8_minuteOf_66 (s : Nat → Int32) (x1 : Int32) (t0_24 : Int32) (s_66 : Nat → Int32) : (Nat → Int32) := (if (s_66 (58 + 9 * x1.toNatClampNeg + 2)) = 0 then (R_X8_minuteOf_219 x1 t0_24 s_66) else (if (s (58 + 9 * x1.toNatClampNeg + 1)) ≤ (s_66 (58 + 9 * x1.toNatClampNeg + 3)) then (R_X8_minuteOf_94 s x1 t0_24 s_66 0) else (R_X8_minuteOf_94 s x1 t0_24 s_66 1)))
def R_X8_minuteOf_24 (s : Nat → Int32) (x1 : Int32) (t0_24 : Int32) : (Nat → Int32) := (if (R_X8_stands s x1) = 0 then (R_X8_minuteOf_66 s x1 t0_24 s) else (if (s (58 + 9 * x1.toNatClampNeg + 1)) ≤ 0 then (R_X8_minuteOf_66 s x1 t0_24 s) else (if (R_X8_isInTime s x1 (s (58 + 9 * x1.toNatClampNeg + 1)) 1) = 0 then (if (R_X8_reason s x1 ((s (58 + 9 * x1.toNatClampNeg + 1)) - 1)) = 0 then (R_X8_minuteOf_66 s x1 t0_24 (R_X8_sets s x1 ((s (58 + 9 * x1.toNatClampNeg + 1)) - 1))) else (R_X8_minuteOf_66 s x1 t0_24 s)) else (R_X8_minuteOf_66 s x1 t0_24 s))))
def R_X8_minuteOf_23 (s : Nat → Int32) (x1 : Int32) : (Nat → Int32) := (R_X8_minuteOf_24 s x1 0)
def R_X8_minuteOf (s : Nat → Int32) (x1 : Int32) : (Nat → Int32) := (if (R_X8_stands s x1) = 0 then (R_X8_minuteOf_23 s x1 ) else (if (s (58 + 9 * x1.toNatClampNeg + 1)) = 0 then (R_X8_minuteOf_24 s x1 1) else (R_X8_minuteOf_23 s x1 )))
set_option maxRecDepth 100000 in
set_option maxHeartbeats 4000000 in
theorem walk_X8_minuteOf {X : g_X} (O : g_ok X cX8_minuteOf RX8 none ({ frames := 4, cells := 0, slots := 0, locals := 92 } : Room)) (hs : (g_xl X).stackTraces = false) (hn : g_xn X = 7) {m : Nat → Int32} {lm : Nat → Int64} {pm : Nat → Nat} {s : Nat → Int32} {x1 : Int32} (p0 : 0 ≤ x1.toInt) (p1 : x1.toInt < 6) (p2 : (s 0).toInt ≤ 7) (p3 : 0 ≤ (s (58 + 9 * x1.toNatClampNeg + 1)).toInt) (p4 : (s (58 + 9 * x1.toNatClampNeg + 1)).toInt ≤ 7) (p5 : -1 ≤ (s (58 + 9 * x1.toNatClampNeg + 5)).toInt) (p6 : (s (58 + 9 * x1.toNatClampNeg + 5)).toInt ≤ 7) : g_V X (fun r : Nat → Int32 => ((.inl none, (m, r, lm, pm)) : g_Res)) (R_X8_minuteOf s x1) 0 0 m (s, lm, pm) 0 [(0, .ref (g_ad X 124)), (1, .int x1)] [] := by
  have hN : ∀ i, Nat.blt i 7 = true → i < g_xn X := fun i h => by rw [hn]; exact g_blt.mp h
  refine r_aload_n O 0 dX8_minuteOf_0 rfl rfl ?_
  refine r_iload_n O 1 dX8_minuteOf_1 rfl rfl ?_
  refine r_iconst (x := 1) O dX8_minuteOf_2 rfl ?_
  refine r_callVi O [.int x1, .int 1] [] (metn_X8_of (g_xl X) hs lm pm m s x1 1 (by first | decide | with_reducible assumption | with_reducible omega | (simp (disch := omega) only [g_upd_ne, g_upd_eq, fr_X8_walks, fr_X8_sets]; first | with_reducible assumption | with_reducible omega | decide) | exact Or.inl rfl | exact Or.inr rfl) (by first | decide | with_reducible assumption | with_reducible omega | (simp (disch := omega) only [g_upd_ne, g_upd_eq, fr_X8_walks, fr_X8_sets]; first | with_reducible assumption | with_reducible omega | decide) | exact Or.inl rfl | exact Or.inr rfl) (by decide)) LX8_37 obj_124 rfl rfl rfl dX8_minuteOf_3 rfl rfl ?_
  refine r_istore_n (lc' := [(2, .int (s (58 + 9 * x1.toNatClampNeg + 1))), (0, .ref (g_ad X 124)), (1, .int x1)]) O dX8_minuteOf_6 rfl (hN 2 rfl) rfl ?_
  refine r_aload_n O 1 dX8_minuteOf_7 rfl rfl ?_
  refine r_iload_n O 2 dX8_minuteOf_8 rfl rfl ?_
  refine r_callVi O [.int x1] [] (met_X8_stands (g_xl X) hs lm pm m s x1 (by first | decide | with_reducible assumption | with_reducible omega | (simp (disch := omega) only [g_upd_ne, g_upd_eq, fr_X8_walks, fr_X8_sets]; first | with_reducible assumption | with_reducible omega | decide) | exact Or.inl rfl | exact Or.inr rfl) (by first | decide | with_reducible assumption | with_reducible omega | (simp (disch := omega) only [g_upd_ne, g_upd_eq, fr_X8_walks, fr_X8_sets]; first | with_reducible assumption | with_reducible omega | decide) | exact Or.inl rfl | exact Or.inr rfl)) LX8_81 obj_124 rfl rfl rfl dX8_minuteOf_9 rfl rfl ?_
  have J_24 : ∀ (t0_24 : Int32), g_V X (fun r : Nat → Int32 => ((.inl none, (m, r, lm, pm)) : g_Res)) (R_X8_minuteOf_24 s x1 t0_24) 0 0 m (s, lm, pm) 24 [(0, .ref (g_ad X 124)), (1, .int x1), (2, .int (s (58 + 9 * x1.toNatClampNeg + 1)))] [.int t0_24] := by
    intro t0_24
    refine r_istore_n (lc' := [(3, .int t0_24), (0, .ref (g_ad X 124)), (1, .int x1), (2, .int (s (58 + 9 * x1.toNatClampNeg + 1)))]) O dX8_minuteOf_24 rfl (hN 3 rfl) rfl ?_
    refine r_aload_n O 1 dX8_minuteOf_25 rfl rfl ?_
    refine r_iload_n O 2 dX8_minuteOf_26 rfl rfl ?_
    refine r_callVi O [.int x1] [] (met_X8_stands (g_xl X) hs lm pm m s x1 (by first | decide | with_reducible assumption | with_reducible omega | (simp (disch := omega) only [g_upd_ne, g_upd_eq, fr_X8_walks, fr_X8_sets]; first | with_reducible assumption | with_reducible omega | decide) | exact Or.inl rfl | exact Or.inr rfl) (by first | decide | with_reducible assumption | with_reducible omega | (simp (disch := omega) only [g_upd_ne, g_upd_eq, fr_X8_walks, fr_X8_sets]; first | with_reducible assumption | with_reducible omega | decide) | exact Or.inl rfl | exact Or.inr rfl)) LX8_81 obj_124 rfl rfl rfl dX8_minuteOf_27 rfl rfl ?_
    have J_66 : ∀ (s_66 : Nat → Int32) (hj0 : 0 ≤ (s_66 (58 + 9 * x1.toNatClampNeg + 1)).toInt) (hj1 : (s_66 (58 + 9 * x1.toNatClampNeg + 1)).toInt ≤ 7) (hj2 : -1 ≤ (s_66 (58 + 9 * x1.toNatClampNeg + 5)).toInt) (hj3 : (s_66 (58 + 9 * x1.toNatClampNeg + 5)).toInt ≤ 7), g_V X (fun r : Nat → Int32 => ((.inl none, (m, r, lm, pm)) : g_Res)) (R_X8_minuteOf_66 s x1 t0_24 s_66) 0 0 m (s_66, lm, pm) 66 [(0, .ref (g_ad X 124)), (1, .int x1), (2, .int (s (58 + 9 * x1.toNatClampNeg + 1))), (3, .int t0_24)] [] := by
      intro s_66 hj0 hj1 hj2 hj3
      refine r_aload_n O 0 dX8_minuteOf_66 rfl rfl ?_
      refine r_iload_n O 1 dX8_minuteOf_67 rfl rfl ?_
      refine r_iconst (x := 2) O dX8_minuteOf_68 rfl ?_
      refine r_callVi O [.int x1, .int 2] [] (metn_X8_of (g_xl X) hs lm pm m s_66 x1 2 (by first | decide | with_reducible assumption | with_reducible omega | (simp (disch := omega) only [g_upd_ne, g_upd_eq, fr_X8_walks, fr_X8_sets]; first | with_reducible assumption | with_reducible omega | decide) | exact Or.inl rfl | exact Or.inr rfl) (by first | decide | with_reducible assumption | with_reducible omega | (simp (disch := omega) only [g_upd_ne, g_upd_eq, fr_X8_walks, fr_X8_sets]; first | with_reducible assumption | with_reducible omega | decide) | exact Or.inl rfl | exact Or.inr rfl) (by decide)) LX8_37 obj_124 rfl rfl rfl dX8_minuteOf_69 rfl rfl ?_
      refine r_istore (lc' := [(4, .int (s_66 (58 + 9 * x1.toNatClampNeg + 2))), (0, .ref (g_ad X 124)), (1, .int x1), (2, .int (s (58 + 9 * x1.toNatClampNeg + 1))), (3, .int t0_24)]) O dX8_minuteOf_72 (hN 4 rfl) rfl ?_
      refine r_iload O 0 dX8_minuteOf_74 rfl ?_
      have J_219 : ∀ (s_219 : Nat → Int32), g_V X (fun r : Nat → Int32 => ((.inl none, (m, r, lm, pm)) : g_Res)) (R_X8_minuteOf_219 x1 t0_24 s_219) 0 0 m (s_219, lm, pm) 219 [(0, .ref (g_ad X 124)), (1, .int x1), (3, .int t0_24)] [] := by
        intro s_219
        refine r_iload_n O 2 dX8_minuteOf_219 rfl rfl ?_
        have J_249 : ∀ (s_249 : Nat → Int32), g_V X (fun r : Nat → Int32 => ((.inl none, (m, r, lm, pm)) : g_Res)) (R_X8_minuteOf_249 x1 s_249) 0 0 m (s_249, lm, pm) 249 [(0, .ref (g_ad X 124)), (1, .int x1)] [] := by
          intro s_249
          refine r_aload_n O 0 dX8_minuteOf_249 rfl rfl ?_
          refine r_iload_n O 1 dX8_minuteOf_250 rfl rfl ?_
          refine r_bipush (x := 7) O dX8_minuteOf_251 rfl ?_
          refine r_aload_n O 0 dX8_minuteOf_253 rfl rfl ?_
          refine r_iload_n O 1 dX8_minuteOf_254 rfl rfl ?_
          refine r_callVi O [.int x1] [.int 7, .int x1, .ref (g_ad X 124)] (met_X8_isBelow (g_xl X) hs lm pm m s_249 x1 (by first | decide | with_reducible assumption | with_reducible omega | (simp (disch := omega) only [g_upd_ne, g_upd_eq, fr_X8_walks, fr_X8_sets]; first | with_reducible assumption | with_reducible omega | decide) | exact Or.inl rfl | exact Or.inr rfl) (by first | decide | with_reducible assumption | with_reducible omega | (simp (disch := omega) only [g_upd_ne, g_upd_eq, fr_X8_walks, fr_X8_sets]; first | with_reducible assumption | with_reducible omega | decide) | exact Or.inl rfl | exact Or.inr rfl)) LX8_48 obj_124 rfl rfl rfl dX8_minuteOf_255 rfl rfl ?_
          have J_274 : ∀ (t0_274 : Int32), g_V X (fun r : Nat → Int32 => ((.inl none, (m, r, lm, pm)) : g_Res)) (R_X8_minuteOf_274 x1 s_249 t0_274) 0 0 m (s_249, lm, pm) 274 [(0, .ref (g_ad X 124)), (1, .int x1)] [.int t0_274, .int 7, .int x1, .ref (g_ad X 124)] := by
            intro t0_274
            refine r_callVv O [.int x1, .int 7, .int t0_274] [] (metn_X8_lays (g_xl X) hs lm pm m s_249 x1 7 t0_274 (by first | decide | with_reducible assumption | with_reducible omega | (simp (disch := omega) only [g_upd_ne, g_upd_eq, fr_X8_walks, fr_X8_sets]; first | with_reducible assumption | with_reducible omega | decide) | exact Or.inl rfl | exact Or.inr rfl) (by first | decide | with_reducible assumption | with_reducible omega | (simp (disch := omega) only [g_upd_ne, g_upd_eq, fr_X8_walks, fr_X8_sets]; first | with_reducible assumption | with_reducible omega | decide) | exact Or.inl rfl | exact Or.inr rfl) (by decide)) LX8_76 obj_124 rfl rfl rfl dX8_minuteOf_274 rfl rfl ?_
            refine r_aload_n O 0 dX8_minuteOf_277 rfl rfl ?_
            refine r_get O FX8_7 G_124_0 dX8_minuteOf_278 ?_
            refine r_bipush (x := 11) O dX8_minuteOf_281 rfl ?_
            refine r_dup2 O dX8_minuteOf_283 rfl rfl ?_
            refine r_iald O R_125 (g_vin (by decide) (by decide)) dX8_minuteOf_284 ?_
            refine r_aload_n O 0 dX8_minuteOf_285 rfl rfl ?_
            refine r_iload_n O 1 dX8_minuteOf_286 rfl rfl ?_
            refine r_bipush (x := 7) O dX8_minuteOf_287 rfl ?_
            refine r_callVi O [.int x1, .int 7] [.int ((upd s_249 (58 + 9 * x1.toNatClampNeg + 7) t0_274) (11)), .int 11, .ref (g_ad X 125)] (metn_X8_of (g_xl X) hs lm pm m (upd s_249 (58 + 9 * x1.toNatClampNeg + 7) t0_274) x1 7 (by first | decide | with_reducible assumption | with_reducible omega | (simp (disch := omega) only [g_upd_ne, g_upd_eq, fr_X8_walks, fr_X8_sets]; first | with_reducible assumption | with_reducible omega | decide) | exact Or.inl rfl | exact Or.inr rfl) (by first | decide | with_reducible assumption | with_reducible omega | (simp (disch := omega) only [g_upd_ne, g_upd_eq, fr_X8_walks, fr_X8_sets]; first | with_reducible assumption | with_reducible omega | decide) | exact Or.inl rfl | exact Or.inr rfl) (by decide)) LX8_37 obj_124 rfl rfl rfl dX8_minuteOf_289 rfl rfl ?_
            refine r_aload_n O 0 dX8_minuteOf_292 rfl rfl ?_
            refine r_iload_n O 1 dX8_minuteOf_293 rfl rfl ?_
            refine r_iconst (x := 0) O dX8_minuteOf_294 rfl ?_
            refine r_callVi O [.int x1, .int 0] [.int ((upd s_249 (58 + 9 * x1.toNatClampNeg + 7) t0_274) (58 + 9 * x1.toNatClampNeg + 7)), .int ((upd s_249 (58 + 9 * x1.toNatClampNeg + 7) t0_274) (11)), .int 11, .ref (g_ad X 125)] (metn_X8_of (g_xl X) hs lm pm m (upd s_249 (58 + 9 * x1.toNatClampNeg + 7) t0_274) x1 0 (by first | decide | with_reducible assumption | with_reducible omega | (simp (disch := omega) only [g_upd_ne, g_upd_eq, fr_X8_walks, fr_X8_sets]; first | with_reducible assumption | with_reducible omega | decide) | exact Or.inl rfl | exact Or.inr rfl) (by first | decide | with_reducible assumption | with_reducible omega | (simp (disch := omega) only [g_upd_ne, g_upd_eq, fr_X8_walks, fr_X8_sets]; first | with_reducible assumption | with_reducible omega | decide) | exact Or.inl rfl | exact Or.inr rfl) (by decide)) LX8_37 obj_124 rfl rfl rfl dX8_minuteOf_295 rfl rfl ?_
            have J_306 : ∀ (t0_306 : Int32), g_V X (fun r : Nat → Int32 => ((.inl none, (m, r, lm, pm)) : g_Res)) (R_X8_minuteOf_306 x1 s_249 t0_274 t0_306) 0 0 m ((upd s_249 (58 + 9 * x1.toNatClampNeg + 7) t0_274), lm, pm) 306 [] [.int t0_306, .int ((upd s_249 (58 + 9 * x1.toNatClampNeg + 7) t0_274) (11)), .int 11, .ref (g_ad X 125)] := by
              intro t0_306
              refine r_iadd O dX8_minuteOf_306 ?_
              refine r_iastM O T_125 (g_vin (by decide) (by decide)) dX8_minuteOf_307 ?_
              exact r_vret O dX8_minuteOf_308 (Nat.le_of_ble_eq_true rfl) (Nat.le_of_ble_eq_true rfl) rfl
            refine r_icmp_le O 305 dX8_minuteOf_298 (by decide) (fun c_298 => ?_) (fun c_298 => ?_)
            · have e_298 : ((upd s_249 (58 + 9 * x1.toNatClampNeg + 7) t0_274) (58 + 9 * x1.toNatClampNeg + 7)).toInt ≤ ((upd s_249 (58 + 9 * x1.toNatClampNeg + 7) t0_274) (58 + 9 * x1.toNatClampNeg + 0)).toInt := j_le c_298
              refine r_iconst (x := 0) O dX8_minuteOf_305 rfl ?_
              refine r_sub [] rfl ?_
              exact J_306 0
            · have e_298 : ((upd s_249 (58 + 9 * x1.toNatClampNeg + 7) t0_274) (58 + 9 * x1.toNatClampNeg + 0)).toInt < ((upd s_249 (58 + 9 * x1.toNatClampNeg + 7) t0_274) (58 + 9 * x1.toNatClampNeg + 7)).toInt := j_nle c_298
              refine r_iconst (x := 1) O dX8_minuteOf_301 rfl ?_
              refine r_goto O 306 dX8_minuteOf_302 (by decide) ?_
              refine r_sub [] rfl ?_
              exact J_306 1
          refine r_if_eq O 273 dX8_minuteOf_258 (by decide) (fun c_258 => ?_) (fun c_258 => ?_)
          · have e_258 : (R_X8_isBelow s_249 x1).toInt = (0 : Int) := j_eqR c_258 rfl
            refine r_iconst (x := 0) O dX8_minuteOf_273 rfl ?_
            exact J_274 0
          · have e_258 : (R_X8_isBelow s_249 x1).toInt ≠ (0 : Int) := j_neR c_258 rfl
            refine r_aload_n O 0 dX8_minuteOf_261 rfl rfl ?_
            refine r_iload_n O 1 dX8_minuteOf_262 rfl rfl ?_
            refine r_bipush (x := 7) O dX8_minuteOf_263 rfl ?_
            refine r_callVi O [.int x1, .int 7] [.int 7, .int x1, .ref (g_ad X 124)] (metn_X8_of (g_xl X) hs lm pm m s_249 x1 7 (by first | decide | with_reducible assumption | with_reducible omega | (simp (disch := omega) only [g_upd_ne, g_upd_eq, fr_X8_walks, fr_X8_sets]; first | with_reducible assumption | with_reducible omega | decide) | exact Or.inl rfl | exact Or.inr rfl) (by first | decide | with_reducible assumption | with_reducible omega | (simp (disch := omega) only [g_upd_ne, g_upd_eq, fr_X8_walks, fr_X8_sets]; first | with_reducible assumption | with_reducible omega | decide) | exact Or.inl rfl | exact Or.inr rfl) (by decide)) LX8_37 obj_124 rfl rfl rfl dX8_minuteOf_265 rfl rfl ?_
            refine r_iconst (x := 1) O dX8_minuteOf_268 rfl ?_
            refine r_iadd O dX8_minuteOf_269 ?_
            refine r_goto O 274 dX8_minuteOf_270 (by decide) ?_
            exact J_274 ((s_249 (58 + 9 * x1.toNatClampNeg + 7)) + 1)
        refine r_if_eq O 249 dX8_minuteOf_220 (by decide) (fun c_220 => ?_) (fun c_220 => ?_)
        · have e_220 : (t0_24).toInt = (0 : Int) := j_eqR c_220 rfl
          refine r_sub [0, 1] rfl ?_
          exact J_249 s_219
        · have e_220 : (t0_24).toInt ≠ (0 : Int) := j_neR c_220 rfl
          refine r_aload_n O 0 dX8_minuteOf_223 rfl rfl ?_
          refine r_iload_n O 1 dX8_minuteOf_224 rfl rfl ?_
          refine r_bipush (x := 6) O dX8_minuteOf_225 rfl ?_
          refine r_callVi O [.int x1, .int 6] [] (metn_X8_of (g_xl X) hs lm pm m s_219 x1 6 (by first | decide | with_reducible assumption | with_reducible omega | (simp (disch := omega) only [g_upd_ne, g_upd_eq, fr_X8_walks, fr_X8_sets]; first | with_reducible assumption | with_reducible omega | decide) | exact Or.inl rfl | exact Or.inr rfl) (by first | decide | with_reducible assumption | with_reducible omega | (simp (disch := omega) only [g_upd_ne, g_upd_eq, fr_X8_walks, fr_X8_sets]; first | with_reducible assumption | with_reducible omega | decide) | exact Or.inl rfl | exact Or.inr rfl) (by decide)) LX8_37 obj_124 rfl rfl rfl dX8_minuteOf_227 rfl rfl ?_
          refine r_if_le O 249 dX8_minuteOf_230 (by decide) (fun c_230 => ?_) (fun c_230 => ?_)
          · have e_230 : (s_219 (58 + 9 * x1.toNatClampNeg + 6)).toInt ≤ (0 : Int) := j_leR c_230 rfl
            refine r_sub [0, 1] rfl ?_
            exact J_249 s_219
          · have e_230 : (0 : Int) < (s_219 (58 + 9 * x1.toNatClampNeg + 6)).toInt := j_nleR c_230 rfl
            refine r_aload_n O 0 dX8_minuteOf_233 rfl rfl ?_
            refine r_iload_n O 1 dX8_minuteOf_234 rfl rfl ?_
            refine r_bipush (x := 6) O dX8_minuteOf_235 rfl ?_
            refine r_aload_n O 0 dX8_minuteOf_237 rfl rfl ?_
            refine r_iload_n O 1 dX8_minuteOf_238 rfl rfl ?_
            refine r_bipush (x := 6) O dX8_minuteOf_239 rfl ?_
            refine r_callVi O [.int x1, .int 6] [.int 6, .int x1, .ref (g_ad X 124)] (metn_X8_of (g_xl X) hs lm pm m s_219 x1 6 (by first | decide | with_reducible assumption | with_reducible omega | (simp (disch := omega) only [g_upd_ne, g_upd_eq, fr_X8_walks, fr_X8_sets]; first | with_reducible assumption | with_reducible omega | decide) | exact Or.inl rfl | exact Or.inr rfl) (by first | decide | with_reducible assumption | with_reducible omega | (simp (disch := omega) only [g_upd_ne, g_upd_eq, fr_X8_walks, fr_X8_sets]; first | with_reducible assumption | with_reducible omega | decide) | exact Or.inl rfl | exact Or.inr rfl) (by decide)) LX8_37 obj_124 rfl rfl rfl dX8_minuteOf_241 rfl rfl ?_
            refine r_iconst (x := 1) O dX8_minuteOf_244 rfl ?_
            refine r_isub O dX8_minuteOf_245 ?_
            refine r_callVv O [.int x1, .int 6, .int ((s_219 (58 + 9 * x1.toNatClampNeg + 6)) - 1)] [] (metn_X8_lays (g_xl X) hs lm pm m s_219 x1 6 ((s_219 (58 + 9 * x1.toNatClampNeg + 6)) - 1) (by first | decide | with_reducible assumption | with_reducible omega | (simp (disch := omega) only [g_upd_ne, g_upd_eq, fr_X8_walks, fr_X8_sets]; first | with_reducible assumption | with_reducible omega | decide) | exact Or.inl rfl | exact Or.inr rfl) (by first | decide | with_reducible assumption | with_reducible omega | (simp (disch := omega) only [g_upd_ne, g_upd_eq, fr_X8_walks, fr_X8_sets]; first | with_reducible assumption | with_reducible omega | decide) | exact Or.inl rfl | exact Or.inr rfl) (by decide)) LX8_76 obj_124 rfl rfl rfl dX8_minuteOf_246 rfl rfl ?_
            refine r_sub [0, 1] rfl ?_
            exact J_249 (upd s_219 (58 + 9 * x1.toNatClampNeg + 6) ((s_219 (58 + 9 * x1.toNatClampNeg + 6)) - 1))
      refine r_if_eq O 219 dX8_minuteOf_76 (by decide) (fun c_76 => ?_) (fun c_76 => ?_)
      · have e_76 : (s_66 (58 + 9 * x1.toNatClampNeg + 2)).toInt = (0 : Int) := j_eqR c_76 rfl
        refine r_sub [1, 2, 4] rfl ?_
        exact J_219 s_66
      · have e_76 : (s_66 (58 + 9 * x1.toNatClampNeg + 2)).toInt ≠ (0 : Int) := j_neR c_76 rfl
        refine r_aload_n O 1 dX8_minuteOf_79 rfl rfl ?_
        refine r_iload_n O 2 dX8_minuteOf_80 rfl rfl ?_
        refine r_iconst (x := 3) O dX8_minuteOf_81 rfl ?_
        refine r_callVi O [.int x1, .int 3] [] (metn_X8_of (g_xl X) hs lm pm m s_66 x1 3 (by first | decide | with_reducible assumption | with_reducible omega | (simp (disch := omega) only [g_upd_ne, g_upd_eq, fr_X8_walks, fr_X8_sets]; first | with_reducible assumption | with_reducible omega | decide) | exact Or.inl rfl | exact Or.inr rfl) (by first | decide | with_reducible assumption | with_reducible omega | (simp (disch := omega) only [g_upd_ne, g_upd_eq, fr_X8_walks, fr_X8_sets]; first | with_reducible assumption | with_reducible omega | decide) | exact Or.inl rfl | exact Or.inr rfl) (by decide)) LX8_37 obj_124 rfl rfl rfl dX8_minuteOf_82 rfl rfl ?_
        refine r_iload_n O 3 dX8_minuteOf_85 rfl rfl ?_
        have J_94 : ∀ (t0_94 : Int32), g_V X (fun r : Nat → Int32 => ((.inl none, (m, r, lm, pm)) : g_Res)) (R_X8_minuteOf_94 s x1 t0_24 s_66 t0_94) 0 0 m (s_66, lm, pm) 94 [(0, .ref (g_ad X 124)), (1, .int x1), (2, .int (s (58 + 9 * x1.toNatClampNeg + 1))), (3, .int t0_24), (4, .int (s_66 (58 + 9 * x1.toNatClampNeg + 2)))] [.int t0_94] := by
          intro t0_94
          refine r_istore (lc' := [(5, .int t0_94), (0, .ref (g_ad X 124)), (1, .int x1), (2, .int (s (58 + 9 * x1.toNatClampNeg + 1))), (3, .int t0_24), (4, .int (s_66 (58 + 9 * x1.toNatClampNeg + 2)))]) O dX8_minuteOf_94 (hN 5 rfl) rfl ?_
          refine r_aload_n O 1 dX8_minuteOf_96 rfl rfl ?_
          refine r_iload_n O 2 dX8_minuteOf_97 rfl rfl ?_
          refine r_bipush (x := 8) O dX8_minuteOf_98 rfl ?_
          refine r_callVi O [.int x1, .int 8] [] (metn_X8_of (g_xl X) hs lm pm m s_66 x1 8 (by first | decide | with_reducible assumption | with_reducible omega | (simp (disch := omega) only [g_upd_ne, g_upd_eq, fr_X8_walks, fr_X8_sets]; first | with_reducible assumption | with_reducible omega | decide) | exact Or.inl rfl | exact Or.inr rfl) (by first | decide | with_reducible assumption | with_reducible omega | (simp (disch := omega) only [g_upd_ne, g_upd_eq, fr_X8_walks, fr_X8_sets]; first | with_reducible assumption | with_reducible omega | decide) | exact Or.inl rfl | exact Or.inr rfl) (by decide)) LX8_37 obj_124 rfl rfl rfl dX8_minuteOf_100 rfl rfl ?_
          refine r_iconst (x := 1) O dX8_minuteOf_103 rfl ?_
          have J_131 : ∀ (t0_131 : Int32), g_V X (fun r : Nat → Int32 => ((.inl none, (m, r, lm, pm)) : g_Res)) (R_X8_minuteOf_131 x1 t0_24 s_66 t0_131) 0 0 m (s_66, lm, pm) 131 [(0, .ref (g_ad X 124)), (1, .int x1), (3, .int t0_24), (4, .int (s_66 (58 + 9 * x1.toNatClampNeg + 2)))] [.int t0_131] := by
            intro t0_131
            refine r_istore (lc' := [(6, .int t0_131), (0, .ref (g_ad X 124)), (1, .int x1), (3, .int t0_24), (4, .int (s_66 (58 + 9 * x1.toNatClampNeg + 2)))]) O dX8_minuteOf_131 (hN 6 rfl) rfl ?_
            refine r_aload_n O 1 dX8_minuteOf_133 rfl rfl ?_
            refine r_iload_n O 2 dX8_minuteOf_134 rfl rfl ?_
            refine r_iconst (x := 4) O dX8_minuteOf_135 rfl ?_
            refine r_aload_n O 1 dX8_minuteOf_136 rfl rfl ?_
            refine r_iload_n O 2 dX8_minuteOf_137 rfl rfl ?_
            refine r_iconst (x := 4) O dX8_minuteOf_138 rfl ?_
            refine r_callVi O [.int x1, .int 4] [.int 4, .int x1, .ref (g_ad X 124)] (metn_X8_of (g_xl X) hs lm pm m s_66 x1 4 (by first | decide | with_reducible assumption | with_reducible omega | (simp (disch := omega) only [g_upd_ne, g_upd_eq, fr_X8_walks, fr_X8_sets]; first | with_reducible assumption | with_reducible omega | decide) | exact Or.inl rfl | exact Or.inr rfl) (by first | decide | with_reducible assumption | with_reducible omega | (simp (disch := omega) only [g_upd_ne, g_upd_eq, fr_X8_walks, fr_X8_sets]; first | with_reducible assumption | with_reducible omega | decide) | exact Or.inl rfl | exact Or.inr rfl) (by decide)) LX8_37 obj_124 rfl rfl rfl dX8_minuteOf_139 rfl rfl ?_
            refine r_iconst (x := 1) O dX8_minuteOf_142 rfl ?_
            refine r_isub O dX8_minuteOf_143 ?_
            refine r_callVv O [.int x1, .int 4, .int ((s_66 (58 + 9 * x1.toNatClampNeg + 4)) - 1)] [] (metn_X8_lays (g_xl X) hs lm pm m s_66 x1 4 ((s_66 (58 + 9 * x1.toNatClampNeg + 4)) - 1) (by first | decide | with_reducible assumption | with_reducible omega | (simp (disch := omega) only [g_upd_ne, g_upd_eq, fr_X8_walks, fr_X8_sets]; first | with_reducible assumption | with_reducible omega | decide) | exact Or.inl rfl | exact Or.inr rfl) (by first | decide | with_reducible assumption | with_reducible omega | (simp (disch := omega) only [g_upd_ne, g_upd_eq, fr_X8_walks, fr_X8_sets]; first | with_reducible assumption | with_reducible omega | decide) | exact Or.inl rfl | exact Or.inr rfl) (by decide)) LX8_76 obj_124 rfl rfl rfl dX8_minuteOf_144 rfl rfl ?_
            refine r_aload_n O 1 dX8_minuteOf_147 rfl rfl ?_
            refine r_iload_n O 2 dX8_minuteOf_148 rfl rfl ?_
            refine r_bipush (x := 6) O dX8_minuteOf_149 rfl ?_
            refine r_aload_n O 1 dX8_minuteOf_151 rfl rfl ?_
            refine r_iload_n O 2 dX8_minuteOf_152 rfl rfl ?_
            refine r_bipush (x := 6) O dX8_minuteOf_153 rfl ?_
            refine r_callVi O [.int x1, .int 6] [.int 6, .int x1, .ref (g_ad X 124)] (metn_X8_of (g_xl X) hs lm pm m (upd s_66 (58 + 9 * x1.toNatClampNeg + 4) ((s_66 (58 + 9 * x1.toNatClampNeg + 4)) - 1)) x1 6 (by first | decide | with_reducible assumption | with_reducible omega | (simp (disch := omega) only [g_upd_ne, g_upd_eq, fr_X8_walks, fr_X8_sets]; first | with_reducible assumption | with_reducible omega | decide) | exact Or.inl rfl | exact Or.inr rfl) (by first | decide | with_reducible assumption | with_reducible omega | (simp (disch := omega) only [g_upd_ne, g_upd_eq, fr_X8_walks, fr_X8_sets]; first | with_reducible assumption | with_reducible omega | decide) | exact Or.inl rfl | exact Or.inr rfl) (by decide)) LX8_37 obj_124 rfl rfl rfl dX8_minuteOf_155 rfl rfl ?_
            refine r_iload O 4 dX8_minuteOf_158 rfl ?_
            refine r_iconst (x := 2) O dX8_minuteOf_160 rfl ?_
            have J_178 : ∀ (t0_178 : Int32), g_V X (fun r : Nat → Int32 => ((.inl none, (m, r, lm, pm)) : g_Res)) (R_X8_minuteOf_178 x1 t0_24 s_66 t0_178) 0 0 m ((upd s_66 (58 + 9 * x1.toNatClampNeg + 4) ((s_66 (58 + 9 * x1.toNatClampNeg + 4)) - 1)), lm, pm) 178 [(0, .ref (g_ad X 124)), (1, .int x1), (3, .int t0_24), (4, .int (s_66 (58 + 9 * x1.toNatClampNeg + 2)))] [.int t0_178, .int ((upd s_66 (58 + 9 * x1.toNatClampNeg + 4) ((s_66 (58 + 9 * x1.toNatClampNeg + 4)) - 1)) (58 + 9 * x1.toNatClampNeg + 6)), .int 6, .int x1, .ref (g_ad X 124)] := by
              intro t0_178
              refine r_iadd O dX8_minuteOf_178 ?_
              refine r_callVv O [.int x1, .int 6, .int (((upd s_66 (58 + 9 * x1.toNatClampNeg + 4) ((s_66 (58 + 9 * x1.toNatClampNeg + 4)) - 1)) (58 + 9 * x1.toNatClampNeg + 6)) + t0_178)] [] (metn_X8_lays (g_xl X) hs lm pm m (upd s_66 (58 + 9 * x1.toNatClampNeg + 4) ((s_66 (58 + 9 * x1.toNatClampNeg + 4)) - 1)) x1 6 (((upd s_66 (58 + 9 * x1.toNatClampNeg + 4) ((s_66 (58 + 9 * x1.toNatClampNeg + 4)) - 1)) (58 + 9 * x1.toNatClampNeg + 6)) + t0_178) (by first | decide | with_reducible assumption | with_reducible omega | (simp (disch := omega) only [g_upd_ne, g_upd_eq, fr_X8_walks, fr_X8_sets]; first | with_reducible assumption | with_reducible omega | decide) | exact Or.inl rfl | exact Or.inr rfl) (by first | decide | with_reducible assumption | with_reducible omega | (simp (disch := omega) only [g_upd_ne, g_upd_eq, fr_X8_walks, fr_X8_sets]; first | with_reducible assumption | with_reducible omega | decide) | exact Or.inl rfl | exact Or.inr rfl) (by decide)) LX8_76 obj_124 rfl rfl rfl dX8_minuteOf_179 rfl rfl ?_
              refine r_aload_n O 0 dX8_minuteOf_182 rfl rfl ?_
              refine r_iload_n O 1 dX8_minuteOf_183 rfl rfl ?_
              refine r_iconst (x := 4) O dX8_minuteOf_184 rfl ?_
              refine r_callVi O [.int x1, .int 4] [] (metn_X8_of (g_xl X) hs lm pm m (upd (upd s_66 (58 + 9 * x1.toNatClampNeg + 4) ((s_66 (58 + 9 * x1.toNatClampNeg + 4)) - 1)) (58 + 9 * x1.toNatClampNeg + 6) (((upd s_66 (58 + 9 * x1.toNatClampNeg + 4) ((s_66 (58 + 9 * x1.toNatClampNeg + 4)) - 1)) (58 + 9 * x1.toNatClampNeg + 6)) + t0_178)) x1 4 (by first | decide | with_reducible assumption | with_reducible omega | (simp (disch := omega) only [g_upd_ne, g_upd_eq, fr_X8_walks, fr_X8_sets]; first | with_reducible assumption | with_reducible omega | decide) | exact Or.inl rfl | exact Or.inr rfl) (by first | decide | with_reducible assumption | with_reducible omega | (simp (disch := omega) only [g_upd_ne, g_upd_eq, fr_X8_walks, fr_X8_sets]; first | with_reducible assumption | with_reducible omega | decide) | exact Or.inl rfl | exact Or.inr rfl) (by decide)) LX8_37 obj_124 rfl rfl rfl dX8_minuteOf_185 rfl rfl ?_
              have J_205 : g_V X (fun r : Nat → Int32 => ((.inl none, (m, r, lm, pm)) : g_Res)) (R_X8_minuteOf_205 x1 t0_24 s_66 t0_178 ) 0 0 m ((upd (upd s_66 (58 + 9 * x1.toNatClampNeg + 4) ((s_66 (58 + 9 * x1.toNatClampNeg + 4)) - 1)) (58 + 9 * x1.toNatClampNeg + 6) (((upd s_66 (58 + 9 * x1.toNatClampNeg + 4) ((s_66 (58 + 9 * x1.toNatClampNeg + 4)) - 1)) (58 + 9 * x1.toNatClampNeg + 6)) + t0_178)), lm, pm) 205 [(0, .ref (g_ad X 124)), (1, .int x1), (3, .int t0_24)] [] := by
                refine r_aload_n O 0 dX8_minuteOf_205 rfl rfl ?_
                refine r_iload_n O 1 dX8_minuteOf_206 rfl rfl ?_
                refine r_iconst (x := 4) O dX8_minuteOf_207 rfl ?_
                refine r_callVi O [.int x1, .int 4] [] (metn_X8_of (g_xl X) hs lm pm m (upd (upd s_66 (58 + 9 * x1.toNatClampNeg + 4) ((s_66 (58 + 9 * x1.toNatClampNeg + 4)) - 1)) (58 + 9 * x1.toNatClampNeg + 6) (((upd s_66 (58 + 9 * x1.toNatClampNeg + 4) ((s_66 (58 + 9 * x1.toNatClampNeg + 4)) - 1)) (58 + 9 * x1.toNatClampNeg + 6)) + t0_178)) x1 4 (by first | decide | with_reducible assumption | with_reducible omega | (simp (disch := omega) only [g_upd_ne, g_upd_eq, fr_X8_walks, fr_X8_sets]; first | with_reducible assumption | with_reducible omega | decide) | exact Or.inl rfl | exact Or.inr rfl) (by first | decide | with_reducible assumption | with_reducible omega | (simp (disch := omega) only [g_upd_ne, g_upd_eq, fr_X8_walks, fr_X8_sets]; first | with_reducible assumption | with_reducible omega | decide) | exact Or.inl rfl | exact Or.inr rfl) (by decide)) LX8_37 obj_124 rfl rfl rfl dX8_minuteOf_208 rfl rfl ?_
                refine r_if_ne O 219 dX8_minuteOf_211 (by decide) (fun c_211 => ?_) (fun c_211 => ?_)
                · have e_211 : ((upd (upd s_66 (58 + 9 * x1.toNatClampNeg + 4) ((s_66 (58 + 9 * x1.toNatClampNeg + 4)) - 1)) (58 + 9 * x1.toNatClampNeg + 6) (((upd s_66 (58 + 9 * x1.toNatClampNeg + 4) ((s_66 (58 + 9 * x1.toNatClampNeg + 4)) - 1)) (58 + 9 * x1.toNatClampNeg + 6)) + t0_178)) (58 + 9 * x1.toNatClampNeg + 4)).toInt = (0 : Int) := j_eqR c_211 rfl
                  refine r_aload_n O 0 dX8_minuteOf_214 rfl rfl ?_
                  refine r_iload_n O 1 dX8_minuteOf_215 rfl rfl ?_
                  refine r_callVv O [.int x1] [] (met_X8_hasRigged (g_xl X) hs lm pm m (upd (upd s_66 (58 + 9 * x1.toNatClampNeg + 4) ((s_66 (58 + 9 * x1.toNatClampNeg + 4)) - 1)) (58 + 9 * x1.toNatClampNeg + 6) (((upd s_66 (58 + 9 * x1.toNatClampNeg + 4) ((s_66 (58 + 9 * x1.toNatClampNeg + 4)) - 1)) (58 + 9 * x1.toNatClampNeg + 6)) + t0_178)) x1 (by first | decide | with_reducible assumption | with_reducible omega | (simp (disch := omega) only [g_upd_ne, g_upd_eq, fr_X8_walks, fr_X8_sets]; first | with_reducible assumption | with_reducible omega | decide) | exact Or.inl rfl | exact Or.inr rfl) (by first | decide | with_reducible assumption | with_reducible omega | (simp (disch := omega) only [g_upd_ne, g_upd_eq, fr_X8_walks, fr_X8_sets]; first | with_reducible assumption | with_reducible omega | decide) | exact Or.inl rfl | exact Or.inr rfl) (by first | decide | with_reducible assumption | with_reducible omega | (simp (disch := omega) only [g_upd_ne, g_upd_eq, fr_X8_walks, fr_X8_sets]; first | with_reducible assumption | with_reducible omega | decide) | exact Or.inl rfl | exact Or.inr rfl) (by first | decide | with_reducible assumption | with_reducible omega | (simp (disch := omega) only [g_upd_ne, g_upd_eq, fr_X8_walks, fr_X8_sets]; first | with_reducible assumption | with_reducible omega | decide) | exact Or.inl rfl | exact Or.inr rfl) (by first | decide | with_reducible assumption | with_reducible omega | (simp (disch := omega) only [g_upd_ne, g_upd_eq, fr_X8_walks, fr_X8_sets]; first | with_reducible assumption | with_reducible omega | decide) | exact Or.inl rfl | exact Or.inr rfl) (by first | decide | with_reducible assumption | with_reducible omega | (simp (disch := omega) only [g_upd_ne, g_upd_eq, fr_X8_walks, fr_X8_sets]; first | with_reducible assumption | with_reducible omega | decide) | exact Or.inl rfl | exact Or.inr rfl)) LX8_134 obj_124 rfl rfl rfl dX8_minuteOf_216 rfl rfl ?_
                  exact J_219 (R_X8_hasRigged (upd (upd s_66 (58 + 9 * x1.toNatClampNeg + 4) ((s_66 (58 + 9 * x1.toNatClampNeg + 4)) - 1)) (58 + 9 * x1.toNatClampNeg + 6) (((upd s_66 (58 + 9 * x1.toNatClampNeg + 4) ((s_66 (58 + 9 * x1.toNatClampNeg + 4)) - 1)) (58 + 9 * x1.toNatClampNeg + 6)) + t0_178)) x1)
                · have e_211 : ((upd (upd s_66 (58 + 9 * x1.toNatClampNeg + 4) ((s_66 (58 + 9 * x1.toNatClampNeg + 4)) - 1)) (58 + 9 * x1.toNatClampNeg + 6) (((upd s_66 (58 + 9 * x1.toNatClampNeg + 4) ((s_66 (58 + 9 * x1.toNatClampNeg + 4)) - 1)) (58 + 9 * x1.toNatClampNeg + 6)) + t0_178)) (58 + 9 * x1.toNatClampNeg + 4)).toInt ≠ (0 : Int) := j_neR c_211 rfl
                  exact J_219 (upd (upd s_66 (58 + 9 * x1.toNatClampNeg + 4) ((s_66 (58 + 9 * x1.toNatClampNeg + 4)) - 1)) (58 + 9 * x1.toNatClampNeg + 6) (((upd s_66 (58 + 9 * x1.toNatClampNeg + 4) ((s_66 (58 + 9 * x1.toNatClampNeg + 4)) - 1)) (58 + 9 * x1.toNatClampNeg + 6)) + t0_178))
              refine r_if_ne O 205 dX8_minuteOf_188 (by decide) (fun c_188 => ?_) (fun c_188 => ?_)
              · have e_188 : ((upd (upd s_66 (58 + 9 * x1.toNatClampNeg + 4) ((s_66 (58 + 9 * x1.toNatClampNeg + 4)) - 1)) (58 + 9 * x1.toNatClampNeg + 6) (((upd s_66 (58 + 9 * x1.toNatClampNeg + 4) ((s_66 (58 + 9 * x1.toNatClampNeg + 4)) - 1)) (58 + 9 * x1.toNatClampNeg + 6)) + t0_178)) (58 + 9 * x1.toNatClampNeg + 4)).toInt = (0 : Int) := j_eqR c_188 rfl
                refine r_iload O 3 dX8_minuteOf_191 rfl ?_
                refine r_iconst (x := 1) O dX8_minuteOf_193 rfl ?_
                refine r_icmp_ne O 205 dX8_minuteOf_194 (by decide) (fun c_194 => ?_) (fun c_194 => ?_)
                · have e_194 : (s_66 (58 + 9 * x1.toNatClampNeg + 2)).toInt = (1 : Int) := j_eqR c_194 rfl
                  refine r_aload_n O 0 dX8_minuteOf_197 rfl rfl ?_
                  refine r_iload_n O 1 dX8_minuteOf_198 rfl rfl ?_
                  refine r_callVv O [.int x1] [] (met_X8_arrives (g_xl X) hs lm pm m (upd (upd s_66 (58 + 9 * x1.toNatClampNeg + 4) ((s_66 (58 + 9 * x1.toNatClampNeg + 4)) - 1)) (58 + 9 * x1.toNatClampNeg + 6) (((upd s_66 (58 + 9 * x1.toNatClampNeg + 4) ((s_66 (58 + 9 * x1.toNatClampNeg + 4)) - 1)) (58 + 9 * x1.toNatClampNeg + 6)) + t0_178)) x1 (by first | decide | with_reducible assumption | with_reducible omega | (simp (disch := omega) only [g_upd_ne, g_upd_eq, fr_X8_walks, fr_X8_sets]; first | with_reducible assumption | with_reducible omega | decide) | exact Or.inl rfl | exact Or.inr rfl) (by first | decide | with_reducible assumption | with_reducible omega | (simp (disch := omega) only [g_upd_ne, g_upd_eq, fr_X8_walks, fr_X8_sets]; first | with_reducible assumption | with_reducible omega | decide) | exact Or.inl rfl | exact Or.inr rfl)) LX8_131 obj_124 rfl rfl rfl dX8_minuteOf_199 rfl rfl ?_
                  refine r_goto O 219 dX8_minuteOf_202 (by decide) ?_
                  refine r_sub [0, 1, 2] rfl ?_
                  exact J_219 (R_X8_arrives (upd (upd s_66 (58 + 9 * x1.toNatClampNeg + 4) ((s_66 (58 + 9 * x1.toNatClampNeg + 4)) - 1)) (58 + 9 * x1.toNatClampNeg + 6) (((upd s_66 (58 + 9 * x1.toNatClampNeg + 4) ((s_66 (58 + 9 * x1.toNatClampNeg + 4)) - 1)) (58 + 9 * x1.toNatClampNeg + 6)) + t0_178)) x1)
                · have e_194 : (s_66 (58 + 9 * x1.toNatClampNeg + 2)).toInt ≠ (1 : Int) := j_neR c_194 rfl
                  refine r_sub [0, 1, 2] rfl ?_
                  exact J_205
              · have e_188 : ((upd (upd s_66 (58 + 9 * x1.toNatClampNeg + 4) ((s_66 (58 + 9 * x1.toNatClampNeg + 4)) - 1)) (58 + 9 * x1.toNatClampNeg + 6) (((upd s_66 (58 + 9 * x1.toNatClampNeg + 4) ((s_66 (58 + 9 * x1.toNatClampNeg + 4)) - 1)) (58 + 9 * x1.toNatClampNeg + 6)) + t0_178)) (58 + 9 * x1.toNatClampNeg + 4)).toInt ≠ (0 : Int) := j_neR c_188 rfl
                refine r_sub [0, 1, 2] rfl ?_
                exact J_205
            refine r_icmp_ne O 168 dX8_minuteOf_161 (by decide) (fun c_161 => ?_) (fun c_161 => ?_)
            · have e_161 : (s_66 (58 + 9 * x1.toNatClampNeg + 2)).toInt = (2 : Int) := j_eqR c_161 rfl
              refine r_iconst (x := 0) O dX8_minuteOf_164 rfl ?_
              refine r_goto O 178 dX8_minuteOf_165 (by decide) ?_
              refine r_sub [1, 2, 3, 4] rfl ?_
              exact J_178 0
            · have e_161 : (s_66 (58 + 9 * x1.toNatClampNeg + 2)).toInt ≠ (2 : Int) := j_neR c_161 rfl
              refine r_iload O 0 dX8_minuteOf_168 rfl ?_
              refine r_if_eq O 177 dX8_minuteOf_170 (by decide) (fun c_170 => ?_) (fun c_170 => ?_)
              · have e_170 : (t0_131).toInt = (0 : Int) := j_eqR c_170 rfl
                refine r_iconst (x := 1) O dX8_minuteOf_177 rfl ?_
                refine r_sub [1, 2, 3, 4] rfl ?_
                exact J_178 1
              · have e_170 : (t0_131).toInt ≠ (0 : Int) := j_neR c_170 rfl
                refine r_iconst (x := 2) O dX8_minuteOf_173 rfl ?_
                refine r_goto O 178 dX8_minuteOf_174 (by decide) ?_
                refine r_sub [1, 2, 3, 4] rfl ?_
                exact J_178 2
          have J_126 : g_V X (fun r : Nat → Int32 => ((.inl none, (m, r, lm, pm)) : g_Res)) (R_X8_minuteOf_126 x1 t0_24 s_66 ) 0 0 m (s_66, lm, pm) 126 [(0, .ref (g_ad X 124)), (1, .int x1), (3, .int t0_24), (4, .int (s_66 (58 + 9 * x1.toNatClampNeg + 2)))] [] := by
            refine r_iconst (x := 1) O dX8_minuteOf_126 rfl ?_
            refine r_goto O 131 dX8_minuteOf_127 (by decide) ?_
            exact J_131 1
          refine r_icmp_eq O 126 dX8_minuteOf_104 (by decide) (fun c_104 => ?_) (fun c_104 => ?_)
          · have e_104 : (s_66 (58 + 9 * x1.toNatClampNeg + 8)).toInt = (1 : Int) := j_eqR c_104 rfl
            refine r_sub [1, 2, 4, 5] rfl ?_
            exact J_126
          · have e_104 : (s_66 (58 + 9 * x1.toNatClampNeg + 8)).toInt ≠ (1 : Int) := j_neR c_104 rfl
            refine r_iload O 0 dX8_minuteOf_107 rfl ?_
            have J_130 : g_V X (fun r : Nat → Int32 => ((.inl none, (m, r, lm, pm)) : g_Res)) (R_X8_minuteOf_130 x1 t0_24 s_66 ) 0 0 m (s_66, lm, pm) 130 [(0, .ref (g_ad X 124)), (1, .int x1), (3, .int t0_24), (4, .int (s_66 (58 + 9 * x1.toNatClampNeg + 2)))] [] := by
              refine r_iconst (x := 0) O dX8_minuteOf_130 rfl ?_
              exact J_131 0
            refine r_if_eq O 130 dX8_minuteOf_109 (by decide) (fun c_109 => ?_) (fun c_109 => ?_)
            · have e_109 : (t0_94).toInt = (0 : Int) := j_eqR c_109 rfl
              refine r_sub [1, 2, 4, 5] rfl ?_
              exact J_130
            · have e_109 : (t0_94).toInt ≠ (0 : Int) := j_neR c_109 rfl
              refine r_aload_n O 1 dX8_minuteOf_112 rfl rfl ?_
              refine r_get O FX8_7 G_124_0 dX8_minuteOf_113 ?_
              refine r_bipush (x := 13) O dX8_minuteOf_116 rfl ?_
              refine r_iload_n O 3 dX8_minuteOf_118 rfl rfl ?_
              refine r_iadd O dX8_minuteOf_119 ?_
              refine r_iconst (x := 1) O dX8_minuteOf_120 rfl ?_
              refine r_isub O dX8_minuteOf_121 ?_
              have ix_122 : ((13 + (s (58 + 9 * x1.toNatClampNeg + 1))) - 1).toInt = (((13 : Int) + (s (58 + 9 * x1.toNatClampNeg + 1)).toInt) - (1 : Int)) := (j_subE (j_addE rfl rfl (by with_reducible omega) (by with_reducible omega)) rfl (by with_reducible omega) (by with_reducible omega))
              have iy_122 := j_nat (x := ((13 + (s (58 + 9 * x1.toNatClampNeg + 1))) - 1)) (by with_reducible omega)
              refine r_iald O R_125 (show vp_in ((13 + (s (58 + 9 * x1.toNatClampNeg + 1))) - 1) 178 from g_vin (by with_reducible omega) (by with_reducible omega)) dX8_minuteOf_122 ?_
              refine r_if_le O 130 dX8_minuteOf_123 (by decide) (fun c_123 => ?_) (fun c_123 => ?_)
              · have e_123 : (s_66 (((13 + (s (58 + 9 * x1.toNatClampNeg + 1))) - 1).toNatClampNeg)).toInt ≤ (0 : Int) := j_leR c_123 rfl
                refine r_sub [1, 2, 4, 5] rfl ?_
                exact J_130
              · have e_123 : (0 : Int) < (s_66 (((13 + (s (58 + 9 * x1.toNatClampNeg + 1))) - 1).toNatClampNeg)).toInt := j_nleR c_123 rfl
                refine r_sub [1, 2, 4, 5] rfl ?_
                exact J_126
        refine r_icmp_ge O 93 dX8_minuteOf_86 (by decide) (fun c_86 => ?_) (fun c_86 => ?_)
        · have e_86 : (s (58 + 9 * x1.toNatClampNeg + 1)).toInt ≤ (s_66 (58 + 9 * x1.toNatClampNeg + 3)).toInt := j_le c_86
          refine r_iconst (x := 0) O dX8_minuteOf_93 rfl ?_
          refine r_sub [1, 2, 3, 4, 0] rfl ?_
          exact J_94 0
        · have e_86 : (s_66 (58 + 9 * x1.toNatClampNeg + 3)).toInt < (s (58 + 9 * x1.toNatClampNeg + 1)).toInt := j_nle c_86
          refine r_iconst (x := 1) O dX8_minuteOf_89 rfl ?_
          refine r_goto O 94 dX8_minuteOf_90 (by decide) ?_
          refine r_sub [1, 2, 3, 4, 0] rfl ?_
          exact J_94 1
    refine r_if_eq O 66 dX8_minuteOf_30 (by decide) (fun c_30 => ?_) (fun c_30 => ?_)
    · have e_30 : (R_X8_stands s x1).toInt = (0 : Int) := j_eqR c_30 rfl
      refine r_sub [1, 2, 3, 0] rfl ?_
      exact J_66 s (by first | decide | with_reducible assumption | with_reducible omega | (simp (disch := omega) only [g_upd_ne, g_upd_eq, fr_X8_walks, fr_X8_sets]; first | with_reducible assumption | with_reducible omega | decide) | exact Or.inl rfl | exact Or.inr rfl) (by first | decide | with_reducible assumption | with_reducible omega | (simp (disch := omega) only [g_upd_ne, g_upd_eq, fr_X8_walks, fr_X8_sets]; first | with_reducible assumption | with_reducible omega | decide) | exact Or.inl rfl | exact Or.inr rfl) (by first | decide | with_reducible assumption | with_reducible omega | (simp (disch := omega) only [g_upd_ne, g_upd_eq, fr_X8_walks, fr_X8_sets]; first | with_reducible assumption | with_reducible omega | decide) | exact Or.inl rfl | exact Or.inr rfl) (by first | decide | with_reducible assumption | with_reducible omega | (simp (disch := omega) only [g_upd_ne, g_upd_eq, fr_X8_walks, fr_X8_sets]; first | with_reducible assumption | with_reducible omega | decide) | exact Or.inl rfl | exact Or.inr rfl)
    · have e_30 : (R_X8_stands s x1).toInt ≠ (0 : Int) := j_neR c_30 rfl
      refine r_iload_n O 3 dX8_minuteOf_33 rfl rfl ?_
      refine r_if_le O 66 dX8_minuteOf_34 (by decide) (fun c_34 => ?_) (fun c_34 => ?_)
      · have e_34 : (s (58 + 9 * x1.toNatClampNeg + 1)).toInt ≤ (0 : Int) := j_leR c_34 rfl
        refine r_sub [1, 2, 3, 0] rfl ?_
        exact J_66 s (by first | decide | with_reducible assumption | with_reducible omega | (simp (disch := omega) only [g_upd_ne, g_upd_eq, fr_X8_walks, fr_X8_sets]; first | with_reducible assumption | with_reducible omega | decide) | exact Or.inl rfl | exact Or.inr rfl) (by first | decide | with_reducible assumption | with_reducible omega | (simp (disch := omega) only [g_upd_ne, g_upd_eq, fr_X8_walks, fr_X8_sets]; first | with_reducible assumption | with_reducible omega | decide) | exact Or.inl rfl | exact Or.inr rfl) (by first | decide | with_reducible assumption | with_reducible omega | (simp (disch := omega) only [g_upd_ne, g_upd_eq, fr_X8_walks, fr_X8_sets]; first | with_reducible assumption | with_reducible omega | decide) | exact Or.inl rfl | exact Or.inr rfl) (by first | decide | with_reducible assumption | with_reducible omega | (simp (disch := omega) only [g_upd_ne, g_upd_eq, fr_X8_walks, fr_X8_sets]; first | with_reducible assumption | with_reducible omega | decide) | exact Or.inl rfl | exact Or.inr rfl)
      · have e_34 : (0 : Int) < (s (58 + 9 * x1.toNatClampNeg + 1)).toInt := j_nleR c_34 rfl
        refine r_aload_n O 1 dX8_minuteOf_37 rfl rfl ?_
        refine r_iload_n O 2 dX8_minuteOf_38 rfl rfl ?_
        refine r_iload_n O 3 dX8_minuteOf_39 rfl rfl ?_
        refine r_iconst (x := 1) O dX8_minuteOf_40 rfl ?_
        refine r_callVi O [.int x1, .int (s (58 + 9 * x1.toNatClampNeg + 1)), .int 1] [] (met_X8_isInTime (g_xl X) hs lm pm m s x1 (s (58 + 9 * x1.toNatClampNeg + 1)) 1 (by first | decide | with_reducible assumption | with_reducible omega | (simp (disch := omega) only [g_upd_ne, g_upd_eq, fr_X8_walks, fr_X8_sets]; first | with_reducible assumption | with_reducible omega | decide) | exact Or.inl rfl | exact Or.inr rfl) (by first | decide | with_reducible assumption | with_reducible omega | (simp (disch := omega) only [g_upd_ne, g_upd_eq, fr_X8_walks, fr_X8_sets]; first | with_reducible assumption | with_reducible omega | decide) | exact Or.inl rfl | exact Or.inr rfl) (by first | decide | with_reducible assumption | with_reducible omega | (simp (disch := omega) only [g_upd_ne, g_upd_eq, fr_X8_walks, fr_X8_sets]; first | with_reducible assumption | with_reducible omega | decide) | exact Or.inl rfl | exact Or.inr rfl)) LX8_88 obj_124 rfl rfl rfl dX8_minuteOf_41 rfl rfl ?_
        refine r_if_ne O 66 dX8_minuteOf_44 (by decide) (fun c_44 => ?_) (fun c_44 => ?_)
        · have e_44 : (R_X8_isInTime s x1 (s (58 + 9 * x1.toNatClampNeg + 1)) 1).toInt = (0 : Int) := j_eqR c_44 rfl
          refine r_aload_n O 1 dX8_minuteOf_47 rfl rfl ?_
          refine r_iload_n O 2 dX8_minuteOf_48 rfl rfl ?_
          refine r_iload_n O 3 dX8_minuteOf_49 rfl rfl ?_
          refine r_iconst (x := 1) O dX8_minuteOf_50 rfl ?_
          refine r_isub O dX8_minuteOf_51 ?_
          refine r_callVi O [.int x1, .int ((s (58 + 9 * x1.toNatClampNeg + 1)) - 1)] [] (met_X8_reason (g_xl X) hs lm pm m s x1 ((s (58 + 9 * x1.toNatClampNeg + 1)) - 1) (by first | decide | with_reducible assumption | with_reducible omega | (simp (disch := omega) only [g_upd_ne, g_upd_eq, fr_X8_walks, fr_X8_sets]; first | with_reducible assumption | with_reducible omega | decide) | exact Or.inl rfl | exact Or.inr rfl) (by first | decide | with_reducible assumption | with_reducible omega | (simp (disch := omega) only [g_upd_ne, g_upd_eq, fr_X8_walks, fr_X8_sets]; first | with_reducible assumption | with_reducible omega | decide) | exact Or.inl rfl | exact Or.inr rfl) (by first | decide | with_reducible assumption | with_reducible omega | (simp (disch := omega) only [g_upd_ne, g_upd_eq, fr_X8_walks, fr_X8_sets]; first | with_reducible assumption | with_reducible omega | decide) | exact Or.inl rfl | exact Or.inr rfl) (by first | decide | with_reducible assumption | with_reducible omega | (simp (disch := omega) only [g_upd_ne, g_upd_eq, fr_X8_walks, fr_X8_sets]; first | with_reducible assumption | with_reducible omega | decide) | exact Or.inl rfl | exact Or.inr rfl) (by first | decide | with_reducible assumption | with_reducible omega | (simp (disch := omega) only [g_upd_ne, g_upd_eq, fr_X8_walks, fr_X8_sets]; first | with_reducible assumption | with_reducible omega | decide) | exact Or.inl rfl | exact Or.inr rfl)) LX8_98 obj_124 rfl rfl rfl dX8_minuteOf_52 rfl rfl ?_
          refine r_if_ne O 66 dX8_minuteOf_55 (by decide) (fun c_55 => ?_) (fun c_55 => ?_)
          · have e_55 : (R_X8_reason s x1 ((s (58 + 9 * x1.toNatClampNeg + 1)) - 1)).toInt = (0 : Int) := j_eqR c_55 rfl
            obtain ⟨zr1, zr2⟩ := z_X8_reason c_55
            refine r_aload_n O 1 dX8_minuteOf_58 rfl rfl ?_
            refine r_iload_n O 2 dX8_minuteOf_59 rfl rfl ?_
            refine r_iload_n O 3 dX8_minuteOf_60 rfl rfl ?_
            refine r_iconst (x := 1) O dX8_minuteOf_61 rfl ?_
            refine r_isub O dX8_minuteOf_62 ?_
            have ix_63x2 : ((s (58 + 9 * x1.toNatClampNeg + 1)) - 1).toInt = ((s (58 + 9 * x1.toNatClampNeg + 1)).toInt - (1 : Int)) := (j_subE rfl rfl (by with_reducible omega) (by with_reducible omega))
            refine r_callVv O [.int x1, .int ((s (58 + 9 * x1.toNatClampNeg + 1)) - 1)] [] (met_X8_sets (g_xl X) hs lm pm m s x1 ((s (58 + 9 * x1.toNatClampNeg + 1)) - 1) (by first | decide | with_reducible assumption | with_reducible omega | (simp (disch := omega) only [g_upd_ne, g_upd_eq, fr_X8_walks, fr_X8_sets]; first | with_reducible assumption | with_reducible omega | decide) | exact Or.inl rfl | exact Or.inr rfl) (by first | decide | with_reducible assumption | with_reducible omega | (simp (disch := omega) only [g_upd_ne, g_upd_eq, fr_X8_walks, fr_X8_sets]; first | with_reducible assumption | with_reducible omega | decide) | exact Or.inl rfl | exact Or.inr rfl) (by first | decide | with_reducible assumption | with_reducible omega | (simp (disch := omega) only [g_upd_ne, g_upd_eq, fr_X8_walks, fr_X8_sets]; first | with_reducible assumption | with_reducible omega | decide) | exact Or.inl rfl | exact Or.inr rfl) (by first | decide | with_reducible assumption | with_reducible omega | (simp (disch := omega) only [g_upd_ne, g_upd_eq, fr_X8_walks, fr_X8_sets]; first | with_reducible assumption | with_reducible omega | decide) | exact Or.inl rfl | exact Or.inr rfl)) LX8_101 obj_124 rfl rfl rfl dX8_minuteOf_63 rfl rfl ?_
            refine r_sub [1, 2, 3, 0] rfl ?_
            exact J_66 (R_X8_sets s x1 ((s (58 + 9 * x1.toNatClampNeg + 1)) - 1)) (by first | decide | with_reducible assumption | with_reducible omega | (simp (disch := omega) only [g_upd_ne, g_upd_eq, fr_X8_walks, fr_X8_sets]; first | with_reducible assumption | with_reducible omega | decide) | exact Or.inl rfl | exact Or.inr rfl) (by first | decide | with_reducible assumption | with_reducible omega | (simp (disch := omega) only [g_upd_ne, g_upd_eq, fr_X8_walks, fr_X8_sets]; first | with_reducible assumption | with_reducible omega | decide) | exact Or.inl rfl | exact Or.inr rfl) (by first | decide | with_reducible assumption | with_reducible omega | (simp (disch := omega) only [g_upd_ne, g_upd_eq, fr_X8_walks, fr_X8_sets]; first | with_reducible assumption | with_reducible omega | decide) | exact Or.inl rfl | exact Or.inr rfl) (by first | decide | with_reducible assumption | with_reducible omega | (simp (disch := omega) only [g_upd_ne, g_upd_eq, fr_X8_walks, fr_X8_sets]; first | with_reducible assumption | with_reducible omega | decide) | exact Or.inl rfl | exact Or.inr rfl)
          · have e_55 : (R_X8_reason s x1 ((s (58 + 9 * x1.toNatClampNeg + 1)) - 1)).toInt ≠ (0 : Int) := j_neR c_55 rfl
            refine r_sub [1, 2, 3, 0] rfl ?_
            exact J_66 s (by first | decide | with_reducible assumption | with_reducible omega | (simp (disch := omega) only [g_upd_ne, g_upd_eq, fr_X8_walks, fr_X8_sets]; first | with_reducible assumption | with_reducible omega | decide) | exact Or.inl rfl | exact Or.inr rfl) (by first | decide | with_reducible assumption | with_reducible omega | (simp (disch := omega) only [g_upd_ne, g_upd_eq, fr_X8_walks, fr_X8_sets]; first | with_reducible assumption | with_reducible omega | decide) | exact Or.inl rfl | exact Or.inr rfl) (by first | decide | with_reducible assumption | with_reducible omega | (simp (disch := omega) only [g_upd_ne, g_upd_eq, fr_X8_walks, fr_X8_sets]; first | with_reducible assumption | with_reducible omega | decide) | exact Or.inl rfl | exact Or.inr rfl) (by first | decide | with_reducible assumption | with_reducible omega | (simp (disch := omega) only [g_upd_ne, g_upd_eq, fr_X8_walks, fr_X8_sets]; first | with_reducible assumption | with_reducible omega | decide) | exact Or.inl rfl | exact Or.inr rfl)
        · have e_44 : (R_X8_isInTime s x1 (s (58 + 9 * x1.toNatClampNeg + 1)) 1).toInt ≠ (0 : Int) := j_neR c_44 rfl
          refine r_sub [1, 2, 3, 0] rfl ?_
          exact J_66 s (by first | decide | with_reducible assumption | with_reducible omega | (simp (disch := omega) only [g_upd_ne, g_upd_eq, fr_X8_walks, fr_X8_sets]; first | with_reducible assumption | with_reducible omega | decide) | exact Or.inl rfl | exact Or.inr rfl) (by first | decide | with_reducible assumption | with_reducible omega | (simp (disch := omega) only [g_upd_ne, g_upd_eq, fr_X8_walks, fr_X8_sets]; first | with_reducible assumption | with_reducible omega | decide) | exact Or.inl rfl | exact Or.inr rfl) (by first | decide | with_reducible assumption | with_reducible omega | (simp (disch := omega) only [g_upd_ne, g_upd_eq, fr_X8_walks, fr_X8_sets]; first | with_reducible assumption | with_reducible omega | decide) | exact Or.inl rfl | exact Or.inr rfl) (by first | decide | with_reducible assumption | with_reducible omega | (simp (disch := omega) only [g_upd_ne, g_upd_eq, fr_X8_walks, fr_X8_sets]; first | with_reducible assumption | with_reducible omega | decide) | exact Or.inl rfl | exact Or.inr rfl)
  have J_23 : g_V X (fun r : Nat → Int32 => ((.inl none, (m, r, lm, pm)) : g_Res)) (R_X8_minuteOf_23 s x1 ) 0 0 m (s, lm, pm) 23 [(0, .ref (g_ad X 124)), (1, .int x1), (2, .int (s (58 + 9 * x1.toNatClampNeg + 1)))] [] := by
    refine r_iconst (x := 0) O dX8_minuteOf_23 rfl ?_
    exact J_24 0
  refine r_if_eq O 23 dX8_minuteOf_12 (by decide) (fun c_12 => ?_) (fun c_12 => ?_)
  · have e_12 : (R_X8_stands s x1).toInt = (0 : Int) := j_eqR c_12 rfl
    refine r_sub [1, 2, 0] rfl ?_
    exact J_23
  · have e_12 : (R_X8_stands s x1).toInt ≠ (0 : Int) := j_neR c_12 rfl
    refine r_iload_n O 0 dX8_minuteOf_15 rfl rfl ?_
    refine r_if_ne O 23 dX8_minuteOf_16 (by decide) (fun c_16 => ?_) (fun c_16 => ?_)
    · have e_16 : (s (58 + 9 * x1.toNatClampNeg + 1)).toInt = (0 : Int) := j_eqR c_16 rfl
      refine r_iconst (x := 1) O dX8_minuteOf_19 rfl ?_
      refine r_goto O 24 dX8_minuteOf_20 (by decide) ?_
      refine r_sub [1, 2, 0] rfl ?_
      exact J_24 1
    · have e_16 : (s (58 + 9 * x1.toNatClampNeg + 1)).toInt ≠ (0 : Int) := j_neR c_16 rfl
      refine r_sub [1, 2, 0] rfl ?_
      exact J_23
theorem met_X8_minuteOf (l : Launch) (hs : l.stackTraces = false) (lm : Nat → Int64) (pm : Nat → Nat) (m : Nat → Int32) (s : Nat → Int32) (x1 : Int32) (p0 : 0 ≤ x1.toInt) (p1 : x1.toInt < 6) (p2 : (s 0).toInt ≤ 7) (p3 : 0 ≤ (s (58 + 9 * x1.toNatClampNeg + 1)).toInt) (p4 : (s (58 + 9 * x1.toNatClampNeg + 1)).toInt ≤ 7) (p5 : -1 ≤ (s (58 + 9 * x1.toNatClampNeg + 5)).toInt) (p6 : (s (58 + 9 * x1.toNatClampNeg + 5)).toInt ≤ 7) : g_SM l yX8_minuteOf cX8_minuteOf 7 none ({ frames := 4, cells := 0, slots := 0, locals := 92 } : Room) (fun ad => [.ref (ad 124), .int x1]) m (s, lm, pm) ((fun r : Nat → Int32 => ((.inl none, (m, r, lm, pm)) : g_Res)) (R_X8_minuteOf s x1)) :=
  g_sm_of (by decide) (fun _ => Nat.le_of_ble_eq_true rfl) hs (fun X hl hn O => walk_X8_minuteOf O (by rw [hl]; exact hs) hn p0 p1 p2 p3 p4 p5 p6)
