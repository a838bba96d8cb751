/-! ===== the model: holding, carrying ===== -/
def R_X8_hold_2 (s : Nat → Int32) : Nat → Nat → (Nat → Int32) → (Nat → Int32)
  | 0, _, _ => s
  | f + 1, k, s_2 => (if 178 ≤ (nI k) then s_2 else ((R_X8_hold_2 s f) (k + 1) (upd s_2 (200 + (nI k).toNatClampNeg) (s_2 ((nI k).toNatClampNeg)))))
def R_X8_hold (s : Nat → Int32) : (Nat → Int32) := (R_X8_hold_2 s 179 0 s)
set_option maxRecDepth 100000 in
set_option maxHeartbeats 4000000 in
theorem walk_X8_hold {X : g_X} (O : g_ok X cX8_hold RX8 none ({ frames := 0, cells := 0, slots := 0, locals := 0 } : Room)) (hs : (g_xl X).stackTraces = false) (hn : g_xn X = 2) {m : Nat → Int32} {lm : Nat → Int64} {pm : Nat → Nat} {s : Nat → Int32}  : g_V X (fun r : Nat → Int32 => ((.inl none, (m, r, lm, pm)) : g_Res)) (R_X8_hold s) 0 0 m (s, lm, pm) 0 [(0, .ref (g_ad X 124))] [] := by
  have hN : ∀ i, Nat.blt i 2 = true → i < g_xn X := fun i h => by rw [hn]; exact g_blt.mp h
  refine r_iconst (x := 0) O dX8_hold_0 rfl ?_
  refine r_istore_n (lc' := [(1, .int 0), (0, .ref (g_ad X 124))]) O dX8_hold_1 rfl (hN 1 rfl) rfl ?_
  have L_2 : ∀ (f_2 : Nat) (k : Nat) (s_2 : Nat → Int32) (hi_2 : k ≤ 178 ∧ 178 < f_2 + k), g_V X (fun r : Nat → Int32 => ((.inl none, (m, r, lm, pm)) : g_Res)) (R_X8_hold_2 s f_2 k s_2) 0 0 m (s_2, lm, pm) 2 [(0, .ref (g_ad X 124)), (1, .int (nI k))] [] := by
    intro f_2
    induction f_2 with
    | zero => intro k s_2 hi_2; exact absurd hi_2 (by omega)
    | succ f_2 ih_2 =>
      intro k s_2 hi_2
      have hc_k : (nI k).toInt = (k : Int) := nI_toInt (by omega)
      refine r_iload_n O 1 dX8_hold_2 rfl rfl ?_
      refine r_sipush (x := 178) O dX8_hold_3 rfl ?_
      refine r_icmp_ge O 27 dX8_hold_6 (by decide) (fun c_6 => ?_) (fun c_6 => ?_)
      · have e_6 : (178 : Int) ≤ (nI k).toInt := j_leL c_6 rfl
        exact r_vret O dX8_hold_27 (Nat.le_of_ble_eq_true rfl) (Nat.le_of_ble_eq_true rfl) rfl
      · have e_6 : (nI k).toInt < (178 : Int) := j_nleL c_6 rfl
        refine r_aload_n O 0 dX8_hold_9 rfl rfl ?_
        refine r_get O FX8_16 G_124_2 dX8_hold_10 ?_
        refine r_iload_n O 1 dX8_hold_13 rfl rfl ?_
        refine r_aload_n O 0 dX8_hold_14 rfl rfl ?_
        refine r_get O FX8_7 G_124_0 dX8_hold_15 ?_
        refine r_iload_n O 1 dX8_hold_18 rfl rfl ?_
        have iy_19 := nI_clamp (n := k) (by with_reducible omega)
        refine r_iald O R_125 (show vp_in (nI k) 178 from g_vin (by with_reducible omega) (by with_reducible omega)) dX8_hold_19 ?_
        have iy_20 := nI_clamp (n := k) (by with_reducible omega)
        refine r_iastM O T_127 (show vp_in (nI k) 178 from g_vin (by with_reducible omega) (by with_reducible omega)) dX8_hold_20 ?_
        refine r_iinc (lc' := [(1, .int (nI (k + 1))), (0, .ref (g_ad X 124))]) O 1 dX8_hold_21 rfl (nI_1 k) (hN 1 rfl) rfl ?_
        refine r_goto O 2 dX8_hold_24 (by decide) ?_
        refine r_sub [1, 0] rfl ?_
        exact ih_2 (k + 1) (upd s_2 (200 + (nI k).toNatClampNeg) (s_2 ((nI k).toNatClampNeg))) (by with_reducible omega)
  refine r_sub [1, 0] rfl ?_
  exact L_2 179 0 s (by with_reducible omega)
theorem met_X8_hold (l : Launch) (hs : l.stackTraces = false) (lm : Nat → Int64) (pm : Nat → Nat) (m : Nat → Int32) (s : Nat → Int32)  : g_SM l yX8_hold cX8_hold 2 none ({ frames := 0, cells := 0, slots := 0, locals := 0 } : Room) (fun ad => [.ref (ad 124)]) m (s, lm, pm) ((fun r : Nat → Int32 => ((.inl none, (m, r, lm, pm)) : g_Res)) (R_X8_hold s)) :=
  g_sm_of (by decide) (fun _ => Nat.le_of_ble_eq_true rfl) hs (fun X hl hn O => walk_X8_hold O (by rw [hl]; exact hs) hn )
def R_X8_ends_51 (s : Nat → Int32) (x1 : Int32) : Nat → Nat → (Nat → Int32) → (Int32 × (Nat → Int32))
  | 0, _, _ => (0, s)
  | f + 1, k, s_51 => (if 178 ≤ (nI k) then ((R_X8_tells (upd s_51 1300 ((s_51 1300) + 1)) x1).1, (R_X8_tells (upd s_51 1300 ((s_51 1300) + 1)) x1).2) else ((R_X8_ends_51 s x1 f) (k + 1) (upd s_51 (400 + ((178 * (s_51 1300)) + (nI k)).toNatClampNeg) (s_51 (200 + (nI k).toNatClampNeg)))))
def R_X8_ends_49 (s : Nat → Int32) (x1 : Int32) (s_49 : Nat → Int32) : (Int32 × (Nat → Int32)) := (R_X8_ends_51 s x1 179 0 s_49)
def R_X8_ends_10 (s : Nat → Int32) (x1 : Int32) : Nat → Nat → (Nat → Int32) → (Int32 × (Nat → Int32))
  | 0, _, _ => (0, s)
  | f + 1, k, s_10 => (if 534 ≤ (nI k) then (R_X8_ends_49 s x1 (upd s_10 1300 ((s_10 1300) - 1))) else ((R_X8_ends_10 s x1 f) (k + 1) (upd s_10 (400 + (nI k).toNatClampNeg) (s_10 (400 + ((nI k) + 178).toNatClampNeg)))))
def R_X8_ends (s : Nat → Int32) (x1 : Int32) : (Int32 × (Nat → Int32)) := (if (s 1300) = 4 then (R_X8_ends_10 s x1 535 0 s) else (R_X8_ends_49 s x1 s))
set_option maxRecDepth 100000 in
set_option maxHeartbeats 4000000 in
theorem walk_X8_ends {X : g_X} (O : g_ok X cX8_ends RX8 (some .int) ({ frames := 1, cells := 0, slots := 0, locals := 21 } : Room)) (hs : (g_xl X).stackTraces = false) (hn : g_xn X = 3) {m : Nat → Int32} {lm : Nat → Int64} {pm : Nat → Nat} {s : Nat → Int32} {x1 : Int32} (p0 : 0 ≤ (s 1300).toInt) (p1 : (s 1300).toInt ≤ 4) : g_V X (fun r : Int32 × (Nat → Int32) => ((.inl (some (.int r.1)), (m, r.2, lm, pm)) : g_Res)) (R_X8_ends s x1) 0 0 m (s, lm, pm) 0 [(0, .ref (g_ad X 124)), (1, .int x1)] [] := by
  have hN : ∀ i, Nat.blt i 3 = true → i < g_xn X := fun i h => by rw [hn]; exact g_blt.mp h
  refine r_aload_n O 0 dX8_ends_0 rfl rfl ?_
  refine r_get O FX8_30 G_124_3 dX8_ends_1 ?_
  refine r_iconst (x := 4) O dX8_ends_4 rfl ?_
  have J_49 : ∀ (s_49 : Nat → Int32) (hj0 : 0 ≤ (s_49 1300).toInt) (hj1 : (s_49 1300).toInt ≤ 3), g_V X (fun r : Int32 × (Nat → Int32) => ((.inl (some (.int r.1)), (m, r.2, lm, pm)) : g_Res)) (R_X8_ends_49 s x1 s_49) 0 0 m (s_49, lm, pm) 49 [(0, .ref (g_ad X 124)), (1, .int x1)] [] := by
    intro s_49 hj0 hj1
    refine r_iconst (x := 0) O dX8_ends_49 rfl ?_
    refine r_istore_n (lc' := [(2, .int 0), (0, .ref (g_ad X 124)), (1, .int x1)]) O dX8_ends_50 rfl (hN 2 rfl) rfl ?_
    have L_51 : ∀ (f_51 : Nat) (k : Nat) (s_51 : Nat → Int32) (hi_51 : k ≤ 178 ∧ 178 < f_51 + k ∧ 0 ≤ (s_51 1300).toInt ∧ (s_51 1300).toInt ≤ 3), g_V X (fun r : Int32 × (Nat → Int32) => ((.inl (some (.int r.1)), (m, r.2, lm, pm)) : g_Res)) (R_X8_ends_51 s x1 f_51 k s_51) 0 0 m (s_51, lm, pm) 51 [(0, .ref (g_ad X 124)), (1, .int x1), (2, .int (nI k))] [] := by
      intro f_51
      induction f_51 with
      | zero => intro k s_51 hi_51; exact absurd hi_51 (by omega)
      | succ f_51 ih_51 =>
        intro k s_51 hi_51
        have hc_k : (nI k).toInt = (k : Int) := nI_toInt (by omega)
        obtain ⟨hi1, hi2, hi3, hi4⟩ := hi_51
        refine r_iload_n O 2 dX8_ends_51 rfl rfl ?_
        refine r_sipush (x := 178) O dX8_ends_52 rfl ?_
        refine r_icmp_ge O 85 dX8_ends_55 (by decide) (fun c_55 => ?_) (fun c_55 => ?_)
        · have e_55 : (178 : Int) ≤ (nI k).toInt := j_leL c_55 rfl
          refine r_aload_n O 0 dX8_ends_85 rfl rfl ?_
          refine r_dup O dX8_ends_86 rfl ?_
          refine r_get O FX8_30 G_124_3 dX8_ends_87 ?_
          refine r_iconst (x := 1) O dX8_ends_90 rfl ?_
          refine r_iadd O dX8_ends_91 ?_
          refine r_put O (FPX8_30 ((s_51 1300) + 1)) (S_124_3 ((s_51 1300) + 1)) dX8_ends_92 ?_
          refine r_aload_n O 0 dX8_ends_95 rfl rfl ?_
          refine r_iload_n O 1 dX8_ends_96 rfl rfl ?_
          refine r_callVi O [.int x1] [] (met_X8_tells (g_xl X) hs lm pm m (upd s_51 1300 ((s_51 1300) + 1)) x1 ) LX8_33 obj_124 rfl rfl rfl dX8_ends_97 rfl rfl ?_
          exact r_iret O dX8_ends_100 rfl (Nat.le_of_ble_eq_true rfl) (Nat.le_of_ble_eq_true rfl) rfl
        · have e_55 : (nI k).toInt < (178 : Int) := j_nleL c_55 rfl
          refine r_aload_n O 0 dX8_ends_58 rfl rfl ?_
          refine r_get O FX8_13 G_124_1 dX8_ends_59 ?_
          refine r_sipush (x := 178) O dX8_ends_62 rfl ?_
          refine r_aload_n O 0 dX8_ends_65 rfl rfl ?_
          refine r_get O FX8_30 G_124_3 dX8_ends_66 ?_
          refine r_imul O dX8_ends_69 ?_
          refine r_iload_n O 2 dX8_ends_70 rfl rfl ?_
          refine r_iadd O dX8_ends_71 ?_
          refine r_aload_n O 0 dX8_ends_72 rfl rfl ?_
          refine r_get O FX8_16 G_124_2 dX8_ends_73 ?_
          refine r_iload_n O 2 dX8_ends_76 rfl rfl ?_
          have iy_77 := nI_clamp (n := k) (by with_reducible omega)
          refine r_iald O R_127 (show vp_in (nI k) 178 from g_vin (by with_reducible omega) (by with_reducible omega)) dX8_ends_77 ?_
          have ix_78 : ((178 * (s_51 1300)) + (nI k)).toInt = (((178 : Int) * (s_51 1300).toInt) + (nI k).toInt) := (j_addE (j_mulE rfl rfl (by with_reducible omega) (by with_reducible omega)) rfl (by with_reducible omega) (by with_reducible omega))
          have iy_78 := j_nat (x := ((178 * (s_51 1300)) + (nI k))) (by with_reducible omega)
          refine r_iastM O T_126 (show vp_in ((178 * (s_51 1300)) + (nI k)) 712 from g_vin (by with_reducible omega) (by with_reducible omega)) dX8_ends_78 ?_
          refine r_iinc (lc' := [(2, .int (nI (k + 1))), (0, .ref (g_ad X 124)), (1, .int x1)]) O 2 dX8_ends_79 rfl (nI_1 k) (hN 2 rfl) rfl ?_
          refine r_goto O 51 dX8_ends_82 (by decide) ?_
          refine r_sub [1, 2, 0] rfl ?_
          exact ih_51 (k + 1) (upd s_51 (400 + ((178 * (s_51 1300)) + (nI k)).toNatClampNeg) (s_51 (200 + (nI k).toNatClampNeg))) ⟨(by first | decide | with_reducible assumption | with_reducible omega | (simp (disch := omega) only [g_upd_ne, g_upd_eq, fr_X8_walks, fr_X8_sets]; first | with_reducible assumption | with_reducible omega | decide) | exact Or.inl rfl | exact Or.inr rfl), (by first | decide | with_reducible assumption | with_reducible omega | (simp (disch := omega) only [g_upd_ne, g_upd_eq, fr_X8_walks, fr_X8_sets]; first | with_reducible assumption | with_reducible omega | decide) | exact Or.inl rfl | exact Or.inr rfl), (by first | decide | with_reducible assumption | with_reducible omega | (simp (disch := omega) only [g_upd_ne, g_upd_eq, fr_X8_walks, fr_X8_sets]; first | with_reducible assumption | with_reducible omega | decide) | exact Or.inl rfl | exact Or.inr rfl), (by first | decide | with_reducible assumption | with_reducible omega | (simp (disch := omega) only [g_upd_ne, g_upd_eq, fr_X8_walks, fr_X8_sets]; first | with_reducible assumption | with_reducible omega | decide) | exact Or.inl rfl | exact Or.inr rfl)⟩
    refine r_sub [1, 2, 0] rfl ?_
    exact L_51 179 0 s_49 ⟨(by first | decide | with_reducible assumption | with_reducible omega | (simp (disch := omega) only [g_upd_ne, g_upd_eq, fr_X8_walks, fr_X8_sets]; first | with_reducible assumption | with_reducible omega | decide) | exact Or.inl rfl | exact Or.inr rfl), (by first | decide | with_reducible assumption | with_reducible omega | (simp (disch := omega) only [g_upd_ne, g_upd_eq, fr_X8_walks, fr_X8_sets]; first | with_reducible assumption | with_reducible omega | decide) | exact Or.inl rfl | exact Or.inr rfl), (by first | decide | with_reducible assumption | with_reducible omega | (simp (disch := omega) only [g_upd_ne, g_upd_eq, fr_X8_walks, fr_X8_sets]; first | with_reducible assumption | with_reducible omega | decide) | exact Or.inl rfl | exact Or.inr rfl), (by first | decide | with_reducible assumption | with_reducible omega | (simp (disch := omega) only [g_upd_ne, g_upd_eq, fr_X8_walks, fr_X8_sets]; first | with_reducible assumption | with_reducible omega | decide) | exact Or.inl rfl | exact Or.inr rfl)⟩
  refine r_icmp_ne O 49 dX8_ends_5 (by decide) (fun c_5 => ?_) (fun c_5 => ?_)
  · have e_5 : (s 1300).toInt = (4 : Int) := j_eqR c_5 rfl
    refine r_iconst (x := 0) O dX8_ends_8 rfl ?_
    refine r_istore_n (lc' := [(2, .int 0), (0, .ref (g_ad X 124)), (1, .int x1)]) O dX8_ends_9 rfl (hN 2 rfl) rfl ?_
    have L_10 : ∀ (f_10 : Nat) (k : Nat) (s_10 : Nat → Int32) (hi_10 : k ≤ 534 ∧ 534 < f_10 + k ∧ (s_10 1300).toInt = 4), g_V X (fun r : Int32 × (Nat → Int32) => ((.inl (some (.int r.1)), (m, r.2, lm, pm)) : g_Res)) (R_X8_ends_10 s x1 f_10 k s_10) 0 0 m (s_10, lm, pm) 10 [(0, .ref (g_ad X 124)), (1, .int x1), (2, .int (nI k))] [] := by
      intro f_10
      induction f_10 with
      | zero => intro k s_10 hi_10; exact absurd hi_10 (by omega)
      | succ f_10 ih_10 =>
        intro k s_10 hi_10
        have hc_k : (nI k).toInt = (k : Int) := nI_toInt (by omega)
        obtain ⟨hi1, hi2, hi3⟩ := hi_10
        have hq := j_sub1 (x := s_10 1300) (by omega)
        refine r_iload_n O 2 dX8_ends_10 rfl rfl ?_
        refine r_sipush (x := 534) O dX8_ends_11 rfl ?_
        refine r_icmp_ge O 39 dX8_ends_14 (by decide) (fun c_14 => ?_) (fun c_14 => ?_)
        · have e_14 : (534 : Int) ≤ (nI k).toInt := j_leL c_14 rfl
          refine r_aload_n O 0 dX8_ends_39 rfl rfl ?_
          refine r_dup O dX8_ends_40 rfl ?_
          refine r_get O FX8_30 G_124_3 dX8_ends_41 ?_
          refine r_iconst (x := 1) O dX8_ends_44 rfl ?_
          refine r_isub O dX8_ends_45 ?_
          refine r_put O (FPX8_30 ((s_10 1300) - 1)) (S_124_3 ((s_10 1300) - 1)) dX8_ends_46 ?_
          refine r_sub [0, 1] rfl ?_
          exact J_49 (upd s_10 1300 ((s_10 1300) - 1)) (by first | decide | with_reducible assumption | with_reducible omega | (simp (disch := omega) only [g_upd_ne, g_upd_eq, fr_X8_walks, fr_X8_sets]; first | with_reducible assumption | with_reducible omega | decide) | exact Or.inl rfl | exact Or.inr rfl) (by first | decide | with_reducible assumption | with_reducible omega | (simp (disch := omega) only [g_upd_ne, g_upd_eq, fr_X8_walks, fr_X8_sets]; first | with_reducible assumption | with_reducible omega | decide) | exact Or.inl rfl | exact Or.inr rfl)
        · have e_14 : (nI k).toInt < (534 : Int) := j_nleL c_14 rfl
          refine r_aload_n O 0 dX8_ends_17 rfl rfl ?_
          refine r_get O FX8_13 G_124_1 dX8_ends_18 ?_
          refine r_iload_n O 2 dX8_ends_21 rfl rfl ?_
          refine r_aload_n O 0 dX8_ends_22 rfl rfl ?_
          refine r_get O FX8_13 G_124_1 dX8_ends_23 ?_
          refine r_iload_n O 2 dX8_ends_26 rfl rfl ?_
          refine r_sipush (x := 178) O dX8_ends_27 rfl ?_
          refine r_iadd O dX8_ends_30 ?_
          have ix_31 : ((nI k) + 178).toInt = ((nI k).toInt + (178 : Int)) := (j_addE rfl rfl (by with_reducible omega) (by with_reducible omega))
          have iy_31 := j_nat (x := ((nI k) + 178)) (by with_reducible omega)
          refine r_iald O R_126 (show vp_in ((nI k) + 178) 712 from g_vin (by with_reducible omega) (by with_reducible omega)) dX8_ends_31 ?_
          have iy_32 := nI_clamp (n := k) (by with_reducible omega)
          refine r_iastM O T_126 (show vp_in (nI k) 712 from g_vin (by with_reducible omega) (by with_reducible omega)) dX8_ends_32 ?_
          refine r_iinc (lc' := [(2, .int (nI (k + 1))), (0, .ref (g_ad X 124)), (1, .int x1)]) O 2 dX8_ends_33 rfl (nI_1 k) (hN 2 rfl) rfl ?_
          refine r_goto O 10 dX8_ends_36 (by decide) ?_
          refine r_sub [1, 2, 0] rfl ?_
          exact ih_10 (k + 1) (upd s_10 (400 + (nI k).toNatClampNeg) (s_10 (400 + ((nI k) + 178).toNatClampNeg))) ⟨(by first | decide | with_reducible assumption | with_reducible omega | (simp (disch := omega) only [g_upd_ne, g_upd_eq, fr_X8_walks, fr_X8_sets]; first | with_reducible assumption | with_reducible omega | decide) | exact Or.inl rfl | exact Or.inr rfl), (by first | decide | with_reducible assumption | with_reducible omega | (simp (disch := omega) only [g_upd_ne, g_upd_eq, fr_X8_walks, fr_X8_sets]; first | with_reducible assumption | with_reducible omega | decide) | exact Or.inl rfl | exact Or.inr rfl), (by first | decide | with_reducible assumption | with_reducible omega | (simp (disch := omega) only [g_upd_ne, g_upd_eq, fr_X8_walks, fr_X8_sets]; first | with_reducible assumption | with_reducible omega | decide) | exact Or.inl rfl | exact Or.inr rfl)⟩
    refine r_sub [1, 2, 0] rfl ?_
    exact L_10 535 0 s ⟨(by first | decide | with_reducible assumption | with_reducible omega | (simp (disch := omega) only [g_upd_ne, g_upd_eq, fr_X8_walks, fr_X8_sets]; first | with_reducible assumption | with_reducible omega | decide) | exact Or.inl rfl | exact Or.inr rfl), (by first | decide | with_reducible assumption | with_reducible omega | (simp (disch := omega) only [g_upd_ne, g_upd_eq, fr_X8_walks, fr_X8_sets]; first | with_reducible assumption | with_reducible omega | decide) | exact Or.inl rfl | exact Or.inr rfl), (by first | decide | with_reducible assumption | with_reducible omega | (simp (disch := omega) only [g_upd_ne, g_upd_eq, fr_X8_walks, fr_X8_sets]; first | with_reducible assumption | with_reducible omega | decide) | exact Or.inl rfl | exact Or.inr rfl)⟩
  · have e_5 : (s 1300).toInt ≠ (4 : Int) := j_neR c_5 rfl
    exact J_49 s (by first | decide | with_reducible assumption | with_reducible omega | (simp (disch := omega) only [g_upd_ne, g_upd_eq, fr_X8_walks, fr_X8_sets]; first | with_reducible assumption | with_reducible omega | decide) | exact Or.inl rfl | exact Or.inr rfl) (by first | decide | with_reducible assumption | with_reducible omega | (simp (disch := omega) only [g_upd_ne, g_upd_eq, fr_X8_walks, fr_X8_sets]; first | with_reducible assumption | with_reducible omega | decide) | exact Or.inl rfl | exact Or.inr rfl)
theorem met_X8_ends (l : Launch) (hs : l.stackTraces = false) (lm : Nat → Int64) (pm : Nat → Nat) (m : Nat → Int32) (s : Nat → Int32) (x1 : Int32) (p0 : 0 ≤ (s 1300).toInt) (p1 : (s 1300).toInt ≤ 4) : g_SM l yX8_ends cX8_ends 3 (some .int) ({ frames := 1, cells := 0, slots := 0, locals := 21 } : Room) (fun ad => [.ref (ad 124), .int x1]) m (s, lm, pm) ((fun r : Int32 × (Nat → Int32) => ((.inl (some (.int r.1)), (m, r.2, lm, pm)) : g_Res)) (R_X8_ends s x1)) :=
  g_sm_of (by decide) (fun _ => Nat.le_of_ble_eq_true rfl) hs (fun X hl hn O => walk_X8_ends O (by rw [hl]; exact hs) hn p0 p1)
def R_X8_begins_113 (K_38 : Nat → (Nat → Int32) → (Nat → Int32)) (p : Nat) (s_38 : Nat → Int32) (t0_73 : Int32) (t0_113 : Int32) : (Nat → Int32) := (K_38 (p + 1) (upd (upd (upd s_38 ((13 + (nI p)).toNatClampNeg) t0_73) ((20 + (nI p)).toNatClampNeg) t0_113) ((27 + (nI p)).toNatClampNeg) (-1)))
def R_X8_begins_73 (K_38 : Nat → (Nat → Int32) → (Nat → Int32)) (p : Nat) (s_38 : Nat → Int32) (t0_73 : Int32) : (Nat → Int32) := (if (nI p) = 1 then (R_X8_begins_113 K_38 p s_38 t0_73 8) else (if (nI p) = 2 then (R_X8_begins_113 K_38 p s_38 t0_73 6) else (if (nI p) = 3 then (R_X8_begins_113 K_38 p s_38 t0_73 10) else (R_X8_begins_113 K_38 p s_38 t0_73 5))))
def R_X8_begins_38 (s : Nat → Int32) : Nat → Nat → (Nat → Int32) → (Nat → Int32)
  | 0, _, _ => s
  | f + 1, p, s_38 => (if 7 ≤ (nI p) then s_38 else (if (nI p) = 1 then (R_X8_begins_73 (R_X8_begins_38 s f) p s_38 20) else (if (nI p) = 3 then (R_X8_begins_73 (R_X8_begins_38 s f) p s_38 35) else (R_X8_begins_73 (R_X8_begins_38 s f) p s_38 0))))
def R_X8_begins_2 (s : Nat → Int32) (x1 : Int32) : Nat → Nat → (Nat → Int32) → (Nat → Int32)
  | 0, _, _ => s
  | f + 1, k, s_2 => (if 178 ≤ (nI k) then (R_X8_begins_38 s 8 0 (upd (upd s_2 (0) x1) (4) x1)) else ((R_X8_begins_2 s x1 f) (k + 1) (upd s_2 ((nI k).toNatClampNeg) 0)))
def R_X8_begins (s : Nat → Int32) (x1 : Int32) : (Nat → Int32) := (R_X8_begins_2 s x1 179 0 s)
set_option maxRecDepth 100000 in
set_option maxHeartbeats 4000000 in
theorem walk_X8_begins {X : g_X} (O : g_ok X cX8_begins RX8 none ({ frames := 0, cells := 0, slots := 0, locals := 0 } : Room)) (hs : (g_xl X).stackTraces = false) (hn : g_xn X = 3) {m : Nat → Int32} {lm : Nat → Int64} {pm : Nat → Nat} {s : Nat → Int32} {x1 : Int32}  : g_V X (fun r : Nat → Int32 => ((.inl none, (m, r, lm, pm)) : g_Res)) (R_X8_begins s x1) 0 0 m (s, lm, pm) 0 [(0, .ref (g_ad X 124)), (1, .int x1)] [] := by
  have hN : ∀ i, Nat.blt i 3 = true → i < g_xn X := fun i h => by rw [hn]; exact g_blt.mp h
  refine r_iconst (x := 0) O dX8_begins_0 rfl ?_
  refine r_istore_n (lc' := [(2, .int 0), (0, .ref (g_ad X 124)), (1, .int x1)]) O dX8_begins_1 rfl (hN 2 rfl) rfl ?_
  have L_2 : ∀ (f_2 : Nat) (k : Nat) (s_2 : Nat → Int32) (hi_2 : k ≤ 178 ∧ 178 < f_2 + k), g_V X (fun r : Nat → Int32 => ((.inl none, (m, r, lm, pm)) : g_Res)) (R_X8_begins_2 s x1 f_2 k s_2) 0 0 m (s_2, lm, pm) 2 [(0, .ref (g_ad X 124)), (1, .int x1), (2, .int (nI k))] [] := by
    intro f_2
    induction f_2 with
    | zero => intro k s_2 hi_2; exact absurd hi_2 (by omega)
    | succ f_2 ih_2 =>
      intro k s_2 hi_2
      have hc_k : (nI k).toInt = (k : Int) := nI_toInt (by omega)
      refine r_iload_n O 2 dX8_begins_2 rfl rfl ?_
      refine r_sipush (x := 178) O dX8_begins_3 rfl ?_
      refine r_icmp_ge O 22 dX8_begins_6 (by decide) (fun c_6 => ?_) (fun c_6 => ?_)
      · have e_6 : (178 : Int) ≤ (nI k).toInt := j_leL c_6 rfl
        refine r_aload_n O 0 dX8_begins_22 rfl rfl ?_
        refine r_get O FX8_7 G_124_0 dX8_begins_23 ?_
        refine r_iconst (x := 0) O dX8_begins_26 rfl ?_
        refine r_iload_n O 1 dX8_begins_27 rfl rfl ?_
        refine r_iastM O T_125 (g_vin (by decide) (by decide)) dX8_begins_28 ?_
        refine r_aload_n O 0 dX8_begins_29 rfl rfl ?_
        refine r_get O FX8_7 G_124_0 dX8_begins_30 ?_
        refine r_iconst (x := 4) O dX8_begins_33 rfl ?_
        refine r_iload_n O 1 dX8_begins_34 rfl rfl ?_
        refine r_iastM O T_125 (g_vin (by decide) (by decide)) dX8_begins_35 ?_
        refine r_iconst (x := 0) O dX8_begins_36 rfl ?_
        refine r_istore_n (lc' := [(2, .int 0), (0, .ref (g_ad X 124)), (1, .int x1)]) O dX8_begins_37 rfl (hN 2 rfl) rfl ?_
        have L_38 : ∀ (f_38 : Nat) (p : Nat) (s_38 : Nat → Int32) (hi_38 : p ≤ 7 ∧ 7 < f_38 + p), g_V X (fun r : Nat → Int32 => ((.inl none, (m, r, lm, pm)) : g_Res)) (R_X8_begins_38 s f_38 p s_38) 0 0 m (s_38, lm, pm) 38 [(0, .ref (g_ad X 124)), (2, .int (nI p))] [] := by
          intro f_38
          induction f_38 with
          | zero => intro p s_38 hi_38; exact absurd hi_38 (by omega)
          | succ f_38 ih_38 =>
            intro p s_38 hi_38
            have hc_p : (nI p).toInt = (p : Int) := nI_toInt (by omega)
            refine r_iload_n O 1 dX8_begins_38 rfl rfl ?_
            refine r_bipush (x := 7) O dX8_begins_39 rfl ?_
            refine r_icmp_ge O 130 dX8_begins_41 (by decide) (fun c_41 => ?_) (fun c_41 => ?_)
            · have e_41 : (7 : Int) ≤ (nI p).toInt := j_leL c_41 rfl
              exact r_vret O dX8_begins_130 (Nat.le_of_ble_eq_true rfl) (Nat.le_of_ble_eq_true rfl) rfl
            · have e_41 : (nI p).toInt < (7 : Int) := j_nleL c_41 rfl
              refine r_aload_n O 0 dX8_begins_44 rfl rfl ?_
              refine r_get O FX8_7 G_124_0 dX8_begins_45 ?_
              refine r_bipush (x := 13) O dX8_begins_48 rfl ?_
              refine r_iload_n O 1 dX8_begins_50 rfl rfl ?_
              refine r_iadd O dX8_begins_51 ?_
              refine r_iload_n O 1 dX8_begins_52 rfl rfl ?_
              refine r_iconst (x := 1) O dX8_begins_53 rfl ?_
              have J_73 : ∀ (t0_73 : Int32), g_V X (fun r : Nat → Int32 => ((.inl none, (m, r, lm, pm)) : g_Res)) (R_X8_begins_73 ((R_X8_begins_38 s f_38)) p s_38 t0_73) 0 0 m (s_38, lm, pm) 73 [(0, .ref (g_ad X 124)), (2, .int (nI p))] [.int t0_73, .int (13 + (nI p)), .ref (g_ad X 125)] := by
                intro t0_73
                have ix_73 : (13 + (nI p)).toInt = ((13 : Int) + (nI p).toInt) := (j_addE rfl rfl (by with_reducible omega) (by with_reducible omega))
                have iy_73 := j_nat (x := (13 + (nI p))) (by with_reducible omega)
                refine r_iastM O T_125 (show vp_in (13 + (nI p)) 178 from g_vin (by with_reducible omega) (by with_reducible omega)) dX8_begins_73 ?_
                refine r_aload_n O 0 dX8_begins_74 rfl rfl ?_
                refine r_get O FX8_7 G_124_0 dX8_begins_75 ?_
                refine r_bipush (x := 20) O dX8_begins_78 rfl ?_
                refine r_iload_n O 1 dX8_begins_80 rfl rfl ?_
                refine r_iadd O dX8_begins_81 ?_
                refine r_iload_n O 1 dX8_begins_82 rfl rfl ?_
                refine r_iconst (x := 1) O dX8_begins_83 rfl ?_
                have J_113 : ∀ (t0_113 : Int32), g_V X (fun r : Nat → Int32 => ((.inl none, (m, r, lm, pm)) : g_Res)) (R_X8_begins_113 ((R_X8_begins_38 s f_38)) p s_38 t0_73 t0_113) 0 0 m ((upd s_38 ((13 + (nI p)).toNatClampNeg) t0_73), lm, pm) 113 [(0, .ref (g_ad X 124)), (2, .int (nI p))] [.int t0_113, .int (20 + (nI p)), .ref (g_ad X 125)] := by
                  intro t0_113
                  have ix_113 : (20 + (nI p)).toInt = ((20 : Int) + (nI p).toInt) := (j_addE rfl rfl (by with_reducible omega) (by with_reducible omega))
                  have iy_113 := j_nat (x := (20 + (nI p))) (by with_reducible omega)
                  refine r_iastM O T_125 (show vp_in (20 + (nI p)) 178 from g_vin (by with_reducible omega) (by with_reducible omega)) dX8_begins_113 ?_
                  refine r_aload_n O 0 dX8_begins_114 rfl rfl ?_
                  refine r_get O FX8_7 G_124_0 dX8_begins_115 ?_
                  refine r_bipush (x := 27) O dX8_begins_118 rfl ?_
                  refine r_iload_n O 1 dX8_begins_120 rfl rfl ?_
                  refine r_iadd O dX8_begins_121 ?_
                  refine r_iconst (x := (-1)) O dX8_begins_122 rfl ?_
                  have ix_123 : (27 + (nI p)).toInt = ((27 : Int) + (nI p).toInt) := (j_addE rfl rfl (by with_reducible omega) (by with_reducible omega))
                  have iy_123 := j_nat (x := (27 + (nI p))) (by with_reducible omega)
                  refine r_iastM O T_125 (show vp_in (27 + (nI p)) 178 from g_vin (by with_reducible omega) (by with_reducible omega)) dX8_begins_123 ?_
                  refine r_iinc (lc' := [(2, .int (nI (p + 1))), (0, .ref (g_ad X 124))]) O 1 dX8_begins_124 rfl (nI_1 p) (hN 2 rfl) rfl ?_
                  refine r_goto O 38 dX8_begins_127 (by decide) ?_
                  refine r_sub [1, 0] rfl ?_
                  exact ih_38 (p + 1) (upd (upd (upd s_38 ((13 + (nI p)).toNatClampNeg) t0_73) ((20 + (nI p)).toNatClampNeg) t0_113) ((27 + (nI p)).toNatClampNeg) (-1)) (by with_reducible omega)
                refine r_icmp_ne O 92 dX8_begins_84 (by decide) (fun c_84 => ?_) (fun c_84 => ?_)
                · have e_84 : (nI p).toInt = (1 : Int) := j_eqR c_84 rfl
                  refine r_bipush (x := 8) O dX8_begins_87 rfl ?_
                  refine r_goto O 113 dX8_begins_89 (by decide) ?_
                  exact J_113 8
                · have e_84 : (nI p).toInt ≠ (1 : Int) := j_neR c_84 rfl
                  refine r_iload_n O 1 dX8_begins_92 rfl rfl ?_
                  refine r_iconst (x := 2) O dX8_begins_93 rfl ?_
                  refine r_icmp_ne O 102 dX8_begins_94 (by decide) (fun c_94 => ?_) (fun c_94 => ?_)
                  · have e_94 : (nI p).toInt = (2 : Int) := j_eqR c_94 rfl
                    refine r_bipush (x := 6) O dX8_begins_97 rfl ?_
                    refine r_goto O 113 dX8_begins_99 (by decide) ?_
                    exact J_113 6
                  · have e_94 : (nI p).toInt ≠ (2 : Int) := j_neR c_94 rfl
                    refine r_iload_n O 1 dX8_begins_102 rfl rfl ?_
                    refine r_iconst (x := 3) O dX8_begins_103 rfl ?_
                    refine r_icmp_ne O 112 dX8_begins_104 (by decide) (fun c_104 => ?_) (fun c_104 => ?_)
                    · have e_104 : (nI p).toInt = (3 : Int) := j_eqR c_104 rfl
                      refine r_bipush (x := 10) O dX8_begins_107 rfl ?_
                      refine r_goto O 113 dX8_begins_109 (by decide) ?_
                      exact J_113 10
                    · have e_104 : (nI p).toInt ≠ (3 : Int) := j_neR c_104 rfl
                      refine r_iconst (x := 5) O dX8_begins_112 rfl ?_
                      exact J_113 5
              refine r_icmp_ne O 62 dX8_begins_54 (by decide) (fun c_54 => ?_) (fun c_54 => ?_)
              · have e_54 : (nI p).toInt = (1 : Int) := j_eqR c_54 rfl
                refine r_bipush (x := 20) O dX8_begins_57 rfl ?_
                refine r_goto O 73 dX8_begins_59 (by decide) ?_
                exact J_73 20
              · have e_54 : (nI p).toInt ≠ (1 : Int) := j_neR c_54 rfl
                refine r_iload_n O 1 dX8_begins_62 rfl rfl ?_
                refine r_iconst (x := 3) O dX8_begins_63 rfl ?_
                refine r_icmp_ne O 72 dX8_begins_64 (by decide) (fun c_64 => ?_) (fun c_64 => ?_)
                · have e_64 : (nI p).toInt = (3 : Int) := j_eqR c_64 rfl
                  refine r_bipush (x := 35) O dX8_begins_67 rfl ?_
                  refine r_goto O 73 dX8_begins_69 (by decide) ?_
                  exact J_73 35
                · have e_64 : (nI p).toInt ≠ (3 : Int) := j_neR c_64 rfl
                  refine r_iconst (x := 0) O dX8_begins_72 rfl ?_
                  exact J_73 0
        refine r_sub [1, 0] rfl ?_
        exact L_38 8 0 (upd (upd s_2 (0) x1) (4) x1) (by with_reducible omega)
      · have e_6 : (nI k).toInt < (178 : Int) := j_nleL c_6 rfl
        refine r_aload_n O 0 dX8_begins_9 rfl rfl ?_
        refine r_get O FX8_7 G_124_0 dX8_begins_10 ?_
        refine r_iload_n O 2 dX8_begins_13 rfl rfl ?_
        refine r_iconst (x := 0) O dX8_begins_14 rfl ?_
        have iy_15 := nI_clamp (n := k) (by with_reducible omega)
        refine r_iastM O T_125 (show vp_in (nI k) 178 from g_vin (by with_reducible omega) (by with_reducible omega)) dX8_begins_15 ?_
        refine r_iinc (lc' := [(2, .int (nI (k + 1))), (0, .ref (g_ad X 124)), (1, .int x1)]) O 2 dX8_begins_16 rfl (nI_1 k) (hN 2 rfl) rfl ?_
        refine r_goto O 2 dX8_begins_19 (by decide) ?_
        refine r_sub [1, 2, 0] rfl ?_
        exact ih_2 (k + 1) (upd s_2 ((nI k).toNatClampNeg) 0) (by with_reducible omega)
  refine r_sub [1, 2, 0] rfl ?_
  exact L_2 179 0 s (by with_reducible omega)
theorem met_X8_begins (l : Launch) (hs : l.stackTraces = false) (lm : Nat → Int64) (pm : Nat → Nat) (m : Nat → Int32) (s : Nat → Int32) (x1 : Int32)  : g_SM l yX8_begins cX8_begins 3 none ({ frames := 0, cells := 0, slots := 0, locals := 0 } : Room) (fun ad => [.ref (ad 124), .int x1]) m (s, lm, pm) ((fun r : Nat → Int32 => ((.inl none, (m, r, lm, pm)) : g_Res)) (R_X8_begins s x1)) :=
  g_sm_of (by decide) (fun _ => Nat.le_of_ble_eq_true rfl) hs (fun X hl hn O => walk_X8_begins O (by rw [hl]; exact hs) hn )
def R_X8_carries_245 (s : Nat → Int32) (x1 : Int32) (s_153 : Nat → Int32) (t0_245 : Int32) : (Int32 × (Nat → Int32)) := (0, (upd (upd (upd (upd (upd (upd (upd s_153 (142) (s_153 (3))) (143) ((upd s_153 (142) (s_153 (3))) (4))) (144) x1) (12) (((upd (upd (upd s_153 (142) (s_153 (3))) (143) ((upd s_153 (142) (s_153 (3))) (4))) (144) x1) (12)) + t0_245)) (8) (((upd (upd (upd (upd s_153 (142) (s_153 (3))) (143) ((upd s_153 (142) (s_153 (3))) (4))) (144) x1) (12) (((upd (upd (upd s_153 (142) (s_153 (3))) (143) ((upd s_153 (142) (s_153 (3))) (4))) (144) x1) (12)) + t0_245)) (8)) + 1)) (5) 1) 1303 (3 * (s (((20 + (s (4))) - 1).toNatClampNeg)))))
def R_X8_carries_153 (s : Nat → Int32) (x1 : Int32) : Nat → Nat → (Nat → Int32) → (Int32 × (Nat → Int32))
  | 0, _, _ => (0, s)
  | f + 1, d, s_153 => (if (nI d) < 145 then (if 12 ≤ ((upd (upd (upd s_153 (142) (s_153 (3))) (143) ((upd s_153 (142) (s_153 (3))) (4))) (144) x1) (12)) then (R_X8_carries_245 s x1 s_153 0) else (R_X8_carries_245 s x1 s_153 1)) else ((R_X8_carries_153 s x1 f) (d - 1) (upd s_153 ((nI d).toNatClampNeg) (s_153 (((nI d) - 3).toNatClampNeg)))))
def R_X8_carries_142 (K_105 : Nat → (Nat → Int32) → (Int32 × (Nat → Int32))) (i : Nat) (s_142 : Nat → Int32) : (Int32 × (Nat → Int32)) := (K_105 (i + 1) s_142)
def R_X8_carries_105 (s : Nat → Int32) (x1 : Int32) : Nat → Nat → (Nat → Int32) → (Int32 × (Nat → Int32))
  | 0, _, _ => (0, s)
  | f + 1, i, s_105 => (if (s_105 (2)) ≤ (nI i) then (R_X8_carries_153 s x1 34 177 s_105) else (if ((x1 >>> ((nI i) &&& 31)) &&& 1) = 1 then (R_X8_carries_142 (R_X8_carries_105 s x1 f) i (R_X8_walks s_105 (nI i) ((s_105 (4)) - 1) (3 * (s (((20 + (s (4))) - 1).toNatClampNeg))) 1)) else (R_X8_carries_142 (R_X8_carries_105 s x1 f) i s_105)))
def R_X8_carries_77 (s : Nat → Int32) (x1 : Int32) (v2_35 : Int32) : (Int32 × (Nat → Int32)) := (if v2_35 = 0 then (2, s) else (R_X8_carries_105 s x1 7 0 s))
def R_X8_carries_70 (K_35 : Int32 → Nat → (Int32 × (Nat → Int32))) (h : Nat) (t0_70 : Int32) : (Int32 × (Nat → Int32)) := (K_35 t0_70 (h + 1))
def R_X8_carries_65 (K_35 : Int32 → Nat → (Int32 × (Nat → Int32))) (h : Nat) : (Int32 × (Nat → Int32)) := (R_X8_carries_70 K_35 h 1)
def R_X8_carries_35 (s : Nat → Int32) (x1 : Int32) : Nat → Int32 → Nat → (Int32 × (Nat → Int32))
  | 0, _, _ => (0, s)
  | f + 1, v2_35, h => (if (s (2)) ≤ (nI h) then (R_X8_carries_77 s x1 v2_35 ) else (if v2_35 = 0 then (R_X8_carries_77 s x1 v2_35 ) else (if ((x1 >>> ((nI h) &&& 31)) &&& 1) = 0 then (R_X8_carries_65 (R_X8_carries_35 s x1 f) h ) else (if (R_X8_canCarry s (nI h)) = 0 then (R_X8_carries_70 (R_X8_carries_35 s x1 f) h 0) else (R_X8_carries_65 (R_X8_carries_35 s x1 f) h )))))
def R_X8_carries (s : Nat → Int32) (x1 : Int32) : (Int32 × (Nat → Int32)) := (if (R_X8_in s x1 0 ((1 <<< ((s (2)) &&& 31)) - 1)) = 0 then (1, s) else (if 3 ≤ (R_X8_ones s x1) then (R_X8_carries_35 s x1 7 (R_X8_isCarryable s) 0) else (1, s)))
set_option maxRecDepth 100000 in
set_option maxHeartbeats 4000000 in
theorem walk_X8_carries {X : g_X} (O : g_ok X cX8_carries RX8 (some .int) ({ frames := 4, cells := 0, slots := 0, locals := 90 } : Room)) (hs : (g_xl X).stackTraces = false) (hn : g_xn X = 5) {m : Nat → Int32} {lm : Nat → Int64} {pm : Nat → Nat} {s : Nat → Int32} {x1 : Int32} (p0 : g_J s) : g_V X (fun r : Int32 × (Nat → Int32) => ((.inl (some (.int r.1)), (m, r.2, lm, pm)) : g_Res)) (R_X8_carries s x1) 0 0 m (s, lm, pm) 0 [(0, .ref (g_ad X 124)), (1, .int x1)] [] := by
  have hN : ∀ i, Nat.blt i 5 = true → i < g_xn X := fun i h => by rw [hn]; exact g_blt.mp h
  obtain ⟨n0, n1, n2, n4, n6, n12, n3⟩ := p0.n
  refine r_iload_n O 1 dX8_carries_0 rfl rfl ?_
  refine r_iconst (x := 0) O dX8_carries_1 rfl ?_
  refine r_iconst (x := 1) O dX8_carries_2 rfl ?_
  refine r_aload_n O 0 dX8_carries_3 rfl rfl ?_
  refine r_get O FX8_7 G_124_0 dX8_carries_4 ?_
  refine r_iconst (x := 2) O dX8_carries_7 rfl ?_
  refine r_iald O R_125 (g_vin (by decide) (by decide)) dX8_carries_8 ?_
  refine r_ishl O dX8_carries_9 ?_
  refine r_iconst (x := 1) O dX8_carries_10 rfl ?_
  refine r_isub O dX8_carries_11 ?_
  refine r_callSi O [.int x1, .int 0, .int ((1 <<< ((s (2)) &&& 31)) - 1)] [] (met_X8_in (g_xl X) hs lm pm m s x1 0 ((1 <<< ((s (2)) &&& 31)) - 1) ) LX8_54 rfl rfl rfl dX8_carries_12 rfl rfl ?_
  refine r_if_eq O 26 dX8_carries_15 (by decide) (fun c_15 => ?_) (fun c_15 => ?_)
  · have e_15 : (R_X8_in s x1 0 ((1 <<< ((s (2)) &&& 31)) - 1)).toInt = (0 : Int) := j_eqR c_15 rfl
    refine r_iconst (x := 1) O dX8_carries_26 rfl ?_
    exact r_iret O dX8_carries_27 rfl (Nat.le_of_ble_eq_true rfl) (Nat.le_of_ble_eq_true rfl) rfl
  · have e_15 : (R_X8_in s x1 0 ((1 <<< ((s (2)) &&& 31)) - 1)).toInt ≠ (0 : Int) := j_neR c_15 rfl
    have z_15a : (0 : Int) ≤ (x1).toInt := (nz_X8_in c_15).1
    have z_15b : (x1).toInt ≤ ((1 <<< ((s (2)) &&& 31)) - 1).toInt := (nz_X8_in c_15).2
    refine r_iload_n O 1 dX8_carries_18 rfl rfl ?_
    refine r_callSi O [.int x1] [] (met_X8_ones (g_xl X) hs lm pm m s x1 ) LX8_118 rfl rfl rfl dX8_carries_19 rfl rfl ?_
    refine r_iconst (x := 3) O dX8_carries_22 rfl ?_
    refine r_icmp_ge O 28 dX8_carries_23 (by decide) (fun c_23 => ?_) (fun c_23 => ?_)
    · have e_23 : (3 : Int) ≤ (R_X8_ones s x1).toInt := j_leL c_23 rfl
      refine r_aload_n O 0 dX8_carries_28 rfl rfl ?_
      refine r_callVi O [] [] (met_X8_isCarryable (g_xl X) hs lm pm m s (by first | decide | with_reducible assumption | with_reducible omega | (simp (disch := omega) only [g_upd_ne, g_upd_eq, fr_X8_walks, fr_X8_sets]; first | with_reducible assumption | with_reducible omega | decide) | exact Or.inl rfl | exact Or.inr rfl) (by first | decide | with_reducible assumption | with_reducible omega | (simp (disch := omega) only [g_upd_ne, g_upd_eq, fr_X8_walks, fr_X8_sets]; first | with_reducible assumption | with_reducible omega | decide) | exact Or.inl rfl | exact Or.inr rfl)) LX8_121 obj_124 rfl rfl rfl dX8_carries_29 rfl rfl ?_
      refine r_istore_n (lc' := [(2, .int (R_X8_isCarryable s)), (0, .ref (g_ad X 124)), (1, .int x1)]) O dX8_carries_32 rfl (hN 2 rfl) rfl ?_
      refine r_iconst (x := 0) O dX8_carries_33 rfl ?_
      refine r_istore_n (lc' := [(3, .int 0), (2, .int (R_X8_isCarryable s)), (0, .ref (g_ad X 124)), (1, .int x1)]) O dX8_carries_34 rfl (hN 3 rfl) rfl ?_
      have L_35 : ∀ (f_35 : Nat) (v2_35 : Int32) (h : Nat) (hi_35 : h ≤ 6 ∧ 6 < f_35 + h), g_V X (fun r : Int32 × (Nat → Int32) => ((.inl (some (.int r.1)), (m, r.2, lm, pm)) : g_Res)) (R_X8_carries_35 s x1 f_35 v2_35 h) 0 0 m (s, lm, pm) 35 [(0, .ref (g_ad X 124)), (1, .int x1), (2, .int v2_35), (3, .int (nI h))] [] := by
        intro f_35
        induction f_35 with
        | zero => intro v2_35 h hi_35; exact absurd hi_35 (by omega)
        | succ f_35 ih_35 =>
          intro v2_35 h hi_35
          have hc_h : (nI h).toInt = (h : Int) := nI_toInt (by omega)
          refine r_iload_n O 3 dX8_carries_35 rfl rfl ?_
          refine r_aload_n O 0 dX8_carries_36 rfl rfl ?_
          refine r_get O FX8_7 G_124_0 dX8_carries_37 ?_
          refine r_iconst (x := 2) O dX8_carries_40 rfl ?_
          refine r_iald O R_125 (g_vin (by decide) (by decide)) dX8_carries_41 ?_
          have J_77 : g_V X (fun r : Int32 × (Nat → Int32) => ((.inl (some (.int r.1)), (m, r.2, lm, pm)) : g_Res)) (R_X8_carries_77 s x1 v2_35 ) 0 0 m (s, lm, pm) 77 [(0, .ref (g_ad X 124)), (1, .int x1), (2, .int v2_35)] [] := by
            refine r_iload_n O 2 dX8_carries_77 rfl rfl ?_
            refine r_if_ne O 83 dX8_carries_78 (by decide) (fun c_78 => ?_) (fun c_78 => ?_)
            · have e_78 : (v2_35).toInt = (0 : Int) := j_eqR c_78 rfl
              refine r_iconst (x := 2) O dX8_carries_81 rfl ?_
              exact r_iret O dX8_carries_82 rfl (Nat.le_of_ble_eq_true rfl) (Nat.le_of_ble_eq_true rfl) rfl
            · have e_78 : (v2_35).toInt ≠ (0 : Int) := j_neR c_78 rfl
              refine r_iconst (x := 3) O dX8_carries_83 rfl ?_
              refine r_aload_n O 0 dX8_carries_84 rfl rfl ?_
              refine r_get O FX8_7 G_124_0 dX8_carries_85 ?_
              refine r_bipush (x := 20) O dX8_carries_88 rfl ?_
              refine r_aload_n O 0 dX8_carries_90 rfl rfl ?_
              refine r_get O FX8_7 G_124_0 dX8_carries_91 ?_
              refine r_iconst (x := 4) O dX8_carries_94 rfl ?_
              refine r_iald O R_125 (g_vin (by decide) (by decide)) dX8_carries_95 ?_
              refine r_iadd O dX8_carries_96 ?_
              refine r_iconst (x := 1) O dX8_carries_97 rfl ?_
              refine r_isub O dX8_carries_98 ?_
              have ix_99 : ((20 + (s (4))) - 1).toInt = (((20 : Int) + (s (4)).toInt) - (1 : Int)) := (j_subE (j_addE rfl rfl (by with_reducible omega) (by with_reducible omega)) rfl (by with_reducible omega) (by with_reducible omega))
              have iy_99 := j_nat (x := ((20 + (s (4))) - 1)) (by with_reducible omega)
              refine r_iald O R_125 (show vp_in ((20 + (s (4))) - 1) 178 from g_vin (by with_reducible omega) (by with_reducible omega)) dX8_carries_99 ?_
              refine r_imul O dX8_carries_100 ?_
              refine r_istore_n (lc' := [(3, .int (3 * (s (((20 + (s (4))) - 1).toNatClampNeg)))), (0, .ref (g_ad X 124)), (1, .int x1), (2, .int v2_35)]) O dX8_carries_101 rfl (hN 3 rfl) rfl ?_
              refine r_iconst (x := 0) O dX8_carries_102 rfl ?_
              refine r_istore (lc' := [(4, .int 0), (3, .int (3 * (s (((20 + (s (4))) - 1).toNatClampNeg)))), (0, .ref (g_ad X 124)), (1, .int x1), (2, .int v2_35)]) O dX8_carries_103 (hN 4 rfl) rfl ?_
              have L_105 : ∀ (f_105 : Nat) (i : Nat) (s_105 : Nat → Int32) (hi_105 : i ≤ 6 ∧ 6 < f_105 + i ∧ (s_105 2).toInt ≤ 6 ∧ 0 ≤ (s_105 4).toInt ∧ (s_105 4).toInt ≤ 7), g_V X (fun r : Int32 × (Nat → Int32) => ((.inl (some (.int r.1)), (m, r.2, lm, pm)) : g_Res)) (R_X8_carries_105 s x1 f_105 i s_105) 0 0 m (s_105, lm, pm) 105 [(0, .ref (g_ad X 124)), (1, .int x1), (3, .int (3 * (s (((20 + (s (4))) - 1).toNatClampNeg)))), (4, .int (nI i))] [] := by
                intro f_105
                induction f_105 with
                | zero => intro i s_105 hi_105; exact absurd hi_105 (by omega)
                | succ f_105 ih_105 =>
                  intro i s_105 hi_105
                  have hc_i : (nI i).toInt = (i : Int) := nI_toInt (by omega)
                  obtain ⟨hi1, hi2, hi3, hi4, hi5⟩ := hi_105
                  refine r_iload O 3 dX8_carries_105 rfl ?_
                  refine r_aload_n O 0 dX8_carries_107 rfl rfl ?_
                  refine r_get O FX8_7 G_124_0 dX8_carries_108 ?_
                  refine r_iconst (x := 2) O dX8_carries_111 rfl ?_
                  refine r_iald O R_125 (g_vin (by decide) (by decide)) dX8_carries_112 ?_
                  refine r_icmp_ge O 148 dX8_carries_113 (by decide) (fun c_113 => ?_) (fun c_113 => ?_)
                  · have e_113 : (s_105 (2)).toInt ≤ (nI i).toInt := j_le c_113
                    refine r_sipush (x := 177) O dX8_carries_148 rfl ?_
                    refine r_istore (lc' := [(4, .int 177), (0, .ref (g_ad X 124)), (1, .int x1), (3, .int (3 * (s (((20 + (s (4))) - 1).toNatClampNeg))))]) O dX8_carries_151 (hN 4 rfl) rfl ?_
                    have L_153 : ∀ (f_153 : Nat) (d : Nat) (s_153 : Nat → Int32) (hi_153 : d ≤ 177 ∧ 144 ≤ d ∧ d < f_153 + 144), g_V X (fun r : Int32 × (Nat → Int32) => ((.inl (some (.int r.1)), (m, r.2, lm, pm)) : g_Res)) (R_X8_carries_153 s x1 f_153 d s_153) 0 0 m (s_153, lm, pm) 153 [(0, .ref (g_ad X 124)), (1, .int x1), (3, .int (3 * (s (((20 + (s (4))) - 1).toNatClampNeg)))), (4, .int (nI d))] [] := by
                      intro f_153
                      induction f_153 with
                      | zero => intro d s_153 hi_153; exact absurd hi_153 (by omega)
                      | succ f_153 ih_153 =>
                        intro d s_153 hi_153
                        have hc_d : (nI d).toInt = (d : Int) := nI_toInt (by omega)
                        refine r_iload O 3 dX8_carries_153 rfl ?_
                        refine r_sipush (x := 145) O dX8_carries_155 rfl ?_
                        refine r_icmp_lt O 183 dX8_carries_158 (by decide) (fun c_158 => ?_) (fun c_158 => ?_)
                        · have e_158 : (nI d).toInt < (145 : Int) := j_ltR c_158 rfl
                          refine r_aload_n O 0 dX8_carries_183 rfl rfl ?_
                          refine r_get O FX8_7 G_124_0 dX8_carries_184 ?_
                          refine r_sipush (x := 142) O dX8_carries_187 rfl ?_
                          refine r_aload_n O 0 dX8_carries_190 rfl rfl ?_
                          refine r_get O FX8_7 G_124_0 dX8_carries_191 ?_
                          refine r_iconst (x := 3) O dX8_carries_194 rfl ?_
                          refine r_iald O R_125 (g_vin (by decide) (by decide)) dX8_carries_195 ?_
                          refine r_iastM O T_125 (g_vin (by decide) (by decide)) dX8_carries_196 ?_
                          refine r_aload_n O 0 dX8_carries_197 rfl rfl ?_
                          refine r_get O FX8_7 G_124_0 dX8_carries_198 ?_
                          refine r_sipush (x := 143) O dX8_carries_201 rfl ?_
                          refine r_aload_n O 0 dX8_carries_204 rfl rfl ?_
                          refine r_get O FX8_7 G_124_0 dX8_carries_205 ?_
                          refine r_iconst (x := 4) O dX8_carries_208 rfl ?_
                          refine r_iald O R_125 (g_vin (by decide) (by decide)) dX8_carries_209 ?_
                          refine r_iastM O T_125 (g_vin (by decide) (by decide)) dX8_carries_210 ?_
                          refine r_aload_n O 0 dX8_carries_211 rfl rfl ?_
                          refine r_get O FX8_7 G_124_0 dX8_carries_212 ?_
                          refine r_sipush (x := 144) O dX8_carries_215 rfl ?_
                          refine r_iload_n O 1 dX8_carries_218 rfl rfl ?_
                          refine r_iastM O T_125 (g_vin (by decide) (by decide)) dX8_carries_219 ?_
                          refine r_aload_n O 0 dX8_carries_220 rfl rfl ?_
                          refine r_get O FX8_7 G_124_0 dX8_carries_221 ?_
                          refine r_bipush (x := 12) O dX8_carries_224 rfl ?_
                          refine r_dup2 O dX8_carries_226 rfl rfl ?_
                          refine r_iald O R_125 (g_vin (by decide) (by decide)) dX8_carries_227 ?_
                          refine r_aload_n O 0 dX8_carries_228 rfl rfl ?_
                          refine r_get O FX8_7 G_124_0 dX8_carries_229 ?_
                          refine r_bipush (x := 12) O dX8_carries_232 rfl ?_
                          refine r_iald O R_125 (g_vin (by decide) (by decide)) dX8_carries_234 ?_
                          refine r_bipush (x := 12) O dX8_carries_235 rfl ?_
                          have J_245 : ∀ (t0_245 : Int32), g_V X (fun r : Int32 × (Nat → Int32) => ((.inl (some (.int r.1)), (m, r.2, lm, pm)) : g_Res)) (R_X8_carries_245 s x1 s_153 t0_245) 0 0 m ((upd (upd (upd s_153 (142) (s_153 (3))) (143) ((upd s_153 (142) (s_153 (3))) (4))) (144) x1), lm, pm) 245 [(0, .ref (g_ad X 124)), (3, .int (3 * (s (((20 + (s (4))) - 1).toNatClampNeg))))] [.int t0_245, .int ((upd (upd (upd s_153 (142) (s_153 (3))) (143) ((upd s_153 (142) (s_153 (3))) (4))) (144) x1) (12)), .int 12, .ref (g_ad X 125)] := by
                            intro t0_245
                            refine r_iadd O dX8_carries_245 ?_
                            refine r_iastM O T_125 (g_vin (by decide) (by decide)) dX8_carries_246 ?_
                            refine r_aload_n O 0 dX8_carries_247 rfl rfl ?_
                            refine r_get O FX8_7 G_124_0 dX8_carries_248 ?_
                            refine r_bipush (x := 8) O dX8_carries_251 rfl ?_
                            refine r_dup2 O dX8_carries_253 rfl rfl ?_
                            refine r_iald O R_125 (g_vin (by decide) (by decide)) dX8_carries_254 ?_
                            refine r_iconst (x := 1) O dX8_carries_255 rfl ?_
                            refine r_iadd O dX8_carries_256 ?_
                            refine r_iastM O T_125 (g_vin (by decide) (by decide)) dX8_carries_257 ?_
                            refine r_aload_n O 0 dX8_carries_258 rfl rfl ?_
                            refine r_get O FX8_7 G_124_0 dX8_carries_259 ?_
                            refine r_iconst (x := 5) O dX8_carries_262 rfl ?_
                            refine r_iconst (x := 1) O dX8_carries_263 rfl ?_
                            refine r_iastM O T_125 (g_vin (by decide) (by decide)) dX8_carries_264 ?_
                            refine r_aload_n O 0 dX8_carries_265 rfl rfl ?_
                            refine r_iload_n O 1 dX8_carries_266 rfl rfl ?_
                            refine r_put O (FPX8_105 (3 * (s (((20 + (s (4))) - 1).toNatClampNeg)))) (S_124_7 (3 * (s (((20 + (s (4))) - 1).toNatClampNeg)))) dX8_carries_267 ?_
                            refine r_iconst (x := 0) O dX8_carries_270 rfl ?_
                            exact r_iret O dX8_carries_271 rfl (Nat.le_of_ble_eq_true rfl) (Nat.le_of_ble_eq_true rfl) rfl
                          refine r_icmp_ge O 244 dX8_carries_237 (by decide) (fun c_237 => ?_) (fun c_237 => ?_)
                          · have e_237 : (12 : Int) ≤ ((upd (upd (upd s_153 (142) (s_153 (3))) (143) ((upd s_153 (142) (s_153 (3))) (4))) (144) x1) (12)).toInt := j_leL c_237 rfl
                            refine r_iconst (x := 0) O dX8_carries_244 rfl ?_
                            refine r_sub [0, 2] rfl ?_
                            exact J_245 0
                          · have e_237 : ((upd (upd (upd s_153 (142) (s_153 (3))) (143) ((upd s_153 (142) (s_153 (3))) (4))) (144) x1) (12)).toInt < (12 : Int) := j_nleL c_237 rfl
                            refine r_iconst (x := 1) O dX8_carries_240 rfl ?_
                            refine r_goto O 245 dX8_carries_241 (by decide) ?_
                            refine r_sub [0, 2] rfl ?_
                            exact J_245 1
                        · have e_158 : (145 : Int) ≤ (nI d).toInt := j_nltR c_158 rfl
                          refine r_aload_n O 0 dX8_carries_161 rfl rfl ?_
                          refine r_get O FX8_7 G_124_0 dX8_carries_162 ?_
                          refine r_iload O 3 dX8_carries_165 rfl ?_
                          refine r_aload_n O 0 dX8_carries_167 rfl rfl ?_
                          refine r_get O FX8_7 G_124_0 dX8_carries_168 ?_
                          refine r_iload O 3 dX8_carries_171 rfl ?_
                          refine r_iconst (x := 3) O dX8_carries_173 rfl ?_
                          refine r_isub O dX8_carries_174 ?_
                          have ix_175 : ((nI d) - 3).toInt = ((nI d).toInt - (3 : Int)) := (j_subE rfl rfl (by with_reducible omega) (by with_reducible omega))
                          have iy_175 := j_nat (x := ((nI d) - 3)) (by with_reducible omega)
                          refine r_iald O R_125 (show vp_in ((nI d) - 3) 178 from g_vin (by with_reducible omega) (by with_reducible omega)) dX8_carries_175 ?_
                          have iy_176 := nI_clamp (n := d) (by with_reducible omega)
                          refine r_iastM O T_125 (show vp_in (nI d) 178 from g_vin (by with_reducible omega) (by with_reducible omega)) dX8_carries_176 ?_
                          refine r_iinc (lc' := [(4, .int (nI (d - 1))), (0, .ref (g_ad X 124)), (1, .int x1), (3, .int (3 * (s (((20 + (s (4))) - 1).toNatClampNeg))))]) O 3 dX8_carries_177 rfl (j_dec (by omega)) (hN 4 rfl) rfl ?_
                          refine r_goto O 153 dX8_carries_180 (by decide) ?_
                          refine r_sub [1, 2, 3, 0] rfl ?_
                          exact ih_153 (d - 1) (upd s_153 ((nI d).toNatClampNeg) (s_153 (((nI d) - 3).toNatClampNeg))) (by with_reducible omega)
                    refine r_sub [1, 2, 3, 0] rfl ?_
                    exact L_153 34 177 s_105 (by with_reducible omega)
                  · have e_113 : (nI i).toInt < (s_105 (2)).toInt := j_nle c_113
                    refine r_iload_n O 1 dX8_carries_116 rfl rfl ?_
                    refine r_iload O 3 dX8_carries_117 rfl ?_
                    refine r_ishr O dX8_carries_119 ?_
                    refine r_iconst (x := 1) O dX8_carries_120 rfl ?_
                    refine r_iand O dX8_carries_121 ?_
                    refine r_iconst (x := 1) O dX8_carries_122 rfl ?_
                    have J_142 : ∀ (s_142 : Nat → Int32) (hj0 : (s_142 2).toInt ≤ 6) (hj1 : 0 ≤ (s_142 4).toInt) (hj2 : (s_142 4).toInt ≤ 7), g_V X (fun r : Int32 × (Nat → Int32) => ((.inl (some (.int r.1)), (m, r.2, lm, pm)) : g_Res)) (R_X8_carries_142 ((R_X8_carries_105 s x1 f_105)) i s_142) 0 0 m (s_142, lm, pm) 142 [(0, .ref (g_ad X 124)), (1, .int x1), (3, .int (3 * (s (((20 + (s (4))) - 1).toNatClampNeg)))), (4, .int (nI i))] [] := by
                      intro s_142 hj0 hj1 hj2
                      refine r_iinc (lc' := [(4, .int (nI (i + 1))), (0, .ref (g_ad X 124)), (1, .int x1), (3, .int (3 * (s (((20 + (s (4))) - 1).toNatClampNeg))))]) O 3 dX8_carries_142 rfl (nI_1 i) (hN 4 rfl) rfl ?_
                      refine r_goto O 105 dX8_carries_145 (by decide) ?_
                      refine r_sub [1, 2, 3, 0] rfl ?_
                      exact ih_105 (i + 1) s_142 ⟨(by first | decide | with_reducible assumption | with_reducible omega | (simp (disch := omega) only [g_upd_ne, g_upd_eq, fr_X8_walks, fr_X8_sets]; first | with_reducible assumption | with_reducible omega | decide) | exact Or.inl rfl | exact Or.inr rfl), (by first | decide | with_reducible assumption | with_reducible omega | (simp (disch := omega) only [g_upd_ne, g_upd_eq, fr_X8_walks, fr_X8_sets]; first | with_reducible assumption | with_reducible omega | decide) | exact Or.inl rfl | exact Or.inr rfl), (by first | decide | with_reducible assumption | with_reducible omega | (simp (disch := omega) only [g_upd_ne, g_upd_eq, fr_X8_walks, fr_X8_sets]; first | with_reducible assumption | with_reducible omega | decide) | exact Or.inl rfl | exact Or.inr rfl), (by first | decide | with_reducible assumption | with_reducible omega | (simp (disch := omega) only [g_upd_ne, g_upd_eq, fr_X8_walks, fr_X8_sets]; first | with_reducible assumption | with_reducible omega | decide) | exact Or.inl rfl | exact Or.inr rfl), (by first | decide | with_reducible assumption | with_reducible omega | (simp (disch := omega) only [g_upd_ne, g_upd_eq, fr_X8_walks, fr_X8_sets]; first | with_reducible assumption | with_reducible omega | decide) | exact Or.inl rfl | exact Or.inr rfl)⟩
                    refine r_icmp_ne O 142 dX8_carries_123 (by decide) (fun c_123 => ?_) (fun c_123 => ?_)
                    · have e_123 : ((x1 >>> ((nI i) &&& 31)) &&& 1).toInt = (1 : Int) := j_eqR c_123 rfl
                      refine r_aload_n O 0 dX8_carries_126 rfl rfl ?_
                      refine r_iload O 3 dX8_carries_127 rfl ?_
                      refine r_aload_n O 0 dX8_carries_129 rfl rfl ?_
                      refine r_get O FX8_7 G_124_0 dX8_carries_130 ?_
                      refine r_iconst (x := 4) O dX8_carries_133 rfl ?_
                      refine r_iald O R_125 (g_vin (by decide) (by decide)) dX8_carries_134 ?_
                      refine r_iconst (x := 1) O dX8_carries_135 rfl ?_
                      refine r_isub O dX8_carries_136 ?_
                      refine r_iload_n O 2 dX8_carries_137 rfl rfl ?_
                      refine r_iconst (x := 1) O dX8_carries_138 rfl ?_
                      refine r_callVv O [.int (nI i), .int ((s_105 (4)) - 1), .int (3 * (s (((20 + (s (4))) - 1).toNatClampNeg))), .int 1] [] (met_X8_walks (g_xl X) hs lm pm m s_105 (nI i) ((s_105 (4)) - 1) (3 * (s (((20 + (s (4))) - 1).toNatClampNeg))) 1 (by first | decide | with_reducible assumption | with_reducible omega | (simp (disch := omega) only [g_upd_ne, g_upd_eq, fr_X8_walks, fr_X8_sets]; first | with_reducible assumption | with_reducible omega | decide) | exact Or.inl rfl | exact Or.inr rfl) (by first | decide | with_reducible assumption | with_reducible omega | (simp (disch := omega) only [g_upd_ne, g_upd_eq, fr_X8_walks, fr_X8_sets]; first | with_reducible assumption | with_reducible omega | decide) | exact Or.inl rfl | exact Or.inr rfl)) LX8_91 obj_124 rfl rfl rfl dX8_carries_139 rfl rfl ?_
                      exact J_142 (R_X8_walks s_105 (nI i) ((s_105 (4)) - 1) (3 * (s (((20 + (s (4))) - 1).toNatClampNeg))) 1) (by first | decide | with_reducible assumption | with_reducible omega | (simp (disch := omega) only [g_upd_ne, g_upd_eq, fr_X8_walks, fr_X8_sets]; first | with_reducible assumption | with_reducible omega | decide) | exact Or.inl rfl | exact Or.inr rfl) (by first | decide | with_reducible assumption | with_reducible omega | (simp (disch := omega) only [g_upd_ne, g_upd_eq, fr_X8_walks, fr_X8_sets]; first | with_reducible assumption | with_reducible omega | decide) | exact Or.inl rfl | exact Or.inr rfl) (by first | decide | with_reducible assumption | with_reducible omega | (simp (disch := omega) only [g_upd_ne, g_upd_eq, fr_X8_walks, fr_X8_sets]; first | with_reducible assumption | with_reducible omega | decide) | exact Or.inl rfl | exact Or.inr rfl)
                    · have e_123 : ((x1 >>> ((nI i) &&& 31)) &&& 1).toInt ≠ (1 : Int) := j_neR c_123 rfl
                      exact J_142 s_105 (by first | decide | with_reducible assumption | with_reducible omega | (simp (disch := omega) only [g_upd_ne, g_upd_eq, fr_X8_walks, fr_X8_sets]; first | with_reducible assumption | with_reducible omega | decide) | exact Or.inl rfl | exact Or.inr rfl) (by first | decide | with_reducible assumption | with_reducible omega | (simp (disch := omega) only [g_upd_ne, g_upd_eq, fr_X8_walks, fr_X8_sets]; first | with_reducible assumption | with_reducible omega | decide) | exact Or.inl rfl | exact Or.inr rfl) (by first | decide | with_reducible assumption | with_reducible omega | (simp (disch := omega) only [g_upd_ne, g_upd_eq, fr_X8_walks, fr_X8_sets]; first | with_reducible assumption | with_reducible omega | decide) | exact Or.inl rfl | exact Or.inr rfl)
              refine r_sub [2, 3, 1, 0] rfl ?_
              exact L_105 7 0 s ⟨(by first | decide | with_reducible assumption | with_reducible omega | (simp (disch := omega) only [g_upd_ne, g_upd_eq, fr_X8_walks, fr_X8_sets]; first | with_reducible assumption | with_reducible omega | decide) | exact Or.inl rfl | exact Or.inr rfl), (by first | decide | with_reducible assumption | with_reducible omega | (simp (disch := omega) only [g_upd_ne, g_upd_eq, fr_X8_walks, fr_X8_sets]; first | with_reducible assumption | with_reducible omega | decide) | exact Or.inl rfl | exact Or.inr rfl), (by first | decide | with_reducible assumption | with_reducible omega | (simp (disch := omega) only [g_upd_ne, g_upd_eq, fr_X8_walks, fr_X8_sets]; first | with_reducible assumption | with_reducible omega | decide) | exact Or.inl rfl | exact Or.inr rfl), (by first | decide | with_reducible assumption | with_reducible omega | (simp (disch := omega) only [g_upd_ne, g_upd_eq, fr_X8_walks, fr_X8_sets]; first | with_reducible assumption | with_reducible omega | decide) | exact Or.inl rfl | exact Or.inr rfl), (by first | decide | with_reducible assumption | with_reducible omega | (simp (disch := omega) only [g_upd_ne, g_upd_eq, fr_X8_walks, fr_X8_sets]; first | with_reducible assumption | with_reducible omega | decide) | exact Or.inl rfl | exact Or.inr rfl)⟩
          refine r_icmp_ge O 77 dX8_carries_42 (by decide) (fun c_42 => ?_) (fun c_42 => ?_)
          · have e_42 : (s (2)).toInt ≤ (nI h).toInt := j_le c_42
            refine r_sub [0, 1, 2] rfl ?_
            exact J_77
          · have e_42 : (nI h).toInt < (s (2)).toInt := j_nle c_42
            refine r_iload_n O 2 dX8_carries_45 rfl rfl ?_
            refine r_if_eq O 77 dX8_carries_46 (by decide) (fun c_46 => ?_) (fun c_46 => ?_)
            · have e_46 : (v2_35).toInt = (0 : Int) := j_eqR c_46 rfl
              refine r_sub [0, 1, 2] rfl ?_
              exact J_77
            · have e_46 : (v2_35).toInt ≠ (0 : Int) := j_neR c_46 rfl
              refine r_iload_n O 1 dX8_carries_49 rfl rfl ?_
              refine r_iload_n O 3 dX8_carries_50 rfl rfl ?_
              refine r_ishr O dX8_carries_51 ?_
              refine r_iconst (x := 1) O dX8_carries_52 rfl ?_
              refine r_iand O dX8_carries_53 ?_
              have J_70 : ∀ (t0_70 : Int32), g_V X (fun r : Int32 × (Nat → Int32) => ((.inl (some (.int r.1)), (m, r.2, lm, pm)) : g_Res)) (R_X8_carries_70 ((R_X8_carries_35 s x1 f_35)) h t0_70) 0 0 m (s, lm, pm) 70 [(0, .ref (g_ad X 124)), (1, .int x1), (3, .int (nI h))] [.int t0_70] := by
                intro t0_70
                refine r_istore_n (lc' := [(2, .int t0_70), (0, .ref (g_ad X 124)), (1, .int x1), (3, .int (nI h))]) O dX8_carries_70 rfl (hN 2 rfl) rfl ?_
                refine r_iinc (lc' := [(3, .int (nI (h + 1))), (2, .int t0_70), (0, .ref (g_ad X 124)), (1, .int x1)]) O 3 dX8_carries_71 rfl (nI_1 h) (hN 3 rfl) rfl ?_
                refine r_goto O 35 dX8_carries_74 (by decide) ?_
                refine r_sub [2, 3, 1, 0] rfl ?_
                exact ih_35 t0_70 (h + 1) (by with_reducible omega)
              have J_65 : g_V X (fun r : Int32 × (Nat → Int32) => ((.inl (some (.int r.1)), (m, r.2, lm, pm)) : g_Res)) (R_X8_carries_65 ((R_X8_carries_35 s x1 f_35)) h ) 0 0 m (s, lm, pm) 65 [(0, .ref (g_ad X 124)), (1, .int x1), (3, .int (nI h))] [] := by
                refine r_iconst (x := 1) O dX8_carries_65 rfl ?_
                refine r_goto O 70 dX8_carries_66 (by decide) ?_
                exact J_70 1
              refine r_if_eq O 65 dX8_carries_54 (by decide) (fun c_54 => ?_) (fun c_54 => ?_)
              · have e_54 : ((x1 >>> ((nI h) &&& 31)) &&& 1).toInt = (0 : Int) := j_eqR c_54 rfl
                refine r_sub [0, 1, 3] rfl ?_
                exact J_65
              · have e_54 : ((x1 >>> ((nI h) &&& 31)) &&& 1).toInt ≠ (0 : Int) := j_neR c_54 rfl
                refine r_aload_n O 0 dX8_carries_57 rfl rfl ?_
                refine r_iload_n O 3 dX8_carries_58 rfl rfl ?_
                refine r_callVi O [.int (nI h)] [] (met_X8_canCarry (g_xl X) hs lm pm m s (nI h) (by first | decide | with_reducible assumption | with_reducible omega | (simp (disch := omega) only [g_upd_ne, g_upd_eq, fr_X8_walks, fr_X8_sets]; first | with_reducible assumption | with_reducible omega | decide) | exact Or.inl rfl | exact Or.inr rfl) (by first | decide | with_reducible assumption | with_reducible omega | (simp (disch := omega) only [g_upd_ne, g_upd_eq, fr_X8_walks, fr_X8_sets]; first | with_reducible assumption | with_reducible omega | decide) | exact Or.inl rfl | exact Or.inr rfl) (by first | decide | with_reducible assumption | with_reducible omega | (simp (disch := omega) only [g_upd_ne, g_upd_eq, fr_X8_walks, fr_X8_sets]; first | with_reducible assumption | with_reducible omega | decide) | exact Or.inl rfl | exact Or.inr rfl) (by first | decide | with_reducible assumption | with_reducible omega | (simp (disch := omega) only [g_upd_ne, g_upd_eq, fr_X8_walks, fr_X8_sets]; first | with_reducible assumption | with_reducible omega | decide) | exact Or.inl rfl | exact Or.inr rfl)) LX8_125 obj_124 rfl rfl rfl dX8_carries_59 rfl rfl ?_
                refine r_if_eq O 69 dX8_carries_62 (by decide) (fun c_62 => ?_) (fun c_62 => ?_)
                · have e_62 : (R_X8_canCarry s (nI h)).toInt = (0 : Int) := j_eqR c_62 rfl
                  refine r_iconst (x := 0) O dX8_carries_69 rfl ?_
                  refine r_sub [0, 1, 3] rfl ?_
                  exact J_70 0
                · have e_62 : (R_X8_canCarry s (nI h)).toInt ≠ (0 : Int) := j_neR c_62 rfl
                  refine r_sub [0, 1, 3] rfl ?_
                  exact J_65
      refine r_sub [2, 3, 1, 0] rfl ?_
      exact L_35 7 (R_X8_isCarryable s) 0 (by with_reducible omega)
    · have e_23 : (R_X8_ones s x1).toInt < (3 : Int) := j_nleL c_23 rfl
      refine r_iconst (x := 1) O dX8_carries_26 rfl ?_
      exact r_iret O dX8_carries_27 rfl (Nat.le_of_ble_eq_true rfl) (Nat.le_of_ble_eq_true rfl) rfl
theorem met_X8_carries (l : Launch) (hs : l.stackTraces = false) (lm : Nat → Int64) (pm : Nat → Nat) (m : Nat → Int32) (s : Nat → Int32) (x1 : Int32) (p0 : g_J s) : g_SM l yX8_carries cX8_carries 5 (some .int) ({ frames := 4, cells := 0, slots := 0, locals := 90 } : Room) (fun ad => [.ref (ad 124), .int x1]) m (s, lm, pm) ((fun r : Int32 × (Nat → Int32) => ((.inl (some (.int r.1)), (m, r.2, lm, pm)) : g_Res)) (R_X8_carries s x1)) :=
  g_sm_of (by decide) (fun _ => Nat.le_of_ble_eq_true rfl) hs (fun X hl hn O => walk_X8_carries O (by rw [hl]; exact hs) hn p0)
