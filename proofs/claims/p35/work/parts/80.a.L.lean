/-! ===== the law: looks ===== -/
theorem sq1 {x a : Int32} (x0 : 0 ≤ x.toInt) (x7 : x.toInt ≤ 7) (a0 : 0 ≤ a.toInt) (a7 : a.toInt ≤ 7) (h : ((x - a) * (x - a)).toInt = 1) : x.toInt = a.toInt + 1 ∨ x.toInt = a.toInt - 1 := by
  have d := j_subE (x := x) (y := a) rfl rfl (by omega) (by omega)
  have hd : (x - a).toInt = -7 ∨ (x - a).toInt = -6 ∨ (x - a).toInt = -5 ∨ (x - a).toInt = -4 ∨ (x - a).toInt = -3 ∨ (x - a).toInt = -2 ∨ (x - a).toInt = -1 ∨ (x - a).toInt = 0 ∨ (x - a).toInt = 1 ∨ (x - a).toInt = 2 ∨ (x - a).toInt = 3 ∨ (x - a).toInt = 4 ∨ (x - a).toInt = 5 ∨ (x - a).toInt = 6 ∨ (x - a).toInt = 7 := by omega
  rcases hd with e | e | e | e | e | e | e | e | e | e | e | e | e | e | e <;> (have q := j_mulE e e (by decide) (by decide); omega)
def R_L_low (s : Nat → Int32) (x0 : Int32) (x1 : Int32) : Int32 := ((x0 &&& 2147483647) - (x0 &&& 2147483647) / x1 * x1)
set_option maxRecDepth 100000 in
set_option maxHeartbeats 4000000 in
theorem walk_L_low {X : g_X} (O : g_ok X cL_low RL (some .int) ({ frames := 0, cells := 0, slots := 0, locals := 0 } : Room)) (hs : (g_xl X).stackTraces = false) (hn : g_xn X = 2) {m : Nat → Int32} {lm : Nat → Int64} {pm : Nat → Nat} {s : Nat → Int32} {x0 : Int32} {x1 : Int32} (p0 : ¬ x1 = 0) : g_V X (fun r : Int32 => ((.inl (some (.int r)), (m, s, lm, pm)) : g_Res)) (R_L_low s x0 x1) 0 0 m (s, lm, pm) 0 [(0, .int x0), (1, .int x1)] [] := by
  have hN : ∀ i, Nat.blt i 2 = true → i < g_xn X := fun i h => by rw [hn]; exact g_blt.mp h
  refine r_iload_n O 0 dL_low_0 rfl rfl ?_
  refine r_ldc O dL_low_1 w_con_L_8 ?_
  refine r_iand O dL_low_3 ?_
  refine r_iload_n O 1 dL_low_4 rfl rfl ?_
  refine r_irem O dL_low_5 p0 ?_
  exact r_iret O dL_low_6 rfl (Nat.le_of_ble_eq_true rfl) (Nat.le_of_ble_eq_true rfl) rfl
theorem met_L_low (l : Launch) (hs : l.stackTraces = false) (lm : Nat → Int64) (pm : Nat → Nat) (m : Nat → Int32) (s : Nat → Int32) (x0 : Int32) (x1 : Int32) (p0 : ¬ x1 = 0) : g_SM l yL_low cL_low 2 (some .int) ({ frames := 0, cells := 0, slots := 0, locals := 0 } : Room) (fun ad => [.int x0, .int x1]) m (s, lm, pm) ((fun r : Int32 => ((.inl (some (.int r)), (m, s, lm, pm)) : g_Res)) (R_L_low s x0 x1)) :=
  g_sm_of (by decide) (fun _ => Nat.le_of_ble_eq_true rfl) hs (fun X hl hn O => walk_L_low O (by rw [hl]; exact hs) hn p0)
def R_L_upFrom_6 (s : Nat → Int32) : Nat → Int32 → Int32 → Int32
  | 0, _, _ => 0
  | f + 1, v2_6, v3_6 => (if v3_6 < 0 then v2_6 else ((R_L_upFrom_6 s f) (v2_6 + (s (20 + v3_6.toNatClampNeg))) (v3_6 + (-1))))
def R_L_upFrom (s : Nat → Int32) (x1 : Int32) : Int32 := (R_L_upFrom_6 s 8 0 (x1 - 1))
set_option maxRecDepth 100000 in
set_option maxHeartbeats 4000000 in
theorem walk_L_upFrom {X : g_X} (O : g_ok X cL_upFrom RL (some .int) ({ frames := 0, cells := 0, slots := 0, locals := 0 } : Room)) (hs : (g_xl X).stackTraces = false) (hn : g_xn X = 4) {m : Nat → Int32} {lm : Nat → Int64} {pm : Nat → Nat} {s : Nat → Int32} {x1 : Int32} (p0 : 0 ≤ x1.toInt) (p1 : x1.toInt ≤ 7) : g_V X (fun r : Int32 => ((.inl (some (.int r)), (m, s, lm, pm)) : g_Res)) (R_L_upFrom s x1) 0 0 m (s, lm, pm) 0 [(0, .ref (g_ad X 126)), (1, .int x1)] [] := by
  have hN : ∀ i, Nat.blt i 4 = true → i < g_xn X := fun i h => by rw [hn]; exact g_blt.mp h
  refine r_iconst (x := 0) O dL_upFrom_0 rfl ?_
  refine r_istore_n (lc' := [(2, .int 0), (0, .ref (g_ad X 126)), (1, .int x1)]) O dL_upFrom_1 rfl (hN 2 rfl) rfl ?_
  refine r_iload_n O 2 dL_upFrom_2 rfl rfl ?_
  refine r_iconst (x := 1) O dL_upFrom_3 rfl ?_
  refine r_isub O dL_upFrom_4 ?_
  refine r_istore_n (lc' := [(3, .int (x1 - 1)), (2, .int 0), (0, .ref (g_ad X 126)), (1, .int x1)]) O dL_upFrom_5 rfl (hN 3 rfl) rfl ?_
  have L_6 : ∀ (f_6 : Nat) (v2_6 : Int32) (v3_6 : Int32) (hi_6 : -1 ≤ v3_6.toInt ∧ v3_6.toInt ≤ 6 ∧ v3_6.toInt + 1 < f_6), g_V X (fun r : Int32 => ((.inl (some (.int r)), (m, s, lm, pm)) : g_Res)) (R_L_upFrom_6 s f_6 v2_6 v3_6) 0 0 m (s, lm, pm) 6 [(0, .ref (g_ad X 126)), (2, .int v2_6), (3, .int v3_6)] [] := by
    intro f_6
    induction f_6 with
    | zero => intro v2_6 v3_6 hi_6; exact absurd hi_6 (by omega)
    | succ f_6 ih_6 =>
      intro v2_6 v3_6 hi_6
      refine r_iload_n O 2 dL_upFrom_6 rfl rfl ?_
      refine r_if_lt O 22 dL_upFrom_7 (by decide) (fun c_7 => ?_) (fun c_7 => ?_)
      · have e_7 : (v3_6).toInt < (0 : Int) := j_ltR c_7 rfl
        refine r_iload_n O 1 dL_upFrom_22 rfl rfl ?_
        exact r_iret O dL_upFrom_23 rfl (Nat.le_of_ble_eq_true rfl) (Nat.le_of_ble_eq_true rfl) rfl
      · have e_7 : (0 : Int) ≤ (v3_6).toInt := j_nltR c_7 rfl
        refine r_iload_n O 1 dL_upFrom_10 rfl rfl ?_
        refine r_aload_n O 0 dL_upFrom_11 rfl rfl ?_
        refine r_iload_n O 2 dL_upFrom_12 rfl rfl ?_
        have ja_13_0 := j_nat (x := v3_6) (by with_reducible omega)
        refine r_ialn (b := 20) (loc := 20 + v3_6.toNatClampNeg) O R_126 (show vp_in v3_6 7 from g_vin (by with_reducible omega) (by with_reducible omega)) (by with_reducible omega) dL_upFrom_13 ?_
        refine r_iadd O dL_upFrom_14 ?_
        refine r_istore_n (lc' := [(2, .int (v2_6 + (s (20 + v3_6.toNatClampNeg)))), (0, .ref (g_ad X 126)), (3, .int v3_6)]) O dL_upFrom_15 rfl (hN 2 rfl) rfl ?_
        refine r_iinc (lc' := [(3, .int (v3_6 + (-1))), (2, .int (v2_6 + (s (20 + v3_6.toNatClampNeg)))), (0, .ref (g_ad X 126))]) O 2 dL_upFrom_16 rfl rfl (hN 3 rfl) rfl ?_
        refine r_goto O 6 dL_upFrom_19 (by decide) ?_
        refine r_sub [2, 1, 0] rfl ?_
        exact ih_6 (v2_6 + (s (20 + v3_6.toNatClampNeg))) (v3_6 + (-1)) (by have h1 : (-1 : Int32).toInt = -1 := rfl; have h := j_addE (x := v3_6) (y := -1) rfl h1 (by omega) (by omega); omega)
  refine r_sub [2, 1, 0] rfl ?_
  exact L_6 8 0 (x1 - 1) (by have h := j_sub1 (x := x1) (by omega); omega)
theorem met_L_upFrom (l : Launch) (hs : l.stackTraces = false) (lm : Nat → Int64) (pm : Nat → Nat) (m : Nat → Int32) (s : Nat → Int32) (x1 : Int32) (p0 : 0 ≤ x1.toInt) (p1 : x1.toInt ≤ 7) : g_SM l yL_upFrom cL_upFrom 4 (some .int) ({ frames := 0, cells := 0, slots := 0, locals := 0 } : Room) (fun ad => [.ref (ad 126), .int x1]) m (s, lm, pm) ((fun r : Int32 => ((.inl (some (.int r)), (m, s, lm, pm)) : g_Res)) (R_L_upFrom s x1)) :=
  g_sm_of (by decide) (fun _ => Nat.le_of_ble_eq_true rfl) hs (fun X hl hn O => walk_L_upFrom O (by rw [hl]; exact hs) hn p0 p1)
def R_L_inTime_48 (s : Nat → Int32) (x2 : Int32) (x3 : Int32) (x4 : Int32) (t0_48 : Int32) : Int32 := (if (s (58 + 9 * x2.toNatClampNeg + 0)) < ((t0_48 + x4) + (R_L_upFrom s x3)) then 0 else 1)
def R_L_inTime_28 (s : Nat → Int32) (x2 : Int32) (x3 : Int32) (x4 : Int32) (t0_28 : Int32) : Int32 := (if t0_28 = 0 then (R_L_inTime_48 s x2 x3 x4 0) else (R_L_inTime_48 s x2 x3 x4 (s (58 + 9 * x2.toNatClampNeg + 7))))
def R_L_inTime_23 (s : Nat → Int32) (x2 : Int32) (x3 : Int32) (x4 : Int32) : Int32 := (R_L_inTime_28 s x2 x3 x4 1)
def R_L_inTime (s : Nat → Int32) (x2 : Int32) (x3 : Int32) (x4 : Int32) : Int32 := (if (s (58 + 9 * x2.toNatClampNeg + 2)) = 1 then (R_L_inTime_23 s x2 x3 x4 ) else (if (s (58 + 9 * x2.toNatClampNeg + 1)) = 0 then (R_L_inTime_28 s x2 x3 x4 0) else (R_L_inTime_23 s x2 x3 x4 )))
set_option maxRecDepth 100000 in
set_option maxHeartbeats 4000000 in
theorem walk_L_inTime {X : g_X} (O : g_ok X cL_inTime RL (some .boolean) ({ frames := 1, cells := 0, slots := 0, locals := 23 } : Room)) (hs : (g_xl X).stackTraces = false) (hn : g_xn X = 6) {m : Nat → Int32} {lm : Nat → Int64} {pm : Nat → Nat} {s : Nat → Int32} {x2 : Int32} {x3 : Int32} {x4 : Int32} (p0 : 0 ≤ x2.toInt) (p1 : x2.toInt < 6) (p2 : 0 ≤ x3.toInt) (p3 : x3.toInt ≤ 7) : g_V X (fun r : Int32 => ((.inl (some (.int r)), (m, s, lm, pm)) : g_Res)) (R_L_inTime s x2 x3 x4) 0 0 m (s, lm, pm) 0 [(0, .ref (g_ad X 126)), (1, .ref (g_ad X 129)), (2, .int x2), (3, .int x3), (4, .int x4)] [] := by
  have hN : ∀ i, Nat.blt i 6 = true → i < g_xn X := fun i h => by rw [hn]; exact g_blt.mp h
  refine r_aload_n O 1 dL_inTime_0 rfl rfl ?_
  refine r_bipush (x := 9) O dL_inTime_1 rfl ?_
  refine r_iload_n O 2 dL_inTime_3 rfl rfl ?_
  refine r_imul O dL_inTime_4 ?_
  refine r_iconst (x := 2) O dL_inTime_5 rfl ?_
  refine r_iadd O dL_inTime_6 ?_
  have ix_7 : ((9 * x2) + 2).toInt = (((9 : Int) * x2.toInt) + (2 : Int)) := (j_addE (j_mulE rfl rfl (by with_reducible omega) (by with_reducible omega)) rfl (by with_reducible omega) (by with_reducible omega))
  have ja_7_0 := j_nat (x := x2) (by with_reducible omega)
  have iy_7 := j_nat (x := ((9 * x2) + 2)) (by with_reducible omega)
  refine r_ialn (b := 58) (loc := 58 + 9 * x2.toNatClampNeg + 2) O R_129 (show vp_in ((9 * x2) + 2) 54 from g_vin (by with_reducible omega) (by with_reducible omega)) (by with_reducible omega) dL_inTime_7 ?_
  refine r_iconst (x := 1) O dL_inTime_8 rfl ?_
  have J_28 : ∀ (t0_28 : Int32), g_V X (fun r : Int32 => ((.inl (some (.int r)), (m, s, lm, pm)) : g_Res)) (R_L_inTime_28 s x2 x3 x4 t0_28) 0 0 m (s, lm, pm) 28 [(0, .ref (g_ad X 126)), (1, .ref (g_ad X 129)), (2, .int x2), (3, .int x3), (4, .int x4)] [.int t0_28] := by
    intro t0_28
    refine r_istore (lc' := [(5, .int t0_28), (0, .ref (g_ad X 126)), (1, .ref (g_ad X 129)), (2, .int x2), (3, .int x3), (4, .int x4)]) O dL_inTime_28 (hN 5 rfl) rfl ?_
    refine r_iload O 0 dL_inTime_30 rfl ?_
    have J_48 : ∀ (t0_48 : Int32), g_V X (fun r : Int32 => ((.inl (some (.int r)), (m, s, lm, pm)) : g_Res)) (R_L_inTime_48 s x2 x3 x4 t0_48) 0 0 m (s, lm, pm) 48 [(0, .ref (g_ad X 126)), (1, .ref (g_ad X 129)), (2, .int x2), (3, .int x3), (4, .int x4)] [.int t0_48] := by
      intro t0_48
      refine r_iload O 4 dL_inTime_48 rfl ?_
      refine r_iadd O dL_inTime_50 ?_
      refine r_aload_n O 0 dL_inTime_51 rfl rfl ?_
      refine r_iload_n O 3 dL_inTime_52 rfl rfl ?_
      refine r_callSi O [.ref (g_ad X 126), .int x3] [.int (t0_48 + x4)] (met_L_upFrom (g_xl X) hs lm pm m s x3 (by first | decide | with_reducible assumption | with_reducible omega | (simp (disch := omega) only [g_upd_ne, g_upd_eq]; first | with_reducible assumption | with_reducible omega | decide) | exact Or.inl rfl | exact Or.inr rfl) (by first | decide | with_reducible assumption | with_reducible omega | (simp (disch := omega) only [g_upd_ne, g_upd_eq]; first | with_reducible assumption | with_reducible omega | decide) | exact Or.inl rfl | exact Or.inr rfl)) LL_9 rfl rfl rfl dL_inTime_53 rfl rfl ?_
      refine r_iadd O dL_inTime_56 ?_
      refine r_aload_n O 1 dL_inTime_57 rfl rfl ?_
      refine r_bipush (x := 9) O dL_inTime_58 rfl ?_
      refine r_iload_n O 2 dL_inTime_60 rfl rfl ?_
      refine r_imul O dL_inTime_61 ?_
      have ix_62 : (9 * x2).toInt = ((9 : Int) * x2.toInt) := (j_mulE rfl rfl (by with_reducible omega) (by with_reducible omega))
      have ja_62_0 := j_nat (x := x2) (by with_reducible omega)
      have iy_62 := j_nat (x := (9 * x2)) (by with_reducible omega)
      refine r_ialn (b := 58) (loc := 58 + 9 * x2.toNatClampNeg + 0) O R_129 (show vp_in (9 * x2) 54 from g_vin (by with_reducible omega) (by with_reducible omega)) (by with_reducible omega) dL_inTime_62 ?_
      refine r_icmp_gt O 70 dL_inTime_63 (by decide) (fun c_63 => ?_) (fun c_63 => ?_)
      · have e_63 : (s (58 + 9 * x2.toNatClampNeg + 0)).toInt < ((t0_48 + x4) + (R_L_upFrom s x3)).toInt := j_lt c_63
        refine r_iconst (x := 0) O dL_inTime_70 rfl ?_
        exact r_iret O dL_inTime_71 rfl (Nat.le_of_ble_eq_true rfl) (Nat.le_of_ble_eq_true rfl) rfl
      · have e_63 : ((t0_48 + x4) + (R_L_upFrom s x3)).toInt ≤ (s (58 + 9 * x2.toNatClampNeg + 0)).toInt := j_nlt c_63
        refine r_iconst (x := 1) O dL_inTime_66 rfl ?_
        refine r_goto O 71 dL_inTime_67 (by decide) ?_
        exact r_iret O dL_inTime_71 rfl (Nat.le_of_ble_eq_true rfl) (Nat.le_of_ble_eq_true rfl) rfl
    refine r_if_eq O 47 dL_inTime_32 (by decide) (fun c_32 => ?_) (fun c_32 => ?_)
    · have e_32 : (t0_28).toInt = (0 : Int) := j_eqR c_32 rfl
      refine r_iconst (x := 0) O dL_inTime_47 rfl ?_
      refine r_sub [1, 2, 3, 4, 5] rfl ?_
      exact J_48 0
    · have e_32 : (t0_28).toInt ≠ (0 : Int) := j_neR c_32 rfl
      refine r_aload_n O 2 dL_inTime_35 rfl rfl ?_
      refine r_bipush (x := 9) O dL_inTime_36 rfl ?_
      refine r_iload_n O 3 dL_inTime_38 rfl rfl ?_
      refine r_imul O dL_inTime_39 ?_
      refine r_bipush (x := 7) O dL_inTime_40 rfl ?_
      refine r_iadd O dL_inTime_42 ?_
      have ix_43 : ((9 * x2) + 7).toInt = (((9 : Int) * x2.toInt) + (7 : Int)) := (j_addE (j_mulE rfl rfl (by with_reducible omega) (by with_reducible omega)) rfl (by with_reducible omega) (by with_reducible omega))
      have ja_43_0 := j_nat (x := x2) (by with_reducible omega)
      have iy_43 := j_nat (x := ((9 * x2) + 7)) (by with_reducible omega)
      refine r_ialn (b := 58) (loc := 58 + 9 * x2.toNatClampNeg + 7) O R_129 (show vp_in ((9 * x2) + 7) 54 from g_vin (by with_reducible omega) (by with_reducible omega)) (by with_reducible omega) dL_inTime_43 ?_
      refine r_goto O 48 dL_inTime_44 (by decide) ?_
      refine r_sub [1, 2, 3, 4, 5] rfl ?_
      exact J_48 (s (58 + 9 * x2.toNatClampNeg + 7))
  have J_23 : g_V X (fun r : Int32 => ((.inl (some (.int r)), (m, s, lm, pm)) : g_Res)) (R_L_inTime_23 s x2 x3 x4 ) 0 0 m (s, lm, pm) 23 [(0, .ref (g_ad X 126)), (1, .ref (g_ad X 129)), (2, .int x2), (3, .int x3), (4, .int x4)] [] := by
    refine r_iconst (x := 1) O dL_inTime_23 rfl ?_
    refine r_goto O 28 dL_inTime_24 (by decide) ?_
    exact J_28 1
  refine r_icmp_eq O 23 dL_inTime_9 (by decide) (fun c_9 => ?_) (fun c_9 => ?_)
  · have e_9 : (s (58 + 9 * x2.toNatClampNeg + 2)).toInt = (1 : Int) := j_eqR c_9 rfl
    exact J_23
  · have e_9 : (s (58 + 9 * x2.toNatClampNeg + 2)).toInt ≠ (1 : Int) := j_neR c_9 rfl
    refine r_aload_n O 1 dL_inTime_12 rfl rfl ?_
    refine r_bipush (x := 9) O dL_inTime_13 rfl ?_
    refine r_iload_n O 2 dL_inTime_15 rfl rfl ?_
    refine r_imul O dL_inTime_16 ?_
    refine r_iconst (x := 1) O dL_inTime_17 rfl ?_
    refine r_iadd O dL_inTime_18 ?_
    have ix_19 : ((9 * x2) + 1).toInt = (((9 : Int) * x2.toInt) + (1 : Int)) := (j_addE (j_mulE rfl rfl (by with_reducible omega) (by with_reducible omega)) rfl (by with_reducible omega) (by with_reducible omega))
    have ja_19_0 := j_nat (x := x2) (by with_reducible omega)
    have iy_19 := j_nat (x := ((9 * x2) + 1)) (by with_reducible omega)
    refine r_ialn (b := 58) (loc := 58 + 9 * x2.toNatClampNeg + 1) O R_129 (show vp_in ((9 * x2) + 1) 54 from g_vin (by with_reducible omega) (by with_reducible omega)) (by with_reducible omega) dL_inTime_19 ?_
    refine r_if_eq O 27 dL_inTime_20 (by decide) (fun c_20 => ?_) (fun c_20 => ?_)
    · have e_20 : (s (58 + 9 * x2.toNatClampNeg + 1)).toInt = (0 : Int) := j_eqR c_20 rfl
      refine r_iconst (x := 0) O dL_inTime_27 rfl ?_
      exact J_28 0
    · have e_20 : (s (58 + 9 * x2.toNatClampNeg + 1)).toInt ≠ (0 : Int) := j_neR c_20 rfl
      exact J_23
theorem met_L_inTime (l : Launch) (hs : l.stackTraces = false) (lm : Nat → Int64) (pm : Nat → Nat) (m : Nat → Int32) (s : Nat → Int32) (x2 : Int32) (x3 : Int32) (x4 : Int32) (p0 : 0 ≤ x2.toInt) (p1 : x2.toInt < 6) (p2 : 0 ≤ x3.toInt) (p3 : x3.toInt ≤ 7) : g_SM l yL_inTime cL_inTime 6 (some .boolean) ({ frames := 1, cells := 0, slots := 0, locals := 23 } : Room) (fun ad => [.ref (ad 126), .ref (ad 129), .int x2, .int x3, .int x4]) m (s, lm, pm) ((fun r : Int32 => ((.inl (some (.int r)), (m, s, lm, pm)) : g_Res)) (R_L_inTime s x2 x3 x4)) :=
  g_sm_of (by decide) (fun _ => Nat.le_of_ble_eq_true rfl) hs (fun X hl hn O => walk_L_inTime O (by rw [hl]; exact hs) hn p0 p1 p2 p3)
def R_L_through (s : Nat → Int32) (x1 : Int32) : Int32 := (if (s (58 + 9 * x1.toNatClampNeg + 2)) = 1 then (if (s (58 + 9 * x1.toNatClampNeg + 3)) ≤ (s (58 + 9 * x1.toNatClampNeg + 1)) then (s (58 + 9 * x1.toNatClampNeg + 3)) else (s (58 + 9 * x1.toNatClampNeg + 1))) else (-1))
set_option maxRecDepth 100000 in
set_option maxHeartbeats 4000000 in
theorem walk_L_through {X : g_X} (O : g_ok X cL_through RL (some .int) ({ frames := 0, cells := 0, slots := 0, locals := 0 } : Room)) (hs : (g_xl X).stackTraces = false) (hn : g_xn X = 4) {m : Nat → Int32} {lm : Nat → Int64} {pm : Nat → Nat} {s : Nat → Int32} {x1 : Int32} (p0 : 0 ≤ x1.toInt) (p1 : x1.toInt < 6) : g_V X (fun r : Int32 => ((.inl (some (.int r)), (m, s, lm, pm)) : g_Res)) (R_L_through s x1) 0 0 m (s, lm, pm) 0 [(0, .ref (g_ad X 129)), (1, .int x1)] [] := by
  have hN : ∀ i, Nat.blt i 4 = true → i < g_xn X := fun i h => by rw [hn]; exact g_blt.mp h
  refine r_aload_n O 0 dL_through_0 rfl rfl ?_
  refine r_bipush (x := 9) O dL_through_1 rfl ?_
  refine r_iload_n O 1 dL_through_3 rfl rfl ?_
  refine r_imul O dL_through_4 ?_
  refine r_iconst (x := 1) O dL_through_5 rfl ?_
  refine r_iadd O dL_through_6 ?_
  have ix_7 : ((9 * x1) + 1).toInt = (((9 : Int) * x1.toInt) + (1 : Int)) := (j_addE (j_mulE rfl rfl (by with_reducible omega) (by with_reducible omega)) rfl (by with_reducible omega) (by with_reducible omega))
  have ja_7_0 := j_nat (x := x1) (by with_reducible omega)
  have iy_7 := j_nat (x := ((9 * x1) + 1)) (by with_reducible omega)
  refine r_ialn (b := 58) (loc := 58 + 9 * x1.toNatClampNeg + 1) O R_129 (show vp_in ((9 * x1) + 1) 54 from g_vin (by with_reducible omega) (by with_reducible omega)) (by with_reducible omega) dL_through_7 ?_
  refine r_istore_n (lc' := [(2, .int (s (58 + 9 * x1.toNatClampNeg + 1))), (0, .ref (g_ad X 129)), (1, .int x1)]) O dL_through_8 rfl (hN 2 rfl) rfl ?_
  refine r_aload_n O 1 dL_through_9 rfl rfl ?_
  refine r_bipush (x := 9) O dL_through_10 rfl ?_
  refine r_iload_n O 2 dL_through_12 rfl rfl ?_
  refine r_imul O dL_through_13 ?_
  refine r_iconst (x := 3) O dL_through_14 rfl ?_
  refine r_iadd O dL_through_15 ?_
  have ix_16 : ((9 * x1) + 3).toInt = (((9 : Int) * x1.toInt) + (3 : Int)) := (j_addE (j_mulE rfl rfl (by with_reducible omega) (by with_reducible omega)) rfl (by with_reducible omega) (by with_reducible omega))
  have ja_16_0 := j_nat (x := x1) (by with_reducible omega)
  have iy_16 := j_nat (x := ((9 * x1) + 3)) (by with_reducible omega)
  refine r_ialn (b := 58) (loc := 58 + 9 * x1.toNatClampNeg + 3) O R_129 (show vp_in ((9 * x1) + 3) 54 from g_vin (by with_reducible omega) (by with_reducible omega)) (by with_reducible omega) dL_through_16 ?_
  refine r_istore_n (lc' := [(3, .int (s (58 + 9 * x1.toNatClampNeg + 3))), (2, .int (s (58 + 9 * x1.toNatClampNeg + 1))), (0, .ref (g_ad X 129)), (1, .int x1)]) O dL_through_17 rfl (hN 3 rfl) rfl ?_
  refine r_aload_n O 2 dL_through_18 rfl rfl ?_
  refine r_bipush (x := 9) O dL_through_19 rfl ?_
  refine r_iload_n O 3 dL_through_21 rfl rfl ?_
  refine r_imul O dL_through_22 ?_
  refine r_iconst (x := 2) O dL_through_23 rfl ?_
  refine r_iadd O dL_through_24 ?_
  have ix_25 : ((9 * x1) + 2).toInt = (((9 : Int) * x1.toInt) + (2 : Int)) := (j_addE (j_mulE rfl rfl (by with_reducible omega) (by with_reducible omega)) rfl (by with_reducible omega) (by with_reducible omega))
  have ja_25_0 := j_nat (x := x1) (by with_reducible omega)
  have iy_25 := j_nat (x := ((9 * x1) + 2)) (by with_reducible omega)
  refine r_ialn (b := 58) (loc := 58 + 9 * x1.toNatClampNeg + 2) O R_129 (show vp_in ((9 * x1) + 2) 54 from g_vin (by with_reducible omega) (by with_reducible omega)) (by with_reducible omega) dL_through_25 ?_
  refine r_iconst (x := 1) O dL_through_26 rfl ?_
  refine r_icmp_eq O 34 dL_through_27 (by decide) (fun c_27 => ?_) (fun c_27 => ?_)
  · have e_27 : (s (58 + 9 * x1.toNatClampNeg + 2)).toInt = (1 : Int) := j_eqR c_27 rfl
    refine r_iload_n O 1 dL_through_34 rfl rfl ?_
    refine r_iload_n O 0 dL_through_35 rfl rfl ?_
    refine r_icmp_ge O 43 dL_through_36 (by decide) (fun c_36 => ?_) (fun c_36 => ?_)
    · have e_36 : (s (58 + 9 * x1.toNatClampNeg + 3)).toInt ≤ (s (58 + 9 * x1.toNatClampNeg + 1)).toInt := j_le c_36
      refine r_iload_n O 0 dL_through_43 rfl rfl ?_
      exact r_iret O dL_through_44 rfl (Nat.le_of_ble_eq_true rfl) (Nat.le_of_ble_eq_true rfl) rfl
    · have e_36 : (s (58 + 9 * x1.toNatClampNeg + 1)).toInt < (s (58 + 9 * x1.toNatClampNeg + 3)).toInt := j_nle c_36
      refine r_iload_n O 1 dL_through_39 rfl rfl ?_
      refine r_goto O 44 dL_through_40 (by decide) ?_
      exact r_iret O dL_through_44 rfl (Nat.le_of_ble_eq_true rfl) (Nat.le_of_ble_eq_true rfl) rfl
  · have e_27 : (s (58 + 9 * x1.toNatClampNeg + 2)).toInt ≠ (1 : Int) := j_neR c_27 rfl
    refine r_iconst (x := (-1)) O dL_through_30 rfl ?_
    refine r_goto O 44 dL_through_31 (by decide) ?_
    exact r_iret O dL_through_44 rfl (Nat.le_of_ble_eq_true rfl) (Nat.le_of_ble_eq_true rfl) rfl
theorem met_L_through (l : Launch) (hs : l.stackTraces = false) (lm : Nat → Int64) (pm : Nat → Nat) (m : Nat → Int32) (s : Nat → Int32) (x1 : Int32) (p0 : 0 ≤ x1.toInt) (p1 : x1.toInt < 6) : g_SM l yL_through cL_through 4 (some .int) ({ frames := 0, cells := 0, slots := 0, locals := 0 } : Room) (fun ad => [.ref (ad 129), .int x1]) m (s, lm, pm) ((fun r : Int32 => ((.inl (some (.int r)), (m, s, lm, pm)) : g_Res)) (R_L_through s x1)) :=
  g_sm_of (by decide) (fun _ => Nat.le_of_ble_eq_true rfl) hs (fun X hl hn O => walk_L_through O (by rw [hl]; exact hs) hn p0 p1)
def R_L_many_29 (K_5 : Int32 → Nat → Int32) (v3_5 : Int32) (n : Nat) (t0_29 : Int32) : Int32 := (K_5 (v3_5 + t0_29) (n + 1))
def R_L_many_5 (s : Nat → Int32) (x2 : Int32) : Nat → Int32 → Nat → Int32
  | 0, _, _ => 0
  | f + 1, v3_5, n => (if (s (2)) ≤ (nI n) then v3_5 else (if (R_L_through s (nI n)) = x2 then (R_L_many_29 (R_L_many_5 s x2 f) v3_5 n 1) else (R_L_many_29 (R_L_many_5 s x2 f) v3_5 n 0)))
def R_L_many (s : Nat → Int32) (x2 : Int32) : Int32 := (R_L_many_5 s x2 7 0 0)
set_option maxRecDepth 100000 in
set_option maxHeartbeats 4000000 in
theorem walk_L_many {X : g_X} (O : g_ok X cL_many RL (some .int) ({ frames := 1, cells := 0, slots := 0, locals := 23 } : Room)) (hs : (g_xl X).stackTraces = false) (hn : g_xn X = 5) {m : Nat → Int32} {lm : Nat → Int64} {pm : Nat → Nat} {s : Nat → Int32} {x2 : Int32} (p0 : (s 2).toInt ≤ 6) : g_V X (fun r : Int32 => ((.inl (some (.int r)), (m, s, lm, pm)) : g_Res)) (R_L_many s x2) 0 0 m (s, lm, pm) 0 [(0, .ref (g_ad X 124)), (1, .ref (g_ad X 129)), (2, .int x2)] [] := by
  have hN : ∀ i, Nat.blt i 5 = true → i < g_xn X := fun i h => by rw [hn]; exact g_blt.mp h
  refine r_iconst (x := 0) O dL_many_0 rfl ?_
  refine r_istore_n (lc' := [(3, .int 0), (0, .ref (g_ad X 124)), (1, .ref (g_ad X 129)), (2, .int x2)]) O dL_many_1 rfl (hN 3 rfl) rfl ?_
  refine r_iconst (x := 0) O dL_many_2 rfl ?_
  refine r_istore (lc' := [(4, .int 0), (3, .int 0), (0, .ref (g_ad X 124)), (1, .ref (g_ad X 129)), (2, .int x2)]) O dL_many_3 (hN 4 rfl) rfl ?_
  have L_5 : ∀ (f_5 : Nat) (v3_5 : Int32) (n : Nat) (hi_5 : n ≤ 6 ∧ 6 < f_5 + n), g_V X (fun r : Int32 => ((.inl (some (.int r)), (m, s, lm, pm)) : g_Res)) (R_L_many_5 s x2 f_5 v3_5 n) 0 0 m (s, lm, pm) 5 [(0, .ref (g_ad X 124)), (1, .ref (g_ad X 129)), (2, .int x2), (3, .int v3_5), (4, .int (nI n))] [] := by
    intro f_5
    induction f_5 with
    | zero => intro v3_5 n hi_5; exact absurd hi_5 (by omega)
    | succ f_5 ih_5 =>
      intro v3_5 n hi_5
      have hc_n : (nI n).toInt = (n : Int) := nI_toInt (by omega)
      refine r_iload O 4 dL_many_5 rfl ?_
      refine r_aload_n O 0 dL_many_7 rfl rfl ?_
      refine r_iconst (x := 2) O dL_many_8 rfl ?_
      refine r_ialn (b := 0) (loc := 2) O R_124 (g_vin (by decide) (by decide)) rfl dL_many_9 ?_
      refine r_icmp_ge O 37 dL_many_10 (by decide) (fun c_10 => ?_) (fun c_10 => ?_)
      · have e_10 : (s (2)).toInt ≤ (nI n).toInt := j_le c_10
        refine r_iload_n O 3 dL_many_37 rfl rfl ?_
        exact r_iret O dL_many_38 rfl (Nat.le_of_ble_eq_true rfl) (Nat.le_of_ble_eq_true rfl) rfl
      · have e_10 : (nI n).toInt < (s (2)).toInt := j_nle c_10
        refine r_iload_n O 3 dL_many_13 rfl rfl ?_
        refine r_aload_n O 1 dL_many_14 rfl rfl ?_
        refine r_iload O 4 dL_many_15 rfl ?_
        refine r_callSi O [.ref (g_ad X 129), .int (nI n)] [.int v3_5] (met_L_through (g_xl X) hs lm pm m s (nI n) (by first | decide | with_reducible assumption | with_reducible omega | (simp (disch := omega) only [g_upd_ne, g_upd_eq]; first | with_reducible assumption | with_reducible omega | decide) | exact Or.inl rfl | exact Or.inr rfl) (by first | decide | with_reducible assumption | with_reducible omega | (simp (disch := omega) only [g_upd_ne, g_upd_eq]; first | with_reducible assumption | with_reducible omega | decide) | exact Or.inl rfl | exact Or.inr rfl)) LL_15 rfl rfl rfl dL_many_17 rfl rfl ?_
        refine r_iload_n O 2 dL_many_20 rfl rfl ?_
        have J_29 : ∀ (t0_29 : Int32), g_V X (fun r : Int32 => ((.inl (some (.int r)), (m, s, lm, pm)) : g_Res)) (R_L_many_29 ((R_L_many_5 s x2 f_5)) v3_5 n t0_29) 0 0 m (s, lm, pm) 29 [(0, .ref (g_ad X 124)), (1, .ref (g_ad X 129)), (2, .int x2), (4, .int (nI n))] [.int t0_29, .int v3_5] := by
          intro t0_29
          refine r_iadd O dL_many_29 ?_
          refine r_istore_n (lc' := [(3, .int (v3_5 + t0_29)), (0, .ref (g_ad X 124)), (1, .ref (g_ad X 129)), (2, .int x2), (4, .int (nI n))]) O dL_many_30 rfl (hN 3 rfl) rfl ?_
          refine r_iinc (lc' := [(4, .int (nI (n + 1))), (3, .int (v3_5 + t0_29)), (0, .ref (g_ad X 124)), (1, .ref (g_ad X 129)), (2, .int x2)]) O 4 dL_many_31 rfl (nI_1 n) (hN 4 rfl) rfl ?_
          refine r_goto O 5 dL_many_34 (by decide) ?_
          refine r_sub [2, 3, 4, 1, 0] rfl ?_
          exact ih_5 (v3_5 + t0_29) (n + 1) (by with_reducible omega)
        refine r_icmp_ne O 28 dL_many_21 (by decide) (fun c_21 => ?_) (fun c_21 => ?_)
        · have e_21 : (R_L_through s (nI n)).toInt = (x2).toInt := j_eq c_21
          refine r_iconst (x := 1) O dL_many_24 rfl ?_
          refine r_goto O 29 dL_many_25 (by decide) ?_
          refine r_sub [0, 1, 2, 4] rfl ?_
          exact J_29 1
        · have e_21 : (R_L_through s (nI n)).toInt ≠ (x2).toInt := j_ne c_21
          refine r_iconst (x := 0) O dL_many_28 rfl ?_
          refine r_sub [0, 1, 2, 4] rfl ?_
          exact J_29 0
  refine r_sub [2, 3, 4, 1, 0] rfl ?_
  exact L_5 7 0 0 (by with_reducible omega)
theorem met_L_many (l : Launch) (hs : l.stackTraces = false) (lm : Nat → Int64) (pm : Nat → Nat) (m : Nat → Int32) (s : Nat → Int32) (x2 : Int32) (p0 : (s 2).toInt ≤ 6) : g_SM l yL_many cL_many 5 (some .int) ({ frames := 1, cells := 0, slots := 0, locals := 23 } : Room) (fun ad => [.ref (ad 124), .ref (ad 129), .int x2]) m (s, lm, pm) ((fun r : Int32 => ((.inl (some (.int r)), (m, s, lm, pm)) : g_Res)) (R_L_many s x2)) :=
  g_sm_of (by decide) (fun _ => Nat.le_of_ble_eq_true rfl) hs (fun X hl hn O => walk_L_many O (by rw [hl]; exact hs) hn p0)
def R_L_rigger_45 (K_5 : Int32 → Nat → Int32) (n : Nat) (t0_45 : Int32) : Int32 := (K_5 t0_45 (n + 1))
def R_L_rigger_44 (K_5 : Int32 → Nat → Int32) (v3_5 : Int32) (n : Nat) : Int32 := (R_L_rigger_45 K_5 n v3_5)
def R_L_rigger_5 (s : Nat → Int32) (x2 : Int32) : Nat → Int32 → Nat → Int32
  | 0, _, _ => 0
  | f + 1, v3_5, n => (if (s (2)) ≤ (nI n) then v3_5 else (if (s (58 + 9 * n + 2)) = 2 then (if (s (58 + 9 * n + 1)) = x2 then (R_L_rigger_45 (R_L_rigger_5 s x2 f) n (nI n)) else (R_L_rigger_44 (R_L_rigger_5 s x2 f) v3_5 n )) else (R_L_rigger_44 (R_L_rigger_5 s x2 f) v3_5 n )))
def R_L_rigger (s : Nat → Int32) (x2 : Int32) : Int32 := (R_L_rigger_5 s x2 7 (-1) 0)
set_option maxRecDepth 100000 in
set_option maxHeartbeats 4000000 in
theorem walk_L_rigger {X : g_X} (O : g_ok X cL_rigger RL (some .int) ({ frames := 0, cells := 0, slots := 0, locals := 0 } : Room)) (hs : (g_xl X).stackTraces = false) (hn : g_xn X = 5) {m : Nat → Int32} {lm : Nat → Int64} {pm : Nat → Nat} {s : Nat → Int32} {x2 : Int32} (p0 : (s 2).toInt ≤ 6) : g_V X (fun r : Int32 => ((.inl (some (.int r)), (m, s, lm, pm)) : g_Res)) (R_L_rigger s x2) 0 0 m (s, lm, pm) 0 [(0, .ref (g_ad X 124)), (1, .ref (g_ad X 129)), (2, .int x2)] [] := by
  have hN : ∀ i, Nat.blt i 5 = true → i < g_xn X := fun i h => by rw [hn]; exact g_blt.mp h
  refine r_iconst (x := (-1)) O dL_rigger_0 rfl ?_
  refine r_istore_n (lc' := [(3, .int (-1)), (0, .ref (g_ad X 124)), (1, .ref (g_ad X 129)), (2, .int x2)]) O dL_rigger_1 rfl (hN 3 rfl) rfl ?_
  refine r_iconst (x := 0) O dL_rigger_2 rfl ?_
  refine r_istore (lc' := [(4, .int 0), (3, .int (-1)), (0, .ref (g_ad X 124)), (1, .ref (g_ad X 129)), (2, .int x2)]) O dL_rigger_3 (hN 4 rfl) rfl ?_
  have L_5 : ∀ (f_5 : Nat) (v3_5 : Int32) (n : Nat) (hi_5 : n ≤ 6 ∧ 6 < f_5 + n), g_V X (fun r : Int32 => ((.inl (some (.int r)), (m, s, lm, pm)) : g_Res)) (R_L_rigger_5 s x2 f_5 v3_5 n) 0 0 m (s, lm, pm) 5 [(0, .ref (g_ad X 124)), (1, .ref (g_ad X 129)), (2, .int x2), (3, .int v3_5), (4, .int (nI n))] [] := by
    intro f_5
    induction f_5 with
    | zero => intro v3_5 n hi_5; exact absurd hi_5 (by omega)
    | succ f_5 ih_5 =>
      intro v3_5 n hi_5
      have hc_n : (nI n).toInt = (n : Int) := nI_toInt (by omega)
      refine r_iload O 4 dL_rigger_5 rfl ?_
      refine r_aload_n O 0 dL_rigger_7 rfl rfl ?_
      refine r_iconst (x := 2) O dL_rigger_8 rfl ?_
      refine r_ialn (b := 0) (loc := 2) O R_124 (g_vin (by decide) (by decide)) rfl dL_rigger_9 ?_
      refine r_icmp_ge O 52 dL_rigger_10 (by decide) (fun c_10 => ?_) (fun c_10 => ?_)
      · have e_10 : (s (2)).toInt ≤ (nI n).toInt := j_le c_10
        refine r_iload_n O 3 dL_rigger_52 rfl rfl ?_
        exact r_iret O dL_rigger_53 rfl (Nat.le_of_ble_eq_true rfl) (Nat.le_of_ble_eq_true rfl) rfl
      · have e_10 : (nI n).toInt < (s (2)).toInt := j_nle c_10
        refine r_aload_n O 1 dL_rigger_13 rfl rfl ?_
        refine r_bipush (x := 9) O dL_rigger_14 rfl ?_
        refine r_iload O 4 dL_rigger_16 rfl ?_
        refine r_imul O dL_rigger_18 ?_
        refine r_iconst (x := 2) O dL_rigger_19 rfl ?_
        refine r_iadd O dL_rigger_20 ?_
        have ix_21 : ((9 * (nI n)) + 2).toInt = (((9 : Int) * (nI n).toInt) + (2 : Int)) := (j_addE (j_mulE rfl rfl (by with_reducible omega) (by with_reducible omega)) rfl (by with_reducible omega) (by with_reducible omega))
        have iy_21 := j_nat (x := ((9 * (nI n)) + 2)) (by with_reducible omega)
        refine r_ialn (b := 58) (loc := 58 + 9 * n + 2) O R_129 (show vp_in ((9 * (nI n)) + 2) 54 from g_vin (by with_reducible omega) (by with_reducible omega)) (by with_reducible omega) dL_rigger_21 ?_
        refine r_iconst (x := 2) O dL_rigger_22 rfl ?_
        have J_45 : ∀ (t0_45 : Int32), g_V X (fun r : Int32 => ((.inl (some (.int r)), (m, s, lm, pm)) : g_Res)) (R_L_rigger_45 ((R_L_rigger_5 s x2 f_5)) n t0_45) 0 0 m (s, lm, pm) 45 [(0, .ref (g_ad X 124)), (1, .ref (g_ad X 129)), (2, .int x2), (4, .int (nI n))] [.int t0_45] := by
          intro t0_45
          refine r_istore_n (lc' := [(3, .int t0_45), (0, .ref (g_ad X 124)), (1, .ref (g_ad X 129)), (2, .int x2), (4, .int (nI n))]) O dL_rigger_45 rfl (hN 3 rfl) rfl ?_
          refine r_iinc (lc' := [(4, .int (nI (n + 1))), (3, .int t0_45), (0, .ref (g_ad X 124)), (1, .ref (g_ad X 129)), (2, .int x2)]) O 4 dL_rigger_46 rfl (nI_1 n) (hN 4 rfl) rfl ?_
          refine r_goto O 5 dL_rigger_49 (by decide) ?_
          refine r_sub [2, 3, 4, 1, 0] rfl ?_
          exact ih_5 t0_45 (n + 1) (by with_reducible omega)
        have J_44 : g_V X (fun r : Int32 => ((.inl (some (.int r)), (m, s, lm, pm)) : g_Res)) (R_L_rigger_44 ((R_L_rigger_5 s x2 f_5)) v3_5 n ) 0 0 m (s, lm, pm) 44 [(0, .ref (g_ad X 124)), (1, .ref (g_ad X 129)), (2, .int x2), (3, .int v3_5), (4, .int (nI n))] [] := by
          refine r_iload_n O 3 dL_rigger_44 rfl rfl ?_
          refine r_sub [0, 1, 2, 4] rfl ?_
          exact J_45 v3_5
        refine r_icmp_ne O 44 dL_rigger_23 (by decide) (fun c_23 => ?_) (fun c_23 => ?_)
        · have e_23 : (s (58 + 9 * n + 2)).toInt = (2 : Int) := j_eqR c_23 rfl
          refine r_aload_n O 1 dL_rigger_26 rfl rfl ?_
          refine r_bipush (x := 9) O dL_rigger_27 rfl ?_
          refine r_iload O 4 dL_rigger_29 rfl ?_
          refine r_imul O dL_rigger_31 ?_
          refine r_iconst (x := 1) O dL_rigger_32 rfl ?_
          refine r_iadd O dL_rigger_33 ?_
          have ix_34 : ((9 * (nI n)) + 1).toInt = (((9 : Int) * (nI n).toInt) + (1 : Int)) := (j_addE (j_mulE rfl rfl (by with_reducible omega) (by with_reducible omega)) rfl (by with_reducible omega) (by with_reducible omega))
          have iy_34 := j_nat (x := ((9 * (nI n)) + 1)) (by with_reducible omega)
          refine r_ialn (b := 58) (loc := 58 + 9 * n + 1) O R_129 (show vp_in ((9 * (nI n)) + 1) 54 from g_vin (by with_reducible omega) (by with_reducible omega)) (by with_reducible omega) dL_rigger_34 ?_
          refine r_iload_n O 2 dL_rigger_35 rfl rfl ?_
          refine r_icmp_ne O 44 dL_rigger_36 (by decide) (fun c_36 => ?_) (fun c_36 => ?_)
          · have e_36 : (s (58 + 9 * n + 1)).toInt = (x2).toInt := j_eq c_36
            refine r_iload O 4 dL_rigger_39 rfl ?_
            refine r_goto O 45 dL_rigger_41 (by decide) ?_
            refine r_sub [0, 1, 2, 4] rfl ?_
            exact J_45 (nI n)
          · have e_36 : (s (58 + 9 * n + 1)).toInt ≠ (x2).toInt := j_ne c_36
            exact J_44
        · have e_23 : (s (58 + 9 * n + 2)).toInt ≠ (2 : Int) := j_neR c_23 rfl
          exact J_44
  refine r_sub [2, 3, 4, 1, 0] rfl ?_
  exact L_5 7 (-1) 0 (by with_reducible omega)
theorem met_L_rigger (l : Launch) (hs : l.stackTraces = false) (lm : Nat → Int64) (pm : Nat → Nat) (m : Nat → Int32) (s : Nat → Int32) (x2 : Int32) (p0 : (s 2).toInt ≤ 6) : g_SM l yL_rigger cL_rigger 5 (some .int) ({ frames := 0, cells := 0, slots := 0, locals := 0 } : Room) (fun ad => [.ref (ad 124), .ref (ad 129), .int x2]) m (s, lm, pm) ((fun r : Int32 => ((.inl (some (.int r)), (m, s, lm, pm)) : g_Res)) (R_L_rigger s x2)) :=
  g_sm_of (by decide) (fun _ => Nat.le_of_ble_eq_true rfl) hs (fun X hl hn O => walk_L_rigger O (by rw [hl]; exact hs) hn p0)
def R_L_why_120 (s : Nat → Int32) (x5 : Int32) (x6 : Int32) (t0_26 : Int32) (t0_100 : Int32) : Int32 := (if ((s (58 + 9 * x5.toNatClampNeg + 6)) + t0_100) ≤ 100 then (if x6 ≤ (s (58 + 9 * x5.toNatClampNeg + 1)) then 0 else (if (R_L_inTime s x5 x6 (s (20 + t0_26.toNatClampNeg))) = 0 then 5 else 0)) else 4)
def R_L_why_100 (s : Nat → Int32) (x5 : Int32) (x6 : Int32) (t0_26 : Int32) (t0_100 : Int32) : Int32 := (if (s (13 + t0_26.toNatClampNeg)) ≤ 0 then (R_L_why_120 s x5 x6 t0_26 t0_100 ) else (if 0 ≤ (s (27 + t0_26.toNatClampNeg)) then (R_L_why_120 s x5 x6 t0_26 t0_100 ) else 3))
def R_L_why_96 (s : Nat → Int32) (x5 : Int32) (x6 : Int32) (t0_26 : Int32) : Int32 := (R_L_why_100 s x5 x6 t0_26 (s (20 + t0_26.toNatClampNeg)))
def R_L_why_26 (s : Nat → Int32) (x5 : Int32) (x6 : Int32) (t0_26 : Int32) : Int32 := (if (s (58 + 9 * x5.toNatClampNeg + 2)) ≤ 0 then (if x6 < 0 then 2 else (if (s (0)) < x6 then 2 else (if ((x6 - (s (58 + 9 * x5.toNatClampNeg + 1))) * (x6 - (s (58 + 9 * x5.toNatClampNeg + 1)))) = 1 then (if (s (58 + 9 * x5.toNatClampNeg + 1)) ≤ x6 then (R_L_why_96 s x5 x6 t0_26 ) else (if (s (13 + t0_26.toNatClampNeg)) ≤ 0 then (R_L_why_96 s x5 x6 t0_26 ) else (R_L_why_100 s x5 x6 t0_26 (2 * (s (20 + t0_26.toNatClampNeg)))))) else 2))) else 1)
def R_L_why (s : Nat → Int32) (x5 : Int32) (x6 : Int32) : Int32 := (if (s (58 + 9 * x5.toNatClampNeg + 1)) ≤ x6 then (R_L_why_26 s x5 x6 (s (58 + 9 * x5.toNatClampNeg + 1))) else (R_L_why_26 s x5 x6 x6))
set_option maxRecDepth 100000 in
set_option maxHeartbeats 4000000 in
theorem walk_L_why {X : g_X} (O : g_ok X cL_why RL (some .int) ({ frames := 2, cells := 0, slots := 0, locals := 48 } : Room)) (hs : (g_xl X).stackTraces = false) (hn : g_xn X = 10) {m : Nat → Int32} {lm : Nat → Int64} {pm : Nat → Nat} {s : Nat → Int32} {x5 : Int32} {x6 : Int32} (p0 : 0 ≤ x5.toInt) (p1 : x5.toInt < 6) (p2 : (s (0)).toInt ≤ 7) (p3 : 0 ≤ (s (58 + 9 * x5.toNatClampNeg + 1)).toInt) (p4 : (s (58 + 9 * x5.toNatClampNeg + 1)).toInt ≤ 7) : g_V X (fun r : Int32 => ((.inl (some (.int r)), (m, s, lm, pm)) : g_Res)) (R_L_why s x5 x6) 0 0 m (s, lm, pm) 0 [(0, .ref (g_ad X 124)), (1, .ref (g_ad X 125)), (2, .ref (g_ad X 126)), (3, .ref (g_ad X 127)), (4, .ref (g_ad X 129)), (5, .int x5), (6, .int x6)] [] := by
  have hN : ∀ i, Nat.blt i 10 = true → i < g_xn X := fun i h => by rw [hn]; exact g_blt.mp h
  refine r_aload O 4 dL_why_0 rfl ?_
  refine r_bipush (x := 9) O dL_why_2 rfl ?_
  refine r_iload O 5 dL_why_4 rfl ?_
  refine r_imul O dL_why_6 ?_
  refine r_iconst (x := 1) O dL_why_7 rfl ?_
  refine r_iadd O dL_why_8 ?_
  have ix_9 : ((9 * x5) + 1).toInt = (((9 : Int) * x5.toInt) + (1 : Int)) := (j_addE (j_mulE rfl rfl (by with_reducible omega) (by with_reducible omega)) rfl (by with_reducible omega) (by with_reducible omega))
  have ja_9_0 := j_nat (x := x5) (by with_reducible omega)
  have iy_9 := j_nat (x := ((9 * x5) + 1)) (by with_reducible omega)
  refine r_ialn (b := 58) (loc := 58 + 9 * x5.toNatClampNeg + 1) O R_129 (show vp_in ((9 * x5) + 1) 54 from g_vin (by with_reducible omega) (by with_reducible omega)) (by with_reducible omega) dL_why_9 ?_
  refine r_istore (lc' := [(7, .int (s (58 + 9 * x5.toNatClampNeg + 1))), (0, .ref (g_ad X 124)), (1, .ref (g_ad X 125)), (2, .ref (g_ad X 126)), (3, .ref (g_ad X 127)), (4, .ref (g_ad X 129)), (5, .int x5), (6, .int x6)]) O dL_why_10 (hN 7 rfl) rfl ?_
  refine r_iload O 7 dL_why_12 rfl ?_
  refine r_iload O 0 dL_why_14 rfl ?_
  have J_26 : ∀ (t0_26 : Int32) (hj0 : t0_26.toInt ≤ x6.toInt) (hj1 : t0_26.toInt ≤ (s (58 + 9 * x5.toNatClampNeg + 1)).toInt) (hj2 : t0_26.toInt = x6.toInt ∨ t0_26.toInt = (s (58 + 9 * x5.toNatClampNeg + 1)).toInt), g_V X (fun r : Int32 => ((.inl (some (.int r)), (m, s, lm, pm)) : g_Res)) (R_L_why_26 s x5 x6 t0_26) 0 0 m (s, lm, pm) 26 [(0, .ref (g_ad X 124)), (1, .ref (g_ad X 125)), (2, .ref (g_ad X 126)), (3, .ref (g_ad X 127)), (4, .ref (g_ad X 129)), (5, .int x5), (6, .int x6), (7, .int (s (58 + 9 * x5.toNatClampNeg + 1)))] [.int t0_26] := by
    intro t0_26 hj0 hj1 hj2
    refine r_istore (lc' := [(8, .int t0_26), (0, .ref (g_ad X 124)), (1, .ref (g_ad X 125)), (2, .ref (g_ad X 126)), (3, .ref (g_ad X 127)), (4, .ref (g_ad X 129)), (5, .int x5), (6, .int x6), (7, .int (s (58 + 9 * x5.toNatClampNeg + 1)))]) O dL_why_26 (hN 8 rfl) rfl ?_
    refine r_aload O 5 dL_why_28 rfl ?_
    refine r_bipush (x := 9) O dL_why_30 rfl ?_
    refine r_iload O 6 dL_why_32 rfl ?_
    refine r_imul O dL_why_34 ?_
    refine r_iconst (x := 2) O dL_why_35 rfl ?_
    refine r_iadd O dL_why_36 ?_
    have ix_37 : ((9 * x5) + 2).toInt = (((9 : Int) * x5.toInt) + (2 : Int)) := (j_addE (j_mulE rfl rfl (by with_reducible omega) (by with_reducible omega)) rfl (by with_reducible omega) (by with_reducible omega))
    have ja_37_0 := j_nat (x := x5) (by with_reducible omega)
    have iy_37 := j_nat (x := ((9 * x5) + 2)) (by with_reducible omega)
    refine r_ialn (b := 58) (loc := 58 + 9 * x5.toNatClampNeg + 2) O R_129 (show vp_in ((9 * x5) + 2) 54 from g_vin (by with_reducible omega) (by with_reducible omega)) (by with_reducible omega) dL_why_37 ?_
    refine r_if_le O 43 dL_why_38 (by decide) (fun c_38 => ?_) (fun c_38 => ?_)
    · have e_38 : (s (58 + 9 * x5.toNatClampNeg + 2)).toInt ≤ (0 : Int) := j_leR c_38 rfl
      refine r_iload O 7 dL_why_43 rfl ?_
      refine r_if_lt O 71 dL_why_45 (by decide) (fun c_45 => ?_) (fun c_45 => ?_)
      · have e_45 : (x6).toInt < (0 : Int) := j_ltR c_45 rfl
        refine r_iconst (x := 2) O dL_why_71 rfl ?_
        exact r_iret O dL_why_72 rfl (Nat.le_of_ble_eq_true rfl) (Nat.le_of_ble_eq_true rfl) rfl
      · have e_45 : (0 : Int) ≤ (x6).toInt := j_nltR c_45 rfl
        refine r_iload O 7 dL_why_48 rfl ?_
        refine r_aload_n O 1 dL_why_50 rfl rfl ?_
        refine r_iconst (x := 0) O dL_why_51 rfl ?_
        refine r_ialn (b := 0) (loc := 0) O R_124 (g_vin (by decide) (by decide)) rfl dL_why_52 ?_
        refine r_icmp_gt O 71 dL_why_53 (by decide) (fun c_53 => ?_) (fun c_53 => ?_)
        · have e_53 : (s (0)).toInt < (x6).toInt := j_lt c_53
          refine r_iconst (x := 2) O dL_why_71 rfl ?_
          exact r_iret O dL_why_72 rfl (Nat.le_of_ble_eq_true rfl) (Nat.le_of_ble_eq_true rfl) rfl
        · have e_53 : (x6).toInt ≤ (s (0)).toInt := j_nlt c_53
          refine r_iload O 7 dL_why_56 rfl ?_
          refine r_iload O 8 dL_why_58 rfl ?_
          refine r_isub O dL_why_60 ?_
          refine r_iload O 7 dL_why_61 rfl ?_
          refine r_iload O 8 dL_why_63 rfl ?_
          refine r_isub O dL_why_65 ?_
          refine r_imul O dL_why_66 ?_
          refine r_iconst (x := 1) O dL_why_67 rfl ?_
          refine r_icmp_eq O 73 dL_why_68 (by decide) (fun c_68 => ?_) (fun c_68 => ?_)
          · have e_68 : ((x6 - (s (58 + 9 * x5.toNatClampNeg + 1))) * (x6 - (s (58 + 9 * x5.toNatClampNeg + 1)))).toInt = (1 : Int) := j_eqR c_68 rfl
            have z_68 := sq1 (by with_reducible omega) (by with_reducible omega) (by with_reducible omega) (by with_reducible omega) e_68
            refine r_iload O 7 dL_why_73 rfl ?_
            refine r_iload O 8 dL_why_75 rfl ?_
            have J_100 : ∀ (t0_100 : Int32), g_V X (fun r : Int32 => ((.inl (some (.int r)), (m, s, lm, pm)) : g_Res)) (R_L_why_100 s x5 x6 t0_26 t0_100) 0 0 m (s, lm, pm) 100 [(1, .ref (g_ad X 125)), (2, .ref (g_ad X 126)), (3, .ref (g_ad X 127)), (4, .ref (g_ad X 129)), (5, .int x5), (6, .int x6), (7, .int (s (58 + 9 * x5.toNatClampNeg + 1))), (8, .int t0_26)] [.int t0_100] := by
              intro t0_100
              refine r_istore (lc' := [(9, .int t0_100), (1, .ref (g_ad X 125)), (2, .ref (g_ad X 126)), (3, .ref (g_ad X 127)), (4, .ref (g_ad X 129)), (5, .int x5), (6, .int x6), (7, .int (s (58 + 9 * x5.toNatClampNeg + 1))), (8, .int t0_26)]) O dL_why_100 (hN 9 rfl) rfl ?_
              refine r_aload_n O 1 dL_why_102 rfl rfl ?_
              refine r_iload O 8 dL_why_103 rfl ?_
              have ja_105_0 := j_nat (x := t0_26) (by with_reducible omega)
              refine r_ialn (b := 13) (loc := 13 + t0_26.toNatClampNeg) O R_125 (show vp_in t0_26 7 from g_vin (by with_reducible omega) (by with_reducible omega)) (by with_reducible omega) dL_why_105 ?_
              have J_120 : g_V X (fun r : Int32 => ((.inl (some (.int r)), (m, s, lm, pm)) : g_Res)) (R_L_why_120 s x5 x6 t0_26 t0_100 ) 0 0 m (s, lm, pm) 120 [(2, .ref (g_ad X 126)), (4, .ref (g_ad X 129)), (5, .int x5), (6, .int x6), (7, .int (s (58 + 9 * x5.toNatClampNeg + 1))), (8, .int t0_26), (9, .int t0_100)] [] := by
                refine r_aload O 1 dL_why_120 rfl ?_
                refine r_bipush (x := 9) O dL_why_122 rfl ?_
                refine r_iload O 2 dL_why_124 rfl ?_
                refine r_imul O dL_why_126 ?_
                refine r_bipush (x := 6) O dL_why_127 rfl ?_
                refine r_iadd O dL_why_129 ?_
                have ix_130 : ((9 * x5) + 6).toInt = (((9 : Int) * x5.toInt) + (6 : Int)) := (j_addE (j_mulE rfl rfl (by with_reducible omega) (by with_reducible omega)) rfl (by with_reducible omega) (by with_reducible omega))
                have ja_130_0 := j_nat (x := x5) (by with_reducible omega)
                have iy_130 := j_nat (x := ((9 * x5) + 6)) (by with_reducible omega)
                refine r_ialn (b := 58) (loc := 58 + 9 * x5.toNatClampNeg + 6) O R_129 (show vp_in ((9 * x5) + 6) 54 from g_vin (by with_reducible omega) (by with_reducible omega)) (by with_reducible omega) dL_why_130 ?_
                refine r_iload O 6 dL_why_131 rfl ?_
                refine r_iadd O dL_why_133 ?_
                refine r_bipush (x := 100) O dL_why_134 rfl ?_
                refine r_icmp_le O 143 dL_why_136 (by decide) (fun c_136 => ?_) (fun c_136 => ?_)
                · have e_136 : ((s (58 + 9 * x5.toNatClampNeg + 6)) + t0_100).toInt ≤ (100 : Int) := j_leR c_136 rfl
                  refine r_iload O 3 dL_why_143 rfl ?_
                  refine r_iload O 4 dL_why_145 rfl ?_
                  refine r_icmp_le O 171 dL_why_147 (by decide) (fun c_147 => ?_) (fun c_147 => ?_)
                  · have e_147 : (x6).toInt ≤ (s (58 + 9 * x5.toNatClampNeg + 1)).toInt := j_le c_147
                    refine r_iconst (x := 0) O dL_why_171 rfl ?_
                    exact r_iret O dL_why_172 rfl (Nat.le_of_ble_eq_true rfl) (Nat.le_of_ble_eq_true rfl) rfl
                  · have e_147 : (s (58 + 9 * x5.toNatClampNeg + 1)).toInt < (x6).toInt := j_nle c_147
                    refine r_aload_n O 0 dL_why_150 rfl rfl ?_
                    refine r_aload O 1 dL_why_151 rfl ?_
                    refine r_iload O 2 dL_why_153 rfl ?_
                    refine r_iload O 3 dL_why_155 rfl ?_
                    refine r_aload_n O 0 dL_why_157 rfl rfl ?_
                    refine r_iload O 5 dL_why_158 rfl ?_
                    have ja_160_0 := j_nat (x := t0_26) (by with_reducible omega)
                    refine r_ialn (b := 20) (loc := 20 + t0_26.toNatClampNeg) O R_126 (show vp_in t0_26 7 from g_vin (by with_reducible omega) (by with_reducible omega)) (by with_reducible omega) dL_why_160 ?_
                    refine r_callSi O [.ref (g_ad X 126), .ref (g_ad X 129), .int x5, .int x6, .int (s (20 + t0_26.toNatClampNeg))] [] (met_L_inTime (g_xl X) hs lm pm m s x5 x6 (s (20 + t0_26.toNatClampNeg)) (by first | decide | with_reducible assumption | with_reducible omega | (simp (disch := omega) only [g_upd_ne, g_upd_eq]; first | with_reducible assumption | with_reducible omega | decide) | exact Or.inl rfl | exact Or.inr rfl) (by first | decide | with_reducible assumption | with_reducible omega | (simp (disch := omega) only [g_upd_ne, g_upd_eq]; first | with_reducible assumption | with_reducible omega | decide) | exact Or.inl rfl | exact Or.inr rfl) (by first | decide | with_reducible assumption | with_reducible omega | (simp (disch := omega) only [g_upd_ne, g_upd_eq]; first | with_reducible assumption | with_reducible omega | decide) | exact Or.inl rfl | exact Or.inr rfl) (by first | decide | with_reducible assumption | with_reducible omega | (simp (disch := omega) only [g_upd_ne, g_upd_eq]; first | with_reducible assumption | with_reducible omega | decide) | exact Or.inl rfl | exact Or.inr rfl)) LL_18 rfl rfl rfl dL_why_161 rfl rfl ?_
                    refine r_if_ne O 171 dL_why_164 (by decide) (fun c_164 => ?_) (fun c_164 => ?_)
                    · have e_164 : (R_L_inTime s x5 x6 (s (20 + t0_26.toNatClampNeg))).toInt = (0 : Int) := j_eqR c_164 rfl
                      refine r_iconst (x := 5) O dL_why_167 rfl ?_
                      refine r_goto O 172 dL_why_168 (by decide) ?_
                      exact r_iret O dL_why_172 rfl (Nat.le_of_ble_eq_true rfl) (Nat.le_of_ble_eq_true rfl) rfl
                    · have e_164 : (R_L_inTime s x5 x6 (s (20 + t0_26.toNatClampNeg))).toInt ≠ (0 : Int) := j_neR c_164 rfl
                      refine r_iconst (x := 0) O dL_why_171 rfl ?_
                      exact r_iret O dL_why_172 rfl (Nat.le_of_ble_eq_true rfl) (Nat.le_of_ble_eq_true rfl) rfl
                · have e_136 : (100 : Int) < ((s (58 + 9 * x5.toNatClampNeg + 6)) + t0_100).toInt := j_nleR c_136 rfl
                  refine r_iconst (x := 4) O dL_why_139 rfl ?_
                  refine r_goto O 172 dL_why_140 (by decide) ?_
                  exact r_iret O dL_why_172 rfl (Nat.le_of_ble_eq_true rfl) (Nat.le_of_ble_eq_true rfl) rfl
              refine r_if_le O 120 dL_why_106 (by decide) (fun c_106 => ?_) (fun c_106 => ?_)
              · have e_106 : (s (13 + t0_26.toNatClampNeg)).toInt ≤ (0 : Int) := j_leR c_106 rfl
                refine r_sub [2, 4, 5, 6, 7, 8, 0] rfl ?_
                exact J_120
              · have e_106 : (0 : Int) < (s (13 + t0_26.toNatClampNeg)).toInt := j_nleR c_106 rfl
                refine r_aload_n O 3 dL_why_109 rfl rfl ?_
                refine r_iload O 8 dL_why_110 rfl ?_
                have ja_112_0 := j_nat (x := t0_26) (by with_reducible omega)
                refine r_ialn (b := 27) (loc := 27 + t0_26.toNatClampNeg) O R_127 (show vp_in t0_26 7 from g_vin (by with_reducible omega) (by with_reducible omega)) (by with_reducible omega) dL_why_112 ?_
                refine r_if_ge O 120 dL_why_113 (by decide) (fun c_113 => ?_) (fun c_113 => ?_)
                · have e_113 : (0 : Int) ≤ (s (27 + t0_26.toNatClampNeg)).toInt := j_leL c_113 rfl
                  refine r_sub [2, 4, 5, 6, 7, 8, 0] rfl ?_
                  exact J_120
                · have e_113 : (s (27 + t0_26.toNatClampNeg)).toInt < (0 : Int) := j_nleL c_113 rfl
                  refine r_iconst (x := 3) O dL_why_116 rfl ?_
                  refine r_goto O 172 dL_why_117 (by decide) ?_
                  exact r_iret O dL_why_172 rfl (Nat.le_of_ble_eq_true rfl) (Nat.le_of_ble_eq_true rfl) rfl
            have J_96 : g_V X (fun r : Int32 => ((.inl (some (.int r)), (m, s, lm, pm)) : g_Res)) (R_L_why_96 s x5 x6 t0_26 ) 0 0 m (s, lm, pm) 96 [(1, .ref (g_ad X 125)), (2, .ref (g_ad X 126)), (3, .ref (g_ad X 127)), (4, .ref (g_ad X 129)), (5, .int x5), (6, .int x6), (7, .int (s (58 + 9 * x5.toNatClampNeg + 1))), (8, .int t0_26)] [] := by
              refine r_aload_n O 1 dL_why_96 rfl rfl ?_
              refine r_iload O 7 dL_why_97 rfl ?_
              have ja_99_0 := j_nat (x := t0_26) (by with_reducible omega)
              refine r_ialn (b := 20) (loc := 20 + t0_26.toNatClampNeg) O R_126 (show vp_in t0_26 7 from g_vin (by with_reducible omega) (by with_reducible omega)) (by with_reducible omega) dL_why_99 ?_
              exact J_100 (s (20 + t0_26.toNatClampNeg))
            refine r_icmp_ge O 96 dL_why_77 (by decide) (fun c_77 => ?_) (fun c_77 => ?_)
            · have e_77 : (s (58 + 9 * x5.toNatClampNeg + 1)).toInt ≤ (x6).toInt := j_le c_77
              refine r_sub [2, 3, 4, 5, 6, 7, 8, 0] rfl ?_
              exact J_96
            · have e_77 : (x6).toInt < (s (58 + 9 * x5.toNatClampNeg + 1)).toInt := j_nle c_77
              refine r_aload_n O 2 dL_why_80 rfl rfl ?_
              refine r_iload O 0 dL_why_81 rfl ?_
              have ja_83_0 := j_nat (x := t0_26) (by with_reducible omega)
              refine r_ialn (b := 13) (loc := 13 + t0_26.toNatClampNeg) O R_125 (show vp_in t0_26 7 from g_vin (by with_reducible omega) (by with_reducible omega)) (by with_reducible omega) dL_why_83 ?_
              refine r_if_le O 96 dL_why_84 (by decide) (fun c_84 => ?_) (fun c_84 => ?_)
              · have e_84 : (s (13 + t0_26.toNatClampNeg)).toInt ≤ (0 : Int) := j_leR c_84 rfl
                refine r_sub [2, 3, 4, 5, 6, 7, 8, 0] rfl ?_
                exact J_96
              · have e_84 : (0 : Int) < (s (13 + t0_26.toNatClampNeg)).toInt := j_nleR c_84 rfl
                refine r_iconst (x := 2) O dL_why_87 rfl ?_
                refine r_aload_n O 3 dL_why_88 rfl rfl ?_
                refine r_iload O 0 dL_why_89 rfl ?_
                have ja_91_0 := j_nat (x := t0_26) (by with_reducible omega)
                refine r_ialn (b := 20) (loc := 20 + t0_26.toNatClampNeg) O R_126 (show vp_in t0_26 7 from g_vin (by with_reducible omega) (by with_reducible omega)) (by with_reducible omega) dL_why_91 ?_
                refine r_imul O dL_why_92 ?_
                refine r_goto O 100 dL_why_93 (by decide) ?_
                refine r_sub [2, 3, 4, 5, 6, 7, 8, 0] rfl ?_
                exact J_100 (2 * (s (20 + t0_26.toNatClampNeg)))
          · have e_68 : ((x6 - (s (58 + 9 * x5.toNatClampNeg + 1))) * (x6 - (s (58 + 9 * x5.toNatClampNeg + 1)))).toInt ≠ (1 : Int) := j_neR c_68 rfl
            refine r_iconst (x := 2) O dL_why_71 rfl ?_
            exact r_iret O dL_why_72 rfl (Nat.le_of_ble_eq_true rfl) (Nat.le_of_ble_eq_true rfl) rfl
    · have e_38 : (0 : Int) < (s (58 + 9 * x5.toNatClampNeg + 2)).toInt := j_nleR c_38 rfl
      refine r_iconst (x := 1) O dL_why_41 rfl ?_
      exact r_iret O dL_why_42 rfl (Nat.le_of_ble_eq_true rfl) (Nat.le_of_ble_eq_true rfl) rfl
  refine r_icmp_ge O 24 dL_why_16 (by decide) (fun c_16 => ?_) (fun c_16 => ?_)
  · have e_16 : (s (58 + 9 * x5.toNatClampNeg + 1)).toInt ≤ (x6).toInt := j_le c_16
    refine r_iload O 0 dL_why_24 rfl ?_
    refine r_sub [1, 2, 3, 4, 5, 6, 7, 0] rfl ?_
    exact J_26 (s (58 + 9 * x5.toNatClampNeg + 1)) (by first | decide | with_reducible assumption | with_reducible omega | (simp (disch := omega) only [g_upd_ne, g_upd_eq]; first | with_reducible assumption | with_reducible omega | decide) | exact Or.inl rfl | exact Or.inr rfl) (by first | decide | with_reducible assumption | with_reducible omega | (simp (disch := omega) only [g_upd_ne, g_upd_eq]; first | with_reducible assumption | with_reducible omega | decide) | exact Or.inl rfl | exact Or.inr rfl) (by first | decide | with_reducible assumption | with_reducible omega | (simp (disch := omega) only [g_upd_ne, g_upd_eq]; first | with_reducible assumption | with_reducible omega | decide) | exact Or.inl rfl | exact Or.inr rfl)
  · have e_16 : (x6).toInt < (s (58 + 9 * x5.toNatClampNeg + 1)).toInt := j_nle c_16
    refine r_iload O 7 dL_why_19 rfl ?_
    refine r_goto O 26 dL_why_21 (by decide) ?_
    refine r_sub [1, 2, 3, 4, 5, 6, 7, 0] rfl ?_
    exact J_26 x6 (by first | decide | with_reducible assumption | with_reducible omega | (simp (disch := omega) only [g_upd_ne, g_upd_eq]; first | with_reducible assumption | with_reducible omega | decide) | exact Or.inl rfl | exact Or.inr rfl) (by first | decide | with_reducible assumption | with_reducible omega | (simp (disch := omega) only [g_upd_ne, g_upd_eq]; first | with_reducible assumption | with_reducible omega | decide) | exact Or.inl rfl | exact Or.inr rfl) (by first | decide | with_reducible assumption | with_reducible omega | (simp (disch := omega) only [g_upd_ne, g_upd_eq]; first | with_reducible assumption | with_reducible omega | decide) | exact Or.inl rfl | exact Or.inr rfl)
theorem met_L_why (l : Launch) (hs : l.stackTraces = false) (lm : Nat → Int64) (pm : Nat → Nat) (m : Nat → Int32) (s : Nat → Int32) (x5 : Int32) (x6 : Int32) (p0 : 0 ≤ x5.toInt) (p1 : x5.toInt < 6) (p2 : (s (0)).toInt ≤ 7) (p3 : 0 ≤ (s (58 + 9 * x5.toNatClampNeg + 1)).toInt) (p4 : (s (58 + 9 * x5.toNatClampNeg + 1)).toInt ≤ 7) : g_SM l yL_why cL_why 10 (some .int) ({ frames := 2, cells := 0, slots := 0, locals := 48 } : Room) (fun ad => [.ref (ad 124), .ref (ad 125), .ref (ad 126), .ref (ad 127), .ref (ad 129), .int x5, .int x6]) m (s, lm, pm) ((fun r : Int32 => ((.inl (some (.int r)), (m, s, lm, pm)) : g_Res)) (R_L_why s x5 x6)) :=
  g_sm_of (by decide) (fun _ => Nat.le_of_ble_eq_true rfl) hs (fun X hl hn O => walk_L_why O (by rw [hl]; exact hs) hn p0 p1 p2 p3 p4)
def R_L_could_37 (s : Nat → Int32) (x5 : Int32) : Int32 := (if (s (58 + 9 * x5.toNatClampNeg + 2)) = 0 then (if (s (58 + 9 * x5.toNatClampNeg + 1)) = (s (4)) then (if 100 < ((s (58 + 9 * x5.toNatClampNeg + 6)) + (6 * (s (20 + ((s (4)).toNatClampNeg - 1))))) then 0 else (if (R_L_inTime s x5 ((s (4)) - 1) (3 * (s (20 + ((s (4)).toNatClampNeg - 1))))) = 0 then 0 else 1)) else 0) else 0)
def R_L_could (s : Nat → Int32) (x5 : Int32) : Int32 := (if (s (5)) = 1 then 0 else (if (s (4)) = 0 then 0 else (if (s (13 + ((s (4)).toNatClampNeg - 1))) ≤ 0 then (R_L_could_37 s x5 ) else (if 0 ≤ (s (27 + ((s (4)).toNatClampNeg - 1))) then (R_L_could_37 s x5 ) else 0))))
set_option maxRecDepth 100000 in
set_option maxHeartbeats 4000000 in
theorem walk_L_could {X : g_X} (O : g_ok X cL_could RL (some .boolean) ({ frames := 2, cells := 0, slots := 0, locals := 48 } : Room)) (hs : (g_xl X).stackTraces = false) (hn : g_xn X = 7) {m : Nat → Int32} {lm : Nat → Int64} {pm : Nat → Nat} {s : Nat → Int32} {x5 : Int32} (p0 : 0 ≤ x5.toInt) (p1 : x5.toInt < 6) (p2 : 0 ≤ (s (4)).toInt) (p3 : (s (4)).toInt ≤ 7) : g_V X (fun r : Int32 => ((.inl (some (.int r)), (m, s, lm, pm)) : g_Res)) (R_L_could s x5) 0 0 m (s, lm, pm) 0 [(0, .ref (g_ad X 124)), (1, .ref (g_ad X 125)), (2, .ref (g_ad X 126)), (3, .ref (g_ad X 127)), (4, .ref (g_ad X 129)), (5, .int x5)] [] := by
  have hN : ∀ i, Nat.blt i 7 = true → i < g_xn X := fun i h => by rw [hn]; exact g_blt.mp h
  refine r_aload_n O 0 dL_could_0 rfl rfl ?_
  refine r_iconst (x := 4) O dL_could_1 rfl ?_
  refine r_ialn (b := 0) (loc := 4) O R_124 (g_vin (by decide) (by decide)) rfl dL_could_2 ?_
  refine r_istore (lc' := [(6, .int (s (4))), (0, .ref (g_ad X 124)), (1, .ref (g_ad X 125)), (2, .ref (g_ad X 126)), (3, .ref (g_ad X 127)), (4, .ref (g_ad X 129)), (5, .int x5)]) O dL_could_3 (hN 6 rfl) rfl ?_
  refine r_aload_n O 1 dL_could_5 rfl rfl ?_
  refine r_iconst (x := 5) O dL_could_6 rfl ?_
  refine r_ialn (b := 0) (loc := 5) O R_124 (g_vin (by decide) (by decide)) rfl dL_could_7 ?_
  refine r_iconst (x := 1) O dL_could_8 rfl ?_
  refine r_icmp_eq O 35 dL_could_9 (by decide) (fun c_9 => ?_) (fun c_9 => ?_)
  · have e_9 : (s (5)).toInt = (1 : Int) := j_eqR c_9 rfl
    refine r_iconst (x := 0) O dL_could_35 rfl ?_
    exact r_iret O dL_could_36 rfl (Nat.le_of_ble_eq_true rfl) (Nat.le_of_ble_eq_true rfl) rfl
  · have e_9 : (s (5)).toInt ≠ (1 : Int) := j_neR c_9 rfl
    refine r_iload O 0 dL_could_12 rfl ?_
    refine r_if_eq O 35 dL_could_14 (by decide) (fun c_14 => ?_) (fun c_14 => ?_)
    · have e_14 : (s (4)).toInt = (0 : Int) := j_eqR c_14 rfl
      refine r_iconst (x := 0) O dL_could_35 rfl ?_
      exact r_iret O dL_could_36 rfl (Nat.le_of_ble_eq_true rfl) (Nat.le_of_ble_eq_true rfl) rfl
    · have e_14 : (s (4)).toInt ≠ (0 : Int) := j_neR c_14 rfl
      refine r_aload_n O 2 dL_could_17 rfl rfl ?_
      refine r_iload O 0 dL_could_18 rfl ?_
      refine r_iconst (x := 1) O dL_could_20 rfl ?_
      refine r_isub O dL_could_21 ?_
      have ix_22 : ((s (4)) - 1).toInt = ((s (4)).toInt - (1 : Int)) := (j_subE rfl rfl (by with_reducible omega) (by with_reducible omega))
      have ja_22_0 := j_nat (x := (s (4))) (by with_reducible omega)
      have iy_22 := j_nat (x := ((s (4)) - 1)) (by with_reducible omega)
      refine r_ialn (b := 13) (loc := 13 + ((s (4)).toNatClampNeg - 1)) O R_125 (show vp_in ((s (4)) - 1) 7 from g_vin (by with_reducible omega) (by with_reducible omega)) (by with_reducible omega) dL_could_22 ?_
      have J_37 : g_V X (fun r : Int32 => ((.inl (some (.int r)), (m, s, lm, pm)) : g_Res)) (R_L_could_37 s x5 ) 0 0 m (s, lm, pm) 37 [(2, .ref (g_ad X 126)), (4, .ref (g_ad X 129)), (5, .int x5), (6, .int (s (4)))] [] := by
        refine r_aload O 1 dL_could_37 rfl ?_
        refine r_bipush (x := 9) O dL_could_39 rfl ?_
        refine r_iload O 2 dL_could_41 rfl ?_
        refine r_imul O dL_could_43 ?_
        refine r_iconst (x := 2) O dL_could_44 rfl ?_
        refine r_iadd O dL_could_45 ?_
        have ix_46 : ((9 * x5) + 2).toInt = (((9 : Int) * x5.toInt) + (2 : Int)) := (j_addE (j_mulE rfl rfl (by with_reducible omega) (by with_reducible omega)) rfl (by with_reducible omega) (by with_reducible omega))
        have ja_46_0 := j_nat (x := x5) (by with_reducible omega)
        have iy_46 := j_nat (x := ((9 * x5) + 2)) (by with_reducible omega)
        refine r_ialn (b := 58) (loc := 58 + 9 * x5.toNatClampNeg + 2) O R_129 (show vp_in ((9 * x5) + 2) 54 from g_vin (by with_reducible omega) (by with_reducible omega)) (by with_reducible omega) dL_could_46 ?_
        refine r_if_ne O 118 dL_could_47 (by decide) (fun c_47 => ?_) (fun c_47 => ?_)
        · have e_47 : (s (58 + 9 * x5.toNatClampNeg + 2)).toInt = (0 : Int) := j_eqR c_47 rfl
          refine r_aload O 1 dL_could_50 rfl ?_
          refine r_bipush (x := 9) O dL_could_52 rfl ?_
          refine r_iload O 2 dL_could_54 rfl ?_
          refine r_imul O dL_could_56 ?_
          refine r_iconst (x := 1) O dL_could_57 rfl ?_
          refine r_iadd O dL_could_58 ?_
          have ix_59 : ((9 * x5) + 1).toInt = (((9 : Int) * x5.toInt) + (1 : Int)) := (j_addE (j_mulE rfl rfl (by with_reducible omega) (by with_reducible omega)) rfl (by with_reducible omega) (by with_reducible omega))
          have ja_59_0 := j_nat (x := x5) (by with_reducible omega)
          have iy_59 := j_nat (x := ((9 * x5) + 1)) (by with_reducible omega)
          refine r_ialn (b := 58) (loc := 58 + 9 * x5.toNatClampNeg + 1) O R_129 (show vp_in ((9 * x5) + 1) 54 from g_vin (by with_reducible omega) (by with_reducible omega)) (by with_reducible omega) dL_could_59 ?_
          refine r_iload O 3 dL_could_60 rfl ?_
          refine r_icmp_ne O 118 dL_could_62 (by decide) (fun c_62 => ?_) (fun c_62 => ?_)
          · have e_62 : (s (58 + 9 * x5.toNatClampNeg + 1)).toInt = (s (4)).toInt := j_eq c_62
            refine r_aload O 1 dL_could_65 rfl ?_
            refine r_bipush (x := 9) O dL_could_67 rfl ?_
            refine r_iload O 2 dL_could_69 rfl ?_
            refine r_imul O dL_could_71 ?_
            refine r_bipush (x := 6) O dL_could_72 rfl ?_
            refine r_iadd O dL_could_74 ?_
            have ix_75 : ((9 * x5) + 6).toInt = (((9 : Int) * x5.toInt) + (6 : Int)) := (j_addE (j_mulE rfl rfl (by with_reducible omega) (by with_reducible omega)) rfl (by with_reducible omega) (by with_reducible omega))
            have ja_75_0 := j_nat (x := x5) (by with_reducible omega)
            have iy_75 := j_nat (x := ((9 * x5) + 6)) (by with_reducible omega)
            refine r_ialn (b := 58) (loc := 58 + 9 * x5.toNatClampNeg + 6) O R_129 (show vp_in ((9 * x5) + 6) 54 from g_vin (by with_reducible omega) (by with_reducible omega)) (by with_reducible omega) dL_could_75 ?_
            refine r_bipush (x := 6) O dL_could_76 rfl ?_
            refine r_aload_n O 0 dL_could_78 rfl rfl ?_
            refine r_iload O 3 dL_could_79 rfl ?_
            refine r_iconst (x := 1) O dL_could_81 rfl ?_
            refine r_isub O dL_could_82 ?_
            have ix_83 : ((s (4)) - 1).toInt = ((s (4)).toInt - (1 : Int)) := (j_subE rfl rfl (by with_reducible omega) (by with_reducible omega))
            have ja_83_0 := j_nat (x := (s (4))) (by with_reducible omega)
            have iy_83 := j_nat (x := ((s (4)) - 1)) (by with_reducible omega)
            refine r_ialn (b := 20) (loc := 20 + ((s (4)).toNatClampNeg - 1)) O R_126 (show vp_in ((s (4)) - 1) 7 from g_vin (by with_reducible omega) (by with_reducible omega)) (by with_reducible omega) dL_could_83 ?_
            refine r_imul O dL_could_84 ?_
            refine r_iadd O dL_could_85 ?_
            refine r_bipush (x := 100) O dL_could_86 rfl ?_
            refine r_icmp_gt O 118 dL_could_88 (by decide) (fun c_88 => ?_) (fun c_88 => ?_)
            · have e_88 : (100 : Int) < ((s (58 + 9 * x5.toNatClampNeg + 6)) + (6 * (s (20 + ((s (4)).toNatClampNeg - 1))))).toInt := j_ltL c_88 rfl
              refine r_iconst (x := 0) O dL_could_118 rfl ?_
              exact r_iret O dL_could_119 rfl (Nat.le_of_ble_eq_true rfl) (Nat.le_of_ble_eq_true rfl) rfl
            · have e_88 : ((s (58 + 9 * x5.toNatClampNeg + 6)) + (6 * (s (20 + ((s (4)).toNatClampNeg - 1))))).toInt ≤ (100 : Int) := j_nltL c_88 rfl
              refine r_aload_n O 0 dL_could_91 rfl rfl ?_
              refine r_aload O 1 dL_could_92 rfl ?_
              refine r_iload O 2 dL_could_94 rfl ?_
              refine r_iload O 3 dL_could_96 rfl ?_
              refine r_iconst (x := 1) O dL_could_98 rfl ?_
              refine r_isub O dL_could_99 ?_
              refine r_iconst (x := 3) O dL_could_100 rfl ?_
              refine r_aload_n O 0 dL_could_101 rfl rfl ?_
              refine r_iload O 3 dL_could_102 rfl ?_
              refine r_iconst (x := 1) O dL_could_104 rfl ?_
              refine r_isub O dL_could_105 ?_
              have ix_106 : ((s (4)) - 1).toInt = ((s (4)).toInt - (1 : Int)) := (j_subE rfl rfl (by with_reducible omega) (by with_reducible omega))
              have ja_106_0 := j_nat (x := (s (4))) (by with_reducible omega)
              have iy_106 := j_nat (x := ((s (4)) - 1)) (by with_reducible omega)
              refine r_ialn (b := 20) (loc := 20 + ((s (4)).toNatClampNeg - 1)) O R_126 (show vp_in ((s (4)) - 1) 7 from g_vin (by with_reducible omega) (by with_reducible omega)) (by with_reducible omega) dL_could_106 ?_
              refine r_imul O dL_could_107 ?_
              have ix_108x3 : ((s (4)) - 1).toInt = ((s (4)).toInt - (1 : Int)) := (j_subE rfl rfl (by with_reducible omega) (by with_reducible omega))
              refine r_callSi O [.ref (g_ad X 126), .ref (g_ad X 129), .int x5, .int ((s (4)) - 1), .int (3 * (s (20 + ((s (4)).toNatClampNeg - 1))))] [] (met_L_inTime (g_xl X) hs lm pm m s x5 ((s (4)) - 1) (3 * (s (20 + ((s (4)).toNatClampNeg - 1)))) (by first | decide | with_reducible assumption | with_reducible omega | (simp (disch := omega) only [g_upd_ne, g_upd_eq]; first | with_reducible assumption | with_reducible omega | decide) | exact Or.inl rfl | exact Or.inr rfl) (by first | decide | with_reducible assumption | with_reducible omega | (simp (disch := omega) only [g_upd_ne, g_upd_eq]; first | with_reducible assumption | with_reducible omega | decide) | exact Or.inl rfl | exact Or.inr rfl) (by first | decide | with_reducible assumption | with_reducible omega | (simp (disch := omega) only [g_upd_ne, g_upd_eq]; first | with_reducible assumption | with_reducible omega | decide) | exact Or.inl rfl | exact Or.inr rfl) (by first | decide | with_reducible assumption | with_reducible omega | (simp (disch := omega) only [g_upd_ne, g_upd_eq]; first | with_reducible assumption | with_reducible omega | decide) | exact Or.inl rfl | exact Or.inr rfl)) LL_18 rfl rfl rfl dL_could_108 rfl rfl ?_
              refine r_if_eq O 118 dL_could_111 (by decide) (fun c_111 => ?_) (fun c_111 => ?_)
              · have e_111 : (R_L_inTime s x5 ((s (4)) - 1) (3 * (s (20 + ((s (4)).toNatClampNeg - 1))))).toInt = (0 : Int) := j_eqR c_111 rfl
                refine r_iconst (x := 0) O dL_could_118 rfl ?_
                exact r_iret O dL_could_119 rfl (Nat.le_of_ble_eq_true rfl) (Nat.le_of_ble_eq_true rfl) rfl
              · have e_111 : (R_L_inTime s x5 ((s (4)) - 1) (3 * (s (20 + ((s (4)).toNatClampNeg - 1))))).toInt ≠ (0 : Int) := j_neR c_111 rfl
                refine r_iconst (x := 1) O dL_could_114 rfl ?_
                refine r_goto O 119 dL_could_115 (by decide) ?_
                exact r_iret O dL_could_119 rfl (Nat.le_of_ble_eq_true rfl) (Nat.le_of_ble_eq_true rfl) rfl
          · have e_62 : (s (58 + 9 * x5.toNatClampNeg + 1)).toInt ≠ (s (4)).toInt := j_ne c_62
            refine r_iconst (x := 0) O dL_could_118 rfl ?_
            exact r_iret O dL_could_119 rfl (Nat.le_of_ble_eq_true rfl) (Nat.le_of_ble_eq_true rfl) rfl
        · have e_47 : (s (58 + 9 * x5.toNatClampNeg + 2)).toInt ≠ (0 : Int) := j_neR c_47 rfl
          refine r_iconst (x := 0) O dL_could_118 rfl ?_
          exact r_iret O dL_could_119 rfl (Nat.le_of_ble_eq_true rfl) (Nat.le_of_ble_eq_true rfl) rfl
      refine r_if_le O 37 dL_could_23 (by decide) (fun c_23 => ?_) (fun c_23 => ?_)
      · have e_23 : (s (13 + ((s (4)).toNatClampNeg - 1))).toInt ≤ (0 : Int) := j_leR c_23 rfl
        refine r_sub [3, 5, 6, 0] rfl ?_
        exact J_37
      · have e_23 : (0 : Int) < (s (13 + ((s (4)).toNatClampNeg - 1))).toInt := j_nleR c_23 rfl
        refine r_aload_n O 4 dL_could_26 rfl rfl ?_
        refine r_iload O 0 dL_could_27 rfl ?_
        refine r_iconst (x := 1) O dL_could_29 rfl ?_
        refine r_isub O dL_could_30 ?_
        have ix_31 : ((s (4)) - 1).toInt = ((s (4)).toInt - (1 : Int)) := (j_subE rfl rfl (by with_reducible omega) (by with_reducible omega))
        have ja_31_0 := j_nat (x := (s (4))) (by with_reducible omega)
        have iy_31 := j_nat (x := ((s (4)) - 1)) (by with_reducible omega)
        refine r_ialn (b := 27) (loc := 27 + ((s (4)).toNatClampNeg - 1)) O R_127 (show vp_in ((s (4)) - 1) 7 from g_vin (by with_reducible omega) (by with_reducible omega)) (by with_reducible omega) dL_could_31 ?_
        refine r_if_ge O 37 dL_could_32 (by decide) (fun c_32 => ?_) (fun c_32 => ?_)
        · have e_32 : (0 : Int) ≤ (s (27 + ((s (4)).toNatClampNeg - 1))).toInt := j_leL c_32 rfl
          refine r_sub [3, 5, 6, 0] rfl ?_
          exact J_37
        · have e_32 : (s (27 + ((s (4)).toNatClampNeg - 1))).toInt < (0 : Int) := j_nleL c_32 rfl
          refine r_iconst (x := 0) O dL_could_35 rfl ?_
          exact r_iret O dL_could_36 rfl (Nat.le_of_ble_eq_true rfl) (Nat.le_of_ble_eq_true rfl) rfl
theorem met_L_could (l : Launch) (hs : l.stackTraces = false) (lm : Nat → Int64) (pm : Nat → Nat) (m : Nat → Int32) (s : Nat → Int32) (x5 : Int32) (p0 : 0 ≤ x5.toInt) (p1 : x5.toInt < 6) (p2 : 0 ≤ (s (4)).toInt) (p3 : (s (4)).toInt ≤ 7) : g_SM l yL_could cL_could 7 (some .boolean) ({ frames := 2, cells := 0, slots := 0, locals := 48 } : Room) (fun ad => [.ref (ad 124), .ref (ad 125), .ref (ad 126), .ref (ad 127), .ref (ad 129), .int x5]) m (s, lm, pm) ((fun r : Int32 => ((.inl (some (.int r)), (m, s, lm, pm)) : g_Res)) (R_L_could s x5)) :=
  g_sm_of (by decide) (fun _ => Nat.le_of_ble_eq_true rfl) hs (fun X hl hn O => walk_L_could O (by rw [hl]; exact hs) hn p0 p1 p2 p3)
def R_L_sets_45 (s : Nat → Int32) (x2 : Int32) (x3 : Int32) (t0_45 : Int32) : (Nat → Int32) := (upd (upd (upd (upd s (58 + 9 * x2.toNatClampNeg + 2) 1) (58 + 9 * x2.toNatClampNeg + 3) x3) (58 + 9 * x2.toNatClampNeg + 4) (s (20 + t0_45.toNatClampNeg))) (58 + 9 * x2.toNatClampNeg + 8) 0)
def R_L_sets (s : Nat → Int32) (x2 : Int32) (x3 : Int32) : (Nat → Int32) := (if (s (58 + 9 * x2.toNatClampNeg + 1)) ≤ x3 then (R_L_sets_45 s x2 x3 (x3 - 1)) else (R_L_sets_45 s x2 x3 x3))
set_option maxRecDepth 100000 in
set_option maxHeartbeats 4000000 in
theorem walk_L_sets {X : g_X} (O : g_ok X cL_sets RL none ({ frames := 0, cells := 0, slots := 0, locals := 0 } : Room)) (hs : (g_xl X).stackTraces = false) (hn : g_xn X = 4) {m : Nat → Int32} {lm : Nat → Int64} {pm : Nat → Nat} {s : Nat → Int32} {x2 : Int32} {x3 : Int32} (p0 : 0 ≤ x2.toInt) (p1 : x2.toInt < 6) (p2 : 0 ≤ x3.toInt) (p3 : x3.toInt ≤ 7) (p4 : 0 ≤ (s (58 + 9 * x2.toNatClampNeg + 1)).toInt) (p5 : (s (58 + 9 * x2.toNatClampNeg + 1)).toInt ≤ 7) (p6 : x3.toInt ≠ (s (58 + 9 * x2.toNatClampNeg + 1)).toInt) : g_V X (fun r : Nat → Int32 => ((.inl none, (m, r, lm, pm)) : g_Res)) (R_L_sets s x2 x3) 0 0 m (s, lm, pm) 0 [(0, .ref (g_ad X 126)), (1, .ref (g_ad X 129)), (2, .int x2), (3, .int x3)] [] := by
  have hN : ∀ i, Nat.blt i 4 = true → i < g_xn X := fun i h => by rw [hn]; exact g_blt.mp h
  refine r_aload_n O 1 dL_sets_0 rfl rfl ?_
  refine r_bipush (x := 9) O dL_sets_1 rfl ?_
  refine r_iload_n O 2 dL_sets_3 rfl rfl ?_
  refine r_imul O dL_sets_4 ?_
  refine r_iconst (x := 2) O dL_sets_5 rfl ?_
  refine r_iadd O dL_sets_6 ?_
  refine r_iconst (x := 1) O dL_sets_7 rfl ?_
  have ix_8 : ((9 * x2) + 2).toInt = (((9 : Int) * x2.toInt) + (2 : Int)) := (j_addE (j_mulE rfl rfl (by with_reducible omega) (by with_reducible omega)) rfl (by with_reducible omega) (by with_reducible omega))
  have ja_8_0 := j_nat (x := x2) (by with_reducible omega)
  have iy_8 := j_nat (x := ((9 * x2) + 2)) (by with_reducible omega)
  refine r_iasn (b := 58) (loc := 58 + 9 * x2.toNatClampNeg + 2) O T_129 (show vp_in ((9 * x2) + 2) 54 from g_vin (by with_reducible omega) (by with_reducible omega)) (by with_reducible omega) dL_sets_8 ?_
  refine r_aload_n O 1 dL_sets_9 rfl rfl ?_
  refine r_bipush (x := 9) O dL_sets_10 rfl ?_
  refine r_iload_n O 2 dL_sets_12 rfl rfl ?_
  refine r_imul O dL_sets_13 ?_
  refine r_iconst (x := 3) O dL_sets_14 rfl ?_
  refine r_iadd O dL_sets_15 ?_
  refine r_iload_n O 3 dL_sets_16 rfl rfl ?_
  have ix_17 : ((9 * x2) + 3).toInt = (((9 : Int) * x2.toInt) + (3 : Int)) := (j_addE (j_mulE rfl rfl (by with_reducible omega) (by with_reducible omega)) rfl (by with_reducible omega) (by with_reducible omega))
  have ja_17_0 := j_nat (x := x2) (by with_reducible omega)
  have iy_17 := j_nat (x := ((9 * x2) + 3)) (by with_reducible omega)
  refine r_iasn (b := 58) (loc := 58 + 9 * x2.toNatClampNeg + 3) O T_129 (show vp_in ((9 * x2) + 3) 54 from g_vin (by with_reducible omega) (by with_reducible omega)) (by with_reducible omega) dL_sets_17 ?_
  refine r_aload_n O 1 dL_sets_18 rfl rfl ?_
  refine r_bipush (x := 9) O dL_sets_19 rfl ?_
  refine r_iload_n O 2 dL_sets_21 rfl rfl ?_
  refine r_imul O dL_sets_22 ?_
  refine r_iconst (x := 4) O dL_sets_23 rfl ?_
  refine r_iadd O dL_sets_24 ?_
  refine r_aload_n O 0 dL_sets_25 rfl rfl ?_
  refine r_iload_n O 3 dL_sets_26 rfl rfl ?_
  refine r_aload_n O 1 dL_sets_27 rfl rfl ?_
  refine r_bipush (x := 9) O dL_sets_28 rfl ?_
  refine r_iload_n O 2 dL_sets_30 rfl rfl ?_
  refine r_imul O dL_sets_31 ?_
  refine r_iconst (x := 1) O dL_sets_32 rfl ?_
  refine r_iadd O dL_sets_33 ?_
  have ix_34 : ((9 * x2) + 1).toInt = (((9 : Int) * x2.toInt) + (1 : Int)) := (j_addE (j_mulE rfl rfl (by with_reducible omega) (by with_reducible omega)) rfl (by with_reducible omega) (by with_reducible omega))
  have ja_34_0 := j_nat (x := x2) (by with_reducible omega)
  have iy_34 := j_nat (x := ((9 * x2) + 1)) (by with_reducible omega)
  refine r_ialv (b := 58) (loc := 58 + 9 * x2.toNatClampNeg + 1) (v := (s (58 + 9 * x2.toNatClampNeg + 1))) O R_129 (show vp_in ((9 * x2) + 1) 54 from g_vin (by with_reducible omega) (by with_reducible omega)) (by with_reducible omega) (by rw [g_upd_ne (by with_reducible omega), g_upd_ne (by with_reducible omega)]) dL_sets_34 ?_
  have J_45 : ∀ (t0_45 : Int32) (hj0 : 0 ≤ t0_45.toInt) (hj1 : t0_45.toInt < 7), g_V X (fun r : Nat → Int32 => ((.inl none, (m, r, lm, pm)) : g_Res)) (R_L_sets_45 s x2 x3 t0_45) 0 0 m ((upd (upd s (58 + 9 * x2.toNatClampNeg + 2) 1) (58 + 9 * x2.toNatClampNeg + 3) x3), lm, pm) 45 [(1, .ref (g_ad X 129)), (2, .int x2)] [.int t0_45, .ref (g_ad X 126), .int ((9 * x2) + 4), .ref (g_ad X 129)] := by
    intro t0_45 hj0 hj1
    have ja_45_0 := j_nat (x := t0_45) (by with_reducible omega)
    refine r_ialv (b := 20) (loc := 20 + t0_45.toNatClampNeg) (v := (s (20 + t0_45.toNatClampNeg))) O R_126 (show vp_in t0_45 7 from g_vin (by with_reducible omega) (by with_reducible omega)) (by with_reducible omega) (by rw [g_upd_ne (by with_reducible omega), g_upd_ne (by with_reducible omega)]) dL_sets_45 ?_
    have ix_46 : ((9 * x2) + 4).toInt = (((9 : Int) * x2.toInt) + (4 : Int)) := (j_addE (j_mulE rfl rfl (by with_reducible omega) (by with_reducible omega)) rfl (by with_reducible omega) (by with_reducible omega))
    have ja_46_0 := j_nat (x := x2) (by with_reducible omega)
    have iy_46 := j_nat (x := ((9 * x2) + 4)) (by with_reducible omega)
    refine r_iasn (b := 58) (loc := 58 + 9 * x2.toNatClampNeg + 4) O T_129 (show vp_in ((9 * x2) + 4) 54 from g_vin (by with_reducible omega) (by with_reducible omega)) (by with_reducible omega) dL_sets_46 ?_
    refine r_aload_n O 0 dL_sets_47 rfl rfl ?_
    refine r_bipush (x := 9) O dL_sets_48 rfl ?_
    refine r_iload_n O 1 dL_sets_50 rfl rfl ?_
    refine r_imul O dL_sets_51 ?_
    refine r_bipush (x := 8) O dL_sets_52 rfl ?_
    refine r_iadd O dL_sets_54 ?_
    refine r_iconst (x := 0) O dL_sets_55 rfl ?_
    have ix_56 : ((9 * x2) + 8).toInt = (((9 : Int) * x2.toInt) + (8 : Int)) := (j_addE (j_mulE rfl rfl (by with_reducible omega) (by with_reducible omega)) rfl (by with_reducible omega) (by with_reducible omega))
    have ja_56_0 := j_nat (x := x2) (by with_reducible omega)
    have iy_56 := j_nat (x := ((9 * x2) + 8)) (by with_reducible omega)
    refine r_iasn (b := 58) (loc := 58 + 9 * x2.toNatClampNeg + 8) O T_129 (show vp_in ((9 * x2) + 8) 54 from g_vin (by with_reducible omega) (by with_reducible omega)) (by with_reducible omega) dL_sets_56 ?_
    exact r_vret O dL_sets_57 (Nat.le_of_ble_eq_true rfl) (Nat.le_of_ble_eq_true rfl) rfl
  refine r_icmp_ge O 42 dL_sets_35 (by decide) (fun c_35 => ?_) (fun c_35 => ?_)
  · have e_35 : (s (58 + 9 * x2.toNatClampNeg + 1)).toInt ≤ (x3).toInt := j_le c_35
    refine r_iload_n O 3 dL_sets_42 rfl rfl ?_
    refine r_iconst (x := 1) O dL_sets_43 rfl ?_
    refine r_isub O dL_sets_44 ?_
    refine r_sub [1, 2] rfl ?_
    have ix_45_t0_45 : (x3 - 1).toInt = (x3.toInt - (1 : Int)) := (j_subE rfl rfl (by with_reducible omega) (by with_reducible omega))
    exact J_45 (x3 - 1) (by first | decide | with_reducible assumption | with_reducible omega | (simp (disch := omega) only [g_upd_ne, g_upd_eq]; first | with_reducible assumption | with_reducible omega | decide) | exact Or.inl rfl | exact Or.inr rfl) (by first | decide | with_reducible assumption | with_reducible omega | (simp (disch := omega) only [g_upd_ne, g_upd_eq]; first | with_reducible assumption | with_reducible omega | decide) | exact Or.inl rfl | exact Or.inr rfl)
  · have e_35 : (x3).toInt < (s (58 + 9 * x2.toNatClampNeg + 1)).toInt := j_nle c_35
    refine r_iload_n O 3 dL_sets_38 rfl rfl ?_
    refine r_goto O 45 dL_sets_39 (by decide) ?_
    refine r_sub [1, 2] rfl ?_
    exact J_45 x3 (by first | decide | with_reducible assumption | with_reducible omega | (simp (disch := omega) only [g_upd_ne, g_upd_eq]; first | with_reducible assumption | with_reducible omega | decide) | exact Or.inl rfl | exact Or.inr rfl) (by first | decide | with_reducible assumption | with_reducible omega | (simp (disch := omega) only [g_upd_ne, g_upd_eq]; first | with_reducible assumption | with_reducible omega | decide) | exact Or.inl rfl | exact Or.inr rfl)
theorem met_L_sets (l : Launch) (hs : l.stackTraces = false) (lm : Nat → Int64) (pm : Nat → Nat) (m : Nat → Int32) (s : Nat → Int32) (x2 : Int32) (x3 : Int32) (p0 : 0 ≤ x2.toInt) (p1 : x2.toInt < 6) (p2 : 0 ≤ x3.toInt) (p3 : x3.toInt ≤ 7) (p4 : 0 ≤ (s (58 + 9 * x2.toNatClampNeg + 1)).toInt) (p5 : (s (58 + 9 * x2.toNatClampNeg + 1)).toInt ≤ 7) (p6 : x3.toInt ≠ (s (58 + 9 * x2.toNatClampNeg + 1)).toInt) : g_SM l yL_sets cL_sets 4 none ({ frames := 0, cells := 0, slots := 0, locals := 0 } : Room) (fun ad => [.ref (ad 126), .ref (ad 129), .int x2, .int x3]) m (s, lm, pm) ((fun r : Nat → Int32 => ((.inl none, (m, r, lm, pm)) : g_Res)) (R_L_sets s x2 x3)) :=
  g_sm_of (by decide) (fun _ => Nat.le_of_ble_eq_true rfl) hs (fun X hl hn O => walk_L_sets O (by rw [hl]; exact hs) hn p0 p1 p2 p3 p4 p5 p6)
