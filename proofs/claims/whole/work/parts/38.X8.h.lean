/-! ===== the model: a digit ===== -/
def R_X8_digit_49 (s : Nat → Int32) (x1 : Int32) (t0_27 : Int32) (t0_49 : Int32) : (Int32 × (Nat → Int32)) := (if (R_X8_in s t0_27 0 x1) = 0 then ((-1), (upd s 1304 ((s 1304) + t0_49))) else (t0_27, (upd s 1304 ((s 1304) + t0_49))))
def R_X8_digit_27 (s : Nat → Int32) (x1 : Int32) (t0_27 : Int32) : (Int32 × (Nat → Int32)) := (if (R_X8_in s t0_27 0 x1) = 0 then (R_X8_digit_49 s x1 t0_27 0) else (R_X8_digit_49 s x1 t0_27 1))
def R_X8_digit (s : Nat → Int32) (x1 : Int32) : (Int32 × (Nat → Int32)) := (if (s 1301) ≤ (s 1304) then (R_X8_digit_27 s x1 (-1)) else (R_X8_digit_27 s x1 ((s (1200 + (s 1304).toNatClampNeg)) - 48)))
set_option maxRecDepth 100000 in
set_option maxHeartbeats 4000000 in
theorem walk_X8_digit {X : g_X} (O : g_ok X cX8_digit RX8 (some .int) ({ frames := 1, cells := 0, slots := 0, locals := 22 } : Room)) (hs : (g_xl X).stackTraces = false) (hn : g_xn X = 4) {m : Nat → Int32} {lm : Nat → Int64} {pm : Nat → Nat} {s : Nat → Int32} {x1 : Int32} (p0 : 0 ≤ (s 1304).toInt) (p1 : (s 1304).toInt ≤ (s 1301).toInt) (p2 : (s 1301).toInt ≤ 90) : g_V X (fun r : Int32 × (Nat → Int32) => ((.inl (some (.int r.1)), (m, r.2, lm, pm)) : g_Res)) (R_X8_digit s x1) 0 0 m (s, lm, pm) 0 [(0, .ref (g_ad X 124)), (1, .int x1)] [] := by
  have hN : ∀ i, Nat.blt i 4 = true → i < g_xn X := fun i h => by rw [hn]; exact g_blt.mp h
  refine r_aload_n O 0 dX8_digit_0 rfl rfl ?_
  refine r_get O FX8_186 G_124_8 dX8_digit_1 ?_
  refine r_aload_n O 0 dX8_digit_4 rfl rfl ?_
  refine r_get O FX8_183 G_124_5 dX8_digit_5 ?_
  have J_27 : ∀ (t0_27 : Int32), g_V X (fun r : Int32 × (Nat → Int32) => ((.inl (some (.int r.1)), (m, r.2, lm, pm)) : g_Res)) (R_X8_digit_27 s x1 t0_27) 0 0 m (s, lm, pm) 27 [(0, .ref (g_ad X 124)), (1, .int x1)] [.int t0_27] := by
    intro t0_27
    refine r_istore_n (lc' := [(2, .int t0_27), (0, .ref (g_ad X 124)), (1, .int x1)]) O dX8_digit_27 rfl (hN 2 rfl) rfl ?_
    refine r_iload_n O 0 dX8_digit_28 rfl rfl ?_
    refine r_iconst (x := 0) O dX8_digit_29 rfl ?_
    refine r_iload_n O 2 dX8_digit_30 rfl rfl ?_
    refine r_callSi O [.int t0_27, .int 0, .int x1] [] (met_X8_in (g_xl X) hs lm pm m s t0_27 0 x1 ) LX8_54 rfl rfl rfl dX8_digit_31 rfl rfl ?_
    refine r_istore_n (lc' := [(3, .int (R_X8_in s t0_27 0 x1)), (2, .int t0_27), (0, .ref (g_ad X 124)), (1, .int x1)]) O dX8_digit_34 rfl (hN 3 rfl) rfl ?_
    refine r_aload_n O 2 dX8_digit_35 rfl rfl ?_
    refine r_dup O dX8_digit_36 rfl ?_
    refine r_get O FX8_186 G_124_8 dX8_digit_37 ?_
    refine r_iload_n O 0 dX8_digit_40 rfl rfl ?_
    have J_49 : ∀ (t0_49 : Int32), g_V X (fun r : Int32 × (Nat → Int32) => ((.inl (some (.int r.1)), (m, r.2, lm, pm)) : g_Res)) (R_X8_digit_49 s x1 t0_27 t0_49) 0 0 m (s, lm, pm) 49 [(2, .int t0_27), (3, .int (R_X8_in s t0_27 0 x1))] [.int t0_49, .int (s 1304), .ref (g_ad X 124)] := by
      intro t0_49
      refine r_iadd O dX8_digit_49 ?_
      refine r_put O (FPX8_186 ((s 1304) + t0_49)) (S_124_8 ((s 1304) + t0_49)) dX8_digit_50 ?_
      refine r_iload_n O 1 dX8_digit_53 rfl rfl ?_
      refine r_if_eq O 61 dX8_digit_54 (by decide) (fun c_54 => ?_) (fun c_54 => ?_)
      · have e_54 : (R_X8_in s t0_27 0 x1).toInt = (0 : Int) := j_eqR c_54 rfl
        refine r_iconst (x := (-1)) O dX8_digit_61 rfl ?_
        exact r_iret O dX8_digit_62 rfl (Nat.le_of_ble_eq_true rfl) (Nat.le_of_ble_eq_true rfl) rfl
      · have e_54 : (R_X8_in s t0_27 0 x1).toInt ≠ (0 : Int) := j_neR c_54 rfl
        have z_54a : (0 : Int) ≤ (t0_27).toInt := (nz_X8_in c_54).1
        have z_54b : (t0_27).toInt ≤ (x1).toInt := (nz_X8_in c_54).2
        refine r_iload_n O 0 dX8_digit_57 rfl rfl ?_
        refine r_goto O 62 dX8_digit_58 (by decide) ?_
        exact r_iret O dX8_digit_62 rfl (Nat.le_of_ble_eq_true rfl) (Nat.le_of_ble_eq_true rfl) rfl
    refine r_if_eq O 48 dX8_digit_41 (by decide) (fun c_41 => ?_) (fun c_41 => ?_)
    · have e_41 : (R_X8_in s t0_27 0 x1).toInt = (0 : Int) := j_eqR c_41 rfl
      refine r_iconst (x := 0) O dX8_digit_48 rfl ?_
      refine r_sub [1, 0] rfl ?_
      exact J_49 0
    · have e_41 : (R_X8_in s t0_27 0 x1).toInt ≠ (0 : Int) := j_neR c_41 rfl
      have z_41a : (0 : Int) ≤ (t0_27).toInt := (nz_X8_in c_41).1
      have z_41b : (t0_27).toInt ≤ (x1).toInt := (nz_X8_in c_41).2
      refine r_iconst (x := 1) O dX8_digit_44 rfl ?_
      refine r_goto O 49 dX8_digit_45 (by decide) ?_
      refine r_sub [1, 0] rfl ?_
      exact J_49 1
  refine r_icmp_ge O 26 dX8_digit_8 (by decide) (fun c_8 => ?_) (fun c_8 => ?_)
  · have e_8 : (s 1301).toInt ≤ (s 1304).toInt := j_le c_8
    refine r_iconst (x := (-1)) O dX8_digit_26 rfl ?_
    exact J_27 (-1)
  · have e_8 : (s 1304).toInt < (s 1301).toInt := j_nle c_8
    refine r_aload_n O 0 dX8_digit_11 rfl rfl ?_
    refine r_get O FX8_19 G_124_4 dX8_digit_12 ?_
    refine r_aload_n O 0 dX8_digit_15 rfl rfl ?_
    refine r_get O FX8_186 G_124_8 dX8_digit_16 ?_
    have iy_19 := j_nat (x := (s 1304)) (by with_reducible omega)
    refine r_iald O R_128 (show vp_in (s 1304) 90 from g_vin (by with_reducible omega) (by with_reducible omega)) dX8_digit_19 ?_
    refine r_bipush (x := 48) O dX8_digit_20 rfl ?_
    refine r_isub O dX8_digit_22 ?_
    refine r_goto O 27 dX8_digit_23 (by decide) ?_
    exact J_27 ((s (1200 + (s 1304).toNatClampNeg)) - 48)
theorem met_X8_digit (l : Launch) (hs : l.stackTraces = false) (lm : Nat → Int64) (pm : Nat → Nat) (m : Nat → Int32) (s : Nat → Int32) (x1 : Int32) (p0 : 0 ≤ (s 1304).toInt) (p1 : (s 1304).toInt ≤ (s 1301).toInt) (p2 : (s 1301).toInt ≤ 90) : g_SM l yX8_digit cX8_digit 4 (some .int) ({ frames := 1, cells := 0, slots := 0, locals := 22 } : Room) (fun ad => [.ref (ad 124), .int x1]) m (s, lm, pm) ((fun r : Int32 × (Nat → Int32) => ((.inl (some (.int r.1)), (m, r.2, lm, pm)) : g_Res)) (R_X8_digit s x1)) :=
  g_sm_of (by decide) (fun _ => Nat.le_of_ble_eq_true rfl) hs (fun X hl hn O => walk_X8_digit O (by rw [hl]; exact hs) hn p0 p1 p2)
/-- what a digit's reading does to the place -/
theorem F_digit {s : Nat → Int32} {x : Int32} (h0 : 0 ≤ (s 1304).toInt) (h1 : (s 1304).toInt ≤ (s 1301).toInt) (h2 : (s 1301).toInt ≤ 90) : ((R_X8_digit s x).2 1301).toInt = (s 1301).toInt ∧ (((R_X8_digit s x).1.toInt = -1 ∧ ((R_X8_digit s x).2 1304).toInt = (s 1304).toInt) ∨ (0 ≤ (R_X8_digit s x).1.toInt ∧ (R_X8_digit s x).1.toInt ≤ x.toInt ∧ ((R_X8_digit s x).2 1304).toInt = (s 1304).toInt + 1 ∧ (s 1304).toInt < (s 1301).toInt)) := by
  have ha := j_add1 (x := s 1304) (by omega)
  have hz : (s 1304) + 0 = s 1304 := by simp
  unfold R_X8_digit R_X8_digit_27 R_X8_digit_49
  by_cases c : s 1301 ≤ s 1304
  · rw [if_pos c]
    by_cases d : R_X8_in s (-1) 0 x = 0
    · rw [if_pos d, if_pos d]
      simp (disch := omega) only [g_upd_ne, g_upd_eq, hz]
      exact ⟨trivial, Or.inl ⟨rfl, trivial⟩⟩
    · have := nz_X8_in d
      have e1 : (0 : Int32).toInt = 0 := rfl
      have e2 : (-1 : Int32).toInt = -1 := rfl
      omega
  · have c' := j_nle c
    rw [if_neg c]
    by_cases d : R_X8_in s (s (1200 + (s 1304).toNatClampNeg) - 48) 0 x = 0
    · rw [if_pos d, if_pos d]
      simp (disch := omega) only [g_upd_ne, g_upd_eq, hz]
      exact ⟨trivial, Or.inl ⟨rfl, trivial⟩⟩
    · have hd := nz_X8_in d
      have e1 : (0 : Int32).toInt = 0 := rfl
      rw [if_neg d, if_neg d]
      simp (disch := omega) only [g_upd_ne, g_upd_eq, ha]
      exact ⟨trivial, Or.inr ⟨by rw [← e1]; exact hd.1, hd.2, trivial, c'⟩⟩
