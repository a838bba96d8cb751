/-! ===== the model: orders carried out ===== -/
/-- reading writes nothing below its own fields -/
def g_Ro (s t : Nat → Int32) : Prop := ∀ n, n < 1304 → t n = s n
theorem g_Ro.refl {s : Nat → Int32} : g_Ro s s := fun _ _ => rfl
theorem g_Ro.trans {s t u : Nat → Int32} (a : g_Ro s t) (b : g_Ro t u) : g_Ro s u := fun n h => (b n h).trans (a n h)
theorem g_Ro.upd {s t : Nat → Int32} {n : Nat} {x : Int32} (a : g_Ro s t) (h : 1304 ≤ n) : g_Ro s (upd t n x) := fun k hk => by rw [g_upd_ne (by omega)]; exact a k hk
theorem g_Ro.J {s t : Nat → Int32} (a : g_Ro s t) (h : g_J s) : g_J t := h.congr fun n hn => a n (by omega)
theorem Ro_digit {s t : Nat → Int32} {x : Int32} (a : g_Ro s t) : g_Ro s (R_X8_digit t x).2 := by
  unfold R_X8_digit R_X8_digit_27 R_X8_digit_49
  repeat' split
  all_goals exact a.upd (by omega)
theorem Ro_min17 {u s : Nat → Int32} {u0 : Nat → Int32} : ∀ (f : Nat) (v : Int32) (t : Nat → Int32), g_Ro u0 t → g_Ro u0 u → g_Ro u0 (R_X8_readsMinutes_17 u f v t).2
  | 0, _, t, a, b => b
  | f + 1, v, t, a, b => by
    have e : g_Ro u0 (R_X8_readsMinutes_55 u t).2 := by
      unfold R_X8_readsMinutes_55 R_X8_readsMinutes_96 R_X8_readsMinutes_101 R_X8_readsMinutes_115
      repeat' split
      all_goals exact a.upd (by omega)
    unfold R_X8_readsMinutes_17
    split
    · exact e
    split
    · exact e
    · exact Ro_min17 (s := s) f _ _ (Ro_digit (a.upd (by omega))) b
theorem Ro_minutes {s t : Nat → Int32} (a : g_Ro s t) : g_Ro s (R_X8_readsMinutes t).2 := Ro_min17 (s := s) _ _ _ (Ro_digit (a.upd (by omega))) a
theorem Ro_team13 {u : Nat → Int32} {u0 : Nat → Int32} : ∀ (f : Nat) (v w : Int32) (t : Nat → Int32), g_Ro u0 t → g_Ro u0 u → g_Ro u0 (R_X8_readsTeam_13 u f v w t).2
  | 0, _, _, t, a, b => b
  | f + 1, v, w, t, a, b => by
    unfold R_X8_readsTeam_13 R_X8_readsTeam_56
    split
    · repeat' split
      all_goals exact a.upd (by omega)
    · exact Ro_team13 f _ _ _ (Ro_digit (a.upd (by omega))) b
theorem Ro_team {s t : Nat → Int32} (a : g_Ro s t) : g_Ro s (R_X8_readsTeam t).2 := Ro_team13 _ _ _ _ (Ro_digit (a.upd (by omega))) a
theorem Ro_rest76 {s t : Nat → Int32} (a : g_Ro s t) : g_Ro s (R_X8_readsRest_76 t).2 := by
  have b : g_Ro s (upd (R_X8_digit t 5).2 1306 (R_X8_digit t 5).1) := (Ro_digit a).upd (by omega)
  have c : g_Ro s (upd (R_X8_digit (upd (R_X8_digit t 5).2 1306 (R_X8_digit t 5).1) 7).2 1307 (R_X8_digit (upd (R_X8_digit t 5).2 1306 (R_X8_digit t 5).1) 7).1) := (Ro_digit b).upd (by omega)
  unfold R_X8_readsRest_76 R_X8_readsRest_111
  repeat' split
  all_goals first | exact b | exact c
theorem Ro_rest {s t : Nat → Int32} (a : g_Ro s t) : g_Ro s (R_X8_readsRest t).2 := by
  unfold R_X8_readsRest
  split
  · exact Ro_minutes a
  split
  · exact Ro_team a
  split
  · exact Ro_rest76 a
  split
  · exact Ro_rest76 a
  split
  · exact Ro_rest76 a
  split
  · exact Ro_rest76 a
  · exact a.upd (by omega)
theorem Ro_order {s t : Nat → Int32} (a : g_Ro s t) : g_Ro s (R_X8_readsOrder t).2 := by
  have b := Ro_rest ((a.upd (n := 1305) (x := t (1200 + (t 1304).toNatClampNeg)) (by omega)).upd (n := 1304) (x := (upd t 1305 (t (1200 + (t 1304).toNatClampNeg))) 1304 + 1) (by omega))
  unfold R_X8_readsOrder
  repeat' split
  all_goals first | exact b | exact b.upd (by omega)
theorem Ro_fault5 {u u0 : Nat → Int32} : ∀ (f : Nat) (t : Nat → Int32), g_Ro u0 t → g_Ro u0 u → g_Ro u0 (R_X8_faultAt_5 u f t).2
  | 0, t, a, b => b
  | f + 1, t, a, b => by
    unfold R_X8_faultAt_5
    split
    · exact a
    split
    · exact Ro_order a
    · exact Ro_fault5 f _ (Ro_order a) b
theorem Ro_fault {s : Nat → Int32} : g_Ro s (R_X8_faultAt s).2 := Ro_fault5 _ _ (g_Ro.refl.upd (by omega)) g_Ro.refl
def R_X8_carryOut_82 (v2_32 : Int32) (s_32 : Nat → Int32) : (Int32 × (Nat → Int32)) := ((R_X8_ends s_32 v2_32).1, (R_X8_ends s_32 v2_32).2)
def R_X8_carryOut_77 (K_32 : Int32 → Int32 → (Nat → Int32) → (Int32 × (Nat → Int32))) (v2_32 : Int32) (t0_66 : Int32) (s_66 : Nat → Int32) (t0_77 : Int32) : (Int32 × (Nat → Int32)) := (K_32 (v2_32 + t0_77) t0_66 s_66)
def R_X8_carryOut_66 (K_32 : Int32 → Int32 → (Nat → Int32) → (Int32 × (Nat → Int32))) (v2_32 : Int32) (t0_66 : Int32) (s_66 : Nat → Int32) : (Int32 × (Nat → Int32)) := (if t0_66 = 0 then (R_X8_carryOut_77 K_32 v2_32 t0_66 s_66 0) else (R_X8_carryOut_77 K_32 v2_32 t0_66 s_66 1))
def R_X8_carryOut_65 (K_32 : Int32 → Int32 → (Nat → Int32) → (Int32 × (Nat → Int32))) (v2_32 : Int32) (s_65 : Nat → Int32) : (Int32 × (Nat → Int32)) := (R_X8_carryOut_66 K_32 v2_32 0 s_65)
def R_X8_carryOut_32 (s : Nat → Int32) : Nat → Int32 → Int32 → (Nat → Int32) → (Int32 × (Nat → Int32))
  | 0, _, _, _ => (0, s)
  | f + 1, v2_32, v3_32, s_32 => (if v3_32 = 0 then (R_X8_carryOut_82 v2_32 s_32 ) else (if (s_32 1301) ≤ (s_32 1304) then (R_X8_carryOut_82 v2_32 s_32 ) else (if (R_X8_readsOrder s_32).1 = 0 then (R_X8_carryOut_65 (R_X8_carryOut_32 s f) v2_32 ((R_X8_readsOrder s_32).2)) else (if (R_X8_does ((R_X8_readsOrder s_32).2)).1 = 0 then (R_X8_carryOut_66 (R_X8_carryOut_32 s f) v2_32 1 ((R_X8_does ((R_X8_readsOrder s_32).2)).2)) else (R_X8_carryOut_65 (R_X8_carryOut_32 s f) v2_32 ((R_X8_does ((R_X8_readsOrder s_32).2)).2))))))
def R_X8_carryOut (s : Nat → Int32) : (Int32 × (Nat → Int32)) := (if (R_X8_faultAt s).1 = (-1) then (R_X8_carryOut_32 s 92 0 1 (upd (R_X8_hold ((R_X8_faultAt s).2)) 1304 0)) else ((R_X8_tells ((R_X8_faultAt s).2) ((-10) - (R_X8_faultAt s).1)).1, (R_X8_tells ((R_X8_faultAt s).2) ((-10) - (R_X8_faultAt s).1)).2))
set_option maxRecDepth 100000 in
set_option maxHeartbeats 4000000 in
theorem walk_X8_carryOut {X : g_X} (O : g_ok X cX8_carryOut RX8 (some .int) ({ frames := 8, cells := 0, slots := 0, locals := 187 } : Room)) (hs : (g_xl X).stackTraces = false) (hn : g_xn X = 4) {m : Nat → Int32} {lm : Nat → Int64} {pm : Nat → Nat} {s : Nat → Int32} (p0 : g_J s) (p1 : 0 ≤ (s 1300).toInt) (p2 : (s 1300).toInt ≤ 4) (p3 : 0 ≤ (s 1301).toInt) (p4 : (s 1301).toInt ≤ 90) : g_V X (fun r : Int32 × (Nat → Int32) => ((.inl (some (.int r.1)), (m, r.2, lm, pm)) : g_Res)) (R_X8_carryOut s) 0 0 m (s, lm, pm) 0 [(0, .ref (g_ad X 124))] [] := by
  have hN : ∀ i, Nat.blt i 4 = true → i < g_xn X := fun i h => by rw [hn]; exact g_blt.mp h
  refine r_aload_n O 0 dX8_carryOut_0 rfl rfl ?_
  refine r_callVi O [] [] (met_X8_faultAt (g_xl X) hs lm pm m s (by first | decide | with_reducible assumption | with_reducible omega | (simp (disch := omega) only [g_upd_ne, g_upd_eq, fr_X8_walks, fr_X8_sets, hold_ne, fr_leaves_hi, fr_gives_hi, begins_hi]; first | with_reducible assumption | with_reducible omega | decide) | exact Or.inr ⟨by omega, by omega, by omega, by omega⟩ | exact Or.inl rfl | exact Or.inr rfl) (by first | decide | with_reducible assumption | with_reducible omega | (simp (disch := omega) only [g_upd_ne, g_upd_eq, fr_X8_walks, fr_X8_sets, hold_ne, fr_leaves_hi, fr_gives_hi, begins_hi]; first | with_reducible assumption | with_reducible omega | decide) | exact Or.inr ⟨by omega, by omega, by omega, by omega⟩ | exact Or.inl rfl | exact Or.inr rfl)) LX8_213 obj_124 rfl rfl rfl dX8_carryOut_1 rfl rfl ?_
  have fJ := (Ro_fault (s := s)).J p0
  have f13 : ((R_X8_faultAt s).2 1300).toInt = (s 1300).toInt := by rw [Ro_fault 1300 (by decide)]
  have f01 : ((R_X8_faultAt s).2 1301).toInt = (s 1301).toInt := by rw [Ro_fault 1301 (by decide)]
  refine r_istore_n (lc' := [(1, .int ((R_X8_faultAt s).1)), (0, .ref (g_ad X 124))]) O dX8_carryOut_4 rfl (hN 1 rfl) rfl ?_
  refine r_iload_n O 0 dX8_carryOut_5 rfl rfl ?_
  refine r_iconst (x := (-1)) O dX8_carryOut_6 rfl ?_
  refine r_icmp_eq O 19 dX8_carryOut_7 (by decide) (fun c_7 => ?_) (fun c_7 => ?_)
  · have e_7 : (R_X8_faultAt s).1.toInt = (-1 : Int) := j_eqR c_7 rfl
    refine r_aload_n O 1 dX8_carryOut_19 rfl rfl ?_
    refine r_callVv O [] [] (met_X8_hold (g_xl X) hs lm pm m ((R_X8_faultAt s).2) ) LX8_61 obj_124 rfl rfl rfl dX8_carryOut_20 rfl rfl ?_
    have hJ0 : g_J (upd (R_X8_hold ((R_X8_faultAt s).2)) 1304 0) := J_hi (by decide) (J_hold fJ)
    have h130 : ((upd (R_X8_hold (R_X8_faultAt s).2) 1304 0) 1300).toInt = (s 1300).toInt := by rw [g_upd_ne (by decide), hold_ne (by decide)]; exact f13
    have h010 : ((upd (R_X8_hold (R_X8_faultAt s).2) 1304 0) 1301).toInt = (s 1301).toInt := by rw [g_upd_ne (by decide), hold_ne (by decide)]; exact f01
    have h040 : ((upd (R_X8_hold (R_X8_faultAt s).2) 1304 0) 1304).toInt = 0 := by rw [g_upd_eq]; rfl
    refine r_aload_n O 1 dX8_carryOut_23 rfl rfl ?_
    refine r_iconst (x := 0) O dX8_carryOut_24 rfl ?_
    refine r_put O (FPX8_186 0) (S_124_8 0) dX8_carryOut_25 ?_
    refine r_iconst (x := 0) O dX8_carryOut_28 rfl ?_
    refine r_istore_n (lc' := [(2, .int 0), (1, .int ((R_X8_faultAt s).1)), (0, .ref (g_ad X 124))]) O dX8_carryOut_29 rfl (hN 2 rfl) rfl ?_
    refine r_iconst (x := 1) O dX8_carryOut_30 rfl ?_
    refine r_istore_n (lc' := [(3, .int 1), (2, .int 0), (1, .int ((R_X8_faultAt s).1)), (0, .ref (g_ad X 124))]) O dX8_carryOut_31 rfl (hN 3 rfl) rfl ?_
    have L_32 : ∀ (f_32 : Nat) (v2_32 : Int32) (v3_32 : Int32) (s_32 : Nat → Int32) (hi_32 : 0 < f_32 ∧ g_J s_32 ∧ (s_32 1300).toInt = (s 1300).toInt ∧ (v3_32 = 0 ∨ ((s_32 1301).toInt = (s 1301).toInt ∧ 0 ≤ (s_32 1304).toInt ∧ (s_32 1304).toInt ≤ (s 1301).toInt ∧ 90 < f_32 + (s_32 1304).toInt))), g_V X (fun r : Int32 × (Nat → Int32) => ((.inl (some (.int r.1)), (m, r.2, lm, pm)) : g_Res)) (R_X8_carryOut_32 s f_32 v2_32 v3_32 s_32) 0 0 m (s_32, lm, pm) 32 [(0, .ref (g_ad X 124)), (2, .int v2_32), (3, .int v3_32)] [] := by
      intro f_32
      induction f_32 with
      | zero => intro v2_32 v3_32 s_32 hi_32; exact absurd hi_32.1 (by omega)
      | succ f_32 ih_32 =>
        intro v2_32 v3_32 s_32 hi_32
        obtain ⟨hf, hJ, h13, hq⟩ := hi_32
        refine r_iload_n O 2 dX8_carryOut_32 rfl rfl ?_
        have J_82 : g_V X (fun r : Int32 × (Nat → Int32) => ((.inl (some (.int r.1)), (m, r.2, lm, pm)) : g_Res)) (R_X8_carryOut_82 v2_32 s_32 ) 0 0 m (s_32, lm, pm) 82 [(0, .ref (g_ad X 124)), (2, .int v2_32)] [] := by
          refine r_aload_n O 0 dX8_carryOut_82 rfl rfl ?_
          refine r_iload_n O 1 dX8_carryOut_83 rfl rfl ?_
          refine r_callVi O [.int v2_32] [] (met_X8_ends (g_xl X) hs lm pm m s_32 v2_32 (by first | decide | with_reducible assumption | with_reducible omega | (simp (disch := omega) only [g_upd_ne, g_upd_eq, fr_X8_walks, fr_X8_sets, hold_ne, fr_leaves_hi, fr_gives_hi, begins_hi]; first | with_reducible assumption | with_reducible omega | decide) | exact Or.inr ⟨by omega, by omega, by omega, by omega⟩ | exact Or.inl rfl | exact Or.inr rfl) (by first | decide | with_reducible assumption | with_reducible omega | (simp (disch := omega) only [g_upd_ne, g_upd_eq, fr_X8_walks, fr_X8_sets, hold_ne, fr_leaves_hi, fr_gives_hi, begins_hi]; first | with_reducible assumption | with_reducible omega | decide) | exact Or.inr ⟨by omega, by omega, by omega, by omega⟩ | exact Or.inl rfl | exact Or.inr rfl)) LX8_64 obj_124 rfl rfl rfl dX8_carryOut_84 rfl rfl ?_
          exact r_iret O dX8_carryOut_87 rfl (Nat.le_of_ble_eq_true rfl) (Nat.le_of_ble_eq_true rfl) rfl
        refine r_if_eq O 82 dX8_carryOut_33 (by decide) (fun c_33 => ?_) (fun c_33 => ?_)
        · have e_33 : (v3_32).toInt = (0 : Int) := j_eqR c_33 rfl
          refine r_sub [0, 1] rfl ?_
          exact J_82
        · have e_33 : (v3_32).toInt ≠ (0 : Int) := j_neR c_33 rfl
          obtain ⟨q1, q2, q3, q4⟩ := hq.resolve_left c_33
          refine r_aload_n O 0 dX8_carryOut_36 rfl rfl ?_
          refine r_get O FX8_186 G_124_8 dX8_carryOut_37 ?_
          refine r_aload_n O 0 dX8_carryOut_40 rfl rfl ?_
          refine r_get O FX8_183 G_124_5 dX8_carryOut_41 ?_
          refine r_icmp_ge O 82 dX8_carryOut_44 (by decide) (fun c_44 => ?_) (fun c_44 => ?_)
          · have e_44 : (s_32 1301).toInt ≤ (s_32 1304).toInt := j_le c_44
            refine r_sub [0, 1] rfl ?_
            exact J_82
          · have e_44 : (s_32 1304).toInt < (s_32 1301).toInt := j_nle c_44
            refine r_aload_n O 0 dX8_carryOut_47 rfl rfl ?_
            refine r_callVi O [] [] (met_X8_readsOrder (g_xl X) hs lm pm m s_32 (by first | decide | with_reducible assumption | with_reducible omega | (simp (disch := omega) only [g_upd_ne, g_upd_eq, fr_X8_walks, fr_X8_sets, hold_ne, fr_leaves_hi, fr_gives_hi, begins_hi]; first | with_reducible assumption | with_reducible omega | decide) | exact Or.inr ⟨by omega, by omega, by omega, by omega⟩ | exact Or.inl rfl | exact Or.inr rfl) (by first | decide | with_reducible assumption | with_reducible omega | (simp (disch := omega) only [g_upd_ne, g_upd_eq, fr_X8_walks, fr_X8_sets, hold_ne, fr_leaves_hi, fr_gives_hi, begins_hi]; first | with_reducible assumption | with_reducible omega | decide) | exact Or.inr ⟨by omega, by omega, by omega, by omega⟩ | exact Or.inl rfl | exact Or.inr rfl) (by first | decide | with_reducible assumption | with_reducible omega | (simp (disch := omega) only [g_upd_ne, g_upd_eq, fr_X8_walks, fr_X8_sets, hold_ne, fr_leaves_hi, fr_gives_hi, begins_hi]; first | with_reducible assumption | with_reducible omega | decide) | exact Or.inr ⟨by omega, by omega, by omega, by omega⟩ | exact Or.inl rfl | exact Or.inr rfl)) LX8_210 obj_124 rfl rfl rfl dX8_carryOut_48 rfl rfl ?_
            have fo_48 := P_order (s := s_32) (by with_reducible omega) (by with_reducible omega) (by with_reducible omega)
            have ro_48 : g_Ro s_32 (R_X8_readsOrder s_32).2 := Ro_order g_Ro.refl
            have rJ_48 := ro_48.J hJ
            have r13_48 : ((R_X8_readsOrder s_32).2 1300).toInt = (s 1300).toInt := by rw [ro_48 1300 (by decide)]; exact h13
            have J_66 : ∀ (t0_66 : Int32) (s_66 : Nat → Int32) (hj0 : g_J s_66) (hj1 : (s_66 1300).toInt = (s 1300).toInt) (hj2 : (t0_66 = 0 ∨ ((s_66 1301).toInt = (s 1301).toInt ∧ 0 ≤ (s_66 1304).toInt ∧ (s_66 1304).toInt ≤ (s 1301).toInt ∧ 90 < f_32 + (s_66 1304).toInt))), g_V X (fun r : Int32 × (Nat → Int32) => ((.inl (some (.int r.1)), (m, r.2, lm, pm)) : g_Res)) (R_X8_carryOut_66 ((R_X8_carryOut_32 s f_32)) v2_32 t0_66 s_66) 0 0 m (s_66, lm, pm) 66 [(0, .ref (g_ad X 124)), (2, .int v2_32)] [.int t0_66] := by
              intro t0_66 s_66 hj0 hj1 hj2
              refine r_istore_n (lc' := [(3, .int t0_66), (0, .ref (g_ad X 124)), (2, .int v2_32)]) O dX8_carryOut_66 rfl (hN 3 rfl) rfl ?_
              refine r_iload_n O 2 dX8_carryOut_67 rfl rfl ?_
              refine r_iload_n O 0 dX8_carryOut_68 rfl rfl ?_
              have J_77 : ∀ (t0_77 : Int32), g_V X (fun r : Int32 × (Nat → Int32) => ((.inl (some (.int r.1)), (m, r.2, lm, pm)) : g_Res)) (R_X8_carryOut_77 ((R_X8_carryOut_32 s f_32)) v2_32 t0_66 s_66 t0_77) 0 0 m (s_66, lm, pm) 77 [(0, .ref (g_ad X 124)), (3, .int t0_66)] [.int t0_77, .int v2_32] := by
                intro t0_77
                refine r_iadd O dX8_carryOut_77 ?_
                refine r_istore_n (lc' := [(2, .int (v2_32 + t0_77)), (0, .ref (g_ad X 124)), (3, .int t0_66)]) O dX8_carryOut_78 rfl (hN 2 rfl) rfl ?_
                refine r_goto O 32 dX8_carryOut_79 (by decide) ?_
                refine r_sub [1, 0, 2] rfl ?_
                exact ih_32 (v2_32 + t0_77) t0_66 s_66 ⟨by omega, hj0, hj1, hj2⟩
              refine r_if_eq O 76 dX8_carryOut_69 (by decide) (fun c_69 => ?_) (fun c_69 => ?_)
              · have e_69 : (t0_66).toInt = (0 : Int) := j_eqR c_69 rfl
                refine r_iconst (x := 0) O dX8_carryOut_76 rfl ?_
                refine r_sub [1, 0] rfl ?_
                exact J_77 0
              · have e_69 : (t0_66).toInt ≠ (0 : Int) := j_neR c_69 rfl
                refine r_iconst (x := 1) O dX8_carryOut_72 rfl ?_
                refine r_goto O 77 dX8_carryOut_73 (by decide) ?_
                refine r_sub [1, 0] rfl ?_
                exact J_77 1
            have J_65 : ∀ (s_65 : Nat → Int32) (hj0 : g_J s_65) (hj1 : (s_65 1300).toInt = (s 1300).toInt), g_V X (fun r : Int32 × (Nat → Int32) => ((.inl (some (.int r.1)), (m, r.2, lm, pm)) : g_Res)) (R_X8_carryOut_65 ((R_X8_carryOut_32 s f_32)) v2_32 s_65) 0 0 m (s_65, lm, pm) 65 [(0, .ref (g_ad X 124)), (2, .int v2_32)] [] := by
              intro s_65 hj0 hj1
              refine r_iconst (x := 0) O dX8_carryOut_65 rfl ?_
              exact J_66 0 s_65 (by first | decide | with_reducible assumption | with_reducible omega | (simp (disch := omega) only [g_upd_ne, g_upd_eq, fr_X8_walks, fr_X8_sets, hold_ne, fr_leaves_hi, fr_gives_hi, begins_hi]; first | with_reducible assumption | with_reducible omega | decide) | exact Or.inr ⟨by omega, by omega, by omega, by omega⟩ | exact Or.inl rfl | exact Or.inr rfl) (by first | decide | with_reducible assumption | with_reducible omega | (simp (disch := omega) only [g_upd_ne, g_upd_eq, fr_X8_walks, fr_X8_sets, hold_ne, fr_leaves_hi, fr_gives_hi, begins_hi]; first | with_reducible assumption | with_reducible omega | decide) | exact Or.inr ⟨by omega, by omega, by omega, by omega⟩ | exact Or.inl rfl | exact Or.inr rfl) (by first | decide | with_reducible assumption | with_reducible omega | (simp (disch := omega) only [g_upd_ne, g_upd_eq, fr_X8_walks, fr_X8_sets, hold_ne, fr_leaves_hi, fr_gives_hi, begins_hi]; first | with_reducible assumption | with_reducible omega | decide) | exact Or.inr ⟨by omega, by omega, by omega, by omega⟩ | exact Or.inl rfl | exact Or.inr rfl)
            refine r_if_eq O 65 dX8_carryOut_51 (by decide) (fun c_51 => ?_) (fun c_51 => ?_)
            · have e_51 : (R_X8_readsOrder s_32).1.toInt = (0 : Int) := j_eqR c_51 rfl
              refine r_sub [0, 1] rfl ?_
              exact J_65 ((R_X8_readsOrder s_32).2) (by first | decide | with_reducible assumption | with_reducible omega | (simp (disch := omega) only [g_upd_ne, g_upd_eq, fr_X8_walks, fr_X8_sets, hold_ne, fr_leaves_hi, fr_gives_hi, begins_hi]; first | with_reducible assumption | with_reducible omega | decide) | exact Or.inr ⟨by omega, by omega, by omega, by omega⟩ | exact Or.inl rfl | exact Or.inr rfl) (by first | decide | with_reducible assumption | with_reducible omega | (simp (disch := omega) only [g_upd_ne, g_upd_eq, fr_X8_walks, fr_X8_sets, hold_ne, fr_leaves_hi, fr_gives_hi, begins_hi]; first | with_reducible assumption | with_reducible omega | decide) | exact Or.inr ⟨by omega, by omega, by omega, by omega⟩ | exact Or.inl rfl | exact Or.inr rfl)
            · have e_51 : (R_X8_readsOrder s_32).1.toInt ≠ (0 : Int) := j_neR c_51 rfl
              have oq := fo_48.2.2 (fo_48.1.resolve_left c_51)
              refine r_aload_n O 0 dX8_carryOut_54 rfl rfl ?_
              refine r_callVi O [] [] (met_X8_does (g_xl X) hs lm pm m ((R_X8_readsOrder s_32).2) (by first | decide | with_reducible assumption | with_reducible omega | (simp (disch := omega) only [g_upd_ne, g_upd_eq, fr_X8_walks, fr_X8_sets, hold_ne, fr_leaves_hi, fr_gives_hi, begins_hi]; first | with_reducible assumption | with_reducible omega | decide) | exact Or.inr ⟨by omega, by omega, by omega, by omega⟩ | exact Or.inl rfl | exact Or.inr rfl)) LX8_216 obj_124 rfl rfl rfl dX8_carryOut_55 rfl rfl ?_
              have dJ_55 := (does_JU rJ_48).1
              have du_55 := (does_JU rJ_48).2
              have d13_55 : ((R_X8_does ((R_X8_readsOrder s_32).2)).2 1300).toInt = (s 1300).toInt := by rw [du_55 1300 (by decide) (by decide)]; exact r13_48
              have d01_55 : ((R_X8_does ((R_X8_readsOrder s_32).2)).2 1301).toInt = (((R_X8_readsOrder s_32).2) 1301).toInt := by rw [du_55 1301 (by decide) (by decide)]
              have d04_55 : ((R_X8_does ((R_X8_readsOrder s_32).2)).2 1304).toInt = (((R_X8_readsOrder s_32).2) 1304).toInt := by rw [du_55 1304 (by decide) (by decide)]
              refine r_if_ne O 65 dX8_carryOut_58 (by decide) (fun c_58 => ?_) (fun c_58 => ?_)
              · have e_58 : (R_X8_does ((R_X8_readsOrder s_32).2)).1.toInt = (0 : Int) := j_eqR c_58 rfl
                refine r_iconst (x := 1) O dX8_carryOut_61 rfl ?_
                refine r_goto O 66 dX8_carryOut_62 (by decide) ?_
                refine r_sub [0, 1] rfl ?_
                exact J_66 1 ((R_X8_does ((R_X8_readsOrder s_32).2)).2) (by first | decide | with_reducible assumption | with_reducible omega | (simp (disch := omega) only [g_upd_ne, g_upd_eq, fr_X8_walks, fr_X8_sets, hold_ne, fr_leaves_hi, fr_gives_hi, begins_hi]; first | with_reducible assumption | with_reducible omega | decide) | exact Or.inr ⟨by omega, by omega, by omega, by omega⟩ | exact Or.inl rfl | exact Or.inr rfl) (by first | decide | with_reducible assumption | with_reducible omega | (simp (disch := omega) only [g_upd_ne, g_upd_eq, fr_X8_walks, fr_X8_sets, hold_ne, fr_leaves_hi, fr_gives_hi, begins_hi]; first | with_reducible assumption | with_reducible omega | decide) | exact Or.inr ⟨by omega, by omega, by omega, by omega⟩ | exact Or.inl rfl | exact Or.inr rfl) (by first | decide | with_reducible assumption | with_reducible omega | (simp (disch := omega) only [g_upd_ne, g_upd_eq, fr_X8_walks, fr_X8_sets, hold_ne, fr_leaves_hi, fr_gives_hi, begins_hi]; first | with_reducible assumption | with_reducible omega | decide) | exact Or.inr ⟨by omega, by omega, by omega, by omega⟩ | exact Or.inl rfl | exact Or.inr rfl)
              · have e_58 : (R_X8_does ((R_X8_readsOrder s_32).2)).1.toInt ≠ (0 : Int) := j_neR c_58 rfl
                refine r_sub [0, 1] rfl ?_
                exact J_65 ((R_X8_does ((R_X8_readsOrder s_32).2)).2) (by first | decide | with_reducible assumption | with_reducible omega | (simp (disch := omega) only [g_upd_ne, g_upd_eq, fr_X8_walks, fr_X8_sets, hold_ne, fr_leaves_hi, fr_gives_hi, begins_hi]; first | with_reducible assumption | with_reducible omega | decide) | exact Or.inr ⟨by omega, by omega, by omega, by omega⟩ | exact Or.inl rfl | exact Or.inr rfl) (by first | decide | with_reducible assumption | with_reducible omega | (simp (disch := omega) only [g_upd_ne, g_upd_eq, fr_X8_walks, fr_X8_sets, hold_ne, fr_leaves_hi, fr_gives_hi, begins_hi]; first | with_reducible assumption | with_reducible omega | decide) | exact Or.inr ⟨by omega, by omega, by omega, by omega⟩ | exact Or.inl rfl | exact Or.inr rfl)
    refine r_sub [3, 1, 0] rfl ?_
    have hlit_v3_32 : (1 : Int32).toInt = 1 := rfl
    exact L_32 92 0 1 (upd (R_X8_hold ((R_X8_faultAt s).2)) 1304 0) ⟨by omega, hJ0, h130, Or.inr ⟨by omega, by omega, by omega, by omega⟩⟩
  · have e_7 : (R_X8_faultAt s).1.toInt ≠ (-1 : Int) := j_neR c_7 rfl
    refine r_aload_n O 1 dX8_carryOut_10 rfl rfl ?_
    refine r_bipush (x := (-10)) O dX8_carryOut_11 rfl ?_
    refine r_iload_n O 0 dX8_carryOut_13 rfl rfl ?_
    refine r_isub O dX8_carryOut_14 ?_
    refine r_callVi O [.int ((-10) - (R_X8_faultAt s).1)] [] (met_X8_tells (g_xl X) hs lm pm m ((R_X8_faultAt s).2) ((-10) - (R_X8_faultAt s).1) ) LX8_33 obj_124 rfl rfl rfl dX8_carryOut_15 rfl rfl ?_
    exact r_iret O dX8_carryOut_18 rfl (Nat.le_of_ble_eq_true rfl) (Nat.le_of_ble_eq_true rfl) rfl
theorem met_X8_carryOut (l : Launch) (hs : l.stackTraces = false) (lm : Nat → Int64) (pm : Nat → Nat) (m : Nat → Int32) (s : Nat → Int32) (p0 : g_J s) (p1 : 0 ≤ (s 1300).toInt) (p2 : (s 1300).toInt ≤ 4) (p3 : 0 ≤ (s 1301).toInt) (p4 : (s 1301).toInt ≤ 90) : g_SM l yX8_carryOut cX8_carryOut 4 (some .int) ({ frames := 8, cells := 0, slots := 0, locals := 187 } : Room) (fun ad => [.ref (ad 124)]) m (s, lm, pm) ((fun r : Int32 × (Nat → Int32) => ((.inl (some (.int r.1)), (m, r.2, lm, pm)) : g_Res)) (R_X8_carryOut s)) :=
  g_sm_of (by decide) (fun _ => Nat.le_of_ble_eq_true rfl) hs (fun X hl hn O => walk_X8_carryOut O (by rw [hl]; exact hs) hn p0 p1 p2 p3 p4)
