/-! ===== the model: ropes, helpers, a new exercise ===== -/
/-- a new exercise's row -/
def g_new (x : Int32) (n : Nat) : Int32 := if n = 0 ∨ n = 4 then x else if 13 ≤ n ∧ n < 20 then g_d0 (n - 13) else if 20 ≤ n ∧ n < 27 then g_m0 (n - 20) else if 27 ≤ n ∧ n < 34 then -1 else 0
theorem begins_38_at {s : Nat → Int32} : ∀ (f p : Nat) (t : Nat → Int32), p ≤ 7 → 7 < f + p → ∀ n, R_X8_begins_38 s f p t n = if 13 + p ≤ n ∧ n < 20 then g_d0 (n - 13) else if 20 + p ≤ n ∧ n < 27 then g_m0 (n - 20) else if 27 + p ≤ n ∧ n < 34 then -1 else t n
  | 0, p, t, h, h' => absurd h' (by omega)
  | f + 1, p, t, h, h' => by
    intro n
    unfold R_X8_begins_38
    by_cases c : p = 7
    · subst c
      rw [if_pos (by decide), if_neg (by omega), if_neg (by omega), if_neg (by omega)]
    · have key : ∀ a b : Int32, g_d0 p = a → g_m0 p = b → R_X8_begins_38 s f (p + 1) (upd (upd (upd t ((13 + nI p).toNatClampNeg) a) ((20 + nI p).toNatClampNeg) b) ((27 + nI p).toNatClampNeg) (-1)) n = if 13 + p ≤ n ∧ n < 20 then g_d0 (n - 13) else if 20 + p ≤ n ∧ n < 27 then g_m0 (n - 20) else if 27 + p ≤ n ∧ n < 34 then -1 else t n := by
        intro a b ha hb
        have hc : (nI p).toInt = (p : Int) := nI_toInt (by omega)
        have i1 := (ix_p (x := nI p) (b := 13) (w := 13) rfl (by decide) (by omega) (by omega)).1
        have i2 := (ix_p (x := nI p) (b := 20) (w := 20) rfl (by decide) (by omega) (by omega)).1
        have i3 := (ix_p (x := nI p) (b := 27) (w := 27) rfl (by decide) (by omega) (by omega)).1
        rw [nI_clamp (by omega)] at i1 i2 i3
        rw [i1, i2, i3, begins_38_at f (p + 1) _ (by omega) (by omega)]
        by_cases e1 : n = 13 + p
        · subst e1
          rw [if_neg (by omega), if_neg (by omega), if_neg (by omega), if_pos (by omega), g_upd_ne (by omega), g_upd_ne (by omega), g_upd_eq, ← ha]
          congr 1; omega
        · by_cases e2 : n = 20 + p
          · subst e2
            rw [if_neg (by omega), if_neg (by omega), if_neg (by omega), if_neg (by omega), if_pos (by omega), g_upd_ne (by omega), g_upd_eq, ← hb]
            congr 1; omega
          · by_cases e3 : n = 27 + p
            · subst e3
              rw [if_neg (by omega), if_neg (by omega), if_neg (by omega), if_neg (by omega), if_neg (by omega), if_pos (by omega), g_upd_eq]
            · rw [g_upd_ne e3, g_upd_ne e2, g_upd_ne e1]
              by_cases d1 : 13 + p ≤ n ∧ n < 20
              · rw [if_pos d1, if_pos (by omega)]
              · rw [if_neg d1, if_neg (by omega)]
                by_cases d2 : 20 + p ≤ n ∧ n < 27
                · rw [if_pos d2, if_pos (by omega)]
                · rw [if_neg d2, if_neg (by omega)]
                  by_cases d3 : 27 + p ≤ n ∧ n < 34
                  · rw [if_pos d3, if_pos (by omega)]
                  · rw [if_neg d3, if_neg (by omega)]
      have : p = 0 ∨ p = 1 ∨ p = 2 ∨ p = 3 ∨ p = 4 ∨ p = 5 ∨ p = 6 := by omega
      unfold R_X8_begins_73 R_X8_begins_113
      rcases this with rfl | rfl | rfl | rfl | rfl | rfl | rfl
      · rw [if_neg (by decide), if_neg (by decide), if_neg (by decide), if_neg (by decide), if_neg (by decide), if_neg (by decide)]; exact key 0 5 rfl rfl
      · rw [if_neg (by decide), if_pos (by decide), if_pos (by decide)]; exact key 20 8 rfl rfl
      · rw [if_neg (by decide), if_neg (by decide), if_neg (by decide), if_neg (by decide), if_pos (by decide)]; exact key 0 6 rfl rfl
      · rw [if_neg (by decide), if_neg (by decide), if_pos (by decide), if_neg (by decide), if_neg (by decide), if_pos (by decide)]; exact key 35 10 rfl rfl
      · rw [if_neg (by decide), if_neg (by decide), if_neg (by decide), if_neg (by decide), if_neg (by decide), if_neg (by decide)]; exact key 0 5 rfl rfl
      · rw [if_neg (by decide), if_neg (by decide), if_neg (by decide), if_neg (by decide), if_neg (by decide), if_neg (by decide)]; exact key 0 5 rfl rfl
      · rw [if_neg (by decide), if_neg (by decide), if_neg (by decide), if_neg (by decide), if_neg (by decide), if_neg (by decide)]; exact key 0 5 rfl rfl
theorem begins_2_at {s : Nat → Int32} {x : Int32} : ∀ (f k : Nat) (t : Nat → Int32), k ≤ 178 → 178 < f + k → (∀ n, n < k → t n = 0) → ∀ n, R_X8_begins_2 s x f k t n = if n < 178 then g_new x n else t n
  | 0, k, t, h, h', _ => absurd h' (by omega)
  | f + 1, k, t, h, h', z => by
    intro n
    have hc : (nI k).toInt = (k : Int) := nI_toInt (by omega)
    unfold R_X8_begins_2
    split
    · rename_i q
      have q : (178 : Int) ≤ (nI k).toInt := j_leL q rfl
      have e : k = 178 := by omega
      subst e
      rw [begins_38_at 8 0 _ (by omega) (by omega)]
      unfold g_new
      by_cases a : n < 178
      · rw [if_pos a]
        by_cases d1 : 13 + 0 ≤ n ∧ n < 20
        · rw [if_pos d1, if_neg (by omega), if_pos d1]
        · rw [if_neg d1]
          by_cases d2 : 20 + 0 ≤ n ∧ n < 27
          · rw [if_pos d2, if_neg (by omega), if_neg (by omega), if_pos d2]
          · rw [if_neg d2]
            by_cases d3 : 27 + 0 ≤ n ∧ n < 34
            · rw [if_pos d3, if_neg (by omega), if_neg (by omega), if_neg (by omega), if_pos d3]
            · rw [if_neg d3]
              by_cases e4 : n = 4
              · subst e4; rw [g_upd_eq, if_pos (Or.inr rfl)]
              · by_cases e0 : n = 0
                · subst e0; rw [g_upd_ne (by omega), g_upd_eq, if_pos (Or.inl rfl)]
                · rw [g_upd_ne e4, g_upd_ne e0, z n a, if_neg (by omega), if_neg d1, if_neg d2, if_neg d3]
      · rw [if_neg a, if_neg (by omega), if_neg (by omega), if_neg (by omega), g_upd_ne (by omega), g_upd_ne (by omega)]
    · rename_i q
      have q : (nI k).toInt < (178 : Int) := j_nleL q rfl
      rw [nI_clamp (by omega), begins_2_at f (k + 1) _ (by omega) (by omega) (fun n hn => ?_)]
      · by_cases a : n < 178
        · rw [if_pos a, if_pos a]
        · rw [if_neg a, if_neg a, g_upd_ne (by omega)]
      · by_cases e : n = k
        · subst e; exact g_upd_eq
        · rw [g_upd_ne e]; exact z n (by omega)
theorem begins_at {s : Nat → Int32} {x : Int32} (n : Nat) : R_X8_begins s x n = if n < 178 then g_new x n else s n := begins_2_at _ _ _ (by omega) (by omega) (fun n h => absurd h (by omega)) n
theorem begins_hi {s : Nat → Int32} {x : Int32} {n : Nat} (h : 178 ≤ n) : R_X8_begins s x n = s n := by rw [begins_at, if_neg (by omega)]
theorem fr_lays {s : Nat → Int32} {x v : Int32} {k n : Nat} (p0 : 0 ≤ x.toInt) (p1 : x.toInt < 6) (hk : k < 9) (hn : n < 58 ∨ 112 ≤ n) : R_X8_lays s x (nI k) v n = s n := by
  have := j_nat p0
  unfold R_X8_lays
  rw [of_ix p0 p1 hk, g_upd_ne (by omega)]
def R_X8_addRope_75 (s_75 : Nat → Int32) : (Int32 × (Nat → Int32)) := ((R_X8_ends (upd s_75 (1) ((s_75 (1)) + 1)) ((upd s_75 (1) ((s_75 (1)) + 1)) (201))).1, (R_X8_ends (upd s_75 (1) ((s_75 (1)) + 1)) ((upd s_75 (1) ((s_75 (1)) + 1)) (201))).2)
def R_X8_addRope (s : Nat → Int32) (x1 : Int32) : (Int32 × (Nat → Int32)) := (if (R_X8_in s x1 10 80) = 0 then ((R_X8_fails s 1).1, (R_X8_fails s 1).2) else (if (s (1)) = 8 then ((R_X8_fails s 2).1, (R_X8_fails s 2).2) else (R_X8_addRope_75  (upd (upd (upd (R_X8_hold s) ((34 + (3 * ((R_X8_hold s) (1)))).toNatClampNeg) x1) (((34 + (3 * ((R_X8_hold s) (1)))) + 1).toNatClampNeg) 0) (((34 + (3 * ((R_X8_hold s) (1)))) + 2).toNatClampNeg) 0))))
set_option maxRecDepth 100000 in
set_option maxHeartbeats 4000000 in
theorem walk_X8_addRope {X : g_X} (O : g_ok X cX8_addRope RX8 (some .int) ({ frames := 2, cells := 0, slots := 0, locals := 43 } : Room)) (hs : (g_xl X).stackTraces = false) (hn : g_xn X = 3) {m : Nat → Int32} {lm : Nat → Int64} {pm : Nat → Nat} {s : Nat → Int32} {x1 : Int32} (p0 : g_J s) (p1 : 0 ≤ (s 1300).toInt) (p2 : (s 1300).toInt ≤ 4) : g_V X (fun r : Int32 × (Nat → Int32) => ((.inl (some (.int r.1)), (m, r.2, lm, pm)) : g_Res)) (R_X8_addRope s x1) 0 0 m (s, lm, pm) 0 [(0, .ref (g_ad X 124)), (1, .int x1)] [] := by
  have hN : ∀ i, Nat.blt i 3 = true → i < g_xn X := fun i h => by rw [hn]; exact g_blt.mp h
  obtain ⟨n0, n1, n2, n4, n6, n12, n3⟩ := p0.n
  have h1 : (R_X8_hold s 1).toInt = (s 1).toInt := by rw [hold_ne (by decide)]
  have h2 : (R_X8_hold s 2).toInt = (s 2).toInt := by rw [hold_ne (by decide)]
  refine r_iload_n O 1 dX8_addRope_0 rfl rfl ?_
  refine r_bipush (x := 10) O dX8_addRope_1 rfl ?_
  refine r_bipush (x := 80) O dX8_addRope_3 rfl ?_
  refine r_callSi O [.int x1, .int 10, .int 80] [] (met_X8_in (g_xl X) hs lm pm m s x1 10 80 ) LX8_54 rfl rfl rfl dX8_addRope_5 rfl rfl ?_
  refine r_if_ne O 17 dX8_addRope_8 (by decide) (fun c_8 => ?_) (fun c_8 => ?_)
  · have e_8 : (R_X8_in s x1 10 80).toInt = (0 : Int) := j_eqR c_8 rfl
    refine r_aload_n O 0 dX8_addRope_11 rfl rfl ?_
    refine r_iconst (x := 1) O dX8_addRope_12 rfl ?_
    refine r_callVi O [.int 1] [] (met_X8_fails (g_xl X) hs lm pm m s 1 ) LX8_58 obj_124 rfl rfl rfl dX8_addRope_13 rfl rfl ?_
    exact r_iret O dX8_addRope_16 rfl (Nat.le_of_ble_eq_true rfl) (Nat.le_of_ble_eq_true rfl) rfl
  · have e_8 : (R_X8_in s x1 10 80).toInt ≠ (0 : Int) := j_neR c_8 rfl
    have z_8a : (10 : Int) ≤ (x1).toInt := (nz_X8_in c_8).1
    have z_8b : (x1).toInt ≤ (80 : Int) := (nz_X8_in c_8).2
    refine r_aload_n O 0 dX8_addRope_17 rfl rfl ?_
    refine r_get O FX8_7 G_124_0 dX8_addRope_18 ?_
    refine r_iconst (x := 1) O dX8_addRope_21 rfl ?_
    refine r_iald O R_125 (g_vin (by decide) (by decide)) dX8_addRope_22 ?_
    refine r_bipush (x := 8) O dX8_addRope_23 rfl ?_
    refine r_icmp_ne O 34 dX8_addRope_25 (by decide) (fun c_25 => ?_) (fun c_25 => ?_)
    · have e_25 : (s (1)).toInt = (8 : Int) := j_eqR c_25 rfl
      refine r_aload_n O 0 dX8_addRope_28 rfl rfl ?_
      refine r_iconst (x := 2) O dX8_addRope_29 rfl ?_
      refine r_callVi O [.int 2] [] (met_X8_fails (g_xl X) hs lm pm m s 2 ) LX8_58 obj_124 rfl rfl rfl dX8_addRope_30 rfl rfl ?_
      exact r_iret O dX8_addRope_33 rfl (Nat.le_of_ble_eq_true rfl) (Nat.le_of_ble_eq_true rfl) rfl
    · have e_25 : (s (1)).toInt ≠ (8 : Int) := j_neR c_25 rfl
      have x0 : (34 + 3 * R_X8_hold s 1).toNatClampNeg = 34 + 3 * (R_X8_hold s 1).toNatClampNeg := by have h := ix_rope (x := R_X8_hold s 1) (j := 0) (w := 0) (by omega) (by omega) rfl (by decide); rwa [show (34 + 3 * R_X8_hold s 1) + 0 = 34 + 3 * R_X8_hold s 1 by simp] at h
      have x1r := ix_rope (x := R_X8_hold s 1) (j := 1) (w := 1) (by omega) (by omega) rfl (by decide)
      have x2r := ix_rope (x := R_X8_hold s 1) (j := 2) (w := 2) (by omega) (by omega) rfl (by decide)
      have nr := j_nat (x := R_X8_hold s 1) (by omega)
      refine r_aload_n O 0 dX8_addRope_34 rfl rfl ?_
      refine r_callVv O [] [] (met_X8_hold (g_xl X) hs lm pm m s ) LX8_61 obj_124 rfl rfl rfl dX8_addRope_35 rfl rfl ?_
      have hJ_35 : g_J (R_X8_hold s) := J_hold p0
      refine r_bipush (x := 34) O dX8_addRope_38 rfl ?_
      refine r_iconst (x := 3) O dX8_addRope_40 rfl ?_
      refine r_aload_n O 0 dX8_addRope_41 rfl rfl ?_
      refine r_get O FX8_7 G_124_0 dX8_addRope_42 ?_
      refine r_iconst (x := 1) O dX8_addRope_45 rfl ?_
      refine r_iald O R_125 (g_vin (by decide) (by decide)) dX8_addRope_46 ?_
      refine r_imul O dX8_addRope_47 ?_
      refine r_iadd O dX8_addRope_48 ?_
      refine r_istore_n (lc' := [(2, .int (34 + (3 * ((R_X8_hold s) (1))))), (0, .ref (g_ad X 124)), (1, .int x1)]) O dX8_addRope_49 rfl (hN 2 rfl) rfl ?_
      refine r_aload_n O 1 dX8_addRope_50 rfl rfl ?_
      refine r_get O FX8_7 G_124_0 dX8_addRope_51 ?_
      refine r_iload_n O 0 dX8_addRope_54 rfl rfl ?_
      refine r_iload_n O 2 dX8_addRope_55 rfl rfl ?_
      have ix_56 : (34 + (3 * ((R_X8_hold s) (1)))).toInt = ((34 : Int) + ((3 : Int) * ((R_X8_hold s) (1)).toInt)) := (j_addE rfl (j_mulE rfl rfl (by with_reducible omega) (by with_reducible omega)) (by with_reducible omega) (by with_reducible omega))
      have iy_56 := j_nat (x := (34 + (3 * ((R_X8_hold s) (1))))) (by with_reducible omega)
      refine r_iastM O T_125 (show vp_in (34 + (3 * ((R_X8_hold s) (1)))) 178 from g_vin (by with_reducible omega) (by with_reducible omega)) dX8_addRope_56 ?_
      refine r_aload_n O 1 dX8_addRope_57 rfl rfl ?_
      refine r_get O FX8_7 G_124_0 dX8_addRope_58 ?_
      refine r_iload_n O 0 dX8_addRope_61 rfl rfl ?_
      refine r_iconst (x := 1) O dX8_addRope_62 rfl ?_
      refine r_iadd O dX8_addRope_63 ?_
      refine r_iconst (x := 0) O dX8_addRope_64 rfl ?_
      have ix_65 : ((34 + (3 * ((R_X8_hold s) (1)))) + 1).toInt = (((34 : Int) + ((3 : Int) * ((R_X8_hold s) (1)).toInt)) + (1 : Int)) := (j_addE (j_addE rfl (j_mulE rfl rfl (by with_reducible omega) (by with_reducible omega)) (by with_reducible omega) (by with_reducible omega)) rfl (by with_reducible omega) (by with_reducible omega))
      have iy_65 := j_nat (x := ((34 + (3 * ((R_X8_hold s) (1)))) + 1)) (by with_reducible omega)
      refine r_iastM O T_125 (show vp_in ((34 + (3 * ((R_X8_hold s) (1)))) + 1) 178 from g_vin (by with_reducible omega) (by with_reducible omega)) dX8_addRope_65 ?_
      refine r_aload_n O 1 dX8_addRope_66 rfl rfl ?_
      refine r_get O FX8_7 G_124_0 dX8_addRope_67 ?_
      refine r_iload_n O 0 dX8_addRope_70 rfl rfl ?_
      refine r_iconst (x := 2) O dX8_addRope_71 rfl ?_
      refine r_iadd O dX8_addRope_72 ?_
      refine r_iconst (x := 0) O dX8_addRope_73 rfl ?_
      have J_75 : ∀ (s_75 : Nat → Int32) (hj0 : (s_75 1300).toInt = (s 1300).toInt), g_V X (fun r : Int32 × (Nat → Int32) => ((.inl (some (.int r.1)), (m, r.2, lm, pm)) : g_Res)) (R_X8_addRope_75  s_75) 0 0 m (s_75, lm, pm) 75 [(0, .ref (g_ad X 124))] [] := by
        intro s_75 hj0
        refine r_aload_n O 0 dX8_addRope_75 rfl rfl ?_
        refine r_get O FX8_7 G_124_0 dX8_addRope_76 ?_
        refine r_iconst (x := 1) O dX8_addRope_79 rfl ?_
        refine r_dup2 O dX8_addRope_80 rfl rfl ?_
        refine r_iald O R_125 (g_vin (by decide) (by decide)) dX8_addRope_81 ?_
        refine r_iconst (x := 1) O dX8_addRope_82 rfl ?_
        refine r_iadd O dX8_addRope_83 ?_
        refine r_iastM O T_125 (g_vin (by decide) (by decide)) dX8_addRope_84 ?_
        refine r_aload_n O 0 dX8_addRope_85 rfl rfl ?_
        refine r_aload_n O 0 dX8_addRope_86 rfl rfl ?_
        refine r_get O FX8_16 G_124_2 dX8_addRope_87 ?_
        refine r_iconst (x := 1) O dX8_addRope_90 rfl ?_
        refine r_iald O R_127 (g_vin (by decide) (by decide)) dX8_addRope_91 ?_
        refine r_callVi O [.int ((upd s_75 (1) ((s_75 (1)) + 1)) (201))] [] (met_X8_ends (g_xl X) hs lm pm m (upd s_75 (1) ((s_75 (1)) + 1)) ((upd s_75 (1) ((s_75 (1)) + 1)) (201)) (by first | decide | with_reducible assumption | with_reducible omega | (simp (disch := omega) only [g_upd_ne, g_upd_eq, fr_X8_walks, fr_X8_sets, hold_ne, fr_leaves_hi, fr_gives_hi, begins_hi]; first | with_reducible assumption | with_reducible omega | decide) | exact Or.inl rfl | exact Or.inr rfl) (by first | decide | with_reducible assumption | with_reducible omega | (simp (disch := omega) only [g_upd_ne, g_upd_eq, fr_X8_walks, fr_X8_sets, hold_ne, fr_leaves_hi, fr_gives_hi, begins_hi]; first | with_reducible assumption | with_reducible omega | decide) | exact Or.inl rfl | exact Or.inr rfl)) LX8_64 obj_124 rfl rfl rfl dX8_addRope_92 rfl rfl ?_
        exact r_iret O dX8_addRope_95 rfl (Nat.le_of_ble_eq_true rfl) (Nat.le_of_ble_eq_true rfl) rfl
      have ix_74 : ((34 + (3 * ((R_X8_hold s) (1)))) + 2).toInt = (((34 : Int) + ((3 : Int) * ((R_X8_hold s) (1)).toInt)) + (2 : Int)) := (j_addE (j_addE rfl (j_mulE rfl rfl (by with_reducible omega) (by with_reducible omega)) (by with_reducible omega) (by with_reducible omega)) rfl (by with_reducible omega) (by with_reducible omega))
      have iy_74 := j_nat (x := ((34 + (3 * ((R_X8_hold s) (1)))) + 2)) (by with_reducible omega)
      refine r_iastM O T_125 (show vp_in ((34 + (3 * ((R_X8_hold s) (1)))) + 2) 178 from g_vin (by with_reducible omega) (by with_reducible omega)) dX8_addRope_74 ?_
      refine r_sub [1] rfl ?_
      exact J_75 (upd (upd (upd (R_X8_hold s) ((34 + (3 * ((R_X8_hold s) (1)))).toNatClampNeg) x1) (((34 + (3 * ((R_X8_hold s) (1)))) + 1).toNatClampNeg) 0) (((34 + (3 * ((R_X8_hold s) (1)))) + 2).toNatClampNeg) 0) (by rw [g_upd_ne (by omega), g_upd_ne (by omega), g_upd_ne (by omega), hold_ne (by omega)])
theorem met_X8_addRope (l : Launch) (hs : l.stackTraces = false) (lm : Nat → Int64) (pm : Nat → Nat) (m : Nat → Int32) (s : Nat → Int32) (x1 : Int32) (p0 : g_J s) (p1 : 0 ≤ (s 1300).toInt) (p2 : (s 1300).toInt ≤ 4) : g_SM l yX8_addRope cX8_addRope 3 (some .int) ({ frames := 2, cells := 0, slots := 0, locals := 43 } : Room) (fun ad => [.ref (ad 124), .int x1]) m (s, lm, pm) ((fun r : Int32 × (Nat → Int32) => ((.inl (some (.int r.1)), (m, r.2, lm, pm)) : g_Res)) (R_X8_addRope s x1)) :=
  g_sm_of (by decide) (fun _ => Nat.le_of_ble_eq_true rfl) hs (fun X hl hn O => walk_X8_addRope O (by rw [hl]; exact hs) hn p0 p1 p2)
def R_X8_addHelper_80 (s : Nat → Int32) (K_48 : Nat → (Nat → Int32) → (Int32 × (Nat → Int32))) (k : Nat) (s_48 : Nat → Int32) (t0_80 : Int32) : (Int32 × (Nat → Int32)) := (K_48 (k + 1) (R_X8_lays s_48 ((R_X8_hold s) (2)) (nI k) t0_80))
def R_X8_addHelper_75 (s : Nat → Int32) (K_48 : Nat → (Nat → Int32) → (Int32 × (Nat → Int32))) (k : Nat) (s_48 : Nat → Int32) : (Int32 × (Nat → Int32)) := (R_X8_addHelper_80 s K_48 k s_48 (-1))
def R_X8_addHelper_48 (s : Nat → Int32) (x1 : Int32) : Nat → Nat → (Nat → Int32) → (Int32 × (Nat → Int32))
  | 0, _, _ => (0, s)
  | f + 1, k, s_48 => (if 9 ≤ (nI k) then ((R_X8_ends (upd s_48 (2) ((s_48 (2)) + 1)) ((R_X8_hold s) (2))).1, (R_X8_ends (upd s_48 (2) ((s_48 (2)) + 1)) ((R_X8_hold s) (2))).2) else (if (nI k) = 0 then (R_X8_addHelper_80 s (R_X8_addHelper_48 s x1 f) k s_48 x1) else (if (nI k) = 3 then (R_X8_addHelper_75 s (R_X8_addHelper_48 s x1 f) k s_48 ) else (if (nI k) = 5 then (R_X8_addHelper_75 s (R_X8_addHelper_48 s x1 f) k s_48 ) else (R_X8_addHelper_80 s (R_X8_addHelper_48 s x1 f) k s_48 0)))))
def R_X8_addHelper (s : Nat → Int32) (x1 : Int32) : (Int32 × (Nat → Int32)) := (if (R_X8_in s x1 30 600) = 0 then ((R_X8_fails s 1).1, (R_X8_fails s 1).2) else (if (s (2)) = 6 then ((R_X8_fails s 2).1, (R_X8_fails s 2).2) else (R_X8_addHelper_48 s x1 10 0 (R_X8_hold s))))
set_option maxRecDepth 100000 in
set_option maxHeartbeats 4000000 in
theorem walk_X8_addHelper {X : g_X} (O : g_ok X cX8_addHelper RX8 (some .int) ({ frames := 2, cells := 0, slots := 0, locals := 43 } : Room)) (hs : (g_xl X).stackTraces = false) (hn : g_xn X = 4) {m : Nat → Int32} {lm : Nat → Int64} {pm : Nat → Nat} {s : Nat → Int32} {x1 : Int32} (p0 : g_J s) (p1 : 0 ≤ (s 1300).toInt) (p2 : (s 1300).toInt ≤ 4) : g_V X (fun r : Int32 × (Nat → Int32) => ((.inl (some (.int r.1)), (m, r.2, lm, pm)) : g_Res)) (R_X8_addHelper s x1) 0 0 m (s, lm, pm) 0 [(0, .ref (g_ad X 124)), (1, .int x1)] [] := by
  have hN : ∀ i, Nat.blt i 4 = true → i < g_xn X := fun i h => by rw [hn]; exact g_blt.mp h
  obtain ⟨n0, n1, n2, n4, n6, n12, n3⟩ := p0.n
  have h1 : (R_X8_hold s 1).toInt = (s 1).toInt := by rw [hold_ne (by decide)]
  have h2 : (R_X8_hold s 2).toInt = (s 2).toInt := by rw [hold_ne (by decide)]
  refine r_iload_n O 1 dX8_addHelper_0 rfl rfl ?_
  refine r_bipush (x := 30) O dX8_addHelper_1 rfl ?_
  refine r_sipush (x := 600) O dX8_addHelper_3 rfl ?_
  refine r_callSi O [.int x1, .int 30, .int 600] [] (met_X8_in (g_xl X) hs lm pm m s x1 30 600 ) LX8_54 rfl rfl rfl dX8_addHelper_6 rfl rfl ?_
  refine r_if_ne O 18 dX8_addHelper_9 (by decide) (fun c_9 => ?_) (fun c_9 => ?_)
  · have e_9 : (R_X8_in s x1 30 600).toInt = (0 : Int) := j_eqR c_9 rfl
    refine r_aload_n O 0 dX8_addHelper_12 rfl rfl ?_
    refine r_iconst (x := 1) O dX8_addHelper_13 rfl ?_
    refine r_callVi O [.int 1] [] (met_X8_fails (g_xl X) hs lm pm m s 1 ) LX8_58 obj_124 rfl rfl rfl dX8_addHelper_14 rfl rfl ?_
    exact r_iret O dX8_addHelper_17 rfl (Nat.le_of_ble_eq_true rfl) (Nat.le_of_ble_eq_true rfl) rfl
  · have e_9 : (R_X8_in s x1 30 600).toInt ≠ (0 : Int) := j_neR c_9 rfl
    have z_9a : (30 : Int) ≤ (x1).toInt := (nz_X8_in c_9).1
    have z_9b : (x1).toInt ≤ (600 : Int) := (nz_X8_in c_9).2
    refine r_aload_n O 0 dX8_addHelper_18 rfl rfl ?_
    refine r_get O FX8_7 G_124_0 dX8_addHelper_19 ?_
    refine r_iconst (x := 2) O dX8_addHelper_22 rfl ?_
    refine r_iald O R_125 (g_vin (by decide) (by decide)) dX8_addHelper_23 ?_
    refine r_bipush (x := 6) O dX8_addHelper_24 rfl ?_
    refine r_icmp_ne O 35 dX8_addHelper_26 (by decide) (fun c_26 => ?_) (fun c_26 => ?_)
    · have e_26 : (s (2)).toInt = (6 : Int) := j_eqR c_26 rfl
      refine r_aload_n O 0 dX8_addHelper_29 rfl rfl ?_
      refine r_iconst (x := 2) O dX8_addHelper_30 rfl ?_
      refine r_callVi O [.int 2] [] (met_X8_fails (g_xl X) hs lm pm m s 2 ) LX8_58 obj_124 rfl rfl rfl dX8_addHelper_31 rfl rfl ?_
      exact r_iret O dX8_addHelper_34 rfl (Nat.le_of_ble_eq_true rfl) (Nat.le_of_ble_eq_true rfl) rfl
    · have e_26 : (s (2)).toInt ≠ (6 : Int) := j_neR c_26 rfl
      refine r_aload_n O 0 dX8_addHelper_35 rfl rfl ?_
      refine r_callVv O [] [] (met_X8_hold (g_xl X) hs lm pm m s ) LX8_61 obj_124 rfl rfl rfl dX8_addHelper_36 rfl rfl ?_
      have hJ_36 : g_J (R_X8_hold s) := J_hold p0
      refine r_aload_n O 0 dX8_addHelper_39 rfl rfl ?_
      refine r_get O FX8_7 G_124_0 dX8_addHelper_40 ?_
      refine r_iconst (x := 2) O dX8_addHelper_43 rfl ?_
      refine r_iald O R_125 (g_vin (by decide) (by decide)) dX8_addHelper_44 ?_
      refine r_istore_n (lc' := [(2, .int ((R_X8_hold s) (2))), (0, .ref (g_ad X 124)), (1, .int x1)]) O dX8_addHelper_45 rfl (hN 2 rfl) rfl ?_
      refine r_iconst (x := 0) O dX8_addHelper_46 rfl ?_
      refine r_istore_n (lc' := [(3, .int 0), (2, .int ((R_X8_hold s) (2))), (0, .ref (g_ad X 124)), (1, .int x1)]) O dX8_addHelper_47 rfl (hN 3 rfl) rfl ?_
      have L_48 : ∀ (f_48 : Nat) (k : Nat) (s_48 : Nat → Int32) (hi_48 : k ≤ 9 ∧ 9 < f_48 + k ∧ s_48 1300 = R_X8_hold s 1300 ∧ s_48 2 = R_X8_hold s 2), g_V X (fun r : Int32 × (Nat → Int32) => ((.inl (some (.int r.1)), (m, r.2, lm, pm)) : g_Res)) (R_X8_addHelper_48 s x1 f_48 k s_48) 0 0 m (s_48, lm, pm) 48 [(0, .ref (g_ad X 124)), (1, .int x1), (2, .int ((R_X8_hold s) (2))), (3, .int (nI k))] [] := by
        intro f_48
        induction f_48 with
        | zero => intro k s_48 hi_48; exact absurd hi_48 (by omega)
        | succ f_48 ih_48 =>
          intro k s_48 hi_48
          have hc_k : (nI k).toInt = (k : Int) := nI_toInt (by omega)
          obtain ⟨hi1, hi2, hi3, hi4⟩ := hi_48
          have h13 : (s_48 1300).toInt = (s 1300).toInt := by rw [hi3, hold_ne (by decide)]
          refine r_iload_n O 3 dX8_addHelper_48 rfl rfl ?_
          refine r_bipush (x := 9) O dX8_addHelper_49 rfl ?_
          refine r_icmp_ge O 89 dX8_addHelper_51 (by decide) (fun c_51 => ?_) (fun c_51 => ?_)
          · have e_51 : (9 : Int) ≤ (nI k).toInt := j_leL c_51 rfl
            refine r_aload_n O 0 dX8_addHelper_89 rfl rfl ?_
            refine r_get O FX8_7 G_124_0 dX8_addHelper_90 ?_
            refine r_iconst (x := 2) O dX8_addHelper_93 rfl ?_
            refine r_dup2 O dX8_addHelper_94 rfl rfl ?_
            refine r_iald O R_125 (g_vin (by decide) (by decide)) dX8_addHelper_95 ?_
            refine r_iconst (x := 1) O dX8_addHelper_96 rfl ?_
            refine r_iadd O dX8_addHelper_97 ?_
            refine r_iastM O T_125 (g_vin (by decide) (by decide)) dX8_addHelper_98 ?_
            refine r_aload_n O 0 dX8_addHelper_99 rfl rfl ?_
            refine r_iload_n O 2 dX8_addHelper_100 rfl rfl ?_
            refine r_callVi O [.int ((R_X8_hold s) (2))] [] (met_X8_ends (g_xl X) hs lm pm m (upd s_48 (2) ((s_48 (2)) + 1)) ((R_X8_hold s) (2)) (by first | decide | with_reducible assumption | with_reducible omega | (simp (disch := omega) only [g_upd_ne, g_upd_eq, fr_X8_walks, fr_X8_sets, hold_ne, fr_leaves_hi, fr_gives_hi, begins_hi]; first | with_reducible assumption | with_reducible omega | decide) | exact Or.inl rfl | exact Or.inr rfl) (by first | decide | with_reducible assumption | with_reducible omega | (simp (disch := omega) only [g_upd_ne, g_upd_eq, fr_X8_walks, fr_X8_sets, hold_ne, fr_leaves_hi, fr_gives_hi, begins_hi]; first | with_reducible assumption | with_reducible omega | decide) | exact Or.inl rfl | exact Or.inr rfl)) LX8_64 obj_124 rfl rfl rfl dX8_addHelper_101 rfl rfl ?_
            exact r_iret O dX8_addHelper_104 rfl (Nat.le_of_ble_eq_true rfl) (Nat.le_of_ble_eq_true rfl) rfl
          · have e_51 : (nI k).toInt < (9 : Int) := j_nleL c_51 rfl
            refine r_aload_n O 0 dX8_addHelper_54 rfl rfl ?_
            refine r_iload_n O 2 dX8_addHelper_55 rfl rfl ?_
            refine r_iload_n O 3 dX8_addHelper_56 rfl rfl ?_
            refine r_iload_n O 3 dX8_addHelper_57 rfl rfl ?_
            have J_80 : ∀ (t0_80 : Int32), g_V X (fun r : Int32 × (Nat → Int32) => ((.inl (some (.int r.1)), (m, r.2, lm, pm)) : g_Res)) (R_X8_addHelper_80 s ((R_X8_addHelper_48 s x1 f_48)) k s_48 t0_80) 0 0 m (s_48, lm, pm) 80 [(0, .ref (g_ad X 124)), (1, .int x1), (2, .int ((R_X8_hold s) (2))), (3, .int (nI k))] [.int t0_80, .int (nI k), .int ((R_X8_hold s) (2)), .ref (g_ad X 124)] := by
              intro t0_80
              refine r_callVv O [.int ((R_X8_hold s) (2)), .int (nI k), .int t0_80] [] (met_X8_lays (g_xl X) hs lm pm m s_48 ((R_X8_hold s) (2)) (nI k) t0_80 (by first | decide | with_reducible assumption | with_reducible omega | (simp (disch := omega) only [g_upd_ne, g_upd_eq, fr_X8_walks, fr_X8_sets, hold_ne, fr_leaves_hi, fr_gives_hi, begins_hi]; first | with_reducible assumption | with_reducible omega | decide) | exact Or.inl rfl | exact Or.inr rfl) (by first | decide | with_reducible assumption | with_reducible omega | (simp (disch := omega) only [g_upd_ne, g_upd_eq, fr_X8_walks, fr_X8_sets, hold_ne, fr_leaves_hi, fr_gives_hi, begins_hi]; first | with_reducible assumption | with_reducible omega | decide) | exact Or.inl rfl | exact Or.inr rfl) (by first | decide | with_reducible assumption | with_reducible omega | (simp (disch := omega) only [g_upd_ne, g_upd_eq, fr_X8_walks, fr_X8_sets, hold_ne, fr_leaves_hi, fr_gives_hi, begins_hi]; first | with_reducible assumption | with_reducible omega | decide) | exact Or.inl rfl | exact Or.inr rfl) (by first | decide | with_reducible assumption | with_reducible omega | (simp (disch := omega) only [g_upd_ne, g_upd_eq, fr_X8_walks, fr_X8_sets, hold_ne, fr_leaves_hi, fr_gives_hi, begins_hi]; first | with_reducible assumption | with_reducible omega | decide) | exact Or.inl rfl | exact Or.inr rfl)) LX8_76 obj_124 rfl rfl rfl dX8_addHelper_80 rfl rfl ?_
              refine r_iinc (lc' := [(3, .int (nI (k + 1))), (0, .ref (g_ad X 124)), (1, .int x1), (2, .int ((R_X8_hold s) (2)))]) O 3 dX8_addHelper_83 rfl (nI_1 k) (hN 3 rfl) rfl ?_
              refine r_goto O 48 dX8_addHelper_86 (by decide) ?_
              refine r_sub [1, 2, 3, 0] rfl ?_
              exact ih_48 (k + 1) (R_X8_lays s_48 ((R_X8_hold s) (2)) (nI k) t0_80) ⟨(by with_reducible omega), (by with_reducible omega), by rw [fr_lays (by omega) (by omega) (by omega) (by omega)]; exact hi3, by rw [fr_lays (by omega) (by omega) (by omega) (by omega)]; exact hi4⟩
            refine r_if_ne O 65 dX8_addHelper_58 (by decide) (fun c_58 => ?_) (fun c_58 => ?_)
            · have e_58 : (nI k).toInt = (0 : Int) := j_eqR c_58 rfl
              refine r_iload_n O 1 dX8_addHelper_61 rfl rfl ?_
              refine r_goto O 80 dX8_addHelper_62 (by decide) ?_
              exact J_80 x1
            · have e_58 : (nI k).toInt ≠ (0 : Int) := j_neR c_58 rfl
              refine r_iload_n O 3 dX8_addHelper_65 rfl rfl ?_
              refine r_iconst (x := 3) O dX8_addHelper_66 rfl ?_
              have J_75 : g_V X (fun r : Int32 × (Nat → Int32) => ((.inl (some (.int r.1)), (m, r.2, lm, pm)) : g_Res)) (R_X8_addHelper_75 s ((R_X8_addHelper_48 s x1 f_48)) k s_48 ) 0 0 m (s_48, lm, pm) 75 [(0, .ref (g_ad X 124)), (1, .int x1), (2, .int ((R_X8_hold s) (2))), (3, .int (nI k))] [.int (nI k), .int ((R_X8_hold s) (2)), .ref (g_ad X 124)] := by
                refine r_iconst (x := (-1)) O dX8_addHelper_75 rfl ?_
                refine r_goto O 80 dX8_addHelper_76 (by decide) ?_
                exact J_80 (-1)
              refine r_icmp_eq O 75 dX8_addHelper_67 (by decide) (fun c_67 => ?_) (fun c_67 => ?_)
              · have e_67 : (nI k).toInt = (3 : Int) := j_eqR c_67 rfl
                exact J_75
              · have e_67 : (nI k).toInt ≠ (3 : Int) := j_neR c_67 rfl
                refine r_iload_n O 3 dX8_addHelper_70 rfl rfl ?_
                refine r_iconst (x := 5) O dX8_addHelper_71 rfl ?_
                refine r_icmp_ne O 79 dX8_addHelper_72 (by decide) (fun c_72 => ?_) (fun c_72 => ?_)
                · have e_72 : (nI k).toInt = (5 : Int) := j_eqR c_72 rfl
                  exact J_75
                · have e_72 : (nI k).toInt ≠ (5 : Int) := j_neR c_72 rfl
                  refine r_iconst (x := 0) O dX8_addHelper_79 rfl ?_
                  exact J_80 0
      refine r_sub [2, 3, 1, 0] rfl ?_
      exact L_48 10 0 (R_X8_hold s) ⟨(by with_reducible omega), (by with_reducible omega), rfl, rfl⟩
theorem met_X8_addHelper (l : Launch) (hs : l.stackTraces = false) (lm : Nat → Int64) (pm : Nat → Nat) (m : Nat → Int32) (s : Nat → Int32) (x1 : Int32) (p0 : g_J s) (p1 : 0 ≤ (s 1300).toInt) (p2 : (s 1300).toInt ≤ 4) : g_SM l yX8_addHelper cX8_addHelper 4 (some .int) ({ frames := 2, cells := 0, slots := 0, locals := 43 } : Room) (fun ad => [.ref (ad 124), .int x1]) m (s, lm, pm) ((fun r : Int32 × (Nat → Int32) => ((.inl (some (.int r.1)), (m, r.2, lm, pm)) : g_Res)) (R_X8_addHelper s x1)) :=
  g_sm_of (by decide) (fun _ => Nat.le_of_ble_eq_true rfl) hs (fun X hl hn O => walk_X8_addHelper O (by rw [hl]; exact hs) hn p0 p1 p2)
def R_X8_begin (s : Nat → Int32) (x1 : Int32) : (Int32 × (Nat → Int32)) := (if (R_X8_in s x1 1 7) = 0 then ((R_X8_fails s 1).1, (R_X8_fails s 1).2) else ((R_X8_ends (R_X8_begins (R_X8_hold s) x1) ((R_X8_begins (R_X8_hold s) x1) (203))).1, (R_X8_ends (R_X8_begins (R_X8_hold s) x1) ((R_X8_begins (R_X8_hold s) x1) (203))).2))
set_option maxRecDepth 100000 in
set_option maxHeartbeats 4000000 in
theorem walk_X8_begin {X : g_X} (O : g_ok X cX8_begin RX8 (some .int) ({ frames := 2, cells := 0, slots := 0, locals := 43 } : Room)) (hs : (g_xl X).stackTraces = false) (hn : g_xn X = 2) {m : Nat → Int32} {lm : Nat → Int64} {pm : Nat → Nat} {s : Nat → Int32} {x1 : Int32} (p0 : g_J s) (p1 : 0 ≤ (s 1300).toInt) (p2 : (s 1300).toInt ≤ 4) : g_V X (fun r : Int32 × (Nat → Int32) => ((.inl (some (.int r.1)), (m, r.2, lm, pm)) : g_Res)) (R_X8_begin s x1) 0 0 m (s, lm, pm) 0 [(0, .ref (g_ad X 124)), (1, .int x1)] [] := by
  have hN : ∀ i, Nat.blt i 2 = true → i < g_xn X := fun i h => by rw [hn]; exact g_blt.mp h
  obtain ⟨n0, n1, n2, n4, n6, n12, n3⟩ := p0.n
  refine r_iload_n O 1 dX8_begin_0 rfl rfl ?_
  refine r_iconst (x := 1) O dX8_begin_1 rfl ?_
  refine r_bipush (x := 7) O dX8_begin_2 rfl ?_
  refine r_callSi O [.int x1, .int 1, .int 7] [] (met_X8_in (g_xl X) hs lm pm m s x1 1 7 ) LX8_54 rfl rfl rfl dX8_begin_4 rfl rfl ?_
  refine r_if_ne O 16 dX8_begin_7 (by decide) (fun c_7 => ?_) (fun c_7 => ?_)
  · have e_7 : (R_X8_in s x1 1 7).toInt = (0 : Int) := j_eqR c_7 rfl
    refine r_aload_n O 0 dX8_begin_10 rfl rfl ?_
    refine r_iconst (x := 1) O dX8_begin_11 rfl ?_
    refine r_callVi O [.int 1] [] (met_X8_fails (g_xl X) hs lm pm m s 1 ) LX8_58 obj_124 rfl rfl rfl dX8_begin_12 rfl rfl ?_
    exact r_iret O dX8_begin_15 rfl (Nat.le_of_ble_eq_true rfl) (Nat.le_of_ble_eq_true rfl) rfl
  · have e_7 : (R_X8_in s x1 1 7).toInt ≠ (0 : Int) := j_neR c_7 rfl
    have z_7a : (1 : Int) ≤ (x1).toInt := (nz_X8_in c_7).1
    have z_7b : (x1).toInt ≤ (7 : Int) := (nz_X8_in c_7).2
    refine r_aload_n O 0 dX8_begin_16 rfl rfl ?_
    refine r_callVv O [] [] (met_X8_hold (g_xl X) hs lm pm m s ) LX8_61 obj_124 rfl rfl rfl dX8_begin_17 rfl rfl ?_
    have hJ_17 : g_J (R_X8_hold s) := J_hold p0
    refine r_aload_n O 0 dX8_begin_20 rfl rfl ?_
    refine r_iload_n O 1 dX8_begin_21 rfl rfl ?_
    refine r_callVv O [.int x1] [] (met_X8_begins (g_xl X) hs lm pm m (R_X8_hold s) x1 ) LX8_22 obj_124 rfl rfl rfl dX8_begin_22 rfl rfl ?_
    refine r_aload_n O 0 dX8_begin_25 rfl rfl ?_
    refine r_aload_n O 0 dX8_begin_26 rfl rfl ?_
    refine r_get O FX8_16 G_124_2 dX8_begin_27 ?_
    refine r_iconst (x := 3) O dX8_begin_30 rfl ?_
    refine r_iald O R_127 (g_vin (by decide) (by decide)) dX8_begin_31 ?_
    refine r_callVi O [.int ((R_X8_begins (R_X8_hold s) x1) (203))] [] (met_X8_ends (g_xl X) hs lm pm m (R_X8_begins (R_X8_hold s) x1) ((R_X8_begins (R_X8_hold s) x1) (203)) (by first | decide | with_reducible assumption | with_reducible omega | (simp (disch := omega) only [g_upd_ne, g_upd_eq, fr_X8_walks, fr_X8_sets, hold_ne, fr_leaves_hi, fr_gives_hi, begins_hi]; first | with_reducible assumption | with_reducible omega | decide) | exact Or.inl rfl | exact Or.inr rfl) (by first | decide | with_reducible assumption | with_reducible omega | (simp (disch := omega) only [g_upd_ne, g_upd_eq, fr_X8_walks, fr_X8_sets, hold_ne, fr_leaves_hi, fr_gives_hi, begins_hi]; first | with_reducible assumption | with_reducible omega | decide) | exact Or.inl rfl | exact Or.inr rfl)) LX8_64 obj_124 rfl rfl rfl dX8_begin_32 rfl rfl ?_
    exact r_iret O dX8_begin_35 rfl (Nat.le_of_ble_eq_true rfl) (Nat.le_of_ble_eq_true rfl) rfl
theorem met_X8_begin (l : Launch) (hs : l.stackTraces = false) (lm : Nat → Int64) (pm : Nat → Nat) (m : Nat → Int32) (s : Nat → Int32) (x1 : Int32) (p0 : g_J s) (p1 : 0 ≤ (s 1300).toInt) (p2 : (s 1300).toInt ≤ 4) : g_SM l yX8_begin cX8_begin 2 (some .int) ({ frames := 2, cells := 0, slots := 0, locals := 43 } : Room) (fun ad => [.ref (ad 124), .int x1]) m (s, lm, pm) ((fun r : Int32 × (Nat → Int32) => ((.inl (some (.int r.1)), (m, r.2, lm, pm)) : g_Res)) (R_X8_begin s x1)) :=
  g_sm_of (by decide) (fun _ => Nat.le_of_ble_eq_true rfl) hs (fun X hl hn O => walk_X8_begin O (by rw [hl]; exact hs) hn p0 p1 p2)
