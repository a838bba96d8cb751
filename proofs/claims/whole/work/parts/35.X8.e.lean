/-! ===== the model: minutes ===== -/
theorem J_hi {s : Nat → Int32} {n : Nat} {x : Int32} (hn : 178 ≤ n) (h : g_J s) : g_J (upd s n x) := h.congr fun k hk => g_upd_ne (by omega)
def R_X8_minute_180 (v1_65 : Int32) (s_65 : Nat → Int32) (t0_180 : Int32) : (Int32 × (Nat → Int32)) := (v1_65, (upd (upd (upd s_65 (6) t0_180) (7) (((upd s_65 (6) t0_180) (7)) + v1_65)) (3) (((upd (upd s_65 (6) t0_180) (7) (((upd s_65 (6) t0_180) (7)) + v1_65)) (3)) + 1)))
def R_X8_minute_164 (s_2 : Nat → Int32) (v1_65 : Int32) (y : Nat) (s_65 : Nat → Int32) : (Int32 × (Nat → Int32)) := (if (R_X8_in s_2 (s_2 (3)) (s_2 (9)) ((s_2 (10)) - 1)) = 0 then (R_X8_minute_180 v1_65 s_65 (nI y)) else (R_X8_minute_180 v1_65 s_65 (s_2 (6))))
def R_X8_minute_158 (K_65 : Int32 → Nat → Nat → (Nat → Int32) → (Int32 × (Nat → Int32))) (k : Nat) (v1_158 : Int32) (y2 : Nat) (s_158 : Nat → Int32) : (Int32 × (Nat → Int32)) := (K_65 v1_158 y2 (k + 1) s_158)
def R_X8_minute_118 (s : Nat → Int32) (K_65 : Int32 → Nat → Nat → (Nat → Int32) → (Int32 × (Nat → Int32))) (v1_65 : Int32) (y : Nat) (k : Nat) : Nat → Nat → (Nat → Int32) → (Int32 × (Nat → Int32))
  | 0, _, _ => (0, s)
  | f + 1, j, s_118 => (if 3 ≤ (nI j) then (R_X8_minute_158 K_65 k v1_65 (y + 1) s_118) else ((R_X8_minute_118 s K_65 v1_65 y k f) (j + 1) (upd s_118 (((112 + (3 * (nI y))) + (nI j)).toNatClampNeg) (s_118 (((112 + (3 * (nI k))) + (nI j)).toNatClampNeg)))))
def R_X8_minute_65 (s : Nat → Int32) (s_2 : Nat → Int32) : Nat → Int32 → Nat → Nat → (Nat → Int32) → (Int32 × (Nat → Int32))
  | 0, _, _, _, _ => (0, s)
  | f + 1, v1_65, y, k, s_65 => (if (s_2 (6)) ≤ (nI k) then (R_X8_minute_164 s_2 v1_65 y s_65 ) else (if (R_X8_in s_2 (s_2 (3)) (s_2 (9)) ((s_2 (10)) - 1)) = 0 then (if ((upd s_65 (((112 + (3 * (nI k))) + 2).toNatClampNeg) ((s_65 (((112 + (3 * (nI k))) + 2).toNatClampNeg)) - 1)) (((112 + (3 * (nI k))) + 2).toNatClampNeg)) = 0 then (R_X8_minute_158 (R_X8_minute_65 s s_2 f) k (v1_65 + 1) y (upd s_65 (((112 + (3 * (nI k))) + 2).toNatClampNeg) ((s_65 (((112 + (3 * (nI k))) + 2).toNatClampNeg)) - 1))) else (R_X8_minute_118 s (R_X8_minute_65 s s_2 f) v1_65 y k 4 0 (upd s_65 (((112 + (3 * (nI k))) + 2).toNatClampNeg) ((s_65 (((112 + (3 * (nI k))) + 2).toNatClampNeg)) - 1)))) else (R_X8_minute_164 s_2 v1_65 y s_65 )))
def R_X8_minute_2 (s : Nat → Int32) : Nat → Nat → (Nat → Int32) → (Int32 × (Nat → Int32))
  | 0, _, _ => (0, s)
  | f + 1, h, s_2 => (if (s_2 (2)) ≤ (nI h) then (R_X8_minute_65 s s_2 11 0 0 0 s_2) else ((R_X8_minute_2 s f) (h + 1) (R_X8_minuteOf s_2 (nI h))))
def R_X8_minute (s : Nat → Int32) : (Int32 × (Nat → Int32)) := (R_X8_minute_2 s 7 0 s)
set_option maxRecDepth 100000 in
set_option maxHeartbeats 4000000 in
theorem walk_X8_minute {X : g_X} (O : g_ok X cX8_minute RX8 (some .int) ({ frames := 5, cells := 0, slots := 0, locals := 118 } : Room)) (hs : (g_xl X).stackTraces = false) (hn : g_xn X = 8) {m : Nat → Int32} {lm : Nat → Int64} {pm : Nat → Nat} {s : Nat → Int32} (p0 : g_J s) : g_V X (fun r : Int32 × (Nat → Int32) => ((.inl (some (.int r.1)), (m, r.2, lm, pm)) : g_Res)) (R_X8_minute s) 0 0 m (s, lm, pm) 0 [(0, .ref (g_ad X 124))] [] := by
  have hN : ∀ i, Nat.blt i 8 = true → i < g_xn X := fun i h => by rw [hn]; exact g_blt.mp h
  refine r_iconst (x := 0) O dX8_minute_0 rfl ?_
  refine r_istore_n (lc' := [(1, .int 0), (0, .ref (g_ad X 124))]) O dX8_minute_1 rfl (hN 1 rfl) rfl ?_
  have L_2 : ∀ (f_2 : Nat) (h : Nat) (s_2 : Nat → Int32) (hi_2 : h ≤ 6 ∧ 6 < f_2 + h ∧ g_J s_2), g_V X (fun r : Int32 × (Nat → Int32) => ((.inl (some (.int r.1)), (m, r.2, lm, pm)) : g_Res)) (R_X8_minute_2 s f_2 h s_2) 0 0 m (s_2, lm, pm) 2 [(0, .ref (g_ad X 124)), (1, .int (nI h))] [] := by
    intro f_2
    induction f_2 with
    | zero => intro h s_2 hi_2; exact absurd hi_2 (by omega)
    | succ f_2 ih_2 =>
      intro h s_2 hi_2
      have hc_h : (nI h).toInt = (h : Int) := nI_toInt (by omega)
      obtain ⟨hi1, hi2, hJ⟩ := hi_2
      obtain ⟨n0, n1, n2, n4, n6, n12, n3⟩ := hJ.n
      refine r_iload_n O 1 dX8_minute_2 rfl rfl ?_
      refine r_aload_n O 0 dX8_minute_3 rfl rfl ?_
      refine r_get O FX8_7 G_124_0 dX8_minute_4 ?_
      refine r_iconst (x := 2) O dX8_minute_7 rfl ?_
      refine r_iald O R_125 (g_vin (by decide) (by decide)) dX8_minute_8 ?_
      refine r_icmp_ge O 23 dX8_minute_9 (by decide) (fun c_9 => ?_) (fun c_9 => ?_)
      · have e_9 : (s_2 (2)).toInt ≤ (nI h).toInt := j_le c_9
        refine r_iconst (x := 0) O dX8_minute_23 rfl ?_
        refine r_istore_n (lc' := [(1, .int 0), (0, .ref (g_ad X 124))]) O dX8_minute_24 rfl (hN 1 rfl) rfl ?_
        refine r_aload_n O 1 dX8_minute_25 rfl rfl ?_
        refine r_get O FX8_7 G_124_0 dX8_minute_26 ?_
        refine r_iconst (x := 3) O dX8_minute_29 rfl ?_
        refine r_iald O R_125 (g_vin (by decide) (by decide)) dX8_minute_30 ?_
        refine r_aload_n O 1 dX8_minute_31 rfl rfl ?_
        refine r_get O FX8_7 G_124_0 dX8_minute_32 ?_
        refine r_bipush (x := 9) O dX8_minute_35 rfl ?_
        refine r_iald O R_125 (g_vin (by decide) (by decide)) dX8_minute_37 ?_
        refine r_aload_n O 1 dX8_minute_38 rfl rfl ?_
        refine r_get O FX8_7 G_124_0 dX8_minute_39 ?_
        refine r_bipush (x := 10) O dX8_minute_42 rfl ?_
        refine r_iald O R_125 (g_vin (by decide) (by decide)) dX8_minute_44 ?_
        refine r_iconst (x := 1) O dX8_minute_45 rfl ?_
        refine r_isub O dX8_minute_46 ?_
        refine r_callSi O [.int (s_2 (3)), .int (s_2 (9)), .int ((s_2 (10)) - 1)] [] (met_X8_in (g_xl X) hs lm pm m s_2 (s_2 (3)) (s_2 (9)) ((s_2 (10)) - 1) ) LX8_54 rfl rfl rfl dX8_minute_47 rfl rfl ?_
        refine r_istore_n (lc' := [(2, .int (R_X8_in s_2 (s_2 (3)) (s_2 (9)) ((s_2 (10)) - 1))), (1, .int 0), (0, .ref (g_ad X 124))]) O dX8_minute_50 rfl (hN 2 rfl) rfl ?_
        refine r_aload_n O 2 dX8_minute_51 rfl rfl ?_
        refine r_get O FX8_7 G_124_0 dX8_minute_52 ?_
        refine r_bipush (x := 6) O dX8_minute_55 rfl ?_
        refine r_iald O R_125 (g_vin (by decide) (by decide)) dX8_minute_57 ?_
        refine r_istore_n (lc' := [(3, .int (s_2 (6))), (2, .int (R_X8_in s_2 (s_2 (3)) (s_2 (9)) ((s_2 (10)) - 1))), (1, .int 0), (0, .ref (g_ad X 124))]) O dX8_minute_58 rfl (hN 3 rfl) rfl ?_
        refine r_iconst (x := 0) O dX8_minute_59 rfl ?_
        refine r_istore (lc' := [(4, .int 0), (3, .int (s_2 (6))), (2, .int (R_X8_in s_2 (s_2 (3)) (s_2 (9)) ((s_2 (10)) - 1))), (1, .int 0), (0, .ref (g_ad X 124))]) O dX8_minute_60 (hN 4 rfl) rfl ?_
        refine r_iconst (x := 0) O dX8_minute_62 rfl ?_
        refine r_istore (lc' := [(5, .int 0), (4, .int 0), (3, .int (s_2 (6))), (2, .int (R_X8_in s_2 (s_2 (3)) (s_2 (9)) ((s_2 (10)) - 1))), (1, .int 0), (0, .ref (g_ad X 124))]) O dX8_minute_63 (hN 5 rfl) rfl ?_
        have L_65 : ∀ (f_65 : Nat) (v1_65 : Int32) (y : Nat) (k : Nat) (s_65 : Nat → Int32) (hi_65 : y ≤ k ∧ k ≤ 10 ∧ 10 < f_65 + k), g_V X (fun r : Int32 × (Nat → Int32) => ((.inl (some (.int r.1)), (m, r.2, lm, pm)) : g_Res)) (R_X8_minute_65 s s_2 f_65 v1_65 y k s_65) 0 0 m (s_65, lm, pm) 65 [(0, .ref (g_ad X 124)), (1, .int v1_65), (2, .int (R_X8_in s_2 (s_2 (3)) (s_2 (9)) ((s_2 (10)) - 1))), (3, .int (s_2 (6))), (4, .int (nI y)), (5, .int (nI k))] [] := by
          intro f_65
          induction f_65 with
          | zero => intro v1_65 y k s_65 hi_65; exact absurd hi_65 (by omega)
          | succ f_65 ih_65 =>
            intro v1_65 y k s_65 hi_65
            have hc_y : (nI y).toInt = (y : Int) := nI_toInt (by omega)
            have hc_k : (nI k).toInt = (k : Int) := nI_toInt (by omega)
            refine r_iload O 5 dX8_minute_65 rfl ?_
            refine r_iload_n O 3 dX8_minute_67 rfl rfl ?_
            have J_164 : g_V X (fun r : Int32 × (Nat → Int32) => ((.inl (some (.int r.1)), (m, r.2, lm, pm)) : g_Res)) (R_X8_minute_164 s_2 v1_65 y s_65 ) 0 0 m (s_65, lm, pm) 164 [(0, .ref (g_ad X 124)), (1, .int v1_65), (2, .int (R_X8_in s_2 (s_2 (3)) (s_2 (9)) ((s_2 (10)) - 1))), (3, .int (s_2 (6))), (4, .int (nI y))] [] := by
              refine r_aload_n O 0 dX8_minute_164 rfl rfl ?_
              refine r_get O FX8_7 G_124_0 dX8_minute_165 ?_
              refine r_bipush (x := 6) O dX8_minute_168 rfl ?_
              refine r_iload_n O 2 dX8_minute_170 rfl rfl ?_
              have J_180 : ∀ (t0_180 : Int32), g_V X (fun r : Int32 × (Nat → Int32) => ((.inl (some (.int r.1)), (m, r.2, lm, pm)) : g_Res)) (R_X8_minute_180 v1_65 s_65 t0_180) 0 0 m (s_65, lm, pm) 180 [(0, .ref (g_ad X 124)), (1, .int v1_65)] [.int t0_180, .int 6, .ref (g_ad X 125)] := by
                intro t0_180
                refine r_iastM O T_125 (g_vin (by decide) (by decide)) dX8_minute_180 ?_
                refine r_aload_n O 0 dX8_minute_181 rfl rfl ?_
                refine r_get O FX8_7 G_124_0 dX8_minute_182 ?_
                refine r_bipush (x := 7) O dX8_minute_185 rfl ?_
                refine r_dup2 O dX8_minute_187 rfl rfl ?_
                refine r_iald O R_125 (g_vin (by decide) (by decide)) dX8_minute_188 ?_
                refine r_iload_n O 1 dX8_minute_189 rfl rfl ?_
                refine r_iadd O dX8_minute_190 ?_
                refine r_iastM O T_125 (g_vin (by decide) (by decide)) dX8_minute_191 ?_
                refine r_aload_n O 0 dX8_minute_192 rfl rfl ?_
                refine r_get O FX8_7 G_124_0 dX8_minute_193 ?_
                refine r_iconst (x := 3) O dX8_minute_196 rfl ?_
                refine r_dup2 O dX8_minute_197 rfl rfl ?_
                refine r_iald O R_125 (g_vin (by decide) (by decide)) dX8_minute_198 ?_
                refine r_iconst (x := 1) O dX8_minute_199 rfl ?_
                refine r_iadd O dX8_minute_200 ?_
                refine r_iastM O T_125 (g_vin (by decide) (by decide)) dX8_minute_201 ?_
                refine r_iload_n O 1 dX8_minute_202 rfl rfl ?_
                exact r_iret O dX8_minute_203 rfl (Nat.le_of_ble_eq_true rfl) (Nat.le_of_ble_eq_true rfl) rfl
              refine r_if_eq O 178 dX8_minute_171 (by decide) (fun c_171 => ?_) (fun c_171 => ?_)
              · have e_171 : (R_X8_in s_2 (s_2 (3)) (s_2 (9)) ((s_2 (10)) - 1)).toInt = (0 : Int) := j_eqR c_171 rfl
                refine r_iload O 4 dX8_minute_178 rfl ?_
                refine r_sub [0, 1] rfl ?_
                exact J_180 (nI y)
              · have e_171 : (R_X8_in s_2 (s_2 (3)) (s_2 (9)) ((s_2 (10)) - 1)).toInt ≠ (0 : Int) := j_neR c_171 rfl
                have z_171a : (s_2 (9)).toInt ≤ (s_2 (3)).toInt := (nz_X8_in c_171).1
                have z_171b : (s_2 (3)).toInt ≤ ((s_2 (10)) - 1).toInt := (nz_X8_in c_171).2
                refine r_iload_n O 3 dX8_minute_174 rfl rfl ?_
                refine r_goto O 180 dX8_minute_175 (by decide) ?_
                refine r_sub [0, 1] rfl ?_
                exact J_180 (s_2 (6))
            refine r_icmp_ge O 164 dX8_minute_68 (by decide) (fun c_68 => ?_) (fun c_68 => ?_)
            · have e_68 : (s_2 (6)).toInt ≤ (nI k).toInt := j_le c_68
              refine r_sub [0, 1, 2, 3, 4] rfl ?_
              exact J_164
            · have e_68 : (nI k).toInt < (s_2 (6)).toInt := j_nle c_68
              refine r_iload_n O 2 dX8_minute_71 rfl rfl ?_
              refine r_if_ne O 164 dX8_minute_72 (by decide) (fun c_72 => ?_) (fun c_72 => ?_)
              · have e_72 : (R_X8_in s_2 (s_2 (3)) (s_2 (9)) ((s_2 (10)) - 1)).toInt = (0 : Int) := j_eqR c_72 rfl
                refine r_bipush (x := 112) O dX8_minute_75 rfl ?_
                refine r_iconst (x := 3) O dX8_minute_77 rfl ?_
                refine r_iload O 5 dX8_minute_78 rfl ?_
                refine r_imul O dX8_minute_80 ?_
                refine r_iadd O dX8_minute_81 ?_
                refine r_istore (lc' := [(6, .int (112 + (3 * (nI k)))), (0, .ref (g_ad X 124)), (1, .int v1_65), (2, .int (R_X8_in s_2 (s_2 (3)) (s_2 (9)) ((s_2 (10)) - 1))), (3, .int (s_2 (6))), (4, .int (nI y)), (5, .int (nI k))]) O dX8_minute_82 (hN 6 rfl) rfl ?_
                refine r_aload_n O 1 dX8_minute_84 rfl rfl ?_
                refine r_get O FX8_7 G_124_0 dX8_minute_85 ?_
                refine r_iload O 0 dX8_minute_88 rfl ?_
                refine r_iconst (x := 2) O dX8_minute_90 rfl ?_
                refine r_iadd O dX8_minute_91 ?_
                refine r_dup2 O dX8_minute_92 rfl rfl ?_
                have ix_93 : ((112 + (3 * (nI k))) + 2).toInt = (((112 : Int) + ((3 : Int) * (nI k).toInt)) + (2 : Int)) := (j_addE (j_addE rfl (j_mulE rfl rfl (by with_reducible omega) (by with_reducible omega)) (by with_reducible omega) (by with_reducible omega)) rfl (by with_reducible omega) (by with_reducible omega))
                have iy_93 := j_nat (x := ((112 + (3 * (nI k))) + 2)) (by with_reducible omega)
                refine r_iald O R_125 (show vp_in ((112 + (3 * (nI k))) + 2) 178 from g_vin (by with_reducible omega) (by with_reducible omega)) dX8_minute_93 ?_
                refine r_iconst (x := 1) O dX8_minute_94 rfl ?_
                refine r_isub O dX8_minute_95 ?_
                have ix_96 : ((112 + (3 * (nI k))) + 2).toInt = (((112 : Int) + ((3 : Int) * (nI k).toInt)) + (2 : Int)) := (j_addE (j_addE rfl (j_mulE rfl rfl (by with_reducible omega) (by with_reducible omega)) (by with_reducible omega) (by with_reducible omega)) rfl (by with_reducible omega) (by with_reducible omega))
                have iy_96 := j_nat (x := ((112 + (3 * (nI k))) + 2)) (by with_reducible omega)
                refine r_iastM O T_125 (show vp_in ((112 + (3 * (nI k))) + 2) 178 from g_vin (by with_reducible omega) (by with_reducible omega)) dX8_minute_96 ?_
                refine r_aload_n O 1 dX8_minute_97 rfl rfl ?_
                refine r_get O FX8_7 G_124_0 dX8_minute_98 ?_
                refine r_iload O 0 dX8_minute_101 rfl ?_
                refine r_iconst (x := 2) O dX8_minute_103 rfl ?_
                refine r_iadd O dX8_minute_104 ?_
                have ix_105 : ((112 + (3 * (nI k))) + 2).toInt = (((112 : Int) + ((3 : Int) * (nI k).toInt)) + (2 : Int)) := (j_addE (j_addE rfl (j_mulE rfl rfl (by with_reducible omega) (by with_reducible omega)) (by with_reducible omega) (by with_reducible omega)) rfl (by with_reducible omega) (by with_reducible omega))
                have iy_105 := j_nat (x := ((112 + (3 * (nI k))) + 2)) (by with_reducible omega)
                refine r_iald O R_125 (show vp_in ((112 + (3 * (nI k))) + 2) 178 from g_vin (by with_reducible omega) (by with_reducible omega)) dX8_minute_105 ?_
                have J_158 : ∀ (v1_158 : Int32) (y2 : Nat) (s_158 : Nat → Int32) (hj0 : y2 ≤ k + 1), g_V X (fun r : Int32 × (Nat → Int32) => ((.inl (some (.int r.1)), (m, r.2, lm, pm)) : g_Res)) (R_X8_minute_158 ((R_X8_minute_65 s s_2 f_65)) k v1_158 y2 s_158) 0 0 m (s_158, lm, pm) 158 [(0, .ref (g_ad X 124)), (1, .int v1_158), (2, .int (R_X8_in s_2 (s_2 (3)) (s_2 (9)) ((s_2 (10)) - 1))), (3, .int (s_2 (6))), (4, .int (nI y2)), (5, .int (nI k))] [] := by
                  intro v1_158 y2 s_158 hj0
                  refine r_iinc (lc' := [(5, .int (nI (k + 1))), (0, .ref (g_ad X 124)), (1, .int v1_158), (2, .int (R_X8_in s_2 (s_2 (3)) (s_2 (9)) ((s_2 (10)) - 1))), (3, .int (s_2 (6))), (4, .int (nI y2))]) O 5 dX8_minute_158 rfl (nI_1 k) (hN 5 rfl) rfl ?_
                  refine r_goto O 65 dX8_minute_161 (by decide) ?_
                  refine r_sub [1, 2, 3, 4, 5, 0] rfl ?_
                  exact ih_65 v1_158 y2 (k + 1) s_158 (by with_reducible omega)
                refine r_if_ne O 115 dX8_minute_106 (by decide) (fun c_106 => ?_) (fun c_106 => ?_)
                · have e_106 : ((upd s_65 (((112 + (3 * (nI k))) + 2).toNatClampNeg) ((s_65 (((112 + (3 * (nI k))) + 2).toNatClampNeg)) - 1)) (((112 + (3 * (nI k))) + 2).toNatClampNeg)).toInt = (0 : Int) := j_eqR c_106 rfl
                  refine r_iinc (lc' := [(1, .int (v1_65 + 1)), (6, .int (112 + (3 * (nI k)))), (0, .ref (g_ad X 124)), (2, .int (R_X8_in s_2 (s_2 (3)) (s_2 (9)) ((s_2 (10)) - 1))), (3, .int (s_2 (6))), (4, .int (nI y)), (5, .int (nI k))]) O 2 dX8_minute_109 rfl rfl (hN 1 rfl) rfl ?_
                  refine r_goto O 158 dX8_minute_112 (by decide) ?_
                  refine r_sub [2, 0, 3, 4, 5, 6] rfl ?_
                  exact J_158 (v1_65 + 1) y (upd s_65 (((112 + (3 * (nI k))) + 2).toNatClampNeg) ((s_65 (((112 + (3 * (nI k))) + 2).toNatClampNeg)) - 1)) (by first | decide | with_reducible assumption | with_reducible omega | (simp (disch := omega) only [g_upd_ne, g_upd_eq, fr_X8_walks, fr_X8_sets]; first | with_reducible assumption | with_reducible omega | decide) | exact Or.inl rfl | exact Or.inr rfl)
                · have e_106 : ((upd s_65 (((112 + (3 * (nI k))) + 2).toNatClampNeg) ((s_65 (((112 + (3 * (nI k))) + 2).toNatClampNeg)) - 1)) (((112 + (3 * (nI k))) + 2).toNatClampNeg)).toInt ≠ (0 : Int) := j_neR c_106 rfl
                  refine r_iconst (x := 0) O dX8_minute_115 rfl ?_
                  refine r_istore (lc' := [(7, .int 0), (6, .int (112 + (3 * (nI k)))), (0, .ref (g_ad X 124)), (1, .int v1_65), (2, .int (R_X8_in s_2 (s_2 (3)) (s_2 (9)) ((s_2 (10)) - 1))), (3, .int (s_2 (6))), (4, .int (nI y)), (5, .int (nI k))]) O dX8_minute_116 (hN 7 rfl) rfl ?_
                  have L_118 : ∀ (f_118 : Nat) (j : Nat) (s_118 : Nat → Int32) (hi_118 : j ≤ 3 ∧ 3 < f_118 + j), g_V X (fun r : Int32 × (Nat → Int32) => ((.inl (some (.int r.1)), (m, r.2, lm, pm)) : g_Res)) (R_X8_minute_118 s ((R_X8_minute_65 s s_2 f_65)) v1_65 y k f_118 j s_118) 0 0 m (s_118, lm, pm) 118 [(0, .ref (g_ad X 124)), (1, .int v1_65), (2, .int (R_X8_in s_2 (s_2 (3)) (s_2 (9)) ((s_2 (10)) - 1))), (3, .int (s_2 (6))), (4, .int (nI y)), (5, .int (nI k)), (6, .int (112 + (3 * (nI k)))), (7, .int (nI j))] [] := by
                    intro f_118
                    induction f_118 with
                    | zero => intro j s_118 hi_118; exact absurd hi_118 (by omega)
                    | succ f_118 ih_118 =>
                      intro j s_118 hi_118
                      have hc_j : (nI j).toInt = (j : Int) := nI_toInt (by omega)
                      refine r_iload O 7 dX8_minute_118 rfl ?_
                      refine r_iconst (x := 3) O dX8_minute_120 rfl ?_
                      refine r_icmp_ge O 155 dX8_minute_121 (by decide) (fun c_121 => ?_) (fun c_121 => ?_)
                      · have e_121 : (3 : Int) ≤ (nI j).toInt := j_leL c_121 rfl
                        refine r_iinc (lc' := [(4, .int (nI (y + 1))), (0, .ref (g_ad X 124)), (1, .int v1_65), (2, .int (R_X8_in s_2 (s_2 (3)) (s_2 (9)) ((s_2 (10)) - 1))), (3, .int (s_2 (6))), (5, .int (nI k)), (6, .int (112 + (3 * (nI k)))), (7, .int (nI j))]) O 4 dX8_minute_155 rfl (nI_1 y) (hN 4 rfl) rfl ?_
                        refine r_sub [1, 2, 3, 4, 0, 5] rfl ?_
                        exact J_158 v1_65 (y + 1) s_118 (by first | decide | with_reducible assumption | with_reducible omega | (simp (disch := omega) only [g_upd_ne, g_upd_eq, fr_X8_walks, fr_X8_sets]; first | with_reducible assumption | with_reducible omega | decide) | exact Or.inl rfl | exact Or.inr rfl)
                      · have e_121 : (nI j).toInt < (3 : Int) := j_nleL c_121 rfl
                        refine r_aload_n O 0 dX8_minute_124 rfl rfl ?_
                        refine r_get O FX8_7 G_124_0 dX8_minute_125 ?_
                        refine r_bipush (x := 112) O dX8_minute_128 rfl ?_
                        refine r_iconst (x := 3) O dX8_minute_130 rfl ?_
                        refine r_iload O 4 dX8_minute_131 rfl ?_
                        refine r_imul O dX8_minute_133 ?_
                        refine r_iadd O dX8_minute_134 ?_
                        refine r_iload O 7 dX8_minute_135 rfl ?_
                        refine r_iadd O dX8_minute_137 ?_
                        refine r_aload_n O 0 dX8_minute_138 rfl rfl ?_
                        refine r_get O FX8_7 G_124_0 dX8_minute_139 ?_
                        refine r_iload O 6 dX8_minute_142 rfl ?_
                        refine r_iload O 7 dX8_minute_144 rfl ?_
                        refine r_iadd O dX8_minute_146 ?_
                        have ix_147 : ((112 + (3 * (nI k))) + (nI j)).toInt = (((112 : Int) + ((3 : Int) * (nI k).toInt)) + (nI j).toInt) := (j_addE (j_addE rfl (j_mulE rfl rfl (by with_reducible omega) (by with_reducible omega)) (by with_reducible omega) (by with_reducible omega)) rfl (by with_reducible omega) (by with_reducible omega))
                        have iy_147 := j_nat (x := ((112 + (3 * (nI k))) + (nI j))) (by with_reducible omega)
                        refine r_iald O R_125 (show vp_in ((112 + (3 * (nI k))) + (nI j)) 178 from g_vin (by with_reducible omega) (by with_reducible omega)) dX8_minute_147 ?_
                        have ix_148 : ((112 + (3 * (nI y))) + (nI j)).toInt = (((112 : Int) + ((3 : Int) * (nI y).toInt)) + (nI j).toInt) := (j_addE (j_addE rfl (j_mulE rfl rfl (by with_reducible omega) (by with_reducible omega)) (by with_reducible omega) (by with_reducible omega)) rfl (by with_reducible omega) (by with_reducible omega))
                        have iy_148 := j_nat (x := ((112 + (3 * (nI y))) + (nI j))) (by with_reducible omega)
                        refine r_iastM O T_125 (show vp_in ((112 + (3 * (nI y))) + (nI j)) 178 from g_vin (by with_reducible omega) (by with_reducible omega)) dX8_minute_148 ?_
                        refine r_iinc (lc' := [(7, .int (nI (j + 1))), (0, .ref (g_ad X 124)), (1, .int v1_65), (2, .int (R_X8_in s_2 (s_2 (3)) (s_2 (9)) ((s_2 (10)) - 1))), (3, .int (s_2 (6))), (4, .int (nI y)), (5, .int (nI k)), (6, .int (112 + (3 * (nI k))))]) O 7 dX8_minute_149 rfl (nI_1 j) (hN 7 rfl) rfl ?_
                        refine r_goto O 118 dX8_minute_152 (by decide) ?_
                        refine r_sub [1, 2, 3, 4, 5, 6, 7, 0] rfl ?_
                        exact ih_118 (j + 1) (upd s_118 (((112 + (3 * (nI y))) + (nI j)).toNatClampNeg) (s_118 (((112 + (3 * (nI k))) + (nI j)).toNatClampNeg))) (by with_reducible omega)
                  refine r_sub [2, 3, 4, 5, 6, 7, 1, 0] rfl ?_
                  exact L_118 4 0 (upd s_65 (((112 + (3 * (nI k))) + 2).toNatClampNeg) ((s_65 (((112 + (3 * (nI k))) + 2).toNatClampNeg)) - 1)) (by with_reducible omega)
              · have e_72 : (R_X8_in s_2 (s_2 (3)) (s_2 (9)) ((s_2 (10)) - 1)).toInt ≠ (0 : Int) := j_neR c_72 rfl
                have z_72a : (s_2 (9)).toInt ≤ (s_2 (3)).toInt := (nz_X8_in c_72).1
                have z_72b : (s_2 (3)).toInt ≤ ((s_2 (10)) - 1).toInt := (nz_X8_in c_72).2
                refine r_sub [0, 1, 2, 3, 4] rfl ?_
                exact J_164
        refine r_sub [5, 4, 3, 2, 1, 0] rfl ?_
        exact L_65 11 0 0 0 s_2 (by with_reducible omega)
      · have e_9 : (nI h).toInt < (s_2 (2)).toInt := j_nle c_9
        obtain ⟨jst, jrp⟩ := hJ.h (x := nI h) (by with_reducible omega) (by with_reducible omega)
        refine r_aload_n O 0 dX8_minute_12 rfl rfl ?_
        refine r_iload_n O 1 dX8_minute_13 rfl rfl ?_
        refine r_callVv O [.int (nI h)] [] (met_X8_minuteOf (g_xl X) hs lm pm m s_2 (nI h) (by first | decide | with_reducible assumption | with_reducible omega | (simp (disch := omega) only [g_upd_ne, g_upd_eq, fr_X8_walks, fr_X8_sets]; first | with_reducible assumption | with_reducible omega | decide) | exact Or.inl rfl | exact Or.inr rfl) (by first | decide | with_reducible assumption | with_reducible omega | (simp (disch := omega) only [g_upd_ne, g_upd_eq, fr_X8_walks, fr_X8_sets]; first | with_reducible assumption | with_reducible omega | decide) | exact Or.inl rfl | exact Or.inr rfl) (by first | decide | with_reducible assumption | with_reducible omega | (simp (disch := omega) only [g_upd_ne, g_upd_eq, fr_X8_walks, fr_X8_sets]; first | with_reducible assumption | with_reducible omega | decide) | exact Or.inl rfl | exact Or.inr rfl) (by first | decide | with_reducible assumption | with_reducible omega | (simp (disch := omega) only [g_upd_ne, g_upd_eq, fr_X8_walks, fr_X8_sets]; first | with_reducible assumption | with_reducible omega | decide) | exact Or.inl rfl | exact Or.inr rfl) (by first | decide | with_reducible assumption | with_reducible omega | (simp (disch := omega) only [g_upd_ne, g_upd_eq, fr_X8_walks, fr_X8_sets]; first | with_reducible assumption | with_reducible omega | decide) | exact Or.inl rfl | exact Or.inr rfl) (by first | decide | with_reducible assumption | with_reducible omega | (simp (disch := omega) only [g_upd_ne, g_upd_eq, fr_X8_walks, fr_X8_sets]; first | with_reducible assumption | with_reducible omega | decide) | exact Or.inl rfl | exact Or.inr rfl) (by first | decide | with_reducible assumption | with_reducible omega | (simp (disch := omega) only [g_upd_ne, g_upd_eq, fr_X8_walks, fr_X8_sets]; first | with_reducible assumption | with_reducible omega | decide) | exact Or.inl rfl | exact Or.inr rfl)) LX8_137 obj_124 rfl rfl rfl dX8_minute_14 rfl rfl ?_
        refine r_iinc (lc' := [(1, .int (nI (h + 1))), (0, .ref (g_ad X 124))]) O 1 dX8_minute_17 rfl (nI_1 h) (hN 1 rfl) rfl ?_
        refine r_goto O 2 dX8_minute_20 (by decide) ?_
        refine r_sub [1, 0] rfl ?_
        exact ih_2 (h + 1) (R_X8_minuteOf s_2 (nI h)) ⟨(by with_reducible omega), (by with_reducible omega), J_minuteOf hJ (by with_reducible omega) (by with_reducible omega)⟩
  refine r_sub [1, 0] rfl ?_
  exact L_2 7 0 s ⟨(by with_reducible omega), (by with_reducible omega), p0⟩
theorem met_X8_minute (l : Launch) (hs : l.stackTraces = false) (lm : Nat → Int64) (pm : Nat → Nat) (m : Nat → Int32) (s : Nat → Int32) (p0 : g_J s) : g_SM l yX8_minute cX8_minute 8 (some .int) ({ frames := 5, cells := 0, slots := 0, locals := 118 } : Room) (fun ad => [.ref (ad 124)]) m (s, lm, pm) ((fun r : Int32 × (Nat → Int32) => ((.inl (some (.int r.1)), (m, r.2, lm, pm)) : g_Res)) (R_X8_minute s)) :=
  g_sm_of (by decide) (fun _ => Nat.le_of_ble_eq_true rfl) hs (fun X hl hn O => walk_X8_minute O (by rw [hl]; exact hs) hn p0)
