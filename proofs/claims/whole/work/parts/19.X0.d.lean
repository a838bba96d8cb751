/-! ===== Cave: hash ===== -/
def R_X0_hash_247 (m : Nat → Int32) (K_233 : Int64 → Nat → Int64) (la : Nat) : Nat → Int64 → Nat → Int64
  | 0, _, _ => 0
  | f + 1, v1_247, lb => (if 2 < (nI lb) then (K_233 v1_247 (la + 1)) else ((R_X0_hash_247 m K_233 la f) ((31 * v1_247) + (R_X2_about m (nI la) (nI lb)).toInt64) (lb + 1)))
def R_X0_hash_233 (m : Nat → Int32) : Nat → Int64 → Nat → Int64
  | 0, _, _ => 0
  | f + 1, v1_233, la => (if (m 12) ≤ (nI la) then v1_233 else (R_X0_hash_247 m (R_X0_hash_233 m f) la 4 v1_233 0))
def R_X0_hash_195 (m : Nat → Int32) (K_181 : Int64 → Nat → Int64) (ma : Nat) : Nat → Int64 → Nat → Int64
  | 0, _, _ => 0
  | f + 1, v1_195, mb => (if 2 < (nI mb) then (K_181 v1_195 (ma + 1)) else ((R_X0_hash_195 m K_181 ma f) ((31 * v1_195) + (R_X3_about m (nI ma) (nI mb)).toInt64) (mb + 1)))
def R_X0_hash_181 (m : Nat → Int32) : Nat → Int64 → Nat → Int64
  | 0, _, _ => 0
  | f + 1, v1_181, ma => (if (m 6) ≤ (nI ma) then (R_X0_hash_233 m 13 v1_181 0) else (R_X0_hash_195 m (R_X0_hash_181 m f) ma 4 v1_181 0))
def R_X0_hash_141 (m : Nat → Int32) (K_130 : Int64 → Nat → Int64) (ha : Nat) : Nat → Int64 → Nat → Int64
  | 0, _, _ => 0
  | f + 1, v1_141, hb => (if 8 < (nI hb) then (K_130 v1_141 (ha + 1)) else ((R_X0_hash_141 m K_130 ha f) ((31 * v1_141) + (R_X1_about m ((nI ha).toNatClampNeg) (nI hb)).toInt64) (hb + 1)))
def R_X0_hash_130 (m : Nat → Int32) : Nat → Int64 → Nat → Int64
  | 0, _, _ => 0
  | f + 1, v1_130, ha => (if (m 2) ≤ (nI ha) then (R_X0_hash_181 m 11 v1_130 0) else (R_X0_hash_141 m (R_X0_hash_130 m f) ha 10 v1_130 0))
def R_X0_hash_92 (m : Nat → Int32) (K_78 : Int64 → Nat → Int64) (ra : Nat) : Nat → Int64 → Nat → Int64
  | 0, _, _ => 0
  | f + 1, v1_92, rb => (if 2 < (nI rb) then (K_78 v1_92 (ra + 1)) else ((R_X0_hash_92 m K_78 ra f) ((31 * v1_92) + (R_X5_about m (nI ra) (nI rb)).toInt64) (rb + 1)))
def R_X0_hash_78 (m : Nat → Int32) : Nat → Int64 → Nat → Int64
  | 0, _, _ => 0
  | f + 1, v1_78, ra => (if (m 1) ≤ (nI ra) then (R_X0_hash_130 m 7 v1_78 0) else (R_X0_hash_92 m (R_X0_hash_78 m f) ra 4 v1_78 0))
def R_X0_hash_43 (m : Nat → Int32) (K_29 : Int64 → Nat → Int64) (pa : Nat) : Nat → Int64 → Nat → Int64
  | 0, _, _ => 0
  | f + 1, v1_43, pb => (if 4 < (nI pb) then (K_29 v1_43 (pa + 1)) else ((R_X0_hash_43 m K_29 pa f) ((31 * v1_43) + (R_X0_aboutPassage m (nI pa) (nI pb)).toInt64) (pb + 1)))
def R_X0_hash_29 (m : Nat → Int32) : Nat → Int64 → Nat → Int64
  | 0, _, _ => 0
  | f + 1, v1_29, pa => (if (m 0) ≤ (nI pa) then (R_X0_hash_78 m 9 v1_29 0) else (R_X0_hash_43 m (R_X0_hash_29 m f) pa 6 v1_29 0))
def R_X0_hash_2 (m : Nat → Int32) : Nat → Int64 → Nat → Int64
  | 0, _, _ => 0
  | f + 1, v1_2, w => (if 13 < (nI w) then (R_X0_hash_29 m 8 v1_2 0) else ((R_X0_hash_2 m f) ((31 * v1_2) + (R_X0_about m (nI w)).toInt64) (w + 1)))
def R_X0_hash (m : Nat → Int32) (x1 : Int64) : Int64 := (R_X0_hash_2 m 15 x1 0)
set_option maxRecDepth 100000 in
set_option maxHeartbeats 4000000 in
theorem walk_X0_hash {X : g_X} (O : g_ok X cX0_hash RX0 (some .long) ({ frames := 4, cells := 0, slots := 0, locals := 87 } : Room)) (hs : (g_xl X).stackTraces = false) (hn : g_xn X = 5) {q : g_q} {m : Nat → Int32} {x1 : Int64} (p0 : (m 0).toInt ≤ 7) (p1 : (m 1).toInt ≤ 8) (p2 : (m 2).toInt ≤ 6) (p3 : 0 ≤ (m 6).toInt) (p4 : (m 6).toInt ≤ 10) (p5 : (m 12).toInt ≤ 12) : g_V X (fun r : Int64 => ((.inl (some (.long r)), (m, q)) : g_Res)) (R_X0_hash m x1) 0 0 m q 0 [(0, .ref (g_ad X 0)), (1, .long x1)] [] := by
  have hN : ∀ i, Nat.blt i 5 = true → i < g_xn X := fun i h => by rw [hn]; exact g_blt.mp h
  refine r_iconst (x := 0) O dX0_hash_0 rfl ?_
  refine r_istore_n (lc' := [(3, .int 0), (0, .ref (g_ad X 0)), (1, .long x1)]) O dX0_hash_1 rfl (hN 3 rfl) rfl ?_
  have L_2 : ∀ (f_2 : Nat) (v1_2 : Int64) (w : Nat) (hi_2 : w ≤ 14 ∧ 14 < f_2 + w), g_V X (fun r : Int64 => ((.inl (some (.long r)), (m, q)) : g_Res)) (R_X0_hash_2 m f_2 v1_2 w) 0 0 m q 2 [(0, .ref (g_ad X 0)), (1, .long v1_2), (3, .int (nI w))] [] := by
    intro f_2
    induction f_2 with
    | zero => intro v1_2 w hi_2; exact absurd hi_2 (by omega)
    | succ f_2 ih_2 =>
      intro v1_2 w hi_2
      have hc_w : (nI w).toInt = (w : Int) := nI_toInt (by omega)
      refine r_iload_n O 2 dX0_hash_2 rfl rfl ?_
      refine r_bipush (x := 13) O dX0_hash_3 rfl ?_
      refine r_icmp_gt O 27 dX0_hash_5 (by decide) (fun c_5 => ?_) (fun c_5 => ?_)
      · have e_5 : (13 : Int) < (nI w).toInt := j_ltL c_5 rfl
        refine r_iconst (x := 0) O dX0_hash_27 rfl ?_
        refine r_istore_n (lc' := [(3, .int 0), (0, .ref (g_ad X 0)), (1, .long v1_2)]) O dX0_hash_28 rfl (hN 3 rfl) rfl ?_
        have L_29 : ∀ (f_29 : Nat) (v1_29 : Int64) (pa : Nat) (hi_29 : pa ≤ 7 ∧ 7 < f_29 + pa), g_V X (fun r : Int64 => ((.inl (some (.long r)), (m, q)) : g_Res)) (R_X0_hash_29 m f_29 v1_29 pa) 0 0 m q 29 [(0, .ref (g_ad X 0)), (1, .long v1_29), (3, .int (nI pa))] [] := by
          intro f_29
          induction f_29 with
          | zero => intro v1_29 pa hi_29; exact absurd hi_29 (by omega)
          | succ f_29 ih_29 =>
            intro v1_29 pa hi_29
            have hc_pa : (nI pa).toInt = (pa : Int) := nI_toInt (by omega)
            refine r_iload_n O 2 dX0_hash_29 rfl rfl ?_
            refine r_aload_n O 0 dX0_hash_30 rfl rfl ?_
            refine r_get O FX0_12 G_0_0 dX0_hash_31 ?_
            refine r_get O FX0_132 G_1_3 dX0_hash_34 ?_
            refine r_icmp_ge O 76 dX0_hash_37 (by decide) (fun c_37 => ?_) (fun c_37 => ?_)
            · have e_37 : (m 0).toInt ≤ (nI pa).toInt := j_le c_37
              refine r_iconst (x := 0) O dX0_hash_76 rfl ?_
              refine r_istore_n (lc' := [(3, .int 0), (0, .ref (g_ad X 0)), (1, .long v1_29)]) O dX0_hash_77 rfl (hN 3 rfl) rfl ?_
              have L_78 : ∀ (f_78 : Nat) (v1_78 : Int64) (ra : Nat) (hi_78 : ra ≤ 8 ∧ 8 < f_78 + ra), g_V X (fun r : Int64 => ((.inl (some (.long r)), (m, q)) : g_Res)) (R_X0_hash_78 m f_78 v1_78 ra) 0 0 m q 78 [(0, .ref (g_ad X 0)), (1, .long v1_78), (3, .int (nI ra))] [] := by
                intro f_78
                induction f_78 with
                | zero => intro v1_78 ra hi_78; exact absurd hi_78 (by omega)
                | succ f_78 ih_78 =>
                  intro v1_78 ra hi_78
                  have hc_ra : (nI ra).toInt = (ra : Int) := nI_toInt (by omega)
                  refine r_iload_n O 2 dX0_hash_78 rfl rfl ?_
                  refine r_aload_n O 0 dX0_hash_79 rfl rfl ?_
                  refine r_get O FX0_21 G_0_1 dX0_hash_80 ?_
                  refine r_get O FX0_73 G_5_3 dX0_hash_83 ?_
                  refine r_icmp_ge O 128 dX0_hash_86 (by decide) (fun c_86 => ?_) (fun c_86 => ?_)
                  · have e_86 : (m 1).toInt ≤ (nI ra).toInt := j_le c_86
                    refine r_iconst (x := 0) O dX0_hash_128 rfl ?_
                    refine r_istore_n (lc' := [(3, .int 0), (0, .ref (g_ad X 0)), (1, .long v1_78)]) O dX0_hash_129 rfl (hN 3 rfl) rfl ?_
                    have L_130 : ∀ (f_130 : Nat) (v1_130 : Int64) (ha : Nat) (hi_130 : ha ≤ 6 ∧ 6 < f_130 + ha), g_V X (fun r : Int64 => ((.inl (some (.long r)), (m, q)) : g_Res)) (R_X0_hash_130 m f_130 v1_130 ha) 0 0 m q 130 [(0, .ref (g_ad X 0)), (1, .long v1_130), (3, .int (nI ha))] [] := by
                      intro f_130
                      induction f_130 with
                      | zero => intro v1_130 ha hi_130; exact absurd hi_130 (by omega)
                      | succ f_130 ih_130 =>
                        intro v1_130 ha hi_130
                        have hc_ha : (nI ha).toInt = (ha : Int) := nI_toInt (by omega)
                        refine r_iload_n O 2 dX0_hash_130 rfl rfl ?_
                        refine r_aload_n O 0 dX0_hash_131 rfl rfl ?_
                        refine r_get O FX0_31 G_0_3 dX0_hash_132 ?_
                        refine r_icmp_ge O 179 dX0_hash_135 (by decide) (fun c_135 => ?_) (fun c_135 => ?_)
                        · have e_135 : (m 2).toInt ≤ (nI ha).toInt := j_le c_135
                          refine r_iconst (x := 0) O dX0_hash_179 rfl ?_
                          refine r_istore_n (lc' := [(3, .int 0), (0, .ref (g_ad X 0)), (1, .long v1_130)]) O dX0_hash_180 rfl (hN 3 rfl) rfl ?_
                          have L_181 : ∀ (f_181 : Nat) (v1_181 : Int64) (ma : Nat) (hi_181 : ma ≤ 10 ∧ 10 < f_181 + ma), g_V X (fun r : Int64 => ((.inl (some (.long r)), (m, q)) : g_Res)) (R_X0_hash_181 m f_181 v1_181 ma) 0 0 m q 181 [(0, .ref (g_ad X 0)), (1, .long v1_181), (3, .int (nI ma))] [] := by
                            intro f_181
                            induction f_181 with
                            | zero => intro v1_181 ma hi_181; exact absurd hi_181 (by omega)
                            | succ f_181 ih_181 =>
                              intro v1_181 ma hi_181
                              have hc_ma : (nI ma).toInt = (ma : Int) := nI_toInt (by omega)
                              refine r_iload_n O 2 dX0_hash_181 rfl rfl ?_
                              refine r_aload_n O 0 dX0_hash_182 rfl rfl ?_
                              refine r_get O FX0_38 G_0_4 dX0_hash_183 ?_
                              refine r_get O FX0_76 G_16_3 dX0_hash_186 ?_
                              refine r_icmp_ge O 231 dX0_hash_189 (by decide) (fun c_189 => ?_) (fun c_189 => ?_)
                              · have e_189 : (m 6).toInt ≤ (nI ma).toInt := j_le c_189
                                refine r_iconst (x := 0) O dX0_hash_231 rfl ?_
                                refine r_istore_n (lc' := [(3, .int 0), (0, .ref (g_ad X 0)), (1, .long v1_181)]) O dX0_hash_232 rfl (hN 3 rfl) rfl ?_
                                have L_233 : ∀ (f_233 : Nat) (v1_233 : Int64) (la : Nat) (hi_233 : la ≤ 12 ∧ 12 < f_233 + la), g_V X (fun r : Int64 => ((.inl (some (.long r)), (m, q)) : g_Res)) (R_X0_hash_233 m f_233 v1_233 la) 0 0 m q 233 [(0, .ref (g_ad X 0)), (1, .long v1_233), (3, .int (nI la))] [] := by
                                  intro f_233
                                  induction f_233 with
                                  | zero => intro v1_233 la hi_233; exact absurd hi_233 (by omega)
                                  | succ f_233 ih_233 =>
                                    intro v1_233 la hi_233
                                    have hc_la : (nI la).toInt = (la : Int) := nI_toInt (by omega)
                                    refine r_iload_n O 2 dX0_hash_233 rfl rfl ?_
                                    refine r_aload_n O 0 dX0_hash_234 rfl rfl ?_
                                    refine r_get O FX0_45 G_0_5 dX0_hash_235 ?_
                                    refine r_get O FX0_80 G_20_3 dX0_hash_238 ?_
                                    refine r_icmp_ge O 283 dX0_hash_241 (by decide) (fun c_241 => ?_) (fun c_241 => ?_)
                                    · have e_241 : (m 12).toInt ≤ (nI la).toInt := j_le c_241
                                      refine r_lload_n O 1 dX0_hash_283 rfl rfl ?_
                                      exact r_lret O dX0_hash_284 (Nat.le_of_ble_eq_true rfl) (Nat.le_of_ble_eq_true rfl) rfl
                                    · have e_241 : (nI la).toInt < (m 12).toInt := j_nle c_241
                                      refine r_iconst (x := 0) O dX0_hash_244 rfl ?_
                                      refine r_istore (lc' := [(4, .int 0), (0, .ref (g_ad X 0)), (1, .long v1_233), (3, .int (nI la))]) O dX0_hash_245 (hN 4 rfl) rfl ?_
                                      have L_247 : ∀ (f_247 : Nat) (v1_247 : Int64) (lb : Nat) (hi_247 : lb ≤ 3 ∧ 3 < f_247 + lb), g_V X (fun r : Int64 => ((.inl (some (.long r)), (m, q)) : g_Res)) (R_X0_hash_247 m ((R_X0_hash_233 m f_233)) la f_247 v1_247 lb) 0 0 m q 247 [(0, .ref (g_ad X 0)), (1, .long v1_247), (3, .int (nI la)), (4, .int (nI lb))] [] := by
                                        intro f_247
                                        induction f_247 with
                                        | zero => intro v1_247 lb hi_247; exact absurd hi_247 (by omega)
                                        | succ f_247 ih_247 =>
                                          intro v1_247 lb hi_247
                                          have hc_lb : (nI lb).toInt = (lb : Int) := nI_toInt (by omega)
                                          refine r_iload O 3 dX0_hash_247 rfl ?_
                                          refine r_iconst (x := 2) O dX0_hash_249 rfl ?_
                                          refine r_icmp_gt O 277 dX0_hash_250 (by decide) (fun c_250 => ?_) (fun c_250 => ?_)
                                          · have e_250 : (2 : Int) < (nI lb).toInt := j_ltL c_250 rfl
                                            refine r_iinc (lc' := [(3, .int (nI (la + 1))), (0, .ref (g_ad X 0)), (1, .long v1_247), (4, .int (nI lb))]) O 2 dX0_hash_277 rfl (nI_1 la) (hN 3 rfl) rfl ?_
                                            refine r_goto O 233 dX0_hash_280 (by decide) ?_
                                            refine r_sub [1, 2, 0] rfl ?_
                                            exact ih_233 v1_247 (la + 1) (by with_reducible omega)
                                          · have e_250 : (nI lb).toInt ≤ (2 : Int) := j_nltL c_250 rfl
                                            refine r_ldc2 O dX0_hash_253 w_con_X0_256 ?_
                                            refine r_lload_n O 1 dX0_hash_256 rfl rfl ?_
                                            refine r_lmul O dX0_hash_257 ?_
                                            refine r_aload_n O 0 dX0_hash_258 rfl rfl ?_
                                            refine r_get O FX0_45 G_0_5 dX0_hash_259 ?_
                                            refine r_iload_n O 2 dX0_hash_262 rfl rfl ?_
                                            refine r_iload O 3 dX0_hash_263 rfl ?_
                                            refine r_callVi O [.int (nI la), .int (nI lb)] [.long (31 * v1_247)] (met_X2_about (g_xl X) hs q m (nI la) (nI lb) (by first | decide | with_reducible assumption | with_reducible omega | (simp (disch := omega) only [g_upd_ne, g_upd_eq, fr_X4_fix, fr_X5_put, fr_X1_startAnew, fr_X1_walkTo, fr_X1_arrive, fr_X1_countBelow, fr_X3_set, fr_X0_startWalk, fr_X0_letMinutePass, fr_X3_goUp]; first | with_reducible assumption | with_reducible omega | decide) | exact (b_X3_goUp (by with_reducible assumption) (by with_reducible assumption)).1 | exact (b_X3_goUp (by with_reducible assumption) (by with_reducible assumption)).2 | exact Or.inl rfl | exact Or.inr rfl)) LX0_268 obj_20 rfl rfl rfl dX0_hash_265 rfl rfl ?_
                                            refine r_i2l O dX0_hash_268 ?_
                                            refine r_ladd O dX0_hash_269 ?_
                                            refine r_lstore_n (lc' := [(1, .long ((31 * v1_247) + (R_X2_about m (nI la) (nI lb)).toInt64)), (0, .ref (g_ad X 0)), (3, .int (nI la)), (4, .int (nI lb))]) O dX0_hash_270 rfl (hN 2 rfl) rfl ?_
                                            refine r_iinc (lc' := [(4, .int (nI (lb + 1))), (1, .long ((31 * v1_247) + (R_X2_about m (nI la) (nI lb)).toInt64)), (0, .ref (g_ad X 0)), (3, .int (nI la))]) O 3 dX0_hash_271 rfl (nI_1 lb) (hN 4 rfl) rfl ?_
                                            refine r_goto O 247 dX0_hash_274 (by decide) ?_
                                            refine r_sub [2, 1, 3, 0] rfl ?_
                                            exact ih_247 ((31 * v1_247) + (R_X2_about m (nI la) (nI lb)).toInt64) (lb + 1) (by with_reducible omega)
                                      refine r_sub [1, 2, 3, 0] rfl ?_
                                      exact L_247 4 v1_233 0 (by with_reducible omega)
                                refine r_sub [1, 2, 0] rfl ?_
                                exact L_233 13 v1_181 0 (by with_reducible omega)
                              · have e_189 : (nI ma).toInt < (m 6).toInt := j_nle c_189
                                refine r_iconst (x := 0) O dX0_hash_192 rfl ?_
                                refine r_istore (lc' := [(4, .int 0), (0, .ref (g_ad X 0)), (1, .long v1_181), (3, .int (nI ma))]) O dX0_hash_193 (hN 4 rfl) rfl ?_
                                have L_195 : ∀ (f_195 : Nat) (v1_195 : Int64) (mb : Nat) (hi_195 : mb ≤ 3 ∧ 3 < f_195 + mb), g_V X (fun r : Int64 => ((.inl (some (.long r)), (m, q)) : g_Res)) (R_X0_hash_195 m ((R_X0_hash_181 m f_181)) ma f_195 v1_195 mb) 0 0 m q 195 [(0, .ref (g_ad X 0)), (1, .long v1_195), (3, .int (nI ma)), (4, .int (nI mb))] [] := by
                                  intro f_195
                                  induction f_195 with
                                  | zero => intro v1_195 mb hi_195; exact absurd hi_195 (by omega)
                                  | succ f_195 ih_195 =>
                                    intro v1_195 mb hi_195
                                    have hc_mb : (nI mb).toInt = (mb : Int) := nI_toInt (by omega)
                                    refine r_iload O 3 dX0_hash_195 rfl ?_
                                    refine r_iconst (x := 2) O dX0_hash_197 rfl ?_
                                    refine r_icmp_gt O 225 dX0_hash_198 (by decide) (fun c_198 => ?_) (fun c_198 => ?_)
                                    · have e_198 : (2 : Int) < (nI mb).toInt := j_ltL c_198 rfl
                                      refine r_iinc (lc' := [(3, .int (nI (ma + 1))), (0, .ref (g_ad X 0)), (1, .long v1_195), (4, .int (nI mb))]) O 2 dX0_hash_225 rfl (nI_1 ma) (hN 3 rfl) rfl ?_
                                      refine r_goto O 181 dX0_hash_228 (by decide) ?_
                                      refine r_sub [1, 2, 0] rfl ?_
                                      exact ih_181 v1_195 (ma + 1) (by with_reducible omega)
                                    · have e_198 : (nI mb).toInt ≤ (2 : Int) := j_nltL c_198 rfl
                                      refine r_ldc2 O dX0_hash_201 w_con_X0_256 ?_
                                      refine r_lload_n O 1 dX0_hash_204 rfl rfl ?_
                                      refine r_lmul O dX0_hash_205 ?_
                                      refine r_aload_n O 0 dX0_hash_206 rfl rfl ?_
                                      refine r_get O FX0_38 G_0_4 dX0_hash_207 ?_
                                      refine r_iload_n O 2 dX0_hash_210 rfl rfl ?_
                                      refine r_iload O 3 dX0_hash_211 rfl ?_
                                      refine r_callVi O [.int (nI ma), .int (nI mb)] [.long (31 * v1_195)] (met_X3_about (g_xl X) hs q m (nI ma) (nI mb) (by first | decide | with_reducible assumption | with_reducible omega | (simp (disch := omega) only [g_upd_ne, g_upd_eq, fr_X4_fix, fr_X5_put, fr_X1_startAnew, fr_X1_walkTo, fr_X1_arrive, fr_X1_countBelow, fr_X3_set, fr_X0_startWalk, fr_X0_letMinutePass, fr_X3_goUp]; first | with_reducible assumption | with_reducible omega | decide) | exact (b_X3_goUp (by with_reducible assumption) (by with_reducible assumption)).1 | exact (b_X3_goUp (by with_reducible assumption) (by with_reducible assumption)).2 | exact Or.inl rfl | exact Or.inr rfl) (by first | decide | with_reducible assumption | with_reducible omega | (simp (disch := omega) only [g_upd_ne, g_upd_eq, fr_X4_fix, fr_X5_put, fr_X1_startAnew, fr_X1_walkTo, fr_X1_arrive, fr_X1_countBelow, fr_X3_set, fr_X0_startWalk, fr_X0_letMinutePass, fr_X3_goUp]; first | with_reducible assumption | with_reducible omega | decide) | exact (b_X3_goUp (by with_reducible assumption) (by with_reducible assumption)).1 | exact (b_X3_goUp (by with_reducible assumption) (by with_reducible assumption)).2 | exact Or.inl rfl | exact Or.inr rfl)) LX0_267 obj_16 rfl rfl rfl dX0_hash_213 rfl rfl ?_
                                      refine r_i2l O dX0_hash_216 ?_
                                      refine r_ladd O dX0_hash_217 ?_
                                      refine r_lstore_n (lc' := [(1, .long ((31 * v1_195) + (R_X3_about m (nI ma) (nI mb)).toInt64)), (0, .ref (g_ad X 0)), (3, .int (nI ma)), (4, .int (nI mb))]) O dX0_hash_218 rfl (hN 2 rfl) rfl ?_
                                      refine r_iinc (lc' := [(4, .int (nI (mb + 1))), (1, .long ((31 * v1_195) + (R_X3_about m (nI ma) (nI mb)).toInt64)), (0, .ref (g_ad X 0)), (3, .int (nI ma))]) O 3 dX0_hash_219 rfl (nI_1 mb) (hN 4 rfl) rfl ?_
                                      refine r_goto O 195 dX0_hash_222 (by decide) ?_
                                      refine r_sub [2, 1, 3, 0] rfl ?_
                                      exact ih_195 ((31 * v1_195) + (R_X3_about m (nI ma) (nI mb)).toInt64) (mb + 1) (by with_reducible omega)
                                refine r_sub [1, 2, 3, 0] rfl ?_
                                exact L_195 4 v1_181 0 (by with_reducible omega)
                          refine r_sub [1, 2, 0] rfl ?_
                          exact L_181 11 v1_130 0 (by with_reducible omega)
                        · have e_135 : (nI ha).toInt < (m 2).toInt := j_nle c_135
                          refine r_iconst (x := 0) O dX0_hash_138 rfl ?_
                          refine r_istore (lc' := [(4, .int 0), (0, .ref (g_ad X 0)), (1, .long v1_130), (3, .int (nI ha))]) O dX0_hash_139 (hN 4 rfl) rfl ?_
                          have L_141 : ∀ (f_141 : Nat) (v1_141 : Int64) (hb : Nat) (hi_141 : hb ≤ 9 ∧ 9 < f_141 + hb), g_V X (fun r : Int64 => ((.inl (some (.long r)), (m, q)) : g_Res)) (R_X0_hash_141 m ((R_X0_hash_130 m f_130)) ha f_141 v1_141 hb) 0 0 m q 141 [(0, .ref (g_ad X 0)), (1, .long v1_141), (3, .int (nI ha)), (4, .int (nI hb))] [] := by
                            intro f_141
                            induction f_141 with
                            | zero => intro v1_141 hb hi_141; exact absurd hi_141 (by omega)
                            | succ f_141 ih_141 =>
                              intro v1_141 hb hi_141
                              have hc_hb : (nI hb).toInt = (hb : Int) := nI_toInt (by omega)
                              refine r_iload O 3 dX0_hash_141 rfl ?_
                              refine r_bipush (x := 8) O dX0_hash_143 rfl ?_
                              refine r_icmp_gt O 173 dX0_hash_145 (by decide) (fun c_145 => ?_) (fun c_145 => ?_)
                              · have e_145 : (8 : Int) < (nI hb).toInt := j_ltL c_145 rfl
                                refine r_iinc (lc' := [(3, .int (nI (ha + 1))), (0, .ref (g_ad X 0)), (1, .long v1_141), (4, .int (nI hb))]) O 2 dX0_hash_173 rfl (nI_1 ha) (hN 3 rfl) rfl ?_
                                refine r_goto O 130 dX0_hash_176 (by decide) ?_
                                refine r_sub [1, 2, 0] rfl ?_
                                exact ih_130 v1_141 (ha + 1) (by with_reducible omega)
                              · have e_145 : (nI hb).toInt ≤ (8 : Int) := j_nltL c_145 rfl
                                refine r_ldc2 O dX0_hash_148 w_con_X0_256 ?_
                                refine r_lload_n O 1 dX0_hash_151 rfl rfl ?_
                                refine r_lmul O dX0_hash_152 ?_
                                refine r_aload_n O 0 dX0_hash_153 rfl rfl ?_
                                refine r_get O FX0_27 G_0_2 dX0_hash_154 ?_
                                refine r_iload_n O 2 dX0_hash_157 rfl rfl ?_
                                have hv1 : vp_in (nI ha) 6 := (show vp_in (nI ha) 6 from g_vin (by with_reducible omega) (by with_reducible omega))
                                have hv1c := g_cl hv1
                                refine r_aald O hv1 dX0_hash_158 ?_
                                refine r_iload O 3 dX0_hash_159 rfl ?_
                                refine r_callVi O [.int (nI hb)] [.long (31 * v1_141)] (met_X1_about (g_xl X) hs q m ((nI ha).toNatClampNeg) (nI hb) hv1c) LX0_266 (obj_h hv1c) rfl rfl rfl dX0_hash_161 rfl rfl ?_
                                refine r_i2l O dX0_hash_164 ?_
                                refine r_ladd O dX0_hash_165 ?_
                                refine r_lstore_n (lc' := [(1, .long ((31 * v1_141) + (R_X1_about m ((nI ha).toNatClampNeg) (nI hb)).toInt64)), (0, .ref (g_ad X 0)), (3, .int (nI ha)), (4, .int (nI hb))]) O dX0_hash_166 rfl (hN 2 rfl) rfl ?_
                                refine r_iinc (lc' := [(4, .int (nI (hb + 1))), (1, .long ((31 * v1_141) + (R_X1_about m ((nI ha).toNatClampNeg) (nI hb)).toInt64)), (0, .ref (g_ad X 0)), (3, .int (nI ha))]) O 3 dX0_hash_167 rfl (nI_1 hb) (hN 4 rfl) rfl ?_
                                refine r_goto O 141 dX0_hash_170 (by decide) ?_
                                refine r_sub [2, 1, 3, 0] rfl ?_
                                exact ih_141 ((31 * v1_141) + (R_X1_about m ((nI ha).toNatClampNeg) (nI hb)).toInt64) (hb + 1) (by with_reducible omega)
                          refine r_sub [1, 2, 3, 0] rfl ?_
                          exact L_141 10 v1_130 0 (by with_reducible omega)
                    refine r_sub [1, 2, 0] rfl ?_
                    exact L_130 7 v1_78 0 (by with_reducible omega)
                  · have e_86 : (nI ra).toInt < (m 1).toInt := j_nle c_86
                    refine r_iconst (x := 0) O dX0_hash_89 rfl ?_
                    refine r_istore (lc' := [(4, .int 0), (0, .ref (g_ad X 0)), (1, .long v1_78), (3, .int (nI ra))]) O dX0_hash_90 (hN 4 rfl) rfl ?_
                    have L_92 : ∀ (f_92 : Nat) (v1_92 : Int64) (rb : Nat) (hi_92 : rb ≤ 3 ∧ 3 < f_92 + rb), g_V X (fun r : Int64 => ((.inl (some (.long r)), (m, q)) : g_Res)) (R_X0_hash_92 m ((R_X0_hash_78 m f_78)) ra f_92 v1_92 rb) 0 0 m q 92 [(0, .ref (g_ad X 0)), (1, .long v1_92), (3, .int (nI ra)), (4, .int (nI rb))] [] := by
                      intro f_92
                      induction f_92 with
                      | zero => intro v1_92 rb hi_92; exact absurd hi_92 (by omega)
                      | succ f_92 ih_92 =>
                        intro v1_92 rb hi_92
                        have hc_rb : (nI rb).toInt = (rb : Int) := nI_toInt (by omega)
                        refine r_iload O 3 dX0_hash_92 rfl ?_
                        refine r_iconst (x := 2) O dX0_hash_94 rfl ?_
                        refine r_icmp_gt O 122 dX0_hash_95 (by decide) (fun c_95 => ?_) (fun c_95 => ?_)
                        · have e_95 : (2 : Int) < (nI rb).toInt := j_ltL c_95 rfl
                          refine r_iinc (lc' := [(3, .int (nI (ra + 1))), (0, .ref (g_ad X 0)), (1, .long v1_92), (4, .int (nI rb))]) O 2 dX0_hash_122 rfl (nI_1 ra) (hN 3 rfl) rfl ?_
                          refine r_goto O 78 dX0_hash_125 (by decide) ?_
                          refine r_sub [1, 2, 0] rfl ?_
                          exact ih_78 v1_92 (ra + 1) (by with_reducible omega)
                        · have e_95 : (nI rb).toInt ≤ (2 : Int) := j_nltL c_95 rfl
                          refine r_ldc2 O dX0_hash_98 w_con_X0_256 ?_
                          refine r_lload_n O 1 dX0_hash_101 rfl rfl ?_
                          refine r_lmul O dX0_hash_102 ?_
                          refine r_aload_n O 0 dX0_hash_103 rfl rfl ?_
                          refine r_get O FX0_21 G_0_1 dX0_hash_104 ?_
                          refine r_iload_n O 2 dX0_hash_107 rfl rfl ?_
                          refine r_iload O 3 dX0_hash_108 rfl ?_
                          refine r_callVi O [.int (nI ra), .int (nI rb)] [.long (31 * v1_92)] (met_X5_about (g_xl X) hs q m (nI ra) (nI rb) (by first | decide | with_reducible assumption | with_reducible omega | (simp (disch := omega) only [g_upd_ne, g_upd_eq, fr_X4_fix, fr_X5_put, fr_X1_startAnew, fr_X1_walkTo, fr_X1_arrive, fr_X1_countBelow, fr_X3_set, fr_X0_startWalk, fr_X0_letMinutePass, fr_X3_goUp]; first | with_reducible assumption | with_reducible omega | decide) | exact (b_X3_goUp (by with_reducible assumption) (by with_reducible assumption)).1 | exact (b_X3_goUp (by with_reducible assumption) (by with_reducible assumption)).2 | exact Or.inl rfl | exact Or.inr rfl)) LX0_264 obj_5 rfl rfl rfl dX0_hash_110 rfl rfl ?_
                          refine r_i2l O dX0_hash_113 ?_
                          refine r_ladd O dX0_hash_114 ?_
                          refine r_lstore_n (lc' := [(1, .long ((31 * v1_92) + (R_X5_about m (nI ra) (nI rb)).toInt64)), (0, .ref (g_ad X 0)), (3, .int (nI ra)), (4, .int (nI rb))]) O dX0_hash_115 rfl (hN 2 rfl) rfl ?_
                          refine r_iinc (lc' := [(4, .int (nI (rb + 1))), (1, .long ((31 * v1_92) + (R_X5_about m (nI ra) (nI rb)).toInt64)), (0, .ref (g_ad X 0)), (3, .int (nI ra))]) O 3 dX0_hash_116 rfl (nI_1 rb) (hN 4 rfl) rfl ?_
                          refine r_goto O 92 dX0_hash_119 (by decide) ?_
                          refine r_sub [2, 1, 3, 0] rfl ?_
                          exact ih_92 ((31 * v1_92) + (R_X5_about m (nI ra) (nI rb)).toInt64) (rb + 1) (by with_reducible omega)
                    refine r_sub [1, 2, 3, 0] rfl ?_
                    exact L_92 4 v1_78 0 (by with_reducible omega)
              refine r_sub [1, 2, 0] rfl ?_
              exact L_78 9 v1_29 0 (by with_reducible omega)
            · have e_37 : (nI pa).toInt < (m 0).toInt := j_nle c_37
              refine r_iconst (x := 0) O dX0_hash_40 rfl ?_
              refine r_istore (lc' := [(4, .int 0), (0, .ref (g_ad X 0)), (1, .long v1_29), (3, .int (nI pa))]) O dX0_hash_41 (hN 4 rfl) rfl ?_
              have L_43 : ∀ (f_43 : Nat) (v1_43 : Int64) (pb : Nat) (hi_43 : pb ≤ 5 ∧ 5 < f_43 + pb), g_V X (fun r : Int64 => ((.inl (some (.long r)), (m, q)) : g_Res)) (R_X0_hash_43 m ((R_X0_hash_29 m f_29)) pa f_43 v1_43 pb) 0 0 m q 43 [(0, .ref (g_ad X 0)), (1, .long v1_43), (3, .int (nI pa)), (4, .int (nI pb))] [] := by
                intro f_43
                induction f_43 with
                | zero => intro v1_43 pb hi_43; exact absurd hi_43 (by omega)
                | succ f_43 ih_43 =>
                  intro v1_43 pb hi_43
                  have hc_pb : (nI pb).toInt = (pb : Int) := nI_toInt (by omega)
                  refine r_iload O 3 dX0_hash_43 rfl ?_
                  refine r_iconst (x := 4) O dX0_hash_45 rfl ?_
                  refine r_icmp_gt O 70 dX0_hash_46 (by decide) (fun c_46 => ?_) (fun c_46 => ?_)
                  · have e_46 : (4 : Int) < (nI pb).toInt := j_ltL c_46 rfl
                    refine r_iinc (lc' := [(3, .int (nI (pa + 1))), (0, .ref (g_ad X 0)), (1, .long v1_43), (4, .int (nI pb))]) O 2 dX0_hash_70 rfl (nI_1 pa) (hN 3 rfl) rfl ?_
                    refine r_goto O 29 dX0_hash_73 (by decide) ?_
                    refine r_sub [1, 2, 0] rfl ?_
                    exact ih_29 v1_43 (pa + 1) (by with_reducible omega)
                  · have e_46 : (nI pb).toInt ≤ (4 : Int) := j_nltL c_46 rfl
                    refine r_ldc2 O dX0_hash_49 w_con_X0_256 ?_
                    refine r_lload_n O 1 dX0_hash_52 rfl rfl ?_
                    refine r_lmul O dX0_hash_53 ?_
                    refine r_aload_n O 0 dX0_hash_54 rfl rfl ?_
                    refine r_iload_n O 2 dX0_hash_55 rfl rfl ?_
                    refine r_iload O 3 dX0_hash_56 rfl ?_
                    refine r_callVi O [.int (nI pa), .int (nI pb)] [.long (31 * v1_43)] (met_X0_aboutPassage (g_xl X) hs q m (nI pa) (nI pb) (by first | decide | with_reducible assumption | with_reducible omega | (simp (disch := omega) only [g_upd_ne, g_upd_eq, fr_X4_fix, fr_X5_put, fr_X1_startAnew, fr_X1_walkTo, fr_X1_arrive, fr_X1_countBelow, fr_X3_set, fr_X0_startWalk, fr_X0_letMinutePass, fr_X3_goUp]; first | with_reducible assumption | with_reducible omega | decide) | exact (b_X3_goUp (by with_reducible assumption) (by with_reducible assumption)).1 | exact (b_X3_goUp (by with_reducible assumption) (by with_reducible assumption)).2 | exact Or.inl rfl | exact Or.inr rfl) (by first | decide | with_reducible assumption | with_reducible omega | (simp (disch := omega) only [g_upd_ne, g_upd_eq, fr_X4_fix, fr_X5_put, fr_X1_startAnew, fr_X1_walkTo, fr_X1_arrive, fr_X1_countBelow, fr_X3_set, fr_X0_startWalk, fr_X0_letMinutePass, fr_X3_goUp]; first | with_reducible assumption | with_reducible omega | decide) | exact (b_X3_goUp (by with_reducible assumption) (by with_reducible assumption)).1 | exact (b_X3_goUp (by with_reducible assumption) (by with_reducible assumption)).2 | exact Or.inl rfl | exact Or.inr rfl)) LX0_261 obj_0 rfl rfl rfl dX0_hash_58 rfl rfl ?_
                    refine r_i2l O dX0_hash_61 ?_
                    refine r_ladd O dX0_hash_62 ?_
                    refine r_lstore_n (lc' := [(1, .long ((31 * v1_43) + (R_X0_aboutPassage m (nI pa) (nI pb)).toInt64)), (0, .ref (g_ad X 0)), (3, .int (nI pa)), (4, .int (nI pb))]) O dX0_hash_63 rfl (hN 2 rfl) rfl ?_
                    refine r_iinc (lc' := [(4, .int (nI (pb + 1))), (1, .long ((31 * v1_43) + (R_X0_aboutPassage m (nI pa) (nI pb)).toInt64)), (0, .ref (g_ad X 0)), (3, .int (nI pa))]) O 3 dX0_hash_64 rfl (nI_1 pb) (hN 4 rfl) rfl ?_
                    refine r_goto O 43 dX0_hash_67 (by decide) ?_
                    refine r_sub [2, 1, 3, 0] rfl ?_
                    exact ih_43 ((31 * v1_43) + (R_X0_aboutPassage m (nI pa) (nI pb)).toInt64) (pb + 1) (by with_reducible omega)
              refine r_sub [1, 2, 3, 0] rfl ?_
              exact L_43 6 v1_29 0 (by with_reducible omega)
        refine r_sub [1, 2, 0] rfl ?_
        exact L_29 8 v1_2 0 (by with_reducible omega)
      · have e_5 : (nI w).toInt ≤ (13 : Int) := j_nltL c_5 rfl
        refine r_ldc2 O dX0_hash_8 w_con_X0_256 ?_
        refine r_lload_n O 1 dX0_hash_11 rfl rfl ?_
        refine r_lmul O dX0_hash_12 ?_
        refine r_aload_n O 0 dX0_hash_13 rfl rfl ?_
        refine r_iload_n O 2 dX0_hash_14 rfl rfl ?_
        refine r_callVi O [.int (nI w)] [.long (31 * v1_2)] (met_X0_about (g_xl X) hs q m (nI w) (by first | decide | with_reducible assumption | with_reducible omega | (simp (disch := omega) only [g_upd_ne, g_upd_eq, fr_X4_fix, fr_X5_put, fr_X1_startAnew, fr_X1_walkTo, fr_X1_arrive, fr_X1_countBelow, fr_X3_set, fr_X0_startWalk, fr_X0_letMinutePass, fr_X3_goUp]; first | with_reducible assumption | with_reducible omega | decide) | exact (b_X3_goUp (by with_reducible assumption) (by with_reducible assumption)).1 | exact (b_X3_goUp (by with_reducible assumption) (by with_reducible assumption)).2 | exact Or.inl rfl | exact Or.inr rfl) (by first | decide | with_reducible assumption | with_reducible omega | (simp (disch := omega) only [g_upd_ne, g_upd_eq, fr_X4_fix, fr_X5_put, fr_X1_startAnew, fr_X1_walkTo, fr_X1_arrive, fr_X1_countBelow, fr_X3_set, fr_X0_startWalk, fr_X0_letMinutePass, fr_X3_goUp]; first | with_reducible assumption | with_reducible omega | decide) | exact (b_X3_goUp (by with_reducible assumption) (by with_reducible assumption)).1 | exact (b_X3_goUp (by with_reducible assumption) (by with_reducible assumption)).2 | exact Or.inl rfl | exact Or.inr rfl)) LX0_258 obj_0 rfl rfl rfl dX0_hash_15 rfl rfl ?_
        refine r_i2l O dX0_hash_18 ?_
        refine r_ladd O dX0_hash_19 ?_
        refine r_lstore_n (lc' := [(1, .long ((31 * v1_2) + (R_X0_about m (nI w)).toInt64)), (0, .ref (g_ad X 0)), (3, .int (nI w))]) O dX0_hash_20 rfl (hN 2 rfl) rfl ?_
        refine r_iinc (lc' := [(3, .int (nI (w + 1))), (1, .long ((31 * v1_2) + (R_X0_about m (nI w)).toInt64)), (0, .ref (g_ad X 0))]) O 2 dX0_hash_21 rfl (nI_1 w) (hN 3 rfl) rfl ?_
        refine r_goto O 2 dX0_hash_24 (by decide) ?_
        refine r_sub [2, 1, 0] rfl ?_
        exact ih_2 ((31 * v1_2) + (R_X0_about m (nI w)).toInt64) (w + 1) (by with_reducible omega)
  refine r_sub [1, 2, 0] rfl ?_
  exact L_2 15 x1 0 (by with_reducible omega)
theorem met_X0_hash (l : Launch) (hs : l.stackTraces = false) (q : g_q) (m : Nat → Int32) (x1 : Int64) (p0 : (m 0).toInt ≤ 7) (p1 : (m 1).toInt ≤ 8) (p2 : (m 2).toInt ≤ 6) (p3 : 0 ≤ (m 6).toInt) (p4 : (m 6).toInt ≤ 10) (p5 : (m 12).toInt ≤ 12) : g_SM l yX0_hash cX0_hash 5 (some .long) ({ frames := 4, cells := 0, slots := 0, locals := 87 } : Room) (fun ad => [.ref (ad 0), .long x1]) m q ((fun r : Int64 => ((.inl (some (.long r)), (m, q)) : g_Res)) (R_X0_hash m x1)) :=
  g_sm_of (by decide) (fun _ => Nat.le_of_ble_eq_true rfl) hs (fun X hl hn O => walk_X0_hash O (by rw [hl]; exact hs) hn p0 p1 p2 p3 p4 p5)
