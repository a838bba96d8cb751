/-! ===== the model: a hash ===== -/
theorem j_div5 {n : Nat} (h : n < 1000) : (nI n / 5) = nI (n / 5) := by
  apply Int32.toInt_inj.mp
  rw [Int32.toInt_div, nI_toInt (by omega), nI_toInt (by omega), show (5 : Int32).toInt = 5 from rfl, Int.tdiv_eq_ediv_of_nonneg (by omega)]
  exact Int.bmod_eq_of_le (by omega) (by omega)
def R_X8_mix (s : Nat → Int32) (lm : Nat → Int64) (x1 : Int32) : (Nat → Int64) := (vp_updL lm 0 ((31 * (lm 0)) + x1.toInt64))
set_option maxRecDepth 100000 in
set_option maxHeartbeats 4000000 in
theorem walk_X8_mix {X : g_X} (O : g_ok X cX8_mix RX8 none ({ frames := 0, cells := 0, slots := 0, locals := 0 } : Room)) (hs : (g_xl X).stackTraces = false) (hn : g_xn X = 2) {m : Nat → Int32} {pm : Nat → Nat} {s : Nat → Int32} {lm : Nat → Int64} {x1 : Int32}  : g_V X (fun r : (Nat → Int64) => ((.inl none, (m, s, r, pm)) : g_Res)) (R_X8_mix s lm x1) 0 0 m (s, lm, pm) 0 [(0, .ref (g_ad X 124)), (1, .int x1)] [] := by
  have hN : ∀ i, Nat.blt i 2 = true → i < g_xn X := fun i h => by rw [hn]; exact g_blt.mp h
  refine r_aload_n O 0 dX8_mix_0 rfl rfl ?_
  refine r_ldc2 O dX8_mix_1 w_con_X8_219 ?_
  refine r_aload_n O 0 dX8_mix_4 rfl rfl ?_
  refine r_get O FX8_221 G_124_12 dX8_mix_5 ?_
  refine r_lmul O dX8_mix_8 ?_
  refine r_iload_n O 1 dX8_mix_9 rfl rfl ?_
  refine r_i2l O dX8_mix_10 ?_
  refine r_ladd O dX8_mix_11 ?_
  refine r_put O (FPX8_221 ((31 * (lm 0)) + x1.toInt64)) (S_124_12 ((31 * (lm 0)) + x1.toInt64)) dX8_mix_12 ?_
  exact r_vret O dX8_mix_15 (Nat.le_of_ble_eq_true rfl) (Nat.le_of_ble_eq_true rfl) rfl
theorem met_X8_mix (l : Launch) (hs : l.stackTraces = false) (pm : Nat → Nat) (m : Nat → Int32) (s : Nat → Int32) (lm : Nat → Int64) (x1 : Int32)  : g_SM l yX8_mix cX8_mix 2 none ({ frames := 0, cells := 0, slots := 0, locals := 0 } : Room) (fun ad => [.ref (ad 124), .int x1]) m (s, lm, pm) ((fun r : (Nat → Int64) => ((.inl none, (m, s, r, pm)) : g_Res)) (R_X8_mix s lm x1)) :=
  g_sm_of (by decide) (fun _ => Nat.le_of_ble_eq_true rfl) hs (fun X hl hn O => walk_X8_mix O (by rw [hl]; exact hs) hn )
def R_X8_digest_180 (s : Nat → Int32) (lm : Nat → Int64) : Nat → Nat → (Nat → Int64) → (Int64 × (Nat → Int32) × (Nat → Int64))
  | 0, _, _ => (0, s, lm)
  | f + 1, kf, lm_180 => (if (3 * ((upd s 1302 0) (12))) ≤ (nI kf) then (((R_X8_mix (upd s 1302 0) lm_180 ((upd s 1302 0) 1300)) 0), (upd s 1302 0), (R_X8_mix (upd s 1302 0) lm_180 ((upd s 1302 0) 1300))) else ((R_X8_digest_180 s lm f) (kf + 1) (R_X8_mix (upd s 1302 0) lm_180 ((upd s 1302 0) ((142 + (nI kf)).toNatClampNeg)))))
def R_X8_digest_146 (s : Nat → Int32) (lm : Nat → Int64) : Nat → Nat → (Nat → Int64) → (Int64 × (Nat → Int32) × (Nat → Int64))
  | 0, _, _ => (0, s, lm)
  | f + 1, ke, lm_146 => (if (3 * ((upd s 1302 0) (6))) ≤ (nI ke) then (R_X8_digest_180 s lm 37 0 lm_146) else ((R_X8_digest_146 s lm f) (ke + 1) (R_X8_mix (upd s 1302 0) lm_146 ((upd s 1302 0) ((112 + (nI ke)).toNatClampNeg)))))
def R_X8_digest_112 (s : Nat → Int32) (lm : Nat → Int64) : Nat → Nat → (Nat → Int64) → (Int64 × (Nat → Int32) × (Nat → Int64))
  | 0, _, _ => (0, s, lm)
  | f + 1, kd, lm_112 => (if (9 * ((upd s 1302 0) (2))) ≤ (nI kd) then (R_X8_digest_146 s lm 31 0 lm_112) else ((R_X8_digest_112 s lm f) (kd + 1) (R_X8_mix (upd s 1302 0) lm_112 ((upd s 1302 0) ((58 + (nI kd)).toNatClampNeg)))))
def R_X8_digest_79 (s : Nat → Int32) (lm : Nat → Int64) : Nat → Nat → (Nat → Int64) → (Int64 × (Nat → Int32) × (Nat → Int64))
  | 0, _, _ => (0, s, lm)
  | f + 1, kc, lm_79 => (if (3 * ((upd s 1302 0) (1))) ≤ (nI kc) then (R_X8_digest_112 s lm 55 0 lm_79) else ((R_X8_digest_79 s lm f) (kc + 1) (R_X8_mix (upd s 1302 0) lm_79 ((upd s 1302 0) ((34 + (nI kc)).toNatClampNeg)))))
def R_X8_digest_45 (s : Nat → Int32) (lm : Nat → Int64) : Nat → Nat → (Nat → Int64) → (Int64 × (Nat → Int32) × (Nat → Int64))
  | 0, _, _ => (0, s, lm)
  | f + 1, kb, lm_45 => (if (5 * ((upd s 1302 0) (0))) ≤ (nI kb) then (R_X8_digest_79 s lm 25 0 lm_45) else ((R_X8_digest_45 s lm f) (kb + 1) (R_X8_mix (upd s 1302 0) lm_45 (R_X8_passageFact (upd s 1302 0) ((nI kb) / 5) ((nI kb) - (nI kb) / 5 * 5)))))
def R_X8_digest_22 (s : Nat → Int32) (lm : Nat → Int64) : Nat → Nat → (Nat → Int64) → (Int64 × (Nat → Int32) × (Nat → Int64))
  | 0, _, _ => (0, s, lm)
  | f + 1, ka, lm_22 => (if 14 ≤ (nI ka) then (R_X8_digest_45 s lm 36 0 lm_22) else ((R_X8_digest_22 s lm f) (ka + 1) (R_X8_mix (upd s 1302 0) lm_22 (R_X8_valueOf (upd s 1302 0) (nI ka)))))
def R_X8_digest (s : Nat → Int32) (lm : Nat → Int64) : (Int64 × (Nat → Int32) × (Nat → Int64)) := (R_X8_digest_22 s lm 15 0 (R_X8_mix (upd s 1302 0) (vp_updL lm 0 3613) ((upd s 1302 0) 1301)))
set_option maxRecDepth 100000 in
set_option maxHeartbeats 4000000 in
theorem walk_X8_digest {X : g_X} (O : g_ok X cX8_digest RX8 (some .long) ({ frames := 4, cells := 0, slots := 0, locals := 89 } : Room)) (hs : (g_xl X).stackTraces = false) (hn : g_xn X = 2) {m : Nat → Int32} {pm : Nat → Nat} {s : Nat → Int32} {lm : Nat → Int64} (p0 : g_J s) : g_V X (fun r : Int64 × (Nat → Int32) × (Nat → Int64) => ((.inl (some (.long r.1)), (m, r.2.1, r.2.2, pm)) : g_Res)) (R_X8_digest s lm) 0 0 m (s, lm, pm) 0 [(0, .ref (g_ad X 124))] [] := by
  have hN : ∀ i, Nat.blt i 2 = true → i < g_xn X := fun i h => by rw [hn]; exact g_blt.mp h
  obtain ⟨n0, n1, n2, n4, n6, n12, n3⟩ := p0.n
  have t0 : ((upd s 1302 0) 0).toInt = (s 0).toInt := by rw [g_upd_ne (by decide)]
  have t1 : ((upd s 1302 0) 1).toInt = (s 1).toInt := by rw [g_upd_ne (by decide)]
  have t2 : ((upd s 1302 0) 2).toInt = (s 2).toInt := by rw [g_upd_ne (by decide)]
  have t6 : ((upd s 1302 0) 6).toInt = (s 6).toInt := by rw [g_upd_ne (by decide)]
  have t12 : ((upd s 1302 0) 12).toInt = (s 12).toInt := by rw [g_upd_ne (by decide)]
  have t1300 : ((upd s 1302 0) 1300).toInt = (s 1300).toInt := by rw [g_upd_ne (by decide)]
  have t1301 : ((upd s 1302 0) 1301).toInt = (s 1301).toInt := by rw [g_upd_ne (by decide)]
  refine r_aload_n O 0 dX8_digest_0 rfl rfl ?_
  refine r_iconst (x := 0) O dX8_digest_1 rfl ?_
  refine r_put O (FPX8_26 0) (S_124_6 0) dX8_digest_2 ?_
  refine r_aload_n O 0 dX8_digest_5 rfl rfl ?_
  refine r_ldc2 O dX8_digest_6 w_con_X8_225 ?_
  refine r_put O (FPX8_221 3613) (S_124_12 3613) dX8_digest_9 ?_
  refine r_aload_n O 0 dX8_digest_12 rfl rfl ?_
  refine r_aload_n O 0 dX8_digest_13 rfl rfl ?_
  refine r_get O FX8_183 G_124_5 dX8_digest_14 ?_
  refine r_callVv O [.int ((upd s 1302 0) 1301)] [] (met_X8_mix (g_xl X) hs pm m (upd s 1302 0) (vp_updL lm 0 3613) ((upd s 1302 0) 1301) ) LX8_227 obj_124 rfl rfl rfl dX8_digest_17 rfl rfl ?_
  refine r_iconst (x := 0) O dX8_digest_20 rfl ?_
  refine r_istore_n (lc' := [(1, .int 0), (0, .ref (g_ad X 124))]) O dX8_digest_21 rfl (hN 1 rfl) rfl ?_
  have L_22 : ∀ (f_22 : Nat) (ka : Nat) (lm_22 : Nat → Int64) (hi_22 : ka ≤ 14 ∧ 14 < f_22 + ka), g_V X (fun r : Int64 × (Nat → Int32) × (Nat → Int64) => ((.inl (some (.long r.1)), (m, r.2.1, r.2.2, pm)) : g_Res)) (R_X8_digest_22 s lm f_22 ka lm_22) 0 0 m ((upd s 1302 0), lm_22, pm) 22 [(0, .ref (g_ad X 124)), (1, .int (nI ka))] [] := by
    intro f_22
    induction f_22 with
    | zero => intro ka lm_22 hi_22; exact absurd hi_22 (by omega)
    | succ f_22 ih_22 =>
      intro ka lm_22 hi_22
      have hc_ka : (nI ka).toInt = (ka : Int) := nI_toInt (by omega)
      refine r_iload_n O 1 dX8_digest_22 rfl rfl ?_
      refine r_bipush (x := 14) O dX8_digest_23 rfl ?_
      refine r_icmp_ge O 43 dX8_digest_25 (by decide) (fun c_25 => ?_) (fun c_25 => ?_)
      · have e_25 : (14 : Int) ≤ (nI ka).toInt := j_leL c_25 rfl
        refine r_iconst (x := 0) O dX8_digest_43 rfl ?_
        refine r_istore_n (lc' := [(1, .int 0), (0, .ref (g_ad X 124))]) O dX8_digest_44 rfl (hN 1 rfl) rfl ?_
        have L_45 : ∀ (f_45 : Nat) (kb : Nat) (lm_45 : Nat → Int64) (hi_45 : kb ≤ 35 ∧ 35 < f_45 + kb), g_V X (fun r : Int64 × (Nat → Int32) × (Nat → Int64) => ((.inl (some (.long r.1)), (m, r.2.1, r.2.2, pm)) : g_Res)) (R_X8_digest_45 s lm f_45 kb lm_45) 0 0 m ((upd s 1302 0), lm_45, pm) 45 [(0, .ref (g_ad X 124)), (1, .int (nI kb))] [] := by
          intro f_45
          induction f_45 with
          | zero => intro kb lm_45 hi_45; exact absurd hi_45 (by omega)
          | succ f_45 ih_45 =>
            intro kb lm_45 hi_45
            have hc_kb : (nI kb).toInt = (kb : Int) := nI_toInt (by omega)
            have hd5 : (nI kb / 5) = nI (kb / 5) := j_div5 (by omega)
            have hd6 : (nI (kb / 5)).toInt = ((kb / 5 : Nat) : Int) := nI_toInt (by omega)
            have hd7 : (nI kb / 5).toInt = ((kb / 5 : Nat) : Int) := by rw [hd5]; exact hd6
            refine r_iload_n O 1 dX8_digest_45 rfl rfl ?_
            refine r_iconst (x := 5) O dX8_digest_46 rfl ?_
            refine r_aload_n O 0 dX8_digest_47 rfl rfl ?_
            refine r_get O FX8_7 G_124_0 dX8_digest_48 ?_
            refine r_iconst (x := 0) O dX8_digest_51 rfl ?_
            refine r_iald O R_125 (g_vin (by decide) (by decide)) dX8_digest_52 ?_
            refine r_imul O dX8_digest_53 ?_
            have ix_54r : (5 * ((upd s 1302 0) (0))).toInt = ((5 : Int) * ((upd s 1302 0) (0)).toInt) := (j_mulE rfl rfl (by with_reducible omega) (by with_reducible omega))
            refine r_icmp_ge O 77 dX8_digest_54 (by decide) (fun c_54 => ?_) (fun c_54 => ?_)
            · have e_54 : (5 * ((upd s 1302 0) (0))).toInt ≤ (nI kb).toInt := j_le c_54
              refine r_iconst (x := 0) O dX8_digest_77 rfl ?_
              refine r_istore_n (lc' := [(1, .int 0), (0, .ref (g_ad X 124))]) O dX8_digest_78 rfl (hN 1 rfl) rfl ?_
              have L_79 : ∀ (f_79 : Nat) (kc : Nat) (lm_79 : Nat → Int64) (hi_79 : kc ≤ 24 ∧ 24 < f_79 + kc), g_V X (fun r : Int64 × (Nat → Int32) × (Nat → Int64) => ((.inl (some (.long r.1)), (m, r.2.1, r.2.2, pm)) : g_Res)) (R_X8_digest_79 s lm f_79 kc lm_79) 0 0 m ((upd s 1302 0), lm_79, pm) 79 [(0, .ref (g_ad X 124)), (1, .int (nI kc))] [] := by
                intro f_79
                induction f_79 with
                | zero => intro kc lm_79 hi_79; exact absurd hi_79 (by omega)
                | succ f_79 ih_79 =>
                  intro kc lm_79 hi_79
                  have hc_kc : (nI kc).toInt = (kc : Int) := nI_toInt (by omega)
                  refine r_iload_n O 1 dX8_digest_79 rfl rfl ?_
                  refine r_iconst (x := 3) O dX8_digest_80 rfl ?_
                  refine r_aload_n O 0 dX8_digest_81 rfl rfl ?_
                  refine r_get O FX8_7 G_124_0 dX8_digest_82 ?_
                  refine r_iconst (x := 1) O dX8_digest_85 rfl ?_
                  refine r_iald O R_125 (g_vin (by decide) (by decide)) dX8_digest_86 ?_
                  refine r_imul O dX8_digest_87 ?_
                  have ix_88r : (3 * ((upd s 1302 0) (1))).toInt = ((3 : Int) * ((upd s 1302 0) (1)).toInt) := (j_mulE rfl rfl (by with_reducible omega) (by with_reducible omega))
                  refine r_icmp_ge O 110 dX8_digest_88 (by decide) (fun c_88 => ?_) (fun c_88 => ?_)
                  · have e_88 : (3 * ((upd s 1302 0) (1))).toInt ≤ (nI kc).toInt := j_le c_88
                    refine r_iconst (x := 0) O dX8_digest_110 rfl ?_
                    refine r_istore_n (lc' := [(1, .int 0), (0, .ref (g_ad X 124))]) O dX8_digest_111 rfl (hN 1 rfl) rfl ?_
                    have L_112 : ∀ (f_112 : Nat) (kd : Nat) (lm_112 : Nat → Int64) (hi_112 : kd ≤ 54 ∧ 54 < f_112 + kd), g_V X (fun r : Int64 × (Nat → Int32) × (Nat → Int64) => ((.inl (some (.long r.1)), (m, r.2.1, r.2.2, pm)) : g_Res)) (R_X8_digest_112 s lm f_112 kd lm_112) 0 0 m ((upd s 1302 0), lm_112, pm) 112 [(0, .ref (g_ad X 124)), (1, .int (nI kd))] [] := by
                      intro f_112
                      induction f_112 with
                      | zero => intro kd lm_112 hi_112; exact absurd hi_112 (by omega)
                      | succ f_112 ih_112 =>
                        intro kd lm_112 hi_112
                        have hc_kd : (nI kd).toInt = (kd : Int) := nI_toInt (by omega)
                        refine r_iload_n O 1 dX8_digest_112 rfl rfl ?_
                        refine r_bipush (x := 9) O dX8_digest_113 rfl ?_
                        refine r_aload_n O 0 dX8_digest_115 rfl rfl ?_
                        refine r_get O FX8_7 G_124_0 dX8_digest_116 ?_
                        refine r_iconst (x := 2) O dX8_digest_119 rfl ?_
                        refine r_iald O R_125 (g_vin (by decide) (by decide)) dX8_digest_120 ?_
                        refine r_imul O dX8_digest_121 ?_
                        have ix_122r : (9 * ((upd s 1302 0) (2))).toInt = ((9 : Int) * ((upd s 1302 0) (2)).toInt) := (j_mulE rfl rfl (by with_reducible omega) (by with_reducible omega))
                        refine r_icmp_ge O 144 dX8_digest_122 (by decide) (fun c_122 => ?_) (fun c_122 => ?_)
                        · have e_122 : (9 * ((upd s 1302 0) (2))).toInt ≤ (nI kd).toInt := j_le c_122
                          refine r_iconst (x := 0) O dX8_digest_144 rfl ?_
                          refine r_istore_n (lc' := [(1, .int 0), (0, .ref (g_ad X 124))]) O dX8_digest_145 rfl (hN 1 rfl) rfl ?_
                          have L_146 : ∀ (f_146 : Nat) (ke : Nat) (lm_146 : Nat → Int64) (hi_146 : ke ≤ 30 ∧ 30 < f_146 + ke), g_V X (fun r : Int64 × (Nat → Int32) × (Nat → Int64) => ((.inl (some (.long r.1)), (m, r.2.1, r.2.2, pm)) : g_Res)) (R_X8_digest_146 s lm f_146 ke lm_146) 0 0 m ((upd s 1302 0), lm_146, pm) 146 [(0, .ref (g_ad X 124)), (1, .int (nI ke))] [] := by
                            intro f_146
                            induction f_146 with
                            | zero => intro ke lm_146 hi_146; exact absurd hi_146 (by omega)
                            | succ f_146 ih_146 =>
                              intro ke lm_146 hi_146
                              have hc_ke : (nI ke).toInt = (ke : Int) := nI_toInt (by omega)
                              refine r_iload_n O 1 dX8_digest_146 rfl rfl ?_
                              refine r_iconst (x := 3) O dX8_digest_147 rfl ?_
                              refine r_aload_n O 0 dX8_digest_148 rfl rfl ?_
                              refine r_get O FX8_7 G_124_0 dX8_digest_149 ?_
                              refine r_bipush (x := 6) O dX8_digest_152 rfl ?_
                              refine r_iald O R_125 (g_vin (by decide) (by decide)) dX8_digest_154 ?_
                              refine r_imul O dX8_digest_155 ?_
                              have ix_156r : (3 * ((upd s 1302 0) (6))).toInt = ((3 : Int) * ((upd s 1302 0) (6)).toInt) := (j_mulE rfl rfl (by with_reducible omega) (by with_reducible omega))
                              refine r_icmp_ge O 178 dX8_digest_156 (by decide) (fun c_156 => ?_) (fun c_156 => ?_)
                              · have e_156 : (3 * ((upd s 1302 0) (6))).toInt ≤ (nI ke).toInt := j_le c_156
                                refine r_iconst (x := 0) O dX8_digest_178 rfl ?_
                                refine r_istore_n (lc' := [(1, .int 0), (0, .ref (g_ad X 124))]) O dX8_digest_179 rfl (hN 1 rfl) rfl ?_
                                have L_180 : ∀ (f_180 : Nat) (kf : Nat) (lm_180 : Nat → Int64) (hi_180 : kf ≤ 36 ∧ 36 < f_180 + kf), g_V X (fun r : Int64 × (Nat → Int32) × (Nat → Int64) => ((.inl (some (.long r.1)), (m, r.2.1, r.2.2, pm)) : g_Res)) (R_X8_digest_180 s lm f_180 kf lm_180) 0 0 m ((upd s 1302 0), lm_180, pm) 180 [(0, .ref (g_ad X 124)), (1, .int (nI kf))] [] := by
                                  intro f_180
                                  induction f_180 with
                                  | zero => intro kf lm_180 hi_180; exact absurd hi_180 (by omega)
                                  | succ f_180 ih_180 =>
                                    intro kf lm_180 hi_180
                                    have hc_kf : (nI kf).toInt = (kf : Int) := nI_toInt (by omega)
                                    refine r_iload_n O 1 dX8_digest_180 rfl rfl ?_
                                    refine r_iconst (x := 3) O dX8_digest_181 rfl ?_
                                    refine r_aload_n O 0 dX8_digest_182 rfl rfl ?_
                                    refine r_get O FX8_7 G_124_0 dX8_digest_183 ?_
                                    refine r_bipush (x := 12) O dX8_digest_186 rfl ?_
                                    refine r_iald O R_125 (g_vin (by decide) (by decide)) dX8_digest_188 ?_
                                    refine r_imul O dX8_digest_189 ?_
                                    have ix_190r : (3 * ((upd s 1302 0) (12))).toInt = ((3 : Int) * ((upd s 1302 0) (12)).toInt) := (j_mulE rfl rfl (by with_reducible omega) (by with_reducible omega))
                                    refine r_icmp_ge O 213 dX8_digest_190 (by decide) (fun c_190 => ?_) (fun c_190 => ?_)
                                    · have e_190 : (3 * ((upd s 1302 0) (12))).toInt ≤ (nI kf).toInt := j_le c_190
                                      refine r_aload_n O 0 dX8_digest_213 rfl rfl ?_
                                      refine r_aload_n O 0 dX8_digest_214 rfl rfl ?_
                                      refine r_get O FX8_30 G_124_3 dX8_digest_215 ?_
                                      refine r_callVv O [.int ((upd s 1302 0) 1300)] [] (met_X8_mix (g_xl X) hs pm m (upd s 1302 0) lm_180 ((upd s 1302 0) 1300) ) LX8_227 obj_124 rfl rfl rfl dX8_digest_218 rfl rfl ?_
                                      refine r_aload_n O 0 dX8_digest_221 rfl rfl ?_
                                      refine r_get O FX8_221 G_124_12 dX8_digest_222 ?_
                                      exact r_lret O dX8_digest_225 (Nat.le_of_ble_eq_true rfl) (Nat.le_of_ble_eq_true rfl) rfl
                                    · have e_190 : (nI kf).toInt < (3 * ((upd s 1302 0) (12))).toInt := j_nle c_190
                                      refine r_aload_n O 0 dX8_digest_193 rfl rfl ?_
                                      refine r_aload_n O 0 dX8_digest_194 rfl rfl ?_
                                      refine r_get O FX8_7 G_124_0 dX8_digest_195 ?_
                                      refine r_sipush (x := 142) O dX8_digest_198 rfl ?_
                                      refine r_iload_n O 1 dX8_digest_201 rfl rfl ?_
                                      refine r_iadd O dX8_digest_202 ?_
                                      have ix_203 : (142 + (nI kf)).toInt = ((142 : Int) + (nI kf).toInt) := (j_addE rfl rfl (by with_reducible omega) (by with_reducible omega))
                                      have iy_203 := j_nat (x := (142 + (nI kf))) (by with_reducible omega)
                                      refine r_iald O R_125 (show vp_in (142 + (nI kf)) 178 from g_vin (by with_reducible omega) (by with_reducible omega)) dX8_digest_203 ?_
                                      refine r_callVv O [.int ((upd s 1302 0) ((142 + (nI kf)).toNatClampNeg))] [] (met_X8_mix (g_xl X) hs pm m (upd s 1302 0) lm_180 ((upd s 1302 0) ((142 + (nI kf)).toNatClampNeg)) ) LX8_227 obj_124 rfl rfl rfl dX8_digest_204 rfl rfl ?_
                                      refine r_iinc (lc' := [(1, .int (nI (kf + 1))), (0, .ref (g_ad X 124))]) O 1 dX8_digest_207 rfl (nI_1 kf) (hN 1 rfl) rfl ?_
                                      refine r_goto O 180 dX8_digest_210 (by decide) ?_
                                      refine r_sub [1, 0] rfl ?_
                                      exact ih_180 (kf + 1) (R_X8_mix (upd s 1302 0) lm_180 ((upd s 1302 0) ((142 + (nI kf)).toNatClampNeg))) (by with_reducible omega)
                                refine r_sub [1, 0] rfl ?_
                                exact L_180 37 0 lm_146 (by with_reducible omega)
                              · have e_156 : (nI ke).toInt < (3 * ((upd s 1302 0) (6))).toInt := j_nle c_156
                                refine r_aload_n O 0 dX8_digest_159 rfl rfl ?_
                                refine r_aload_n O 0 dX8_digest_160 rfl rfl ?_
                                refine r_get O FX8_7 G_124_0 dX8_digest_161 ?_
                                refine r_bipush (x := 112) O dX8_digest_164 rfl ?_
                                refine r_iload_n O 1 dX8_digest_166 rfl rfl ?_
                                refine r_iadd O dX8_digest_167 ?_
                                have ix_168 : (112 + (nI ke)).toInt = ((112 : Int) + (nI ke).toInt) := (j_addE rfl rfl (by with_reducible omega) (by with_reducible omega))
                                have iy_168 := j_nat (x := (112 + (nI ke))) (by with_reducible omega)
                                refine r_iald O R_125 (show vp_in (112 + (nI ke)) 178 from g_vin (by with_reducible omega) (by with_reducible omega)) dX8_digest_168 ?_
                                refine r_callVv O [.int ((upd s 1302 0) ((112 + (nI ke)).toNatClampNeg))] [] (met_X8_mix (g_xl X) hs pm m (upd s 1302 0) lm_146 ((upd s 1302 0) ((112 + (nI ke)).toNatClampNeg)) ) LX8_227 obj_124 rfl rfl rfl dX8_digest_169 rfl rfl ?_
                                refine r_iinc (lc' := [(1, .int (nI (ke + 1))), (0, .ref (g_ad X 124))]) O 1 dX8_digest_172 rfl (nI_1 ke) (hN 1 rfl) rfl ?_
                                refine r_goto O 146 dX8_digest_175 (by decide) ?_
                                refine r_sub [1, 0] rfl ?_
                                exact ih_146 (ke + 1) (R_X8_mix (upd s 1302 0) lm_146 ((upd s 1302 0) ((112 + (nI ke)).toNatClampNeg))) (by with_reducible omega)
                          refine r_sub [1, 0] rfl ?_
                          exact L_146 31 0 lm_112 (by with_reducible omega)
                        · have e_122 : (nI kd).toInt < (9 * ((upd s 1302 0) (2))).toInt := j_nle c_122
                          refine r_aload_n O 0 dX8_digest_125 rfl rfl ?_
                          refine r_aload_n O 0 dX8_digest_126 rfl rfl ?_
                          refine r_get O FX8_7 G_124_0 dX8_digest_127 ?_
                          refine r_bipush (x := 58) O dX8_digest_130 rfl ?_
                          refine r_iload_n O 1 dX8_digest_132 rfl rfl ?_
                          refine r_iadd O dX8_digest_133 ?_
                          have ix_134 : (58 + (nI kd)).toInt = ((58 : Int) + (nI kd).toInt) := (j_addE rfl rfl (by with_reducible omega) (by with_reducible omega))
                          have iy_134 := j_nat (x := (58 + (nI kd))) (by with_reducible omega)
                          refine r_iald O R_125 (show vp_in (58 + (nI kd)) 178 from g_vin (by with_reducible omega) (by with_reducible omega)) dX8_digest_134 ?_
                          refine r_callVv O [.int ((upd s 1302 0) ((58 + (nI kd)).toNatClampNeg))] [] (met_X8_mix (g_xl X) hs pm m (upd s 1302 0) lm_112 ((upd s 1302 0) ((58 + (nI kd)).toNatClampNeg)) ) LX8_227 obj_124 rfl rfl rfl dX8_digest_135 rfl rfl ?_
                          refine r_iinc (lc' := [(1, .int (nI (kd + 1))), (0, .ref (g_ad X 124))]) O 1 dX8_digest_138 rfl (nI_1 kd) (hN 1 rfl) rfl ?_
                          refine r_goto O 112 dX8_digest_141 (by decide) ?_
                          refine r_sub [1, 0] rfl ?_
                          exact ih_112 (kd + 1) (R_X8_mix (upd s 1302 0) lm_112 ((upd s 1302 0) ((58 + (nI kd)).toNatClampNeg))) (by with_reducible omega)
                    refine r_sub [1, 0] rfl ?_
                    exact L_112 55 0 lm_79 (by with_reducible omega)
                  · have e_88 : (nI kc).toInt < (3 * ((upd s 1302 0) (1))).toInt := j_nle c_88
                    refine r_aload_n O 0 dX8_digest_91 rfl rfl ?_
                    refine r_aload_n O 0 dX8_digest_92 rfl rfl ?_
                    refine r_get O FX8_7 G_124_0 dX8_digest_93 ?_
                    refine r_bipush (x := 34) O dX8_digest_96 rfl ?_
                    refine r_iload_n O 1 dX8_digest_98 rfl rfl ?_
                    refine r_iadd O dX8_digest_99 ?_
                    have ix_100 : (34 + (nI kc)).toInt = ((34 : Int) + (nI kc).toInt) := (j_addE rfl rfl (by with_reducible omega) (by with_reducible omega))
                    have iy_100 := j_nat (x := (34 + (nI kc))) (by with_reducible omega)
                    refine r_iald O R_125 (show vp_in (34 + (nI kc)) 178 from g_vin (by with_reducible omega) (by with_reducible omega)) dX8_digest_100 ?_
                    refine r_callVv O [.int ((upd s 1302 0) ((34 + (nI kc)).toNatClampNeg))] [] (met_X8_mix (g_xl X) hs pm m (upd s 1302 0) lm_79 ((upd s 1302 0) ((34 + (nI kc)).toNatClampNeg)) ) LX8_227 obj_124 rfl rfl rfl dX8_digest_101 rfl rfl ?_
                    refine r_iinc (lc' := [(1, .int (nI (kc + 1))), (0, .ref (g_ad X 124))]) O 1 dX8_digest_104 rfl (nI_1 kc) (hN 1 rfl) rfl ?_
                    refine r_goto O 79 dX8_digest_107 (by decide) ?_
                    refine r_sub [1, 0] rfl ?_
                    exact ih_79 (kc + 1) (R_X8_mix (upd s 1302 0) lm_79 ((upd s 1302 0) ((34 + (nI kc)).toNatClampNeg))) (by with_reducible omega)
              refine r_sub [1, 0] rfl ?_
              exact L_79 25 0 lm_45 (by with_reducible omega)
            · have e_54 : (nI kb).toInt < (5 * ((upd s 1302 0) (0))).toInt := j_nle c_54
              refine r_aload_n O 0 dX8_digest_57 rfl rfl ?_
              refine r_aload_n O 0 dX8_digest_58 rfl rfl ?_
              refine r_iload_n O 1 dX8_digest_59 rfl rfl ?_
              refine r_iconst (x := 5) O dX8_digest_60 rfl ?_
              refine r_idiv O dX8_digest_61 (by decide) ?_
              refine r_iload_n O 1 dX8_digest_62 rfl rfl ?_
              refine r_iconst (x := 5) O dX8_digest_63 rfl ?_
              refine r_irem O dX8_digest_64 (by decide) ?_
              refine r_callVi O [.int ((nI kb) / 5), .int ((nI kb) - (nI kb) / 5 * 5)] [.ref (g_ad X 124)] (met_X8_passageFact (g_xl X) hs lm_45 pm m (upd s 1302 0) ((nI kb) / 5) ((nI kb) - (nI kb) / 5 * 5) (by first | decide | with_reducible assumption | with_reducible omega | (simp (disch := omega) only [g_upd_ne, g_upd_eq, fr_X8_walks, fr_X8_sets, hold_ne, fr_leaves_hi, fr_gives_hi, begins_hi]; first | with_reducible assumption | with_reducible omega | decide) | exact Or.inl rfl | exact Or.inr rfl) (by first | decide | with_reducible assumption | with_reducible omega | (simp (disch := omega) only [g_upd_ne, g_upd_eq, fr_X8_walks, fr_X8_sets, hold_ne, fr_leaves_hi, fr_gives_hi, begins_hi]; first | with_reducible assumption | with_reducible omega | decide) | exact Or.inl rfl | exact Or.inr rfl) (by first | decide | with_reducible assumption | with_reducible omega | (simp (disch := omega) only [g_upd_ne, g_upd_eq, fr_X8_walks, fr_X8_sets, hold_ne, fr_leaves_hi, fr_gives_hi, begins_hi]; first | with_reducible assumption | with_reducible omega | decide) | exact Or.inl rfl | exact Or.inr rfl)) LX8_165 obj_124 rfl rfl rfl dX8_digest_65 rfl rfl ?_
              refine r_callVv O [.int (R_X8_passageFact (upd s 1302 0) ((nI kb) / 5) ((nI kb) - (nI kb) / 5 * 5))] [] (met_X8_mix (g_xl X) hs pm m (upd s 1302 0) lm_45 (R_X8_passageFact (upd s 1302 0) ((nI kb) / 5) ((nI kb) - (nI kb) / 5 * 5)) ) LX8_227 obj_124 rfl rfl rfl dX8_digest_68 rfl rfl ?_
              refine r_iinc (lc' := [(1, .int (nI (kb + 1))), (0, .ref (g_ad X 124))]) O 1 dX8_digest_71 rfl (nI_1 kb) (hN 1 rfl) rfl ?_
              refine r_goto O 45 dX8_digest_74 (by decide) ?_
              refine r_sub [1, 0] rfl ?_
              exact ih_45 (kb + 1) (R_X8_mix (upd s 1302 0) lm_45 (R_X8_passageFact (upd s 1302 0) ((nI kb) / 5) ((nI kb) - (nI kb) / 5 * 5))) (by with_reducible omega)
        refine r_sub [1, 0] rfl ?_
        exact L_45 36 0 lm_22 (by with_reducible omega)
      · have e_25 : (nI ka).toInt < (14 : Int) := j_nleL c_25 rfl
        refine r_aload_n O 0 dX8_digest_28 rfl rfl ?_
        refine r_aload_n O 0 dX8_digest_29 rfl rfl ?_
        refine r_iload_n O 1 dX8_digest_30 rfl rfl ?_
        refine r_callVi O [.int (nI ka)] [.ref (g_ad X 124)] (met_X8_valueOf (g_xl X) hs lm_22 pm m (upd s 1302 0) (nI ka) (by first | decide | with_reducible assumption | with_reducible omega | (simp (disch := omega) only [g_upd_ne, g_upd_eq, fr_X8_walks, fr_X8_sets, hold_ne, fr_leaves_hi, fr_gives_hi, begins_hi]; first | with_reducible assumption | with_reducible omega | decide) | exact Or.inl rfl | exact Or.inr rfl) (by first | decide | with_reducible assumption | with_reducible omega | (simp (disch := omega) only [g_upd_ne, g_upd_eq, fr_X8_walks, fr_X8_sets, hold_ne, fr_leaves_hi, fr_gives_hi, begins_hi]; first | with_reducible assumption | with_reducible omega | decide) | exact Or.inl rfl | exact Or.inr rfl) (by first | decide | with_reducible assumption | with_reducible omega | (simp (disch := omega) only [g_upd_ne, g_upd_eq, fr_X8_walks, fr_X8_sets, hold_ne, fr_leaves_hi, fr_gives_hi, begins_hi]; first | with_reducible assumption | with_reducible omega | decide) | exact Or.inl rfl | exact Or.inr rfl) (by first | decide | with_reducible assumption | with_reducible omega | (simp (disch := omega) only [g_upd_ne, g_upd_eq, fr_X8_walks, fr_X8_sets, hold_ne, fr_leaves_hi, fr_gives_hi, begins_hi]; first | with_reducible assumption | with_reducible omega | decide) | exact Or.inl rfl | exact Or.inr rfl)) LX8_174 obj_124 rfl rfl rfl dX8_digest_31 rfl rfl ?_
        refine r_callVv O [.int (R_X8_valueOf (upd s 1302 0) (nI ka))] [] (met_X8_mix (g_xl X) hs pm m (upd s 1302 0) lm_22 (R_X8_valueOf (upd s 1302 0) (nI ka)) ) LX8_227 obj_124 rfl rfl rfl dX8_digest_34 rfl rfl ?_
        refine r_iinc (lc' := [(1, .int (nI (ka + 1))), (0, .ref (g_ad X 124))]) O 1 dX8_digest_37 rfl (nI_1 ka) (hN 1 rfl) rfl ?_
        refine r_goto O 22 dX8_digest_40 (by decide) ?_
        refine r_sub [1, 0] rfl ?_
        exact ih_22 (ka + 1) (R_X8_mix (upd s 1302 0) lm_22 (R_X8_valueOf (upd s 1302 0) (nI ka))) (by with_reducible omega)
  refine r_sub [1, 0] rfl ?_
  exact L_22 15 0 (R_X8_mix (upd s 1302 0) (vp_updL lm 0 3613) ((upd s 1302 0) 1301)) (by with_reducible omega)
theorem met_X8_digest (l : Launch) (hs : l.stackTraces = false) (pm : Nat → Nat) (m : Nat → Int32) (s : Nat → Int32) (lm : Nat → Int64) (p0 : g_J s) : g_SM l yX8_digest cX8_digest 2 (some .long) ({ frames := 4, cells := 0, slots := 0, locals := 89 } : Room) (fun ad => [.ref (ad 124)]) m (s, lm, pm) ((fun r : Int64 × (Nat → Int32) × (Nat → Int64) => ((.inl (some (.long r.1)), (m, r.2.1, r.2.2, pm)) : g_Res)) (R_X8_digest s lm)) :=
  g_sm_of (by decide) (fun _ => Nat.le_of_ble_eq_true rfl) hs (fun X hl hn O => walk_X8_digest O (by rw [hl]; exact hs) hn p0)
