/-! ===== the law: what is compared ===== -/
def R_L_isSo_488 (m : Nat → Int32) (s : Nat → Int32) (pm : Nat → Nat) (v10_95 : Int32) (v9_333 : Int32) (v11_439 : Int32) : Int32 := (if v11_439 = 0 then 0 else (if (g_wv (R_X7_value m pm ((6) : Int32))) = v9_333 then (if (g_wv (R_X7_value m pm ((10) : Int32))) = v10_95 then (if (g_wv (R_X7_message m pm (s (6)) ((0) : Int32))) = -2000001 then (if (g_wv (R_X7_carried m pm (s (12)) ((0) : Int32))) = -2000001 then (if (g_wv (R_X7_helper m pm (s (2)) ((0) : Int32))) = -2000001 then (if (g_wv (R_X7_rope m pm (s (1)) ((0) : Int32))) = -2000001 then (if (g_wv (R_X7_passage m pm (s (0)) ((0) : Int32))) = -2000001 then 1 else 0) else 0) else 0) else 0) else 0) else 0) else 0))
def R_L_isSo_480 (K_439 : Int32 → Nat → Int32) (ke : Nat) (t0_480 : Int32) : Int32 := (K_439 t0_480 (ke + 1))
def R_L_isSo_439 (m : Nat → Int32) (s : Nat → Int32) (pm : Nat → Nat) (v10_95 : Int32) (v9_333 : Int32) : Nat → Int32 → Nat → Int32
  | 0, _, _ => 0
  | f + 1, v11_439, ke => (if (3 * (s (12))) ≤ (nI ke) then (R_L_isSo_488 m s pm v10_95 v9_333 v11_439 ) else (if v11_439 = 0 then (R_L_isSo_488 m s pm v10_95 v9_333 v11_439 ) else (if (g_wv (R_X7_carried m pm ((nI ke) / 3) ((nI ke) - (nI ke) / 3 * 3))) = (s (142 + ke)) then (R_L_isSo_480 (R_L_isSo_439 m s pm v10_95 v9_333 f) ke 1) else (R_L_isSo_480 (R_L_isSo_439 m s pm v10_95 v9_333 f) ke 0))))
def R_L_isSo_436 (m : Nat → Int32) (s : Nat → Int32) (pm : Nat → Nat) (v10_95 : Int32) (v9_333 : Int32) (v11_387 : Int32) : Int32 := (R_L_isSo_439 m s pm v10_95 v9_333 37 v11_387 0)
def R_L_isSo_428 (K_387 : Int32 → Nat → Int32) (kd : Nat) (t0_428 : Int32) : Int32 := (K_387 t0_428 (kd + 1))
def R_L_isSo_387 (m : Nat → Int32) (s : Nat → Int32) (pm : Nat → Nat) (v10_95 : Int32) (v9_333 : Int32) : Nat → Int32 → Nat → Int32
  | 0, _, _ => 0
  | f + 1, v11_387, kd => (if (3 * (s (6))) ≤ (nI kd) then (R_L_isSo_436 m s pm v10_95 v9_333 v11_387 ) else (if v11_387 = 0 then (R_L_isSo_436 m s pm v10_95 v9_333 v11_387 ) else (if (g_wv (R_X7_message m pm ((nI kd) / 3) ((nI kd) - (nI kd) / 3 * 3))) = (s (112 + kd)) then (R_L_isSo_428 (R_L_isSo_387 m s pm v10_95 v9_333 f) kd 1) else (R_L_isSo_428 (R_L_isSo_387 m s pm v10_95 v9_333 f) kd 0))))
def R_L_isSo_375 (K_333 : Int32 → Nat → Int32) (v9_333 : Int32) (hh : Nat) (t0_375 : Int32) : Int32 := (K_333 (v9_333 + t0_375) (hh + 1))
def R_L_isSo_370 (K_333 : Int32 → Nat → Int32) (v9_333 : Int32) (hh : Nat) : Int32 := (R_L_isSo_375 K_333 v9_333 hh 1)
def R_L_isSo_333 (m : Nat → Int32) (s : Nat → Int32) (pm : Nat → Nat) (v10_95 : Int32) (v11_279 : Int32) : Nat → Int32 → Nat → Int32
  | 0, _, _ => 0
  | f + 1, v9_333, hh => (if (s (2)) ≤ (nI hh) then (R_L_isSo_387 m s pm v10_95 v9_333 31 v11_279 0) else (if 0 < (s (58 + 9 * hh + 1)) then (R_L_isSo_370 (R_L_isSo_333 m s pm v10_95 v11_279 f) v9_333 hh ) else (if (s (58 + 9 * hh + 2)) = 1 then (R_L_isSo_370 (R_L_isSo_333 m s pm v10_95 v11_279 f) v9_333 hh ) else (R_L_isSo_375 (R_L_isSo_333 m s pm v10_95 v11_279 f) v9_333 hh 0))))
def R_L_isSo_330 (m : Nat → Int32) (s : Nat → Int32) (pm : Nat → Nat) (v10_95 : Int32) (v11_279 : Int32) : Int32 := (R_L_isSo_333 m s pm v10_95 v11_279 7 0 0)
def R_L_isSo_322 (K_279 : Int32 → Nat → Int32) (kc : Nat) (t0_322 : Int32) : Int32 := (K_279 t0_322 (kc + 1))
def R_L_isSo_279 (m : Nat → Int32) (s : Nat → Int32) (pm : Nat → Nat) (v10_95 : Int32) : Nat → Int32 → Nat → Int32
  | 0, _, _ => 0
  | f + 1, v11_279, kc => (if (9 * (s (2))) ≤ (nI kc) then (R_L_isSo_330 m s pm v10_95 v11_279 ) else (if v11_279 = 0 then (R_L_isSo_330 m s pm v10_95 v11_279 ) else (if (g_wv (R_X7_helper m pm ((nI kc) / 9) ((nI kc) - (nI kc) / 9 * 9))) = (s (58 + kc + 0)) then (R_L_isSo_322 (R_L_isSo_279 m s pm v10_95 f) kc 1) else (R_L_isSo_322 (R_L_isSo_279 m s pm v10_95 f) kc 0))))
def R_L_isSo_276 (m : Nat → Int32) (s : Nat → Int32) (pm : Nat → Nat) (v10_95 : Int32) (v11_228 : Int32) : Int32 := (R_L_isSo_279 m s pm v10_95 55 v11_228 0)
def R_L_isSo_268 (K_228 : Int32 → Nat → Int32) (kb : Nat) (t0_268 : Int32) : Int32 := (K_228 t0_268 (kb + 1))
def R_L_isSo_228 (m : Nat → Int32) (s : Nat → Int32) (pm : Nat → Nat) (v10_95 : Int32) : Nat → Int32 → Nat → Int32
  | 0, _, _ => 0
  | f + 1, v11_228, kb => (if (3 * (s (1))) ≤ (nI kb) then (R_L_isSo_276 m s pm v10_95 v11_228 ) else (if v11_228 = 0 then (R_L_isSo_276 m s pm v10_95 v11_228 ) else (if (g_wv (R_X7_rope m pm ((nI kb) / 3) ((nI kb) - (nI kb) / 3 * 3))) = (s (34 + kb)) then (R_L_isSo_268 (R_L_isSo_228 m s pm v10_95 f) kb 1) else (R_L_isSo_268 (R_L_isSo_228 m s pm v10_95 f) kb 0))))
def R_L_isSo_225 (m : Nat → Int32) (s : Nat → Int32) (pm : Nat → Nat) (v10_95 : Int32) (v11_95 : Int32) : Int32 := (R_L_isSo_228 m s pm v10_95 25 v11_95 0)
def R_L_isSo_217 (K_95 : Int32 → Int32 → Nat → Int32) (v10_95 : Int32) (p : Nat) (t0_130 : Int32) (t0_217 : Int32) : Int32 := (K_95 (v10_95 + t0_130) t0_217 (p + 1))
def R_L_isSo_216 (K_95 : Int32 → Int32 → Nat → Int32) (v10_95 : Int32) (p : Nat) (t0_130 : Int32) : Int32 := (R_L_isSo_217 K_95 v10_95 p t0_130 0)
def R_L_isSo_130 (m : Nat → Int32) (s : Nat → Int32) (pm : Nat → Nat) (K_95 : Int32 → Int32 → Nat → Int32) (v10_95 : Int32) (p : Nat) (t0_130 : Int32) : Int32 := (if (g_wv (R_X7_passage m pm (nI p) ((0) : Int32))) = (s (13 + p)) then (if (g_wv (R_X7_passage m pm (nI p) ((1) : Int32))) = (s (20 + p)) then (if (g_wv (R_X7_passage m pm (nI p) ((2) : Int32))) = (s (27 + p)) then (if (g_wv (R_X7_passage m pm (nI p) ((3) : Int32))) = (R_L_many s (nI p)) then (if (g_wv (R_X7_passage m pm (nI p) ((4) : Int32))) = (R_L_rigger s (nI p)) then (R_L_isSo_217 K_95 v10_95 p t0_130 1) else (R_L_isSo_216 K_95 v10_95 p t0_130 )) else (R_L_isSo_216 K_95 v10_95 p t0_130 )) else (R_L_isSo_216 K_95 v10_95 p t0_130 )) else (R_L_isSo_216 K_95 v10_95 p t0_130 )) else (R_L_isSo_216 K_95 v10_95 p t0_130 ))
def R_L_isSo_129 (m : Nat → Int32) (s : Nat → Int32) (pm : Nat → Nat) (K_95 : Int32 → Int32 → Nat → Int32) (v10_95 : Int32) (p : Nat) : Int32 := (R_L_isSo_130 m s pm K_95 v10_95 p 0)
def R_L_isSo_95 (m : Nat → Int32) (s : Nat → Int32) (pm : Nat → Nat) : Nat → Int32 → Int32 → Nat → Int32
  | 0, _, _, _ => 0
  | f + 1, v10_95, v11_95, p => (if (s (0)) ≤ (nI p) then (R_L_isSo_225 m s pm v10_95 v11_95 ) else (if v11_95 = 0 then (R_L_isSo_225 m s pm v10_95 v11_95 ) else (if (s (13 + p)) ≤ 0 then (R_L_isSo_129 m s pm (R_L_isSo_95 m s pm f) v10_95 p ) else (if 0 ≤ (s (27 + p)) then (R_L_isSo_129 m s pm (R_L_isSo_95 m s pm f) v10_95 p ) else (R_L_isSo_130 m s pm (R_L_isSo_95 m s pm f) v10_95 p 1)))))
def R_L_isSo_84 (K_12 : Int32 → Nat → Int32) (ka : Nat) (t0_84 : Int32) : Int32 := (K_12 t0_84 (ka + 1))
def R_L_isSo_83 (K_12 : Int32 → Nat → Int32) (ka : Nat) : Int32 := (R_L_isSo_84 K_12 ka 0)
def R_L_isSo_79 (K_12 : Int32 → Nat → Int32) (ka : Nat) : Int32 := (R_L_isSo_84 K_12 ka 1)
def R_L_isSo_75 (m : Nat → Int32) (s : Nat → Int32) (pm : Nat → Nat) (K_12 : Int32 → Nat → Int32) (ka : Nat) (t0_75 : Int32) : Int32 := (if (g_wv (R_X7_value m pm (nI ka))) = (s (0 + t0_75.toNatClampNeg)) then (R_L_isSo_79 K_12 ka ) else (R_L_isSo_83 K_12 ka ))
def R_L_isSo_12 (m : Nat → Int32) (s : Nat → Int32) (pm : Nat → Nat) : Nat → Int32 → Nat → Int32
  | 0, _, _ => 0
  | f + 1, v11_12, ka => (if 14 ≤ (nI ka) then (R_L_isSo_95 m s pm 8 0 v11_12 0) else (if v11_12 = 0 then (R_L_isSo_83 (R_L_isSo_12 m s pm f) ka ) else (if (nI ka) = 6 then (R_L_isSo_79 (R_L_isSo_12 m s pm f) ka ) else (if (nI ka) = 10 then (R_L_isSo_79 (R_L_isSo_12 m s pm f) ka ) else (if 6 ≤ (nI ka) then (if 10 ≤ (nI ka) then (R_L_isSo_75 m s pm (R_L_isSo_12 m s pm f) ka ((nI ka) - 2)) else (R_L_isSo_75 m s pm (R_L_isSo_12 m s pm f) ka ((nI ka) - 1))) else (R_L_isSo_75 m s pm (R_L_isSo_12 m s pm f) ka (nI ka)))))))
def R_L_isSo (m : Nat → Int32) (s : Nat → Int32) (pm : Nat → Nat) : Int32 := (R_L_isSo_12 m s pm 15 1 0)
set_option maxRecDepth 100000 in
set_option maxHeartbeats 4000000 in
theorem walk_L_isSo {X : g_X} (O : g_ok X cL_isSo RL (some .boolean) ({ frames := 10, cells := 384, slots := 2304, locals := 187 } : Room)) (hs : (g_xl X).stackTraces = false) (Y : g_Y (g_xs X)) (hn : g_xn X = 13) {lm : Nat → Int64} {m : Nat → Int32} {s : Nat → Int32} {pm : Nat → Nat} (p0 : g_I m pm) (p1 : (s (0)).toInt ≤ 7) (p2 : (s (1)).toInt ≤ 8) (p3 : (s (2)).toInt ≤ 6) (p4 : (s (6)).toInt ≤ 10) (p5 : (s (12)).toInt ≤ 12) (p6 : 0 ≤ (s (0)).toInt) (p7 : 0 ≤ (s (1)).toInt) (p8 : 0 ≤ (s (2)).toInt) (p9 : 0 ≤ (s (6)).toInt) (p10 : 0 ≤ (s (12)).toInt) : g_V X (fun r : Int32 => ((.inl (some (.int r)), (m, s, lm, pm)) : g_Res)) (R_L_isSo m s pm) 0 0 m (s, lm, pm) 0 [(0, .ref (g_ad X 122)), (1, .ref (g_ad X 124)), (2, .ref (g_ad X 125)), (3, .ref (g_ad X 126)), (4, .ref (g_ad X 127)), (5, .ref (g_ad X 128)), (6, .ref (g_ad X 129)), (7, .ref (g_ad X 130)), (8, .ref (g_ad X 131))] [] := by
  have hN : ∀ i, Nat.blt i 13 = true → i < g_xn X := fun i h => by rw [hn]; exact g_blt.mp h
  have hI0 := p0
  refine r_iconst (x := 0) O dL_isSo_0 rfl ?_
  refine r_istore (lc' := [(9, .int 0), (0, .ref (g_ad X 122)), (1, .ref (g_ad X 124)), (2, .ref (g_ad X 125)), (3, .ref (g_ad X 126)), (4, .ref (g_ad X 127)), (5, .ref (g_ad X 128)), (6, .ref (g_ad X 129)), (7, .ref (g_ad X 130)), (8, .ref (g_ad X 131))]) O dL_isSo_1 (hN 9 rfl) rfl ?_
  refine r_iconst (x := 0) O dL_isSo_3 rfl ?_
  refine r_istore (lc' := [(10, .int 0), (9, .int 0), (0, .ref (g_ad X 122)), (1, .ref (g_ad X 124)), (2, .ref (g_ad X 125)), (3, .ref (g_ad X 126)), (4, .ref (g_ad X 127)), (5, .ref (g_ad X 128)), (6, .ref (g_ad X 129)), (7, .ref (g_ad X 130)), (8, .ref (g_ad X 131))]) O dL_isSo_4 (hN 10 rfl) rfl ?_
  refine r_iconst (x := 1) O dL_isSo_6 rfl ?_
  refine r_istore (lc' := [(11, .int 1), (10, .int 0), (9, .int 0), (0, .ref (g_ad X 122)), (1, .ref (g_ad X 124)), (2, .ref (g_ad X 125)), (3, .ref (g_ad X 126)), (4, .ref (g_ad X 127)), (5, .ref (g_ad X 128)), (6, .ref (g_ad X 129)), (7, .ref (g_ad X 130)), (8, .ref (g_ad X 131))]) O dL_isSo_7 (hN 11 rfl) rfl ?_
  refine r_iconst (x := 0) O dL_isSo_9 rfl ?_
  refine r_istore (lc' := [(12, .int 0), (11, .int 1), (10, .int 0), (9, .int 0), (0, .ref (g_ad X 122)), (1, .ref (g_ad X 124)), (2, .ref (g_ad X 125)), (3, .ref (g_ad X 126)), (4, .ref (g_ad X 127)), (5, .ref (g_ad X 128)), (6, .ref (g_ad X 129)), (7, .ref (g_ad X 130)), (8, .ref (g_ad X 131))]) O dL_isSo_10 (hN 12 rfl) rfl ?_
  have L_12 : ∀ (f_12 : Nat) (v11_12 : Int32) (ka : Nat) (hi_12 : ka ≤ 14 ∧ 14 < f_12 + ka), g_V X (fun r : Int32 => ((.inl (some (.int r)), (m, s, lm, pm)) : g_Res)) (R_L_isSo_12 m s pm f_12 v11_12 ka) (0 + 1 * ka) (0 + 6 * ka) m (s, lm, pm) 12 [(0, .ref (g_ad X 122)), (1, .ref (g_ad X 124)), (2, .ref (g_ad X 125)), (3, .ref (g_ad X 126)), (4, .ref (g_ad X 127)), (5, .ref (g_ad X 128)), (6, .ref (g_ad X 129)), (7, .ref (g_ad X 130)), (8, .ref (g_ad X 131)), (9, .int 0), (10, .int 0), (11, .int v11_12), (12, .int (nI ka))] [] := by
    intro f_12
    induction f_12 with
    | zero => intro v11_12 ka hi_12; exact absurd hi_12 (by omega)
    | succ f_12 ih_12 =>
      intro v11_12 ka hi_12
      have hc_ka : (nI ka).toInt = (ka : Int) := nI_toInt (by omega)
      refine r_iload O 12 dL_isSo_12 rfl ?_
      refine r_bipush (x := 14) O dL_isSo_14 rfl ?_
      refine r_icmp_ge O 92 dL_isSo_16 (by decide) (fun c_16 => ?_) (fun c_16 => ?_)
      · have e_16 : (14 : Int) ≤ (nI ka).toInt := j_leL c_16 rfl
        refine r_widen (k' := 14) (n' := 84) (by show (0 + 1 * ka) ≤ 14; omega) (by show (0 + 6 * ka) ≤ 84; omega) ?_
        refine r_iconst (x := 0) O dL_isSo_92 rfl ?_
        refine r_istore (lc' := [(12, .int 0), (0, .ref (g_ad X 122)), (1, .ref (g_ad X 124)), (2, .ref (g_ad X 125)), (3, .ref (g_ad X 126)), (4, .ref (g_ad X 127)), (5, .ref (g_ad X 128)), (6, .ref (g_ad X 129)), (7, .ref (g_ad X 130)), (8, .ref (g_ad X 131)), (9, .int 0), (10, .int 0), (11, .int v11_12)]) O dL_isSo_93 (hN 12 rfl) rfl ?_
        have L_95 : ∀ (f_95 : Nat) (v10_95 : Int32) (v11_95 : Int32) (p : Nat) (hi_95 : p ≤ 7 ∧ 7 < f_95 + p), g_V X (fun r : Int32 => ((.inl (some (.int r)), (m, s, lm, pm)) : g_Res)) (R_L_isSo_95 m s pm f_95 v10_95 v11_95 p) (14 + 10 * p) (84 + 60 * p) m (s, lm, pm) 95 [(0, .ref (g_ad X 122)), (1, .ref (g_ad X 124)), (2, .ref (g_ad X 125)), (3, .ref (g_ad X 126)), (4, .ref (g_ad X 127)), (5, .ref (g_ad X 128)), (6, .ref (g_ad X 129)), (7, .ref (g_ad X 130)), (8, .ref (g_ad X 131)), (9, .int 0), (10, .int v10_95), (11, .int v11_95), (12, .int (nI p))] [] := by
          intro f_95
          induction f_95 with
          | zero => intro v10_95 v11_95 p hi_95; exact absurd hi_95 (by omega)
          | succ f_95 ih_95 =>
            intro v10_95 v11_95 p hi_95
            have hc_p : (nI p).toInt = (p : Int) := nI_toInt (by omega)
            refine r_iload O 12 dL_isSo_95 rfl ?_
            refine r_aload_n O 1 dL_isSo_97 rfl rfl ?_
            refine r_iconst (x := 0) O dL_isSo_98 rfl ?_
            refine r_ialn (b := 0) (loc := 0) O R_124 (g_vin (by decide) (by decide)) rfl dL_isSo_99 ?_
            have J_225 : g_V X (fun r : Int32 => ((.inl (some (.int r)), (m, s, lm, pm)) : g_Res)) (R_L_isSo_225 m s pm v10_95 v11_95 ) 84 504 m (s, lm, pm) 225 [(0, .ref (g_ad X 122)), (1, .ref (g_ad X 124)), (5, .ref (g_ad X 128)), (6, .ref (g_ad X 129)), (7, .ref (g_ad X 130)), (8, .ref (g_ad X 131)), (9, .int 0), (10, .int v10_95), (11, .int v11_95)] [] := by
              refine r_widen (k' := 84) (n' := 504) (by show 84 ≤ 84; omega) (by show 504 ≤ 504; omega) ?_
              refine r_iconst (x := 0) O dL_isSo_225 rfl ?_
              refine r_istore (lc' := [(12, .int 0), (0, .ref (g_ad X 122)), (1, .ref (g_ad X 124)), (5, .ref (g_ad X 128)), (6, .ref (g_ad X 129)), (7, .ref (g_ad X 130)), (8, .ref (g_ad X 131)), (9, .int 0), (10, .int v10_95), (11, .int v11_95)]) O dL_isSo_226 (hN 12 rfl) rfl ?_
              have L_228 : ∀ (f_228 : Nat) (v11_228 : Int32) (kb : Nat) (hi_228 : kb ≤ 24 ∧ 24 < f_228 + kb), g_V X (fun r : Int32 => ((.inl (some (.int r)), (m, s, lm, pm)) : g_Res)) (R_L_isSo_228 m s pm v10_95 f_228 v11_228 kb) (84 + 2 * kb) (504 + 12 * kb) m (s, lm, pm) 228 [(0, .ref (g_ad X 122)), (1, .ref (g_ad X 124)), (5, .ref (g_ad X 128)), (6, .ref (g_ad X 129)), (7, .ref (g_ad X 130)), (8, .ref (g_ad X 131)), (9, .int 0), (10, .int v10_95), (11, .int v11_228), (12, .int (nI kb))] [] := by
                intro f_228
                induction f_228 with
                | zero => intro v11_228 kb hi_228; exact absurd hi_228 (by omega)
                | succ f_228 ih_228 =>
                  intro v11_228 kb hi_228
                  have hc_kb : (nI kb).toInt = (kb : Int) := nI_toInt (by omega)
                  refine r_iload O 9 dL_isSo_228 rfl ?_
                  refine r_iconst (x := 3) O dL_isSo_230 rfl ?_
                  refine r_aload_n O 1 dL_isSo_231 rfl rfl ?_
                  refine r_iconst (x := 1) O dL_isSo_232 rfl ?_
                  refine r_ialn (b := 0) (loc := 1) O R_124 (g_vin (by decide) (by decide)) rfl dL_isSo_233 ?_
                  refine r_imul O dL_isSo_234 ?_
                  have J_276 : g_V X (fun r : Int32 => ((.inl (some (.int r)), (m, s, lm, pm)) : g_Res)) (R_L_isSo_276 m s pm v10_95 v11_228 ) 132 792 m (s, lm, pm) 276 [(0, .ref (g_ad X 122)), (1, .ref (g_ad X 124)), (6, .ref (g_ad X 129)), (7, .ref (g_ad X 130)), (8, .ref (g_ad X 131)), (9, .int 0), (10, .int v10_95), (11, .int v11_228)] [] := by
                    refine r_widen (k' := 132) (n' := 792) (by show 132 ≤ 132; omega) (by show 792 ≤ 792; omega) ?_
                    refine r_iconst (x := 0) O dL_isSo_276 rfl ?_
                    refine r_istore (lc' := [(12, .int 0), (0, .ref (g_ad X 122)), (1, .ref (g_ad X 124)), (6, .ref (g_ad X 129)), (7, .ref (g_ad X 130)), (8, .ref (g_ad X 131)), (9, .int 0), (10, .int v10_95), (11, .int v11_228)]) O dL_isSo_277 (hN 12 rfl) rfl ?_
                    have L_279 : ∀ (f_279 : Nat) (v11_279 : Int32) (kc : Nat) (hi_279 : kc ≤ 54 ∧ 54 < f_279 + kc), g_V X (fun r : Int32 => ((.inl (some (.int r)), (m, s, lm, pm)) : g_Res)) (R_L_isSo_279 m s pm v10_95 f_279 v11_279 kc) (132 + 2 * kc) (792 + 12 * kc) m (s, lm, pm) 279 [(0, .ref (g_ad X 122)), (1, .ref (g_ad X 124)), (6, .ref (g_ad X 129)), (7, .ref (g_ad X 130)), (8, .ref (g_ad X 131)), (9, .int 0), (10, .int v10_95), (11, .int v11_279), (12, .int (nI kc))] [] := by
                      intro f_279
                      induction f_279 with
                      | zero => intro v11_279 kc hi_279; exact absurd hi_279 (by omega)
                      | succ f_279 ih_279 =>
                        intro v11_279 kc hi_279
                        have hc_kc : (nI kc).toInt = (kc : Int) := nI_toInt (by omega)
                        refine r_iload O 8 dL_isSo_279 rfl ?_
                        refine r_bipush (x := 9) O dL_isSo_281 rfl ?_
                        refine r_aload_n O 1 dL_isSo_283 rfl rfl ?_
                        refine r_iconst (x := 2) O dL_isSo_284 rfl ?_
                        refine r_ialn (b := 0) (loc := 2) O R_124 (g_vin (by decide) (by decide)) rfl dL_isSo_285 ?_
                        refine r_imul O dL_isSo_286 ?_
                        have J_330 : g_V X (fun r : Int32 => ((.inl (some (.int r)), (m, s, lm, pm)) : g_Res)) (R_L_isSo_330 m s pm v10_95 v11_279 ) 240 1440 m (s, lm, pm) 330 [(0, .ref (g_ad X 122)), (1, .ref (g_ad X 124)), (6, .ref (g_ad X 129)), (7, .ref (g_ad X 130)), (8, .ref (g_ad X 131)), (9, .int 0), (10, .int v10_95), (11, .int v11_279)] [] := by
                          refine r_widen (k' := 240) (n' := 1440) (by show 240 ≤ 240; omega) (by show 1440 ≤ 1440; omega) ?_
                          refine r_iconst (x := 0) O dL_isSo_330 rfl ?_
                          refine r_istore (lc' := [(12, .int 0), (0, .ref (g_ad X 122)), (1, .ref (g_ad X 124)), (6, .ref (g_ad X 129)), (7, .ref (g_ad X 130)), (8, .ref (g_ad X 131)), (9, .int 0), (10, .int v10_95), (11, .int v11_279)]) O dL_isSo_331 (hN 12 rfl) rfl ?_
                          have L_333 : ∀ (f_333 : Nat) (v9_333 : Int32) (hh : Nat) (hi_333 : hh ≤ 6 ∧ 6 < f_333 + hh), g_V X (fun r : Int32 => ((.inl (some (.int r)), (m, s, lm, pm)) : g_Res)) (R_L_isSo_333 m s pm v10_95 v11_279 f_333 v9_333 hh) 240 1440 m (s, lm, pm) 333 [(0, .ref (g_ad X 122)), (1, .ref (g_ad X 124)), (6, .ref (g_ad X 129)), (7, .ref (g_ad X 130)), (8, .ref (g_ad X 131)), (9, .int v9_333), (10, .int v10_95), (11, .int v11_279), (12, .int (nI hh))] [] := by
                            intro f_333
                            induction f_333 with
                            | zero => intro v9_333 hh hi_333; exact absurd hi_333 (by omega)
                            | succ f_333 ih_333 =>
                              intro v9_333 hh hi_333
                              have hc_hh : (nI hh).toInt = (hh : Int) := nI_toInt (by omega)
                              refine r_iload O 8 dL_isSo_333 rfl ?_
                              refine r_aload_n O 1 dL_isSo_335 rfl rfl ?_
                              refine r_iconst (x := 2) O dL_isSo_336 rfl ?_
                              refine r_ialn (b := 0) (loc := 2) O R_124 (g_vin (by decide) (by decide)) rfl dL_isSo_337 ?_
                              refine r_icmp_ge O 384 dL_isSo_338 (by decide) (fun c_338 => ?_) (fun c_338 => ?_)
                              · have e_338 : (s (2)).toInt ≤ (nI hh).toInt := j_le c_338
                                refine r_iconst (x := 0) O dL_isSo_384 rfl ?_
                                refine r_istore (lc' := [(12, .int 0), (0, .ref (g_ad X 122)), (1, .ref (g_ad X 124)), (6, .ref (g_ad X 129)), (7, .ref (g_ad X 130)), (8, .ref (g_ad X 131)), (9, .int v9_333), (10, .int v10_95), (11, .int v11_279)]) O dL_isSo_385 (hN 12 rfl) rfl ?_
                                have L_387 : ∀ (f_387 : Nat) (v11_387 : Int32) (kd : Nat) (hi_387 : kd ≤ 30 ∧ 30 < f_387 + kd), g_V X (fun r : Int32 => ((.inl (some (.int r)), (m, s, lm, pm)) : g_Res)) (R_L_isSo_387 m s pm v10_95 v9_333 f_387 v11_387 kd) (240 + 2 * kd) (1440 + 12 * kd) m (s, lm, pm) 387 [(0, .ref (g_ad X 122)), (1, .ref (g_ad X 124)), (7, .ref (g_ad X 130)), (8, .ref (g_ad X 131)), (9, .int v9_333), (10, .int v10_95), (11, .int v11_387), (12, .int (nI kd))] [] := by
                                  intro f_387
                                  induction f_387 with
                                  | zero => intro v11_387 kd hi_387; exact absurd hi_387 (by omega)
                                  | succ f_387 ih_387 =>
                                    intro v11_387 kd hi_387
                                    have hc_kd : (nI kd).toInt = (kd : Int) := nI_toInt (by omega)
                                    refine r_iload O 7 dL_isSo_387 rfl ?_
                                    refine r_iconst (x := 3) O dL_isSo_389 rfl ?_
                                    refine r_aload_n O 1 dL_isSo_390 rfl rfl ?_
                                    refine r_bipush (x := 6) O dL_isSo_391 rfl ?_
                                    refine r_ialn (b := 0) (loc := 6) O R_124 (g_vin (by decide) (by decide)) rfl dL_isSo_393 ?_
                                    refine r_imul O dL_isSo_394 ?_
                                    have J_436 : g_V X (fun r : Int32 => ((.inl (some (.int r)), (m, s, lm, pm)) : g_Res)) (R_L_isSo_436 m s pm v10_95 v9_333 v11_387 ) 300 1800 m (s, lm, pm) 436 [(0, .ref (g_ad X 122)), (1, .ref (g_ad X 124)), (8, .ref (g_ad X 131)), (9, .int v9_333), (10, .int v10_95), (11, .int v11_387)] [] := by
                                      refine r_widen (k' := 300) (n' := 1800) (by show 300 ≤ 300; omega) (by show 1800 ≤ 1800; omega) ?_
                                      refine r_iconst (x := 0) O dL_isSo_436 rfl ?_
                                      refine r_istore (lc' := [(12, .int 0), (0, .ref (g_ad X 122)), (1, .ref (g_ad X 124)), (8, .ref (g_ad X 131)), (9, .int v9_333), (10, .int v10_95), (11, .int v11_387)]) O dL_isSo_437 (hN 12 rfl) rfl ?_
                                      have L_439 : ∀ (f_439 : Nat) (v11_439 : Int32) (ke : Nat) (hi_439 : ke ≤ 36 ∧ 36 < f_439 + ke), g_V X (fun r : Int32 => ((.inl (some (.int r)), (m, s, lm, pm)) : g_Res)) (R_L_isSo_439 m s pm v10_95 v9_333 f_439 v11_439 ke) (300 + 2 * ke) (1800 + 12 * ke) m (s, lm, pm) 439 [(0, .ref (g_ad X 122)), (1, .ref (g_ad X 124)), (8, .ref (g_ad X 131)), (9, .int v9_333), (10, .int v10_95), (11, .int v11_439), (12, .int (nI ke))] [] := by
                                        intro f_439
                                        induction f_439 with
                                        | zero => intro v11_439 ke hi_439; exact absurd hi_439 (by omega)
                                        | succ f_439 ih_439 =>
                                          intro v11_439 ke hi_439
                                          have hc_ke : (nI ke).toInt = (ke : Int) := nI_toInt (by omega)
                                          refine r_iload O 6 dL_isSo_439 rfl ?_
                                          refine r_iconst (x := 3) O dL_isSo_441 rfl ?_
                                          refine r_aload_n O 1 dL_isSo_442 rfl rfl ?_
                                          refine r_bipush (x := 12) O dL_isSo_443 rfl ?_
                                          refine r_ialn (b := 0) (loc := 12) O R_124 (g_vin (by decide) (by decide)) rfl dL_isSo_445 ?_
                                          refine r_imul O dL_isSo_446 ?_
                                          have J_488 : g_V X (fun r : Int32 => ((.inl (some (.int r)), (m, s, lm, pm)) : g_Res)) (R_L_isSo_488 m s pm v10_95 v9_333 v11_439 ) 372 2232 m (s, lm, pm) 488 [(0, .ref (g_ad X 122)), (1, .ref (g_ad X 124)), (9, .int v9_333), (10, .int v10_95), (11, .int v11_439)] [] := by
                                            refine r_widen (k' := 372) (n' := 2232) (by show 372 ≤ 372; omega) (by show 2232 ≤ 2232; omega) ?_
                                            refine r_iload O 4 dL_isSo_488 rfl ?_
                                            refine r_if_eq O 586 dL_isSo_490 (by decide) (fun c_490 => ?_) (fun c_490 => ?_)
                                            · have e_490 : (v11_439).toInt = (0 : Int) := j_eqR c_490 rfl
                                              refine r_iconst (x := 0) O dL_isSo_586 rfl ?_
                                              exact r_iret O dL_isSo_587 rfl (Nat.le_of_ble_eq_true rfl) (Nat.le_of_ble_eq_true rfl) rfl
                                            · have e_490 : (v11_439).toInt ≠ (0 : Int) := j_neR c_490 rfl
                                              refine r_aload_n O 0 dL_isSo_493 rfl rfl ?_
                                              refine r_bipush (x := 6) O dL_isSo_494 rfl ?_
                                              refine r_cW O Y [.ref (g_ad X 122), .int 6] [] (rd_L_valueOf (g_xl X) hs m s lm pm ((6) : Int32) hI0) LW_162 rfl rfl rfl dL_isSo_496 rfl rfl ?_
                                              refine r_iload O 2 dL_isSo_499 rfl ?_
                                              refine r_icmp_ne O 586 dL_isSo_501 (by decide) (fun c_501 => ?_) (fun c_501 => ?_)
                                              · have e_501 : (g_wv (R_X7_value m pm ((6) : Int32))).toInt = (v9_333).toInt := j_eq c_501
                                                refine r_aload_n O 0 dL_isSo_504 rfl rfl ?_
                                                refine r_bipush (x := 10) O dL_isSo_505 rfl ?_
                                                refine r_cW O Y [.ref (g_ad X 122), .int 10] [] (rd_L_valueOf (g_xl X) hs m s lm pm ((10) : Int32) hI0) LW_162 rfl rfl rfl dL_isSo_507 rfl rfl ?_
                                                refine r_iload O 3 dL_isSo_510 rfl ?_
                                                refine r_icmp_ne O 586 dL_isSo_512 (by decide) (fun c_512 => ?_) (fun c_512 => ?_)
                                                · have e_512 : (g_wv (R_X7_value m pm ((10) : Int32))).toInt = (v10_95).toInt := j_eq c_512
                                                  refine r_aload_n O 0 dL_isSo_515 rfl rfl ?_
                                                  refine r_aload_n O 1 dL_isSo_516 rfl rfl ?_
                                                  refine r_bipush (x := 6) O dL_isSo_517 rfl ?_
                                                  refine r_ialn (b := 0) (loc := 6) O R_124 (g_vin (by decide) (by decide)) rfl dL_isSo_519 ?_
                                                  refine r_iconst (x := 0) O dL_isSo_520 rfl ?_
                                                  refine r_cW O Y [.ref (g_ad X 122), .int (s (6)), .int 0] [] (rd_L_messageOf (g_xl X) hs m s lm pm (s (6)) ((0) : Int32) hI0) LW_174 rfl rfl rfl dL_isSo_521 rfl rfl ?_
                                                  refine r_ldc O dL_isSo_524 w_con_L_68 ?_
                                                  refine r_icmp_ne O 586 dL_isSo_526 (by decide) (fun c_526 => ?_) (fun c_526 => ?_)
                                                  · have e_526 : (g_wv (R_X7_message m pm (s (6)) ((0) : Int32))).toInt = (-2000001 : Int) := j_eqR c_526 rfl
                                                    refine r_aload_n O 0 dL_isSo_529 rfl rfl ?_
                                                    refine r_aload_n O 1 dL_isSo_530 rfl rfl ?_
                                                    refine r_bipush (x := 12) O dL_isSo_531 rfl ?_
                                                    refine r_ialn (b := 0) (loc := 12) O R_124 (g_vin (by decide) (by decide)) rfl dL_isSo_533 ?_
                                                    refine r_iconst (x := 0) O dL_isSo_534 rfl ?_
                                                    refine r_cW O Y [.ref (g_ad X 122), .int (s (12)), .int 0] [] (rd_L_carriedOf (g_xl X) hs m s lm pm (s (12)) ((0) : Int32) hI0) LW_177 rfl rfl rfl dL_isSo_535 rfl rfl ?_
                                                    refine r_ldc O dL_isSo_538 w_con_L_68 ?_
                                                    refine r_icmp_ne O 586 dL_isSo_540 (by decide) (fun c_540 => ?_) (fun c_540 => ?_)
                                                    · have e_540 : (g_wv (R_X7_carried m pm (s (12)) ((0) : Int32))).toInt = (-2000001 : Int) := j_eqR c_540 rfl
                                                      refine r_aload_n O 0 dL_isSo_543 rfl rfl ?_
                                                      refine r_aload_n O 1 dL_isSo_544 rfl rfl ?_
                                                      refine r_iconst (x := 2) O dL_isSo_545 rfl ?_
                                                      refine r_ialn (b := 0) (loc := 2) O R_124 (g_vin (by decide) (by decide)) rfl dL_isSo_546 ?_
                                                      refine r_iconst (x := 0) O dL_isSo_547 rfl ?_
                                                      refine r_cW O Y [.ref (g_ad X 122), .int (s (2)), .int 0] [] (rd_L_helperOf (g_xl X) hs m s lm pm (s (2)) ((0) : Int32) hI0) LW_171 rfl rfl rfl dL_isSo_548 rfl rfl ?_
                                                      refine r_ldc O dL_isSo_551 w_con_L_68 ?_
                                                      refine r_icmp_ne O 586 dL_isSo_553 (by decide) (fun c_553 => ?_) (fun c_553 => ?_)
                                                      · have e_553 : (g_wv (R_X7_helper m pm (s (2)) ((0) : Int32))).toInt = (-2000001 : Int) := j_eqR c_553 rfl
                                                        refine r_aload_n O 0 dL_isSo_556 rfl rfl ?_
                                                        refine r_aload_n O 1 dL_isSo_557 rfl rfl ?_
                                                        refine r_iconst (x := 1) O dL_isSo_558 rfl ?_
                                                        refine r_ialn (b := 0) (loc := 1) O R_124 (g_vin (by decide) (by decide)) rfl dL_isSo_559 ?_
                                                        refine r_iconst (x := 0) O dL_isSo_560 rfl ?_
                                                        refine r_cW O Y [.ref (g_ad X 122), .int (s (1)), .int 0] [] (rd_L_ropeOf (g_xl X) hs m s lm pm (s (1)) ((0) : Int32) hI0) LW_168 rfl rfl rfl dL_isSo_561 rfl rfl ?_
                                                        refine r_ldc O dL_isSo_564 w_con_L_68 ?_
                                                        refine r_icmp_ne O 586 dL_isSo_566 (by decide) (fun c_566 => ?_) (fun c_566 => ?_)
                                                        · have e_566 : (g_wv (R_X7_rope m pm (s (1)) ((0) : Int32))).toInt = (-2000001 : Int) := j_eqR c_566 rfl
                                                          refine r_aload_n O 0 dL_isSo_569 rfl rfl ?_
                                                          refine r_aload_n O 1 dL_isSo_570 rfl rfl ?_
                                                          refine r_iconst (x := 0) O dL_isSo_571 rfl ?_
                                                          refine r_ialn (b := 0) (loc := 0) O R_124 (g_vin (by decide) (by decide)) rfl dL_isSo_572 ?_
                                                          refine r_iconst (x := 0) O dL_isSo_573 rfl ?_
                                                          refine r_cW O Y [.ref (g_ad X 122), .int (s (0)), .int 0] [] (rd_L_passageOf (g_xl X) hs m s lm pm (s (0)) ((0) : Int32) hI0) LW_165 rfl rfl rfl dL_isSo_574 rfl rfl ?_
                                                          refine r_ldc O dL_isSo_577 w_con_L_68 ?_
                                                          refine r_icmp_ne O 586 dL_isSo_579 (by decide) (fun c_579 => ?_) (fun c_579 => ?_)
                                                          · have e_579 : (g_wv (R_X7_passage m pm (s (0)) ((0) : Int32))).toInt = (-2000001 : Int) := j_eqR c_579 rfl
                                                            refine r_iconst (x := 1) O dL_isSo_582 rfl ?_
                                                            refine r_goto O 587 dL_isSo_583 (by decide) ?_
                                                            exact r_iret O dL_isSo_587 rfl (Nat.le_of_ble_eq_true rfl) (Nat.le_of_ble_eq_true rfl) rfl
                                                          · have e_579 : (g_wv (R_X7_passage m pm (s (0)) ((0) : Int32))).toInt ≠ (-2000001 : Int) := j_neR c_579 rfl
                                                            refine r_iconst (x := 0) O dL_isSo_586 rfl ?_
                                                            exact r_iret O dL_isSo_587 rfl (Nat.le_of_ble_eq_true rfl) (Nat.le_of_ble_eq_true rfl) rfl
                                                        · have e_566 : (g_wv (R_X7_rope m pm (s (1)) ((0) : Int32))).toInt ≠ (-2000001 : Int) := j_neR c_566 rfl
                                                          refine r_iconst (x := 0) O dL_isSo_586 rfl ?_
                                                          exact r_iret O dL_isSo_587 rfl (Nat.le_of_ble_eq_true rfl) (Nat.le_of_ble_eq_true rfl) rfl
                                                      · have e_553 : (g_wv (R_X7_helper m pm (s (2)) ((0) : Int32))).toInt ≠ (-2000001 : Int) := j_neR c_553 rfl
                                                        refine r_iconst (x := 0) O dL_isSo_586 rfl ?_
                                                        exact r_iret O dL_isSo_587 rfl (Nat.le_of_ble_eq_true rfl) (Nat.le_of_ble_eq_true rfl) rfl
                                                    · have e_540 : (g_wv (R_X7_carried m pm (s (12)) ((0) : Int32))).toInt ≠ (-2000001 : Int) := j_neR c_540 rfl
                                                      refine r_iconst (x := 0) O dL_isSo_586 rfl ?_
                                                      exact r_iret O dL_isSo_587 rfl (Nat.le_of_ble_eq_true rfl) (Nat.le_of_ble_eq_true rfl) rfl
                                                  · have e_526 : (g_wv (R_X7_message m pm (s (6)) ((0) : Int32))).toInt ≠ (-2000001 : Int) := j_neR c_526 rfl
                                                    refine r_iconst (x := 0) O dL_isSo_586 rfl ?_
                                                    exact r_iret O dL_isSo_587 rfl (Nat.le_of_ble_eq_true rfl) (Nat.le_of_ble_eq_true rfl) rfl
                                                · have e_512 : (g_wv (R_X7_value m pm ((10) : Int32))).toInt ≠ (v10_95).toInt := j_ne c_512
                                                  refine r_iconst (x := 0) O dL_isSo_586 rfl ?_
                                                  exact r_iret O dL_isSo_587 rfl (Nat.le_of_ble_eq_true rfl) (Nat.le_of_ble_eq_true rfl) rfl
                                              · have e_501 : (g_wv (R_X7_value m pm ((6) : Int32))).toInt ≠ (v9_333).toInt := j_ne c_501
                                                refine r_iconst (x := 0) O dL_isSo_586 rfl ?_
                                                exact r_iret O dL_isSo_587 rfl (Nat.le_of_ble_eq_true rfl) (Nat.le_of_ble_eq_true rfl) rfl
                                          have ix_447r : (3 * (s (12))).toInt = ((3 : Int) * (s (12)).toInt) := (j_mulE rfl rfl (by with_reducible omega) (by with_reducible omega))
                                          refine r_icmp_ge O 488 dL_isSo_447 (by decide) (fun c_447 => ?_) (fun c_447 => ?_)
                                          · have e_447 : (3 * (s (12))).toInt ≤ (nI ke).toInt := j_le c_447
                                            refine r_widen (k' := 372) (n' := 2232) (by show (300 + 2 * ke) ≤ 372; omega) (by show (1800 + 12 * ke) ≤ 2232; omega) ?_
                                            refine r_sub [0, 1, 3, 4, 5] rfl ?_
                                            exact J_488
                                          · have e_447 : (nI ke).toInt < (3 * (s (12))).toInt := j_nle c_447
                                            refine r_iload O 5 dL_isSo_450 rfl ?_
                                            refine r_if_eq O 488 dL_isSo_452 (by decide) (fun c_452 => ?_) (fun c_452 => ?_)
                                            · have e_452 : (v11_439).toInt = (0 : Int) := j_eqR c_452 rfl
                                              refine r_widen (k' := 372) (n' := 2232) (by show (300 + 2 * ke) ≤ 372; omega) (by show (1800 + 12 * ke) ≤ 2232; omega) ?_
                                              refine r_sub [0, 1, 3, 4, 5] rfl ?_
                                              exact J_488
                                            · have e_452 : (v11_439).toInt ≠ (0 : Int) := j_neR c_452 rfl
                                              refine r_aload_n O 0 dL_isSo_455 rfl rfl ?_
                                              refine r_iload O 6 dL_isSo_456 rfl ?_
                                              refine r_iconst (x := 3) O dL_isSo_458 rfl ?_
                                              refine r_idiv O dL_isSo_459 (by decide) ?_
                                              refine r_iload O 6 dL_isSo_460 rfl ?_
                                              refine r_iconst (x := 3) O dL_isSo_462 rfl ?_
                                              refine r_irem O dL_isSo_463 (by decide) ?_
                                              refine r_cW O Y [.ref (g_ad X 122), .int ((nI ke) / 3), .int ((nI ke) - (nI ke) / 3 * 3)] [] (rd_L_carriedOf (g_xl X) hs m s lm pm ((nI ke) / 3) ((nI ke) - (nI ke) / 3 * 3) hI0) LW_177 rfl rfl rfl dL_isSo_464 (g_fit_n rfl (by show (300 + 2 * ke) + 2 ≤ 384; omega) (by show (1800 + 12 * ke) + 12 ≤ 2304; omega)) rfl ?_
                                              refine r_aload O 2 dL_isSo_467 rfl ?_
                                              refine r_iload O 6 dL_isSo_469 rfl ?_
                                              have iy_471 := nI_clamp (n := ke) (by with_reducible omega)
                                              refine r_ialn (b := 142) (loc := 142 + ke) O R_131 (show vp_in (nI ke) 36 from g_vin (by with_reducible omega) (by with_reducible omega)) (by with_reducible omega) dL_isSo_471 ?_
                                              have J_480 : ∀ (t0_480 : Int32), g_V X (fun r : Int32 => ((.inl (some (.int r)), (m, s, lm, pm)) : g_Res)) (R_L_isSo_480 ((R_L_isSo_439 m s pm v10_95 v9_333 f_439)) ke t0_480) (300 + 2 * ke + 2) (1800 + 12 * ke + 12) m (s, lm, pm) 480 [(0, .ref (g_ad X 122)), (1, .ref (g_ad X 124)), (8, .ref (g_ad X 131)), (9, .int v9_333), (10, .int v10_95), (12, .int (nI ke))] [.int t0_480] := by
                                                intro t0_480
                                                refine r_istore (lc' := [(11, .int t0_480), (0, .ref (g_ad X 122)), (1, .ref (g_ad X 124)), (8, .ref (g_ad X 131)), (9, .int v9_333), (10, .int v10_95), (12, .int (nI ke))]) O dL_isSo_480 (hN 11 rfl) rfl ?_
                                                refine r_iinc (lc' := [(12, .int (nI (ke + 1))), (11, .int t0_480), (0, .ref (g_ad X 122)), (1, .ref (g_ad X 124)), (8, .ref (g_ad X 131)), (9, .int v9_333), (10, .int v10_95)]) O 6 dL_isSo_482 rfl (nI_1 ke) (hN 12 rfl) rfl ?_
                                                refine r_goto O 439 dL_isSo_485 (by decide) ?_
                                                refine r_widen (k' := (300 + 2 * (ke + 1))) (n' := (1800 + 12 * (ke + 1))) (by show (300 + 2 * ke + 2) ≤ (300 + 2 * (ke + 1)); omega) (by show (1800 + 12 * ke + 12) ≤ (1800 + 12 * (ke + 1)); omega) ?_
                                                refine r_sub [2, 3, 4, 5, 6, 1, 0] rfl ?_
                                                exact ih_439 t0_480 (ke + 1) (by with_reducible omega)
                                              refine r_icmp_ne O 479 dL_isSo_472 (by decide) (fun c_472 => ?_) (fun c_472 => ?_)
                                              · have e_472 : (g_wv (R_X7_carried m pm ((nI ke) / 3) ((nI ke) - (nI ke) / 3 * 3))).toInt = (s (142 + ke)).toInt := j_eq c_472
                                                refine r_iconst (x := 1) O dL_isSo_475 rfl ?_
                                                refine r_goto O 480 dL_isSo_476 (by decide) ?_
                                                refine r_sub [0, 1, 2, 3, 4, 6] rfl ?_
                                                exact J_480 1
                                              · have e_472 : (g_wv (R_X7_carried m pm ((nI ke) / 3) ((nI ke) - (nI ke) / 3 * 3))).toInt ≠ (s (142 + ke)).toInt := j_ne c_472
                                                refine r_iconst (x := 0) O dL_isSo_479 rfl ?_
                                                refine r_sub [0, 1, 2, 3, 4, 6] rfl ?_
                                                exact J_480 0
                                      refine r_sub [1, 2, 3, 4, 5, 6, 0] rfl ?_
                                      exact L_439 37 v11_387 0 (by with_reducible omega)
                                    have ix_395r : (3 * (s (6))).toInt = ((3 : Int) * (s (6)).toInt) := (j_mulE rfl rfl (by with_reducible omega) (by with_reducible omega))
                                    refine r_icmp_ge O 436 dL_isSo_395 (by decide) (fun c_395 => ?_) (fun c_395 => ?_)
                                    · have e_395 : (3 * (s (6))).toInt ≤ (nI kd).toInt := j_le c_395
                                      refine r_widen (k' := 300) (n' := 1800) (by show (240 + 2 * kd) ≤ 300; omega) (by show (1440 + 12 * kd) ≤ 1800; omega) ?_
                                      refine r_sub [0, 1, 3, 4, 5, 6] rfl ?_
                                      exact J_436
                                    · have e_395 : (nI kd).toInt < (3 * (s (6))).toInt := j_nle c_395
                                      refine r_iload O 6 dL_isSo_398 rfl ?_
                                      refine r_if_eq O 436 dL_isSo_400 (by decide) (fun c_400 => ?_) (fun c_400 => ?_)
                                      · have e_400 : (v11_387).toInt = (0 : Int) := j_eqR c_400 rfl
                                        refine r_widen (k' := 300) (n' := 1800) (by show (240 + 2 * kd) ≤ 300; omega) (by show (1440 + 12 * kd) ≤ 1800; omega) ?_
                                        refine r_sub [0, 1, 3, 4, 5, 6] rfl ?_
                                        exact J_436
                                      · have e_400 : (v11_387).toInt ≠ (0 : Int) := j_neR c_400 rfl
                                        refine r_aload_n O 0 dL_isSo_403 rfl rfl ?_
                                        refine r_iload O 7 dL_isSo_404 rfl ?_
                                        refine r_iconst (x := 3) O dL_isSo_406 rfl ?_
                                        refine r_idiv O dL_isSo_407 (by decide) ?_
                                        refine r_iload O 7 dL_isSo_408 rfl ?_
                                        refine r_iconst (x := 3) O dL_isSo_410 rfl ?_
                                        refine r_irem O dL_isSo_411 (by decide) ?_
                                        refine r_cW O Y [.ref (g_ad X 122), .int ((nI kd) / 3), .int ((nI kd) - (nI kd) / 3 * 3)] [] (rd_L_messageOf (g_xl X) hs m s lm pm ((nI kd) / 3) ((nI kd) - (nI kd) / 3 * 3) hI0) LW_174 rfl rfl rfl dL_isSo_412 (g_fit_n rfl (by show (240 + 2 * kd) + 2 ≤ 384; omega) (by show (1440 + 12 * kd) + 12 ≤ 2304; omega)) rfl ?_
                                        refine r_aload O 2 dL_isSo_415 rfl ?_
                                        refine r_iload O 7 dL_isSo_417 rfl ?_
                                        have iy_419 := nI_clamp (n := kd) (by with_reducible omega)
                                        refine r_ialn (b := 112) (loc := 112 + kd) O R_130 (show vp_in (nI kd) 30 from g_vin (by with_reducible omega) (by with_reducible omega)) (by with_reducible omega) dL_isSo_419 ?_
                                        have J_428 : ∀ (t0_428 : Int32), g_V X (fun r : Int32 => ((.inl (some (.int r)), (m, s, lm, pm)) : g_Res)) (R_L_isSo_428 ((R_L_isSo_387 m s pm v10_95 v9_333 f_387)) kd t0_428) (240 + 2 * kd + 2) (1440 + 12 * kd + 12) m (s, lm, pm) 428 [(0, .ref (g_ad X 122)), (1, .ref (g_ad X 124)), (7, .ref (g_ad X 130)), (8, .ref (g_ad X 131)), (9, .int v9_333), (10, .int v10_95), (12, .int (nI kd))] [.int t0_428] := by
                                          intro t0_428
                                          refine r_istore (lc' := [(11, .int t0_428), (0, .ref (g_ad X 122)), (1, .ref (g_ad X 124)), (7, .ref (g_ad X 130)), (8, .ref (g_ad X 131)), (9, .int v9_333), (10, .int v10_95), (12, .int (nI kd))]) O dL_isSo_428 (hN 11 rfl) rfl ?_
                                          refine r_iinc (lc' := [(12, .int (nI (kd + 1))), (11, .int t0_428), (0, .ref (g_ad X 122)), (1, .ref (g_ad X 124)), (7, .ref (g_ad X 130)), (8, .ref (g_ad X 131)), (9, .int v9_333), (10, .int v10_95)]) O 7 dL_isSo_430 rfl (nI_1 kd) (hN 12 rfl) rfl ?_
                                          refine r_goto O 387 dL_isSo_433 (by decide) ?_
                                          refine r_widen (k' := (240 + 2 * (kd + 1))) (n' := (1440 + 12 * (kd + 1))) (by show (240 + 2 * kd + 2) ≤ (240 + 2 * (kd + 1)); omega) (by show (1440 + 12 * kd + 12) ≤ (1440 + 12 * (kd + 1)); omega) ?_
                                          refine r_sub [2, 3, 4, 5, 6, 7, 1, 0] rfl ?_
                                          exact ih_387 t0_428 (kd + 1) (by with_reducible omega)
                                        refine r_icmp_ne O 427 dL_isSo_420 (by decide) (fun c_420 => ?_) (fun c_420 => ?_)
                                        · have e_420 : (g_wv (R_X7_message m pm ((nI kd) / 3) ((nI kd) - (nI kd) / 3 * 3))).toInt = (s (112 + kd)).toInt := j_eq c_420
                                          refine r_iconst (x := 1) O dL_isSo_423 rfl ?_
                                          refine r_goto O 428 dL_isSo_424 (by decide) ?_
                                          refine r_sub [0, 1, 2, 3, 4, 5, 7] rfl ?_
                                          exact J_428 1
                                        · have e_420 : (g_wv (R_X7_message m pm ((nI kd) / 3) ((nI kd) - (nI kd) / 3 * 3))).toInt ≠ (s (112 + kd)).toInt := j_ne c_420
                                          refine r_iconst (x := 0) O dL_isSo_427 rfl ?_
                                          refine r_sub [0, 1, 2, 3, 4, 5, 7] rfl ?_
                                          exact J_428 0
                                refine r_sub [1, 2, 4, 5, 6, 7, 8, 0] rfl ?_
                                exact L_387 31 v11_279 0 (by with_reducible omega)
                              · have e_338 : (nI hh).toInt < (s (2)).toInt := j_nle c_338
                                refine r_iload O 5 dL_isSo_341 rfl ?_
                                refine r_aload O 2 dL_isSo_343 rfl ?_
                                refine r_bipush (x := 9) O dL_isSo_345 rfl ?_
                                refine r_iload O 8 dL_isSo_347 rfl ?_
                                refine r_imul O dL_isSo_349 ?_
                                refine r_iconst (x := 1) O dL_isSo_350 rfl ?_
                                refine r_iadd O dL_isSo_351 ?_
                                have ix_352 : ((9 * (nI hh)) + 1).toInt = (((9 : Int) * (nI hh).toInt) + (1 : Int)) := (j_addE (j_mulE rfl rfl (by with_reducible omega) (by with_reducible omega)) rfl (by with_reducible omega) (by with_reducible omega))
                                have iy_352 := j_nat (x := ((9 * (nI hh)) + 1)) (by with_reducible omega)
                                refine r_ialn (b := 58) (loc := 58 + 9 * hh + 1) O R_129 (show vp_in ((9 * (nI hh)) + 1) 54 from g_vin (by with_reducible omega) (by with_reducible omega)) (by with_reducible omega) dL_isSo_352 ?_
                                have J_375 : ∀ (t0_375 : Int32), g_V X (fun r : Int32 => ((.inl (some (.int r)), (m, s, lm, pm)) : g_Res)) (R_L_isSo_375 ((R_L_isSo_333 m s pm v10_95 v11_279 f_333)) v9_333 hh t0_375) 240 1440 m (s, lm, pm) 375 [(0, .ref (g_ad X 122)), (1, .ref (g_ad X 124)), (6, .ref (g_ad X 129)), (7, .ref (g_ad X 130)), (8, .ref (g_ad X 131)), (10, .int v10_95), (11, .int v11_279), (12, .int (nI hh))] [.int t0_375, .int v9_333] := by
                                  intro t0_375
                                  refine r_iadd O dL_isSo_375 ?_
                                  refine r_istore (lc' := [(9, .int (v9_333 + t0_375)), (0, .ref (g_ad X 122)), (1, .ref (g_ad X 124)), (6, .ref (g_ad X 129)), (7, .ref (g_ad X 130)), (8, .ref (g_ad X 131)), (10, .int v10_95), (11, .int v11_279), (12, .int (nI hh))]) O dL_isSo_376 (hN 9 rfl) rfl ?_
                                  refine r_iinc (lc' := [(12, .int (nI (hh + 1))), (9, .int (v9_333 + t0_375)), (0, .ref (g_ad X 122)), (1, .ref (g_ad X 124)), (6, .ref (g_ad X 129)), (7, .ref (g_ad X 130)), (8, .ref (g_ad X 131)), (10, .int v10_95), (11, .int v11_279)]) O 8 dL_isSo_378 rfl (nI_1 hh) (hN 12 rfl) rfl ?_
                                  refine r_goto O 333 dL_isSo_381 (by decide) ?_
                                  refine r_sub [2, 3, 4, 5, 6, 1, 7, 8, 0] rfl ?_
                                  exact ih_333 (v9_333 + t0_375) (hh + 1) (by with_reducible omega)
                                have J_370 : g_V X (fun r : Int32 => ((.inl (some (.int r)), (m, s, lm, pm)) : g_Res)) (R_L_isSo_370 ((R_L_isSo_333 m s pm v10_95 v11_279 f_333)) v9_333 hh ) 240 1440 m (s, lm, pm) 370 [(0, .ref (g_ad X 122)), (1, .ref (g_ad X 124)), (6, .ref (g_ad X 129)), (7, .ref (g_ad X 130)), (8, .ref (g_ad X 131)), (10, .int v10_95), (11, .int v11_279), (12, .int (nI hh))] [.int v9_333] := by
                                  refine r_iconst (x := 1) O dL_isSo_370 rfl ?_
                                  refine r_goto O 375 dL_isSo_371 (by decide) ?_
                                  exact J_375 1
                                refine r_if_gt O 370 dL_isSo_353 (by decide) (fun c_353 => ?_) (fun c_353 => ?_)
                                · have e_353 : (0 : Int) < (s (58 + 9 * hh + 1)).toInt := j_ltL c_353 rfl
                                  refine r_sub [0, 1, 2, 3, 4, 6, 7, 8] rfl ?_
                                  exact J_370
                                · have e_353 : (s (58 + 9 * hh + 1)).toInt ≤ (0 : Int) := j_nltL c_353 rfl
                                  refine r_aload O 2 dL_isSo_356 rfl ?_
                                  refine r_bipush (x := 9) O dL_isSo_358 rfl ?_
                                  refine r_iload O 8 dL_isSo_360 rfl ?_
                                  refine r_imul O dL_isSo_362 ?_
                                  refine r_iconst (x := 2) O dL_isSo_363 rfl ?_
                                  refine r_iadd O dL_isSo_364 ?_
                                  have ix_365 : ((9 * (nI hh)) + 2).toInt = (((9 : Int) * (nI hh).toInt) + (2 : Int)) := (j_addE (j_mulE rfl rfl (by with_reducible omega) (by with_reducible omega)) rfl (by with_reducible omega) (by with_reducible omega))
                                  have iy_365 := j_nat (x := ((9 * (nI hh)) + 2)) (by with_reducible omega)
                                  refine r_ialn (b := 58) (loc := 58 + 9 * hh + 2) O R_129 (show vp_in ((9 * (nI hh)) + 2) 54 from g_vin (by with_reducible omega) (by with_reducible omega)) (by with_reducible omega) dL_isSo_365 ?_
                                  refine r_iconst (x := 1) O dL_isSo_366 rfl ?_
                                  refine r_icmp_ne O 374 dL_isSo_367 (by decide) (fun c_367 => ?_) (fun c_367 => ?_)
                                  · have e_367 : (s (58 + 9 * hh + 2)).toInt = (1 : Int) := j_eqR c_367 rfl
                                    refine r_sub [0, 1, 2, 3, 4, 6, 7, 8] rfl ?_
                                    exact J_370
                                  · have e_367 : (s (58 + 9 * hh + 2)).toInt ≠ (1 : Int) := j_neR c_367 rfl
                                    refine r_iconst (x := 0) O dL_isSo_374 rfl ?_
                                    refine r_sub [0, 1, 2, 3, 4, 6, 7, 8] rfl ?_
                                    exact J_375 0
                          refine r_sub [1, 2, 3, 4, 5, 6, 7, 8, 0] rfl ?_
                          exact L_333 7 0 0 (by with_reducible omega)
                        have ix_287r : (9 * (s (2))).toInt = ((9 : Int) * (s (2)).toInt) := (j_mulE rfl rfl (by with_reducible omega) (by with_reducible omega))
                        refine r_icmp_ge O 330 dL_isSo_287 (by decide) (fun c_287 => ?_) (fun c_287 => ?_)
                        · have e_287 : (9 * (s (2))).toInt ≤ (nI kc).toInt := j_le c_287
                          refine r_widen (k' := 240) (n' := 1440) (by show (132 + 2 * kc) ≤ 240; omega) (by show (792 + 12 * kc) ≤ 1440; omega) ?_
                          refine r_sub [0, 1, 2, 3, 4, 5, 6, 7] rfl ?_
                          exact J_330
                        · have e_287 : (nI kc).toInt < (9 * (s (2))).toInt := j_nle c_287
                          refine r_iload O 7 dL_isSo_290 rfl ?_
                          refine r_if_eq O 330 dL_isSo_292 (by decide) (fun c_292 => ?_) (fun c_292 => ?_)
                          · have e_292 : (v11_279).toInt = (0 : Int) := j_eqR c_292 rfl
                            refine r_widen (k' := 240) (n' := 1440) (by show (132 + 2 * kc) ≤ 240; omega) (by show (792 + 12 * kc) ≤ 1440; omega) ?_
                            refine r_sub [0, 1, 2, 3, 4, 5, 6, 7] rfl ?_
                            exact J_330
                          · have e_292 : (v11_279).toInt ≠ (0 : Int) := j_neR c_292 rfl
                            refine r_aload_n O 0 dL_isSo_295 rfl rfl ?_
                            refine r_iload O 8 dL_isSo_296 rfl ?_
                            refine r_bipush (x := 9) O dL_isSo_298 rfl ?_
                            refine r_idiv O dL_isSo_300 (by decide) ?_
                            refine r_iload O 8 dL_isSo_301 rfl ?_
                            refine r_bipush (x := 9) O dL_isSo_303 rfl ?_
                            refine r_irem O dL_isSo_305 (by decide) ?_
                            refine r_cW O Y [.ref (g_ad X 122), .int ((nI kc) / 9), .int ((nI kc) - (nI kc) / 9 * 9)] [] (rd_L_helperOf (g_xl X) hs m s lm pm ((nI kc) / 9) ((nI kc) - (nI kc) / 9 * 9) hI0) LW_171 rfl rfl rfl dL_isSo_306 (g_fit_n rfl (by show (132 + 2 * kc) + 2 ≤ 384; omega) (by show (792 + 12 * kc) + 12 ≤ 2304; omega)) rfl ?_
                            refine r_aload O 2 dL_isSo_309 rfl ?_
                            refine r_iload O 8 dL_isSo_311 rfl ?_
                            have iy_313 := nI_clamp (n := kc) (by with_reducible omega)
                            refine r_ialn (b := 58) (loc := 58 + kc + 0) O R_129 (show vp_in (nI kc) 54 from g_vin (by with_reducible omega) (by with_reducible omega)) (by with_reducible omega) dL_isSo_313 ?_
                            have J_322 : ∀ (t0_322 : Int32), g_V X (fun r : Int32 => ((.inl (some (.int r)), (m, s, lm, pm)) : g_Res)) (R_L_isSo_322 ((R_L_isSo_279 m s pm v10_95 f_279)) kc t0_322) (132 + 2 * kc + 2) (792 + 12 * kc + 12) m (s, lm, pm) 322 [(0, .ref (g_ad X 122)), (1, .ref (g_ad X 124)), (6, .ref (g_ad X 129)), (7, .ref (g_ad X 130)), (8, .ref (g_ad X 131)), (9, .int 0), (10, .int v10_95), (12, .int (nI kc))] [.int t0_322] := by
                              intro t0_322
                              refine r_istore (lc' := [(11, .int t0_322), (0, .ref (g_ad X 122)), (1, .ref (g_ad X 124)), (6, .ref (g_ad X 129)), (7, .ref (g_ad X 130)), (8, .ref (g_ad X 131)), (9, .int 0), (10, .int v10_95), (12, .int (nI kc))]) O dL_isSo_322 (hN 11 rfl) rfl ?_
                              refine r_iinc (lc' := [(12, .int (nI (kc + 1))), (11, .int t0_322), (0, .ref (g_ad X 122)), (1, .ref (g_ad X 124)), (6, .ref (g_ad X 129)), (7, .ref (g_ad X 130)), (8, .ref (g_ad X 131)), (9, .int 0), (10, .int v10_95)]) O 8 dL_isSo_324 rfl (nI_1 kc) (hN 12 rfl) rfl ?_
                              refine r_goto O 279 dL_isSo_327 (by decide) ?_
                              refine r_widen (k' := (132 + 2 * (kc + 1))) (n' := (792 + 12 * (kc + 1))) (by show (132 + 2 * kc + 2) ≤ (132 + 2 * (kc + 1)); omega) (by show (792 + 12 * kc + 12) ≤ (792 + 12 * (kc + 1)); omega) ?_
                              refine r_sub [2, 3, 4, 5, 6, 7, 8, 1, 0] rfl ?_
                              exact ih_279 t0_322 (kc + 1) (by with_reducible omega)
                            refine r_icmp_ne O 321 dL_isSo_314 (by decide) (fun c_314 => ?_) (fun c_314 => ?_)
                            · have e_314 : (g_wv (R_X7_helper m pm ((nI kc) / 9) ((nI kc) - (nI kc) / 9 * 9))).toInt = (s (58 + kc + 0)).toInt := j_eq c_314
                              refine r_iconst (x := 1) O dL_isSo_317 rfl ?_
                              refine r_goto O 322 dL_isSo_318 (by decide) ?_
                              refine r_sub [0, 1, 2, 3, 4, 5, 6, 8] rfl ?_
                              exact J_322 1
                            · have e_314 : (g_wv (R_X7_helper m pm ((nI kc) / 9) ((nI kc) - (nI kc) / 9 * 9))).toInt ≠ (s (58 + kc + 0)).toInt := j_ne c_314
                              refine r_iconst (x := 0) O dL_isSo_321 rfl ?_
                              refine r_sub [0, 1, 2, 3, 4, 5, 6, 8] rfl ?_
                              exact J_322 0
                    refine r_sub [1, 2, 3, 4, 5, 6, 7, 8, 0] rfl ?_
                    exact L_279 55 v11_228 0 (by with_reducible omega)
                  have ix_235r : (3 * (s (1))).toInt = ((3 : Int) * (s (1)).toInt) := (j_mulE rfl rfl (by with_reducible omega) (by with_reducible omega))
                  refine r_icmp_ge O 276 dL_isSo_235 (by decide) (fun c_235 => ?_) (fun c_235 => ?_)
                  · have e_235 : (3 * (s (1))).toInt ≤ (nI kb).toInt := j_le c_235
                    refine r_widen (k' := 132) (n' := 792) (by show (84 + 2 * kb) ≤ 132; omega) (by show (504 + 12 * kb) ≤ 792; omega) ?_
                    refine r_sub [0, 1, 3, 4, 5, 6, 7, 8] rfl ?_
                    exact J_276
                  · have e_235 : (nI kb).toInt < (3 * (s (1))).toInt := j_nle c_235
                    refine r_iload O 8 dL_isSo_238 rfl ?_
                    refine r_if_eq O 276 dL_isSo_240 (by decide) (fun c_240 => ?_) (fun c_240 => ?_)
                    · have e_240 : (v11_228).toInt = (0 : Int) := j_eqR c_240 rfl
                      refine r_widen (k' := 132) (n' := 792) (by show (84 + 2 * kb) ≤ 132; omega) (by show (504 + 12 * kb) ≤ 792; omega) ?_
                      refine r_sub [0, 1, 3, 4, 5, 6, 7, 8] rfl ?_
                      exact J_276
                    · have e_240 : (v11_228).toInt ≠ (0 : Int) := j_neR c_240 rfl
                      refine r_aload_n O 0 dL_isSo_243 rfl rfl ?_
                      refine r_iload O 9 dL_isSo_244 rfl ?_
                      refine r_iconst (x := 3) O dL_isSo_246 rfl ?_
                      refine r_idiv O dL_isSo_247 (by decide) ?_
                      refine r_iload O 9 dL_isSo_248 rfl ?_
                      refine r_iconst (x := 3) O dL_isSo_250 rfl ?_
                      refine r_irem O dL_isSo_251 (by decide) ?_
                      refine r_cW O Y [.ref (g_ad X 122), .int ((nI kb) / 3), .int ((nI kb) - (nI kb) / 3 * 3)] [] (rd_L_ropeOf (g_xl X) hs m s lm pm ((nI kb) / 3) ((nI kb) - (nI kb) / 3 * 3) hI0) LW_168 rfl rfl rfl dL_isSo_252 (g_fit_n rfl (by show (84 + 2 * kb) + 2 ≤ 384; omega) (by show (504 + 12 * kb) + 12 ≤ 2304; omega)) rfl ?_
                      refine r_aload O 2 dL_isSo_255 rfl ?_
                      refine r_iload O 9 dL_isSo_257 rfl ?_
                      have iy_259 := nI_clamp (n := kb) (by with_reducible omega)
                      refine r_ialn (b := 34) (loc := 34 + kb) O R_128 (show vp_in (nI kb) 24 from g_vin (by with_reducible omega) (by with_reducible omega)) (by with_reducible omega) dL_isSo_259 ?_
                      have J_268 : ∀ (t0_268 : Int32), g_V X (fun r : Int32 => ((.inl (some (.int r)), (m, s, lm, pm)) : g_Res)) (R_L_isSo_268 ((R_L_isSo_228 m s pm v10_95 f_228)) kb t0_268) (84 + 2 * kb + 2) (504 + 12 * kb + 12) m (s, lm, pm) 268 [(0, .ref (g_ad X 122)), (1, .ref (g_ad X 124)), (5, .ref (g_ad X 128)), (6, .ref (g_ad X 129)), (7, .ref (g_ad X 130)), (8, .ref (g_ad X 131)), (9, .int 0), (10, .int v10_95), (12, .int (nI kb))] [.int t0_268] := by
                        intro t0_268
                        refine r_istore (lc' := [(11, .int t0_268), (0, .ref (g_ad X 122)), (1, .ref (g_ad X 124)), (5, .ref (g_ad X 128)), (6, .ref (g_ad X 129)), (7, .ref (g_ad X 130)), (8, .ref (g_ad X 131)), (9, .int 0), (10, .int v10_95), (12, .int (nI kb))]) O dL_isSo_268 (hN 11 rfl) rfl ?_
                        refine r_iinc (lc' := [(12, .int (nI (kb + 1))), (11, .int t0_268), (0, .ref (g_ad X 122)), (1, .ref (g_ad X 124)), (5, .ref (g_ad X 128)), (6, .ref (g_ad X 129)), (7, .ref (g_ad X 130)), (8, .ref (g_ad X 131)), (9, .int 0), (10, .int v10_95)]) O 9 dL_isSo_270 rfl (nI_1 kb) (hN 12 rfl) rfl ?_
                        refine r_goto O 228 dL_isSo_273 (by decide) ?_
                        refine r_widen (k' := (84 + 2 * (kb + 1))) (n' := (504 + 12 * (kb + 1))) (by show (84 + 2 * kb + 2) ≤ (84 + 2 * (kb + 1)); omega) (by show (504 + 12 * kb + 12) ≤ (504 + 12 * (kb + 1)); omega) ?_
                        refine r_sub [2, 3, 4, 5, 6, 7, 8, 9, 1, 0] rfl ?_
                        exact ih_228 t0_268 (kb + 1) (by with_reducible omega)
                      refine r_icmp_ne O 267 dL_isSo_260 (by decide) (fun c_260 => ?_) (fun c_260 => ?_)
                      · have e_260 : (g_wv (R_X7_rope m pm ((nI kb) / 3) ((nI kb) - (nI kb) / 3 * 3))).toInt = (s (34 + kb)).toInt := j_eq c_260
                        refine r_iconst (x := 1) O dL_isSo_263 rfl ?_
                        refine r_goto O 268 dL_isSo_264 (by decide) ?_
                        refine r_sub [0, 1, 2, 3, 4, 5, 6, 7, 9] rfl ?_
                        exact J_268 1
                      · have e_260 : (g_wv (R_X7_rope m pm ((nI kb) / 3) ((nI kb) - (nI kb) / 3 * 3))).toInt ≠ (s (34 + kb)).toInt := j_ne c_260
                        refine r_iconst (x := 0) O dL_isSo_267 rfl ?_
                        refine r_sub [0, 1, 2, 3, 4, 5, 6, 7, 9] rfl ?_
                        exact J_268 0
              refine r_sub [1, 2, 3, 4, 5, 6, 7, 8, 9, 0] rfl ?_
              exact L_228 25 v11_95 0 (by with_reducible omega)
            refine r_icmp_ge O 225 dL_isSo_100 (by decide) (fun c_100 => ?_) (fun c_100 => ?_)
            · have e_100 : (s (0)).toInt ≤ (nI p).toInt := j_le c_100
              refine r_widen (k' := 84) (n' := 504) (by show (14 + 10 * p) ≤ 84; omega) (by show (84 + 60 * p) ≤ 504; omega) ?_
              refine r_sub [0, 1, 5, 6, 7, 8, 9, 10, 11] rfl ?_
              exact J_225
            · have e_100 : (nI p).toInt < (s (0)).toInt := j_nle c_100
              refine r_iload O 11 dL_isSo_103 rfl ?_
              refine r_if_eq O 225 dL_isSo_105 (by decide) (fun c_105 => ?_) (fun c_105 => ?_)
              · have e_105 : (v11_95).toInt = (0 : Int) := j_eqR c_105 rfl
                refine r_widen (k' := 84) (n' := 504) (by show (14 + 10 * p) ≤ 84; omega) (by show (84 + 60 * p) ≤ 504; omega) ?_
                refine r_sub [0, 1, 5, 6, 7, 8, 9, 10, 11] rfl ?_
                exact J_225
              · have e_105 : (v11_95).toInt ≠ (0 : Int) := j_neR c_105 rfl
                refine r_iload O 10 dL_isSo_108 rfl ?_
                refine r_aload_n O 2 dL_isSo_110 rfl rfl ?_
                refine r_iload O 12 dL_isSo_111 rfl ?_
                have iy_113 := nI_clamp (n := p) (by with_reducible omega)
                refine r_ialn (b := 13) (loc := 13 + p) O R_125 (show vp_in (nI p) 7 from g_vin (by with_reducible omega) (by with_reducible omega)) (by with_reducible omega) dL_isSo_113 ?_
                have J_130 : ∀ (t0_130 : Int32), g_V X (fun r : Int32 => ((.inl (some (.int r)), (m, s, lm, pm)) : g_Res)) (R_L_isSo_130 m s pm ((R_L_isSo_95 m s pm f_95)) v10_95 p t0_130) (14 + 10 * p) (84 + 60 * p) m (s, lm, pm) 130 [(0, .ref (g_ad X 122)), (1, .ref (g_ad X 124)), (2, .ref (g_ad X 125)), (3, .ref (g_ad X 126)), (4, .ref (g_ad X 127)), (5, .ref (g_ad X 128)), (6, .ref (g_ad X 129)), (7, .ref (g_ad X 130)), (8, .ref (g_ad X 131)), (9, .int 0), (12, .int (nI p))] [.int t0_130, .int v10_95] := by
                  intro t0_130
                  refine r_iadd O dL_isSo_130 ?_
                  refine r_istore (lc' := [(10, .int (v10_95 + t0_130)), (0, .ref (g_ad X 122)), (1, .ref (g_ad X 124)), (2, .ref (g_ad X 125)), (3, .ref (g_ad X 126)), (4, .ref (g_ad X 127)), (5, .ref (g_ad X 128)), (6, .ref (g_ad X 129)), (7, .ref (g_ad X 130)), (8, .ref (g_ad X 131)), (9, .int 0), (12, .int (nI p))]) O dL_isSo_131 (hN 10 rfl) rfl ?_
                  refine r_aload_n O 1 dL_isSo_133 rfl rfl ?_
                  refine r_iload O 11 dL_isSo_134 rfl ?_
                  refine r_iconst (x := 0) O dL_isSo_136 rfl ?_
                  refine r_cW O Y [.ref (g_ad X 122), .int (nI p), .int 0] [] (rd_L_passageOf (g_xl X) hs m s lm pm (nI p) ((0) : Int32) hI0) LW_165 rfl rfl rfl dL_isSo_137 (g_fit_n rfl (by show (14 + 10 * p) + 2 ≤ 384; omega) (by show (84 + 60 * p) + 12 ≤ 2304; omega)) rfl ?_
                  refine r_aload_n O 3 dL_isSo_140 rfl rfl ?_
                  refine r_iload O 11 dL_isSo_141 rfl ?_
                  have iy_143 := nI_clamp (n := p) (by with_reducible omega)
                  refine r_ialn (b := 13) (loc := 13 + p) O R_125 (show vp_in (nI p) 7 from g_vin (by with_reducible omega) (by with_reducible omega)) (by with_reducible omega) dL_isSo_143 ?_
                  have J_217 : ∀ (t0_217 : Int32), g_V X (fun r : Int32 => ((.inl (some (.int r)), (m, s, lm, pm)) : g_Res)) (R_L_isSo_217 ((R_L_isSo_95 m s pm f_95)) v10_95 p t0_130 t0_217) (14 + 10 * p + 10) (84 + 60 * p + 60) m (s, lm, pm) 217 [(0, .ref (g_ad X 122)), (1, .ref (g_ad X 124)), (2, .ref (g_ad X 125)), (3, .ref (g_ad X 126)), (4, .ref (g_ad X 127)), (5, .ref (g_ad X 128)), (6, .ref (g_ad X 129)), (7, .ref (g_ad X 130)), (8, .ref (g_ad X 131)), (9, .int 0), (10, .int (v10_95 + t0_130)), (12, .int (nI p))] [.int t0_217] := by
                    intro t0_217
                    refine r_istore (lc' := [(11, .int t0_217), (0, .ref (g_ad X 122)), (1, .ref (g_ad X 124)), (2, .ref (g_ad X 125)), (3, .ref (g_ad X 126)), (4, .ref (g_ad X 127)), (5, .ref (g_ad X 128)), (6, .ref (g_ad X 129)), (7, .ref (g_ad X 130)), (8, .ref (g_ad X 131)), (9, .int 0), (10, .int (v10_95 + t0_130)), (12, .int (nI p))]) O dL_isSo_217 (hN 11 rfl) rfl ?_
                    refine r_iinc (lc' := [(12, .int (nI (p + 1))), (11, .int t0_217), (0, .ref (g_ad X 122)), (1, .ref (g_ad X 124)), (2, .ref (g_ad X 125)), (3, .ref (g_ad X 126)), (4, .ref (g_ad X 127)), (5, .ref (g_ad X 128)), (6, .ref (g_ad X 129)), (7, .ref (g_ad X 130)), (8, .ref (g_ad X 131)), (9, .int 0), (10, .int (v10_95 + t0_130))]) O 12 dL_isSo_219 rfl (nI_1 p) (hN 12 rfl) rfl ?_
                    refine r_goto O 95 dL_isSo_222 (by decide) ?_
                    refine r_widen (k' := (14 + 10 * (p + 1))) (n' := (84 + 60 * (p + 1))) (by show (14 + 10 * p + 10) ≤ (14 + 10 * (p + 1)); omega) (by show (84 + 60 * p + 60) ≤ (84 + 60 * (p + 1)); omega) ?_
                    refine r_sub [2, 3, 4, 5, 6, 7, 8, 9, 10, 11, 12, 1, 0] rfl ?_
                    exact ih_95 (v10_95 + t0_130) t0_217 (p + 1) (by with_reducible omega)
                  have J_216 : g_V X (fun r : Int32 => ((.inl (some (.int r)), (m, s, lm, pm)) : g_Res)) (R_L_isSo_216 ((R_L_isSo_95 m s pm f_95)) v10_95 p t0_130 ) (14 + 10 * p + 10) (84 + 60 * p + 60) m (s, lm, pm) 216 [(0, .ref (g_ad X 122)), (1, .ref (g_ad X 124)), (2, .ref (g_ad X 125)), (3, .ref (g_ad X 126)), (4, .ref (g_ad X 127)), (5, .ref (g_ad X 128)), (6, .ref (g_ad X 129)), (7, .ref (g_ad X 130)), (8, .ref (g_ad X 131)), (9, .int 0), (10, .int (v10_95 + t0_130)), (12, .int (nI p))] [] := by
                    refine r_iconst (x := 0) O dL_isSo_216 rfl ?_
                    exact J_217 0
                  refine r_icmp_ne O 216 dL_isSo_144 (by decide) (fun c_144 => ?_) (fun c_144 => ?_)
                  · have e_144 : (g_wv (R_X7_passage m pm (nI p) ((0) : Int32))).toInt = (s (13 + p)).toInt := j_eq c_144
                    refine r_aload_n O 1 dL_isSo_147 rfl rfl ?_
                    refine r_iload O 11 dL_isSo_148 rfl ?_
                    refine r_iconst (x := 1) O dL_isSo_150 rfl ?_
                    refine r_cW O Y [.ref (g_ad X 122), .int (nI p), .int 1] [] (rd_L_passageOf (g_xl X) hs m s lm pm (nI p) ((1) : Int32) hI0) LW_165 rfl rfl rfl dL_isSo_151 (g_fit_n rfl (by show (14 + 10 * p + 2) + 2 ≤ 384; omega) (by show (84 + 60 * p + 12) + 12 ≤ 2304; omega)) rfl ?_
                    refine r_aload_n O 4 dL_isSo_154 rfl rfl ?_
                    refine r_iload O 11 dL_isSo_155 rfl ?_
                    have iy_157 := nI_clamp (n := p) (by with_reducible omega)
                    refine r_ialn (b := 20) (loc := 20 + p) O R_126 (show vp_in (nI p) 7 from g_vin (by with_reducible omega) (by with_reducible omega)) (by with_reducible omega) dL_isSo_157 ?_
                    refine r_icmp_ne O 216 dL_isSo_158 (by decide) (fun c_158 => ?_) (fun c_158 => ?_)
                    · have e_158 : (g_wv (R_X7_passage m pm (nI p) ((1) : Int32))).toInt = (s (20 + p)).toInt := j_eq c_158
                      refine r_aload_n O 1 dL_isSo_161 rfl rfl ?_
                      refine r_iload O 11 dL_isSo_162 rfl ?_
                      refine r_iconst (x := 2) O dL_isSo_164 rfl ?_
                      refine r_cW O Y [.ref (g_ad X 122), .int (nI p), .int 2] [] (rd_L_passageOf (g_xl X) hs m s lm pm (nI p) ((2) : Int32) hI0) LW_165 rfl rfl rfl dL_isSo_165 (g_fit_n rfl (by show (14 + 10 * p + 4) + 2 ≤ 384; omega) (by show (84 + 60 * p + 24) + 12 ≤ 2304; omega)) rfl ?_
                      refine r_aload O 5 dL_isSo_168 rfl ?_
                      refine r_iload O 11 dL_isSo_170 rfl ?_
                      have iy_172 := nI_clamp (n := p) (by with_reducible omega)
                      refine r_ialn (b := 27) (loc := 27 + p) O R_127 (show vp_in (nI p) 7 from g_vin (by with_reducible omega) (by with_reducible omega)) (by with_reducible omega) dL_isSo_172 ?_
                      refine r_icmp_ne O 216 dL_isSo_173 (by decide) (fun c_173 => ?_) (fun c_173 => ?_)
                      · have e_173 : (g_wv (R_X7_passage m pm (nI p) ((2) : Int32))).toInt = (s (27 + p)).toInt := j_eq c_173
                        refine r_aload_n O 1 dL_isSo_176 rfl rfl ?_
                        refine r_iload O 11 dL_isSo_177 rfl ?_
                        refine r_iconst (x := 3) O dL_isSo_179 rfl ?_
                        refine r_cW O Y [.ref (g_ad X 122), .int (nI p), .int 3] [] (rd_L_passageOf (g_xl X) hs m s lm pm (nI p) ((3) : Int32) hI0) LW_165 rfl rfl rfl dL_isSo_180 (g_fit_n rfl (by show (14 + 10 * p + 6) + 2 ≤ 384; omega) (by show (84 + 60 * p + 36) + 12 ≤ 2304; omega)) rfl ?_
                        refine r_aload_n O 2 dL_isSo_183 rfl rfl ?_
                        refine r_aload O 7 dL_isSo_184 rfl ?_
                        refine r_iload O 11 dL_isSo_186 rfl ?_
                        refine r_callSi O [.ref (g_ad X 124), .ref (g_ad X 129), .int (nI p)] [.int (g_wv (R_X7_passage m pm (nI p) ((3) : Int32)))] (met_L_many (g_xl X) hs lm pm m s (nI p) (by first | decide | with_reducible assumption | with_reducible omega | (simp (disch := omega) only [g_upd_ne, g_upd_eq]; first | with_reducible assumption | with_reducible omega | decide) | exact Or.inl rfl | exact Or.inr rfl)) LL_43 rfl rfl rfl dL_isSo_188 (g_fit_n rfl (by show (14 + 10 * p + 8) + 0 ≤ 384; omega) (by show (84 + 60 * p + 48) + 0 ≤ 2304; omega)) rfl ?_
                        refine r_icmp_ne O 216 dL_isSo_191 (by decide) (fun c_191 => ?_) (fun c_191 => ?_)
                        · have e_191 : (g_wv (R_X7_passage m pm (nI p) ((3) : Int32))).toInt = (R_L_many s (nI p)).toInt := j_eq c_191
                          refine r_aload_n O 1 dL_isSo_194 rfl rfl ?_
                          refine r_iload O 11 dL_isSo_195 rfl ?_
                          refine r_iconst (x := 4) O dL_isSo_197 rfl ?_
                          refine r_cW O Y [.ref (g_ad X 122), .int (nI p), .int 4] [] (rd_L_passageOf (g_xl X) hs m s lm pm (nI p) ((4) : Int32) hI0) LW_165 rfl rfl rfl dL_isSo_198 (g_fit_n rfl (by show (14 + 10 * p + 8) + 2 ≤ 384; omega) (by show (84 + 60 * p + 48) + 12 ≤ 2304; omega)) rfl ?_
                          refine r_aload_n O 2 dL_isSo_201 rfl rfl ?_
                          refine r_aload O 7 dL_isSo_202 rfl ?_
                          refine r_iload O 11 dL_isSo_204 rfl ?_
                          refine r_callSi O [.ref (g_ad X 124), .ref (g_ad X 129), .int (nI p)] [.int (g_wv (R_X7_passage m pm (nI p) ((4) : Int32)))] (met_L_rigger (g_xl X) hs lm pm m s (nI p) (by first | decide | with_reducible assumption | with_reducible omega | (simp (disch := omega) only [g_upd_ne, g_upd_eq]; first | with_reducible assumption | with_reducible omega | decide) | exact Or.inl rfl | exact Or.inr rfl)) LL_39 rfl rfl rfl dL_isSo_206 (g_fit_n rfl (by show (14 + 10 * p + 10) + 0 ≤ 384; omega) (by show (84 + 60 * p + 60) + 0 ≤ 2304; omega)) rfl ?_
                          refine r_icmp_ne O 216 dL_isSo_209 (by decide) (fun c_209 => ?_) (fun c_209 => ?_)
                          · have e_209 : (g_wv (R_X7_passage m pm (nI p) ((4) : Int32))).toInt = (R_L_rigger s (nI p)).toInt := j_eq c_209
                            refine r_iconst (x := 1) O dL_isSo_212 rfl ?_
                            refine r_goto O 217 dL_isSo_213 (by decide) ?_
                            refine r_sub [1, 2, 3, 4, 5, 6, 7, 8, 9, 10, 0, 11] rfl ?_
                            exact J_217 1
                          · have e_209 : (g_wv (R_X7_passage m pm (nI p) ((4) : Int32))).toInt ≠ (R_L_rigger s (nI p)).toInt := j_ne c_209
                            refine r_sub [1, 2, 3, 4, 5, 6, 7, 8, 9, 10, 0, 11] rfl ?_
                            exact J_216
                        · have e_191 : (g_wv (R_X7_passage m pm (nI p) ((3) : Int32))).toInt ≠ (R_L_many s (nI p)).toInt := j_ne c_191
                          refine r_sub [1, 2, 3, 4, 5, 6, 7, 8, 9, 10, 0, 11] rfl ?_
                          refine r_widen (k' := (14 + 10 * p + 10)) (n' := (84 + 60 * p + 60)) (by show (14 + 10 * p + 8) ≤ (14 + 10 * p + 10); omega) (by show (84 + 60 * p + 48) ≤ (84 + 60 * p + 60); omega) ?_
                          exact J_216
                      · have e_173 : (g_wv (R_X7_passage m pm (nI p) ((2) : Int32))).toInt ≠ (s (27 + p)).toInt := j_ne c_173
                        refine r_sub [1, 2, 3, 4, 5, 6, 7, 8, 9, 10, 0, 11] rfl ?_
                        refine r_widen (k' := (14 + 10 * p + 10)) (n' := (84 + 60 * p + 60)) (by show (14 + 10 * p + 6) ≤ (14 + 10 * p + 10); omega) (by show (84 + 60 * p + 36) ≤ (84 + 60 * p + 60); omega) ?_
                        exact J_216
                    · have e_158 : (g_wv (R_X7_passage m pm (nI p) ((1) : Int32))).toInt ≠ (s (20 + p)).toInt := j_ne c_158
                      refine r_sub [1, 2, 3, 4, 5, 6, 7, 8, 9, 10, 0, 11] rfl ?_
                      refine r_widen (k' := (14 + 10 * p + 10)) (n' := (84 + 60 * p + 60)) (by show (14 + 10 * p + 4) ≤ (14 + 10 * p + 10); omega) (by show (84 + 60 * p + 24) ≤ (84 + 60 * p + 60); omega) ?_
                      exact J_216
                  · have e_144 : (g_wv (R_X7_passage m pm (nI p) ((0) : Int32))).toInt ≠ (s (13 + p)).toInt := j_ne c_144
                    refine r_sub [1, 2, 3, 4, 5, 6, 7, 8, 9, 10, 0, 11] rfl ?_
                    refine r_widen (k' := (14 + 10 * p + 10)) (n' := (84 + 60 * p + 60)) (by show (14 + 10 * p + 2) ≤ (14 + 10 * p + 10); omega) (by show (84 + 60 * p + 12) ≤ (84 + 60 * p + 60); omega) ?_
                    exact J_216
                have J_129 : g_V X (fun r : Int32 => ((.inl (some (.int r)), (m, s, lm, pm)) : g_Res)) (R_L_isSo_129 m s pm ((R_L_isSo_95 m s pm f_95)) v10_95 p ) (14 + 10 * p) (84 + 60 * p) m (s, lm, pm) 129 [(0, .ref (g_ad X 122)), (1, .ref (g_ad X 124)), (2, .ref (g_ad X 125)), (3, .ref (g_ad X 126)), (4, .ref (g_ad X 127)), (5, .ref (g_ad X 128)), (6, .ref (g_ad X 129)), (7, .ref (g_ad X 130)), (8, .ref (g_ad X 131)), (9, .int 0), (12, .int (nI p))] [.int v10_95] := by
                  refine r_iconst (x := 0) O dL_isSo_129 rfl ?_
                  exact J_130 0
                refine r_if_le O 129 dL_isSo_114 (by decide) (fun c_114 => ?_) (fun c_114 => ?_)
                · have e_114 : (s (13 + p)).toInt ≤ (0 : Int) := j_leR c_114 rfl
                  refine r_sub [0, 1, 2, 3, 4, 5, 6, 7, 8, 9, 12] rfl ?_
                  exact J_129
                · have e_114 : (0 : Int) < (s (13 + p)).toInt := j_nleR c_114 rfl
                  refine r_aload O 4 dL_isSo_117 rfl ?_
                  refine r_iload O 12 dL_isSo_119 rfl ?_
                  have iy_121 := nI_clamp (n := p) (by with_reducible omega)
                  refine r_ialn (b := 27) (loc := 27 + p) O R_127 (show vp_in (nI p) 7 from g_vin (by with_reducible omega) (by with_reducible omega)) (by with_reducible omega) dL_isSo_121 ?_
                  refine r_if_ge O 129 dL_isSo_122 (by decide) (fun c_122 => ?_) (fun c_122 => ?_)
                  · have e_122 : (0 : Int) ≤ (s (27 + p)).toInt := j_leL c_122 rfl
                    refine r_sub [0, 1, 2, 3, 4, 5, 6, 7, 8, 9, 12] rfl ?_
                    exact J_129
                  · have e_122 : (s (27 + p)).toInt < (0 : Int) := j_nleL c_122 rfl
                    refine r_iconst (x := 1) O dL_isSo_125 rfl ?_
                    refine r_goto O 130 dL_isSo_126 (by decide) ?_
                    refine r_sub [0, 1, 2, 3, 4, 5, 6, 7, 8, 9, 12] rfl ?_
                    exact J_130 1
        refine r_sub [1, 2, 3, 4, 5, 6, 7, 8, 9, 10, 11, 12, 0] rfl ?_
        exact L_95 8 0 v11_12 0 (by with_reducible omega)
      · have e_16 : (nI ka).toInt < (14 : Int) := j_nleL c_16 rfl
        refine r_iload O 11 dL_isSo_19 rfl ?_
        have J_84 : ∀ (t0_84 : Int32), g_V X (fun r : Int32 => ((.inl (some (.int r)), (m, s, lm, pm)) : g_Res)) (R_L_isSo_84 ((R_L_isSo_12 m s pm f_12)) ka t0_84) (0 + 1 * ka + 1) (0 + 6 * ka + 6) m (s, lm, pm) 84 [(0, .ref (g_ad X 122)), (1, .ref (g_ad X 124)), (2, .ref (g_ad X 125)), (3, .ref (g_ad X 126)), (4, .ref (g_ad X 127)), (5, .ref (g_ad X 128)), (6, .ref (g_ad X 129)), (7, .ref (g_ad X 130)), (8, .ref (g_ad X 131)), (9, .int 0), (10, .int 0), (12, .int (nI ka))] [.int t0_84] := by
          intro t0_84
          refine r_istore (lc' := [(11, .int t0_84), (0, .ref (g_ad X 122)), (1, .ref (g_ad X 124)), (2, .ref (g_ad X 125)), (3, .ref (g_ad X 126)), (4, .ref (g_ad X 127)), (5, .ref (g_ad X 128)), (6, .ref (g_ad X 129)), (7, .ref (g_ad X 130)), (8, .ref (g_ad X 131)), (9, .int 0), (10, .int 0), (12, .int (nI ka))]) O dL_isSo_84 (hN 11 rfl) rfl ?_
          refine r_iinc (lc' := [(12, .int (nI (ka + 1))), (11, .int t0_84), (0, .ref (g_ad X 122)), (1, .ref (g_ad X 124)), (2, .ref (g_ad X 125)), (3, .ref (g_ad X 126)), (4, .ref (g_ad X 127)), (5, .ref (g_ad X 128)), (6, .ref (g_ad X 129)), (7, .ref (g_ad X 130)), (8, .ref (g_ad X 131)), (9, .int 0), (10, .int 0)]) O 12 dL_isSo_86 rfl (nI_1 ka) (hN 12 rfl) rfl ?_
          refine r_goto O 12 dL_isSo_89 (by decide) ?_
          refine r_widen (k' := (0 + 1 * (ka + 1))) (n' := (0 + 6 * (ka + 1))) (by show (0 + 1 * ka + 1) ≤ (0 + 1 * (ka + 1)); omega) (by show (0 + 6 * ka + 6) ≤ (0 + 6 * (ka + 1)); omega) ?_
          refine r_sub [2, 3, 4, 5, 6, 7, 8, 9, 10, 11, 12, 1, 0] rfl ?_
          exact ih_12 t0_84 (ka + 1) (by with_reducible omega)
        have J_83 : g_V X (fun r : Int32 => ((.inl (some (.int r)), (m, s, lm, pm)) : g_Res)) (R_L_isSo_83 ((R_L_isSo_12 m s pm f_12)) ka ) (0 + 1 * ka + 1) (0 + 6 * ka + 6) m (s, lm, pm) 83 [(0, .ref (g_ad X 122)), (1, .ref (g_ad X 124)), (2, .ref (g_ad X 125)), (3, .ref (g_ad X 126)), (4, .ref (g_ad X 127)), (5, .ref (g_ad X 128)), (6, .ref (g_ad X 129)), (7, .ref (g_ad X 130)), (8, .ref (g_ad X 131)), (9, .int 0), (10, .int 0), (12, .int (nI ka))] [] := by
          refine r_iconst (x := 0) O dL_isSo_83 rfl ?_
          exact J_84 0
        refine r_if_eq O 83 dL_isSo_21 (by decide) (fun c_21 => ?_) (fun c_21 => ?_)
        · have e_21 : (v11_12).toInt = (0 : Int) := j_eqR c_21 rfl
          refine r_sub [0, 1, 2, 3, 4, 5, 6, 7, 8, 9, 10, 12] rfl ?_
          refine r_widen (k' := (0 + 1 * ka + 1)) (n' := (0 + 6 * ka + 6)) (by show (0 + 1 * ka) ≤ (0 + 1 * ka + 1); omega) (by show (0 + 6 * ka) ≤ (0 + 6 * ka + 6); omega) ?_
          exact J_83
        · have e_21 : (v11_12).toInt ≠ (0 : Int) := j_neR c_21 rfl
          refine r_iload O 12 dL_isSo_24 rfl ?_
          refine r_bipush (x := 6) O dL_isSo_26 rfl ?_
          have J_79 : g_V X (fun r : Int32 => ((.inl (some (.int r)), (m, s, lm, pm)) : g_Res)) (R_L_isSo_79 ((R_L_isSo_12 m s pm f_12)) ka ) (0 + 1 * ka + 1) (0 + 6 * ka + 6) m (s, lm, pm) 79 [(0, .ref (g_ad X 122)), (1, .ref (g_ad X 124)), (2, .ref (g_ad X 125)), (3, .ref (g_ad X 126)), (4, .ref (g_ad X 127)), (5, .ref (g_ad X 128)), (6, .ref (g_ad X 129)), (7, .ref (g_ad X 130)), (8, .ref (g_ad X 131)), (9, .int 0), (10, .int 0), (12, .int (nI ka))] [] := by
            refine r_iconst (x := 1) O dL_isSo_79 rfl ?_
            refine r_goto O 84 dL_isSo_80 (by decide) ?_
            exact J_84 1
          refine r_icmp_eq O 79 dL_isSo_28 (by decide) (fun c_28 => ?_) (fun c_28 => ?_)
          · have e_28 : (nI ka).toInt = (6 : Int) := j_eqR c_28 rfl
            refine r_sub [0, 1, 2, 3, 4, 5, 6, 7, 8, 9, 10, 12] rfl ?_
            refine r_widen (k' := (0 + 1 * ka + 1)) (n' := (0 + 6 * ka + 6)) (by show (0 + 1 * ka) ≤ (0 + 1 * ka + 1); omega) (by show (0 + 6 * ka) ≤ (0 + 6 * ka + 6); omega) ?_
            exact J_79
          · have e_28 : (nI ka).toInt ≠ (6 : Int) := j_neR c_28 rfl
            refine r_iload O 12 dL_isSo_31 rfl ?_
            refine r_bipush (x := 10) O dL_isSo_33 rfl ?_
            refine r_icmp_eq O 79 dL_isSo_35 (by decide) (fun c_35 => ?_) (fun c_35 => ?_)
            · have e_35 : (nI ka).toInt = (10 : Int) := j_eqR c_35 rfl
              refine r_sub [0, 1, 2, 3, 4, 5, 6, 7, 8, 9, 10, 12] rfl ?_
              refine r_widen (k' := (0 + 1 * ka + 1)) (n' := (0 + 6 * ka + 6)) (by show (0 + 1 * ka) ≤ (0 + 1 * ka + 1); omega) (by show (0 + 6 * ka) ≤ (0 + 6 * ka + 6); omega) ?_
              exact J_79
            · have e_35 : (nI ka).toInt ≠ (10 : Int) := j_neR c_35 rfl
              refine r_aload_n O 0 dL_isSo_38 rfl rfl ?_
              refine r_iload O 12 dL_isSo_39 rfl ?_
              refine r_cW O Y [.ref (g_ad X 122), .int (nI ka)] [] (rd_L_valueOf (g_xl X) hs m s lm pm (nI ka) hI0) LW_162 rfl rfl rfl dL_isSo_41 (g_fit_n rfl (by show (0 + 1 * ka) + 1 ≤ 384; omega) (by show (0 + 6 * ka) + 6 ≤ 2304; omega)) rfl ?_
              refine r_aload_n O 1 dL_isSo_44 rfl rfl ?_
              refine r_iload O 12 dL_isSo_45 rfl ?_
              refine r_bipush (x := 6) O dL_isSo_47 rfl ?_
              have J_75 : ∀ (t0_75 : Int32) (hj0 : 0 ≤ t0_75.toInt) (hj1 : t0_75.toInt < 13), g_V X (fun r : Int32 => ((.inl (some (.int r)), (m, s, lm, pm)) : g_Res)) (R_L_isSo_75 m s pm ((R_L_isSo_12 m s pm f_12)) ka t0_75) (0 + 1 * ka + 1) (0 + 6 * ka + 6) m (s, lm, pm) 75 [(0, .ref (g_ad X 122)), (1, .ref (g_ad X 124)), (2, .ref (g_ad X 125)), (3, .ref (g_ad X 126)), (4, .ref (g_ad X 127)), (5, .ref (g_ad X 128)), (6, .ref (g_ad X 129)), (7, .ref (g_ad X 130)), (8, .ref (g_ad X 131)), (9, .int 0), (10, .int 0), (12, .int (nI ka))] [.int t0_75, .ref (g_ad X 124), .int (g_wv (R_X7_value m pm (nI ka)))] := by
                intro t0_75 hj0 hj1
                have ja_75_0 := j_nat (x := t0_75) (by with_reducible omega)
                refine r_ialn (b := 0) (loc := 0 + t0_75.toNatClampNeg) O R_124 (show vp_in t0_75 13 from g_vin (by with_reducible omega) (by with_reducible omega)) (by with_reducible omega) dL_isSo_75 ?_
                refine r_icmp_ne O 83 dL_isSo_76 (by decide) (fun c_76 => ?_) (fun c_76 => ?_)
                · have e_76 : (g_wv (R_X7_value m pm (nI ka))).toInt = (s (0 + t0_75.toNatClampNeg)).toInt := j_eq c_76
                  exact J_79
                · have e_76 : (g_wv (R_X7_value m pm (nI ka))).toInt ≠ (s (0 + t0_75.toNatClampNeg)).toInt := j_ne c_76
                  exact J_83
              refine r_icmp_ge O 57 dL_isSo_49 (by decide) (fun c_49 => ?_) (fun c_49 => ?_)
              · have e_49 : (6 : Int) ≤ (nI ka).toInt := j_leL c_49 rfl
                refine r_iload O 12 dL_isSo_57 rfl ?_
                refine r_bipush (x := 10) O dL_isSo_59 rfl ?_
                refine r_icmp_ge O 71 dL_isSo_61 (by decide) (fun c_61 => ?_) (fun c_61 => ?_)
                · have e_61 : (10 : Int) ≤ (nI ka).toInt := j_leL c_61 rfl
                  refine r_iload O 12 dL_isSo_71 rfl ?_
                  refine r_iconst (x := 2) O dL_isSo_73 rfl ?_
                  refine r_isub O dL_isSo_74 ?_
                  refine r_sub [0, 1, 2, 3, 4, 5, 6, 7, 8, 9, 10, 12] rfl ?_
                  have ix_75_t0_75 : ((nI ka) - 2).toInt = ((nI ka).toInt - (2 : Int)) := (j_subE rfl rfl (by with_reducible omega) (by with_reducible omega))
                  exact J_75 ((nI ka) - 2) (by first | decide | with_reducible assumption | with_reducible omega | (simp (disch := omega) only [g_upd_ne, g_upd_eq]; first | with_reducible assumption | with_reducible omega | decide) | exact Or.inl rfl | exact Or.inr rfl) (by first | decide | with_reducible assumption | with_reducible omega | (simp (disch := omega) only [g_upd_ne, g_upd_eq]; first | with_reducible assumption | with_reducible omega | decide) | exact Or.inl rfl | exact Or.inr rfl)
                · have e_61 : (nI ka).toInt < (10 : Int) := j_nleL c_61 rfl
                  refine r_iload O 12 dL_isSo_64 rfl ?_
                  refine r_iconst (x := 1) O dL_isSo_66 rfl ?_
                  refine r_isub O dL_isSo_67 ?_
                  refine r_goto O 75 dL_isSo_68 (by decide) ?_
                  refine r_sub [0, 1, 2, 3, 4, 5, 6, 7, 8, 9, 10, 12] rfl ?_
                  have ix_75_t0_75 : ((nI ka) - 1).toInt = ((nI ka).toInt - (1 : Int)) := (j_subE rfl rfl (by with_reducible omega) (by with_reducible omega))
                  exact J_75 ((nI ka) - 1) (by first | decide | with_reducible assumption | with_reducible omega | (simp (disch := omega) only [g_upd_ne, g_upd_eq]; first | with_reducible assumption | with_reducible omega | decide) | exact Or.inl rfl | exact Or.inr rfl) (by first | decide | with_reducible assumption | with_reducible omega | (simp (disch := omega) only [g_upd_ne, g_upd_eq]; first | with_reducible assumption | with_reducible omega | decide) | exact Or.inl rfl | exact Or.inr rfl)
              · have e_49 : (nI ka).toInt < (6 : Int) := j_nleL c_49 rfl
                refine r_iload O 12 dL_isSo_52 rfl ?_
                refine r_goto O 75 dL_isSo_54 (by decide) ?_
                refine r_sub [0, 1, 2, 3, 4, 5, 6, 7, 8, 9, 10, 12] rfl ?_
                exact J_75 (nI ka) (by first | decide | with_reducible assumption | with_reducible omega | (simp (disch := omega) only [g_upd_ne, g_upd_eq]; first | with_reducible assumption | with_reducible omega | decide) | exact Or.inl rfl | exact Or.inr rfl) (by first | decide | with_reducible assumption | with_reducible omega | (simp (disch := omega) only [g_upd_ne, g_upd_eq]; first | with_reducible assumption | with_reducible omega | decide) | exact Or.inl rfl | exact Or.inr rfl)
  refine r_sub [4, 5, 6, 7, 8, 9, 10, 11, 12, 3, 2, 1, 0] rfl ?_
  exact L_12 15 1 0 (by with_reducible omega)
theorem met_L_isSo (l : Launch) (hs : l.stackTraces = false) (lm : Nat → Int64) (m : Nat → Int32) (s : Nat → Int32) (pm : Nat → Nat) (p0 : g_I m pm) (p1 : (s (0)).toInt ≤ 7) (p2 : (s (1)).toInt ≤ 8) (p3 : (s (2)).toInt ≤ 6) (p4 : (s (6)).toInt ≤ 10) (p5 : (s (12)).toInt ≤ 12) (p6 : 0 ≤ (s (0)).toInt) (p7 : 0 ≤ (s (1)).toInt) (p8 : 0 ≤ (s (2)).toInt) (p9 : 0 ≤ (s (6)).toInt) (p10 : 0 ≤ (s (12)).toInt) : g_SY l yL_isSo cL_isSo 13 (some .boolean) ({ frames := 10, cells := 384, slots := 2304, locals := 187 } : Room) (fun ad => [.ref (ad 122), .ref (ad 124), .ref (ad 125), .ref (ad 126), .ref (ad 127), .ref (ad 128), .ref (ad 129), .ref (ad 130), .ref (ad 131)]) m (s, lm, pm) ((fun r : Int32 => ((.inl (some (.int r)), (m, s, lm, pm)) : g_Res)) (R_L_isSo m s pm)) :=
  g_sy_of (by decide) (fun _ => Nat.le_of_ble_eq_true rfl) (fun X hl hn O Y => walk_L_isSo O (by rw [hl]; exact hs) Y hn p0 p1 p2 p3 p4 p5 p6 p7 p8 p9 p10)
