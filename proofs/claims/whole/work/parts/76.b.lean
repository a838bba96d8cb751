/-! ===== the law's body: cases 0 to 9 ===== -/
section LC0
variable {X : g_X} {m s : Nat → Int32} {lm : Nat → Int64} {pm : Nat → Nat} {k n b L : Nat} {xs : Nat → Int32} {i : Int32}
theorem g_LW_begin : g_LW 101 yL_begin cL_begin 4 3 [(0, 9, 12, 13)] := ⟨gW_in (i := 694) (by decide +kernel) rfl, gW_in (i := 72) (by decide +kernel) rfl, gW_in (i := 696) (by decide +kernel) rfl, by decide +kernel, gW_in (i := 695) (by decide +kernel) rfl⟩
set_option maxRecDepth 100000 in
set_option maxHeartbeats 4000000 in
theorem lc_begin (Z : lw_O X) (V : lw_V X b L xs) (I : lw_I L i) (R : g_Rel m s pm) (hk : k ≤ 90000) (hnn : n ≤ 90000) (kk : lw_K X (k + 4) (n + 24) (lw_lc X b i)) : lw_E X k n m (s, lm, pm) 180 (lw_lc X b i) := by
  obtain ⟨O, Y, hs, hn⟩ := Z
  have hN : ∀ j, Nat.blt j 9 = true → j < g_xn X := fun j h => by rw [hn]; exact g_blt.mp h
  obtain ⟨p1, p2⟩ := lw_pasts R
  have M := met_L_begin (g_xl X) hs m s lm pm (xs (i + 1).toNatClampNeg) R.I R.p4
  have M8 := fun (lm : Nat → Int64) (pm : Nat → Nat) (m : Nat → Int32) => met_X8_begin (g_xl X) hs lm pm m s (xs (i + 1).toNatClampNeg) R.J p1 p2
  have RF := Ref_begin R (xs (i + 1).toNatClampNeg)
  generalize R_X7_begin m pm (xs (i + 1).toNatClampNeg) = r7 at M RF
  generalize R_X8_begin s (xs (i + 1).toNatClampNeg) = r8 at M8 RF
  obtain ⟨o, m1, pm1⟩ := r7
  obtain ⟨v8, s8⟩ := r8
  obtain ⟨R1, RF⟩ := RF
  have R1 : g_Rel m1 s8 pm1 := R1
  dsimp only at M8
  rcases RF with ⟨v, hv, h0, he⟩ | ⟨E, hE, hv, h0⟩
  · have hv : o = .inl (some (.int v)) := hv
    have z0 : s8 1302 = 0 := h0
    have he : v = v8 := he
    subst hv; subst he
    dsimp only [g_w] at M
    obtain ⟨res, hr, K⟩ := kk m1 s8 (vp_updL lm 1 v.toInt64) pm1 R1
    refine ⟨res, hr, ?_⟩
    have MT := met_X8_thrown (g_xl X) hs (vp_updL lm 1 v.toInt64) pm1 m1 s8
    dsimp only [R_X8_thrown] at MT
    rw [z0] at MT
    unfold lw_lc at K ⊢
    refine tt_aload_n O 2 dL_law_180 rfl rfl ?_
    refine tt_aload_n O 1 dL_law_181 rfl rfl ?_
    refine tt_iload O 0 dL_law_182 rfl ?_
    refine tt_iconst (x := 1) O dL_law_184 rfl ?_
    refine tt_iadd O dL_law_185 ?_
    refine tt_sld O V I.2.1 dL_law_186 ?_
    refine tt_aload_n O 4 dL_law_187 rfl rfl ?_
    refine tt_callS O Y [.ref (g_ad X 122), .int (xs (i + 1).toNatClampNeg), .ref (g_ad X 129)] [] M g_LW_begin rfl rfl rfl dL_law_188 (lw_fit rfl (by omega) (by omega)) rfl ?_
    refine tt_istore O dL_law_191 (hN 5 rfl) rfl ?_
    refine tt_aload_n O 4 dL_law_193 rfl rfl ?_
    refine tt_aload_n O 2 dL_law_194 rfl rfl ?_
    refine tt_iload O 1 dL_law_195 rfl ?_
    refine tt_iconst (x := 1) O dL_law_197 rfl ?_
    refine tt_iadd O dL_law_198 ?_
    refine tt_sld O V I.2.1 dL_law_199 ?_
    refine tt_callM O [.int (xs (i + 1).toNatClampNeg)] [] (M8 (vp_updL lm 1 v.toInt64) pm1 m1) LL_106 obj_124 rfl rfl rfl dL_law_200 (lw_fit rfl (by show k + 1 ≤ 90004; omega) (by show n + 6 ≤ 90024; omega)) rfl ?_
    refine tt_istore O dL_law_203 (hN 6 rfl) rfl ?_
    refine tt_aload_n O 5 dL_law_205 rfl rfl ?_
    refine tt_callM O [] [] MT LL_107 obj_124 rfl rfl rfl dL_law_206 (lw_fit rfl (by show k + 1 + 0 ≤ 90004; omega) (by show n + 6 + 0 ≤ 90024; omega)) rfl ?_
    refine tt_iload O 1 dL_law_209 rfl ?_
    refine tt_icmp_eq O 216 dL_law_211 (by decide) rfl ?_
    refine tt_iload O 1 dL_law_216 rfl ?_
    refine tt_if_ne O 233 dL_law_218 (by decide) (fun c => absurd rfl c) (fun _ => ?_)
    refine tt_aload_n O 6 dL_law_221 rfl rfl ?_
    refine tt_iconst (x := 0) O dL_law_222 rfl ?_
    refine tt_lald O R1.p4 dL_law_223 ?_
    refine tt_iload O 0 dL_law_224 rfl ?_
    refine tt_i2l O dL_law_226 ?_
    refine tt_lcmp O dL_law_227 ?_
    refine tt_if_eq O 233 dL_law_228 (by decide) (fun _ => ?_) (fun c => absurd (by rw [pk_uLs]; exact lg_cmp_self _) c)
    refine tt_goto O 1863 dL_law_233 (by decide) ?_
    refine r_sub [2, 3, 4, 5, 6] rfl ?_
    exact r_widen (by show k + 1 + 0 + 0 ≤ k + 4; omega) (by show n + 6 + 0 + 0 ≤ n + 24; omega) K
  · have hv : o = .inr E := hv
    have z0 : s8 1302 = _ := h0
    subst hv
    have hne : ¬ g_k ["java/lang/IllegalArgumentException"] E 1 = 0 := by
      simp only [List.mem_cons, List.not_mem_nil, or_false] at hE
      rcases hE with rfl <;> decide +kernel
    dsimp only [g_w] at M
    obtain ⟨res, hr, K⟩ := kk m1 s8 lm pm1 R1
    refine ⟨res, hr, ?_⟩
    have MT := met_X8_thrown (g_xl X) hs lm pm1 m1 s8
    dsimp only [R_X8_thrown] at MT
    rw [z0] at MT
    unfold lw_lc at K ⊢
    refine tt_aload_n O 2 dL_law_180 rfl rfl ?_
    refine tt_aload_n O 1 dL_law_181 rfl rfl ?_
    refine tt_iload O 0 dL_law_182 rfl ?_
    refine tt_iconst (x := 1) O dL_law_184 rfl ?_
    refine tt_iadd O dL_law_185 ?_
    refine tt_sld O V I.2.1 dL_law_186 ?_
    refine tt_aload_n O 4 dL_law_187 rfl rfl ?_
    refine tt_callS O Y [.ref (g_ad X 122), .int (xs (i + 1).toNatClampNeg), .ref (g_ad X 129)] [] M g_LW_begin rfl rfl rfl dL_law_188 (lw_fit rfl (by omega) (by omega)) rfl ?_
    refine tt_istore O dL_law_191 (hN 5 rfl) rfl ?_
    refine tt_aload_n O 4 dL_law_193 rfl rfl ?_
    refine tt_aload_n O 2 dL_law_194 rfl rfl ?_
    refine tt_iload O 1 dL_law_195 rfl ?_
    refine tt_iconst (x := 1) O dL_law_197 rfl ?_
    refine tt_iadd O dL_law_198 ?_
    refine tt_sld O V I.2.1 dL_law_199 ?_
    refine tt_callM O [.int (xs (i + 1).toNatClampNeg)] [] (M8 lm pm1 m1) LL_106 obj_124 rfl rfl rfl dL_law_200 (lw_fit rfl (by show k + 1 ≤ 90004; omega) (by show n + 6 ≤ 90024; omega)) rfl ?_
    refine tt_istore O dL_law_203 (hN 6 rfl) rfl ?_
    refine tt_aload_n O 5 dL_law_205 rfl rfl ?_
    refine tt_callM O [] [] MT LL_107 obj_124 rfl rfl rfl dL_law_206 (lw_fit rfl (by show k + 1 + 0 ≤ 90004; omega) (by show n + 6 + 0 ≤ 90024; omega)) rfl ?_
    refine tt_iload O 1 dL_law_209 rfl ?_
    refine tt_icmp_eq O 216 dL_law_211 (by decide) rfl ?_
    refine tt_iload O 1 dL_law_216 rfl ?_
    refine tt_if_ne O 233 dL_law_218 (by decide) (fun _ => ?_) (fun c => absurd c hne)
    refine tt_goto O 1863 dL_law_233 (by decide) ?_
    refine r_sub [2, 3, 4, 5, 6] rfl ?_
    exact r_widen (by show k + 1 + 0 + 0 ≤ k + 4; omega) (by show n + 6 + 0 + 0 ≤ n + 24; omega) K
theorem g_LW_setPassage : g_LW 110 yL_setPassage cL_setPassage 6 5 [(0, 12, 15, 19), (0, 12, 19, 13), (0, 12, 23, 21)] := ⟨gW_in (i := 784) (by decide +kernel) rfl, gW_in (i := 72) (by decide +kernel) rfl, gW_in (i := 786) (by decide +kernel) rfl, by decide +kernel, gW_in (i := 785) (by decide +kernel) rfl⟩
set_option maxRecDepth 100000 in
set_option maxHeartbeats 4000000 in
theorem lc_setPassage (Z : lw_O X) (V : lw_V X b L xs) (I : lw_I L i) (R : g_Rel m s pm) (hk : k ≤ 90000) (hnn : n ≤ 90000) (kk : lw_K X (k + 4) (n + 24) (lw_lc X b i)) : lw_E X k n m (s, lm, pm) 236 (lw_lc X b i) := by
  obtain ⟨O, Y, hs, hn⟩ := Z
  have hN : ∀ j, Nat.blt j 9 = true → j < g_xn X := fun j h => by rw [hn]; exact g_blt.mp h
  obtain ⟨p1, p2⟩ := lw_pasts R
  have M := met_L_setPassage (g_xl X) hs m s lm pm (xs (i + 1).toNatClampNeg) (xs (i + 2).toNatClampNeg) (xs (i + 3).toNatClampNeg) R.I R.p4
  have M8 := fun (lm : Nat → Int64) (pm : Nat → Nat) (m : Nat → Int32) => met_X8_setPassage (g_xl X) hs lm pm m s (xs (i + 1).toNatClampNeg) (xs (i + 2).toNatClampNeg) (xs (i + 3).toNatClampNeg) R.J p1 p2
  have RF := Ref_setPassage R (xs (i + 1).toNatClampNeg) (xs (i + 2).toNatClampNeg) (xs (i + 3).toNatClampNeg)
  generalize R_X7_setPassage m pm (xs (i + 1).toNatClampNeg) (xs (i + 2).toNatClampNeg) (xs (i + 3).toNatClampNeg) = r7 at M RF
  generalize R_X8_setPassage s (xs (i + 1).toNatClampNeg) (xs (i + 2).toNatClampNeg) (xs (i + 3).toNatClampNeg) = r8 at M8 RF
  obtain ⟨o, m1, pm1⟩ := r7
  obtain ⟨v8, s8⟩ := r8
  obtain ⟨R1, RF⟩ := RF
  have R1 : g_Rel m1 s8 pm1 := R1
  dsimp only at M8
  rcases RF with ⟨v, hv, h0, he⟩ | ⟨E, hE, hv, h0⟩
  · have hv : o = .inl (some (.int v)) := hv
    have z0 : s8 1302 = 0 := h0
    have he : v = v8 := he
    subst hv; subst he
    dsimp only [g_w] at M
    obtain ⟨res, hr, K⟩ := kk m1 s8 (vp_updL lm 1 v.toInt64) pm1 R1
    refine ⟨res, hr, ?_⟩
    have MT := met_X8_thrown (g_xl X) hs (vp_updL lm 1 v.toInt64) pm1 m1 s8
    dsimp only [R_X8_thrown] at MT
    rw [z0] at MT
    unfold lw_lc at K ⊢
    refine tt_aload_n O 2 dL_law_236 rfl rfl ?_
    refine tt_aload_n O 1 dL_law_237 rfl rfl ?_
    refine tt_iload O 0 dL_law_238 rfl ?_
    refine tt_iconst (x := 1) O dL_law_240 rfl ?_
    refine tt_iadd O dL_law_241 ?_
    refine tt_sld O V I.2.1 dL_law_242 ?_
    refine tt_aload_n O 1 dL_law_243 rfl rfl ?_
    refine tt_iload O 0 dL_law_244 rfl ?_
    refine tt_iconst (x := 2) O dL_law_246 rfl ?_
    refine tt_iadd O dL_law_247 ?_
    refine tt_sld O V I.2.2.1 dL_law_248 ?_
    refine tt_aload_n O 1 dL_law_249 rfl rfl ?_
    refine tt_iload O 0 dL_law_250 rfl ?_
    refine tt_iconst (x := 3) O dL_law_252 rfl ?_
    refine tt_iadd O dL_law_253 ?_
    refine tt_sld O V I.2.2.2 dL_law_254 ?_
    refine tt_aload_n O 4 dL_law_255 rfl rfl ?_
    refine tt_callS O Y [.ref (g_ad X 122), .int (xs (i + 1).toNatClampNeg), .int (xs (i + 2).toNatClampNeg), .int (xs (i + 3).toNatClampNeg), .ref (g_ad X 129)] [] M g_LW_setPassage rfl rfl rfl dL_law_256 (lw_fit rfl (by omega) (by omega)) rfl ?_
    refine tt_istore O dL_law_259 (hN 5 rfl) rfl ?_
    refine tt_aload_n O 4 dL_law_261 rfl rfl ?_
    refine tt_aload_n O 2 dL_law_262 rfl rfl ?_
    refine tt_iload O 1 dL_law_263 rfl ?_
    refine tt_iconst (x := 1) O dL_law_265 rfl ?_
    refine tt_iadd O dL_law_266 ?_
    refine tt_sld O V I.2.1 dL_law_267 ?_
    refine tt_aload_n O 2 dL_law_268 rfl rfl ?_
    refine tt_iload O 1 dL_law_269 rfl ?_
    refine tt_iconst (x := 2) O dL_law_271 rfl ?_
    refine tt_iadd O dL_law_272 ?_
    refine tt_sld O V I.2.2.1 dL_law_273 ?_
    refine tt_aload_n O 2 dL_law_274 rfl rfl ?_
    refine tt_iload O 1 dL_law_275 rfl ?_
    refine tt_iconst (x := 3) O dL_law_277 rfl ?_
    refine tt_iadd O dL_law_278 ?_
    refine tt_sld O V I.2.2.2 dL_law_279 ?_
    refine tt_callM O [.int (xs (i + 1).toNatClampNeg), .int (xs (i + 2).toNatClampNeg), .int (xs (i + 3).toNatClampNeg)] [] (M8 (vp_updL lm 1 v.toInt64) pm1 m1) LL_113 obj_124 rfl rfl rfl dL_law_280 (lw_fit rfl (by show k + 4 ≤ 90004; omega) (by show n + 24 ≤ 90024; omega)) rfl ?_
    refine tt_istore O dL_law_283 (hN 6 rfl) rfl ?_
    refine tt_aload_n O 5 dL_law_285 rfl rfl ?_
    refine tt_callM O [] [] MT LL_107 obj_124 rfl rfl rfl dL_law_286 (lw_fit rfl (by show k + 4 + 0 ≤ 90004; omega) (by show n + 24 + 0 ≤ 90024; omega)) rfl ?_
    refine tt_iload O 1 dL_law_289 rfl ?_
    refine tt_icmp_eq O 296 dL_law_291 (by decide) rfl ?_
    refine tt_iload O 1 dL_law_296 rfl ?_
    refine tt_if_ne O 313 dL_law_298 (by decide) (fun c => absurd rfl c) (fun _ => ?_)
    refine tt_aload_n O 6 dL_law_301 rfl rfl ?_
    refine tt_iconst (x := 0) O dL_law_302 rfl ?_
    refine tt_lald O R1.p4 dL_law_303 ?_
    refine tt_iload O 0 dL_law_304 rfl ?_
    refine tt_i2l O dL_law_306 ?_
    refine tt_lcmp O dL_law_307 ?_
    refine tt_if_eq O 313 dL_law_308 (by decide) (fun _ => ?_) (fun c => absurd (by rw [pk_uLs]; exact lg_cmp_self _) c)
    refine tt_goto O 1863 dL_law_313 (by decide) ?_
    refine r_sub [2, 3, 4, 5, 6] rfl ?_
    exact r_widen (by show k + 4 + 0 + 0 ≤ k + 4; omega) (by show n + 24 + 0 + 0 ≤ n + 24; omega) K
  · have hv : o = .inr E := hv
    have z0 : s8 1302 = _ := h0
    subst hv
    have hne : ¬ g_k ["java/lang/IndexOutOfBoundsException", "java/lang/IllegalArgumentException", "java/lang/IllegalStateException"] E 1 = 0 := by
      simp only [List.mem_cons, List.not_mem_nil, or_false] at hE
      rcases hE with rfl | rfl | rfl <;> decide +kernel
    dsimp only [g_w] at M
    obtain ⟨res, hr, K⟩ := kk m1 s8 lm pm1 R1
    refine ⟨res, hr, ?_⟩
    have MT := met_X8_thrown (g_xl X) hs lm pm1 m1 s8
    dsimp only [R_X8_thrown] at MT
    rw [z0] at MT
    unfold lw_lc at K ⊢
    refine tt_aload_n O 2 dL_law_236 rfl rfl ?_
    refine tt_aload_n O 1 dL_law_237 rfl rfl ?_
    refine tt_iload O 0 dL_law_238 rfl ?_
    refine tt_iconst (x := 1) O dL_law_240 rfl ?_
    refine tt_iadd O dL_law_241 ?_
    refine tt_sld O V I.2.1 dL_law_242 ?_
    refine tt_aload_n O 1 dL_law_243 rfl rfl ?_
    refine tt_iload O 0 dL_law_244 rfl ?_
    refine tt_iconst (x := 2) O dL_law_246 rfl ?_
    refine tt_iadd O dL_law_247 ?_
    refine tt_sld O V I.2.2.1 dL_law_248 ?_
    refine tt_aload_n O 1 dL_law_249 rfl rfl ?_
    refine tt_iload O 0 dL_law_250 rfl ?_
    refine tt_iconst (x := 3) O dL_law_252 rfl ?_
    refine tt_iadd O dL_law_253 ?_
    refine tt_sld O V I.2.2.2 dL_law_254 ?_
    refine tt_aload_n O 4 dL_law_255 rfl rfl ?_
    refine tt_callS O Y [.ref (g_ad X 122), .int (xs (i + 1).toNatClampNeg), .int (xs (i + 2).toNatClampNeg), .int (xs (i + 3).toNatClampNeg), .ref (g_ad X 129)] [] M g_LW_setPassage rfl rfl rfl dL_law_256 (lw_fit rfl (by omega) (by omega)) rfl ?_
    refine tt_istore O dL_law_259 (hN 5 rfl) rfl ?_
    refine tt_aload_n O 4 dL_law_261 rfl rfl ?_
    refine tt_aload_n O 2 dL_law_262 rfl rfl ?_
    refine tt_iload O 1 dL_law_263 rfl ?_
    refine tt_iconst (x := 1) O dL_law_265 rfl ?_
    refine tt_iadd O dL_law_266 ?_
    refine tt_sld O V I.2.1 dL_law_267 ?_
    refine tt_aload_n O 2 dL_law_268 rfl rfl ?_
    refine tt_iload O 1 dL_law_269 rfl ?_
    refine tt_iconst (x := 2) O dL_law_271 rfl ?_
    refine tt_iadd O dL_law_272 ?_
    refine tt_sld O V I.2.2.1 dL_law_273 ?_
    refine tt_aload_n O 2 dL_law_274 rfl rfl ?_
    refine tt_iload O 1 dL_law_275 rfl ?_
    refine tt_iconst (x := 3) O dL_law_277 rfl ?_
    refine tt_iadd O dL_law_278 ?_
    refine tt_sld O V I.2.2.2 dL_law_279 ?_
    refine tt_callM O [.int (xs (i + 1).toNatClampNeg), .int (xs (i + 2).toNatClampNeg), .int (xs (i + 3).toNatClampNeg)] [] (M8 lm pm1 m1) LL_113 obj_124 rfl rfl rfl dL_law_280 (lw_fit rfl (by show k + 4 ≤ 90004; omega) (by show n + 24 ≤ 90024; omega)) rfl ?_
    refine tt_istore O dL_law_283 (hN 6 rfl) rfl ?_
    refine tt_aload_n O 5 dL_law_285 rfl rfl ?_
    refine tt_callM O [] [] MT LL_107 obj_124 rfl rfl rfl dL_law_286 (lw_fit rfl (by show k + 4 + 0 ≤ 90004; omega) (by show n + 24 + 0 ≤ 90024; omega)) rfl ?_
    refine tt_iload O 1 dL_law_289 rfl ?_
    refine tt_icmp_eq O 296 dL_law_291 (by decide) rfl ?_
    refine tt_iload O 1 dL_law_296 rfl ?_
    refine tt_if_ne O 313 dL_law_298 (by decide) (fun _ => ?_) (fun c => absurd c hne)
    refine tt_goto O 1863 dL_law_313 (by decide) ?_
    refine r_sub [2, 3, 4, 5, 6] rfl ?_
    exact r_widen (by show k + 4 + 0 + 0 ≤ k + 4; omega) (by show n + 24 + 0 + 0 ≤ n + 24; omega) K
theorem g_LW_addRope : g_LW 114 yL_addRope cL_addRope 4 3 [(0, 9, 12, 13), (0, 9, 15, 21)] := ⟨gW_in (i := 840) (by decide +kernel) rfl, gW_in (i := 72) (by decide +kernel) rfl, gW_in (i := 842) (by decide +kernel) rfl, by decide +kernel, gW_in (i := 841) (by decide +kernel) rfl⟩
set_option maxRecDepth 100000 in
set_option maxHeartbeats 4000000 in
theorem lc_addRope (Z : lw_O X) (V : lw_V X b L xs) (I : lw_I L i) (R : g_Rel m s pm) (hk : k ≤ 90000) (hnn : n ≤ 90000) (kk : lw_K X (k + 4) (n + 24) (lw_lc X b i)) : lw_E X k n m (s, lm, pm) 316 (lw_lc X b i) := by
  obtain ⟨O, Y, hs, hn⟩ := Z
  have hN : ∀ j, Nat.blt j 9 = true → j < g_xn X := fun j h => by rw [hn]; exact g_blt.mp h
  obtain ⟨p1, p2⟩ := lw_pasts R
  have M := met_L_addRope (g_xl X) hs m s lm pm (xs (i + 1).toNatClampNeg) R.I R.p4
  have M8 := fun (lm : Nat → Int64) (pm : Nat → Nat) (m : Nat → Int32) => met_X8_addRope (g_xl X) hs lm pm m s (xs (i + 1).toNatClampNeg) R.J p1 p2
  have RF := Ref_addRope R (xs (i + 1).toNatClampNeg)
  generalize R_X7_addRope m pm (xs (i + 1).toNatClampNeg) = r7 at M RF
  generalize R_X8_addRope s (xs (i + 1).toNatClampNeg) = r8 at M8 RF
  obtain ⟨o, m1, pm1⟩ := r7
  obtain ⟨v8, s8⟩ := r8
  obtain ⟨R1, RF⟩ := RF
  have R1 : g_Rel m1 s8 pm1 := R1
  dsimp only at M8
  rcases RF with ⟨v, hv, h0, he⟩ | ⟨E, hE, hv, h0⟩
  · have hv : o = .inl (some (.int v)) := hv
    have z0 : s8 1302 = 0 := h0
    have he : v = v8 := he
    subst hv; subst he
    dsimp only [g_w] at M
    obtain ⟨res, hr, K⟩ := kk m1 s8 (vp_updL lm 1 v.toInt64) pm1 R1
    refine ⟨res, hr, ?_⟩
    have MT := met_X8_thrown (g_xl X) hs (vp_updL lm 1 v.toInt64) pm1 m1 s8
    dsimp only [R_X8_thrown] at MT
    rw [z0] at MT
    unfold lw_lc at K ⊢
    refine tt_aload_n O 2 dL_law_316 rfl rfl ?_
    refine tt_aload_n O 1 dL_law_317 rfl rfl ?_
    refine tt_iload O 0 dL_law_318 rfl ?_
    refine tt_iconst (x := 1) O dL_law_320 rfl ?_
    refine tt_iadd O dL_law_321 ?_
    refine tt_sld O V I.2.1 dL_law_322 ?_
    refine tt_aload_n O 4 dL_law_323 rfl rfl ?_
    refine tt_callS O Y [.ref (g_ad X 122), .int (xs (i + 1).toNatClampNeg), .ref (g_ad X 129)] [] M g_LW_addRope rfl rfl rfl dL_law_324 (lw_fit rfl (by omega) (by omega)) rfl ?_
    refine tt_istore O dL_law_327 (hN 5 rfl) rfl ?_
    refine tt_aload_n O 4 dL_law_329 rfl rfl ?_
    refine tt_aload_n O 2 dL_law_330 rfl rfl ?_
    refine tt_iload O 1 dL_law_331 rfl ?_
    refine tt_iconst (x := 1) O dL_law_333 rfl ?_
    refine tt_iadd O dL_law_334 ?_
    refine tt_sld O V I.2.1 dL_law_335 ?_
    refine tt_callM O [.int (xs (i + 1).toNatClampNeg)] [] (M8 (vp_updL lm 1 v.toInt64) pm1 m1) LL_116 obj_124 rfl rfl rfl dL_law_336 (lw_fit rfl (by show k + 2 ≤ 90004; omega) (by show n + 12 ≤ 90024; omega)) rfl ?_
    refine tt_istore O dL_law_339 (hN 6 rfl) rfl ?_
    refine tt_aload_n O 5 dL_law_341 rfl rfl ?_
    refine tt_callM O [] [] MT LL_107 obj_124 rfl rfl rfl dL_law_342 (lw_fit rfl (by show k + 2 + 0 ≤ 90004; omega) (by show n + 12 + 0 ≤ 90024; omega)) rfl ?_
    refine tt_iload O 1 dL_law_345 rfl ?_
    refine tt_icmp_eq O 352 dL_law_347 (by decide) rfl ?_
    refine tt_iload O 1 dL_law_352 rfl ?_
    refine tt_if_ne O 369 dL_law_354 (by decide) (fun c => absurd rfl c) (fun _ => ?_)
    refine tt_aload_n O 6 dL_law_357 rfl rfl ?_
    refine tt_iconst (x := 0) O dL_law_358 rfl ?_
    refine tt_lald O R1.p4 dL_law_359 ?_
    refine tt_iload O 0 dL_law_360 rfl ?_
    refine tt_i2l O dL_law_362 ?_
    refine tt_lcmp O dL_law_363 ?_
    refine tt_if_eq O 369 dL_law_364 (by decide) (fun _ => ?_) (fun c => absurd (by rw [pk_uLs]; exact lg_cmp_self _) c)
    refine tt_goto O 1863 dL_law_369 (by decide) ?_
    refine r_sub [2, 3, 4, 5, 6] rfl ?_
    exact r_widen (by show k + 2 + 0 + 0 ≤ k + 4; omega) (by show n + 12 + 0 + 0 ≤ n + 24; omega) K
  · have hv : o = .inr E := hv
    have z0 : s8 1302 = _ := h0
    subst hv
    have hne : ¬ g_k ["java/lang/IllegalArgumentException", "java/lang/IllegalStateException"] E 1 = 0 := by
      simp only [List.mem_cons, List.not_mem_nil, or_false] at hE
      rcases hE with rfl | rfl <;> decide +kernel
    dsimp only [g_w] at M
    obtain ⟨res, hr, K⟩ := kk m1 s8 lm pm1 R1
    refine ⟨res, hr, ?_⟩
    have MT := met_X8_thrown (g_xl X) hs lm pm1 m1 s8
    dsimp only [R_X8_thrown] at MT
    rw [z0] at MT
    unfold lw_lc at K ⊢
    refine tt_aload_n O 2 dL_law_316 rfl rfl ?_
    refine tt_aload_n O 1 dL_law_317 rfl rfl ?_
    refine tt_iload O 0 dL_law_318 rfl ?_
    refine tt_iconst (x := 1) O dL_law_320 rfl ?_
    refine tt_iadd O dL_law_321 ?_
    refine tt_sld O V I.2.1 dL_law_322 ?_
    refine tt_aload_n O 4 dL_law_323 rfl rfl ?_
    refine tt_callS O Y [.ref (g_ad X 122), .int (xs (i + 1).toNatClampNeg), .ref (g_ad X 129)] [] M g_LW_addRope rfl rfl rfl dL_law_324 (lw_fit rfl (by omega) (by omega)) rfl ?_
    refine tt_istore O dL_law_327 (hN 5 rfl) rfl ?_
    refine tt_aload_n O 4 dL_law_329 rfl rfl ?_
    refine tt_aload_n O 2 dL_law_330 rfl rfl ?_
    refine tt_iload O 1 dL_law_331 rfl ?_
    refine tt_iconst (x := 1) O dL_law_333 rfl ?_
    refine tt_iadd O dL_law_334 ?_
    refine tt_sld O V I.2.1 dL_law_335 ?_
    refine tt_callM O [.int (xs (i + 1).toNatClampNeg)] [] (M8 lm pm1 m1) LL_116 obj_124 rfl rfl rfl dL_law_336 (lw_fit rfl (by show k + 2 ≤ 90004; omega) (by show n + 12 ≤ 90024; omega)) rfl ?_
    refine tt_istore O dL_law_339 (hN 6 rfl) rfl ?_
    refine tt_aload_n O 5 dL_law_341 rfl rfl ?_
    refine tt_callM O [] [] MT LL_107 obj_124 rfl rfl rfl dL_law_342 (lw_fit rfl (by show k + 2 + 0 ≤ 90004; omega) (by show n + 12 + 0 ≤ 90024; omega)) rfl ?_
    refine tt_iload O 1 dL_law_345 rfl ?_
    refine tt_icmp_eq O 352 dL_law_347 (by decide) rfl ?_
    refine tt_iload O 1 dL_law_352 rfl ?_
    refine tt_if_ne O 369 dL_law_354 (by decide) (fun _ => ?_) (fun c => absurd c hne)
    refine tt_goto O 1863 dL_law_369 (by decide) ?_
    refine r_sub [2, 3, 4, 5, 6] rfl ?_
    exact r_widen (by show k + 2 + 0 + 0 ≤ k + 4; omega) (by show n + 12 + 0 + 0 ≤ n + 24; omega) K
theorem g_LW_addHelper : g_LW 117 yL_addHelper cL_addHelper 4 3 [(0, 9, 12, 13), (0, 9, 15, 21)] := ⟨gW_in (i := 852) (by decide +kernel) rfl, gW_in (i := 72) (by decide +kernel) rfl, gW_in (i := 854) (by decide +kernel) rfl, by decide +kernel, gW_in (i := 853) (by decide +kernel) rfl⟩
set_option maxRecDepth 100000 in
set_option maxHeartbeats 4000000 in
theorem lc_addHelper (Z : lw_O X) (V : lw_V X b L xs) (I : lw_I L i) (R : g_Rel m s pm) (hk : k ≤ 90000) (hnn : n ≤ 90000) (kk : lw_K X (k + 4) (n + 24) (lw_lc X b i)) : lw_E X k n m (s, lm, pm) 372 (lw_lc X b i) := by
  obtain ⟨O, Y, hs, hn⟩ := Z
  have hN : ∀ j, Nat.blt j 9 = true → j < g_xn X := fun j h => by rw [hn]; exact g_blt.mp h
  obtain ⟨p1, p2⟩ := lw_pasts R
  have M := met_L_addHelper (g_xl X) hs m s lm pm (xs (i + 1).toNatClampNeg) R.I R.p4
  have M8 := fun (lm : Nat → Int64) (pm : Nat → Nat) (m : Nat → Int32) => met_X8_addHelper (g_xl X) hs lm pm m s (xs (i + 1).toNatClampNeg) R.J p1 p2
  have RF := Ref_addHelper R (xs (i + 1).toNatClampNeg)
  generalize R_X7_addHelper m pm (xs (i + 1).toNatClampNeg) = r7 at M RF
  generalize R_X8_addHelper s (xs (i + 1).toNatClampNeg) = r8 at M8 RF
  obtain ⟨o, m1, pm1⟩ := r7
  obtain ⟨v8, s8⟩ := r8
  obtain ⟨R1, RF⟩ := RF
  have R1 : g_Rel m1 s8 pm1 := R1
  dsimp only at M8
  rcases RF with ⟨v, hv, h0, he⟩ | ⟨E, hE, hv, h0⟩
  · have hv : o = .inl (some (.int v)) := hv
    have z0 : s8 1302 = 0 := h0
    have he : v = v8 := he
    subst hv; subst he
    dsimp only [g_w] at M
    obtain ⟨res, hr, K⟩ := kk m1 s8 (vp_updL lm 1 v.toInt64) pm1 R1
    refine ⟨res, hr, ?_⟩
    have MT := met_X8_thrown (g_xl X) hs (vp_updL lm 1 v.toInt64) pm1 m1 s8
    dsimp only [R_X8_thrown] at MT
    rw [z0] at MT
    unfold lw_lc at K ⊢
    refine tt_aload_n O 2 dL_law_372 rfl rfl ?_
    refine tt_aload_n O 1 dL_law_373 rfl rfl ?_
    refine tt_iload O 0 dL_law_374 rfl ?_
    refine tt_iconst (x := 1) O dL_law_376 rfl ?_
    refine tt_iadd O dL_law_377 ?_
    refine tt_sld O V I.2.1 dL_law_378 ?_
    refine tt_aload_n O 4 dL_law_379 rfl rfl ?_
    refine tt_callS O Y [.ref (g_ad X 122), .int (xs (i + 1).toNatClampNeg), .ref (g_ad X 129)] [] M g_LW_addHelper rfl rfl rfl dL_law_380 (lw_fit rfl (by omega) (by omega)) rfl ?_
    refine tt_istore O dL_law_383 (hN 5 rfl) rfl ?_
    refine tt_aload_n O 4 dL_law_385 rfl rfl ?_
    refine tt_aload_n O 2 dL_law_386 rfl rfl ?_
    refine tt_iload O 1 dL_law_387 rfl ?_
    refine tt_iconst (x := 1) O dL_law_389 rfl ?_
    refine tt_iadd O dL_law_390 ?_
    refine tt_sld O V I.2.1 dL_law_391 ?_
    refine tt_callM O [.int (xs (i + 1).toNatClampNeg)] [] (M8 (vp_updL lm 1 v.toInt64) pm1 m1) LL_119 obj_124 rfl rfl rfl dL_law_392 (lw_fit rfl (by show k + 2 ≤ 90004; omega) (by show n + 12 ≤ 90024; omega)) rfl ?_
    refine tt_istore O dL_law_395 (hN 6 rfl) rfl ?_
    refine tt_aload_n O 5 dL_law_397 rfl rfl ?_
    refine tt_callM O [] [] MT LL_107 obj_124 rfl rfl rfl dL_law_398 (lw_fit rfl (by show k + 2 + 0 ≤ 90004; omega) (by show n + 12 + 0 ≤ 90024; omega)) rfl ?_
    refine tt_iload O 1 dL_law_401 rfl ?_
    refine tt_icmp_eq O 408 dL_law_403 (by decide) rfl ?_
    refine tt_iload O 1 dL_law_408 rfl ?_
    refine tt_if_ne O 425 dL_law_410 (by decide) (fun c => absurd rfl c) (fun _ => ?_)
    refine tt_aload_n O 6 dL_law_413 rfl rfl ?_
    refine tt_iconst (x := 0) O dL_law_414 rfl ?_
    refine tt_lald O R1.p4 dL_law_415 ?_
    refine tt_iload O 0 dL_law_416 rfl ?_
    refine tt_i2l O dL_law_418 ?_
    refine tt_lcmp O dL_law_419 ?_
    refine tt_if_eq O 425 dL_law_420 (by decide) (fun _ => ?_) (fun c => absurd (by rw [pk_uLs]; exact lg_cmp_self _) c)
    refine tt_goto O 1863 dL_law_425 (by decide) ?_
    refine r_sub [2, 3, 4, 5, 6] rfl ?_
    exact r_widen (by show k + 2 + 0 + 0 ≤ k + 4; omega) (by show n + 12 + 0 + 0 ≤ n + 24; omega) K
  · have hv : o = .inr E := hv
    have z0 : s8 1302 = _ := h0
    subst hv
    have hne : ¬ g_k ["java/lang/IllegalArgumentException", "java/lang/IllegalStateException"] E 1 = 0 := by
      simp only [List.mem_cons, List.not_mem_nil, or_false] at hE
      rcases hE with rfl | rfl <;> decide +kernel
    dsimp only [g_w] at M
    obtain ⟨res, hr, K⟩ := kk m1 s8 lm pm1 R1
    refine ⟨res, hr, ?_⟩
    have MT := met_X8_thrown (g_xl X) hs lm pm1 m1 s8
    dsimp only [R_X8_thrown] at MT
    rw [z0] at MT
    unfold lw_lc at K ⊢
    refine tt_aload_n O 2 dL_law_372 rfl rfl ?_
    refine tt_aload_n O 1 dL_law_373 rfl rfl ?_
    refine tt_iload O 0 dL_law_374 rfl ?_
    refine tt_iconst (x := 1) O dL_law_376 rfl ?_
    refine tt_iadd O dL_law_377 ?_
    refine tt_sld O V I.2.1 dL_law_378 ?_
    refine tt_aload_n O 4 dL_law_379 rfl rfl ?_
    refine tt_callS O Y [.ref (g_ad X 122), .int (xs (i + 1).toNatClampNeg), .ref (g_ad X 129)] [] M g_LW_addHelper rfl rfl rfl dL_law_380 (lw_fit rfl (by omega) (by omega)) rfl ?_
    refine tt_istore O dL_law_383 (hN 5 rfl) rfl ?_
    refine tt_aload_n O 4 dL_law_385 rfl rfl ?_
    refine tt_aload_n O 2 dL_law_386 rfl rfl ?_
    refine tt_iload O 1 dL_law_387 rfl ?_
    refine tt_iconst (x := 1) O dL_law_389 rfl ?_
    refine tt_iadd O dL_law_390 ?_
    refine tt_sld O V I.2.1 dL_law_391 ?_
    refine tt_callM O [.int (xs (i + 1).toNatClampNeg)] [] (M8 lm pm1 m1) LL_119 obj_124 rfl rfl rfl dL_law_392 (lw_fit rfl (by show k + 2 ≤ 90004; omega) (by show n + 12 ≤ 90024; omega)) rfl ?_
    refine tt_istore O dL_law_395 (hN 6 rfl) rfl ?_
    refine tt_aload_n O 5 dL_law_397 rfl rfl ?_
    refine tt_callM O [] [] MT LL_107 obj_124 rfl rfl rfl dL_law_398 (lw_fit rfl (by show k + 2 + 0 ≤ 90004; omega) (by show n + 12 + 0 ≤ 90024; omega)) rfl ?_
    refine tt_iload O 1 dL_law_401 rfl ?_
    refine tt_icmp_eq O 408 dL_law_403 (by decide) rfl ?_
    refine tt_iload O 1 dL_law_408 rfl ?_
    refine tt_if_ne O 425 dL_law_410 (by decide) (fun _ => ?_) (fun c => absurd c hne)
    refine tt_goto O 1863 dL_law_425 (by decide) ?_
    refine r_sub [2, 3, 4, 5, 6] rfl ?_
    exact r_widen (by show k + 2 + 0 + 0 ≤ k + 4; omega) (by show n + 12 + 0 + 0 ≤ n + 24; omega) K
theorem g_LW_setSilence : g_LW 120 yL_setSilence cL_setSilence 5 4 [(0, 10, 13, 13)] := ⟨gW_in (i := 867) (by decide +kernel) rfl, gW_in (i := 72) (by decide +kernel) rfl, gW_in (i := 869) (by decide +kernel) rfl, by decide +kernel, gW_in (i := 868) (by decide +kernel) rfl⟩
set_option maxRecDepth 100000 in
set_option maxHeartbeats 4000000 in
theorem lc_setSilence (Z : lw_O X) (V : lw_V X b L xs) (I : lw_I L i) (R : g_Rel m s pm) (hk : k ≤ 90000) (hnn : n ≤ 90000) (kk : lw_K X (k + 4) (n + 24) (lw_lc X b i)) : lw_E X k n m (s, lm, pm) 428 (lw_lc X b i) := by
  obtain ⟨O, Y, hs, hn⟩ := Z
  have hN : ∀ j, Nat.blt j 9 = true → j < g_xn X := fun j h => by rw [hn]; exact g_blt.mp h
  obtain ⟨p1, p2⟩ := lw_pasts R
  have M := met_L_setSilence (g_xl X) hs m s lm pm (xs (i + 1).toNatClampNeg) (xs (i + 2).toNatClampNeg) R.I R.p4
  have M8 := fun (lm : Nat → Int64) (pm : Nat → Nat) (m : Nat → Int32) => met_X8_setSilence (g_xl X) hs lm pm m s (xs (i + 1).toNatClampNeg) (xs (i + 2).toNatClampNeg) R.J p1 p2
  have RF := Ref_setSilence R (xs (i + 1).toNatClampNeg) (xs (i + 2).toNatClampNeg)
  generalize R_X7_setSilence m pm (xs (i + 1).toNatClampNeg) (xs (i + 2).toNatClampNeg) = r7 at M RF
  generalize R_X8_setSilence s (xs (i + 1).toNatClampNeg) (xs (i + 2).toNatClampNeg) = r8 at M8 RF
  obtain ⟨o, m1, pm1⟩ := r7
  obtain ⟨v8, s8⟩ := r8
  obtain ⟨R1, RF⟩ := RF
  have R1 : g_Rel m1 s8 pm1 := R1
  dsimp only at M8
  rcases RF with ⟨v, hv, h0, he⟩ | ⟨E, hE, hv, h0⟩
  · have hv : o = .inl (some (.int v)) := hv
    have z0 : s8 1302 = 0 := h0
    have he : v = v8 := he
    subst hv; subst he
    dsimp only [g_w] at M
    obtain ⟨res, hr, K⟩ := kk m1 s8 (vp_updL lm 1 v.toInt64) pm1 R1
    refine ⟨res, hr, ?_⟩
    have MT := met_X8_thrown (g_xl X) hs (vp_updL lm 1 v.toInt64) pm1 m1 s8
    dsimp only [R_X8_thrown] at MT
    rw [z0] at MT
    unfold lw_lc at K ⊢
    refine tt_aload_n O 2 dL_law_428 rfl rfl ?_
    refine tt_aload_n O 1 dL_law_429 rfl rfl ?_
    refine tt_iload O 0 dL_law_430 rfl ?_
    refine tt_iconst (x := 1) O dL_law_432 rfl ?_
    refine tt_iadd O dL_law_433 ?_
    refine tt_sld O V I.2.1 dL_law_434 ?_
    refine tt_aload_n O 1 dL_law_435 rfl rfl ?_
    refine tt_iload O 0 dL_law_436 rfl ?_
    refine tt_iconst (x := 2) O dL_law_438 rfl ?_
    refine tt_iadd O dL_law_439 ?_
    refine tt_sld O V I.2.2.1 dL_law_440 ?_
    refine tt_aload_n O 4 dL_law_441 rfl rfl ?_
    refine tt_callS O Y [.ref (g_ad X 122), .int (xs (i + 1).toNatClampNeg), .int (xs (i + 2).toNatClampNeg), .ref (g_ad X 129)] [] M g_LW_setSilence rfl rfl rfl dL_law_442 (lw_fit rfl (by omega) (by omega)) rfl ?_
    refine tt_istore O dL_law_445 (hN 5 rfl) rfl ?_
    refine tt_aload_n O 4 dL_law_447 rfl rfl ?_
    refine tt_aload_n O 2 dL_law_448 rfl rfl ?_
    refine tt_iload O 1 dL_law_449 rfl ?_
    refine tt_iconst (x := 1) O dL_law_451 rfl ?_
    refine tt_iadd O dL_law_452 ?_
    refine tt_sld O V I.2.1 dL_law_453 ?_
    refine tt_aload_n O 2 dL_law_454 rfl rfl ?_
    refine tt_iload O 1 dL_law_455 rfl ?_
    refine tt_iconst (x := 2) O dL_law_457 rfl ?_
    refine tt_iadd O dL_law_458 ?_
    refine tt_sld O V I.2.2.1 dL_law_459 ?_
    refine tt_callM O [.int (xs (i + 1).toNatClampNeg), .int (xs (i + 2).toNatClampNeg)] [] (M8 (vp_updL lm 1 v.toInt64) pm1 m1) LL_123 obj_124 rfl rfl rfl dL_law_460 (lw_fit rfl (by show k + 2 ≤ 90004; omega) (by show n + 12 ≤ 90024; omega)) rfl ?_
    refine tt_istore O dL_law_463 (hN 6 rfl) rfl ?_
    refine tt_aload_n O 5 dL_law_465 rfl rfl ?_
    refine tt_callM O [] [] MT LL_107 obj_124 rfl rfl rfl dL_law_466 (lw_fit rfl (by show k + 2 + 0 ≤ 90004; omega) (by show n + 12 + 0 ≤ 90024; omega)) rfl ?_
    refine tt_iload O 1 dL_law_469 rfl ?_
    refine tt_icmp_eq O 476 dL_law_471 (by decide) rfl ?_
    refine tt_iload O 1 dL_law_476 rfl ?_
    refine tt_if_ne O 493 dL_law_478 (by decide) (fun c => absurd rfl c) (fun _ => ?_)
    refine tt_aload_n O 6 dL_law_481 rfl rfl ?_
    refine tt_iconst (x := 0) O dL_law_482 rfl ?_
    refine tt_lald O R1.p4 dL_law_483 ?_
    refine tt_iload O 0 dL_law_484 rfl ?_
    refine tt_i2l O dL_law_486 ?_
    refine tt_lcmp O dL_law_487 ?_
    refine tt_if_eq O 493 dL_law_488 (by decide) (fun _ => ?_) (fun c => absurd (by rw [pk_uLs]; exact lg_cmp_self _) c)
    refine tt_goto O 1863 dL_law_493 (by decide) ?_
    refine r_sub [2, 3, 4, 5, 6] rfl ?_
    exact r_widen (by show k + 2 + 0 + 0 ≤ k + 4; omega) (by show n + 12 + 0 + 0 ≤ n + 24; omega) K
  · have hv : o = .inr E := hv
    have z0 : s8 1302 = _ := h0
    subst hv
    have hne : ¬ g_k ["java/lang/IllegalArgumentException"] E 1 = 0 := by
      simp only [List.mem_cons, List.not_mem_nil, or_false] at hE
      rcases hE with rfl <;> decide +kernel
    dsimp only [g_w] at M
    obtain ⟨res, hr, K⟩ := kk m1 s8 lm pm1 R1
    refine ⟨res, hr, ?_⟩
    have MT := met_X8_thrown (g_xl X) hs lm pm1 m1 s8
    dsimp only [R_X8_thrown] at MT
    rw [z0] at MT
    unfold lw_lc at K ⊢
    refine tt_aload_n O 2 dL_law_428 rfl rfl ?_
    refine tt_aload_n O 1 dL_law_429 rfl rfl ?_
    refine tt_iload O 0 dL_law_430 rfl ?_
    refine tt_iconst (x := 1) O dL_law_432 rfl ?_
    refine tt_iadd O dL_law_433 ?_
    refine tt_sld O V I.2.1 dL_law_434 ?_
    refine tt_aload_n O 1 dL_law_435 rfl rfl ?_
    refine tt_iload O 0 dL_law_436 rfl ?_
    refine tt_iconst (x := 2) O dL_law_438 rfl ?_
    refine tt_iadd O dL_law_439 ?_
    refine tt_sld O V I.2.2.1 dL_law_440 ?_
    refine tt_aload_n O 4 dL_law_441 rfl rfl ?_
    refine tt_callS O Y [.ref (g_ad X 122), .int (xs (i + 1).toNatClampNeg), .int (xs (i + 2).toNatClampNeg), .ref (g_ad X 129)] [] M g_LW_setSilence rfl rfl rfl dL_law_442 (lw_fit rfl (by omega) (by omega)) rfl ?_
    refine tt_istore O dL_law_445 (hN 5 rfl) rfl ?_
    refine tt_aload_n O 4 dL_law_447 rfl rfl ?_
    refine tt_aload_n O 2 dL_law_448 rfl rfl ?_
    refine tt_iload O 1 dL_law_449 rfl ?_
    refine tt_iconst (x := 1) O dL_law_451 rfl ?_
    refine tt_iadd O dL_law_452 ?_
    refine tt_sld O V I.2.1 dL_law_453 ?_
    refine tt_aload_n O 2 dL_law_454 rfl rfl ?_
    refine tt_iload O 1 dL_law_455 rfl ?_
    refine tt_iconst (x := 2) O dL_law_457 rfl ?_
    refine tt_iadd O dL_law_458 ?_
    refine tt_sld O V I.2.2.1 dL_law_459 ?_
    refine tt_callM O [.int (xs (i + 1).toNatClampNeg), .int (xs (i + 2).toNatClampNeg)] [] (M8 lm pm1 m1) LL_123 obj_124 rfl rfl rfl dL_law_460 (lw_fit rfl (by show k + 2 ≤ 90004; omega) (by show n + 12 ≤ 90024; omega)) rfl ?_
    refine tt_istore O dL_law_463 (hN 6 rfl) rfl ?_
    refine tt_aload_n O 5 dL_law_465 rfl rfl ?_
    refine tt_callM O [] [] MT LL_107 obj_124 rfl rfl rfl dL_law_466 (lw_fit rfl (by show k + 2 + 0 ≤ 90004; omega) (by show n + 12 + 0 ≤ 90024; omega)) rfl ?_
    refine tt_iload O 1 dL_law_469 rfl ?_
    refine tt_icmp_eq O 476 dL_law_471 (by decide) rfl ?_
    refine tt_iload O 1 dL_law_476 rfl ?_
    refine tt_if_ne O 493 dL_law_478 (by decide) (fun _ => ?_) (fun c => absurd c hne)
    refine tt_goto O 1863 dL_law_493 (by decide) ?_
    refine r_sub [2, 3, 4, 5, 6] rfl ?_
    exact r_widen (by show k + 2 + 0 + 0 ≤ k + 4; omega) (by show n + 12 + 0 + 0 ≤ n + 24; omega) K
theorem g_LW_go : g_LW 124 yL_go cL_go 5 4 [(0, 10, 13, 19), (0, 10, 17, 21)] := ⟨gW_in (i := 875) (by decide +kernel) rfl, gW_in (i := 72) (by decide +kernel) rfl, gW_in (i := 877) (by decide +kernel) rfl, by decide +kernel, gW_in (i := 876) (by decide +kernel) rfl⟩
set_option maxRecDepth 100000 in
set_option maxHeartbeats 4000000 in
theorem lc_go (Z : lw_O X) (V : lw_V X b L xs) (I : lw_I L i) (R : g_Rel m s pm) (hk : k ≤ 90000) (hnn : n ≤ 90000) (kk : lw_K X (k + 4) (n + 24) (lw_lc X b i)) : lw_E X k n m (s, lm, pm) 496 (lw_lc X b i) := by
  obtain ⟨O, Y, hs, hn⟩ := Z
  have hN : ∀ j, Nat.blt j 9 = true → j < g_xn X := fun j h => by rw [hn]; exact g_blt.mp h
  obtain ⟨p1, p2⟩ := lw_pasts R
  have M := met_L_go (g_xl X) hs m s lm pm (xs (i + 1).toNatClampNeg) (xs (i + 2).toNatClampNeg) R.I R.p4
  have M8 := fun (lm : Nat → Int64) (pm : Nat → Nat) (m : Nat → Int32) => met_X8_go (g_xl X) hs lm pm m s (xs (i + 1).toNatClampNeg) (xs (i + 2).toNatClampNeg) R.J p1 p2
  have RF := Ref_go R (xs (i + 1).toNatClampNeg) (xs (i + 2).toNatClampNeg)
  generalize R_X7_go m pm (xs (i + 1).toNatClampNeg) (xs (i + 2).toNatClampNeg) = r7 at M RF
  generalize R_X8_go s (xs (i + 1).toNatClampNeg) (xs (i + 2).toNatClampNeg) = r8 at M8 RF
  obtain ⟨o, m1, pm1⟩ := r7
  obtain ⟨v8, s8⟩ := r8
  obtain ⟨R1, RF⟩ := RF
  have R1 : g_Rel m1 s8 pm1 := R1
  dsimp only at M8
  rcases RF with ⟨v, hv, h0, he⟩ | ⟨E, hE, hv, h0⟩
  · have hv : o = .inl (some (.int v)) := hv
    have z0 : s8 1302 = 0 := h0
    have he : v = v8 := he
    subst hv; subst he
    dsimp only [g_w] at M
    obtain ⟨res, hr, K⟩ := kk m1 s8 (vp_updL lm 1 v.toInt64) pm1 R1
    refine ⟨res, hr, ?_⟩
    have MT := met_X8_thrown (g_xl X) hs (vp_updL lm 1 v.toInt64) pm1 m1 s8
    dsimp only [R_X8_thrown] at MT
    rw [z0] at MT
    unfold lw_lc at K ⊢
    refine tt_aload_n O 2 dL_law_496 rfl rfl ?_
    refine tt_aload_n O 1 dL_law_497 rfl rfl ?_
    refine tt_iload O 0 dL_law_498 rfl ?_
    refine tt_iconst (x := 1) O dL_law_500 rfl ?_
    refine tt_iadd O dL_law_501 ?_
    refine tt_sld O V I.2.1 dL_law_502 ?_
    refine tt_aload_n O 1 dL_law_503 rfl rfl ?_
    refine tt_iload O 0 dL_law_504 rfl ?_
    refine tt_iconst (x := 2) O dL_law_506 rfl ?_
    refine tt_iadd O dL_law_507 ?_
    refine tt_sld O V I.2.2.1 dL_law_508 ?_
    refine tt_aload_n O 4 dL_law_509 rfl rfl ?_
    refine tt_callS O Y [.ref (g_ad X 122), .int (xs (i + 1).toNatClampNeg), .int (xs (i + 2).toNatClampNeg), .ref (g_ad X 129)] [] M g_LW_go rfl rfl rfl dL_law_510 (lw_fit rfl (by omega) (by omega)) rfl ?_
    refine tt_istore O dL_law_513 (hN 5 rfl) rfl ?_
    refine tt_aload_n O 4 dL_law_515 rfl rfl ?_
    refine tt_aload_n O 2 dL_law_516 rfl rfl ?_
    refine tt_iload O 1 dL_law_517 rfl ?_
    refine tt_iconst (x := 1) O dL_law_519 rfl ?_
    refine tt_iadd O dL_law_520 ?_
    refine tt_sld O V I.2.1 dL_law_521 ?_
    refine tt_aload_n O 2 dL_law_522 rfl rfl ?_
    refine tt_iload O 1 dL_law_523 rfl ?_
    refine tt_iconst (x := 2) O dL_law_525 rfl ?_
    refine tt_iadd O dL_law_526 ?_
    refine tt_sld O V I.2.2.1 dL_law_527 ?_
    refine tt_callM O [.int (xs (i + 1).toNatClampNeg), .int (xs (i + 2).toNatClampNeg)] [] (M8 (vp_updL lm 1 v.toInt64) pm1 m1) LL_126 obj_124 rfl rfl rfl dL_law_528 (lw_fit rfl (by show k + 2 ≤ 90004; omega) (by show n + 12 ≤ 90024; omega)) rfl ?_
    refine tt_istore O dL_law_531 (hN 6 rfl) rfl ?_
    refine tt_aload_n O 5 dL_law_533 rfl rfl ?_
    refine tt_callM O [] [] MT LL_107 obj_124 rfl rfl rfl dL_law_534 (lw_fit rfl (by show k + 2 + 0 ≤ 90004; omega) (by show n + 12 + 0 ≤ 90024; omega)) rfl ?_
    refine tt_iload O 1 dL_law_537 rfl ?_
    refine tt_icmp_eq O 544 dL_law_539 (by decide) rfl ?_
    refine tt_iload O 1 dL_law_544 rfl ?_
    refine tt_if_ne O 561 dL_law_546 (by decide) (fun c => absurd rfl c) (fun _ => ?_)
    refine tt_aload_n O 6 dL_law_549 rfl rfl ?_
    refine tt_iconst (x := 0) O dL_law_550 rfl ?_
    refine tt_lald O R1.p4 dL_law_551 ?_
    refine tt_iload O 0 dL_law_552 rfl ?_
    refine tt_i2l O dL_law_554 ?_
    refine tt_lcmp O dL_law_555 ?_
    refine tt_if_eq O 561 dL_law_556 (by decide) (fun _ => ?_) (fun c => absurd (by rw [pk_uLs]; exact lg_cmp_self _) c)
    refine tt_goto O 1863 dL_law_561 (by decide) ?_
    refine r_sub [2, 3, 4, 5, 6] rfl ?_
    exact r_widen (by show k + 2 + 0 + 0 ≤ k + 4; omega) (by show n + 12 + 0 + 0 ≤ n + 24; omega) K
  · have hv : o = .inr E := hv
    have z0 : s8 1302 = _ := h0
    subst hv
    have hne : ¬ g_k ["java/lang/IndexOutOfBoundsException", "java/lang/IllegalStateException"] E 1 = 0 := by
      simp only [List.mem_cons, List.not_mem_nil, or_false] at hE
      rcases hE with rfl | rfl <;> decide +kernel
    dsimp only [g_w] at M
    obtain ⟨res, hr, K⟩ := kk m1 s8 lm pm1 R1
    refine ⟨res, hr, ?_⟩
    have MT := met_X8_thrown (g_xl X) hs lm pm1 m1 s8
    dsimp only [R_X8_thrown] at MT
    rw [z0] at MT
    unfold lw_lc at K ⊢
    refine tt_aload_n O 2 dL_law_496 rfl rfl ?_
    refine tt_aload_n O 1 dL_law_497 rfl rfl ?_
    refine tt_iload O 0 dL_law_498 rfl ?_
    refine tt_iconst (x := 1) O dL_law_500 rfl ?_
    refine tt_iadd O dL_law_501 ?_
    refine tt_sld O V I.2.1 dL_law_502 ?_
    refine tt_aload_n O 1 dL_law_503 rfl rfl ?_
    refine tt_iload O 0 dL_law_504 rfl ?_
    refine tt_iconst (x := 2) O dL_law_506 rfl ?_
    refine tt_iadd O dL_law_507 ?_
    refine tt_sld O V I.2.2.1 dL_law_508 ?_
    refine tt_aload_n O 4 dL_law_509 rfl rfl ?_
    refine tt_callS O Y [.ref (g_ad X 122), .int (xs (i + 1).toNatClampNeg), .int (xs (i + 2).toNatClampNeg), .ref (g_ad X 129)] [] M g_LW_go rfl rfl rfl dL_law_510 (lw_fit rfl (by omega) (by omega)) rfl ?_
    refine tt_istore O dL_law_513 (hN 5 rfl) rfl ?_
    refine tt_aload_n O 4 dL_law_515 rfl rfl ?_
    refine tt_aload_n O 2 dL_law_516 rfl rfl ?_
    refine tt_iload O 1 dL_law_517 rfl ?_
    refine tt_iconst (x := 1) O dL_law_519 rfl ?_
    refine tt_iadd O dL_law_520 ?_
    refine tt_sld O V I.2.1 dL_law_521 ?_
    refine tt_aload_n O 2 dL_law_522 rfl rfl ?_
    refine tt_iload O 1 dL_law_523 rfl ?_
    refine tt_iconst (x := 2) O dL_law_525 rfl ?_
    refine tt_iadd O dL_law_526 ?_
    refine tt_sld O V I.2.2.1 dL_law_527 ?_
    refine tt_callM O [.int (xs (i + 1).toNatClampNeg), .int (xs (i + 2).toNatClampNeg)] [] (M8 lm pm1 m1) LL_126 obj_124 rfl rfl rfl dL_law_528 (lw_fit rfl (by show k + 2 ≤ 90004; omega) (by show n + 12 ≤ 90024; omega)) rfl ?_
    refine tt_istore O dL_law_531 (hN 6 rfl) rfl ?_
    refine tt_aload_n O 5 dL_law_533 rfl rfl ?_
    refine tt_callM O [] [] MT LL_107 obj_124 rfl rfl rfl dL_law_534 (lw_fit rfl (by show k + 2 + 0 ≤ 90004; omega) (by show n + 12 + 0 ≤ 90024; omega)) rfl ?_
    refine tt_iload O 1 dL_law_537 rfl ?_
    refine tt_icmp_eq O 544 dL_law_539 (by decide) rfl ?_
    refine tt_iload O 1 dL_law_544 rfl ?_
    refine tt_if_ne O 561 dL_law_546 (by decide) (fun _ => ?_) (fun c => absurd c hne)
    refine tt_goto O 1863 dL_law_561 (by decide) ?_
    refine r_sub [2, 3, 4, 5, 6] rfl ?_
    exact r_widen (by show k + 2 + 0 + 0 ≤ k + 4; omega) (by show n + 12 + 0 + 0 ≤ n + 24; omega) K
theorem g_LW_take : g_LW 127 yL_take cL_take 5 4 [(0, 10, 13, 19), (0, 10, 17, 21)] := ⟨gW_in (i := 882) (by decide +kernel) rfl, gW_in (i := 72) (by decide +kernel) rfl, gW_in (i := 884) (by decide +kernel) rfl, by decide +kernel, gW_in (i := 883) (by decide +kernel) rfl⟩
set_option maxRecDepth 100000 in
set_option maxHeartbeats 4000000 in
theorem lc_take (Z : lw_O X) (V : lw_V X b L xs) (I : lw_I L i) (R : g_Rel m s pm) (hk : k ≤ 90000) (hnn : n ≤ 90000) (kk : lw_K X (k + 4) (n + 24) (lw_lc X b i)) : lw_E X k n m (s, lm, pm) 564 (lw_lc X b i) := by
  obtain ⟨O, Y, hs, hn⟩ := Z
  have hN : ∀ j, Nat.blt j 9 = true → j < g_xn X := fun j h => by rw [hn]; exact g_blt.mp h
  obtain ⟨p1, p2⟩ := lw_pasts R
  have M := met_L_take (g_xl X) hs m s lm pm (xs (i + 1).toNatClampNeg) (xs (i + 2).toNatClampNeg) R.I R.p4
  have M8 := fun (lm : Nat → Int64) (pm : Nat → Nat) (m : Nat → Int32) => met_X8_take (g_xl X) hs lm pm m s (xs (i + 1).toNatClampNeg) (xs (i + 2).toNatClampNeg) R.J p1 p2
  have RF := Ref_take R (xs (i + 1).toNatClampNeg) (xs (i + 2).toNatClampNeg)
  generalize R_X7_take m pm (xs (i + 1).toNatClampNeg) (xs (i + 2).toNatClampNeg) = r7 at M RF
  generalize R_X8_take s (xs (i + 1).toNatClampNeg) (xs (i + 2).toNatClampNeg) = r8 at M8 RF
  obtain ⟨o, m1, pm1⟩ := r7
  obtain ⟨v8, s8⟩ := r8
  obtain ⟨R1, RF⟩ := RF
  have R1 : g_Rel m1 s8 pm1 := R1
  dsimp only at M8
  rcases RF with ⟨v, hv, h0, he⟩ | ⟨E, hE, hv, h0⟩
  · have hv : o = .inl (some (.int v)) := hv
    have z0 : s8 1302 = 0 := h0
    have he : v = v8 := he
    subst hv; subst he
    dsimp only [g_w] at M
    obtain ⟨res, hr, K⟩ := kk m1 s8 (vp_updL lm 1 v.toInt64) pm1 R1
    refine ⟨res, hr, ?_⟩
    have MT := met_X8_thrown (g_xl X) hs (vp_updL lm 1 v.toInt64) pm1 m1 s8
    dsimp only [R_X8_thrown] at MT
    rw [z0] at MT
    unfold lw_lc at K ⊢
    refine tt_aload_n O 2 dL_law_564 rfl rfl ?_
    refine tt_aload_n O 1 dL_law_565 rfl rfl ?_
    refine tt_iload O 0 dL_law_566 rfl ?_
    refine tt_iconst (x := 1) O dL_law_568 rfl ?_
    refine tt_iadd O dL_law_569 ?_
    refine tt_sld O V I.2.1 dL_law_570 ?_
    refine tt_aload_n O 1 dL_law_571 rfl rfl ?_
    refine tt_iload O 0 dL_law_572 rfl ?_
    refine tt_iconst (x := 2) O dL_law_574 rfl ?_
    refine tt_iadd O dL_law_575 ?_
    refine tt_sld O V I.2.2.1 dL_law_576 ?_
    refine tt_aload_n O 4 dL_law_577 rfl rfl ?_
    refine tt_callS O Y [.ref (g_ad X 122), .int (xs (i + 1).toNatClampNeg), .int (xs (i + 2).toNatClampNeg), .ref (g_ad X 129)] [] M g_LW_take rfl rfl rfl dL_law_578 (lw_fit rfl (by omega) (by omega)) rfl ?_
    refine tt_istore O dL_law_581 (hN 5 rfl) rfl ?_
    refine tt_aload_n O 4 dL_law_583 rfl rfl ?_
    refine tt_aload_n O 2 dL_law_584 rfl rfl ?_
    refine tt_iload O 1 dL_law_585 rfl ?_
    refine tt_iconst (x := 1) O dL_law_587 rfl ?_
    refine tt_iadd O dL_law_588 ?_
    refine tt_sld O V I.2.1 dL_law_589 ?_
    refine tt_aload_n O 2 dL_law_590 rfl rfl ?_
    refine tt_iload O 1 dL_law_591 rfl ?_
    refine tt_iconst (x := 2) O dL_law_593 rfl ?_
    refine tt_iadd O dL_law_594 ?_
    refine tt_sld O V I.2.2.1 dL_law_595 ?_
    refine tt_callM O [.int (xs (i + 1).toNatClampNeg), .int (xs (i + 2).toNatClampNeg)] [] (M8 (vp_updL lm 1 v.toInt64) pm1 m1) LL_129 obj_124 rfl rfl rfl dL_law_596 (lw_fit rfl (by show k + 3 ≤ 90004; omega) (by show n + 18 ≤ 90024; omega)) rfl ?_
    refine tt_istore O dL_law_599 (hN 6 rfl) rfl ?_
    refine tt_aload_n O 5 dL_law_601 rfl rfl ?_
    refine tt_callM O [] [] MT LL_107 obj_124 rfl rfl rfl dL_law_602 (lw_fit rfl (by show k + 3 + 0 ≤ 90004; omega) (by show n + 18 + 0 ≤ 90024; omega)) rfl ?_
    refine tt_iload O 1 dL_law_605 rfl ?_
    refine tt_icmp_eq O 612 dL_law_607 (by decide) rfl ?_
    refine tt_iload O 1 dL_law_612 rfl ?_
    refine tt_if_ne O 629 dL_law_614 (by decide) (fun c => absurd rfl c) (fun _ => ?_)
    refine tt_aload_n O 6 dL_law_617 rfl rfl ?_
    refine tt_iconst (x := 0) O dL_law_618 rfl ?_
    refine tt_lald O R1.p4 dL_law_619 ?_
    refine tt_iload O 0 dL_law_620 rfl ?_
    refine tt_i2l O dL_law_622 ?_
    refine tt_lcmp O dL_law_623 ?_
    refine tt_if_eq O 629 dL_law_624 (by decide) (fun _ => ?_) (fun c => absurd (by rw [pk_uLs]; exact lg_cmp_self _) c)
    refine tt_goto O 1863 dL_law_629 (by decide) ?_
    refine r_sub [2, 3, 4, 5, 6] rfl ?_
    exact r_widen (by show k + 3 + 0 + 0 ≤ k + 4; omega) (by show n + 18 + 0 + 0 ≤ n + 24; omega) K
  · have hv : o = .inr E := hv
    have z0 : s8 1302 = _ := h0
    subst hv
    have hne : ¬ g_k ["java/lang/IndexOutOfBoundsException", "java/lang/IllegalStateException"] E 1 = 0 := by
      simp only [List.mem_cons, List.not_mem_nil, or_false] at hE
      rcases hE with rfl | rfl <;> decide +kernel
    dsimp only [g_w] at M
    obtain ⟨res, hr, K⟩ := kk m1 s8 lm pm1 R1
    refine ⟨res, hr, ?_⟩
    have MT := met_X8_thrown (g_xl X) hs lm pm1 m1 s8
    dsimp only [R_X8_thrown] at MT
    rw [z0] at MT
    unfold lw_lc at K ⊢
    refine tt_aload_n O 2 dL_law_564 rfl rfl ?_
    refine tt_aload_n O 1 dL_law_565 rfl rfl ?_
    refine tt_iload O 0 dL_law_566 rfl ?_
    refine tt_iconst (x := 1) O dL_law_568 rfl ?_
    refine tt_iadd O dL_law_569 ?_
    refine tt_sld O V I.2.1 dL_law_570 ?_
    refine tt_aload_n O 1 dL_law_571 rfl rfl ?_
    refine tt_iload O 0 dL_law_572 rfl ?_
    refine tt_iconst (x := 2) O dL_law_574 rfl ?_
    refine tt_iadd O dL_law_575 ?_
    refine tt_sld O V I.2.2.1 dL_law_576 ?_
    refine tt_aload_n O 4 dL_law_577 rfl rfl ?_
    refine tt_callS O Y [.ref (g_ad X 122), .int (xs (i + 1).toNatClampNeg), .int (xs (i + 2).toNatClampNeg), .ref (g_ad X 129)] [] M g_LW_take rfl rfl rfl dL_law_578 (lw_fit rfl (by omega) (by omega)) rfl ?_
    refine tt_istore O dL_law_581 (hN 5 rfl) rfl ?_
    refine tt_aload_n O 4 dL_law_583 rfl rfl ?_
    refine tt_aload_n O 2 dL_law_584 rfl rfl ?_
    refine tt_iload O 1 dL_law_585 rfl ?_
    refine tt_iconst (x := 1) O dL_law_587 rfl ?_
    refine tt_iadd O dL_law_588 ?_
    refine tt_sld O V I.2.1 dL_law_589 ?_
    refine tt_aload_n O 2 dL_law_590 rfl rfl ?_
    refine tt_iload O 1 dL_law_591 rfl ?_
    refine tt_iconst (x := 2) O dL_law_593 rfl ?_
    refine tt_iadd O dL_law_594 ?_
    refine tt_sld O V I.2.2.1 dL_law_595 ?_
    refine tt_callM O [.int (xs (i + 1).toNatClampNeg), .int (xs (i + 2).toNatClampNeg)] [] (M8 lm pm1 m1) LL_129 obj_124 rfl rfl rfl dL_law_596 (lw_fit rfl (by show k + 3 ≤ 90004; omega) (by show n + 18 ≤ 90024; omega)) rfl ?_
    refine tt_istore O dL_law_599 (hN 6 rfl) rfl ?_
    refine tt_aload_n O 5 dL_law_601 rfl rfl ?_
    refine tt_callM O [] [] MT LL_107 obj_124 rfl rfl rfl dL_law_602 (lw_fit rfl (by show k + 3 + 0 ≤ 90004; omega) (by show n + 18 + 0 ≤ 90024; omega)) rfl ?_
    refine tt_iload O 1 dL_law_605 rfl ?_
    refine tt_icmp_eq O 612 dL_law_607 (by decide) rfl ?_
    refine tt_iload O 1 dL_law_612 rfl ?_
    refine tt_if_ne O 629 dL_law_614 (by decide) (fun _ => ?_) (fun c => absurd c hne)
    refine tt_goto O 1863 dL_law_629 (by decide) ?_
    refine r_sub [2, 3, 4, 5, 6] rfl ?_
    exact r_widen (by show k + 3 + 0 + 0 ≤ k + 4; omega) (by show n + 18 + 0 + 0 ≤ n + 24; omega) K
theorem g_LW_lay : g_LW 130 yL_lay cL_lay 4 3 [(0, 9, 12, 19), (0, 9, 15, 21)] := ⟨gW_in (i := 893) (by decide +kernel) rfl, gW_in (i := 72) (by decide +kernel) rfl, gW_in (i := 895) (by decide +kernel) rfl, by decide +kernel, gW_in (i := 894) (by decide +kernel) rfl⟩
set_option maxRecDepth 100000 in
set_option maxHeartbeats 4000000 in
theorem lc_lay (Z : lw_O X) (V : lw_V X b L xs) (I : lw_I L i) (R : g_Rel m s pm) (hk : k ≤ 90000) (hnn : n ≤ 90000) (kk : lw_K X (k + 4) (n + 24) (lw_lc X b i)) : lw_E X k n m (s, lm, pm) 632 (lw_lc X b i) := by
  obtain ⟨O, Y, hs, hn⟩ := Z
  have hN : ∀ j, Nat.blt j 9 = true → j < g_xn X := fun j h => by rw [hn]; exact g_blt.mp h
  obtain ⟨p1, p2⟩ := lw_pasts R
  have M := met_L_lay (g_xl X) hs m s lm pm (xs (i + 1).toNatClampNeg) R.I R.p4
  have M8 := fun (lm : Nat → Int64) (pm : Nat → Nat) (m : Nat → Int32) => met_X8_lay (g_xl X) hs lm pm m s (xs (i + 1).toNatClampNeg) R.J p1 p2
  have RF := Ref_lay R (xs (i + 1).toNatClampNeg)
  generalize R_X7_lay m pm (xs (i + 1).toNatClampNeg) = r7 at M RF
  generalize R_X8_lay s (xs (i + 1).toNatClampNeg) = r8 at M8 RF
  obtain ⟨o, m1, pm1⟩ := r7
  obtain ⟨v8, s8⟩ := r8
  obtain ⟨R1, RF⟩ := RF
  have R1 : g_Rel m1 s8 pm1 := R1
  dsimp only at M8
  rcases RF with ⟨v, hv, h0, he⟩ | ⟨E, hE, hv, h0⟩
  · have hv : o = .inl (some (.int v)) := hv
    have z0 : s8 1302 = 0 := h0
    have he : v = v8 := he
    subst hv; subst he
    dsimp only [g_w] at M
    obtain ⟨res, hr, K⟩ := kk m1 s8 (vp_updL lm 1 v.toInt64) pm1 R1
    refine ⟨res, hr, ?_⟩
    have MT := met_X8_thrown (g_xl X) hs (vp_updL lm 1 v.toInt64) pm1 m1 s8
    dsimp only [R_X8_thrown] at MT
    rw [z0] at MT
    unfold lw_lc at K ⊢
    refine tt_aload_n O 2 dL_law_632 rfl rfl ?_
    refine tt_aload_n O 1 dL_law_633 rfl rfl ?_
    refine tt_iload O 0 dL_law_634 rfl ?_
    refine tt_iconst (x := 1) O dL_law_636 rfl ?_
    refine tt_iadd O dL_law_637 ?_
    refine tt_sld O V I.2.1 dL_law_638 ?_
    refine tt_aload_n O 4 dL_law_639 rfl rfl ?_
    refine tt_callS O Y [.ref (g_ad X 122), .int (xs (i + 1).toNatClampNeg), .ref (g_ad X 129)] [] M g_LW_lay rfl rfl rfl dL_law_640 (lw_fit rfl (by omega) (by omega)) rfl ?_
    refine tt_istore O dL_law_643 (hN 5 rfl) rfl ?_
    refine tt_aload_n O 4 dL_law_645 rfl rfl ?_
    refine tt_aload_n O 2 dL_law_646 rfl rfl ?_
    refine tt_iload O 1 dL_law_647 rfl ?_
    refine tt_iconst (x := 1) O dL_law_649 rfl ?_
    refine tt_iadd O dL_law_650 ?_
    refine tt_sld O V I.2.1 dL_law_651 ?_
    refine tt_callM O [.int (xs (i + 1).toNatClampNeg)] [] (M8 (vp_updL lm 1 v.toInt64) pm1 m1) LL_132 obj_124 rfl rfl rfl dL_law_652 (lw_fit rfl (by show k + 2 ≤ 90004; omega) (by show n + 12 ≤ 90024; omega)) rfl ?_
    refine tt_istore O dL_law_655 (hN 6 rfl) rfl ?_
    refine tt_aload_n O 5 dL_law_657 rfl rfl ?_
    refine tt_callM O [] [] MT LL_107 obj_124 rfl rfl rfl dL_law_658 (lw_fit rfl (by show k + 2 + 0 ≤ 90004; omega) (by show n + 12 + 0 ≤ 90024; omega)) rfl ?_
    refine tt_iload O 1 dL_law_661 rfl ?_
    refine tt_icmp_eq O 668 dL_law_663 (by decide) rfl ?_
    refine tt_iload O 1 dL_law_668 rfl ?_
    refine tt_if_ne O 685 dL_law_670 (by decide) (fun c => absurd rfl c) (fun _ => ?_)
    refine tt_aload_n O 6 dL_law_673 rfl rfl ?_
    refine tt_iconst (x := 0) O dL_law_674 rfl ?_
    refine tt_lald O R1.p4 dL_law_675 ?_
    refine tt_iload O 0 dL_law_676 rfl ?_
    refine tt_i2l O dL_law_678 ?_
    refine tt_lcmp O dL_law_679 ?_
    refine tt_if_eq O 685 dL_law_680 (by decide) (fun _ => ?_) (fun c => absurd (by rw [pk_uLs]; exact lg_cmp_self _) c)
    refine tt_goto O 1863 dL_law_685 (by decide) ?_
    refine r_sub [2, 3, 4, 5, 6] rfl ?_
    exact r_widen (by show k + 2 + 0 + 0 ≤ k + 4; omega) (by show n + 12 + 0 + 0 ≤ n + 24; omega) K
  · have hv : o = .inr E := hv
    have z0 : s8 1302 = _ := h0
    subst hv
    have hne : ¬ g_k ["java/lang/IndexOutOfBoundsException", "java/lang/IllegalStateException"] E 1 = 0 := by
      simp only [List.mem_cons, List.not_mem_nil, or_false] at hE
      rcases hE with rfl | rfl <;> decide +kernel
    dsimp only [g_w] at M
    obtain ⟨res, hr, K⟩ := kk m1 s8 lm pm1 R1
    refine ⟨res, hr, ?_⟩
    have MT := met_X8_thrown (g_xl X) hs lm pm1 m1 s8
    dsimp only [R_X8_thrown] at MT
    rw [z0] at MT
    unfold lw_lc at K ⊢
    refine tt_aload_n O 2 dL_law_632 rfl rfl ?_
    refine tt_aload_n O 1 dL_law_633 rfl rfl ?_
    refine tt_iload O 0 dL_law_634 rfl ?_
    refine tt_iconst (x := 1) O dL_law_636 rfl ?_
    refine tt_iadd O dL_law_637 ?_
    refine tt_sld O V I.2.1 dL_law_638 ?_
    refine tt_aload_n O 4 dL_law_639 rfl rfl ?_
    refine tt_callS O Y [.ref (g_ad X 122), .int (xs (i + 1).toNatClampNeg), .ref (g_ad X 129)] [] M g_LW_lay rfl rfl rfl dL_law_640 (lw_fit rfl (by omega) (by omega)) rfl ?_
    refine tt_istore O dL_law_643 (hN 5 rfl) rfl ?_
    refine tt_aload_n O 4 dL_law_645 rfl rfl ?_
    refine tt_aload_n O 2 dL_law_646 rfl rfl ?_
    refine tt_iload O 1 dL_law_647 rfl ?_
    refine tt_iconst (x := 1) O dL_law_649 rfl ?_
    refine tt_iadd O dL_law_650 ?_
    refine tt_sld O V I.2.1 dL_law_651 ?_
    refine tt_callM O [.int (xs (i + 1).toNatClampNeg)] [] (M8 lm pm1 m1) LL_132 obj_124 rfl rfl rfl dL_law_652 (lw_fit rfl (by show k + 2 ≤ 90004; omega) (by show n + 12 ≤ 90024; omega)) rfl ?_
    refine tt_istore O dL_law_655 (hN 6 rfl) rfl ?_
    refine tt_aload_n O 5 dL_law_657 rfl rfl ?_
    refine tt_callM O [] [] MT LL_107 obj_124 rfl rfl rfl dL_law_658 (lw_fit rfl (by show k + 2 + 0 ≤ 90004; omega) (by show n + 12 + 0 ≤ 90024; omega)) rfl ?_
    refine tt_iload O 1 dL_law_661 rfl ?_
    refine tt_icmp_eq O 668 dL_law_663 (by decide) rfl ?_
    refine tt_iload O 1 dL_law_668 rfl ?_
    refine tt_if_ne O 685 dL_law_670 (by decide) (fun _ => ?_) (fun c => absurd c hne)
    refine tt_goto O 1863 dL_law_685 (by decide) ?_
    refine r_sub [2, 3, 4, 5, 6] rfl ?_
    exact r_widen (by show k + 2 + 0 + 0 ≤ k + 4; omega) (by show n + 12 + 0 + 0 ≤ n + 24; omega) K
theorem g_LW_rig : g_LW 133 yL_rig cL_rig 4 3 [(0, 9, 12, 19), (0, 9, 15, 21)] := ⟨gW_in (i := 905) (by decide +kernel) rfl, gW_in (i := 72) (by decide +kernel) rfl, gW_in (i := 907) (by decide +kernel) rfl, by decide +kernel, gW_in (i := 906) (by decide +kernel) rfl⟩
set_option maxRecDepth 100000 in
set_option maxHeartbeats 4000000 in
theorem lc_rig (Z : lw_O X) (V : lw_V X b L xs) (I : lw_I L i) (R : g_Rel m s pm) (hk : k ≤ 90000) (hnn : n ≤ 90000) (kk : lw_K X (k + 4) (n + 24) (lw_lc X b i)) : lw_E X k n m (s, lm, pm) 688 (lw_lc X b i) := by
  obtain ⟨O, Y, hs, hn⟩ := Z
  have hN : ∀ j, Nat.blt j 9 = true → j < g_xn X := fun j h => by rw [hn]; exact g_blt.mp h
  obtain ⟨p1, p2⟩ := lw_pasts R
  have M := met_L_rig (g_xl X) hs m s lm pm (xs (i + 1).toNatClampNeg) R.I R.p4
  have M8 := fun (lm : Nat → Int64) (pm : Nat → Nat) (m : Nat → Int32) => met_X8_rig (g_xl X) hs lm pm m s (xs (i + 1).toNatClampNeg) R.J p1 p2
  have RF := Ref_rig R (xs (i + 1).toNatClampNeg)
  generalize R_X7_rig m pm (xs (i + 1).toNatClampNeg) = r7 at M RF
  generalize R_X8_rig s (xs (i + 1).toNatClampNeg) = r8 at M8 RF
  obtain ⟨o, m1, pm1⟩ := r7
  obtain ⟨v8, s8⟩ := r8
  obtain ⟨R1, RF⟩ := RF
  have R1 : g_Rel m1 s8 pm1 := R1
  dsimp only at M8
  rcases RF with ⟨v, hv, h0, he⟩ | ⟨E, hE, hv, h0⟩
  · have hv : o = .inl (some (.int v)) := hv
    have z0 : s8 1302 = 0 := h0
    have he : v = v8 := he
    subst hv; subst he
    dsimp only [g_w] at M
    obtain ⟨res, hr, K⟩ := kk m1 s8 (vp_updL lm 1 v.toInt64) pm1 R1
    refine ⟨res, hr, ?_⟩
    have MT := met_X8_thrown (g_xl X) hs (vp_updL lm 1 v.toInt64) pm1 m1 s8
    dsimp only [R_X8_thrown] at MT
    rw [z0] at MT
    unfold lw_lc at K ⊢
    refine tt_aload_n O 2 dL_law_688 rfl rfl ?_
    refine tt_aload_n O 1 dL_law_689 rfl rfl ?_
    refine tt_iload O 0 dL_law_690 rfl ?_
    refine tt_iconst (x := 1) O dL_law_692 rfl ?_
    refine tt_iadd O dL_law_693 ?_
    refine tt_sld O V I.2.1 dL_law_694 ?_
    refine tt_aload_n O 4 dL_law_695 rfl rfl ?_
    refine tt_callS O Y [.ref (g_ad X 122), .int (xs (i + 1).toNatClampNeg), .ref (g_ad X 129)] [] M g_LW_rig rfl rfl rfl dL_law_696 (lw_fit rfl (by omega) (by omega)) rfl ?_
    refine tt_istore O dL_law_699 (hN 5 rfl) rfl ?_
    refine tt_aload_n O 4 dL_law_701 rfl rfl ?_
    refine tt_aload_n O 2 dL_law_702 rfl rfl ?_
    refine tt_iload O 1 dL_law_703 rfl ?_
    refine tt_iconst (x := 1) O dL_law_705 rfl ?_
    refine tt_iadd O dL_law_706 ?_
    refine tt_sld O V I.2.1 dL_law_707 ?_
    refine tt_callM O [.int (xs (i + 1).toNatClampNeg)] [] (M8 (vp_updL lm 1 v.toInt64) pm1 m1) LL_135 obj_124 rfl rfl rfl dL_law_708 (lw_fit rfl (by show k + 2 ≤ 90004; omega) (by show n + 12 ≤ 90024; omega)) rfl ?_
    refine tt_istore O dL_law_711 (hN 6 rfl) rfl ?_
    refine tt_aload_n O 5 dL_law_713 rfl rfl ?_
    refine tt_callM O [] [] MT LL_107 obj_124 rfl rfl rfl dL_law_714 (lw_fit rfl (by show k + 2 + 0 ≤ 90004; omega) (by show n + 12 + 0 ≤ 90024; omega)) rfl ?_
    refine tt_iload O 1 dL_law_717 rfl ?_
    refine tt_icmp_eq O 724 dL_law_719 (by decide) rfl ?_
    refine tt_iload O 1 dL_law_724 rfl ?_
    refine tt_if_ne O 741 dL_law_726 (by decide) (fun c => absurd rfl c) (fun _ => ?_)
    refine tt_aload_n O 6 dL_law_729 rfl rfl ?_
    refine tt_iconst (x := 0) O dL_law_730 rfl ?_
    refine tt_lald O R1.p4 dL_law_731 ?_
    refine tt_iload O 0 dL_law_732 rfl ?_
    refine tt_i2l O dL_law_734 ?_
    refine tt_lcmp O dL_law_735 ?_
    refine tt_if_eq O 741 dL_law_736 (by decide) (fun _ => ?_) (fun c => absurd (by rw [pk_uLs]; exact lg_cmp_self _) c)
    refine tt_goto O 1863 dL_law_741 (by decide) ?_
    refine r_sub [2, 3, 4, 5, 6] rfl ?_
    exact r_widen (by show k + 2 + 0 + 0 ≤ k + 4; omega) (by show n + 12 + 0 + 0 ≤ n + 24; omega) K
  · have hv : o = .inr E := hv
    have z0 : s8 1302 = _ := h0
    subst hv
    have hne : ¬ g_k ["java/lang/IndexOutOfBoundsException", "java/lang/IllegalStateException"] E 1 = 0 := by
      simp only [List.mem_cons, List.not_mem_nil, or_false] at hE
      rcases hE with rfl | rfl <;> decide +kernel
    dsimp only [g_w] at M
    obtain ⟨res, hr, K⟩ := kk m1 s8 lm pm1 R1
    refine ⟨res, hr, ?_⟩
    have MT := met_X8_thrown (g_xl X) hs lm pm1 m1 s8
    dsimp only [R_X8_thrown] at MT
    rw [z0] at MT
    unfold lw_lc at K ⊢
    refine tt_aload_n O 2 dL_law_688 rfl rfl ?_
    refine tt_aload_n O 1 dL_law_689 rfl rfl ?_
    refine tt_iload O 0 dL_law_690 rfl ?_
    refine tt_iconst (x := 1) O dL_law_692 rfl ?_
    refine tt_iadd O dL_law_693 ?_
    refine tt_sld O V I.2.1 dL_law_694 ?_
    refine tt_aload_n O 4 dL_law_695 rfl rfl ?_
    refine tt_callS O Y [.ref (g_ad X 122), .int (xs (i + 1).toNatClampNeg), .ref (g_ad X 129)] [] M g_LW_rig rfl rfl rfl dL_law_696 (lw_fit rfl (by omega) (by omega)) rfl ?_
    refine tt_istore O dL_law_699 (hN 5 rfl) rfl ?_
    refine tt_aload_n O 4 dL_law_701 rfl rfl ?_
    refine tt_aload_n O 2 dL_law_702 rfl rfl ?_
    refine tt_iload O 1 dL_law_703 rfl ?_
    refine tt_iconst (x := 1) O dL_law_705 rfl ?_
    refine tt_iadd O dL_law_706 ?_
    refine tt_sld O V I.2.1 dL_law_707 ?_
    refine tt_callM O [.int (xs (i + 1).toNatClampNeg)] [] (M8 lm pm1 m1) LL_135 obj_124 rfl rfl rfl dL_law_708 (lw_fit rfl (by show k + 2 ≤ 90004; omega) (by show n + 12 ≤ 90024; omega)) rfl ?_
    refine tt_istore O dL_law_711 (hN 6 rfl) rfl ?_
    refine tt_aload_n O 5 dL_law_713 rfl rfl ?_
    refine tt_callM O [] [] MT LL_107 obj_124 rfl rfl rfl dL_law_714 (lw_fit rfl (by show k + 2 + 0 ≤ 90004; omega) (by show n + 12 + 0 ≤ 90024; omega)) rfl ?_
    refine tt_iload O 1 dL_law_717 rfl ?_
    refine tt_icmp_eq O 724 dL_law_719 (by decide) rfl ?_
    refine tt_iload O 1 dL_law_724 rfl ?_
    refine tt_if_ne O 741 dL_law_726 (by decide) (fun _ => ?_) (fun c => absurd c hne)
    refine tt_goto O 1863 dL_law_741 (by decide) ?_
    refine r_sub [2, 3, 4, 5, 6] rfl ?_
    exact r_widen (by show k + 2 + 0 + 0 ≤ k + 4; omega) (by show n + 12 + 0 + 0 ≤ n + 24; omega) K
theorem g_LW_takeOff : g_LW 136 yL_takeOff cL_takeOff 4 3 [(0, 9, 12, 19), (0, 9, 15, 21)] := ⟨gW_in (i := 912) (by decide +kernel) rfl, gW_in (i := 72) (by decide +kernel) rfl, gW_in (i := 914) (by decide +kernel) rfl, by decide +kernel, gW_in (i := 913) (by decide +kernel) rfl⟩
set_option maxRecDepth 100000 in
set_option maxHeartbeats 4000000 in
theorem lc_takeOff (Z : lw_O X) (V : lw_V X b L xs) (I : lw_I L i) (R : g_Rel m s pm) (hk : k ≤ 90000) (hnn : n ≤ 90000) (kk : lw_K X (k + 4) (n + 24) (lw_lc X b i)) : lw_E X k n m (s, lm, pm) 744 (lw_lc X b i) := by
  obtain ⟨O, Y, hs, hn⟩ := Z
  have hN : ∀ j, Nat.blt j 9 = true → j < g_xn X := fun j h => by rw [hn]; exact g_blt.mp h
  obtain ⟨p1, p2⟩ := lw_pasts R
  have M := met_L_takeOff (g_xl X) hs m s lm pm (xs (i + 1).toNatClampNeg) R.I R.p4
  have M8 := fun (lm : Nat → Int64) (pm : Nat → Nat) (m : Nat → Int32) => met_X8_takeOff (g_xl X) hs lm pm m s (xs (i + 1).toNatClampNeg) R.J p1 p2
  have RF := Ref_takeOff R (xs (i + 1).toNatClampNeg)
  generalize R_X7_takeOff m pm (xs (i + 1).toNatClampNeg) = r7 at M RF
  generalize R_X8_takeOff s (xs (i + 1).toNatClampNeg) = r8 at M8 RF
  obtain ⟨o, m1, pm1⟩ := r7
  obtain ⟨v8, s8⟩ := r8
  obtain ⟨R1, RF⟩ := RF
  have R1 : g_Rel m1 s8 pm1 := R1
  dsimp only at M8
  rcases RF with ⟨v, hv, h0, he⟩ | ⟨E, hE, hv, h0⟩
  · have hv : o = .inl (some (.int v)) := hv
    have z0 : s8 1302 = 0 := h0
    have he : v = v8 := he
    subst hv; subst he
    dsimp only [g_w] at M
    obtain ⟨res, hr, K⟩ := kk m1 s8 (vp_updL lm 1 v.toInt64) pm1 R1
    refine ⟨res, hr, ?_⟩
    have MT := met_X8_thrown (g_xl X) hs (vp_updL lm 1 v.toInt64) pm1 m1 s8
    dsimp only [R_X8_thrown] at MT
    rw [z0] at MT
    unfold lw_lc at K ⊢
    refine tt_aload_n O 2 dL_law_744 rfl rfl ?_
    refine tt_aload_n O 1 dL_law_745 rfl rfl ?_
    refine tt_iload O 0 dL_law_746 rfl ?_
    refine tt_iconst (x := 1) O dL_law_748 rfl ?_
    refine tt_iadd O dL_law_749 ?_
    refine tt_sld O V I.2.1 dL_law_750 ?_
    refine tt_aload_n O 4 dL_law_751 rfl rfl ?_
    refine tt_callS O Y [.ref (g_ad X 122), .int (xs (i + 1).toNatClampNeg), .ref (g_ad X 129)] [] M g_LW_takeOff rfl rfl rfl dL_law_752 (lw_fit rfl (by omega) (by omega)) rfl ?_
    refine tt_istore O dL_law_755 (hN 5 rfl) rfl ?_
    refine tt_aload_n O 4 dL_law_757 rfl rfl ?_
    refine tt_aload_n O 2 dL_law_758 rfl rfl ?_
    refine tt_iload O 1 dL_law_759 rfl ?_
    refine tt_iconst (x := 1) O dL_law_761 rfl ?_
    refine tt_iadd O dL_law_762 ?_
    refine tt_sld O V I.2.1 dL_law_763 ?_
    refine tt_callM O [.int (xs (i + 1).toNatClampNeg)] [] (M8 (vp_updL lm 1 v.toInt64) pm1 m1) LL_138 obj_124 rfl rfl rfl dL_law_764 (lw_fit rfl (by show k + 2 ≤ 90004; omega) (by show n + 12 ≤ 90024; omega)) rfl ?_
    refine tt_istore O dL_law_767 (hN 6 rfl) rfl ?_
    refine tt_aload_n O 5 dL_law_769 rfl rfl ?_
    refine tt_callM O [] [] MT LL_107 obj_124 rfl rfl rfl dL_law_770 (lw_fit rfl (by show k + 2 + 0 ≤ 90004; omega) (by show n + 12 + 0 ≤ 90024; omega)) rfl ?_
    refine tt_iload O 1 dL_law_773 rfl ?_
    refine tt_icmp_eq O 780 dL_law_775 (by decide) rfl ?_
    refine tt_iload O 1 dL_law_780 rfl ?_
    refine tt_if_ne O 797 dL_law_782 (by decide) (fun c => absurd rfl c) (fun _ => ?_)
    refine tt_aload_n O 6 dL_law_785 rfl rfl ?_
    refine tt_iconst (x := 0) O dL_law_786 rfl ?_
    refine tt_lald O R1.p4 dL_law_787 ?_
    refine tt_iload O 0 dL_law_788 rfl ?_
    refine tt_i2l O dL_law_790 ?_
    refine tt_lcmp O dL_law_791 ?_
    refine tt_if_eq O 797 dL_law_792 (by decide) (fun _ => ?_) (fun c => absurd (by rw [pk_uLs]; exact lg_cmp_self _) c)
    refine tt_goto O 1863 dL_law_797 (by decide) ?_
    refine r_sub [2, 3, 4, 5, 6] rfl ?_
    exact r_widen (by show k + 2 + 0 + 0 ≤ k + 4; omega) (by show n + 12 + 0 + 0 ≤ n + 24; omega) K
  · have hv : o = .inr E := hv
    have z0 : s8 1302 = _ := h0
    subst hv
    have hne : ¬ g_k ["java/lang/IndexOutOfBoundsException", "java/lang/IllegalStateException"] E 1 = 0 := by
      simp only [List.mem_cons, List.not_mem_nil, or_false] at hE
      rcases hE with rfl | rfl <;> decide +kernel
    dsimp only [g_w] at M
    obtain ⟨res, hr, K⟩ := kk m1 s8 lm pm1 R1
    refine ⟨res, hr, ?_⟩
    have MT := met_X8_thrown (g_xl X) hs lm pm1 m1 s8
    dsimp only [R_X8_thrown] at MT
    rw [z0] at MT
    unfold lw_lc at K ⊢
    refine tt_aload_n O 2 dL_law_744 rfl rfl ?_
    refine tt_aload_n O 1 dL_law_745 rfl rfl ?_
    refine tt_iload O 0 dL_law_746 rfl ?_
    refine tt_iconst (x := 1) O dL_law_748 rfl ?_
    refine tt_iadd O dL_law_749 ?_
    refine tt_sld O V I.2.1 dL_law_750 ?_
    refine tt_aload_n O 4 dL_law_751 rfl rfl ?_
    refine tt_callS O Y [.ref (g_ad X 122), .int (xs (i + 1).toNatClampNeg), .ref (g_ad X 129)] [] M g_LW_takeOff rfl rfl rfl dL_law_752 (lw_fit rfl (by omega) (by omega)) rfl ?_
    refine tt_istore O dL_law_755 (hN 5 rfl) rfl ?_
    refine tt_aload_n O 4 dL_law_757 rfl rfl ?_
    refine tt_aload_n O 2 dL_law_758 rfl rfl ?_
    refine tt_iload O 1 dL_law_759 rfl ?_
    refine tt_iconst (x := 1) O dL_law_761 rfl ?_
    refine tt_iadd O dL_law_762 ?_
    refine tt_sld O V I.2.1 dL_law_763 ?_
    refine tt_callM O [.int (xs (i + 1).toNatClampNeg)] [] (M8 lm pm1 m1) LL_138 obj_124 rfl rfl rfl dL_law_764 (lw_fit rfl (by show k + 2 ≤ 90004; omega) (by show n + 12 ≤ 90024; omega)) rfl ?_
    refine tt_istore O dL_law_767 (hN 6 rfl) rfl ?_
    refine tt_aload_n O 5 dL_law_769 rfl rfl ?_
    refine tt_callM O [] [] MT LL_107 obj_124 rfl rfl rfl dL_law_770 (lw_fit rfl (by show k + 2 + 0 ≤ 90004; omega) (by show n + 12 + 0 ≤ 90024; omega)) rfl ?_
    refine tt_iload O 1 dL_law_773 rfl ?_
    refine tt_icmp_eq O 780 dL_law_775 (by decide) rfl ?_
    refine tt_iload O 1 dL_law_780 rfl ?_
    refine tt_if_ne O 797 dL_law_782 (by decide) (fun _ => ?_) (fun c => absurd c hne)
    refine tt_goto O 1863 dL_law_797 (by decide) ?_
    refine r_sub [2, 3, 4, 5, 6] rfl ?_
    exact r_widen (by show k + 2 + 0 + 0 ≤ k + 4; omega) (by show n + 12 + 0 + 0 ≤ n + 24; omega) K
end LC0
