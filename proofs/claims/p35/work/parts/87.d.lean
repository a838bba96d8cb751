/-! ===== the law's body ===== -/
/-- from here the law answers true -/
def lw_E (X : g_X) (k n : Nat) (m s : Nat → Int32) (lm : Nat → Int64) (pm : Nat → Nat) (pc : Nat) (lc : List (Nat × Value)) : Prop := ∃ res : g_Res, res.1 = .inl (some (.int 1)) ∧ g_V X (fun r : g_Res => r) res k n m (s, lm, pm) pc lc []
abbrev lw_b (X : g_X) (b : Nat) : List (Nat × Value) := [(0, .ref b), (1, .ref (g_ad X 122)), (2, .ref (g_ad X 124)), (3, .ref (g_ad X 125)), (4, .ref (g_ad X 126)), (5, .ref (g_ad X 127)), (6, .ref (g_ad X 128)), (7, .ref (g_ad X 129)), (8, .ref (g_ad X 130)), (9, .ref (g_ad X 131))]
/-- the law stands -/
def lw_O (X : g_X) : Prop := g_ok X cL_law RL (some .boolean) room_1 ∧ g_Y (g_xs X) ∧ (g_xl X).stackTraces = false ∧ g_xn X = 13
theorem lw_N {X : g_X} (hn : g_xn X = 13) : ∀ i, Nat.blt i 13 = true → i < g_xn X := fun i h => by rw [hn]; exact g_blt.mp h
theorem lw_fit {Rm : Room} {nL k n : Nat} (h : (Nat.ble (Rm.frames + 1) 13 && Nat.ble (8 + (nL + 11) + Rm.locals) 514) = true) (hk : k + Rm.cells ≤ 734805) (hn : n + Rm.slots ≤ 6897053) : g_fit room_1 Rm nL k n = true := g_fit_n h hk hn
section LWB
variable {X : g_X} {m s : Nat → Int32} {lm : Nat → Int64} {pm : Nat → Nat} {k n b L : Nat} {xs : Nat → Int32}
/-- one deed of the law -/
theorem lw_act (Z : lw_O X) (A : lA m s pm) (h9 : (s 3).toInt ≤ 90000) (z : Int32) : ∃ (m' s' : Nat → Int32) (pm' : Nat → Nat), lA m' s' pm' ∧ (s' 3).toInt ≤ (s 3).toInt + 40 ∧ ∀ (res : g_Res) (k n pc : Nat) (lc : List (Nat × Value)), decode cL_law pc = .ok (.invokestatic 188, 3) → k + 8 ≤ 734805 → n + 48 ≤ 6897053 → g_V X (fun r : g_Res => r) res (k + 8) (n + 48) m' (s', lm, pm') (pc + 3) lc [.int 1] → g_V X (fun r : g_Res => r) res k n m (s, lm, pm) pc lc [.int z, .ref (g_ad X 131), .ref (g_ad X 130), .ref (g_ad X 129), .ref (g_ad X 128), .ref (g_ad X 127), .ref (g_ad X 126), .ref (g_ad X 125), .ref (g_ad X 124), .ref (g_ad X 122)] := by
  obtain ⟨O, Y, hs, hn⟩ := Z
  have M := met_L_acts (g_xl X) hs lm m s pm z A.1 h9
  have ho := A_acts (z := z) A h9
  generalize R_L_acts m s pm z = r at M ho
  obtain ⟨h1, ⟨s2, A2, e2⟩, hT⟩ := ho
  refine ⟨r.2.1, s2, r.2.2.2, A2, by rw [e2 3 (by omega)]; exact hT, fun res k n pc lc hd hk hn9 K => ?_⟩
  refine r_ySi O Y [.ref (g_ad X 122), .ref (g_ad X 124), .ref (g_ad X 125), .ref (g_ad X 126), .ref (g_ad X 127), .ref (g_ad X 128), .ref (g_ad X 129), .ref (g_ad X 130), .ref (g_ad X 131), .int z] [] M LL_188 rfl rfl rfl hd (lw_fit rfl hk hn9) rfl ?_
  rw [h1]
  exact r_ws (fun n hn => (e2 n hn).symm) K
/-- the comparison holds -/
theorem lw_so (Z : lw_O X) (A : lA m s pm) {res : g_Res} {k n pc : Nat} {lc : List (Nat × Value)} (hd : decode cL_law pc = .ok (.invokestatic 181, 3)) (hk : k + 384 ≤ 734805) (hn9 : n + 2304 ≤ 6897053) (K : g_V X (fun r : g_Res => r) res (k + 384) (n + 2304) m (s, lm, pm) (pc + 3) lc [.int 1]) : g_V X (fun r : g_Res => r) res k n m (s, lm, pm) pc lc [.ref (g_ad X 131), .ref (g_ad X 130), .ref (g_ad X 129), .ref (g_ad X 128), .ref (g_ad X 127), .ref (g_ad X 126), .ref (g_ad X 125), .ref (g_ad X 124), .ref (g_ad X 122)] := by
  obtain ⟨O, Y, hs, hn⟩ := Z
  have hJ := A.1.J
  obtain ⟨⟨j0a, j0b⟩, ⟨j1a, j1b⟩, ⟨j2a, j2b⟩, ⟨j3a, j3b⟩, ⟨j4a, j4b⟩, j5, ⟨j6a, j6b⟩, ⟨j9a, j9b, j9c⟩, ⟨j12a, j12b⟩⟩ := hJ.1
  have M := met_L_isSo (g_xl X) hs lm m s pm A.1.I j0b j1b j2b j6b j12b (by omega) j1a j2a j6a j12a
  rw [S_isSo A.1] at M
  exact r_ySi O Y [.ref (g_ad X 122), .ref (g_ad X 124), .ref (g_ad X 125), .ref (g_ad X 126), .ref (g_ad X 127), .ref (g_ad X 128), .ref (g_ad X 129), .ref (g_ad X 130), .ref (g_ad X 131)] [] M LL_181 rfl rfl rfl hd (lw_fit rfl hk hn9) rfl K
theorem lw_ge {a c : Nat} (ha : a < 2 ^ 31) (hc : c < 2 ^ 31) (h : nI a ≤ nI c) : a ≤ c := by
  have h1 := j_le h
  rw [nI_toInt ha, nI_toInt hc] at h1
  omega
theorem lw_nge {a c : Nat} (ha : a < 2 ^ 31) (hc : c < 2 ^ 31) (h : ¬ nI a ≤ nI c) : c < a := by
  have h1 := j_nle h
  rw [nI_toInt ha, nI_toInt hc] at h1
  omega
/-- the end: the value 14 is none, and all was so -/
theorem lw_end (Z : lw_O X) (A : lA m s pm) (v11 v12 : Int32) (hk : k ≤ 700000) (hn9 : n ≤ 6000000) : lw_E X k n m s lm pm 378 ((12, .int v12) :: (11, .int v11) :: (10, .int 1) :: lw_b X b) := by
  obtain ⟨O, Y, hs, hn⟩ := Z
  refine ⟨(.inl (some (.int 1)), m, s, lm, pm), rfl, ?_⟩
  refine r_iload O 2 dL_law_378 rfl ?_
  refine b_if_eq O 398 dL_law_380 (by decide) (fun c => absurd c (by decide)) (fun _ => ?_)
  refine r_aload_n O 4 dL_law_383 rfl rfl ?_
  refine r_bipush (x := 14) O dL_law_384 rfl ?_
  have M := rd_L_valueOf (g_xl X) hs m s lm pm ((14) : Int32) A.1.I
  rw [v_value14 A.1] at M
  refine r_cW O Y [.ref (g_ad X 122), .int 14] [] M LW_162 rfl rfl rfl dL_law_386 (lw_fit rfl (by show k + 1 ≤ _; omega) (by show n + 6 ≤ _; omega)) rfl ?_
  refine r_ldc O dL_law_389 w_con_L_51 ?_
  refine b_icmp_ne O 398 dL_law_391 (by decide) (fun c => absurd rfl c) (fun _ => ?_)
  refine r_iconst (x := 1) O dL_law_394 rfl ?_
  refine r_goto O 399 dL_law_395 (by decide) ?_
  exact r_iret O dL_law_399 rfl (by show k + 1 ≤ 734805; omega) (by show n + 6 ≤ 6897053; omega) rfl

/-- the second loop: a deed, then the comparison -/
theorem lw_turns (Z : lw_O X) (V : g_Sx b L xs (g_xA X) (g_xs X)) (hL : L ≤ 260) {T : Nat} (hT : T ≤ 60) : ∀ (d u : Nat) (m s : Nat → Int32) (pm : Nat → Nat) (k n : Nat), u + d = T → lA m s pm → (s 3).toInt ≤ 480 + 40 * u → k ≤ 2000 + 392 * u → n ≤ 20000 + 2352 * u → lw_E X k n m s lm pm 295 ((12, .int (nI u)) :: (11, .int (nI T)) :: (10, .int 1) :: lw_b X b) := by
  intro d
  induction d with
  | zero =>
    intro u m s pm k n hu A h3 hk hn9
    obtain ⟨res, hr, K⟩ := lw_end (b := b) (lm := lm) (k := k) (n := n) Z A (nI T) (nI u) (by omega) (by omega)
    obtain ⟨O, Y, hs, hn⟩ := Z
    refine ⟨res, hr, ?_⟩
    refine r_iload O 0 dL_law_295 rfl ?_
    refine r_iload O 1 dL_law_297 rfl ?_
    refine b_icmp_ge O 378 dL_law_299 (by decide) (fun _ => K) (fun c => ?_)
    have := lw_nge (by omega) (by omega) c
    omega
  | succ d ih =>
    intro u m s pm k n hu A h3 hk hn9
    have hu1 : (nI u).toInt = (u : Int) := nI_toInt (by omega)
    have h13 : 0 ≤ (13 + nI u).toInt := by
      have := j_addE (x := 13) (y := nI u) rfl rfl (by have h1 : (13 : Int32).toInt = 13 := rfl; omega) (by have h1 : (13 : Int32).toInt = 13 := rfl; omega)
      have h1 : (13 : Int32).toInt = 13 := rfl
      omega
    obtain ⟨m', s', pm', A', h3', step⟩ := lw_act (lm := lm) Z A (by omega) (R_L_cell L xs (13 + nI u) ^^^ 7919 * nI u)
    obtain ⟨res, hr, K⟩ := ih (u + 1) m' s' pm' (k + 8 + 384) (n + 48 + 2304) (by omega) A' (by omega) (by omega) (by omega)
    refine ⟨res, hr, ?_⟩
    have ZZ := Z
    obtain ⟨O, Y, hs, hn⟩ := Z
    have hN := lw_N hn
    refine r_iload O 0 dL_law_295 rfl ?_
    refine r_iload O 1 dL_law_297 rfl ?_
    refine b_icmp_ge O 378 dL_law_299 (by decide) (fun c => ?_) (fun _ => ?_)
    · have := lw_ge (by omega) (by omega) c
      omega
    refine r_iload O 2 dL_law_302 rfl ?_
    refine b_if_eq O 378 dL_law_304 (by decide) (fun c => absurd c (by decide)) (fun _ => ?_)
    refine r_aload_n O 4 dL_law_307 rfl rfl ?_
    refine r_aload_n O 5 dL_law_308 rfl rfl ?_
    refine r_aload_n O 6 dL_law_309 rfl rfl ?_
    refine r_aload O 7 dL_law_310 rfl ?_
    refine r_aload O 8 dL_law_312 rfl ?_
    refine r_aload O 9 dL_law_314 rfl ?_
    refine r_aload O 10 dL_law_316 rfl ?_
    refine r_aload O 11 dL_law_318 rfl ?_
    refine r_aload O 12 dL_law_320 rfl ?_
    refine r_aload_n O 3 dL_law_322 rfl rfl ?_
    refine r_bipush (x := 13) O dL_law_323 rfl ?_
    refine r_iload O 0 dL_law_325 rfl ?_
    refine r_iadd O dL_law_327 ?_
    refine r_callK O V [.ref b, .int (13 + nI u)] [.ref (g_ad X 131), .ref (g_ad X 130), .ref (g_ad X 129), .ref (g_ad X 128), .ref (g_ad X 127), .ref (g_ad X 126), .ref (g_ad X 125), .ref (g_ad X 124), .ref (g_ad X 122)] (met_L_cell (g_xl X) xs hL m (s, lm, pm) (13 + nI u) h13) LL_185 rfl rfl rfl dL_law_328 (lw_fit rfl (by show k + 0 ≤ _; omega) (by show n + 0 ≤ _; omega)) rfl rfl ?_
    refine r_sipush (x := 7919) O dL_law_331 rfl ?_
    refine r_iload O 0 dL_law_334 rfl ?_
    refine r_imul O dL_law_336 ?_
    refine r_ixor O dL_law_337 ?_
    refine step res _ _ 338 _ dL_law_338 (by show k + 0 + 8 ≤ _; omega) (by show n + 0 + 48 ≤ _; omega) ?_
    refine b_if_eq O 369 dL_law_341 (by decide) (fun c => absurd c (by decide)) (fun _ => ?_)
    refine r_aload_n O 4 dL_law_344 rfl rfl ?_
    refine r_aload_n O 5 dL_law_345 rfl rfl ?_
    refine r_aload_n O 6 dL_law_346 rfl rfl ?_
    refine r_aload O 7 dL_law_347 rfl ?_
    refine r_aload O 8 dL_law_349 rfl ?_
    refine r_aload O 9 dL_law_351 rfl ?_
    refine r_aload O 10 dL_law_353 rfl ?_
    refine r_aload O 11 dL_law_355 rfl ?_
    refine r_aload O 12 dL_law_357 rfl ?_
    refine lw_so ZZ A' dL_law_359 (by show k + 0 + 8 + 384 ≤ _; omega) (by show n + 0 + 48 + 2304 ≤ _; omega) ?_
    refine b_if_eq O 369 dL_law_362 (by decide) (fun c => absurd c (by decide)) (fun _ => ?_)
    refine r_iconst (x := 1) O dL_law_365 rfl ?_
    refine r_goto O 370 dL_law_366 (by decide) ?_
    refine r_istore (lc' := (10, .int 1) :: (12, .int (nI u)) :: (11, .int (nI T)) :: lw_b X b) O dL_law_370 (hN 10 rfl) rfl ?_
    refine r_iinc (lc' := (12, .int (nI (u + 1))) :: (10, .int 1) :: (11, .int (nI T)) :: lw_b X b) O 1 dL_law_372 rfl (nI_1 u) (hN 12 rfl) rfl ?_
    refine r_goto O 295 dL_law_375 (by decide) ?_
    exact r_sub [0, 2, 1, 3, 4, 5, 6, 7, 8, 9, 10, 11, 12] rfl K
/-- how often the second loop goes -/
theorem lw_count {s : Nat → Int32} (c : Int32) : ∃ T : Nat, T ≤ 60 ∧ 10 + R_L_low s c 50 = nI T := by
  have h := low_b (s := s) (x := c) (y := 50) (b := 50) rfl (by decide)
  have h1 : (10 : Int32).toInt = 10 := rfl
  have h2 := j_addE (x := 10) (y := R_L_low s c 50) rfl rfl (by omega) (by omega)
  refine ⟨(10 + R_L_low s c 50).toNatClampNeg, ?_, j_nI (by omega)⟩
  have h3 := j_nat (x := 10 + R_L_low s c 50) (by omega)
  omega
/-- between the loops -/
theorem lw_mid (Z : lw_O X) (V : g_Sx b L xs (g_xA X) (g_xs X)) (hL : L ≤ 260) (A : lA m s pm) (v11 : Int32) (h3 : (s 3).toInt ≤ 480) (hk : k ≤ 2000) (hn9 : n ≤ 20000) : lw_E X k n m s lm pm 277 ((11, .int v11) :: (10, .int 1) :: lw_b X b) := by
  obtain ⟨T, hT, eT⟩ := lw_count (s := s) (R_L_cell L xs 0)
  obtain ⟨res, hr, K⟩ := lw_turns (lm := lm) Z V hL hT T 0 m s pm k n (by omega) A (by omega) (by omega) (by omega)
  refine ⟨res, hr, ?_⟩
  obtain ⟨O, Y, hs, hn⟩ := Z
  have hN := lw_N hn
  refine r_bipush (x := 10) O dL_law_277 rfl ?_
  refine r_aload_n O 2 dL_law_279 rfl rfl ?_
  refine r_iconst (x := 0) O dL_law_280 rfl ?_
  refine r_callK O V [.ref b, .int 0] [.int 10] (met_L_cell (g_xl X) xs hL m (s, lm, pm) 0 (by decide)) LL_185 rfl rfl rfl dL_law_281 (lw_fit rfl (by show k + 0 ≤ _; omega) (by show n + 0 ≤ _; omega)) rfl rfl ?_
  refine r_bipush (x := 50) O dL_law_284 rfl ?_
  refine r_callSi O [.int (R_L_cell L xs 0), .int 50] [.int 10] (met_L_low (g_xl X) hs lm pm m s (R_L_cell L xs 0) 50 (by decide)) LL_31 rfl rfl rfl dL_law_286 (lw_fit rfl (by show k + 0 + 0 ≤ _; omega) (by show n + 0 + 0 ≤ _; omega)) rfl ?_
  refine r_iadd O dL_law_289 ?_
  rw [eT]
  refine r_istore (lc' := (11, .int (nI T)) :: (10, .int 1) :: lw_b X b) O dL_law_290 (hN 11 rfl) rfl ?_
  refine r_iconst (x := 0) O dL_law_292 rfl ?_
  refine r_istore (lc' := (12, .int (nI 0)) :: (11, .int (nI T)) :: (10, .int 1) :: lw_b X b) O dL_law_293 (hN 12 rfl) rfl ?_
  exact K
/-- which deed the first loop asks for -/
def lw_c (x : Int32) : Int32 := if 2 ≤ x then (if 6 ≤ x then (if 8 ≤ x then (if 10 ≤ x then 13 else 6) else 1) else 4) else 3
/-- the first loop: deeds that begin -/
theorem lw_first (Z : lw_O X) (V : g_Sx b L xs (g_xA X) (g_xs X)) (hL : L ≤ 260) : ∀ (d t : Nat) (m s : Nat → Int32) (pm : Nat → Nat) (k n : Nat), t + d = 12 → lA m s pm → (s 3).toInt ≤ 40 * t → k ≤ 1000 + 8 * t → n ≤ 10000 + 48 * t → lw_E X k n m s lm pm 173 ((11, .int (nI t)) :: (10, .int 1) :: lw_b X b) := by
  intro d
  induction d with
  | zero =>
    intro t m s pm k n ht A h3 hk hn9
    obtain ⟨res, hr, K⟩ := lw_mid (lm := lm) (k := k) (n := n) Z V hL A (nI t) (by omega) (by omega) (by omega)
    obtain ⟨O, Y, hs, hn⟩ := Z
    refine ⟨res, hr, ?_⟩
    refine r_iload O 0 dL_law_173 rfl ?_
    refine r_bipush (x := 12) O dL_law_175 rfl ?_
    refine b_icmp_ge O 277 dL_law_177 (by decide) (fun _ => K) (fun c => ?_)
    have := lw_nge (a := 12) (by omega) (by omega) c
    omega
  | succ d ih =>
    intro t m s pm k n ht A h3 hk hn9
    have ht1 : (nI t).toInt = (t : Int) := nI_toInt (by omega)
    have h11 : 0 ≤ (1 + nI t).toInt := by
      have h1 : (1 : Int32).toInt = 1 := rfl
      have := j_addE (x := 1) (y := nI t) rfl rfl (by omega) (by omega)
      omega
    obtain ⟨m', s', pm', A', h3', step⟩ := lw_act (lm := lm) Z A (by omega) ((R_L_cell L xs (1 + nI t) &&& 2147483647) / 960 * 960 + lw_c (nI t))
    obtain ⟨res, hr, K⟩ := ih (t + 1) m' s' pm' (k + 8) (n + 48) (by omega) A' (by omega) (by omega) (by omega)
    refine ⟨res, hr, ?_⟩
    obtain ⟨O, Y, hs, hn⟩ := Z
    have hN := lw_N hn
    have J : g_V X (fun r : g_Res => r) res k n m (s, lm, pm) 265 ((11, .int (nI t)) :: (10, .int 1) :: lw_b X b) [.int (lw_c (nI t)), .int ((R_L_cell L xs (1 + nI t) &&& 2147483647) / 960 * 960), .ref (g_ad X 131), .ref (g_ad X 130), .ref (g_ad X 129), .ref (g_ad X 128), .ref (g_ad X 127), .ref (g_ad X 126), .ref (g_ad X 125), .ref (g_ad X 124), .ref (g_ad X 122)] := by
      refine r_iadd O dL_law_265 ?_
      refine step res _ _ 266 _ dL_law_266 (by omega) (by omega) ?_
      refine r_istore (lc' := (10, .int 1) :: (11, .int (nI t)) :: lw_b X b) O dL_law_269 (hN 10 rfl) rfl ?_
      refine r_iinc (lc' := (11, .int (nI (t + 1))) :: (10, .int 1) :: lw_b X b) O 1 dL_law_271 rfl (nI_1 t) (hN 11 rfl) rfl ?_
      refine r_goto O 173 dL_law_274 (by decide) ?_
      exact K
    refine r_iload O 0 dL_law_173 rfl ?_
    refine r_bipush (x := 12) O dL_law_175 rfl ?_
    refine b_icmp_ge O 277 dL_law_177 (by decide) (fun c => ?_) (fun _ => ?_)
    · have := lw_ge (a := 12) (by omega) (by omega) c
      omega
    refine r_iload O 1 dL_law_180 rfl ?_
    refine b_if_eq O 277 dL_law_182 (by decide) (fun c => absurd c (by decide)) (fun _ => ?_)
    refine r_aload_n O 3 dL_law_185 rfl rfl ?_
    refine r_aload_n O 4 dL_law_186 rfl rfl ?_
    refine r_aload_n O 5 dL_law_187 rfl rfl ?_
    refine r_aload O 6 dL_law_188 rfl ?_
    refine r_aload O 7 dL_law_190 rfl ?_
    refine r_aload O 8 dL_law_192 rfl ?_
    refine r_aload O 9 dL_law_194 rfl ?_
    refine r_aload O 10 dL_law_196 rfl ?_
    refine r_aload O 11 dL_law_198 rfl ?_
    refine r_aload_n O 2 dL_law_200 rfl rfl ?_
    refine r_iconst (x := 1) O dL_law_201 rfl ?_
    refine r_iload O 0 dL_law_202 rfl ?_
    refine r_iadd O dL_law_204 ?_
    refine r_callK O V [.ref b, .int (1 + nI t)] [.ref (g_ad X 131), .ref (g_ad X 130), .ref (g_ad X 129), .ref (g_ad X 128), .ref (g_ad X 127), .ref (g_ad X 126), .ref (g_ad X 125), .ref (g_ad X 124), .ref (g_ad X 122)] (met_L_cell (g_xl X) xs hL m (s, lm, pm) (1 + nI t) h11) LL_185 rfl rfl rfl dL_law_205 (lw_fit rfl (by show k + 0 ≤ _; omega) (by show n + 0 ≤ _; omega)) rfl rfl ?_
    refine r_ldc O dL_law_208 w_con_L_8 ?_
    refine r_iand O dL_law_210 ?_
    refine r_sipush (x := 960) O dL_law_211 rfl ?_
    refine r_idiv O dL_law_214 (by decide) ?_
    refine r_sipush (x := 960) O dL_law_215 rfl ?_
    refine r_imul O dL_law_218 ?_
    refine r_iload O 0 dL_law_219 rfl ?_
    refine r_iconst (x := 2) O dL_law_221 rfl ?_
    refine b_icmp_ge O 229 dL_law_222 (by decide) (fun c2 => ?_) (fun c2 => ?_)
    · refine r_iload O 0 dL_law_229 rfl ?_
      refine r_bipush (x := 6) O dL_law_231 rfl ?_
      refine b_icmp_ge O 240 dL_law_233 (by decide) (fun c6 => ?_) (fun c6 => ?_)
      · refine r_iload O 0 dL_law_240 rfl ?_
        refine r_bipush (x := 8) O dL_law_242 rfl ?_
        refine b_icmp_ge O 251 dL_law_244 (by decide) (fun c8 => ?_) (fun c8 => ?_)
        · refine r_iload O 0 dL_law_251 rfl ?_
          refine r_bipush (x := 10) O dL_law_253 rfl ?_
          refine b_icmp_ge O 263 dL_law_255 (by decide) (fun c10 => ?_) (fun c10 => ?_)
          · refine r_bipush (x := 13) O dL_law_263 rfl ?_
            rw [show lw_c (nI t) = 13 by unfold lw_c; rw [if_pos c2, if_pos c6, if_pos c8, if_pos c10]] at J
            exact J
          · refine r_bipush (x := 6) O dL_law_258 rfl ?_
            refine r_goto O 265 dL_law_260 (by decide) ?_
            rw [show lw_c (nI t) = 6 by unfold lw_c; rw [if_pos c2, if_pos c6, if_pos c8, if_neg c10]] at J
            exact J
        · refine r_iconst (x := 1) O dL_law_247 rfl ?_
          refine r_goto O 265 dL_law_248 (by decide) ?_
          rw [show lw_c (nI t) = 1 by unfold lw_c; rw [if_pos c2, if_pos c6, if_neg c8]] at J
          exact J
      · refine r_iconst (x := 4) O dL_law_236 rfl ?_
        refine r_goto O 265 dL_law_237 (by decide) ?_
        rw [show lw_c (nI t) = 4 by unfold lw_c; rw [if_pos c2, if_neg c6]] at J
        exact J
    · refine r_iconst (x := 3) O dL_law_225 rfl ?_
      refine r_goto O 265 dL_law_226 (by decide) ?_
      rw [show lw_c (nI t) = 3 by unfold lw_c; rw [if_neg c2]] at J
      exact J
/-- from the first comparison on -/
theorem lw_from (Z : lw_O X) (V : g_Sx b L xs (g_xA X) (g_xs X)) (hL : L ≤ 260) (A : lA m s pm) (h3 : (s 3).toInt ≤ 0) (v10 : Int32) (hk : k ≤ 600) (hn9 : n ≤ 7000) : lw_E X k n m s lm pm 150 ((10, .int v10) :: lw_b X b) := by
  obtain ⟨res, hr, K⟩ := lw_first (lm := lm) Z V hL 12 0 m s pm (k + 384) (n + 2304) (by omega) A (by omega) (by omega) (by omega)
  refine ⟨res, hr, ?_⟩
  have ZZ := Z
  obtain ⟨O, Y, hs, hn⟩ := Z
  have hN := lw_N hn
  refine r_aload_n O 2 dL_law_150 rfl rfl ?_
  refine r_aload_n O 3 dL_law_151 rfl rfl ?_
  refine r_aload_n O 4 dL_law_152 rfl rfl ?_
  refine r_aload O 5 dL_law_153 rfl ?_
  refine r_aload O 6 dL_law_155 rfl ?_
  refine r_aload O 7 dL_law_157 rfl ?_
  refine r_aload O 8 dL_law_159 rfl ?_
  refine r_aload O 9 dL_law_161 rfl ?_
  refine r_aload O 10 dL_law_163 rfl ?_
  refine lw_so ZZ A dL_law_165 (by omega) (by omega) ?_
  refine r_istore (lc' := (10, .int 1) :: lw_b X b) O dL_law_168 (hN 10 rfl) rfl ?_
  refine r_iconst (x := 0) O dL_law_170 rfl ?_
  refine r_istore (lc' := (11, .int (nI 0)) :: (10, .int 1) :: lw_b X b) O dL_law_171 (hN 11 rfl) rfl ?_
  exact K
def i_d (x : Int32) : Int32 := if x = 1 then 20 else if x = 3 then 35 else 0
def i_m (x : Int32) : Int32 := if x = 1 then 8 else if x = 2 then 6 else if x = 3 then 10 else 5
/-- the law's rows as it fills them -/
def i_s : Nat → Nat → Int32
  | 0 => upd (upd (fun _ => 0) 0 4) 4 4
  | p + 1 => upd (upd (upd (i_s p) (13 + p) (i_d (nI p))) (20 + p) (i_m (nI p))) (27 + p) (-1)
theorem lw_fill (Z : lw_O X) : ∀ (d p : Nat), p + d = 7 → lw_E X k n m (i_s 7) lm pm 150 ((10, .int (nI 7)) :: lw_b X b) → lw_E X k n m (i_s p) lm pm 65 ((10, .int (nI p)) :: lw_b X b) := by
  intro d
  induction d with
  | zero =>
    intro p hp h
    have e : p = 7 := by omega
    subst e
    obtain ⟨res, hr, K⟩ := h
    obtain ⟨O, Y, hs, hn⟩ := Z
    refine ⟨res, hr, ?_⟩
    refine r_iload O 0 dL_law_65 rfl ?_
    refine r_bipush (x := 7) O dL_law_67 rfl ?_
    exact b_icmp_ge O 150 dL_law_69 (by decide) (fun _ => K) (fun c => absurd (by decide) c)
  | succ d ih =>
    intro p hp h
    obtain ⟨res, hr, K⟩ := ih (p + 1) (by omega) h
    refine ⟨res, hr, ?_⟩
    obtain ⟨O, Y, hs, hn⟩ := Z
    have hN := lw_N hn
    have hp1 : (nI p).toInt = (p : Int) := nI_toInt (by omega)
    have hp2 : (nI p).toNatClampNeg = p := nI_clamp (by omega)
    have hin : vp_in (nI p) 7 := g_vin (by omega) (by omega)
    have K2 : g_V X (fun r : g_Res => r) res k n m (upd (upd (upd (i_s p) (13 + p) (i_d (nI p))) (20 + p) (i_m (nI p))) (27 + p) (-1), lm, pm) 65 ((10, .int (nI (p + 1))) :: lw_b X b) [] := K
    refine r_iload O 0 dL_law_65 rfl ?_
    refine r_bipush (x := 7) O dL_law_67 rfl ?_
    refine b_icmp_ge O 150 dL_law_69 (by decide) (fun c => ?_) (fun _ => ?_)
    · have := lw_ge (a := 7) (by omega) (by omega) c
      omega
    have J2 : g_V X (fun r : g_Res => r) res k n m (upd (i_s p) (13 + p) (i_d (nI p)), lm, pm) 137 ((10, .int (nI p)) :: lw_b X b) [.int (i_m (nI p)), .int (nI p), .ref (g_ad X 126)] := by
      refine r_iasn (b := 20) (loc := 20 + p) O T_126 hin (by rw [hp2]) dL_law_137 ?_
      refine r_aload O 6 dL_law_138 rfl ?_
      refine r_iload O 0 dL_law_140 rfl ?_
      refine r_iconst (x := -1) O dL_law_142 rfl ?_
      refine r_iasn (b := 27) (loc := 27 + p) O T_127 hin (by rw [hp2]) dL_law_143 ?_
      refine r_iinc (lc' := (10, .int (nI (p + 1))) :: lw_b X b) O 0 dL_law_144 rfl (nI_1 p) (hN 10 rfl) rfl ?_
      exact r_goto O 65 dL_law_147 (by decide) K2
    have J1 : g_V X (fun r : g_Res => r) res k n m (i_s p, lm, pm) 98 ((10, .int (nI p)) :: lw_b X b) [.int (i_d (nI p)), .int (nI p), .ref (g_ad X 125)] := by
      refine r_iasn (b := 13) (loc := 13 + p) O T_125 hin (by rw [hp2]) dL_law_98 ?_
      refine r_aload O 5 dL_law_99 rfl ?_
      refine r_iload O 0 dL_law_101 rfl ?_
      refine r_iload O 0 dL_law_103 rfl ?_
      refine r_iconst (x := 1) O dL_law_105 rfl ?_
      refine b_icmp_ne O 114 dL_law_106 (by decide) (fun c1 => ?_) (fun c1 => ?_)
      · refine r_iload O 0 dL_law_114 rfl ?_
        refine r_iconst (x := 2) O dL_law_116 rfl ?_
        refine b_icmp_ne O 125 dL_law_117 (by decide) (fun c2 => ?_) (fun c2 => ?_)
        · refine r_iload O 0 dL_law_125 rfl ?_
          refine r_iconst (x := 3) O dL_law_127 rfl ?_
          refine b_icmp_ne O 136 dL_law_128 (by decide) (fun c3 => ?_) (fun c3 => ?_)
          · refine r_iconst (x := 5) O dL_law_136 rfl ?_
            rw [show i_m (nI p) = 5 by unfold i_m; rw [if_neg c1, if_neg c2, if_neg c3]] at J2
            exact J2
          · refine r_bipush (x := 10) O dL_law_131 rfl ?_
            refine r_goto O 137 dL_law_133 (by decide) ?_
            rw [show i_m (nI p) = 10 by unfold i_m; rw [if_neg c1, if_neg c2, if_pos c3]] at J2
            exact J2
        · refine r_bipush (x := 6) O dL_law_120 rfl ?_
          refine r_goto O 137 dL_law_122 (by decide) ?_
          rw [show i_m (nI p) = 6 by unfold i_m; rw [if_neg c1, if_pos c2]] at J2
          exact J2
      · refine r_bipush (x := 8) O dL_law_109 rfl ?_
        refine r_goto O 137 dL_law_111 (by decide) ?_
        rw [show i_m (nI p) = 8 by unfold i_m; rw [if_pos c1]] at J2
        exact J2
    refine r_aload_n O 4 dL_law_72 rfl rfl ?_
    refine r_iload O 0 dL_law_73 rfl ?_
    refine r_iload O 0 dL_law_75 rfl ?_
    refine r_iconst (x := 1) O dL_law_77 rfl ?_
    refine b_icmp_ne O 86 dL_law_78 (by decide) (fun c1 => ?_) (fun c1 => ?_)
    · refine r_iload O 0 dL_law_86 rfl ?_
      refine r_iconst (x := 3) O dL_law_88 rfl ?_
      refine b_icmp_ne O 97 dL_law_89 (by decide) (fun c3 => ?_) (fun c3 => ?_)
      · refine r_iconst (x := 0) O dL_law_97 rfl ?_
        rw [show i_d (nI p) = 0 by unfold i_d; rw [if_neg c1, if_neg c3]] at J1
        exact J1
      · refine r_bipush (x := 35) O dL_law_92 rfl ?_
        refine r_goto O 98 dL_law_94 (by decide) ?_
        rw [show i_d (nI p) = 35 by unfold i_d; rw [if_neg c1, if_pos c3]] at J1
        exact J1
    · refine r_bipush (x := 20) O dL_law_81 rfl ?_
      refine r_goto O 98 dL_law_83 (by decide) ?_
      rw [show i_d (nI p) = 20 by unfold i_d; rw [if_pos c1]] at J1
      exact J1
theorem i_s_at : ∀ n, n < 178 → i_s 7 n = g_new 4 n := by decide +kernel
theorem g_new_r : ∀ i, i < 8 → 0 ≤ (g_new 4 (35 + 3 * i)).toInt := by decide +kernel
theorem start_lA : lA g_m1 (R_X8_hold g_s1) g_p1 ∧ (∀ n, n < 178 → i_s 7 n = R_X8_hold g_s1 n) ∧ (R_X8_hold g_s1 3).toInt ≤ 0 := by
  have hs : ∀ n, n < 178 → g_s1 n = g_new 4 n := fun n h => (begins_at n).trans (if_pos h)
  refine ⟨lA.of start_rel (fun i hi => ?_), fun n hn => ?_, ?_⟩
  · rw [hs _ (by omega)]
    exact g_new_r i hi
  · rw [hold_lo hn, hs n hn]
    exact i_s_at n hn
  · rw [hold_lo (by omega), hs 3 (by omega)]
    decide +kernel
/-- from the eight rows, nothing in them yet -/
theorem lw_rows (Z : lw_O X) (V : g_Sx b L xs (g_xA X) (g_xs X)) (hL : L ≤ 260) (hk : k ≤ 600) (hn9 : n ≤ 7000) : lw_E X k n g_m1 (fun _ => 0) lm g_p1 54 (lw_b X b) := by
  obtain ⟨A, e, h3⟩ := start_lA
  have F : lw_E X k n g_m1 (i_s 7) lm g_p1 150 ((10, .int (nI 7)) :: lw_b X b) := by
    obtain ⟨res, hr, K⟩ := lw_from (lm := lm) (k := k) (n := n) Z V hL A h3 (nI 7) hk hn9
    exact ⟨res, hr, r_ws e K⟩
  obtain ⟨res, hr, K⟩ := lw_fill Z 7 0 (by omega) F
  refine ⟨res, hr, ?_⟩
  obtain ⟨O, Y, hs, hn⟩ := Z
  have hN := lw_N hn
  refine r_aload_n O 2 dL_law_54 rfl rfl ?_
  refine r_iconst (x := 0) O dL_law_55 rfl ?_
  refine r_iconst (x := 4) O dL_law_56 rfl ?_
  refine r_iasn (b := 0) (loc := 0) O T_124 (g_vin (by decide) (by decide)) rfl dL_law_57 ?_
  refine r_aload_n O 2 dL_law_58 rfl rfl ?_
  refine r_iconst (x := 4) O dL_law_59 rfl ?_
  refine r_iconst (x := 4) O dL_law_60 rfl ?_
  refine r_iasn (b := 0) (loc := 4) O T_124 (g_vin (by decide) (by decide)) rfl dL_law_61 ?_
  refine r_iconst (x := 0) O dL_law_62 rfl ?_
  refine r_istore (lc' := (10, .int (nI 0)) :: lw_b X b) O dL_law_63 (hN 10 rfl) rfl ?_
  exact K
end LWB
