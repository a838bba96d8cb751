/-! ===== the law's body: cases 19 to 30 ===== -/
section LC2
variable {X : g_X} {m s : Nat → Int32} {lm : Nat → Int64} {pm : Nat → Nat} {k n b L : Nat} {xs : Nat → Int32} {i : Int32}
theorem g_LW_why : g_LW 166 yL_why cL_why 5 4 [(0, 10, 13, 19)] := ⟨gW_in (i := 997) (by decide +kernel) rfl, gW_in (i := 72) (by decide +kernel) rfl, gW_in (i := 999) (by decide +kernel) rfl, by decide +kernel, gW_in (i := 998) (by decide +kernel) rfl⟩
set_option maxRecDepth 100000 in
set_option maxHeartbeats 4000000 in
theorem lc_why (Z : lw_O X) (V : lw_V X b L xs) (I : lw_I L i) (R : g_Rel m s pm) (hk : k ≤ 90000) (hnn : n ≤ 90000) (kk : lw_K X (k + 4) (n + 24) (lw_lc X b i)) : lw_E X k n m (s, lm, pm) 1364 (lw_lc X b i) := by
  obtain ⟨O, Y, hs, hn⟩ := Z
  have hN : ∀ j, Nat.blt j 9 = true → j < g_xn X := fun j h => by rw [hn]; exact g_blt.mp h
  obtain ⟨p1, p2⟩ := lw_pasts R
  have M := met_L_why (g_xl X) hs m s lm pm (xs (i + 1).toNatClampNeg) (xs (i + 2).toNatClampNeg) R.I R.p4
  have M8 := fun (lm : Nat → Int64) (pm : Nat → Nat) (m : Nat → Int32) => met_X8_why (g_xl X) hs lm pm m s (xs (i + 1).toNatClampNeg) (xs (i + 2).toNatClampNeg) R.J
  have RF := Ref_why R (xs (i + 1).toNatClampNeg) (xs (i + 2).toNatClampNeg)
  generalize R_X7_why m pm (xs (i + 1).toNatClampNeg) (xs (i + 2).toNatClampNeg) = r7 at M RF
  generalize R_X8_why s (xs (i + 1).toNatClampNeg) (xs (i + 2).toNatClampNeg) = r8 at M8 RF
  obtain ⟨o, m1, pm1⟩ := r7
  obtain ⟨v8, s8⟩ := r8
  obtain ⟨R1, RF⟩ := RF
  have R1 : g_Rel m1 s8 pm1 := R1
  dsimp only at M8
  rcases RF with ⟨v, hv, h0, he⟩ | ⟨E, hE, hv, h0⟩
  · have hv : o = .inl (some (.int v)) := hv
    have z0 : s8 1302 = 0 := h0
    have he : v = v8 := he
    subst hv; subst he
    dsimp only [g_w] at M
    obtain ⟨res, hr, K⟩ := kk m1 s8 (vp_updL lm 1 v.toInt64) pm1 R1
    refine ⟨res, hr, ?_⟩
    have MT := met_X8_thrown (g_xl X) hs (vp_updL lm 1 v.toInt64) pm1 m1 s8
    dsimp only [R_X8_thrown] at MT
    rw [z0] at MT
    unfold lw_lc at K ⊢
    refine tt_aload_n O 2 dL_law_1364 rfl rfl ?_
    refine tt_aload_n O 1 dL_law_1365 rfl rfl ?_
    refine tt_iload O 0 dL_law_1366 rfl ?_
    refine tt_iconst (x := 1) O dL_law_1368 rfl ?_
    refine tt_iadd O dL_law_1369 ?_
    refine tt_sld O V I.2.1 dL_law_1370 ?_
    refine tt_aload_n O 1 dL_law_1371 rfl rfl ?_
    refine tt_iload O 0 dL_law_1372 rfl ?_
    refine tt_iconst (x := 2) O dL_law_1374 rfl ?_
    refine tt_iadd O dL_law_1375 ?_
    refine tt_sld O V I.2.2.1 dL_law_1376 ?_
    refine tt_aload_n O 4 dL_law_1377 rfl rfl ?_
    refine tt_callS O Y [.ref (g_ad X 122), .int (xs (i + 1).toNatClampNeg), .int (xs (i + 2).toNatClampNeg), .ref (g_ad X 129)] [] M g_LW_why rfl rfl rfl dL_law_1378 (lw_fit rfl (by omega) (by omega)) rfl ?_
    refine tt_istore O dL_law_1381 (hN 5 rfl) rfl ?_
    refine tt_aload_n O 4 dL_law_1383 rfl rfl ?_
    refine tt_aload_n O 2 dL_law_1384 rfl rfl ?_
    refine tt_iload O 1 dL_law_1385 rfl ?_
    refine tt_iconst (x := 1) O dL_law_1387 rfl ?_
    refine tt_iadd O dL_law_1388 ?_
    refine tt_sld O V I.2.1 dL_law_1389 ?_
    refine tt_aload_n O 2 dL_law_1390 rfl rfl ?_
    refine tt_iload O 1 dL_law_1391 rfl ?_
    refine tt_iconst (x := 2) O dL_law_1393 rfl ?_
    refine tt_iadd O dL_law_1394 ?_
    refine tt_sld O V I.2.2.1 dL_law_1395 ?_
    refine tt_callM O [.int (xs (i + 1).toNatClampNeg), .int (xs (i + 2).toNatClampNeg)] [] (M8 (vp_updL lm 1 v.toInt64) pm1 m1) LL_168 obj_124 rfl rfl rfl dL_law_1396 (lw_fit rfl (by show k + 1 ≤ 90004; omega) (by show n + 6 ≤ 90024; omega)) rfl ?_
    refine tt_istore O dL_law_1399 (hN 6 rfl) rfl ?_
    refine tt_aload_n O 5 dL_law_1401 rfl rfl ?_
    refine tt_callM O [] [] MT LL_107 obj_124 rfl rfl rfl dL_law_1402 (lw_fit rfl (by show k + 1 + 0 ≤ 90004; omega) (by show n + 6 + 0 ≤ 90024; omega)) rfl ?_
    refine tt_iload O 1 dL_law_1405 rfl ?_
    refine tt_icmp_eq O 1412 dL_law_1407 (by decide) rfl ?_
    refine tt_iload O 1 dL_law_1412 rfl ?_
    refine tt_if_ne O 1429 dL_law_1414 (by decide) (fun c => absurd rfl c) (fun _ => ?_)
    refine tt_aload_n O 6 dL_law_1417 rfl rfl ?_
    refine tt_iconst (x := 0) O dL_law_1418 rfl ?_
    refine tt_lald O R1.p4 dL_law_1419 ?_
    refine tt_iload O 0 dL_law_1420 rfl ?_
    refine tt_i2l O dL_law_1422 ?_
    refine tt_lcmp O dL_law_1423 ?_
    refine tt_if_eq O 1429 dL_law_1424 (by decide) (fun _ => ?_) (fun c => absurd (by rw [pk_uLs]; exact lg_cmp_self _) c)
    refine tt_goto O 1863 dL_law_1429 (by decide) ?_
    refine r_sub [2, 3, 4, 5, 6] rfl ?_
    exact r_widen (by show k + 1 + 0 + 0 ≤ k + 4; omega) (by show n + 6 + 0 + 0 ≤ n + 24; omega) K
  · have hv : o = .inr E := hv
    have z0 : s8 1302 = _ := h0
    subst hv
    have hne : ¬ g_k ["java/lang/IndexOutOfBoundsException"] E 1 = 0 := by
      simp only [List.mem_cons, List.not_mem_nil, or_false] at hE
      rcases hE with rfl <;> decide +kernel
    dsimp only [g_w] at M
    obtain ⟨res, hr, K⟩ := kk m1 s8 lm pm1 R1
    refine ⟨res, hr, ?_⟩
    have MT := met_X8_thrown (g_xl X) hs lm pm1 m1 s8
    dsimp only [R_X8_thrown] at MT
    rw [z0] at MT
    unfold lw_lc at K ⊢
    refine tt_aload_n O 2 dL_law_1364 rfl rfl ?_
    refine tt_aload_n O 1 dL_law_1365 rfl rfl ?_
    refine tt_iload O 0 dL_law_1366 rfl ?_
    refine tt_iconst (x := 1) O dL_law_1368 rfl ?_
    refine tt_iadd O dL_law_1369 ?_
    refine tt_sld O V I.2.1 dL_law_1370 ?_
    refine tt_aload_n O 1 dL_law_1371 rfl rfl ?_
    refine tt_iload O 0 dL_law_1372 rfl ?_
    refine tt_iconst (x := 2) O dL_law_1374 rfl ?_
    refine tt_iadd O dL_law_1375 ?_
    refine tt_sld O V I.2.2.1 dL_law_1376 ?_
    refine tt_aload_n O 4 dL_law_1377 rfl rfl ?_
    refine tt_callS O Y [.ref (g_ad X 122), .int (xs (i + 1).toNatClampNeg), .int (xs (i + 2).toNatClampNeg), .ref (g_ad X 129)] [] M g_LW_why rfl rfl rfl dL_law_1378 (lw_fit rfl (by omega) (by omega)) rfl ?_
    refine tt_istore O dL_law_1381 (hN 5 rfl) rfl ?_
    refine tt_aload_n O 4 dL_law_1383 rfl rfl ?_
    refine tt_aload_n O 2 dL_law_1384 rfl rfl ?_
    refine tt_iload O 1 dL_law_1385 rfl ?_
    refine tt_iconst (x := 1) O dL_law_1387 rfl ?_
    refine tt_iadd O dL_law_1388 ?_
    refine tt_sld O V I.2.1 dL_law_1389 ?_
    refine tt_aload_n O 2 dL_law_1390 rfl rfl ?_
    refine tt_iload O 1 dL_law_1391 rfl ?_
    refine tt_iconst (x := 2) O dL_law_1393 rfl ?_
    refine tt_iadd O dL_law_1394 ?_
    refine tt_sld O V I.2.2.1 dL_law_1395 ?_
    refine tt_callM O [.int (xs (i + 1).toNatClampNeg), .int (xs (i + 2).toNatClampNeg)] [] (M8 lm pm1 m1) LL_168 obj_124 rfl rfl rfl dL_law_1396 (lw_fit rfl (by show k + 1 ≤ 90004; omega) (by show n + 6 ≤ 90024; omega)) rfl ?_
    refine tt_istore O dL_law_1399 (hN 6 rfl) rfl ?_
    refine tt_aload_n O 5 dL_law_1401 rfl rfl ?_
    refine tt_callM O [] [] MT LL_107 obj_124 rfl rfl rfl dL_law_1402 (lw_fit rfl (by show k + 1 + 0 ≤ 90004; omega) (by show n + 6 + 0 ≤ 90024; omega)) rfl ?_
    refine tt_iload O 1 dL_law_1405 rfl ?_
    refine tt_icmp_eq O 1412 dL_law_1407 (by decide) rfl ?_
    refine tt_iload O 1 dL_law_1412 rfl ?_
    refine tt_if_ne O 1429 dL_law_1414 (by decide) (fun _ => ?_) (fun c => absurd c hne)
    refine tt_goto O 1863 dL_law_1429 (by decide) ?_
    refine r_sub [2, 3, 4, 5, 6] rfl ?_
    exact r_widen (by show k + 1 + 0 + 0 ≤ k + 4; omega) (by show n + 6 + 0 + 0 ≤ n + 24; omega) K
theorem g_LW_minutesUp : g_LW 169 yL_minutesUp cL_minutesUp 4 3 [(0, 9, 12, 19)] := ⟨gW_in (i := 1005) (by decide +kernel) rfl, gW_in (i := 72) (by decide +kernel) rfl, gW_in (i := 1007) (by decide +kernel) rfl, by decide +kernel, gW_in (i := 1006) (by decide +kernel) rfl⟩
set_option maxRecDepth 100000 in
set_option maxHeartbeats 4000000 in
theorem lc_minutesUp (Z : lw_O X) (V : lw_V X b L xs) (I : lw_I L i) (R : g_Rel m s pm) (hk : k ≤ 90000) (hnn : n ≤ 90000) (kk : lw_K X (k + 4) (n + 24) (lw_lc X b i)) : lw_E X k n m (s, lm, pm) 1432 (lw_lc X b i) := by
  obtain ⟨O, Y, hs, hn⟩ := Z
  have hN : ∀ j, Nat.blt j 9 = true → j < g_xn X := fun j h => by rw [hn]; exact g_blt.mp h
  obtain ⟨p1, p2⟩ := lw_pasts R
  have M := met_L_minutesUp (g_xl X) hs m s lm pm (xs (i + 1).toNatClampNeg) R.I R.p4
  have M8 := fun (lm : Nat → Int64) (pm : Nat → Nat) (m : Nat → Int32) => met_X8_minutesUp (g_xl X) hs lm pm m s (xs (i + 1).toNatClampNeg) R.J
  have RF := Ref_minutesUp R (xs (i + 1).toNatClampNeg)
  generalize R_X7_minutesUp m pm (xs (i + 1).toNatClampNeg) = r7 at M RF
  generalize R_X8_minutesUp s (xs (i + 1).toNatClampNeg) = r8 at M8 RF
  obtain ⟨o, m1, pm1⟩ := r7
  obtain ⟨v8, s8⟩ := r8
  obtain ⟨R1, RF⟩ := RF
  have R1 : g_Rel m1 s8 pm1 := R1
  dsimp only at M8
  rcases RF with ⟨v, hv, h0, he⟩ | ⟨E, hE, hv, h0⟩
  · have hv : o = .inl (some (.int v)) := hv
    have z0 : s8 1302 = 0 := h0
    have he : v = v8 := he
    subst hv; subst he
    dsimp only [g_w] at M
    obtain ⟨res, hr, K⟩ := kk m1 s8 (vp_updL lm 1 v.toInt64) pm1 R1
    refine ⟨res, hr, ?_⟩
    have MT := met_X8_thrown (g_xl X) hs (vp_updL lm 1 v.toInt64) pm1 m1 s8
    dsimp only [R_X8_thrown] at MT
    rw [z0] at MT
    unfold lw_lc at K ⊢
    refine tt_aload_n O 2 dL_law_1432 rfl rfl ?_
    refine tt_aload_n O 1 dL_law_1433 rfl rfl ?_
    refine tt_iload O 0 dL_law_1434 rfl ?_
    refine tt_iconst (x := 1) O dL_law_1436 rfl ?_
    refine tt_iadd O dL_law_1437 ?_
    refine tt_sld O V I.2.1 dL_law_1438 ?_
    refine tt_aload_n O 4 dL_law_1439 rfl rfl ?_
    refine tt_callS O Y [.ref (g_ad X 122), .int (xs (i + 1).toNatClampNeg), .ref (g_ad X 129)] [] M g_LW_minutesUp rfl rfl rfl dL_law_1440 (lw_fit rfl (by omega) (by omega)) rfl ?_
    refine tt_istore O dL_law_1443 (hN 5 rfl) rfl ?_
    refine tt_aload_n O 4 dL_law_1445 rfl rfl ?_
    refine tt_aload_n O 2 dL_law_1446 rfl rfl ?_
    refine tt_iload O 1 dL_law_1447 rfl ?_
    refine tt_iconst (x := 1) O dL_law_1449 rfl ?_
    refine tt_iadd O dL_law_1450 ?_
    refine tt_sld O V I.2.1 dL_law_1451 ?_
    refine tt_callM O [.int (xs (i + 1).toNatClampNeg)] [] (M8 (vp_updL lm 1 v.toInt64) pm1 m1) LL_171 obj_124 rfl rfl rfl dL_law_1452 (lw_fit rfl (by show k + 1 ≤ 90004; omega) (by show n + 6 ≤ 90024; omega)) rfl ?_
    refine tt_istore O dL_law_1455 (hN 6 rfl) rfl ?_
    refine tt_aload_n O 5 dL_law_1457 rfl rfl ?_
    refine tt_callM O [] [] MT LL_107 obj_124 rfl rfl rfl dL_law_1458 (lw_fit rfl (by show k + 1 + 0 ≤ 90004; omega) (by show n + 6 + 0 ≤ 90024; omega)) rfl ?_
    refine tt_iload O 1 dL_law_1461 rfl ?_
    refine tt_icmp_eq O 1468 dL_law_1463 (by decide) rfl ?_
    refine tt_iload O 1 dL_law_1468 rfl ?_
    refine tt_if_ne O 1485 dL_law_1470 (by decide) (fun c => absurd rfl c) (fun _ => ?_)
    refine tt_aload_n O 6 dL_law_1473 rfl rfl ?_
    refine tt_iconst (x := 0) O dL_law_1474 rfl ?_
    refine tt_lald O R1.p4 dL_law_1475 ?_
    refine tt_iload O 0 dL_law_1476 rfl ?_
    refine tt_i2l O dL_law_1478 ?_
    refine tt_lcmp O dL_law_1479 ?_
    refine tt_if_eq O 1485 dL_law_1480 (by decide) (fun _ => ?_) (fun c => absurd (by rw [pk_uLs]; exact lg_cmp_self _) c)
    refine tt_goto O 1863 dL_law_1485 (by decide) ?_
    refine r_sub [2, 3, 4, 5, 6] rfl ?_
    exact r_widen (by show k + 1 + 0 + 0 ≤ k + 4; omega) (by show n + 6 + 0 + 0 ≤ n + 24; omega) K
  · have hv : o = .inr E := hv
    have z0 : s8 1302 = _ := h0
    subst hv
    have hne : ¬ g_k ["java/lang/IndexOutOfBoundsException"] E 1 = 0 := by
      simp only [List.mem_cons, List.not_mem_nil, or_false] at hE
      rcases hE with rfl <;> decide +kernel
    dsimp only [g_w] at M
    obtain ⟨res, hr, K⟩ := kk m1 s8 lm pm1 R1
    refine ⟨res, hr, ?_⟩
    have MT := met_X8_thrown (g_xl X) hs lm pm1 m1 s8
    dsimp only [R_X8_thrown] at MT
    rw [z0] at MT
    unfold lw_lc at K ⊢
    refine tt_aload_n O 2 dL_law_1432 rfl rfl ?_
    refine tt_aload_n O 1 dL_law_1433 rfl rfl ?_
    refine tt_iload O 0 dL_law_1434 rfl ?_
    refine tt_iconst (x := 1) O dL_law_1436 rfl ?_
    refine tt_iadd O dL_law_1437 ?_
    refine tt_sld O V I.2.1 dL_law_1438 ?_
    refine tt_aload_n O 4 dL_law_1439 rfl rfl ?_
    refine tt_callS O Y [.ref (g_ad X 122), .int (xs (i + 1).toNatClampNeg), .ref (g_ad X 129)] [] M g_LW_minutesUp rfl rfl rfl dL_law_1440 (lw_fit rfl (by omega) (by omega)) rfl ?_
    refine tt_istore O dL_law_1443 (hN 5 rfl) rfl ?_
    refine tt_aload_n O 4 dL_law_1445 rfl rfl ?_
    refine tt_aload_n O 2 dL_law_1446 rfl rfl ?_
    refine tt_iload O 1 dL_law_1447 rfl ?_
    refine tt_iconst (x := 1) O dL_law_1449 rfl ?_
    refine tt_iadd O dL_law_1450 ?_
    refine tt_sld O V I.2.1 dL_law_1451 ?_
    refine tt_callM O [.int (xs (i + 1).toNatClampNeg)] [] (M8 lm pm1 m1) LL_171 obj_124 rfl rfl rfl dL_law_1452 (lw_fit rfl (by show k + 1 ≤ 90004; omega) (by show n + 6 ≤ 90024; omega)) rfl ?_
    refine tt_istore O dL_law_1455 (hN 6 rfl) rfl ?_
    refine tt_aload_n O 5 dL_law_1457 rfl rfl ?_
    refine tt_callM O [] [] MT LL_107 obj_124 rfl rfl rfl dL_law_1458 (lw_fit rfl (by show k + 1 + 0 ≤ 90004; omega) (by show n + 6 + 0 ≤ 90024; omega)) rfl ?_
    refine tt_iload O 1 dL_law_1461 rfl ?_
    refine tt_icmp_eq O 1468 dL_law_1463 (by decide) rfl ?_
    refine tt_iload O 1 dL_law_1468 rfl ?_
    refine tt_if_ne O 1485 dL_law_1470 (by decide) (fun _ => ?_) (fun c => absurd c hne)
    refine tt_goto O 1863 dL_law_1485 (by decide) ?_
    refine r_sub [2, 3, 4, 5, 6] rfl ?_
    exact r_widen (by show k + 1 + 0 + 0 ≤ k + 4; omega) (by show n + 6 + 0 + 0 ≤ n + 24; omega) K
theorem g_LW_spare : g_LW 172 yL_spare cL_spare 4 3 [(0, 9, 12, 19)] := ⟨gW_in (i := 1017) (by decide +kernel) rfl, gW_in (i := 72) (by decide +kernel) rfl, gW_in (i := 1019) (by decide +kernel) rfl, by decide +kernel, gW_in (i := 1018) (by decide +kernel) rfl⟩
set_option maxRecDepth 100000 in
set_option maxHeartbeats 4000000 in
theorem lc_spare (Z : lw_O X) (V : lw_V X b L xs) (I : lw_I L i) (R : g_Rel m s pm) (hk : k ≤ 90000) (hnn : n ≤ 90000) (kk : lw_K X (k + 4) (n + 24) (lw_lc X b i)) : lw_E X k n m (s, lm, pm) 1488 (lw_lc X b i) := by
  obtain ⟨O, Y, hs, hn⟩ := Z
  have hN : ∀ j, Nat.blt j 9 = true → j < g_xn X := fun j h => by rw [hn]; exact g_blt.mp h
  obtain ⟨p1, p2⟩ := lw_pasts R
  have M := met_L_spare (g_xl X) hs m s lm pm (xs (i + 1).toNatClampNeg) R.I R.p4
  have M8 := fun (lm : Nat → Int64) (pm : Nat → Nat) (m : Nat → Int32) => met_X8_spare (g_xl X) hs lm pm m s (xs (i + 1).toNatClampNeg) R.J
  have RF := Ref_spare R (xs (i + 1).toNatClampNeg)
  generalize R_X7_spare m pm (xs (i + 1).toNatClampNeg) = r7 at M RF
  generalize R_X8_spare s (xs (i + 1).toNatClampNeg) = r8 at M8 RF
  obtain ⟨o, m1, pm1⟩ := r7
  obtain ⟨v8, s8⟩ := r8
  obtain ⟨R1, RF⟩ := RF
  have R1 : g_Rel m1 s8 pm1 := R1
  dsimp only at M8
  rcases RF with ⟨v, hv, h0, he⟩ | ⟨E, hE, hv, h0⟩
  · have hv : o = .inl (some (.int v)) := hv
    have z0 : s8 1302 = 0 := h0
    have he : v = v8 := he
    subst hv; subst he
    dsimp only [g_w] at M
    obtain ⟨res, hr, K⟩ := kk m1 s8 (vp_updL lm 1 v.toInt64) pm1 R1
    refine ⟨res, hr, ?_⟩
    have MT := met_X8_thrown (g_xl X) hs (vp_updL lm 1 v.toInt64) pm1 m1 s8
    dsimp only [R_X8_thrown] at MT
    rw [z0] at MT
    unfold lw_lc at K ⊢
    refine tt_aload_n O 2 dL_law_1488 rfl rfl ?_
    refine tt_aload_n O 1 dL_law_1489 rfl rfl ?_
    refine tt_iload O 0 dL_law_1490 rfl ?_
    refine tt_iconst (x := 1) O dL_law_1492 rfl ?_
    refine tt_iadd O dL_law_1493 ?_
    refine tt_sld O V I.2.1 dL_law_1494 ?_
    refine tt_aload_n O 4 dL_law_1495 rfl rfl ?_
    refine tt_callS O Y [.ref (g_ad X 122), .int (xs (i + 1).toNatClampNeg), .ref (g_ad X 129)] [] M g_LW_spare rfl rfl rfl dL_law_1496 (lw_fit rfl (by omega) (by omega)) rfl ?_
    refine tt_istore O dL_law_1499 (hN 5 rfl) rfl ?_
    refine tt_aload_n O 4 dL_law_1501 rfl rfl ?_
    refine tt_aload_n O 2 dL_law_1502 rfl rfl ?_
    refine tt_iload O 1 dL_law_1503 rfl ?_
    refine tt_iconst (x := 1) O dL_law_1505 rfl ?_
    refine tt_iadd O dL_law_1506 ?_
    refine tt_sld O V I.2.1 dL_law_1507 ?_
    refine tt_callM O [.int (xs (i + 1).toNatClampNeg)] [] (M8 (vp_updL lm 1 v.toInt64) pm1 m1) LL_174 obj_124 rfl rfl rfl dL_law_1508 (lw_fit rfl (by show k + 1 ≤ 90004; omega) (by show n + 6 ≤ 90024; omega)) rfl ?_
    refine tt_istore O dL_law_1511 (hN 6 rfl) rfl ?_
    refine tt_aload_n O 5 dL_law_1513 rfl rfl ?_
    refine tt_callM O [] [] MT LL_107 obj_124 rfl rfl rfl dL_law_1514 (lw_fit rfl (by show k + 1 + 0 ≤ 90004; omega) (by show n + 6 + 0 ≤ 90024; omega)) rfl ?_
    refine tt_iload O 1 dL_law_1517 rfl ?_
    refine tt_icmp_eq O 1524 dL_law_1519 (by decide) rfl ?_
    refine tt_iload O 1 dL_law_1524 rfl ?_
    refine tt_if_ne O 1541 dL_law_1526 (by decide) (fun c => absurd rfl c) (fun _ => ?_)
    refine tt_aload_n O 6 dL_law_1529 rfl rfl ?_
    refine tt_iconst (x := 0) O dL_law_1530 rfl ?_
    refine tt_lald O R1.p4 dL_law_1531 ?_
    refine tt_iload O 0 dL_law_1532 rfl ?_
    refine tt_i2l O dL_law_1534 ?_
    refine tt_lcmp O dL_law_1535 ?_
    refine tt_if_eq O 1541 dL_law_1536 (by decide) (fun _ => ?_) (fun c => absurd (by rw [pk_uLs]; exact lg_cmp_self _) c)
    refine tt_goto O 1863 dL_law_1541 (by decide) ?_
    refine r_sub [2, 3, 4, 5, 6] rfl ?_
    exact r_widen (by show k + 1 + 0 + 0 ≤ k + 4; omega) (by show n + 6 + 0 + 0 ≤ n + 24; omega) K
  · have hv : o = .inr E := hv
    have z0 : s8 1302 = _ := h0
    subst hv
    have hne : ¬ g_k ["java/lang/IndexOutOfBoundsException"] E 1 = 0 := by
      simp only [List.mem_cons, List.not_mem_nil, or_false] at hE
      rcases hE with rfl <;> decide +kernel
    dsimp only [g_w] at M
    obtain ⟨res, hr, K⟩ := kk m1 s8 lm pm1 R1
    refine ⟨res, hr, ?_⟩
    have MT := met_X8_thrown (g_xl X) hs lm pm1 m1 s8
    dsimp only [R_X8_thrown] at MT
    rw [z0] at MT
    unfold lw_lc at K ⊢
    refine tt_aload_n O 2 dL_law_1488 rfl rfl ?_
    refine tt_aload_n O 1 dL_law_1489 rfl rfl ?_
    refine tt_iload O 0 dL_law_1490 rfl ?_
    refine tt_iconst (x := 1) O dL_law_1492 rfl ?_
    refine tt_iadd O dL_law_1493 ?_
    refine tt_sld O V I.2.1 dL_law_1494 ?_
    refine tt_aload_n O 4 dL_law_1495 rfl rfl ?_
    refine tt_callS O Y [.ref (g_ad X 122), .int (xs (i + 1).toNatClampNeg), .ref (g_ad X 129)] [] M g_LW_spare rfl rfl rfl dL_law_1496 (lw_fit rfl (by omega) (by omega)) rfl ?_
    refine tt_istore O dL_law_1499 (hN 5 rfl) rfl ?_
    refine tt_aload_n O 4 dL_law_1501 rfl rfl ?_
    refine tt_aload_n O 2 dL_law_1502 rfl rfl ?_
    refine tt_iload O 1 dL_law_1503 rfl ?_
    refine tt_iconst (x := 1) O dL_law_1505 rfl ?_
    refine tt_iadd O dL_law_1506 ?_
    refine tt_sld O V I.2.1 dL_law_1507 ?_
    refine tt_callM O [.int (xs (i + 1).toNatClampNeg)] [] (M8 lm pm1 m1) LL_174 obj_124 rfl rfl rfl dL_law_1508 (lw_fit rfl (by show k + 1 ≤ 90004; omega) (by show n + 6 ≤ 90024; omega)) rfl ?_
    refine tt_istore O dL_law_1511 (hN 6 rfl) rfl ?_
    refine tt_aload_n O 5 dL_law_1513 rfl rfl ?_
    refine tt_callM O [] [] MT LL_107 obj_124 rfl rfl rfl dL_law_1514 (lw_fit rfl (by show k + 1 + 0 ≤ 90004; omega) (by show n + 6 + 0 ≤ 90024; omega)) rfl ?_
    refine tt_iload O 1 dL_law_1517 rfl ?_
    refine tt_icmp_eq O 1524 dL_law_1519 (by decide) rfl ?_
    refine tt_iload O 1 dL_law_1524 rfl ?_
    refine tt_if_ne O 1541 dL_law_1526 (by decide) (fun _ => ?_) (fun c => absurd c hne)
    refine tt_goto O 1863 dL_law_1541 (by decide) ?_
    refine r_sub [2, 3, 4, 5, 6] rfl ?_
    exact r_widen (by show k + 1 + 0 + 0 ≤ k + 4; omega) (by show n + 6 + 0 + 0 ≤ n + 24; omega) K
theorem g_LW_bestRope : g_LW 175 yL_bestRope cL_bestRope 4 3 [(0, 9, 12, 19)] := ⟨gW_in (i := 1032) (by decide +kernel) rfl, gW_in (i := 72) (by decide +kernel) rfl, gW_in (i := 1034) (by decide +kernel) rfl, by decide +kernel, gW_in (i := 1033) (by decide +kernel) rfl⟩
set_option maxRecDepth 100000 in
set_option maxHeartbeats 4000000 in
theorem lc_bestRope (Z : lw_O X) (V : lw_V X b L xs) (I : lw_I L i) (R : g_Rel m s pm) (hk : k ≤ 90000) (hnn : n ≤ 90000) (kk : lw_K X (k + 4) (n + 24) (lw_lc X b i)) : lw_E X k n m (s, lm, pm) 1544 (lw_lc X b i) := by
  obtain ⟨O, Y, hs, hn⟩ := Z
  have hN : ∀ j, Nat.blt j 9 = true → j < g_xn X := fun j h => by rw [hn]; exact g_blt.mp h
  obtain ⟨p1, p2⟩ := lw_pasts R
  have M := met_L_bestRope (g_xl X) hs m s lm pm (xs (i + 1).toNatClampNeg) R.I R.p4
  have M8 := fun (lm : Nat → Int64) (pm : Nat → Nat) (m : Nat → Int32) => met_X8_bestRope (g_xl X) hs lm pm m s (xs (i + 1).toNatClampNeg) R.J
  have RF := Ref_bestRope R (xs (i + 1).toNatClampNeg)
  generalize R_X7_bestRope m pm (xs (i + 1).toNatClampNeg) = r7 at M RF
  generalize R_X8_bestRope s (xs (i + 1).toNatClampNeg) = r8 at M8 RF
  obtain ⟨o, m1, pm1⟩ := r7
  obtain ⟨v8, s8⟩ := r8
  obtain ⟨R1, RF⟩ := RF
  have R1 : g_Rel m1 s8 pm1 := R1
  dsimp only at M8
  rcases RF with ⟨v, hv, h0, he⟩ | ⟨E, hE, hv, h0⟩
  · have hv : o = .inl (some (.int v)) := hv
    have z0 : s8 1302 = 0 := h0
    have he : v = v8 := he
    subst hv; subst he
    dsimp only [g_w] at M
    obtain ⟨res, hr, K⟩ := kk m1 s8 (vp_updL lm 1 v.toInt64) pm1 R1
    refine ⟨res, hr, ?_⟩
    have MT := met_X8_thrown (g_xl X) hs (vp_updL lm 1 v.toInt64) pm1 m1 s8
    dsimp only [R_X8_thrown] at MT
    rw [z0] at MT
    unfold lw_lc at K ⊢
    refine tt_aload_n O 2 dL_law_1544 rfl rfl ?_
    refine tt_aload_n O 1 dL_law_1545 rfl rfl ?_
    refine tt_iload O 0 dL_law_1546 rfl ?_
    refine tt_iconst (x := 1) O dL_law_1548 rfl ?_
    refine tt_iadd O dL_law_1549 ?_
    refine tt_sld O V I.2.1 dL_law_1550 ?_
    refine tt_aload_n O 4 dL_law_1551 rfl rfl ?_
    refine tt_callS O Y [.ref (g_ad X 122), .int (xs (i + 1).toNatClampNeg), .ref (g_ad X 129)] [] M g_LW_bestRope rfl rfl rfl dL_law_1552 (lw_fit rfl (by omega) (by omega)) rfl ?_
    refine tt_istore O dL_law_1555 (hN 5 rfl) rfl ?_
    refine tt_aload_n O 4 dL_law_1557 rfl rfl ?_
    refine tt_aload_n O 2 dL_law_1558 rfl rfl ?_
    refine tt_iload O 1 dL_law_1559 rfl ?_
    refine tt_iconst (x := 1) O dL_law_1561 rfl ?_
    refine tt_iadd O dL_law_1562 ?_
    refine tt_sld O V I.2.1 dL_law_1563 ?_
    refine tt_callM O [.int (xs (i + 1).toNatClampNeg)] [] (M8 (vp_updL lm 1 v.toInt64) pm1 m1) LL_177 obj_124 rfl rfl rfl dL_law_1564 (lw_fit rfl (by show k + 1 ≤ 90004; omega) (by show n + 6 ≤ 90024; omega)) rfl ?_
    refine tt_istore O dL_law_1567 (hN 6 rfl) rfl ?_
    refine tt_aload_n O 5 dL_law_1569 rfl rfl ?_
    refine tt_callM O [] [] MT LL_107 obj_124 rfl rfl rfl dL_law_1570 (lw_fit rfl (by show k + 1 + 0 ≤ 90004; omega) (by show n + 6 + 0 ≤ 90024; omega)) rfl ?_
    refine tt_iload O 1 dL_law_1573 rfl ?_
    refine tt_icmp_eq O 1580 dL_law_1575 (by decide) rfl ?_
    refine tt_iload O 1 dL_law_1580 rfl ?_
    refine tt_if_ne O 1597 dL_law_1582 (by decide) (fun c => absurd rfl c) (fun _ => ?_)
    refine tt_aload_n O 6 dL_law_1585 rfl rfl ?_
    refine tt_iconst (x := 0) O dL_law_1586 rfl ?_
    refine tt_lald O R1.p4 dL_law_1587 ?_
    refine tt_iload O 0 dL_law_1588 rfl ?_
    refine tt_i2l O dL_law_1590 ?_
    refine tt_lcmp O dL_law_1591 ?_
    refine tt_if_eq O 1597 dL_law_1592 (by decide) (fun _ => ?_) (fun c => absurd (by rw [pk_uLs]; exact lg_cmp_self _) c)
    refine tt_goto O 1863 dL_law_1597 (by decide) ?_
    refine r_sub [2, 3, 4, 5, 6] rfl ?_
    exact r_widen (by show k + 1 + 0 + 0 ≤ k + 4; omega) (by show n + 6 + 0 + 0 ≤ n + 24; omega) K
  · have hv : o = .inr E := hv
    have z0 : s8 1302 = _ := h0
    subst hv
    have hne : ¬ g_k ["java/lang/IndexOutOfBoundsException"] E 1 = 0 := by
      simp only [List.mem_cons, List.not_mem_nil, or_false] at hE
      rcases hE with rfl <;> decide +kernel
    dsimp only [g_w] at M
    obtain ⟨res, hr, K⟩ := kk m1 s8 lm pm1 R1
    refine ⟨res, hr, ?_⟩
    have MT := met_X8_thrown (g_xl X) hs lm pm1 m1 s8
    dsimp only [R_X8_thrown] at MT
    rw [z0] at MT
    unfold lw_lc at K ⊢
    refine tt_aload_n O 2 dL_law_1544 rfl rfl ?_
    refine tt_aload_n O 1 dL_law_1545 rfl rfl ?_
    refine tt_iload O 0 dL_law_1546 rfl ?_
    refine tt_iconst (x := 1) O dL_law_1548 rfl ?_
    refine tt_iadd O dL_law_1549 ?_
    refine tt_sld O V I.2.1 dL_law_1550 ?_
    refine tt_aload_n O 4 dL_law_1551 rfl rfl ?_
    refine tt_callS O Y [.ref (g_ad X 122), .int (xs (i + 1).toNatClampNeg), .ref (g_ad X 129)] [] M g_LW_bestRope rfl rfl rfl dL_law_1552 (lw_fit rfl (by omega) (by omega)) rfl ?_
    refine tt_istore O dL_law_1555 (hN 5 rfl) rfl ?_
    refine tt_aload_n O 4 dL_law_1557 rfl rfl ?_
    refine tt_aload_n O 2 dL_law_1558 rfl rfl ?_
    refine tt_iload O 1 dL_law_1559 rfl ?_
    refine tt_iconst (x := 1) O dL_law_1561 rfl ?_
    refine tt_iadd O dL_law_1562 ?_
    refine tt_sld O V I.2.1 dL_law_1563 ?_
    refine tt_callM O [.int (xs (i + 1).toNatClampNeg)] [] (M8 lm pm1 m1) LL_177 obj_124 rfl rfl rfl dL_law_1564 (lw_fit rfl (by show k + 1 ≤ 90004; omega) (by show n + 6 ≤ 90024; omega)) rfl ?_
    refine tt_istore O dL_law_1567 (hN 6 rfl) rfl ?_
    refine tt_aload_n O 5 dL_law_1569 rfl rfl ?_
    refine tt_callM O [] [] MT LL_107 obj_124 rfl rfl rfl dL_law_1570 (lw_fit rfl (by show k + 1 + 0 ≤ 90004; omega) (by show n + 6 + 0 ≤ 90024; omega)) rfl ?_
    refine tt_iload O 1 dL_law_1573 rfl ?_
    refine tt_icmp_eq O 1580 dL_law_1575 (by decide) rfl ?_
    refine tt_iload O 1 dL_law_1580 rfl ?_
    refine tt_if_ne O 1597 dL_law_1582 (by decide) (fun _ => ?_) (fun c => absurd c hne)
    refine tt_goto O 1863 dL_law_1597 (by decide) ?_
    refine r_sub [2, 3, 4, 5, 6] rfl ?_
    exact r_widen (by show k + 1 + 0 + 0 ≤ k + 4; omega) (by show n + 6 + 0 + 0 ≤ n + 24; omega) K
theorem g_LW_reach : g_LW 186 yL_reach cL_reach 4 3 [(0, 9, 12, 19)] := ⟨gW_in (i := 1046) (by decide +kernel) rfl, gW_in (i := 72) (by decide +kernel) rfl, gW_in (i := 1048) (by decide +kernel) rfl, by decide +kernel, gW_in (i := 1047) (by decide +kernel) rfl⟩
set_option maxRecDepth 100000 in
set_option maxHeartbeats 4000000 in
theorem lc_reach (Z : lw_O X) (V : lw_V X b L xs) (I : lw_I L i) (R : g_Rel m s pm) (hk : k ≤ 90000) (hnn : n ≤ 90000) (kk : lw_K X (k + 4) (n + 24) (lw_lc X b i)) : lw_E X k n m (s, lm, pm) 1626 (lw_lc X b i) := by
  obtain ⟨O, Y, hs, hn⟩ := Z
  have hN : ∀ j, Nat.blt j 9 = true → j < g_xn X := fun j h => by rw [hn]; exact g_blt.mp h
  obtain ⟨p1, p2⟩ := lw_pasts R
  have M := met_L_reach (g_xl X) hs m s lm pm (xs (i + 1).toNatClampNeg) R.I R.p4
  have M8 := fun (lm : Nat → Int64) (pm : Nat → Nat) (m : Nat → Int32) => met_X8_reach (g_xl X) hs lm pm m s (xs (i + 1).toNatClampNeg) R.J
  have RF := Ref_reach R (xs (i + 1).toNatClampNeg)
  generalize R_X7_reach m pm (xs (i + 1).toNatClampNeg) = r7 at M RF
  generalize R_X8_reach s (xs (i + 1).toNatClampNeg) = r8 at M8 RF
  obtain ⟨o, m1, pm1⟩ := r7
  obtain ⟨v8, s8⟩ := r8
  obtain ⟨R1, RF⟩ := RF
  have R1 : g_Rel m1 s8 pm1 := R1
  dsimp only at M8
  rcases RF with ⟨v, hv, h0, he⟩ | ⟨E, hE, hv, h0⟩
  · have hv : o = .inl (some (.int v)) := hv
    have z0 : s8 1302 = 0 := h0
    have he : v = v8 := he
    subst hv; subst he
    dsimp only [g_w] at M
    obtain ⟨res, hr, K⟩ := kk m1 s8 (vp_updL lm 1 v.toInt64) pm1 R1
    refine ⟨res, hr, ?_⟩
    have MT := met_X8_thrown (g_xl X) hs (vp_updL lm 1 v.toInt64) pm1 m1 s8
    dsimp only [R_X8_thrown] at MT
    rw [z0] at MT
    unfold lw_lc at K ⊢
    refine tt_aload_n O 2 dL_law_1626 rfl rfl ?_
    refine tt_aload_n O 1 dL_law_1627 rfl rfl ?_
    refine tt_iload O 0 dL_law_1628 rfl ?_
    refine tt_iconst (x := 1) O dL_law_1630 rfl ?_
    refine tt_iadd O dL_law_1631 ?_
    refine tt_sld O V I.2.1 dL_law_1632 ?_
    refine tt_aload_n O 4 dL_law_1633 rfl rfl ?_
    refine tt_callS O Y [.ref (g_ad X 122), .int (xs (i + 1).toNatClampNeg), .ref (g_ad X 129)] [] M g_LW_reach rfl rfl rfl dL_law_1634 (lw_fit rfl (by omega) (by omega)) rfl ?_
    refine tt_istore O dL_law_1637 (hN 5 rfl) rfl ?_
    refine tt_aload_n O 4 dL_law_1639 rfl rfl ?_
    refine tt_aload_n O 2 dL_law_1640 rfl rfl ?_
    refine tt_iload O 1 dL_law_1641 rfl ?_
    refine tt_iconst (x := 1) O dL_law_1643 rfl ?_
    refine tt_iadd O dL_law_1644 ?_
    refine tt_sld O V I.2.1 dL_law_1645 ?_
    refine tt_callM O [.int (xs (i + 1).toNatClampNeg)] [] (M8 (vp_updL lm 1 v.toInt64) pm1 m1) LL_188 obj_124 rfl rfl rfl dL_law_1646 (lw_fit rfl (by show k + 1 ≤ 90004; omega) (by show n + 6 ≤ 90024; omega)) rfl ?_
    refine tt_istore O dL_law_1649 (hN 6 rfl) rfl ?_
    refine tt_aload_n O 5 dL_law_1651 rfl rfl ?_
    refine tt_callM O [] [] MT LL_107 obj_124 rfl rfl rfl dL_law_1652 (lw_fit rfl (by show k + 1 + 0 ≤ 90004; omega) (by show n + 6 + 0 ≤ 90024; omega)) rfl ?_
    refine tt_iload O 1 dL_law_1655 rfl ?_
    refine tt_icmp_eq O 1662 dL_law_1657 (by decide) rfl ?_
    refine tt_iload O 1 dL_law_1662 rfl ?_
    refine tt_if_ne O 1679 dL_law_1664 (by decide) (fun c => absurd rfl c) (fun _ => ?_)
    refine tt_aload_n O 6 dL_law_1667 rfl rfl ?_
    refine tt_iconst (x := 0) O dL_law_1668 rfl ?_
    refine tt_lald O R1.p4 dL_law_1669 ?_
    refine tt_iload O 0 dL_law_1670 rfl ?_
    refine tt_i2l O dL_law_1672 ?_
    refine tt_lcmp O dL_law_1673 ?_
    refine tt_if_eq O 1679 dL_law_1674 (by decide) (fun _ => ?_) (fun c => absurd (by rw [pk_uLs]; exact lg_cmp_self _) c)
    refine tt_goto O 1863 dL_law_1679 (by decide) ?_
    refine r_sub [2, 3, 4, 5, 6] rfl ?_
    exact r_widen (by show k + 1 + 0 + 0 ≤ k + 4; omega) (by show n + 6 + 0 + 0 ≤ n + 24; omega) K
  · have hv : o = .inr E := hv
    have z0 : s8 1302 = _ := h0
    subst hv
    have hne : ¬ g_k ["java/lang/IndexOutOfBoundsException"] E 1 = 0 := by
      simp only [List.mem_cons, List.not_mem_nil, or_false] at hE
      rcases hE with rfl <;> decide +kernel
    dsimp only [g_w] at M
    obtain ⟨res, hr, K⟩ := kk m1 s8 lm pm1 R1
    refine ⟨res, hr, ?_⟩
    have MT := met_X8_thrown (g_xl X) hs lm pm1 m1 s8
    dsimp only [R_X8_thrown] at MT
    rw [z0] at MT
    unfold lw_lc at K ⊢
    refine tt_aload_n O 2 dL_law_1626 rfl rfl ?_
    refine tt_aload_n O 1 dL_law_1627 rfl rfl ?_
    refine tt_iload O 0 dL_law_1628 rfl ?_
    refine tt_iconst (x := 1) O dL_law_1630 rfl ?_
    refine tt_iadd O dL_law_1631 ?_
    refine tt_sld O V I.2.1 dL_law_1632 ?_
    refine tt_aload_n O 4 dL_law_1633 rfl rfl ?_
    refine tt_callS O Y [.ref (g_ad X 122), .int (xs (i + 1).toNatClampNeg), .ref (g_ad X 129)] [] M g_LW_reach rfl rfl rfl dL_law_1634 (lw_fit rfl (by omega) (by omega)) rfl ?_
    refine tt_istore O dL_law_1637 (hN 5 rfl) rfl ?_
    refine tt_aload_n O 4 dL_law_1639 rfl rfl ?_
    refine tt_aload_n O 2 dL_law_1640 rfl rfl ?_
    refine tt_iload O 1 dL_law_1641 rfl ?_
    refine tt_iconst (x := 1) O dL_law_1643 rfl ?_
    refine tt_iadd O dL_law_1644 ?_
    refine tt_sld O V I.2.1 dL_law_1645 ?_
    refine tt_callM O [.int (xs (i + 1).toNatClampNeg)] [] (M8 lm pm1 m1) LL_188 obj_124 rfl rfl rfl dL_law_1646 (lw_fit rfl (by show k + 1 ≤ 90004; omega) (by show n + 6 ≤ 90024; omega)) rfl ?_
    refine tt_istore O dL_law_1649 (hN 6 rfl) rfl ?_
    refine tt_aload_n O 5 dL_law_1651 rfl rfl ?_
    refine tt_callM O [] [] MT LL_107 obj_124 rfl rfl rfl dL_law_1652 (lw_fit rfl (by show k + 1 + 0 ≤ 90004; omega) (by show n + 6 + 0 ≤ 90024; omega)) rfl ?_
    refine tt_iload O 1 dL_law_1655 rfl ?_
    refine tt_icmp_eq O 1662 dL_law_1657 (by decide) rfl ?_
    refine tt_iload O 1 dL_law_1662 rfl ?_
    refine tt_if_ne O 1679 dL_law_1664 (by decide) (fun _ => ?_) (fun c => absurd c hne)
    refine tt_goto O 1863 dL_law_1679 (by decide) ?_
    refine r_sub [2, 3, 4, 5, 6] rfl ?_
    exact r_widen (by show k + 1 + 0 + 0 ≤ k + 4; omega) (by show n + 6 + 0 + 0 ≤ n + 24; omega) K
theorem g_LW_append : g_LW 194 yL_append cL_append 4 3 [(0, 9, 12, 13), (0, 9, 15, 21)] := ⟨gW_in (i := 1057) (by decide +kernel) rfl, gW_in (i := 72) (by decide +kernel) rfl, gW_in (i := 1059) (by decide +kernel) rfl, by decide +kernel, gW_in (i := 1058) (by decide +kernel) rfl⟩
set_option maxRecDepth 100000 in
set_option maxHeartbeats 4000000 in
theorem lc_append (Z : lw_O X) (V : lw_V X b L xs) (I : lw_I L i) (R : g_Rel m s pm) (hk : k ≤ 90000) (hnn : n ≤ 90000) (kk : lw_K X (k + 4) (n + 24) (lw_lc X b i)) : lw_E X k n m (s, lm, pm) 1723 (lw_lc X b i) := by
  obtain ⟨O, Y, hs, hn⟩ := Z
  have hN : ∀ j, Nat.blt j 9 = true → j < g_xn X := fun j h => by rw [hn]; exact g_blt.mp h
  obtain ⟨p1, p2⟩ := lw_pasts R
  have M := met_L_append (g_xl X) hs m s lm pm (xs (i + 1).toNatClampNeg) R.I R.p4
  have M8 := fun (lm : Nat → Int64) (pm : Nat → Nat) (m : Nat → Int32) => met_X8_append (g_xl X) hs lm pm m s (xs (i + 1).toNatClampNeg) R.T.2.1.1 R.T.2.1.2
  have RF := Ref_append R (xs (i + 1).toNatClampNeg)
  generalize R_X7_append m pm (xs (i + 1).toNatClampNeg) = r7 at M RF
  generalize R_X8_append s (xs (i + 1).toNatClampNeg) = r8 at M8 RF
  obtain ⟨o, m1, pm1⟩ := r7
  obtain ⟨v8, s8⟩ := r8
  obtain ⟨R1, RF⟩ := RF
  have R1 : g_Rel m1 s8 pm1 := R1
  dsimp only at M8
  rcases RF with ⟨v, hv, h0, he⟩ | ⟨E, hE, hv, h0⟩
  · have hv : o = .inl (some (.int v)) := hv
    have z0 : s8 1302 = 0 := h0
    have he : v = v8 := he
    subst hv; subst he
    dsimp only [g_w] at M
    obtain ⟨res, hr, K⟩ := kk m1 s8 (vp_updL lm 1 v.toInt64) pm1 R1
    refine ⟨res, hr, ?_⟩
    have MT := met_X8_thrown (g_xl X) hs (vp_updL lm 1 v.toInt64) pm1 m1 s8
    dsimp only [R_X8_thrown] at MT
    rw [z0] at MT
    unfold lw_lc at K ⊢
    refine tt_aload_n O 2 dL_law_1723 rfl rfl ?_
    refine tt_aload_n O 1 dL_law_1724 rfl rfl ?_
    refine tt_iload O 0 dL_law_1725 rfl ?_
    refine tt_iconst (x := 1) O dL_law_1727 rfl ?_
    refine tt_iadd O dL_law_1728 ?_
    refine tt_sld O V I.2.1 dL_law_1729 ?_
    refine tt_aload_n O 4 dL_law_1730 rfl rfl ?_
    refine tt_callS O Y [.ref (g_ad X 122), .int (xs (i + 1).toNatClampNeg), .ref (g_ad X 129)] [] M g_LW_append rfl rfl rfl dL_law_1731 (lw_fit rfl (by omega) (by omega)) rfl ?_
    refine tt_istore O dL_law_1734 (hN 5 rfl) rfl ?_
    refine tt_aload_n O 4 dL_law_1736 rfl rfl ?_
    refine tt_aload_n O 2 dL_law_1737 rfl rfl ?_
    refine tt_iload O 1 dL_law_1738 rfl ?_
    refine tt_iconst (x := 1) O dL_law_1740 rfl ?_
    refine tt_iadd O dL_law_1741 ?_
    refine tt_sld O V I.2.1 dL_law_1742 ?_
    refine tt_callM O [.int (xs (i + 1).toNatClampNeg)] [] (M8 (vp_updL lm 1 v.toInt64) pm1 m1) LL_196 obj_124 rfl rfl rfl dL_law_1743 (lw_fit rfl (by show k + 2 ≤ 90004; omega) (by show n + 12 ≤ 90024; omega)) rfl ?_
    refine tt_istore O dL_law_1746 (hN 6 rfl) rfl ?_
    refine tt_aload_n O 5 dL_law_1748 rfl rfl ?_
    refine tt_callM O [] [] MT LL_107 obj_124 rfl rfl rfl dL_law_1749 (lw_fit rfl (by show k + 2 + 0 ≤ 90004; omega) (by show n + 12 + 0 ≤ 90024; omega)) rfl ?_
    refine tt_iload O 1 dL_law_1752 rfl ?_
    refine tt_icmp_eq O 1759 dL_law_1754 (by decide) rfl ?_
    refine tt_iload O 1 dL_law_1759 rfl ?_
    refine tt_if_ne O 1776 dL_law_1761 (by decide) (fun c => absurd rfl c) (fun _ => ?_)
    refine tt_aload_n O 6 dL_law_1764 rfl rfl ?_
    refine tt_iconst (x := 0) O dL_law_1765 rfl ?_
    refine tt_lald O R1.p4 dL_law_1766 ?_
    refine tt_iload O 0 dL_law_1767 rfl ?_
    refine tt_i2l O dL_law_1769 ?_
    refine tt_lcmp O dL_law_1770 ?_
    refine tt_if_eq O 1776 dL_law_1771 (by decide) (fun _ => ?_) (fun c => absurd (by rw [pk_uLs]; exact lg_cmp_self _) c)
    refine tt_goto O 1863 dL_law_1776 (by decide) ?_
    refine r_sub [2, 3, 4, 5, 6] rfl ?_
    exact r_widen (by show k + 2 + 0 + 0 ≤ k + 4; omega) (by show n + 12 + 0 + 0 ≤ n + 24; omega) K
  · have hv : o = .inr E := hv
    have z0 : s8 1302 = _ := h0
    subst hv
    have hne : ¬ g_k ["java/lang/IllegalArgumentException", "java/lang/IllegalStateException"] E 1 = 0 := by
      simp only [List.mem_cons, List.not_mem_nil, or_false] at hE
      rcases hE with rfl | rfl <;> decide +kernel
    dsimp only [g_w] at M
    obtain ⟨res, hr, K⟩ := kk m1 s8 lm pm1 R1
    refine ⟨res, hr, ?_⟩
    have MT := met_X8_thrown (g_xl X) hs lm pm1 m1 s8
    dsimp only [R_X8_thrown] at MT
    rw [z0] at MT
    unfold lw_lc at K ⊢
    refine tt_aload_n O 2 dL_law_1723 rfl rfl ?_
    refine tt_aload_n O 1 dL_law_1724 rfl rfl ?_
    refine tt_iload O 0 dL_law_1725 rfl ?_
    refine tt_iconst (x := 1) O dL_law_1727 rfl ?_
    refine tt_iadd O dL_law_1728 ?_
    refine tt_sld O V I.2.1 dL_law_1729 ?_
    refine tt_aload_n O 4 dL_law_1730 rfl rfl ?_
    refine tt_callS O Y [.ref (g_ad X 122), .int (xs (i + 1).toNatClampNeg), .ref (g_ad X 129)] [] M g_LW_append rfl rfl rfl dL_law_1731 (lw_fit rfl (by omega) (by omega)) rfl ?_
    refine tt_istore O dL_law_1734 (hN 5 rfl) rfl ?_
    refine tt_aload_n O 4 dL_law_1736 rfl rfl ?_
    refine tt_aload_n O 2 dL_law_1737 rfl rfl ?_
    refine tt_iload O 1 dL_law_1738 rfl ?_
    refine tt_iconst (x := 1) O dL_law_1740 rfl ?_
    refine tt_iadd O dL_law_1741 ?_
    refine tt_sld O V I.2.1 dL_law_1742 ?_
    refine tt_callM O [.int (xs (i + 1).toNatClampNeg)] [] (M8 lm pm1 m1) LL_196 obj_124 rfl rfl rfl dL_law_1743 (lw_fit rfl (by show k + 2 ≤ 90004; omega) (by show n + 12 ≤ 90024; omega)) rfl ?_
    refine tt_istore O dL_law_1746 (hN 6 rfl) rfl ?_
    refine tt_aload_n O 5 dL_law_1748 rfl rfl ?_
    refine tt_callM O [] [] MT LL_107 obj_124 rfl rfl rfl dL_law_1749 (lw_fit rfl (by show k + 2 + 0 ≤ 90004; omega) (by show n + 12 + 0 ≤ 90024; omega)) rfl ?_
    refine tt_iload O 1 dL_law_1752 rfl ?_
    refine tt_icmp_eq O 1759 dL_law_1754 (by decide) rfl ?_
    refine tt_iload O 1 dL_law_1759 rfl ?_
    refine tt_if_ne O 1776 dL_law_1761 (by decide) (fun _ => ?_) (fun c => absurd c hne)
    refine tt_goto O 1863 dL_law_1776 (by decide) ?_
    refine r_sub [2, 3, 4, 5, 6] rfl ?_
    exact r_widen (by show k + 2 + 0 + 0 ≤ k + 4; omega) (by show n + 12 + 0 + 0 ≤ n + 24; omega) K
theorem g_LW_undo : g_LW 205 yL_undo cL_undo 3 2 [(0, 8, 11, 21)] := ⟨gW_in (i := 1068) (by decide +kernel) rfl, gW_in (i := 72) (by decide +kernel) rfl, gW_in (i := 1070) (by decide +kernel) rfl, by decide +kernel, gW_in (i := 1069) (by decide +kernel) rfl⟩
set_option maxRecDepth 100000 in
set_option maxHeartbeats 4000000 in
theorem lc_undo (Z : lw_O X) (V : lw_V X b L xs) (I : lw_I L i) (R : g_Rel m s pm) (hk : k ≤ 90000) (hnn : n ≤ 90000) (kk : lw_K X (k + 4) (n + 24) (lw_lc X b i)) : lw_E X k n m (s, lm, pm) 1805 (lw_lc X b i) := by
  obtain ⟨O, Y, hs, hn⟩ := Z
  have hN : ∀ j, Nat.blt j 9 = true → j < g_xn X := fun j h => by rw [hn]; exact g_blt.mp h
  obtain ⟨p1, p2⟩ := lw_pasts R
  have M := met_L_undo (g_xl X) hs m s lm pm  R.I R.p4
  have M8 := fun (lm : Nat → Int64) (pm : Nat → Nat) (m : Nat → Int32) => met_X8_undo (g_xl X) hs lm pm m s  p1 p2
  have RF := Ref_undo R 
  generalize R_X7_undo m pm  = r7 at M RF
  generalize R_X8_undo s  = r8 at M8 RF
  obtain ⟨o, m1, pm1⟩ := r7
  obtain ⟨v8, s8⟩ := r8
  obtain ⟨R1, RF⟩ := RF
  have R1 : g_Rel m1 s8 pm1 := R1
  dsimp only at M8
  rcases RF with ⟨v, hv, h0, he⟩ | ⟨E, hE, hv, h0⟩
  · have hv : o = .inl (some (.int v)) := hv
    have z0 : s8 1302 = 0 := h0
    have he : v = v8 := he
    subst hv; subst he
    dsimp only [g_w] at M
    obtain ⟨res, hr, K⟩ := kk m1 s8 (vp_updL lm 1 v.toInt64) pm1 R1
    refine ⟨res, hr, ?_⟩
    have MT := met_X8_thrown (g_xl X) hs (vp_updL lm 1 v.toInt64) pm1 m1 s8
    dsimp only [R_X8_thrown] at MT
    rw [z0] at MT
    unfold lw_lc at K ⊢
    refine tt_aload_n O 2 dL_law_1805 rfl rfl ?_
    refine tt_aload_n O 4 dL_law_1806 rfl rfl ?_
    refine tt_callS O Y [.ref (g_ad X 122), .ref (g_ad X 129)] [] M g_LW_undo rfl rfl rfl dL_law_1807 (lw_fit rfl (by omega) (by omega)) rfl ?_
    refine tt_istore O dL_law_1810 (hN 5 rfl) rfl ?_
    refine tt_aload_n O 4 dL_law_1812 rfl rfl ?_
    refine tt_callM O [] [] (M8 (vp_updL lm 1 v.toInt64) pm1 m1) LL_208 obj_124 rfl rfl rfl dL_law_1813 (lw_fit rfl (by show k + 1 ≤ 90004; omega) (by show n + 6 ≤ 90024; omega)) rfl ?_
    refine tt_istore O dL_law_1816 (hN 6 rfl) rfl ?_
    refine tt_aload_n O 5 dL_law_1818 rfl rfl ?_
    refine tt_callM O [] [] MT LL_107 obj_124 rfl rfl rfl dL_law_1819 (lw_fit rfl (by show k + 1 + 0 ≤ 90004; omega) (by show n + 6 + 0 ≤ 90024; omega)) rfl ?_
    refine tt_iload O 1 dL_law_1822 rfl ?_
    refine tt_icmp_eq O 1829 dL_law_1824 (by decide) rfl ?_
    refine tt_iload O 1 dL_law_1829 rfl ?_
    refine tt_if_ne O 1846 dL_law_1831 (by decide) (fun c => absurd rfl c) (fun _ => ?_)
    refine tt_aload_n O 6 dL_law_1834 rfl rfl ?_
    refine tt_iconst (x := 0) O dL_law_1835 rfl ?_
    refine tt_lald O R1.p4 dL_law_1836 ?_
    refine tt_iload O 0 dL_law_1837 rfl ?_
    refine tt_i2l O dL_law_1839 ?_
    refine tt_lcmp O dL_law_1840 ?_
    refine tt_if_eq O 1846 dL_law_1841 (by decide) (fun _ => ?_) (fun c => absurd (by rw [pk_uLs]; exact lg_cmp_self _) c)
    refine tt_goto O 1863 dL_law_1846 (by decide) ?_
    refine r_sub [2, 3, 4, 5, 6] rfl ?_
    exact r_widen (by show k + 1 + 0 + 0 ≤ k + 4; omega) (by show n + 6 + 0 + 0 ≤ n + 24; omega) K
  · have hv : o = .inr E := hv
    have z0 : s8 1302 = _ := h0
    subst hv
    have hne : ¬ g_k ["java/lang/IllegalStateException"] E 1 = 0 := by
      simp only [List.mem_cons, List.not_mem_nil, or_false] at hE
      rcases hE with rfl <;> decide +kernel
    dsimp only [g_w] at M
    obtain ⟨res, hr, K⟩ := kk m1 s8 lm pm1 R1
    refine ⟨res, hr, ?_⟩
    have MT := met_X8_thrown (g_xl X) hs lm pm1 m1 s8
    dsimp only [R_X8_thrown] at MT
    rw [z0] at MT
    unfold lw_lc at K ⊢
    refine tt_aload_n O 2 dL_law_1805 rfl rfl ?_
    refine tt_aload_n O 4 dL_law_1806 rfl rfl ?_
    refine tt_callS O Y [.ref (g_ad X 122), .ref (g_ad X 129)] [] M g_LW_undo rfl rfl rfl dL_law_1807 (lw_fit rfl (by omega) (by omega)) rfl ?_
    refine tt_istore O dL_law_1810 (hN 5 rfl) rfl ?_
    refine tt_aload_n O 4 dL_law_1812 rfl rfl ?_
    refine tt_callM O [] [] (M8 lm pm1 m1) LL_208 obj_124 rfl rfl rfl dL_law_1813 (lw_fit rfl (by show k + 1 ≤ 90004; omega) (by show n + 6 ≤ 90024; omega)) rfl ?_
    refine tt_istore O dL_law_1816 (hN 6 rfl) rfl ?_
    refine tt_aload_n O 5 dL_law_1818 rfl rfl ?_
    refine tt_callM O [] [] MT LL_107 obj_124 rfl rfl rfl dL_law_1819 (lw_fit rfl (by show k + 1 + 0 ≤ 90004; omega) (by show n + 6 + 0 ≤ 90024; omega)) rfl ?_
    refine tt_iload O 1 dL_law_1822 rfl ?_
    refine tt_icmp_eq O 1829 dL_law_1824 (by decide) rfl ?_
    refine tt_iload O 1 dL_law_1829 rfl ?_
    refine tt_if_ne O 1846 dL_law_1831 (by decide) (fun _ => ?_) (fun c => absurd c hne)
    refine tt_goto O 1863 dL_law_1846 (by decide) ?_
    refine r_sub [2, 3, 4, 5, 6] rfl ?_
    exact r_widen (by show k + 1 + 0 + 0 ≤ k + 4; omega) (by show n + 6 + 0 + 0 ≤ n + 24; omega) K
end LC2
