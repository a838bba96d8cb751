/-! ===== the law's body: the plain cases ===== -/
section LP
variable {X : g_X} {m s : Nat → Int32} {lm : Nat → Int64} {pm : Nat → Nat} {k n b L : Nat} {xs : Nat → Int32} {i : Int32}
set_option maxRecDepth 100000 in
set_option maxHeartbeats 4000000 in
theorem lc_carryMinutes (Z : lw_O X) (V : lw_V X b L xs) (I : lw_I L i) (R : g_Rel m s pm) (hk : k ≤ 90000) (hnn : n ≤ 90000) (kk : lw_K X (k + 4) (n + 24) (lw_lc X b i)) : lw_E X k n m (s, lm, pm) 1600 (lw_lc X b i) := by
  obtain ⟨O, Y, hs, hn⟩ := Z
  have hN : ∀ j, Nat.blt j 9 = true → j < g_xn X := fun j h => by rw [hn]; exact g_blt.mp h
  obtain ⟨p1, p2⟩ := lw_pasts R
  obtain ⟨⟨a0, a1⟩, ⟨b0, b1⟩, ⟨c0, c1⟩, ⟨d0, d1⟩, ⟨e0, e1⟩, -, -, -⟩ := R.I.1
  have M := met_X7_carryMinutes (g_xl X) hs (s, lm, pm) m a1
  have M8 := met_X8_carryMinutes (g_xl X) hs lm pm m s R.J
  obtain ⟨he, R1⟩ := Ref_carryMinutes R
  generalize R_X7_carryMinutes m = v at M he
  generalize R_X8_carryMinutes s = r8 at M8 he R1
  obtain ⟨v8, s8⟩ := r8
  have he : v = v8 := he
  have R1 : g_Rel m s8 pm := R1
  subst he
  dsimp only at M M8
  obtain ⟨res, hr, K⟩ := kk m s8 lm pm R1
  refine ⟨res, hr, ?_⟩
  unfold lw_lc at K ⊢
  refine tt_aload_n O 2 dL_law_1600 rfl rfl ?_
  refine tt_callM O [] [] M LL_178 obj_122 rfl rfl rfl dL_law_1601 (lw_fit rfl (by show k ≤ 90004; omega) (by show n ≤ 90024; omega)) rfl ?_
  refine tt_aload_n O 3 dL_law_1604 rfl rfl ?_
  refine tt_callM O [] [.int v] M8 LL_181 obj_124 rfl rfl rfl dL_law_1605 (lw_fit rfl (by show k + 0 ≤ 90004; omega) (by show n + 0 ≤ 90024; omega)) rfl ?_
  refine tt_icmp_eq O 1863 dL_law_1608 (by decide) rfl ?_
  exact r_widen (by show k + 0 + 0 ≤ k + 4; omega) (by show n + 0 + 0 ≤ n + 24; omega) K
set_option maxRecDepth 100000 in
set_option maxHeartbeats 4000000 in
theorem lc_team (Z : lw_O X) (V : lw_V X b L xs) (I : lw_I L i) (R : g_Rel m s pm) (hk : k ≤ 90000) (hnn : n ≤ 90000) (kk : lw_K X (k + 4) (n + 24) (lw_lc X b i)) : lw_E X k n m (s, lm, pm) 1613 (lw_lc X b i) := by
  obtain ⟨O, Y, hs, hn⟩ := Z
  have hN : ∀ j, Nat.blt j 9 = true → j < g_xn X := fun j h => by rw [hn]; exact g_blt.mp h
  obtain ⟨p1, p2⟩ := lw_pasts R
  obtain ⟨⟨a0, a1⟩, ⟨b0, b1⟩, ⟨c0, c1⟩, ⟨d0, d1⟩, ⟨e0, e1⟩, -, -, -⟩ := R.I.1
  have M := met_X7_team (g_xl X) hs (s, lm, pm) m a1 c1
  have M8 := met_X8_team (g_xl X) hs lm pm m s R.J
  obtain ⟨he, R1⟩ := Ref_team R
  generalize R_X7_team m = v at M he
  generalize R_X8_team s = r8 at M8 he R1
  obtain ⟨v8, s8⟩ := r8
  have he : v = v8 := he
  have R1 : g_Rel m s8 pm := R1
  subst he
  dsimp only at M M8
  obtain ⟨res, hr, K⟩ := kk m s8 lm pm R1
  refine ⟨res, hr, ?_⟩
  unfold lw_lc at K ⊢
  refine tt_aload_n O 2 dL_law_1613 rfl rfl ?_
  refine tt_callM O [] [] M LL_182 obj_122 rfl rfl rfl dL_law_1614 (lw_fit rfl (by show k ≤ 90004; omega) (by show n ≤ 90024; omega)) rfl ?_
  refine tt_aload_n O 3 dL_law_1617 rfl rfl ?_
  refine tt_callM O [] [.int v] M8 LL_185 obj_124 rfl rfl rfl dL_law_1618 (lw_fit rfl (by show k + 0 ≤ 90004; omega) (by show n + 0 ≤ 90024; omega)) rfl ?_
  refine tt_icmp_eq O 1863 dL_law_1621 (by decide) rfl ?_
  exact r_widen (by show k + 0 + 0 ≤ k + 4; omega) (by show n + 0 + 0 ≤ n + 24; omega) K
set_option maxRecDepth 100000 in
set_option maxHeartbeats 4000000 in
theorem lc_clearText (Z : lw_O X) (V : lw_V X b L xs) (I : lw_I L i) (R : g_Rel m s pm) (hk : k ≤ 90000) (hnn : n ≤ 90000) (kk : lw_K X (k + 4) (n + 24) (lw_lc X b i)) : lw_E X k n m (s, lm, pm) 1779 (lw_lc X b i) := by
  obtain ⟨O, Y, hs, hn⟩ := Z
  have hN : ∀ j, Nat.blt j 9 = true → j < g_xn X := fun j h => by rw [hn]; exact g_blt.mp h
  obtain ⟨p1, p2⟩ := lw_pasts R
  obtain ⟨⟨a0, a1⟩, ⟨b0, b1⟩, ⟨c0, c1⟩, ⟨d0, d1⟩, ⟨e0, e1⟩, -, -, -⟩ := R.I.1
  have M := met_X7_clearText (g_xl X) hs (s, lm, pm) m
  have M8 := fun (m : Nat → Int32) => met_X8_clearText (g_xl X) hs lm pm m s
  obtain ⟨he, R1⟩ := Ref_clearText R
  generalize R_X7_clearText m = r7 at M he R1
  generalize R_X8_clearText s = r8 at M8 he R1
  obtain ⟨v, m1⟩ := r7
  obtain ⟨v8, s8⟩ := r8
  have he : v = v8 := he
  have R1 : g_Rel m1 s8 pm := R1
  subst he
  dsimp only at M M8
  obtain ⟨res, hr, K⟩ := kk m1 s8 lm pm R1
  refine ⟨res, hr, ?_⟩
  unfold lw_lc at K ⊢
  refine tt_aload_n O 2 dL_law_1779 rfl rfl ?_
  refine tt_callM O [] [] M LL_197 obj_122 rfl rfl rfl dL_law_1780 (lw_fit rfl (by show k ≤ 90004; omega) (by show n ≤ 90024; omega)) rfl ?_
  refine tt_aload_n O 3 dL_law_1783 rfl rfl ?_
  refine tt_callM O [] [.int v] (M8 m1) LL_200 obj_124 rfl rfl rfl dL_law_1784 (lw_fit rfl (by show k + 0 ≤ 90004; omega) (by show n + 0 ≤ 90024; omega)) rfl ?_
  refine tt_icmp_eq O 1863 dL_law_1787 (by decide) rfl ?_
  exact r_widen (by show k + 0 + 0 ≤ k + 4; omega) (by show n + 0 + 0 ≤ n + 24; omega) K
set_option maxRecDepth 100000 in
set_option maxHeartbeats 4000000 in
theorem lc_carryOut (Z : lw_O X) (V : lw_V X b L xs) (I : lw_I L i) (R : g_Rel m s pm) (hk : k ≤ 90000) (hnn : n ≤ 90000) (kk : lw_K X (k + 4) (n + 24) (lw_lc X b i)) : lw_E X k n m (s, lm, pm) 1792 (lw_lc X b i) := by
  obtain ⟨O, Y, hs, hn⟩ := Z
  have hN : ∀ j, Nat.blt j 9 = true → j < g_xn X := fun j h => by rw [hn]; exact g_blt.mp h
  obtain ⟨p1, p2⟩ := lw_pasts R
  obtain ⟨⟨a0, a1⟩, ⟨b0, b1⟩, ⟨c0, c1⟩, ⟨d0, d1⟩, ⟨e0, e1⟩, -, -, -⟩ := R.I.1
  have M := met_X7_carryOut (g_xl X) hs s lm m pm R.I (pre_carryOut R)
  have M8 := fun (m : Nat → Int32) (pm : Nat → Nat) => met_X8_carryOut (g_xl X) hs lm pm m s R.J p1 p2 R.T.2.1.1 R.T.2.1.2
  obtain ⟨he, R1⟩ := Ref_carryOut R
  generalize R_X7_carryOut m pm = r7 at M he R1
  generalize R_X8_carryOut s = r8 at M8 he R1
  obtain ⟨o, m1, pm1⟩ := r7
  obtain ⟨v8, s8⟩ := r8
  have he : o = .inl (some (.int v8)) := he
  have R1 : g_Rel m1 s8 pm1 := R1
  subst he
  dsimp only at M M8
  obtain ⟨res, hr, K⟩ := kk m1 s8 lm pm1 R1
  refine ⟨res, hr, ?_⟩
  unfold lw_lc at K ⊢
  refine tt_aload_n O 2 dL_law_1792 rfl rfl ?_
  refine tt_callVi O Y [] [] M LL_201 obj_122 rfl rfl rfl dL_law_1793 (lw_fit rfl (by show k ≤ 90004; omega) (by show n ≤ 90024; omega)) rfl ?_
  refine tt_aload_n O 3 dL_law_1796 rfl rfl ?_
  refine tt_callM O [] [.int v8] (M8 m1 pm1) LL_204 obj_124 rfl rfl rfl dL_law_1797 (lw_fit rfl (by show k + 0 ≤ 90004; omega) (by show n + 0 ≤ 90024; omega)) rfl ?_
  refine tt_icmp_eq O 1863 dL_law_1800 (by decide) rfl ?_
  exact r_widen (by show k + 0 + 0 ≤ k + 4; omega) (by show n + 0 + 0 ≤ n + 24; omega) K
set_option maxRecDepth 100000 in
set_option maxHeartbeats 4000000 in
theorem lc_digest (Z : lw_O X) (V : lw_V X b L xs) (I : lw_I L i) (R : g_Rel m s pm) (hk : k ≤ 90000) (hnn : n ≤ 90000) (kk : lw_K X (k + 4) (n + 24) (lw_lc X b i)) : lw_E X k n m (s, lm, pm) 1849 (lw_lc X b i) := by
  obtain ⟨O, Y, hs, hn⟩ := Z
  have hN : ∀ j, Nat.blt j 9 = true → j < g_xn X := fun j h => by rw [hn]; exact g_blt.mp h
  obtain ⟨p1, p2⟩ := lw_pasts R
  obtain ⟨⟨a0, a1⟩, ⟨b0, b1⟩, ⟨c0, c1⟩, ⟨d0, d1⟩, ⟨e0, e1⟩, -, -, -⟩ := R.I.1
  have M := met_X7_digest (g_xl X) hs (s, lm, pm) m a1 b1 c1 d0 d1 e1
  have M8 := met_X8_digest (g_xl X) hs pm m s lm R.J
  obtain ⟨he, R1⟩ := Ref_digest R lm
  generalize R_X7_digest m = v at M he
  generalize R_X8_digest s lm = r8 at M8 he R1
  obtain ⟨v8, s8, lm8⟩ := r8
  have he : v = v8 := he
  have R1 : g_Rel m s8 pm := R1
  subst he
  dsimp only at M M8
  obtain ⟨res, hr, K⟩ := kk m s8 lm8 pm R1
  refine ⟨res, hr, ?_⟩
  unfold lw_lc at K ⊢
  refine tt_aload_n O 2 dL_law_1849 rfl rfl ?_
  refine tt_callM O [] [] M LL_209 obj_122 rfl rfl rfl dL_law_1850 (lw_fit rfl (by show k ≤ 90004; omega) (by show n ≤ 90024; omega)) rfl ?_
  refine tt_aload_n O 3 dL_law_1853 rfl rfl ?_
  refine tt_callM O [] [.long v] M8 LL_213 obj_124 rfl rfl rfl dL_law_1854 (lw_fit rfl (by show k + 0 ≤ 90004; omega) (by show n + 0 ≤ 90024; omega)) rfl ?_
  refine tt_lcmp O dL_law_1857 ?_
  refine tt_if_eq O 1863 dL_law_1858 (by decide) (fun _ => ?_) (fun c => absurd (lg_cmp_self _) c)
  exact r_widen (by show k + 0 + 0 ≤ k + 4; omega) (by show n + 0 + 0 ≤ n + 24; omega) K
theorem mean_self (m : Nat → Int32) : FP.dcmp (R_X7_meanTiredness m) (R_X7_meanTiredness m) = some .eq := by
  unfold R_X7_meanTiredness
  split
  · decide +kernel
  · next h => exact d_self h
set_option maxRecDepth 100000 in
set_option maxHeartbeats 4000000 in
theorem lc_meanTiredness (Z : lw_O X) (V : lw_V X b L xs) (I : lw_I L i) (R : g_Rel m s pm) (hk : k ≤ 90000) (hnn : n ≤ 90000) (kk : lw_K X (k + 4) (n + 24) (lw_lc X b i)) : lw_E X k n m (s, lm, pm) 1682 (lw_lc X b i) := by
  obtain ⟨O, Y, hs, hn⟩ := Z
  have hN : ∀ j, Nat.blt j 9 = true → j < g_xn X := fun j h => by rw [hn]; exact g_blt.mp h
  obtain ⟨p1, p2⟩ := lw_pasts R
  obtain ⟨⟨a0, a1⟩, ⟨b0, b1⟩, ⟨c0, c1⟩, ⟨d0, d1⟩, ⟨e0, e1⟩, -, -, -⟩ := R.I.1
  have hq : (s 2).toInt ≤ 6 := by have := R.J.n; omega
  have M := met_X7_meanTiredness (g_xl X) hs (s, lm, pm) m c1
  have M8 := met_X8_meanTiredness (g_xl X) hs lm pm m s hq
  obtain ⟨he, R1⟩ := Ref_mean R
  have hd := mean_self m
  generalize R_X7_meanTiredness m = v at M he hd
  generalize R_X8_meanTiredness s = r8 at M8 he R1
  obtain ⟨v8, s8⟩ := r8
  have he : v = v8 := he
  have R1 : g_Rel m s8 pm := R1
  subst he
  dsimp only at M M8
  obtain ⟨res, hr, K⟩ := kk m s8 lm pm R1
  refine ⟨res, hr, ?_⟩
  unfold lw_lc at K ⊢
  refine tt_aload_n O 2 dL_law_1682 rfl rfl ?_
  refine tt_callM O [] [] M LL_189 obj_122 rfl rfl rfl dL_law_1683 (lw_fit rfl (by show k ≤ 90004; omega) (by show n ≤ 90024; omega)) rfl ?_
  refine tt_dstore O dL_law_1686 (hN 6 rfl) rfl ?_
  refine tt_aload_n O 4 dL_law_1688 rfl rfl ?_
  refine tt_callM O [] [] M8 LL_193 obj_124 rfl rfl rfl dL_law_1689 (lw_fit rfl (by show k + 0 ≤ 90004; omega) (by show n + 0 ≤ 90024; omega)) rfl ?_
  refine tt_dstore O dL_law_1692 (hN 8 rfl) rfl ?_
  refine tt_dload O 1 dL_law_1694 rfl ?_
  refine tt_dload O 0 dL_law_1696 rfl ?_
  refine tt_dcmp O dL_law_1698 ?_
  rw [hd]
  refine tt_if_eq O 1720 dL_law_1699 (by decide) (fun _ => ?_) (fun c => absurd rfl c)
  refine tt_goto O 1863 dL_law_1720 (by decide) ?_
  refine r_sub [2, 3, 4, 5, 6] rfl ?_
  exact r_widen (by show k + 0 + 0 ≤ k + 4; omega) (by show n + 0 + 0 ≤ n + 24; omega) K
end LP
