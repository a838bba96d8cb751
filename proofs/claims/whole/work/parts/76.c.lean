/-! ===== the law's body: cases 10 to 18 ===== -/
section LC1
variable {X : g_X} {m s : Nat → Int32} {lm : Nat → Int64} {pm : Nat → Nat} {k n b L : Nat} {xs : Nat → Int32} {i : Int32}
theorem g_LW_carry : g_LW 139 yL_carry cL_carry 4 3 [(0, 9, 12, 13), (0, 9, 15, 21)] := ⟨gW_in (i := 928) (by decide +kernel) rfl, gW_in (i := 72) (by decide +kernel) rfl, gW_in (i := 930) (by decide +kernel) rfl, by decide +kernel, gW_in (i := 929) (by decide +kernel) rfl⟩
set_option maxRecDepth 100000 in
set_option maxHeartbeats 4000000 in
theorem lc_carry (Z : lw_O X) (V : lw_V X b L xs) (I : lw_I L i) (R : g_Rel m s pm) (hk : k ≤ 90000) (hnn : n ≤ 90000) (kk : lw_K X (k + 4) (n + 24) (lw_lc X b i)) : lw_E X k n m (s, lm, pm) 800 (lw_lc X b i) := by
  obtain ⟨O, Y, hs, hn⟩ := Z
  have hN : ∀ j, Nat.blt j 9 = true → j < g_xn X := fun j h => by rw [hn]; exact g_blt.mp h
  obtain ⟨p1, p2⟩ := lw_pasts R
  have M := met_L_carry (g_xl X) hs m s lm pm (xs (i + 1).toNatClampNeg) R.I R.p4
  have M8 := fun (lm : Nat → Int64) (pm : Nat → Nat) (m : Nat → Int32) => met_X8_carry (g_xl X) hs lm pm m s (xs (i + 1).toNatClampNeg) R.J p1 p2
  have RF := Ref_carry R (xs (i + 1).toNatClampNeg)
  generalize R_X7_carry m pm (xs (i + 1).toNatClampNeg) = r7 at M RF
  generalize R_X8_carry s (xs (i + 1).toNatClampNeg) = r8 at M8 RF
  obtain ⟨o, m1, pm1⟩ := r7
  obtain ⟨v8, s8⟩ := r8
  obtain ⟨R1, RF⟩ := RF
  have R1 : g_Rel m1 s8 pm1 := R1
  dsimp only at M8
  rcases RF with ⟨v, hv, h0, he⟩ | ⟨E, hE, hv, h0⟩
  · have hv : o = .inl (some (.int v)) := hv
    have z0 : s8 1302 = 0 := h0
    have he : v = v8 := he
    subst hv; subst he
    dsimp only [g_w] at M
    obtain ⟨res, hr, K⟩ := kk m1 s8 (vp_updL lm 1 v.toInt64) pm1 R1
    refine ⟨res, hr, ?_⟩
    have MT := met_X8_thrown (g_xl X) hs (vp_updL lm 1 v.toInt64) pm1 m1 s8
    dsimp only [R_X8_thrown] at MT
    rw [z0] at MT
    unfold lw_lc at K ⊢
    refine tt_aload_n O 2 dL_law_800 rfl rfl ?_
    refine tt_aload_n O 1 dL_law_801 rfl rfl ?_
    refine tt_iload O 0 dL_law_802 rfl ?_
    refine tt_iconst (x := 1) O dL_law_804 rfl ?_
    refine tt_iadd O dL_law_805 ?_
    refine tt_sld O V I.2.1 dL_law_806 ?_
    refine tt_aload_n O 4 dL_law_807 rfl rfl ?_
    refine tt_callS O Y [.ref (g_ad X 122), .int (xs (i + 1).toNatClampNeg), .ref (g_ad X 129)] [] M g_LW_carry rfl rfl rfl dL_law_808 (lw_fit rfl (by omega) (by omega)) rfl ?_
    refine tt_istore O dL_law_811 (hN 5 rfl) rfl ?_
    refine tt_aload_n O 4 dL_law_813 rfl rfl ?_
    refine tt_aload_n O 2 dL_law_814 rfl rfl ?_
    refine tt_iload O 1 dL_law_815 rfl ?_
    refine tt_iconst (x := 1) O dL_law_817 rfl ?_
    refine tt_iadd O dL_law_818 ?_
    refine tt_sld O V I.2.1 dL_law_819 ?_
    refine tt_callM O [.int (xs (i + 1).toNatClampNeg)] [] (M8 (vp_updL lm 1 v.toInt64) pm1 m1) LL_141 obj_124 rfl rfl rfl dL_law_820 (lw_fit rfl (by show k + 2 ≤ 90004; omega) (by show n + 12 ≤ 90024; omega)) rfl ?_
    refine tt_istore O dL_law_823 (hN 6 rfl) rfl ?_
    refine tt_aload_n O 5 dL_law_825 rfl rfl ?_
    refine tt_callM O [] [] MT LL_107 obj_124 rfl rfl rfl dL_law_826 (lw_fit rfl (by show k + 2 + 0 ≤ 90004; omega) (by show n + 12 + 0 ≤ 90024; omega)) rfl ?_
    refine tt_iload O 1 dL_law_829 rfl ?_
    refine tt_icmp_eq O 836 dL_law_831 (by decide) rfl ?_
    refine tt_iload O 1 dL_law_836 rfl ?_
    refine tt_if_ne O 853 dL_law_838 (by decide) (fun c => absurd rfl c) (fun _ => ?_)
    refine tt_aload_n O 6 dL_law_841 rfl rfl ?_
    refine tt_iconst (x := 0) O dL_law_842 rfl ?_
    refine tt_lald O R1.p4 dL_law_843 ?_
    refine tt_iload O 0 dL_law_844 rfl ?_
    refine tt_i2l O dL_law_846 ?_
    refine tt_lcmp O dL_law_847 ?_
    refine tt_if_eq O 853 dL_law_848 (by decide) (fun _ => ?_) (fun c => absurd (by rw [pk_uLs]; exact lg_cmp_self _) c)
    refine tt_goto O 1863 dL_law_853 (by decide) ?_
    refine r_sub [2, 3, 4, 5, 6] rfl ?_
    exact r_widen (by show k + 2 + 0 + 0 ≤ k + 4; omega) (by show n + 12 + 0 + 0 ≤ n + 24; omega) K
  · have hv : o = .inr E := hv
    have z0 : s8 1302 = _ := h0
    subst hv
    have hne : ¬ g_k ["java/lang/IllegalArgumentException", "java/lang/IllegalStateException"] E 1 = 0 := by
      simp only [List.mem_cons, List.not_mem_nil, or_false] at hE
      rcases hE with rfl | rfl <;> decide +kernel
    dsimp only [g_w] at M
    obtain ⟨res, hr, K⟩ := kk m1 s8 lm pm1 R1
    refine ⟨res, hr, ?_⟩
    have MT := met_X8_thrown (g_xl X) hs lm pm1 m1 s8
    dsimp only [R_X8_thrown] at MT
    rw [z0] at MT
    unfold lw_lc at K ⊢
    refine tt_aload_n O 2 dL_law_800 rfl rfl ?_
    refine tt_aload_n O 1 dL_law_801 rfl rfl ?_
    refine tt_iload O 0 dL_law_802 rfl ?_
    refine tt_iconst (x := 1) O dL_law_804 rfl ?_
    refine tt_iadd O dL_law_805 ?_
    refine tt_sld O V I.2.1 dL_law_806 ?_
    refine tt_aload_n O 4 dL_law_807 rfl rfl ?_
    refine tt_callS O Y [.ref (g_ad X 122), .int (xs (i + 1).toNatClampNeg), .ref (g_ad X 129)] [] M g_LW_carry rfl rfl rfl dL_law_808 (lw_fit rfl (by omega) (by omega)) rfl ?_
    refine tt_istore O dL_law_811 (hN 5 rfl) rfl ?_
    refine tt_aload_n O 4 dL_law_813 rfl rfl ?_
    refine tt_aload_n O 2 dL_law_814 rfl rfl ?_
    refine tt_iload O 1 dL_law_815 rfl ?_
    refine tt_iconst (x := 1) O dL_law_817 rfl ?_
    refine tt_iadd O dL_law_818 ?_
    refine tt_sld O V I.2.1 dL_law_819 ?_
    refine tt_callM O [.int (xs (i + 1).toNatClampNeg)] [] (M8 lm pm1 m1) LL_141 obj_124 rfl rfl rfl dL_law_820 (lw_fit rfl (by show k + 2 ≤ 90004; omega) (by show n + 12 ≤ 90024; omega)) rfl ?_
    refine tt_istore O dL_law_823 (hN 6 rfl) rfl ?_
    refine tt_aload_n O 5 dL_law_825 rfl rfl ?_
    refine tt_callM O [] [] MT LL_107 obj_124 rfl rfl rfl dL_law_826 (lw_fit rfl (by show k + 2 + 0 ≤ 90004; omega) (by show n + 12 + 0 ≤ 90024; omega)) rfl ?_
    refine tt_iload O 1 dL_law_829 rfl ?_
    refine tt_icmp_eq O 836 dL_law_831 (by decide) rfl ?_
    refine tt_iload O 1 dL_law_836 rfl ?_
    refine tt_if_ne O 853 dL_law_838 (by decide) (fun _ => ?_) (fun c => absurd c hne)
    refine tt_goto O 1863 dL_law_853 (by decide) ?_
    refine r_sub [2, 3, 4, 5, 6] rfl ?_
    exact r_widen (by show k + 2 + 0 + 0 ≤ k + 4; omega) (by show n + 12 + 0 + 0 ≤ n + 24; omega) K
theorem g_LW_send : g_LW 142 yL_send cL_send 4 3 [(0, 9, 12, 19), (0, 9, 15, 21)] := ⟨gW_in (i := 935) (by decide +kernel) rfl, gW_in (i := 72) (by decide +kernel) rfl, gW_in (i := 937) (by decide +kernel) rfl, by decide +kernel, gW_in (i := 936) (by decide +kernel) rfl⟩
set_option maxRecDepth 100000 in
set_option maxHeartbeats 4000000 in
theorem lc_send (Z : lw_O X) (V : lw_V X b L xs) (I : lw_I L i) (R : g_Rel m s pm) (hk : k ≤ 90000) (hnn : n ≤ 90000) (kk : lw_K X (k + 4) (n + 24) (lw_lc X b i)) : lw_E X k n m (s, lm, pm) 856 (lw_lc X b i) := by
  obtain ⟨O, Y, hs, hn⟩ := Z
  have hN : ∀ j, Nat.blt j 9 = true → j < g_xn X := fun j h => by rw [hn]; exact g_blt.mp h
  obtain ⟨p1, p2⟩ := lw_pasts R
  have M := met_L_send (g_xl X) hs m s lm pm (xs (i + 1).toNatClampNeg) R.I R.p4
  have M8 := fun (lm : Nat → Int64) (pm : Nat → Nat) (m : Nat → Int32) => met_X8_send (g_xl X) hs lm pm m s (xs (i + 1).toNatClampNeg) R.J p1 p2
  have RF := Ref_send R (xs (i + 1).toNatClampNeg)
  generalize R_X7_send m pm (xs (i + 1).toNatClampNeg) = r7 at M RF
  generalize R_X8_send s (xs (i + 1).toNatClampNeg) = r8 at M8 RF
  obtain ⟨o, m1, pm1⟩ := r7
  obtain ⟨v8, s8⟩ := r8
  obtain ⟨R1, RF⟩ := RF
  have R1 : g_Rel m1 s8 pm1 := R1
  dsimp only at M8
  rcases RF with ⟨v, hv, h0, he⟩ | ⟨E, hE, hv, h0⟩
  · have hv : o = .inl (some (.int v)) := hv
    have z0 : s8 1302 = 0 := h0
    have he : v = v8 := he
    subst hv; subst he
    dsimp only [g_w] at M
    obtain ⟨res, hr, K⟩ := kk m1 s8 (vp_updL lm 1 v.toInt64) pm1 R1
    refine ⟨res, hr, ?_⟩
    have MT := met_X8_thrown (g_xl X) hs (vp_updL lm 1 v.toInt64) pm1 m1 s8
    dsimp only [R_X8_thrown] at MT
    rw [z0] at MT
    unfold lw_lc at K ⊢
    refine tt_aload_n O 2 dL_law_856 rfl rfl ?_
    refine tt_aload_n O 1 dL_law_857 rfl rfl ?_
    refine tt_iload O 0 dL_law_858 rfl ?_
    refine tt_iconst (x := 1) O dL_law_860 rfl ?_
    refine tt_iadd O dL_law_861 ?_
    refine tt_sld O V I.2.1 dL_law_862 ?_
    refine tt_aload_n O 4 dL_law_863 rfl rfl ?_
    refine tt_callS O Y [.ref (g_ad X 122), .int (xs (i + 1).toNatClampNeg), .ref (g_ad X 129)] [] M g_LW_send rfl rfl rfl dL_law_864 (lw_fit rfl (by omega) (by omega)) rfl ?_
    refine tt_istore O dL_law_867 (hN 5 rfl) rfl ?_
    refine tt_aload_n O 4 dL_law_869 rfl rfl ?_
    refine tt_aload_n O 2 dL_law_870 rfl rfl ?_
    refine tt_iload O 1 dL_law_871 rfl ?_
    refine tt_iconst (x := 1) O dL_law_873 rfl ?_
    refine tt_iadd O dL_law_874 ?_
    refine tt_sld O V I.2.1 dL_law_875 ?_
    refine tt_callM O [.int (xs (i + 1).toNatClampNeg)] [] (M8 (vp_updL lm 1 v.toInt64) pm1 m1) LL_144 obj_124 rfl rfl rfl dL_law_876 (lw_fit rfl (by show k + 2 ≤ 90004; omega) (by show n + 12 ≤ 90024; omega)) rfl ?_
    refine tt_istore O dL_law_879 (hN 6 rfl) rfl ?_
    refine tt_aload_n O 5 dL_law_881 rfl rfl ?_
    refine tt_callM O [] [] MT LL_107 obj_124 rfl rfl rfl dL_law_882 (lw_fit rfl (by show k + 2 + 0 ≤ 90004; omega) (by show n + 12 + 0 ≤ 90024; omega)) rfl ?_
    refine tt_iload O 1 dL_law_885 rfl ?_
    refine tt_icmp_eq O 892 dL_law_887 (by decide) rfl ?_
    refine tt_iload O 1 dL_law_892 rfl ?_
    refine tt_if_ne O 909 dL_law_894 (by decide) (fun c => absurd rfl c) (fun _ => ?_)
    refine tt_aload_n O 6 dL_law_897 rfl rfl ?_
    refine tt_iconst (x := 0) O dL_law_898 rfl ?_
    refine tt_lald O R1.p4 dL_law_899 ?_
    refine tt_iload O 0 dL_law_900 rfl ?_
    refine tt_i2l O dL_law_902 ?_
    refine tt_lcmp O dL_law_903 ?_
    refine tt_if_eq O 909 dL_law_904 (by decide) (fun _ => ?_) (fun c => absurd (by rw [pk_uLs]; exact lg_cmp_self _) c)
    refine tt_goto O 1863 dL_law_909 (by decide) ?_
    refine r_sub [2, 3, 4, 5, 6] rfl ?_
    exact r_widen (by show k + 2 + 0 + 0 ≤ k + 4; omega) (by show n + 12 + 0 + 0 ≤ n + 24; omega) K
  · have hv : o = .inr E := hv
    have z0 : s8 1302 = _ := h0
    subst hv
    have hne : ¬ g_k ["java/lang/IndexOutOfBoundsException", "java/lang/IllegalStateException"] E 1 = 0 := by
      simp only [List.mem_cons, List.not_mem_nil, or_false] at hE
      rcases hE with rfl | rfl <;> decide +kernel
    dsimp only [g_w] at M
    obtain ⟨res, hr, K⟩ := kk m1 s8 lm pm1 R1
    refine ⟨res, hr, ?_⟩
    have MT := met_X8_thrown (g_xl X) hs lm pm1 m1 s8
    dsimp only [R_X8_thrown] at MT
    rw [z0] at MT
    unfold lw_lc at K ⊢
    refine tt_aload_n O 2 dL_law_856 rfl rfl ?_
    refine tt_aload_n O 1 dL_law_857 rfl rfl ?_
    refine tt_iload O 0 dL_law_858 rfl ?_
    refine tt_iconst (x := 1) O dL_law_860 rfl ?_
    refine tt_iadd O dL_law_861 ?_
    refine tt_sld O V I.2.1 dL_law_862 ?_
    refine tt_aload_n O 4 dL_law_863 rfl rfl ?_
    refine tt_callS O Y [.ref (g_ad X 122), .int (xs (i + 1).toNatClampNeg), .ref (g_ad X 129)] [] M g_LW_send rfl rfl rfl dL_law_864 (lw_fit rfl (by omega) (by omega)) rfl ?_
    refine tt_istore O dL_law_867 (hN 5 rfl) rfl ?_
    refine tt_aload_n O 4 dL_law_869 rfl rfl ?_
    refine tt_aload_n O 2 dL_law_870 rfl rfl ?_
    refine tt_iload O 1 dL_law_871 rfl ?_
    refine tt_iconst (x := 1) O dL_law_873 rfl ?_
    refine tt_iadd O dL_law_874 ?_
    refine tt_sld O V I.2.1 dL_law_875 ?_
    refine tt_callM O [.int (xs (i + 1).toNatClampNeg)] [] (M8 lm pm1 m1) LL_144 obj_124 rfl rfl rfl dL_law_876 (lw_fit rfl (by show k + 2 ≤ 90004; omega) (by show n + 12 ≤ 90024; omega)) rfl ?_
    refine tt_istore O dL_law_879 (hN 6 rfl) rfl ?_
    refine tt_aload_n O 5 dL_law_881 rfl rfl ?_
    refine tt_callM O [] [] MT LL_107 obj_124 rfl rfl rfl dL_law_882 (lw_fit rfl (by show k + 2 + 0 ≤ 90004; omega) (by show n + 12 + 0 ≤ 90024; omega)) rfl ?_
    refine tt_iload O 1 dL_law_885 rfl ?_
    refine tt_icmp_eq O 892 dL_law_887 (by decide) rfl ?_
    refine tt_iload O 1 dL_law_892 rfl ?_
    refine tt_if_ne O 909 dL_law_894 (by decide) (fun _ => ?_) (fun c => absurd c hne)
    refine tt_goto O 1863 dL_law_909 (by decide) ?_
    refine r_sub [2, 3, 4, 5, 6] rfl ?_
    exact r_widen (by show k + 2 + 0 + 0 ≤ k + 4; omega) (by show n + 12 + 0 + 0 ≤ n + 24; omega) K
theorem g_LW_pass : g_LW 145 yL_pass cL_pass 4 3 [(0, 9, 12, 13), (0, 9, 15, 21)] := ⟨gW_in (i := 942) (by decide +kernel) rfl, gW_in (i := 72) (by decide +kernel) rfl, gW_in (i := 944) (by decide +kernel) rfl, by decide +kernel, gW_in (i := 943) (by decide +kernel) rfl⟩
set_option maxRecDepth 100000 in
set_option maxHeartbeats 4000000 in
theorem lc_pass (Z : lw_O X) (V : lw_V X b L xs) (I : lw_I L i) (R : g_Rel m s pm) (hk : k ≤ 90000) (hnn : n ≤ 90000) (kk : lw_K X (k + 4) (n + 24) (lw_lc X b i)) : lw_E X k n m (s, lm, pm) 912 (lw_lc X b i) := by
  obtain ⟨O, Y, hs, hn⟩ := Z
  have hN : ∀ j, Nat.blt j 9 = true → j < g_xn X := fun j h => by rw [hn]; exact g_blt.mp h
  obtain ⟨p1, p2⟩ := lw_pasts R
  have M := met_L_pass (g_xl X) hs m s lm pm (xs (i + 1).toNatClampNeg) R.I R.p4
  have M8 := fun (lm : Nat → Int64) (pm : Nat → Nat) (m : Nat → Int32) => met_X8_pass (g_xl X) hs lm pm m s (xs (i + 1).toNatClampNeg) R.J p1 p2
  have RF := Ref_pass R (xs (i + 1).toNatClampNeg)
  generalize R_X7_pass m pm (xs (i + 1).toNatClampNeg) = r7 at M RF
  generalize R_X8_pass s (xs (i + 1).toNatClampNeg) = r8 at M8 RF
  obtain ⟨o, m1, pm1⟩ := r7
  obtain ⟨v8, s8⟩ := r8
  obtain ⟨R1, RF⟩ := RF
  have R1 : g_Rel m1 s8 pm1 := R1
  dsimp only at M8
  rcases RF with ⟨v, hv, h0, he⟩ | ⟨E, hE, hv, h0⟩
  · have hv : o = .inl (some (.int v)) := hv
    have z0 : s8 1302 = 0 := h0
    have he : v = v8 := he
    subst hv; subst he
    dsimp only [g_w] at M
    obtain ⟨res, hr, K⟩ := kk m1 s8 (vp_updL lm 1 v.toInt64) pm1 R1
    refine ⟨res, hr, ?_⟩
    have MT := met_X8_thrown (g_xl X) hs (vp_updL lm 1 v.toInt64) pm1 m1 s8
    dsimp only [R_X8_thrown] at MT
    rw [z0] at MT
    unfold lw_lc at K ⊢
    refine tt_aload_n O 2 dL_law_912 rfl rfl ?_
    refine tt_aload_n O 1 dL_law_913 rfl rfl ?_
    refine tt_iload O 0 dL_law_914 rfl ?_
    refine tt_iconst (x := 1) O dL_law_916 rfl ?_
    refine tt_iadd O dL_law_917 ?_
    refine tt_sld O V I.2.1 dL_law_918 ?_
    refine tt_aload_n O 4 dL_law_919 rfl rfl ?_
    refine tt_callS O Y [.ref (g_ad X 122), .int (xs (i + 1).toNatClampNeg), .ref (g_ad X 129)] [] M g_LW_pass rfl rfl rfl dL_law_920 (lw_fit rfl (by omega) (by omega)) rfl ?_
    refine tt_istore O dL_law_923 (hN 5 rfl) rfl ?_
    refine tt_aload_n O 4 dL_law_925 rfl rfl ?_
    refine tt_aload_n O 2 dL_law_926 rfl rfl ?_
    refine tt_iload O 1 dL_law_927 rfl ?_
    refine tt_iconst (x := 1) O dL_law_929 rfl ?_
    refine tt_iadd O dL_law_930 ?_
    refine tt_sld O V I.2.1 dL_law_931 ?_
    refine tt_callM O [.int (xs (i + 1).toNatClampNeg)] [] (M8 (vp_updL lm 1 v.toInt64) pm1 m1) LL_147 obj_124 rfl rfl rfl dL_law_932 (lw_fit rfl (by show k + 2 ≤ 90004; omega) (by show n + 12 ≤ 90024; omega)) rfl ?_
    refine tt_istore O dL_law_935 (hN 6 rfl) rfl ?_
    refine tt_aload_n O 5 dL_law_937 rfl rfl ?_
    refine tt_callM O [] [] MT LL_107 obj_124 rfl rfl rfl dL_law_938 (lw_fit rfl (by show k + 2 + 0 ≤ 90004; omega) (by show n + 12 + 0 ≤ 90024; omega)) rfl ?_
    refine tt_iload O 1 dL_law_941 rfl ?_
    refine tt_icmp_eq O 948 dL_law_943 (by decide) rfl ?_
    refine tt_iload O 1 dL_law_948 rfl ?_
    refine tt_if_ne O 965 dL_law_950 (by decide) (fun c => absurd rfl c) (fun _ => ?_)
    refine tt_aload_n O 6 dL_law_953 rfl rfl ?_
    refine tt_iconst (x := 0) O dL_law_954 rfl ?_
    refine tt_lald O R1.p4 dL_law_955 ?_
    refine tt_iload O 0 dL_law_956 rfl ?_
    refine tt_i2l O dL_law_958 ?_
    refine tt_lcmp O dL_law_959 ?_
    refine tt_if_eq O 965 dL_law_960 (by decide) (fun _ => ?_) (fun c => absurd (by rw [pk_uLs]; exact lg_cmp_self _) c)
    refine tt_goto O 1863 dL_law_965 (by decide) ?_
    refine r_sub [2, 3, 4, 5, 6] rfl ?_
    exact r_widen (by show k + 2 + 0 + 0 ≤ k + 4; omega) (by show n + 12 + 0 + 0 ≤ n + 24; omega) K
  · have hv : o = .inr E := hv
    have z0 : s8 1302 = _ := h0
    subst hv
    have hne : ¬ g_k ["java/lang/IllegalArgumentException", "java/lang/IllegalStateException"] E 1 = 0 := by
      simp only [List.mem_cons, List.not_mem_nil, or_false] at hE
      rcases hE with rfl | rfl <;> decide +kernel
    dsimp only [g_w] at M
    obtain ⟨res, hr, K⟩ := kk m1 s8 lm pm1 R1
    refine ⟨res, hr, ?_⟩
    have MT := met_X8_thrown (g_xl X) hs lm pm1 m1 s8
    dsimp only [R_X8_thrown] at MT
    rw [z0] at MT
    unfold lw_lc at K ⊢
    refine tt_aload_n O 2 dL_law_912 rfl rfl ?_
    refine tt_aload_n O 1 dL_law_913 rfl rfl ?_
    refine tt_iload O 0 dL_law_914 rfl ?_
    refine tt_iconst (x := 1) O dL_law_916 rfl ?_
    refine tt_iadd O dL_law_917 ?_
    refine tt_sld O V I.2.1 dL_law_918 ?_
    refine tt_aload_n O 4 dL_law_919 rfl rfl ?_
    refine tt_callS O Y [.ref (g_ad X 122), .int (xs (i + 1).toNatClampNeg), .ref (g_ad X 129)] [] M g_LW_pass rfl rfl rfl dL_law_920 (lw_fit rfl (by omega) (by omega)) rfl ?_
    refine tt_istore O dL_law_923 (hN 5 rfl) rfl ?_
    refine tt_aload_n O 4 dL_law_925 rfl rfl ?_
    refine tt_aload_n O 2 dL_law_926 rfl rfl ?_
    refine tt_iload O 1 dL_law_927 rfl ?_
    refine tt_iconst (x := 1) O dL_law_929 rfl ?_
    refine tt_iadd O dL_law_930 ?_
    refine tt_sld O V I.2.1 dL_law_931 ?_
    refine tt_callM O [.int (xs (i + 1).toNatClampNeg)] [] (M8 lm pm1 m1) LL_147 obj_124 rfl rfl rfl dL_law_932 (lw_fit rfl (by show k + 2 ≤ 90004; omega) (by show n + 12 ≤ 90024; omega)) rfl ?_
    refine tt_istore O dL_law_935 (hN 6 rfl) rfl ?_
    refine tt_aload_n O 5 dL_law_937 rfl rfl ?_
    refine tt_callM O [] [] MT LL_107 obj_124 rfl rfl rfl dL_law_938 (lw_fit rfl (by show k + 2 + 0 ≤ 90004; omega) (by show n + 12 + 0 ≤ 90024; omega)) rfl ?_
    refine tt_iload O 1 dL_law_941 rfl ?_
    refine tt_icmp_eq O 948 dL_law_943 (by decide) rfl ?_
    refine tt_iload O 1 dL_law_948 rfl ?_
    refine tt_if_ne O 965 dL_law_950 (by decide) (fun _ => ?_) (fun c => absurd c hne)
    refine tt_goto O 1863 dL_law_965 (by decide) ?_
    refine r_sub [2, 3, 4, 5, 6] rfl ?_
    exact r_widen (by show k + 2 + 0 + 0 ≤ k + 4; omega) (by show n + 12 + 0 + 0 ≤ n + 24; omega) K
theorem g_LW_passage : g_LW 148 yL_passage cL_passage 5 4 [(0, 10, 13, 19), (0, 10, 17, 13)] := ⟨gW_in (i := 949) (by decide +kernel) rfl, gW_in (i := 72) (by decide +kernel) rfl, gW_in (i := 951) (by decide +kernel) rfl, by decide +kernel, gW_in (i := 950) (by decide +kernel) rfl⟩
set_option maxRecDepth 100000 in
set_option maxHeartbeats 4000000 in
theorem lc_passage (Z : lw_O X) (V : lw_V X b L xs) (I : lw_I L i) (R : g_Rel m s pm) (hk : k ≤ 90000) (hnn : n ≤ 90000) (kk : lw_K X (k + 4) (n + 24) (lw_lc X b i)) : lw_E X k n m (s, lm, pm) 968 (lw_lc X b i) := by
  obtain ⟨O, Y, hs, hn⟩ := Z
  have hN : ∀ j, Nat.blt j 9 = true → j < g_xn X := fun j h => by rw [hn]; exact g_blt.mp h
  obtain ⟨p1, p2⟩ := lw_pasts R
  have M := met_L_passage (g_xl X) hs m s lm pm (xs (i + 1).toNatClampNeg) (xs (i + 2).toNatClampNeg) R.I R.p4
  have M8 := fun (lm : Nat → Int64) (pm : Nat → Nat) (m : Nat → Int32) => met_X8_passage (g_xl X) hs lm pm m s (xs (i + 1).toNatClampNeg) (xs (i + 2).toNatClampNeg) R.J
  have RF := Ref_passage R (xs (i + 1).toNatClampNeg) (xs (i + 2).toNatClampNeg)
  generalize R_X7_passage m pm (xs (i + 1).toNatClampNeg) (xs (i + 2).toNatClampNeg) = r7 at M RF
  generalize R_X8_passage s (xs (i + 1).toNatClampNeg) (xs (i + 2).toNatClampNeg) = r8 at M8 RF
  obtain ⟨o, m1, pm1⟩ := r7
  obtain ⟨v8, s8⟩ := r8
  obtain ⟨R1, RF⟩ := RF
  have R1 : g_Rel m1 s8 pm1 := R1
  dsimp only at M8
  rcases RF with ⟨v, hv, h0, he⟩ | ⟨E, hE, hv, h0⟩
  · have hv : o = .inl (some (.int v)) := hv
    have z0 : s8 1302 = 0 := h0
    have he : v = v8 := he
    subst hv; subst he
    dsimp only [g_w] at M
    obtain ⟨res, hr, K⟩ := kk m1 s8 (vp_updL lm 1 v.toInt64) pm1 R1
    refine ⟨res, hr, ?_⟩
    have MT := met_X8_thrown (g_xl X) hs (vp_updL lm 1 v.toInt64) pm1 m1 s8
    dsimp only [R_X8_thrown] at MT
    rw [z0] at MT
    unfold lw_lc at K ⊢
    refine tt_aload_n O 2 dL_law_968 rfl rfl ?_
    refine tt_aload_n O 1 dL_law_969 rfl rfl ?_
    refine tt_iload O 0 dL_law_970 rfl ?_
    refine tt_iconst (x := 1) O dL_law_972 rfl ?_
    refine tt_iadd O dL_law_973 ?_
    refine tt_sld O V I.2.1 dL_law_974 ?_
    refine tt_aload_n O 1 dL_law_975 rfl rfl ?_
    refine tt_iload O 0 dL_law_976 rfl ?_
    refine tt_iconst (x := 2) O dL_law_978 rfl ?_
    refine tt_iadd O dL_law_979 ?_
    refine tt_sld O V I.2.2.1 dL_law_980 ?_
    refine tt_aload_n O 4 dL_law_981 rfl rfl ?_
    refine tt_callS O Y [.ref (g_ad X 122), .int (xs (i + 1).toNatClampNeg), .int (xs (i + 2).toNatClampNeg), .ref (g_ad X 129)] [] M g_LW_passage rfl rfl rfl dL_law_982 (lw_fit rfl (by omega) (by omega)) rfl ?_
    refine tt_istore O dL_law_985 (hN 5 rfl) rfl ?_
    refine tt_aload_n O 4 dL_law_987 rfl rfl ?_
    refine tt_aload_n O 2 dL_law_988 rfl rfl ?_
    refine tt_iload O 1 dL_law_989 rfl ?_
    refine tt_iconst (x := 1) O dL_law_991 rfl ?_
    refine tt_iadd O dL_law_992 ?_
    refine tt_sld O V I.2.1 dL_law_993 ?_
    refine tt_aload_n O 2 dL_law_994 rfl rfl ?_
    refine tt_iload O 1 dL_law_995 rfl ?_
    refine tt_iconst (x := 2) O dL_law_997 rfl ?_
    refine tt_iadd O dL_law_998 ?_
    refine tt_sld O V I.2.2.1 dL_law_999 ?_
    refine tt_callM O [.int (xs (i + 1).toNatClampNeg), .int (xs (i + 2).toNatClampNeg)] [] (M8 (vp_updL lm 1 v.toInt64) pm1 m1) LL_150 obj_124 rfl rfl rfl dL_law_1000 (lw_fit rfl (by show k + 2 ≤ 90004; omega) (by show n + 12 ≤ 90024; omega)) rfl ?_
    refine tt_istore O dL_law_1003 (hN 6 rfl) rfl ?_
    refine tt_aload_n O 5 dL_law_1005 rfl rfl ?_
    refine tt_callM O [] [] MT LL_107 obj_124 rfl rfl rfl dL_law_1006 (lw_fit rfl (by show k + 2 + 0 ≤ 90004; omega) (by show n + 12 + 0 ≤ 90024; omega)) rfl ?_
    refine tt_iload O 1 dL_law_1009 rfl ?_
    refine tt_icmp_eq O 1016 dL_law_1011 (by decide) rfl ?_
    refine tt_iload O 1 dL_law_1016 rfl ?_
    refine tt_if_ne O 1033 dL_law_1018 (by decide) (fun c => absurd rfl c) (fun _ => ?_)
    refine tt_aload_n O 6 dL_law_1021 rfl rfl ?_
    refine tt_iconst (x := 0) O dL_law_1022 rfl ?_
    refine tt_lald O R1.p4 dL_law_1023 ?_
    refine tt_iload O 0 dL_law_1024 rfl ?_
    refine tt_i2l O dL_law_1026 ?_
    refine tt_lcmp O dL_law_1027 ?_
    refine tt_if_eq O 1033 dL_law_1028 (by decide) (fun _ => ?_) (fun c => absurd (by rw [pk_uLs]; exact lg_cmp_self _) c)
    refine tt_goto O 1863 dL_law_1033 (by decide) ?_
    refine r_sub [2, 3, 4, 5, 6] rfl ?_
    exact r_widen (by show k + 2 + 0 + 0 ≤ k + 4; omega) (by show n + 12 + 0 + 0 ≤ n + 24; omega) K
  · have hv : o = .inr E := hv
    have z0 : s8 1302 = _ := h0
    subst hv
    have hne : ¬ g_k ["java/lang/IndexOutOfBoundsException", "java/lang/IllegalArgumentException"] E 1 = 0 := by
      simp only [List.mem_cons, List.not_mem_nil, or_false] at hE
      rcases hE with rfl | rfl <;> decide +kernel
    dsimp only [g_w] at M
    obtain ⟨res, hr, K⟩ := kk m1 s8 lm pm1 R1
    refine ⟨res, hr, ?_⟩
    have MT := met_X8_thrown (g_xl X) hs lm pm1 m1 s8
    dsimp only [R_X8_thrown] at MT
    rw [z0] at MT
    unfold lw_lc at K ⊢
    refine tt_aload_n O 2 dL_law_968 rfl rfl ?_
    refine tt_aload_n O 1 dL_law_969 rfl rfl ?_
    refine tt_iload O 0 dL_law_970 rfl ?_
    refine tt_iconst (x := 1) O dL_law_972 rfl ?_
    refine tt_iadd O dL_law_973 ?_
    refine tt_sld O V I.2.1 dL_law_974 ?_
    refine tt_aload_n O 1 dL_law_975 rfl rfl ?_
    refine tt_iload O 0 dL_law_976 rfl ?_
    refine tt_iconst (x := 2) O dL_law_978 rfl ?_
    refine tt_iadd O dL_law_979 ?_
    refine tt_sld O V I.2.2.1 dL_law_980 ?_
    refine tt_aload_n O 4 dL_law_981 rfl rfl ?_
    refine tt_callS O Y [.ref (g_ad X 122), .int (xs (i + 1).toNatClampNeg), .int (xs (i + 2).toNatClampNeg), .ref (g_ad X 129)] [] M g_LW_passage rfl rfl rfl dL_law_982 (lw_fit rfl (by omega) (by omega)) rfl ?_
    refine tt_istore O dL_law_985 (hN 5 rfl) rfl ?_
    refine tt_aload_n O 4 dL_law_987 rfl rfl ?_
    refine tt_aload_n O 2 dL_law_988 rfl rfl ?_
    refine tt_iload O 1 dL_law_989 rfl ?_
    refine tt_iconst (x := 1) O dL_law_991 rfl ?_
    refine tt_iadd O dL_law_992 ?_
    refine tt_sld O V I.2.1 dL_law_993 ?_
    refine tt_aload_n O 2 dL_law_994 rfl rfl ?_
    refine tt_iload O 1 dL_law_995 rfl ?_
    refine tt_iconst (x := 2) O dL_law_997 rfl ?_
    refine tt_iadd O dL_law_998 ?_
    refine tt_sld O V I.2.2.1 dL_law_999 ?_
    refine tt_callM O [.int (xs (i + 1).toNatClampNeg), .int (xs (i + 2).toNatClampNeg)] [] (M8 lm pm1 m1) LL_150 obj_124 rfl rfl rfl dL_law_1000 (lw_fit rfl (by show k + 2 ≤ 90004; omega) (by show n + 12 ≤ 90024; omega)) rfl ?_
    refine tt_istore O dL_law_1003 (hN 6 rfl) rfl ?_
    refine tt_aload_n O 5 dL_law_1005 rfl rfl ?_
    refine tt_callM O [] [] MT LL_107 obj_124 rfl rfl rfl dL_law_1006 (lw_fit rfl (by show k + 2 + 0 ≤ 90004; omega) (by show n + 12 + 0 ≤ 90024; omega)) rfl ?_
    refine tt_iload O 1 dL_law_1009 rfl ?_
    refine tt_icmp_eq O 1016 dL_law_1011 (by decide) rfl ?_
    refine tt_iload O 1 dL_law_1016 rfl ?_
    refine tt_if_ne O 1033 dL_law_1018 (by decide) (fun _ => ?_) (fun c => absurd c hne)
    refine tt_goto O 1863 dL_law_1033 (by decide) ?_
    refine r_sub [2, 3, 4, 5, 6] rfl ?_
    exact r_widen (by show k + 2 + 0 + 0 ≤ k + 4; omega) (by show n + 12 + 0 + 0 ≤ n + 24; omega) K
theorem g_LW_rope : g_LW 151 yL_rope cL_rope 5 4 [(0, 10, 13, 19), (0, 10, 17, 13)] := ⟨gW_in (i := 957) (by decide +kernel) rfl, gW_in (i := 72) (by decide +kernel) rfl, gW_in (i := 959) (by decide +kernel) rfl, by decide +kernel, gW_in (i := 958) (by decide +kernel) rfl⟩
set_option maxRecDepth 100000 in
set_option maxHeartbeats 4000000 in
theorem lc_rope (Z : lw_O X) (V : lw_V X b L xs) (I : lw_I L i) (R : g_Rel m s pm) (hk : k ≤ 90000) (hnn : n ≤ 90000) (kk : lw_K X (k + 4) (n + 24) (lw_lc X b i)) : lw_E X k n m (s, lm, pm) 1036 (lw_lc X b i) := by
  obtain ⟨O, Y, hs, hn⟩ := Z
  have hN : ∀ j, Nat.blt j 9 = true → j < g_xn X := fun j h => by rw [hn]; exact g_blt.mp h
  obtain ⟨p1, p2⟩ := lw_pasts R
  have M := met_L_rope (g_xl X) hs m s lm pm (xs (i + 1).toNatClampNeg) (xs (i + 2).toNatClampNeg) R.I R.p4
  have M8 := fun (lm : Nat → Int64) (pm : Nat → Nat) (m : Nat → Int32) => met_X8_rope (g_xl X) hs lm pm m s (xs (i + 1).toNatClampNeg) (xs (i + 2).toNatClampNeg) R.J
  have RF := Ref_rope R (xs (i + 1).toNatClampNeg) (xs (i + 2).toNatClampNeg)
  generalize R_X7_rope m pm (xs (i + 1).toNatClampNeg) (xs (i + 2).toNatClampNeg) = r7 at M RF
  generalize R_X8_rope s (xs (i + 1).toNatClampNeg) (xs (i + 2).toNatClampNeg) = r8 at M8 RF
  obtain ⟨o, m1, pm1⟩ := r7
  obtain ⟨v8, s8⟩ := r8
  obtain ⟨R1, RF⟩ := RF
  have R1 : g_Rel m1 s8 pm1 := R1
  dsimp only at M8
  rcases RF with ⟨v, hv, h0, he⟩ | ⟨E, hE, hv, h0⟩
  · have hv : o = .inl (some (.int v)) := hv
    have z0 : s8 1302 = 0 := h0
    have he : v = v8 := he
    subst hv; subst he
    dsimp only [g_w] at M
    obtain ⟨res, hr, K⟩ := kk m1 s8 (vp_updL lm 1 v.toInt64) pm1 R1
    refine ⟨res, hr, ?_⟩
    have MT := met_X8_thrown (g_xl X) hs (vp_updL lm 1 v.toInt64) pm1 m1 s8
    dsimp only [R_X8_thrown] at MT
    rw [z0] at MT
    unfold lw_lc at K ⊢
    refine tt_aload_n O 2 dL_law_1036 rfl rfl ?_
    refine tt_aload_n O 1 dL_law_1037 rfl rfl ?_
    refine tt_iload O 0 dL_law_1038 rfl ?_
    refine tt_iconst (x := 1) O dL_law_1040 rfl ?_
    refine tt_iadd O dL_law_1041 ?_
    refine tt_sld O V I.2.1 dL_law_1042 ?_
    refine tt_aload_n O 1 dL_law_1043 rfl rfl ?_
    refine tt_iload O 0 dL_law_1044 rfl ?_
    refine tt_iconst (x := 2) O dL_law_1046 rfl ?_
    refine tt_iadd O dL_law_1047 ?_
    refine tt_sld O V I.2.2.1 dL_law_1048 ?_
    refine tt_aload_n O 4 dL_law_1049 rfl rfl ?_
    refine tt_callS O Y [.ref (g_ad X 122), .int (xs (i + 1).toNatClampNeg), .int (xs (i + 2).toNatClampNeg), .ref (g_ad X 129)] [] M g_LW_rope rfl rfl rfl dL_law_1050 (lw_fit rfl (by omega) (by omega)) rfl ?_
    refine tt_istore O dL_law_1053 (hN 5 rfl) rfl ?_
    refine tt_aload_n O 4 dL_law_1055 rfl rfl ?_
    refine tt_aload_n O 2 dL_law_1056 rfl rfl ?_
    refine tt_iload O 1 dL_law_1057 rfl ?_
    refine tt_iconst (x := 1) O dL_law_1059 rfl ?_
    refine tt_iadd O dL_law_1060 ?_
    refine tt_sld O V I.2.1 dL_law_1061 ?_
    refine tt_aload_n O 2 dL_law_1062 rfl rfl ?_
    refine tt_iload O 1 dL_law_1063 rfl ?_
    refine tt_iconst (x := 2) O dL_law_1065 rfl ?_
    refine tt_iadd O dL_law_1066 ?_
    refine tt_sld O V I.2.2.1 dL_law_1067 ?_
    refine tt_callM O [.int (xs (i + 1).toNatClampNeg), .int (xs (i + 2).toNatClampNeg)] [] (M8 (vp_updL lm 1 v.toInt64) pm1 m1) LL_153 obj_124 rfl rfl rfl dL_law_1068 (lw_fit rfl (by show k + 2 ≤ 90004; omega) (by show n + 12 ≤ 90024; omega)) rfl ?_
    refine tt_istore O dL_law_1071 (hN 6 rfl) rfl ?_
    refine tt_aload_n O 5 dL_law_1073 rfl rfl ?_
    refine tt_callM O [] [] MT LL_107 obj_124 rfl rfl rfl dL_law_1074 (lw_fit rfl (by show k + 2 + 0 ≤ 90004; omega) (by show n + 12 + 0 ≤ 90024; omega)) rfl ?_
    refine tt_iload O 1 dL_law_1077 rfl ?_
    refine tt_icmp_eq O 1084 dL_law_1079 (by decide) rfl ?_
    refine tt_iload O 1 dL_law_1084 rfl ?_
    refine tt_if_ne O 1101 dL_law_1086 (by decide) (fun c => absurd rfl c) (fun _ => ?_)
    refine tt_aload_n O 6 dL_law_1089 rfl rfl ?_
    refine tt_iconst (x := 0) O dL_law_1090 rfl ?_
    refine tt_lald O R1.p4 dL_law_1091 ?_
    refine tt_iload O 0 dL_law_1092 rfl ?_
    refine tt_i2l O dL_law_1094 ?_
    refine tt_lcmp O dL_law_1095 ?_
    refine tt_if_eq O 1101 dL_law_1096 (by decide) (fun _ => ?_) (fun c => absurd (by rw [pk_uLs]; exact lg_cmp_self _) c)
    refine tt_goto O 1863 dL_law_1101 (by decide) ?_
    refine r_sub [2, 3, 4, 5, 6] rfl ?_
    exact r_widen (by show k + 2 + 0 + 0 ≤ k + 4; omega) (by show n + 12 + 0 + 0 ≤ n + 24; omega) K
  · have hv : o = .inr E := hv
    have z0 : s8 1302 = _ := h0
    subst hv
    have hne : ¬ g_k ["java/lang/IndexOutOfBoundsException", "java/lang/IllegalArgumentException"] E 1 = 0 := by
      simp only [List.mem_cons, List.not_mem_nil, or_false] at hE
      rcases hE with rfl | rfl <;> decide +kernel
    dsimp only [g_w] at M
    obtain ⟨res, hr, K⟩ := kk m1 s8 lm pm1 R1
    refine ⟨res, hr, ?_⟩
    have MT := met_X8_thrown (g_xl X) hs lm pm1 m1 s8
    dsimp only [R_X8_thrown] at MT
    rw [z0] at MT
    unfold lw_lc at K ⊢
    refine tt_aload_n O 2 dL_law_1036 rfl rfl ?_
    refine tt_aload_n O 1 dL_law_1037 rfl rfl ?_
    refine tt_iload O 0 dL_law_1038 rfl ?_
    refine tt_iconst (x := 1) O dL_law_1040 rfl ?_
    refine tt_iadd O dL_law_1041 ?_
    refine tt_sld O V I.2.1 dL_law_1042 ?_
    refine tt_aload_n O 1 dL_law_1043 rfl rfl ?_
    refine tt_iload O 0 dL_law_1044 rfl ?_
    refine tt_iconst (x := 2) O dL_law_1046 rfl ?_
    refine tt_iadd O dL_law_1047 ?_
    refine tt_sld O V I.2.2.1 dL_law_1048 ?_
    refine tt_aload_n O 4 dL_law_1049 rfl rfl ?_
    refine tt_callS O Y [.ref (g_ad X 122), .int (xs (i + 1).toNatClampNeg), .int (xs (i + 2).toNatClampNeg), .ref (g_ad X 129)] [] M g_LW_rope rfl rfl rfl dL_law_1050 (lw_fit rfl (by omega) (by omega)) rfl ?_
    refine tt_istore O dL_law_1053 (hN 5 rfl) rfl ?_
    refine tt_aload_n O 4 dL_law_1055 rfl rfl ?_
    refine tt_aload_n O 2 dL_law_1056 rfl rfl ?_
    refine tt_iload O 1 dL_law_1057 rfl ?_
    refine tt_iconst (x := 1) O dL_law_1059 rfl ?_
    refine tt_iadd O dL_law_1060 ?_
    refine tt_sld O V I.2.1 dL_law_1061 ?_
    refine tt_aload_n O 2 dL_law_1062 rfl rfl ?_
    refine tt_iload O 1 dL_law_1063 rfl ?_
    refine tt_iconst (x := 2) O dL_law_1065 rfl ?_
    refine tt_iadd O dL_law_1066 ?_
    refine tt_sld O V I.2.2.1 dL_law_1067 ?_
    refine tt_callM O [.int (xs (i + 1).toNatClampNeg), .int (xs (i + 2).toNatClampNeg)] [] (M8 lm pm1 m1) LL_153 obj_124 rfl rfl rfl dL_law_1068 (lw_fit rfl (by show k + 2 ≤ 90004; omega) (by show n + 12 ≤ 90024; omega)) rfl ?_
    refine tt_istore O dL_law_1071 (hN 6 rfl) rfl ?_
    refine tt_aload_n O 5 dL_law_1073 rfl rfl ?_
    refine tt_callM O [] [] MT LL_107 obj_124 rfl rfl rfl dL_law_1074 (lw_fit rfl (by show k + 2 + 0 ≤ 90004; omega) (by show n + 12 + 0 ≤ 90024; omega)) rfl ?_
    refine tt_iload O 1 dL_law_1077 rfl ?_
    refine tt_icmp_eq O 1084 dL_law_1079 (by decide) rfl ?_
    refine tt_iload O 1 dL_law_1084 rfl ?_
    refine tt_if_ne O 1101 dL_law_1086 (by decide) (fun _ => ?_) (fun c => absurd c hne)
    refine tt_goto O 1863 dL_law_1101 (by decide) ?_
    refine r_sub [2, 3, 4, 5, 6] rfl ?_
    exact r_widen (by show k + 2 + 0 + 0 ≤ k + 4; omega) (by show n + 12 + 0 + 0 ≤ n + 24; omega) K
theorem g_LW_helper : g_LW 154 yL_helper cL_helper 5 4 [(0, 10, 13, 19), (0, 10, 17, 13)] := ⟨gW_in (i := 965) (by decide +kernel) rfl, gW_in (i := 72) (by decide +kernel) rfl, gW_in (i := 967) (by decide +kernel) rfl, by decide +kernel, gW_in (i := 966) (by decide +kernel) rfl⟩
set_option maxRecDepth 100000 in
set_option maxHeartbeats 4000000 in
theorem lc_helper (Z : lw_O X) (V : lw_V X b L xs) (I : lw_I L i) (R : g_Rel m s pm) (hk : k ≤ 90000) (hnn : n ≤ 90000) (kk : lw_K X (k + 4) (n + 24) (lw_lc X b i)) : lw_E X k n m (s, lm, pm) 1104 (lw_lc X b i) := by
  obtain ⟨O, Y, hs, hn⟩ := Z
  have hN : ∀ j, Nat.blt j 9 = true → j < g_xn X := fun j h => by rw [hn]; exact g_blt.mp h
  obtain ⟨p1, p2⟩ := lw_pasts R
  have M := met_L_helper (g_xl X) hs m s lm pm (xs (i + 1).toNatClampNeg) (xs (i + 2).toNatClampNeg) R.I R.p4
  have M8 := fun (lm : Nat → Int64) (pm : Nat → Nat) (m : Nat → Int32) => met_X8_helper (g_xl X) hs lm pm m s (xs (i + 1).toNatClampNeg) (xs (i + 2).toNatClampNeg) R.J
  have RF := Ref_helper R (xs (i + 1).toNatClampNeg) (xs (i + 2).toNatClampNeg)
  generalize R_X7_helper m pm (xs (i + 1).toNatClampNeg) (xs (i + 2).toNatClampNeg) = r7 at M RF
  generalize R_X8_helper s (xs (i + 1).toNatClampNeg) (xs (i + 2).toNatClampNeg) = r8 at M8 RF
  obtain ⟨o, m1, pm1⟩ := r7
  obtain ⟨v8, s8⟩ := r8
  obtain ⟨R1, RF⟩ := RF
  have R1 : g_Rel m1 s8 pm1 := R1
  dsimp only at M8
  rcases RF with ⟨v, hv, h0, he⟩ | ⟨E, hE, hv, h0⟩
  · have hv : o = .inl (some (.int v)) := hv
    have z0 : s8 1302 = 0 := h0
    have he : v = v8 := he
    subst hv; subst he
    dsimp only [g_w] at M
    obtain ⟨res, hr, K⟩ := kk m1 s8 (vp_updL lm 1 v.toInt64) pm1 R1
    refine ⟨res, hr, ?_⟩
    have MT := met_X8_thrown (g_xl X) hs (vp_updL lm 1 v.toInt64) pm1 m1 s8
    dsimp only [R_X8_thrown] at MT
    rw [z0] at MT
    unfold lw_lc at K ⊢
    refine tt_aload_n O 2 dL_law_1104 rfl rfl ?_
    refine tt_aload_n O 1 dL_law_1105 rfl rfl ?_
    refine tt_iload O 0 dL_law_1106 rfl ?_
    refine tt_iconst (x := 1) O dL_law_1108 rfl ?_
    refine tt_iadd O dL_law_1109 ?_
    refine tt_sld O V I.2.1 dL_law_1110 ?_
    refine tt_aload_n O 1 dL_law_1111 rfl rfl ?_
    refine tt_iload O 0 dL_law_1112 rfl ?_
    refine tt_iconst (x := 2) O dL_law_1114 rfl ?_
    refine tt_iadd O dL_law_1115 ?_
    refine tt_sld O V I.2.2.1 dL_law_1116 ?_
    refine tt_aload_n O 4 dL_law_1117 rfl rfl ?_
    refine tt_callS O Y [.ref (g_ad X 122), .int (xs (i + 1).toNatClampNeg), .int (xs (i + 2).toNatClampNeg), .ref (g_ad X 129)] [] M g_LW_helper rfl rfl rfl dL_law_1118 (lw_fit rfl (by omega) (by omega)) rfl ?_
    refine tt_istore O dL_law_1121 (hN 5 rfl) rfl ?_
    refine tt_aload_n O 4 dL_law_1123 rfl rfl ?_
    refine tt_aload_n O 2 dL_law_1124 rfl rfl ?_
    refine tt_iload O 1 dL_law_1125 rfl ?_
    refine tt_iconst (x := 1) O dL_law_1127 rfl ?_
    refine tt_iadd O dL_law_1128 ?_
    refine tt_sld O V I.2.1 dL_law_1129 ?_
    refine tt_aload_n O 2 dL_law_1130 rfl rfl ?_
    refine tt_iload O 1 dL_law_1131 rfl ?_
    refine tt_iconst (x := 2) O dL_law_1133 rfl ?_
    refine tt_iadd O dL_law_1134 ?_
    refine tt_sld O V I.2.2.1 dL_law_1135 ?_
    refine tt_callM O [.int (xs (i + 1).toNatClampNeg), .int (xs (i + 2).toNatClampNeg)] [] (M8 (vp_updL lm 1 v.toInt64) pm1 m1) LL_156 obj_124 rfl rfl rfl dL_law_1136 (lw_fit rfl (by show k + 2 ≤ 90004; omega) (by show n + 12 ≤ 90024; omega)) rfl ?_
    refine tt_istore O dL_law_1139 (hN 6 rfl) rfl ?_
    refine tt_aload_n O 5 dL_law_1141 rfl rfl ?_
    refine tt_callM O [] [] MT LL_107 obj_124 rfl rfl rfl dL_law_1142 (lw_fit rfl (by show k + 2 + 0 ≤ 90004; omega) (by show n + 12 + 0 ≤ 90024; omega)) rfl ?_
    refine tt_iload O 1 dL_law_1145 rfl ?_
    refine tt_icmp_eq O 1152 dL_law_1147 (by decide) rfl ?_
    refine tt_iload O 1 dL_law_1152 rfl ?_
    refine tt_if_ne O 1169 dL_law_1154 (by decide) (fun c => absurd rfl c) (fun _ => ?_)
    refine tt_aload_n O 6 dL_law_1157 rfl rfl ?_
    refine tt_iconst (x := 0) O dL_law_1158 rfl ?_
    refine tt_lald O R1.p4 dL_law_1159 ?_
    refine tt_iload O 0 dL_law_1160 rfl ?_
    refine tt_i2l O dL_law_1162 ?_
    refine tt_lcmp O dL_law_1163 ?_
    refine tt_if_eq O 1169 dL_law_1164 (by decide) (fun _ => ?_) (fun c => absurd (by rw [pk_uLs]; exact lg_cmp_self _) c)
    refine tt_goto O 1863 dL_law_1169 (by decide) ?_
    refine r_sub [2, 3, 4, 5, 6] rfl ?_
    exact r_widen (by show k + 2 + 0 + 0 ≤ k + 4; omega) (by show n + 12 + 0 + 0 ≤ n + 24; omega) K
  · have hv : o = .inr E := hv
    have z0 : s8 1302 = _ := h0
    subst hv
    have hne : ¬ g_k ["java/lang/IndexOutOfBoundsException", "java/lang/IllegalArgumentException"] E 1 = 0 := by
      simp only [List.mem_cons, List.not_mem_nil, or_false] at hE
      rcases hE with rfl | rfl <;> decide +kernel
    dsimp only [g_w] at M
    obtain ⟨res, hr, K⟩ := kk m1 s8 lm pm1 R1
    refine ⟨res, hr, ?_⟩
    have MT := met_X8_thrown (g_xl X) hs lm pm1 m1 s8
    dsimp only [R_X8_thrown] at MT
    rw [z0] at MT
    unfold lw_lc at K ⊢
    refine tt_aload_n O 2 dL_law_1104 rfl rfl ?_
    refine tt_aload_n O 1 dL_law_1105 rfl rfl ?_
    refine tt_iload O 0 dL_law_1106 rfl ?_
    refine tt_iconst (x := 1) O dL_law_1108 rfl ?_
    refine tt_iadd O dL_law_1109 ?_
    refine tt_sld O V I.2.1 dL_law_1110 ?_
    refine tt_aload_n O 1 dL_law_1111 rfl rfl ?_
    refine tt_iload O 0 dL_law_1112 rfl ?_
    refine tt_iconst (x := 2) O dL_law_1114 rfl ?_
    refine tt_iadd O dL_law_1115 ?_
    refine tt_sld O V I.2.2.1 dL_law_1116 ?_
    refine tt_aload_n O 4 dL_law_1117 rfl rfl ?_
    refine tt_callS O Y [.ref (g_ad X 122), .int (xs (i + 1).toNatClampNeg), .int (xs (i + 2).toNatClampNeg), .ref (g_ad X 129)] [] M g_LW_helper rfl rfl rfl dL_law_1118 (lw_fit rfl (by omega) (by omega)) rfl ?_
    refine tt_istore O dL_law_1121 (hN 5 rfl) rfl ?_
    refine tt_aload_n O 4 dL_law_1123 rfl rfl ?_
    refine tt_aload_n O 2 dL_law_1124 rfl rfl ?_
    refine tt_iload O 1 dL_law_1125 rfl ?_
    refine tt_iconst (x := 1) O dL_law_1127 rfl ?_
    refine tt_iadd O dL_law_1128 ?_
    refine tt_sld O V I.2.1 dL_law_1129 ?_
    refine tt_aload_n O 2 dL_law_1130 rfl rfl ?_
    refine tt_iload O 1 dL_law_1131 rfl ?_
    refine tt_iconst (x := 2) O dL_law_1133 rfl ?_
    refine tt_iadd O dL_law_1134 ?_
    refine tt_sld O V I.2.2.1 dL_law_1135 ?_
    refine tt_callM O [.int (xs (i + 1).toNatClampNeg), .int (xs (i + 2).toNatClampNeg)] [] (M8 lm pm1 m1) LL_156 obj_124 rfl rfl rfl dL_law_1136 (lw_fit rfl (by show k + 2 ≤ 90004; omega) (by show n + 12 ≤ 90024; omega)) rfl ?_
    refine tt_istore O dL_law_1139 (hN 6 rfl) rfl ?_
    refine tt_aload_n O 5 dL_law_1141 rfl rfl ?_
    refine tt_callM O [] [] MT LL_107 obj_124 rfl rfl rfl dL_law_1142 (lw_fit rfl (by show k + 2 + 0 ≤ 90004; omega) (by show n + 12 + 0 ≤ 90024; omega)) rfl ?_
    refine tt_iload O 1 dL_law_1145 rfl ?_
    refine tt_icmp_eq O 1152 dL_law_1147 (by decide) rfl ?_
    refine tt_iload O 1 dL_law_1152 rfl ?_
    refine tt_if_ne O 1169 dL_law_1154 (by decide) (fun _ => ?_) (fun c => absurd c hne)
    refine tt_goto O 1863 dL_law_1169 (by decide) ?_
    refine r_sub [2, 3, 4, 5, 6] rfl ?_
    exact r_widen (by show k + 2 + 0 + 0 ≤ k + 4; omega) (by show n + 12 + 0 + 0 ≤ n + 24; omega) K
theorem g_LW_value : g_LW 157 yL_value cL_value 4 3 [(0, 9, 12, 13)] := ⟨gW_in (i := 973) (by decide +kernel) rfl, gW_in (i := 72) (by decide +kernel) rfl, gW_in (i := 975) (by decide +kernel) rfl, by decide +kernel, gW_in (i := 974) (by decide +kernel) rfl⟩
set_option maxRecDepth 100000 in
set_option maxHeartbeats 4000000 in
theorem lc_value (Z : lw_O X) (V : lw_V X b L xs) (I : lw_I L i) (R : g_Rel m s pm) (hk : k ≤ 90000) (hnn : n ≤ 90000) (kk : lw_K X (k + 4) (n + 24) (lw_lc X b i)) : lw_E X k n m (s, lm, pm) 1172 (lw_lc X b i) := by
  obtain ⟨O, Y, hs, hn⟩ := Z
  have hN : ∀ j, Nat.blt j 9 = true → j < g_xn X := fun j h => by rw [hn]; exact g_blt.mp h
  obtain ⟨p1, p2⟩ := lw_pasts R
  have M := met_L_value (g_xl X) hs m s lm pm (xs (i + 1).toNatClampNeg) R.I R.p4
  have M8 := fun (lm : Nat → Int64) (pm : Nat → Nat) (m : Nat → Int32) => met_X8_value (g_xl X) hs lm pm m s (xs (i + 1).toNatClampNeg) R.J
  have RF := Ref_value R (xs (i + 1).toNatClampNeg)
  generalize R_X7_value m pm (xs (i + 1).toNatClampNeg) = r7 at M RF
  generalize R_X8_value s (xs (i + 1).toNatClampNeg) = r8 at M8 RF
  obtain ⟨o, m1, pm1⟩ := r7
  obtain ⟨v8, s8⟩ := r8
  obtain ⟨R1, RF⟩ := RF
  have R1 : g_Rel m1 s8 pm1 := R1
  dsimp only at M8
  rcases RF with ⟨v, hv, h0, he⟩ | ⟨E, hE, hv, h0⟩
  · have hv : o = .inl (some (.int v)) := hv
    have z0 : s8 1302 = 0 := h0
    have he : v = v8 := he
    subst hv; subst he
    dsimp only [g_w] at M
    obtain ⟨res, hr, K⟩ := kk m1 s8 (vp_updL lm 1 v.toInt64) pm1 R1
    refine ⟨res, hr, ?_⟩
    have MT := met_X8_thrown (g_xl X) hs (vp_updL lm 1 v.toInt64) pm1 m1 s8
    dsimp only [R_X8_thrown] at MT
    rw [z0] at MT
    unfold lw_lc at K ⊢
    refine tt_aload_n O 2 dL_law_1172 rfl rfl ?_
    refine tt_aload_n O 1 dL_law_1173 rfl rfl ?_
    refine tt_iload O 0 dL_law_1174 rfl ?_
    refine tt_iconst (x := 1) O dL_law_1176 rfl ?_
    refine tt_iadd O dL_law_1177 ?_
    refine tt_sld O V I.2.1 dL_law_1178 ?_
    refine tt_aload_n O 4 dL_law_1179 rfl rfl ?_
    refine tt_callS O Y [.ref (g_ad X 122), .int (xs (i + 1).toNatClampNeg), .ref (g_ad X 129)] [] M g_LW_value rfl rfl rfl dL_law_1180 (lw_fit rfl (by omega) (by omega)) rfl ?_
    refine tt_istore O dL_law_1183 (hN 5 rfl) rfl ?_
    refine tt_aload_n O 4 dL_law_1185 rfl rfl ?_
    refine tt_aload_n O 2 dL_law_1186 rfl rfl ?_
    refine tt_iload O 1 dL_law_1187 rfl ?_
    refine tt_iconst (x := 1) O dL_law_1189 rfl ?_
    refine tt_iadd O dL_law_1190 ?_
    refine tt_sld O V I.2.1 dL_law_1191 ?_
    refine tt_callM O [.int (xs (i + 1).toNatClampNeg)] [] (M8 (vp_updL lm 1 v.toInt64) pm1 m1) LL_159 obj_124 rfl rfl rfl dL_law_1192 (lw_fit rfl (by show k + 1 ≤ 90004; omega) (by show n + 6 ≤ 90024; omega)) rfl ?_
    refine tt_istore O dL_law_1195 (hN 6 rfl) rfl ?_
    refine tt_aload_n O 5 dL_law_1197 rfl rfl ?_
    refine tt_callM O [] [] MT LL_107 obj_124 rfl rfl rfl dL_law_1198 (lw_fit rfl (by show k + 1 + 0 ≤ 90004; omega) (by show n + 6 + 0 ≤ 90024; omega)) rfl ?_
    refine tt_iload O 1 dL_law_1201 rfl ?_
    refine tt_icmp_eq O 1208 dL_law_1203 (by decide) rfl ?_
    refine tt_iload O 1 dL_law_1208 rfl ?_
    refine tt_if_ne O 1225 dL_law_1210 (by decide) (fun c => absurd rfl c) (fun _ => ?_)
    refine tt_aload_n O 6 dL_law_1213 rfl rfl ?_
    refine tt_iconst (x := 0) O dL_law_1214 rfl ?_
    refine tt_lald O R1.p4 dL_law_1215 ?_
    refine tt_iload O 0 dL_law_1216 rfl ?_
    refine tt_i2l O dL_law_1218 ?_
    refine tt_lcmp O dL_law_1219 ?_
    refine tt_if_eq O 1225 dL_law_1220 (by decide) (fun _ => ?_) (fun c => absurd (by rw [pk_uLs]; exact lg_cmp_self _) c)
    refine tt_goto O 1863 dL_law_1225 (by decide) ?_
    refine r_sub [2, 3, 4, 5, 6] rfl ?_
    exact r_widen (by show k + 1 + 0 + 0 ≤ k + 4; omega) (by show n + 6 + 0 + 0 ≤ n + 24; omega) K
  · have hv : o = .inr E := hv
    have z0 : s8 1302 = _ := h0
    subst hv
    have hne : ¬ g_k ["java/lang/IllegalArgumentException"] E 1 = 0 := by
      simp only [List.mem_cons, List.not_mem_nil, or_false] at hE
      rcases hE with rfl <;> decide +kernel
    dsimp only [g_w] at M
    obtain ⟨res, hr, K⟩ := kk m1 s8 lm pm1 R1
    refine ⟨res, hr, ?_⟩
    have MT := met_X8_thrown (g_xl X) hs lm pm1 m1 s8
    dsimp only [R_X8_thrown] at MT
    rw [z0] at MT
    unfold lw_lc at K ⊢
    refine tt_aload_n O 2 dL_law_1172 rfl rfl ?_
    refine tt_aload_n O 1 dL_law_1173 rfl rfl ?_
    refine tt_iload O 0 dL_law_1174 rfl ?_
    refine tt_iconst (x := 1) O dL_law_1176 rfl ?_
    refine tt_iadd O dL_law_1177 ?_
    refine tt_sld O V I.2.1 dL_law_1178 ?_
    refine tt_aload_n O 4 dL_law_1179 rfl rfl ?_
    refine tt_callS O Y [.ref (g_ad X 122), .int (xs (i + 1).toNatClampNeg), .ref (g_ad X 129)] [] M g_LW_value rfl rfl rfl dL_law_1180 (lw_fit rfl (by omega) (by omega)) rfl ?_
    refine tt_istore O dL_law_1183 (hN 5 rfl) rfl ?_
    refine tt_aload_n O 4 dL_law_1185 rfl rfl ?_
    refine tt_aload_n O 2 dL_law_1186 rfl rfl ?_
    refine tt_iload O 1 dL_law_1187 rfl ?_
    refine tt_iconst (x := 1) O dL_law_1189 rfl ?_
    refine tt_iadd O dL_law_1190 ?_
    refine tt_sld O V I.2.1 dL_law_1191 ?_
    refine tt_callM O [.int (xs (i + 1).toNatClampNeg)] [] (M8 lm pm1 m1) LL_159 obj_124 rfl rfl rfl dL_law_1192 (lw_fit rfl (by show k + 1 ≤ 90004; omega) (by show n + 6 ≤ 90024; omega)) rfl ?_
    refine tt_istore O dL_law_1195 (hN 6 rfl) rfl ?_
    refine tt_aload_n O 5 dL_law_1197 rfl rfl ?_
    refine tt_callM O [] [] MT LL_107 obj_124 rfl rfl rfl dL_law_1198 (lw_fit rfl (by show k + 1 + 0 ≤ 90004; omega) (by show n + 6 + 0 ≤ 90024; omega)) rfl ?_
    refine tt_iload O 1 dL_law_1201 rfl ?_
    refine tt_icmp_eq O 1208 dL_law_1203 (by decide) rfl ?_
    refine tt_iload O 1 dL_law_1208 rfl ?_
    refine tt_if_ne O 1225 dL_law_1210 (by decide) (fun _ => ?_) (fun c => absurd c hne)
    refine tt_goto O 1863 dL_law_1225 (by decide) ?_
    refine r_sub [2, 3, 4, 5, 6] rfl ?_
    exact r_widen (by show k + 1 + 0 + 0 ≤ k + 4; omega) (by show n + 6 + 0 + 0 ≤ n + 24; omega) K
theorem g_LW_message : g_LW 160 yL_message cL_message 5 4 [(0, 10, 13, 19), (0, 10, 17, 13)] := ⟨gW_in (i := 981) (by decide +kernel) rfl, gW_in (i := 72) (by decide +kernel) rfl, gW_in (i := 983) (by decide +kernel) rfl, by decide +kernel, gW_in (i := 982) (by decide +kernel) rfl⟩
set_option maxRecDepth 100000 in
set_option maxHeartbeats 4000000 in
theorem lc_message (Z : lw_O X) (V : lw_V X b L xs) (I : lw_I L i) (R : g_Rel m s pm) (hk : k ≤ 90000) (hnn : n ≤ 90000) (kk : lw_K X (k + 4) (n + 24) (lw_lc X b i)) : lw_E X k n m (s, lm, pm) 1228 (lw_lc X b i) := by
  obtain ⟨O, Y, hs, hn⟩ := Z
  have hN : ∀ j, Nat.blt j 9 = true → j < g_xn X := fun j h => by rw [hn]; exact g_blt.mp h
  obtain ⟨p1, p2⟩ := lw_pasts R
  have M := met_L_message (g_xl X) hs m s lm pm (xs (i + 1).toNatClampNeg) (xs (i + 2).toNatClampNeg) R.I R.p4
  have M8 := fun (lm : Nat → Int64) (pm : Nat → Nat) (m : Nat → Int32) => met_X8_message (g_xl X) hs lm pm m s (xs (i + 1).toNatClampNeg) (xs (i + 2).toNatClampNeg) R.J
  have RF := Ref_message R (xs (i + 1).toNatClampNeg) (xs (i + 2).toNatClampNeg)
  generalize R_X7_message m pm (xs (i + 1).toNatClampNeg) (xs (i + 2).toNatClampNeg) = r7 at M RF
  generalize R_X8_message s (xs (i + 1).toNatClampNeg) (xs (i + 2).toNatClampNeg) = r8 at M8 RF
  obtain ⟨o, m1, pm1⟩ := r7
  obtain ⟨v8, s8⟩ := r8
  obtain ⟨R1, RF⟩ := RF
  have R1 : g_Rel m1 s8 pm1 := R1
  dsimp only at M8
  rcases RF with ⟨v, hv, h0, he⟩ | ⟨E, hE, hv, h0⟩
  · have hv : o = .inl (some (.int v)) := hv
    have z0 : s8 1302 = 0 := h0
    have he : v = v8 := he
    subst hv; subst he
    dsimp only [g_w] at M
    obtain ⟨res, hr, K⟩ := kk m1 s8 (vp_updL lm 1 v.toInt64) pm1 R1
    refine ⟨res, hr, ?_⟩
    have MT := met_X8_thrown (g_xl X) hs (vp_updL lm 1 v.toInt64) pm1 m1 s8
    dsimp only [R_X8_thrown] at MT
    rw [z0] at MT
    unfold lw_lc at K ⊢
    refine tt_aload_n O 2 dL_law_1228 rfl rfl ?_
    refine tt_aload_n O 1 dL_law_1229 rfl rfl ?_
    refine tt_iload O 0 dL_law_1230 rfl ?_
    refine tt_iconst (x := 1) O dL_law_1232 rfl ?_
    refine tt_iadd O dL_law_1233 ?_
    refine tt_sld O V I.2.1 dL_law_1234 ?_
    refine tt_aload_n O 1 dL_law_1235 rfl rfl ?_
    refine tt_iload O 0 dL_law_1236 rfl ?_
    refine tt_iconst (x := 2) O dL_law_1238 rfl ?_
    refine tt_iadd O dL_law_1239 ?_
    refine tt_sld O V I.2.2.1 dL_law_1240 ?_
    refine tt_aload_n O 4 dL_law_1241 rfl rfl ?_
    refine tt_callS O Y [.ref (g_ad X 122), .int (xs (i + 1).toNatClampNeg), .int (xs (i + 2).toNatClampNeg), .ref (g_ad X 129)] [] M g_LW_message rfl rfl rfl dL_law_1242 (lw_fit rfl (by omega) (by omega)) rfl ?_
    refine tt_istore O dL_law_1245 (hN 5 rfl) rfl ?_
    refine tt_aload_n O 4 dL_law_1247 rfl rfl ?_
    refine tt_aload_n O 2 dL_law_1248 rfl rfl ?_
    refine tt_iload O 1 dL_law_1249 rfl ?_
    refine tt_iconst (x := 1) O dL_law_1251 rfl ?_
    refine tt_iadd O dL_law_1252 ?_
    refine tt_sld O V I.2.1 dL_law_1253 ?_
    refine tt_aload_n O 2 dL_law_1254 rfl rfl ?_
    refine tt_iload O 1 dL_law_1255 rfl ?_
    refine tt_iconst (x := 2) O dL_law_1257 rfl ?_
    refine tt_iadd O dL_law_1258 ?_
    refine tt_sld O V I.2.2.1 dL_law_1259 ?_
    refine tt_callM O [.int (xs (i + 1).toNatClampNeg), .int (xs (i + 2).toNatClampNeg)] [] (M8 (vp_updL lm 1 v.toInt64) pm1 m1) LL_162 obj_124 rfl rfl rfl dL_law_1260 (lw_fit rfl (by show k + 2 ≤ 90004; omega) (by show n + 12 ≤ 90024; omega)) rfl ?_
    refine tt_istore O dL_law_1263 (hN 6 rfl) rfl ?_
    refine tt_aload_n O 5 dL_law_1265 rfl rfl ?_
    refine tt_callM O [] [] MT LL_107 obj_124 rfl rfl rfl dL_law_1266 (lw_fit rfl (by show k + 2 + 0 ≤ 90004; omega) (by show n + 12 + 0 ≤ 90024; omega)) rfl ?_
    refine tt_iload O 1 dL_law_1269 rfl ?_
    refine tt_icmp_eq O 1276 dL_law_1271 (by decide) rfl ?_
    refine tt_iload O 1 dL_law_1276 rfl ?_
    refine tt_if_ne O 1293 dL_law_1278 (by decide) (fun c => absurd rfl c) (fun _ => ?_)
    refine tt_aload_n O 6 dL_law_1281 rfl rfl ?_
    refine tt_iconst (x := 0) O dL_law_1282 rfl ?_
    refine tt_lald O R1.p4 dL_law_1283 ?_
    refine tt_iload O 0 dL_law_1284 rfl ?_
    refine tt_i2l O dL_law_1286 ?_
    refine tt_lcmp O dL_law_1287 ?_
    refine tt_if_eq O 1293 dL_law_1288 (by decide) (fun _ => ?_) (fun c => absurd (by rw [pk_uLs]; exact lg_cmp_self _) c)
    refine tt_goto O 1863 dL_law_1293 (by decide) ?_
    refine r_sub [2, 3, 4, 5, 6] rfl ?_
    exact r_widen (by show k + 2 + 0 + 0 ≤ k + 4; omega) (by show n + 12 + 0 + 0 ≤ n + 24; omega) K
  · have hv : o = .inr E := hv
    have z0 : s8 1302 = _ := h0
    subst hv
    have hne : ¬ g_k ["java/lang/IndexOutOfBoundsException", "java/lang/IllegalArgumentException"] E 1 = 0 := by
      simp only [List.mem_cons, List.not_mem_nil, or_false] at hE
      rcases hE with rfl | rfl <;> decide +kernel
    dsimp only [g_w] at M
    obtain ⟨res, hr, K⟩ := kk m1 s8 lm pm1 R1
    refine ⟨res, hr, ?_⟩
    have MT := met_X8_thrown (g_xl X) hs lm pm1 m1 s8
    dsimp only [R_X8_thrown] at MT
    rw [z0] at MT
    unfold lw_lc at K ⊢
    refine tt_aload_n O 2 dL_law_1228 rfl rfl ?_
    refine tt_aload_n O 1 dL_law_1229 rfl rfl ?_
    refine tt_iload O 0 dL_law_1230 rfl ?_
    refine tt_iconst (x := 1) O dL_law_1232 rfl ?_
    refine tt_iadd O dL_law_1233 ?_
    refine tt_sld O V I.2.1 dL_law_1234 ?_
    refine tt_aload_n O 1 dL_law_1235 rfl rfl ?_
    refine tt_iload O 0 dL_law_1236 rfl ?_
    refine tt_iconst (x := 2) O dL_law_1238 rfl ?_
    refine tt_iadd O dL_law_1239 ?_
    refine tt_sld O V I.2.2.1 dL_law_1240 ?_
    refine tt_aload_n O 4 dL_law_1241 rfl rfl ?_
    refine tt_callS O Y [.ref (g_ad X 122), .int (xs (i + 1).toNatClampNeg), .int (xs (i + 2).toNatClampNeg), .ref (g_ad X 129)] [] M g_LW_message rfl rfl rfl dL_law_1242 (lw_fit rfl (by omega) (by omega)) rfl ?_
    refine tt_istore O dL_law_1245 (hN 5 rfl) rfl ?_
    refine tt_aload_n O 4 dL_law_1247 rfl rfl ?_
    refine tt_aload_n O 2 dL_law_1248 rfl rfl ?_
    refine tt_iload O 1 dL_law_1249 rfl ?_
    refine tt_iconst (x := 1) O dL_law_1251 rfl ?_
    refine tt_iadd O dL_law_1252 ?_
    refine tt_sld O V I.2.1 dL_law_1253 ?_
    refine tt_aload_n O 2 dL_law_1254 rfl rfl ?_
    refine tt_iload O 1 dL_law_1255 rfl ?_
    refine tt_iconst (x := 2) O dL_law_1257 rfl ?_
    refine tt_iadd O dL_law_1258 ?_
    refine tt_sld O V I.2.2.1 dL_law_1259 ?_
    refine tt_callM O [.int (xs (i + 1).toNatClampNeg), .int (xs (i + 2).toNatClampNeg)] [] (M8 lm pm1 m1) LL_162 obj_124 rfl rfl rfl dL_law_1260 (lw_fit rfl (by show k + 2 ≤ 90004; omega) (by show n + 12 ≤ 90024; omega)) rfl ?_
    refine tt_istore O dL_law_1263 (hN 6 rfl) rfl ?_
    refine tt_aload_n O 5 dL_law_1265 rfl rfl ?_
    refine tt_callM O [] [] MT LL_107 obj_124 rfl rfl rfl dL_law_1266 (lw_fit rfl (by show k + 2 + 0 ≤ 90004; omega) (by show n + 12 + 0 ≤ 90024; omega)) rfl ?_
    refine tt_iload O 1 dL_law_1269 rfl ?_
    refine tt_icmp_eq O 1276 dL_law_1271 (by decide) rfl ?_
    refine tt_iload O 1 dL_law_1276 rfl ?_
    refine tt_if_ne O 1293 dL_law_1278 (by decide) (fun _ => ?_) (fun c => absurd c hne)
    refine tt_goto O 1863 dL_law_1293 (by decide) ?_
    refine r_sub [2, 3, 4, 5, 6] rfl ?_
    exact r_widen (by show k + 2 + 0 + 0 ≤ k + 4; omega) (by show n + 12 + 0 + 0 ≤ n + 24; omega) K
theorem g_LW_carried : g_LW 163 yL_carried cL_carried 5 4 [(0, 10, 13, 19), (0, 10, 17, 13)] := ⟨gW_in (i := 989) (by decide +kernel) rfl, gW_in (i := 72) (by decide +kernel) rfl, gW_in (i := 991) (by decide +kernel) rfl, by decide +kernel, gW_in (i := 990) (by decide +kernel) rfl⟩
set_option maxRecDepth 100000 in
set_option maxHeartbeats 4000000 in
theorem lc_carried (Z : lw_O X) (V : lw_V X b L xs) (I : lw_I L i) (R : g_Rel m s pm) (hk : k ≤ 90000) (hnn : n ≤ 90000) (kk : lw_K X (k + 4) (n + 24) (lw_lc X b i)) : lw_E X k n m (s, lm, pm) 1296 (lw_lc X b i) := by
  obtain ⟨O, Y, hs, hn⟩ := Z
  have hN : ∀ j, Nat.blt j 9 = true → j < g_xn X := fun j h => by rw [hn]; exact g_blt.mp h
  obtain ⟨p1, p2⟩ := lw_pasts R
  have M := met_L_carried (g_xl X) hs m s lm pm (xs (i + 1).toNatClampNeg) (xs (i + 2).toNatClampNeg) R.I R.p4
  have M8 := fun (lm : Nat → Int64) (pm : Nat → Nat) (m : Nat → Int32) => met_X8_carried (g_xl X) hs lm pm m s (xs (i + 1).toNatClampNeg) (xs (i + 2).toNatClampNeg) R.J
  have RF := Ref_carried R (xs (i + 1).toNatClampNeg) (xs (i + 2).toNatClampNeg)
  generalize R_X7_carried m pm (xs (i + 1).toNatClampNeg) (xs (i + 2).toNatClampNeg) = r7 at M RF
  generalize R_X8_carried s (xs (i + 1).toNatClampNeg) (xs (i + 2).toNatClampNeg) = r8 at M8 RF
  obtain ⟨o, m1, pm1⟩ := r7
  obtain ⟨v8, s8⟩ := r8
  obtain ⟨R1, RF⟩ := RF
  have R1 : g_Rel m1 s8 pm1 := R1
  dsimp only at M8
  rcases RF with ⟨v, hv, h0, he⟩ | ⟨E, hE, hv, h0⟩
  · have hv : o = .inl (some (.int v)) := hv
    have z0 : s8 1302 = 0 := h0
    have he : v = v8 := he
    subst hv; subst he
    dsimp only [g_w] at M
    obtain ⟨res, hr, K⟩ := kk m1 s8 (vp_updL lm 1 v.toInt64) pm1 R1
    refine ⟨res, hr, ?_⟩
    have MT := met_X8_thrown (g_xl X) hs (vp_updL lm 1 v.toInt64) pm1 m1 s8
    dsimp only [R_X8_thrown] at MT
    rw [z0] at MT
    unfold lw_lc at K ⊢
    refine tt_aload_n O 2 dL_law_1296 rfl rfl ?_
    refine tt_aload_n O 1 dL_law_1297 rfl rfl ?_
    refine tt_iload O 0 dL_law_1298 rfl ?_
    refine tt_iconst (x := 1) O dL_law_1300 rfl ?_
    refine tt_iadd O dL_law_1301 ?_
    refine tt_sld O V I.2.1 dL_law_1302 ?_
    refine tt_aload_n O 1 dL_law_1303 rfl rfl ?_
    refine tt_iload O 0 dL_law_1304 rfl ?_
    refine tt_iconst (x := 2) O dL_law_1306 rfl ?_
    refine tt_iadd O dL_law_1307 ?_
    refine tt_sld O V I.2.2.1 dL_law_1308 ?_
    refine tt_aload_n O 4 dL_law_1309 rfl rfl ?_
    refine tt_callS O Y [.ref (g_ad X 122), .int (xs (i + 1).toNatClampNeg), .int (xs (i + 2).toNatClampNeg), .ref (g_ad X 129)] [] M g_LW_carried rfl rfl rfl dL_law_1310 (lw_fit rfl (by omega) (by omega)) rfl ?_
    refine tt_istore O dL_law_1313 (hN 5 rfl) rfl ?_
    refine tt_aload_n O 4 dL_law_1315 rfl rfl ?_
    refine tt_aload_n O 2 dL_law_1316 rfl rfl ?_
    refine tt_iload O 1 dL_law_1317 rfl ?_
    refine tt_iconst (x := 1) O dL_law_1319 rfl ?_
    refine tt_iadd O dL_law_1320 ?_
    refine tt_sld O V I.2.1 dL_law_1321 ?_
    refine tt_aload_n O 2 dL_law_1322 rfl rfl ?_
    refine tt_iload O 1 dL_law_1323 rfl ?_
    refine tt_iconst (x := 2) O dL_law_1325 rfl ?_
    refine tt_iadd O dL_law_1326 ?_
    refine tt_sld O V I.2.2.1 dL_law_1327 ?_
    refine tt_callM O [.int (xs (i + 1).toNatClampNeg), .int (xs (i + 2).toNatClampNeg)] [] (M8 (vp_updL lm 1 v.toInt64) pm1 m1) LL_165 obj_124 rfl rfl rfl dL_law_1328 (lw_fit rfl (by show k + 2 ≤ 90004; omega) (by show n + 12 ≤ 90024; omega)) rfl ?_
    refine tt_istore O dL_law_1331 (hN 6 rfl) rfl ?_
    refine tt_aload_n O 5 dL_law_1333 rfl rfl ?_
    refine tt_callM O [] [] MT LL_107 obj_124 rfl rfl rfl dL_law_1334 (lw_fit rfl (by show k + 2 + 0 ≤ 90004; omega) (by show n + 12 + 0 ≤ 90024; omega)) rfl ?_
    refine tt_iload O 1 dL_law_1337 rfl ?_
    refine tt_icmp_eq O 1344 dL_law_1339 (by decide) rfl ?_
    refine tt_iload O 1 dL_law_1344 rfl ?_
    refine tt_if_ne O 1361 dL_law_1346 (by decide) (fun c => absurd rfl c) (fun _ => ?_)
    refine tt_aload_n O 6 dL_law_1349 rfl rfl ?_
    refine tt_iconst (x := 0) O dL_law_1350 rfl ?_
    refine tt_lald O R1.p4 dL_law_1351 ?_
    refine tt_iload O 0 dL_law_1352 rfl ?_
    refine tt_i2l O dL_law_1354 ?_
    refine tt_lcmp O dL_law_1355 ?_
    refine tt_if_eq O 1361 dL_law_1356 (by decide) (fun _ => ?_) (fun c => absurd (by rw [pk_uLs]; exact lg_cmp_self _) c)
    refine tt_goto O 1863 dL_law_1361 (by decide) ?_
    refine r_sub [2, 3, 4, 5, 6] rfl ?_
    exact r_widen (by show k + 2 + 0 + 0 ≤ k + 4; omega) (by show n + 12 + 0 + 0 ≤ n + 24; omega) K
  · have hv : o = .inr E := hv
    have z0 : s8 1302 = _ := h0
    subst hv
    have hne : ¬ g_k ["java/lang/IndexOutOfBoundsException", "java/lang/IllegalArgumentException"] E 1 = 0 := by
      simp only [List.mem_cons, List.not_mem_nil, or_false] at hE
      rcases hE with rfl | rfl <;> decide +kernel
    dsimp only [g_w] at M
    obtain ⟨res, hr, K⟩ := kk m1 s8 lm pm1 R1
    refine ⟨res, hr, ?_⟩
    have MT := met_X8_thrown (g_xl X) hs lm pm1 m1 s8
    dsimp only [R_X8_thrown] at MT
    rw [z0] at MT
    unfold lw_lc at K ⊢
    refine tt_aload_n O 2 dL_law_1296 rfl rfl ?_
    refine tt_aload_n O 1 dL_law_1297 rfl rfl ?_
    refine tt_iload O 0 dL_law_1298 rfl ?_
    refine tt_iconst (x := 1) O dL_law_1300 rfl ?_
    refine tt_iadd O dL_law_1301 ?_
    refine tt_sld O V I.2.1 dL_law_1302 ?_
    refine tt_aload_n O 1 dL_law_1303 rfl rfl ?_
    refine tt_iload O 0 dL_law_1304 rfl ?_
    refine tt_iconst (x := 2) O dL_law_1306 rfl ?_
    refine tt_iadd O dL_law_1307 ?_
    refine tt_sld O V I.2.2.1 dL_law_1308 ?_
    refine tt_aload_n O 4 dL_law_1309 rfl rfl ?_
    refine tt_callS O Y [.ref (g_ad X 122), .int (xs (i + 1).toNatClampNeg), .int (xs (i + 2).toNatClampNeg), .ref (g_ad X 129)] [] M g_LW_carried rfl rfl rfl dL_law_1310 (lw_fit rfl (by omega) (by omega)) rfl ?_
    refine tt_istore O dL_law_1313 (hN 5 rfl) rfl ?_
    refine tt_aload_n O 4 dL_law_1315 rfl rfl ?_
    refine tt_aload_n O 2 dL_law_1316 rfl rfl ?_
    refine tt_iload O 1 dL_law_1317 rfl ?_
    refine tt_iconst (x := 1) O dL_law_1319 rfl ?_
    refine tt_iadd O dL_law_1320 ?_
    refine tt_sld O V I.2.1 dL_law_1321 ?_
    refine tt_aload_n O 2 dL_law_1322 rfl rfl ?_
    refine tt_iload O 1 dL_law_1323 rfl ?_
    refine tt_iconst (x := 2) O dL_law_1325 rfl ?_
    refine tt_iadd O dL_law_1326 ?_
    refine tt_sld O V I.2.2.1 dL_law_1327 ?_
    refine tt_callM O [.int (xs (i + 1).toNatClampNeg), .int (xs (i + 2).toNatClampNeg)] [] (M8 lm pm1 m1) LL_165 obj_124 rfl rfl rfl dL_law_1328 (lw_fit rfl (by show k + 2 ≤ 90004; omega) (by show n + 12 ≤ 90024; omega)) rfl ?_
    refine tt_istore O dL_law_1331 (hN 6 rfl) rfl ?_
    refine tt_aload_n O 5 dL_law_1333 rfl rfl ?_
    refine tt_callM O [] [] MT LL_107 obj_124 rfl rfl rfl dL_law_1334 (lw_fit rfl (by show k + 2 + 0 ≤ 90004; omega) (by show n + 12 + 0 ≤ 90024; omega)) rfl ?_
    refine tt_iload O 1 dL_law_1337 rfl ?_
    refine tt_icmp_eq O 1344 dL_law_1339 (by decide) rfl ?_
    refine tt_iload O 1 dL_law_1344 rfl ?_
    refine tt_if_ne O 1361 dL_law_1346 (by decide) (fun _ => ?_) (fun c => absurd c hne)
    refine tt_goto O 1863 dL_law_1361 (by decide) ?_
    refine r_sub [2, 3, 4, 5, 6] rfl ?_
    exact r_widen (by show k + 2 + 0 + 0 ≤ k + 4; omega) (by show n + 12 + 0 + 0 ≤ n + 24; omega) K
end LC1
