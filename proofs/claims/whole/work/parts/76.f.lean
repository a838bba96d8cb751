/-! ===== the law's body: its loop ===== -/
section LL
variable {X : g_X} {m s : Nat → Int32} {lm : Nat → Int64} {pm : Nat → Nat} {k n b L : Nat} {xs : Nat → Int32}
theorem lw_in {t : Nat} (hL : L ≤ 2048) (ht : 4 * t + 4 ≤ L) : lw_I L (nI (4 * t)) := by
  have h : ∀ j, j < 4 → vp_in (nI (4 * t + j)) L := fun j hj => by
    have e : (nI (4 * t + j)).toInt = ((4 * t + j : Nat) : Int) := nI_toInt (by omega)
    exact g_vin (by omega) (by omega)
  refine ⟨h 0 (by omega), ?_, ?_, ?_⟩
  · rw [show (1 : Int32) = nI 1 from rfl, nI_add]; exact h 1 (by omega)
  · rw [show (2 : Int32) = nI 2 from rfl, nI_add]; exact h 2 (by omega)
  · rw [show (3 : Int32) = nI 3 from rfl, nI_add]; exact h 3 (by omega)
theorem lw_cmp {t : Nat} (hL : L ≤ 2048) (ht : 4 * t ≤ L) : Int32.ofNat L - 4 < nI (4 * t) ↔ L < 4 * t + 4 := by
  show nI L - nI 4 < nI (4 * t) ↔ _
  by_cases h : 4 ≤ L
  · rw [pk_sub h]
    constructor
    · intro c
      rcases Nat.lt_or_ge L (4 * t + 4) with z | z
      · exact z
      · exact absurd c (nI_nlt (by omega) (by omega))
    · intro c
      exact nI_lt (by omega) (by omega)
  · have t0 : t = 0 := by omega
    subst t0
    have hc : L = 0 ∨ L = 1 ∨ L = 2 ∨ L = 3 := by omega
    rcases hc with rfl | rfl | rfl | rfl <;> decide +kernel
/-- the end: true -/
theorem lw_exit {t : Nat} (Z : lw_O X) (V : lw_V X b L xs) (hL : L ≤ 2048) (ht : 4 * t ≤ L) (h : L < 4 * t + 4) (hk : k ≤ 90000) (hnn : n ≤ 90000) : lw_E X k n m (s, lm, pm) 23 (lw_lc X b (nI (4 * t))) := by
  obtain ⟨O, Y, hs, hn⟩ := Z
  refine ⟨(.inl (some (.int 1)), m, s, lm, pm), rfl, ?_⟩
  unfold lw_lc
  refine tt_iload O 0 dL_law_23 rfl ?_
  refine tt_aload_n O 1 dL_law_25 rfl rfl ?_
  refine tt_slen O V dL_law_26 ?_
  refine tt_iconst (x := 4) O dL_law_27 rfl ?_
  refine tt_isub O dL_law_28 ?_
  refine tt_icmp_gt O 1869 dL_law_29 (by decide) (fun _ => ?_) (fun c => absurd ((lw_cmp hL ht).mpr h) c)
  refine tt_iconst (x := 1) O dL_law_1869 rfl ?_
  exact tt_zret O dL_law_1870 rfl (Nat.le_trans hk (Nat.le_of_ble_eq_true rfl)) (Nat.le_trans hnn (Nat.le_of_ble_eq_true rfl)) rfl
/-- from the loop's head to a case -/
theorem lw_head {t j tgt : Nat} {off : Int} (Z : lw_O X) (V : lw_V X b L xs) (hL : L ≤ 2048) (h : 4 * t + 4 ≤ L) (hj : xs (nI (4 * t)).toNatClampNeg &&& 31 = nI j) (hj2 : j < 32) (ho : (#[141, 197, 277, 333, 389, 457, 525, 593, 649, 705, 761, 817, 873, 929, 997, 1065, 1133, 1189, 1257, 1325, 1393, 1449, 1505, 1561, 1574, 1587, 1643, 1684, 1740, 1753, 1766, 1810] : Array Int)[j]? = some off) (ht : ((39 : Nat) : Int) + off = (tgt : Int)) (hE : lw_E X k n m (s, lm, pm) tgt (lw_lc X b (nI (4 * t)))) : lw_E X k n m (s, lm, pm) 23 (lw_lc X b (nI (4 * t))) := by
  obtain ⟨O, Y, hs, hn⟩ := Z
  obtain ⟨res, hr, K⟩ := hE
  refine ⟨res, hr, ?_⟩
  have I := lw_in hL h
  have c32 : (nI j).toInt = (j : Int) := nI_toInt (by omega)
  unfold lw_lc at K ⊢
  refine tt_iload O 0 dL_law_23 rfl ?_
  refine tt_aload_n O 1 dL_law_25 rfl rfl ?_
  refine tt_slen O V dL_law_26 ?_
  refine tt_iconst (x := 4) O dL_law_27 rfl ?_
  refine tt_isub O dL_law_28 ?_
  refine tt_icmp_gt O 1869 dL_law_29 (by decide) (fun c => ?_) (fun _ => ?_)
  · have := (lw_cmp hL (by omega)).mp c
    omega
  refine tt_aload_n O 1 dL_law_32 rfl rfl ?_
  refine tt_iload O 0 dL_law_33 rfl ?_
  refine tt_sld O V I.1 dL_law_35 ?_
  refine tt_bipush (x := 31) O dL_law_36 rfl ?_
  refine tt_iand O dL_law_38 ?_
  rw [hj]
  refine tt_tabIn O tgt dL_law_39 (by rw [c32]; omega) (by rw [c32]; omega) (by rw [c32, show ((j : Int) - 0).toNat = j by omega]; exact ho) ht ?_
  exact K
/-- the loop -/
theorem lw_loop (Z : lw_O X) (V : lw_V X b L xs) (hL : L ≤ 2048) : ∀ (d t : Nat) (m s : Nat → Int32) (lm : Nat → Int64) (pm : Nat → Nat) (k n : Nat), L < 4 * (t + d) + 4 → 4 * t ≤ L → g_Rel m s pm → k ≤ 200 + 4 * t → n ≤ 3000 + 24 * t → lw_E X k n m (s, lm, pm) 23 (lw_lc X b (nI (4 * t))) := by
  intro d
  induction d with
  | zero => intro t m s lm pm k n h1 h2 R hk hn; exact lw_exit Z V hL h2 (by omega) (by omega) (by omega)
  | succ d ih =>
    intro t m s lm pm k n h1 h2 R hk hn
    rcases Nat.lt_or_ge L (4 * t + 4) with h | h
    · exact lw_exit Z V hL h2 h (by omega) (by omega)
    have kk : lw_K X (k + 4) (n + 24) (lw_lc X b (nI (4 * t))) := by
      intro m s lm pm R
      obtain ⟨res, hr, K⟩ := ih (t + 1) m s lm pm (k + 4) (n + 24) (by omega) (by omega) R (by omega) (by omega)
      refine ⟨res, hr, ?_⟩
      obtain ⟨O, Y, hs, hxn⟩ := Z
      have hN : ∀ j, Nat.blt j 9 = true → j < g_xn X := fun j h => by rw [hxn]; exact g_blt.mp h
      unfold lw_lc at K ⊢
      refine tt_iinc (y := nI (4 * (t + 1))) O 0 dL_law_1863 rfl (by rw [show Int32.ofInt 4 = nI 4 from rfl, nI_add]; congr 1) (hN 4 rfl) rfl ?_
      refine tt_goto O 23 dL_law_1866 (by decide) ?_
      exact K
    have I := lw_in hL h
    have hk9 : k ≤ 90000 := by omega
    have hn9 : n ≤ 90000 := by omega
    obtain ⟨j, hj, he⟩ := pk_andE (xs (nI (4 * t)).toNatClampNeg) (m := 31) 5 rfl
    have hj : j < 32 := hj
    have hc : j = 0 ∨ j = 1 ∨ j = 2 ∨ j = 3 ∨ j = 4 ∨ j = 5 ∨ j = 6 ∨ j = 7 ∨ j = 8 ∨ j = 9 ∨ j = 10 ∨ j = 11 ∨ j = 12 ∨ j = 13 ∨ j = 14 ∨ j = 15 ∨ j = 16 ∨ j = 17 ∨ j = 18 ∨ j = 19 ∨ j = 20 ∨ j = 21 ∨ j = 22 ∨ j = 23 ∨ j = 24 ∨ j = 25 ∨ j = 26 ∨ j = 27 ∨ j = 28 ∨ j = 29 ∨ j = 30 ∨ j = 31 := by omega
    rcases hc with rfl | rfl | rfl | rfl | rfl | rfl | rfl | rfl | rfl | rfl | rfl | rfl | rfl | rfl | rfl | rfl | rfl | rfl | rfl | rfl | rfl | rfl | rfl | rfl | rfl | rfl | rfl | rfl | rfl | rfl | rfl | rfl
    · exact lw_head Z V hL h he (by decide) rfl (tgt := 180) (by decide) (lc_begin Z V I R hk9 hn9 kk)
    · exact lw_head Z V hL h he (by decide) rfl (tgt := 236) (by decide) (lc_setPassage Z V I R hk9 hn9 kk)
    · exact lw_head Z V hL h he (by decide) rfl (tgt := 316) (by decide) (lc_addRope Z V I R hk9 hn9 kk)
    · exact lw_head Z V hL h he (by decide) rfl (tgt := 372) (by decide) (lc_addHelper Z V I R hk9 hn9 kk)
    · exact lw_head Z V hL h he (by decide) rfl (tgt := 428) (by decide) (lc_setSilence Z V I R hk9 hn9 kk)
    · exact lw_head Z V hL h he (by decide) rfl (tgt := 496) (by decide) (lc_go Z V I R hk9 hn9 kk)
    · exact lw_head Z V hL h he (by decide) rfl (tgt := 564) (by decide) (lc_take Z V I R hk9 hn9 kk)
    · exact lw_head Z V hL h he (by decide) rfl (tgt := 632) (by decide) (lc_lay Z V I R hk9 hn9 kk)
    · exact lw_head Z V hL h he (by decide) rfl (tgt := 688) (by decide) (lc_rig Z V I R hk9 hn9 kk)
    · exact lw_head Z V hL h he (by decide) rfl (tgt := 744) (by decide) (lc_takeOff Z V I R hk9 hn9 kk)
    · exact lw_head Z V hL h he (by decide) rfl (tgt := 800) (by decide) (lc_carry Z V I R hk9 hn9 kk)
    · exact lw_head Z V hL h he (by decide) rfl (tgt := 856) (by decide) (lc_send Z V I R hk9 hn9 kk)
    · exact lw_head Z V hL h he (by decide) rfl (tgt := 912) (by decide) (lc_pass Z V I R hk9 hn9 kk)
    · exact lw_head Z V hL h he (by decide) rfl (tgt := 968) (by decide) (lc_passage Z V I R hk9 hn9 kk)
    · exact lw_head Z V hL h he (by decide) rfl (tgt := 1036) (by decide) (lc_rope Z V I R hk9 hn9 kk)
    · exact lw_head Z V hL h he (by decide) rfl (tgt := 1104) (by decide) (lc_helper Z V I R hk9 hn9 kk)
    · exact lw_head Z V hL h he (by decide) rfl (tgt := 1172) (by decide) (lc_value Z V I R hk9 hn9 kk)
    · exact lw_head Z V hL h he (by decide) rfl (tgt := 1228) (by decide) (lc_message Z V I R hk9 hn9 kk)
    · exact lw_head Z V hL h he (by decide) rfl (tgt := 1296) (by decide) (lc_carried Z V I R hk9 hn9 kk)
    · exact lw_head Z V hL h he (by decide) rfl (tgt := 1364) (by decide) (lc_why Z V I R hk9 hn9 kk)
    · exact lw_head Z V hL h he (by decide) rfl (tgt := 1432) (by decide) (lc_minutesUp Z V I R hk9 hn9 kk)
    · exact lw_head Z V hL h he (by decide) rfl (tgt := 1488) (by decide) (lc_spare Z V I R hk9 hn9 kk)
    · exact lw_head Z V hL h he (by decide) rfl (tgt := 1544) (by decide) (lc_bestRope Z V I R hk9 hn9 kk)
    · exact lw_head Z V hL h he (by decide) rfl (tgt := 1600) (by decide) (lc_carryMinutes Z V I R hk9 hn9 kk)
    · exact lw_head Z V hL h he (by decide) rfl (tgt := 1613) (by decide) (lc_team Z V I R hk9 hn9 kk)
    · exact lw_head Z V hL h he (by decide) rfl (tgt := 1626) (by decide) (lc_reach Z V I R hk9 hn9 kk)
    · exact lw_head Z V hL h he (by decide) rfl (tgt := 1682) (by decide) (lc_meanTiredness Z V I R hk9 hn9 kk)
    · exact lw_head Z V hL h he (by decide) rfl (tgt := 1723) (by decide) (lc_append Z V I R hk9 hn9 kk)
    · exact lw_head Z V hL h he (by decide) rfl (tgt := 1779) (by decide) (lc_clearText Z V I R hk9 hn9 kk)
    · exact lw_head Z V hL h he (by decide) rfl (tgt := 1792) (by decide) (lc_carryOut Z V I R hk9 hn9 kk)
    · exact lw_head Z V hL h he (by decide) rfl (tgt := 1805) (by decide) (lc_undo Z V I R hk9 hn9 kk)
    · exact lw_head Z V hL h he (by decide) rfl (tgt := 1849) (by decide) (lc_digest Z V I R hk9 hn9 kk)
end LL
