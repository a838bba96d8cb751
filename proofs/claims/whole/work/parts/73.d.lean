/-! ===== the text: one order on both sides, the first fault ===== -/
section SD
variable {m s t u : Nat → Int32} {L : Nat}
/-- what an order says, on both sides -/
def g_Ag (m : Nat → Int32) (i : Nat) (w : Nat → Int32) : Prop :=
  w 1305 = R_X6_byteAt m (nI i) ∧ (w 1305 = 99 → w 1306 = R_X6_setAt m (nI i + 1)) ∧ (w 1305 = 103 ∨ w 1305 = 116 → w 1306 = R_X6_digitAt m (nI i + 1) ∧ w 1307 = R_X6_digitAt m (nI i + 2)) ∧
  (w 1305 = 109 ∨ w 1305 = 114 → w 1306 = R_X6_digitAt m (nI i + 1)) ∧ (w 1305 = 112 → w 1306 = R_X6_numberAt m (nI i + 1))
theorem ord_out (T : g_Tl m s L) {i : Nat} (hi : i < L) (h4 : s 1304 = nI i) {b : Int32} {A : (Nat → Int32) → Prop}
    (hr : g_Re m (upd (upd s 1305 (s (1200 + i))) 1304 (nI (i + 1))) L (i + 1) b (R_X8_readsRest (upd (upd s 1305 (s (1200 + i))) 1304 (nI (i + 1)))) A) (hA : ∀ w w', (∀ n, n ≠ 1304 → w' n = w n) → A w → A w')
    (hg : ∀ w, w 1305 = s (1200 + i) → A w → g_Ag m i w) (hb : R_X6_behindOrder m (nI i) = b) :
    g_Ou L i (R_X6_behindOrder m (nI i)) (R_X8_readsOrder s) ∧ ((R_X8_readsOrder s).1 = 1 → g_Ag m i (R_X8_readsOrder s).2) := by
  have hL := T.1
  rw [order_eq, h4, nI_clamp (by omega), nI_p1 (by omega), hb]
  generalize R_X8_readsRest (upd (upd s 1305 (s (1200 + i))) 1304 (nI (i + 1))) = r at hr ⊢
  rcases hr with ⟨r0, q, q1, q2, q3⟩ | ⟨r1, p, p1, p2, p3, p4, p5, p6, p7⟩
  · rw [if_pos r0]
    refine ⟨Or.inl ⟨q, q1, q3, rfl, q2⟩, fun z => absurd z ?_⟩
    show ¬ (0 : Int32) = 1
    decide
  · rw [if_neg (by rw [r1]; decide)]
    have r0 : g_Ro s (upd (upd s 1305 (s (1200 + i))) 1304 (nI (i + 1))) := (g_Ro.refl.upd (by omega)).upd (by omega)
    obtain ⟨o1, o2⟩ := tail_out (T.ro (r0.trans p4)) p3 p2 (i := i) (by omega)
    rw [p5]
    have e5 : r.2 1305 = s (1200 + i) := by rw [p6, g_upd_ne (by omega), g_upd_eq]
    exact ⟨o1, fun _ => hg _ (by rw [o2 1305 (by omega), e5]) (hA r.2 _ o2 p7)⟩
theorem bo_99 {x : Int32} (h : R_X6_byteAt m x = 99) : R_X6_behindOrder m x = R_X6_behindSet m (x + 1) := by
  unfold R_X6_behindOrder
  rw [h]
  exact if_pos rfl
theorem bo_103 {x : Int32} (h : R_X6_byteAt m x = 103) : R_X6_behindOrder m x = R_X6_behindOrder_92 m x := by
  unfold R_X6_behindOrder
  rw [h, if_neg (show ¬ (103 : Int32) = 99 by decide), if_neg (show ¬ (103 : Int32) = 100 by decide), if_neg (show ¬ (103 : Int32) = 101 by decide), if_neg (show ¬ (103 : Int32) = 102 by decide)]
  exact if_pos rfl
theorem bo_109 {x : Int32} (h : R_X6_byteAt m x = 109) : R_X6_behindOrder m x = R_X6_behindOrder_100 m x := by
  unfold R_X6_behindOrder
  rw [h, if_neg (show ¬ (109 : Int32) = 99 by decide), if_neg (show ¬ (109 : Int32) = 100 by decide), if_neg (show ¬ (109 : Int32) = 101 by decide), if_neg (show ¬ (109 : Int32) = 102 by decide), if_neg (show ¬ (109 : Int32) = 103 by decide), if_neg (show ¬ (109 : Int32) = 104 by decide), if_neg (show ¬ (109 : Int32) = 105 by decide), if_neg (show ¬ (109 : Int32) = 106 by decide), if_neg (show ¬ (109 : Int32) = 107 by decide), if_neg (show ¬ (109 : Int32) = 108 by decide)]
  exact if_pos rfl
theorem bo_112 {x : Int32} (h : R_X6_byteAt m x = 112) : R_X6_behindOrder m x = R_X6_behindNumber m (x + 1) := by
  unfold R_X6_behindOrder
  rw [h, if_neg (show ¬ (112 : Int32) = 99 by decide), if_neg (show ¬ (112 : Int32) = 100 by decide), if_neg (show ¬ (112 : Int32) = 101 by decide), if_neg (show ¬ (112 : Int32) = 102 by decide), if_neg (show ¬ (112 : Int32) = 103 by decide), if_neg (show ¬ (112 : Int32) = 104 by decide), if_neg (show ¬ (112 : Int32) = 105 by decide), if_neg (show ¬ (112 : Int32) = 106 by decide), if_neg (show ¬ (112 : Int32) = 107 by decide), if_neg (show ¬ (112 : Int32) = 108 by decide), if_neg (show ¬ (112 : Int32) = 109 by decide), if_neg (show ¬ (112 : Int32) = 110 by decide), if_neg (show ¬ (112 : Int32) = 111 by decide)]
  exact if_pos rfl
theorem bo_114 {x : Int32} (h : R_X6_byteAt m x = 114) : R_X6_behindOrder m x = R_X6_behindOrder_100 m x := by
  unfold R_X6_behindOrder
  rw [h, if_neg (show ¬ (114 : Int32) = 99 by decide), if_neg (show ¬ (114 : Int32) = 100 by decide), if_neg (show ¬ (114 : Int32) = 101 by decide), if_neg (show ¬ (114 : Int32) = 102 by decide), if_neg (show ¬ (114 : Int32) = 103 by decide), if_neg (show ¬ (114 : Int32) = 104 by decide), if_neg (show ¬ (114 : Int32) = 105 by decide), if_neg (show ¬ (114 : Int32) = 106 by decide), if_neg (show ¬ (114 : Int32) = 107 by decide), if_neg (show ¬ (114 : Int32) = 108 by decide), if_neg (show ¬ (114 : Int32) = 109 by decide), if_neg (show ¬ (114 : Int32) = 110 by decide), if_neg (show ¬ (114 : Int32) = 111 by decide), if_neg (show ¬ (114 : Int32) = 112 by decide), if_neg (show ¬ (114 : Int32) = 113 by decide)]
  exact if_pos rfl
theorem bo_116 {x : Int32} (h : R_X6_byteAt m x = 116) : R_X6_behindOrder m x = R_X6_behindOrder_92 m x := by
  unfold R_X6_behindOrder
  rw [h, if_neg (show ¬ (116 : Int32) = 99 by decide), if_neg (show ¬ (116 : Int32) = 100 by decide), if_neg (show ¬ (116 : Int32) = 101 by decide), if_neg (show ¬ (116 : Int32) = 102 by decide), if_neg (show ¬ (116 : Int32) = 103 by decide), if_neg (show ¬ (116 : Int32) = 104 by decide), if_neg (show ¬ (116 : Int32) = 105 by decide), if_neg (show ¬ (116 : Int32) = 106 by decide), if_neg (show ¬ (116 : Int32) = 107 by decide), if_neg (show ¬ (116 : Int32) = 108 by decide), if_neg (show ¬ (116 : Int32) = 109 by decide), if_neg (show ¬ (116 : Int32) = 110 by decide), if_neg (show ¬ (116 : Int32) = 111 by decide), if_neg (show ¬ (116 : Int32) = 112 by decide), if_neg (show ¬ (116 : Int32) = 113 by decide), if_neg (show ¬ (116 : Int32) = 114 by decide), if_neg (show ¬ (116 : Int32) = 115 by decide)]
  exact if_pos rfl
theorem ord (T : g_Tl m s L) {i : Nat} (hi : i < L) (h4 : s 1304 = nI i) :
    g_Ou L i (R_X6_behindOrder m (nI i)) (R_X8_readsOrder s) ∧ ((R_X8_readsOrder s).1 = 1 → g_Ag m i (R_X8_readsOrder s).2) := by
  have hL := T.1
  have hB : R_X6_byteAt m (nI i) = s (1200 + i) := by rw [byte_at T (by omega), if_pos hi]
  have r0 : g_Ro s (upd (upd s 1305 (s (1200 + i))) 1304 (nI (i + 1))) := (g_Ro.refl.upd (by omega)).upd (by omega)
  have T0 := T.ro r0
  have h0 : (upd (upd s 1305 (s (1200 + i))) 1304 (nI (i + 1))) 1304 = nI (i + 1) := g_upd_eq
  have h5 : (upd (upd s 1305 (s (1200 + i))) 1304 (nI (i + 1))) 1305 = s (1200 + i) := by rw [g_upd_ne (by omega), g_upd_eq]
  have p1 := nI_p1 (p := i) (by omega)
  have p2 := nI_p2 (p := i) (by omega)
  by_cases c1 : s (1200 + i) = 112
  · refine ord_out T hi h4 (b := R_X6_behindNumber m (nI (i + 1))) (A := fun w => w 1306 = R_X6_numberAt m (nI (i + 1))) ?_ (fun w w' e a => (e _ (by omega)).trans a) (fun w e a => ?_) ?_
    · unfold R_X8_readsRest
      rw [h5, if_pos c1]
      exact rst_p T0 (by omega) (by omega) h0
    · refine ⟨by rw [e, hB], ?_, ?_, ?_, ?_⟩
      · intro z; rw [e, c1] at z; exact absurd z (by decide)
      · intro z; rw [e, c1] at z; exact absurd z (by decide)
      · intro z; rw [e, c1] at z; exact absurd z (by decide)
      · intro z; rw [p1]; exact a
    · rw [bo_112 (hB.trans c1), p1]
  by_cases c2 : s (1200 + i) = 99
  · refine ord_out T hi h4 (b := R_X6_behindSet m (nI (i + 1))) (A := fun w => w 1306 = R_X6_setAt m (nI (i + 1))) ?_ (fun w w' e a => (e _ (by omega)).trans a) (fun w e a => ?_) ?_
    · unfold R_X8_readsRest
      rw [h5, if_neg c1, if_pos c2]
      exact rst_c T0 (by omega) (by omega) h0
    · refine ⟨by rw [e, hB], ?_, ?_, ?_, ?_⟩
      · intro z; rw [p1]; exact a
      · intro z; rw [e, c2] at z; exact absurd z (by decide)
      · intro z; rw [e, c2] at z; exact absurd z (by decide)
      · intro z; rw [e, c2] at z; exact absurd z (by decide)
    · rw [bo_99 (hB.trans c2), p1]
  by_cases c3 : s (1200 + i) = 103 ∨ s (1200 + i) = 116
  · refine ord_out T hi h4 (b := R_X6_behindTwoDigits m (nI (i + 1))) (A := fun w => w 1306 = R_X6_digitAt m (nI (i + 1)) ∧ w 1307 = R_X6_digitAt m (nI (i + 1 + 1))) ?_ (fun w w' e a => ⟨(e _ (by omega)).trans a.1, (e _ (by omega)).trans a.2⟩) (fun w e a => ?_) ?_
    · have e76 : R_X8_readsRest (upd (upd s 1305 (s (1200 + i))) 1304 (nI (i + 1))) = R_X8_readsRest_76 (upd (upd s 1305 (s (1200 + i))) 1304 (nI (i + 1))) := by
        unfold R_X8_readsRest
        rw [h5, if_neg c1, if_neg c2]
        rcases c3 with c | c
        · rw [if_pos c]
        · rw [if_pos c]
          rw [ite_self, ite_self]
      rw [e76]
      refine rst_2 T0 (by omega) (by omega) h0 ?_ ?_
      · rw [h5]; rcases c3 with c | c <;> rw [c] <;> decide
      · rw [h5]; rcases c3 with c | c <;> rw [c] <;> decide
    · refine ⟨by rw [e, hB], ?_, ?_, ?_, ?_⟩
      · intro z; rw [e] at z; exact absurd z c2
      · intro _; rw [p1, p2]; exact a
      · intro z; rw [p1]; exact a.1
      · intro z; rw [e] at z; exact absurd z c1
    · have e92 : R_X6_behindOrder_92 m (nI i) = R_X6_behindTwoDigits m (nI (i + 1)) := by
        unfold R_X6_behindOrder_92
        rw [p1]
      rcases c3 with c | c
      · rw [bo_103 (hB.trans c), e92]
      · rw [bo_116 (hB.trans c), e92]
  by_cases c4 : s (1200 + i) = 114 ∨ s (1200 + i) = 109
  · refine ord_out T hi h4 (b := if R_X6_isUpTo m 5 (nI (i + 1)) = 0 then R_X6_wrongAt m (nI (i + 1)) else R_X6_behindEnd m (nI (i + 1 + 1))) (A := fun w => w 1306 = R_X6_digitAt m (nI (i + 1))) ?_ (fun w w' e a => (e _ (by omega)).trans a) (fun w e a => ?_) ?_
    · have e76 : R_X8_readsRest (upd (upd s 1305 (s (1200 + i))) 1304 (nI (i + 1))) = R_X8_readsRest_76 (upd (upd s 1305 (s (1200 + i))) 1304 (nI (i + 1))) := by
        unfold R_X8_readsRest
        rw [h5, if_neg c1, if_neg c2]
        rcases c4 with c | c
        · rw [if_pos c, ite_self]
        · rw [if_pos c]
          rw [ite_self, ite_self, ite_self]
      rw [e76]
      exact rst_1 T0 (by omega) (by omega) h0 (by rw [h5]; exact c4)
    · refine ⟨by rw [e, hB], ?_, ?_, ?_, ?_⟩
      · intro z; rw [e] at z; exact absurd z c2
      · intro z; rw [e] at z; exact absurd z c3
      · intro z; rw [p1]; exact a
      · intro z; rw [e] at z; exact absurd z c1
    · have e100 : R_X6_behindOrder_100 m (nI i) = if R_X6_isUpTo m 5 (nI (i + 1)) = 0 then R_X6_wrongAt m (nI (i + 1)) else R_X6_behindEnd m (nI (i + 1 + 1)) := by
        unfold R_X6_behindOrder_100
        rw [p1, p2]
      rcases c4 with c | c
      · rw [bo_114 (hB.trans c), e100]
      · rw [bo_109 (hB.trans c), e100]
  · have c5 : ¬ s (1200 + i) = 103 := fun z => c3 (Or.inl z)
    have c6 : ¬ s (1200 + i) = 116 := fun z => c3 (Or.inr z)
    have c7 : ¬ s (1200 + i) = 114 := fun z => c4 (Or.inl z)
    have c8 : ¬ s (1200 + i) = 109 := fun z => c4 (Or.inr z)
    refine ord_out T hi h4 (b := -1 - nI i) (A := fun _ => False) ?_ (fun w w' e a => a) (fun w e a => a.elim) ?_
    · unfold R_X8_readsRest
      rw [h5, if_neg c1, if_neg c2, if_neg c5, if_neg c7, if_neg c6, if_neg c8, h0]
      have e : nI (i + 1) - 1 = nI i := Int32.toInt_inj.mp (by rw [j_sub1 (by rw [nI_toInt (by omega)]; omega), nI_toInt (by omega), nI_toInt (by omega)]; omega)
      rw [e]
      refine Or.inl ⟨rfl, i, by omega, ?_, rfl⟩
      dsimp only
      exact g_upd_eq
    · unfold R_X6_behindOrder R_X6_behindOrder_144
      rw [hB, wrong_at]
      generalize -1 - nI i = V
      simp only [if_neg c1, if_neg c2, if_neg c5, if_neg c6, if_neg c7, if_neg c8, ite_self]
theorem wr_num : ∀ q < 101, ¬ (0 : Int32) ≤ -1 - nI q ∧ (-1 : Int32) - (-1 - nI q) = nI q := by decide +kernel
theorem fault_loop (T0 : g_Tl m s L) : ∀ (fc fm n i : Nat) (t : Nat → Int32), n ≤ i → i ≤ L → 90 < fc + n → 90 < fm + i → g_Ro s t → t 1304 = nI i → R_X6_firstWrong_4 m fc (nI i) n = (R_X8_faultAt_5 s fm t).1
  | 0, fm, n, i, t, h1, h2, h3, _, _, _ => absurd h3 (by have := T0.1; omega)
  | fc + 1, 0, n, i, t, h1, h2, h3, h4, _, _ => absurd h4 (by have := T0.1; omega)
  | fc + 1, fm + 1, n, i, t, h1, h2, h3, h4, r, hi => by
    have hL := T0.1
    have T := T0.ro r
    have qi : (nI i).toInt = (i : Int) := nI_toInt (by omega)
    have qL : (nI L).toInt = (L : Int) := nI_toInt (by omega)
    have qn : (nI n).toInt = (n : Int) := nI_toInt (by omega)
    have c90 : (90 : Int32).toInt = 90 := rfl
    unfold R_X6_firstWrong_4 R_X8_faultAt_5
    rw [T.2.1, T.2.2.1, hi]
    by_cases e : i = L
    · rw [if_pos (show nI L ≤ nI i from Int32.le_iff_toInt_le.mpr (by omega)), if_pos (show nI L ≤ nI i from Int32.le_iff_toInt_le.mpr (by omega)), ite_self]
    · have ne : ¬ nI L ≤ nI i := fun z => by have := j_le z; omega
      rw [if_neg (show ¬ (90 : Int32) ≤ nI n from fun z => by have := j_le z; omega), if_neg ne, if_neg ne]
      obtain ⟨o1, -⟩ := ord T (i := i) (by omega) hi
      rcases o1 with ⟨q, q1, q2, q3, q4⟩ | ⟨q, q0, q1, q2, q3, q4⟩
      · obtain ⟨w1, w2⟩ := wr_num q (by omega)
        rw [q2, q3, if_neg w1, if_pos (show (0 : Int32) = 0 from rfl), q4]
        exact w2
      · have qq : (nI q).toInt = (q : Int) := nI_toInt (by omega)
        rw [q2, q3, if_pos (Int32.le_iff_toInt_le.mpr (by rw [j_0]; omega)), if_neg (by decide)]
        exact fault_loop T0 fc fm (n + 1) q _ (by omega) q1 (by omega) (by omega) (r.trans (Ro_order g_Ro.refl)) q4
theorem fault_eq (T : g_Tl m s L) : R_X6_firstWrong m = (R_X8_faultAt s).1 :=
  fault_loop T 91 91 0 0 (upd s 1304 0) (by omega) (by omega) (by omega) (by omega) (g_Ro.refl.upd (by omega)) g_upd_eq
end SD
