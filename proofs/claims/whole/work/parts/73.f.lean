/-! ===== the text carried out, added to, cleared ===== -/
section SF
variable {m s t u w : Nat → Int32} {L : Nat} {pm : Nat → Nat}
/-- an order says the same wherever the text is the same -/
theorem eo_of (T0 : g_Tl m s L) (h : ∀ k, 890 ≤ k → k ≤ 980 → t k = m k) {i : Nat} (hi : i < L) : R_X6_behindOrder t (nI i) = R_X6_behindOrder m (nI i) := by
  have hL := T0.1
  have T1 : g_Tl m (upd s 1304 (nI i)) L := T0.ro (g_Ro.refl.upd (by omega))
  have a := (ord T1 hi g_upd_eq).1
  have b := (ord (T1.mem h) hi g_upd_eq).1
  rcases a with ⟨q, q1, q2, q3, q4⟩ | ⟨q, q0, q1, q2, q3, q4⟩
  · rcases b with ⟨p, p1, p2, p3, p4⟩ | ⟨p, p0, p1, p2, p3, p4⟩
    · rw [q2, p2, ← q4, ← p4]
    · rw [q3] at p3; exact absurd p3 (by decide)
  · rcases b with ⟨p, p1, p2, p3, p4⟩ | ⟨p, p0, p1, p2, p3, p4⟩
    · rw [q3] at p3; exact absurd p3 (by decide)
    · rw [q2, p2, ← q4, ← p4]
theorem carry_loop {M s0 S : Nat → Int32} {pm' : Nat → Nat} (hM : ∀ n, 890 ≤ n → n ≤ 980 → M n = m n) (T0 : g_Tl m s0 L) (hpm : (R_X7_save m pm).2 = pm') : ∀ (fc fm n i : Nat) (v : Int32) (t u : Nat → Int32), n ≤ i → i ≤ L → 90 < fc + n → 91 < fm + i → g_E t u → g_B7 t → g_U M t → (∀ k, 178 ≤ k → k < 1303 → u k = s0 k) → u 1304 = nI i → R_X6_firstWrong_4 m fc (nI i) n = -1 →
    ∃ v' t' u', R_X7_carryOut_29 m pm fc v (nI i) n t = (.inl (some (.int v')), t', pm') ∧ R_X8_carryOut_32 S fm v 1 u = R_X8_ends u' v' ∧ g_E t' u' ∧ g_B7 t' ∧ g_U M t' ∧ ∀ k, 178 ≤ k → k < 1303 → u' k = s0 k
  | 0, fm, n, i, v, t, u, h1, h2, h3, h4, E, B, U, V, hi, hw => absurd h3 (by have := T0.1; omega)
  | fc + 1, 0, n, i, v, t, u, h1, h2, h3, h4, E, B, U, V, hi, hw => absurd h4 (by have := T0.1; omega)
  | fc + 1, fm + 1, n, i, v, t, u, h1, h2, h3, h4, E, B, U, V, hi, hw => by
    have hL := T0.1
    have txt : ∀ k, 890 ≤ k → k ≤ 980 → t k = m k := fun k a b => (U k (by omega)).trans (hM k a b)
    have Tu : g_Tl t u L := by
      obtain ⟨a, b, c, d⟩ := T0
      refine ⟨a, (txt 980 (by omega) (by omega)).trans b, (V 1301 (by omega) (by omega)).trans c, fun k hk => ?_⟩
      rw [txt _ (by omega) (by omega), V _ (by omega) (by omega)]
      exact d k hk
    have qi : (nI i).toInt = (i : Int) := nI_toInt (by omega)
    have qL : (nI L).toInt = (L : Int) := nI_toInt (by omega)
    have qn : (nI n).toInt = (n : Int) := nI_toInt (by omega)
    have c90 : (90 : Int32).toInt = 90 := rfl
    unfold R_X7_carryOut_29 R_X8_carryOut_32 R_X8_carryOut_82
    rw [hpm, Tu.2.1, Tu.2.2.1, hi, if_neg (show ¬ (1 : Int32) = 0 by decide)]
    by_cases e : i = L
    · have le : nI L ≤ nI i := Int32.le_iff_toInt_le.mpr (by omega)
      rw [if_pos le, if_pos le, ite_self]
      exact ⟨v, t, u, rfl, rfl, E, B, U, V⟩
    have ne : ¬ nI L ≤ nI i := fun z => by have := j_le z; omega
    rw [if_neg (show ¬ (90 : Int32) ≤ nI n from fun z => by have := j_le z; omega), if_neg ne, if_neg ne]
    obtain ⟨f1, f2⟩ := fw_step hw (by omega) (by rw [T0.2.1]; omega)
    have eo : R_X6_behindOrder t (nI i) = R_X6_behindOrder m (nI i) := eo_of T0 txt (by omega)
    obtain ⟨o1, o2⟩ := ord Tu (i := i) (by omega) hi
    rw [eo] at o1
    rcases o1 with ⟨q, q1, q2, q3, q4⟩ | ⟨q, q0, q1, q2, q3, q4⟩
    · rw [q2] at f1
      exact absurd (show (0 : Int32) ≤ -1 - nI q from Int32.le_iff_toInt_le.mpr (by rw [j_0]; exact f1)) (wr_num q (by omega)).1
    · have A := o2 q3
      have r1 : g_Ro u (R_X8_readsOrder u).2 := Ro_order g_Ro.refl
      rw [if_neg (show ¬ (R_X8_readsOrder u).1 = 0 by rw [q3]; decide)]
      have E1 : g_E t (R_X8_readsOrder u).2 := E.congr (fun _ _ => rfl) (fun k hk => r1 k (by omega))
      generalize (R_X8_readsOrder u).2 = w at A r1 E1 q4 ⊢
      have V1 : ∀ k, 178 ≤ k → k < 1303 → w k = s0 k := fun k a b => (r1 k (by omega)).trans (V k a b)
      have D := does_JU E1.J
      rcases obey_does E1 (i := i) A (by omega) (by rw [eo]; exact f1) with ⟨o1, o2, o3⟩ | ⟨o1, o2, o3, o4⟩
      · rw [if_pos o1, if_neg o2, o3]
        unfold R_X8_carryOut_65 R_X8_carryOut_66 R_X8_carryOut_77
        rw [if_pos rfl, Int32.add_zero]
        obtain ⟨g, rfl⟩ : ∃ g, fm = g + 1 := ⟨fm - 1, by omega⟩
        unfold R_X8_carryOut_32 R_X8_carryOut_82
        rw [if_pos rfl]
        exact ⟨v, t, w, rfl, rfl, E1, B, U, V1⟩
      · rw [if_neg o1, if_pos o2]
        unfold R_X8_carryOut_66 R_X8_carryOut_77
        rw [if_neg (show ¬ (1 : Int32) = 0 by decide)]
        have U1 : g_U M (R_X7_obey t (nI i)) := U.trans o4
        have txt1 : ∀ k, 890 ≤ k → k ≤ 980 → R_X7_obey t (nI i) k = m k := fun k a b => (U1 k (by omega)).trans (hM k a b)
        have V2 : ∀ k, 178 ≤ k → k < 1303 → (R_X8_does w).2 k = s0 k := fun k a b => (D.2 k a (by omega)).trans (V1 k a b)
        have p4 : (R_X8_does w).2 1304 = nI q := (D.2 1304 (by omega) (by omega)).trans q4
        have T1 : g_Tl (R_X7_obey t (nI i)) s0 L := T0.mem txt1
        have eo1 : R_X6_behindOrder (R_X7_obey t (nI i)) (nI i) = nI q := (eo_of T0 txt1 (by omega)).trans q2
        rw [eo1]
        rw [q2] at f2
        exact carry_loop hM T0 hpm fc fm (n + 1) q (v + 1) _ _ (by omega) q1 (by omega) (by omega) o3 (B_obey B) U1 V2 p4 f2
end SF
