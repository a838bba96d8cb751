/-! ===== class beside model: laying, taking off ===== -/
section PE
variable {m s : Nat → Int32}
/-- a rope leaves a helper's hand -/
theorem leave_eq {x h w : Int32} (r0 : 0 ≤ (s (58 + 9 * x.toNatClampNeg + 5)).toInt) (r1 : (s (58 + 9 * x.toNatClampNeg + 5)).toInt < 8) : R_X8_leaves s x h w = upd (upd (upd s (35 + 3 * (s (58 + 9 * x.toNatClampNeg + 5)).toNatClampNeg) h) (36 + 3 * (s (58 + 9 * x.toNatClampNeg + 5)).toNatClampNeg) w) (58 + 9 * x.toNatClampNeg + 5) (-1) := by
  unfold R_X8_leaves
  rw [sr1 r0 r1, sr2 r0 r1]
theorem put_eq {r a b : Int32} (m1 : m 1 = s 1) (r0 : 0 ≤ r.toInt) (r1 : r.toInt < (s 1).toInt) : R_X5_put m r a b = upd (upd m (35 + 3 * r.toNatClampNeg) a) (36 + 3 * r.toNatClampNeg) b := by
  unfold R_X5_put
  have hh : ¬ R_X5_has m r = 0 := by
    unfold R_X5_has
    rw [m1, if_neg (fun z => by have := j_ltR z j_0; omega), if_neg (fun z => by have := j_le z; omega)]
    decide
  rw [if_neg hh]
/-- the invariant when a rope that a helper has is laid down -/
theorem J_leave {x w : Int32} (a : g_J s) (hx : (x.toNatClampNeg : Int) < (s 2).toInt) (r0 : 0 ≤ (s (58 + 9 * x.toNatClampNeg + 5)).toInt) (hd : s (58 + 9 * x.toNatClampNeg + 2) ≠ 2) : g_J (R_X8_leaves s x 0 w) := by
  have hj := a.n
  have hp := a.2.2.1 _ hx
  have hp5 := hp.2.2.1
  have q5 := j_nat r0
  rw [leave_eq r0 (by omega)]
  have K := g_K.of a hx
  refine (K.step (t := upd (upd (upd s (35 + 3 * (s (58 + 9 * x.toNatClampNeg + 5)).toNatClampNeg) 0) (36 + 3 * (s (58 + 9 * x.toNatClampNeg + 5)).toNatClampNeg) w) (58 + 9 * x.toNatClampNeg + 5) (-1)) (by omega) (((g_Out.refl.upd (by omega)).upd (by omega)).upd (by omega)) ?_ ?_ (fun p hp => ?_) ?_ ?_).j ?_
  · rw [g_upd_ne (by omega), g_upd_ne (by omega), g_upd_ne (by omega)]; exact a.1.2.2.2.2.1
  · rw [g_upd_ne (by omega), g_upd_ne (by omega), g_upd_ne (by omega)]; exact a.1.2.2.2.2.2.1
  · rw [g_upd_ne (by omega), g_upd_ne (by omega), g_upd_ne (by omega)]; exact (a.2.1 p hp).2.2
  · have e : ∀ j, j < 9 → j ≠ 5 → upd (upd (upd s (35 + 3 * (s (58 + 9 * x.toNatClampNeg + 5)).toNatClampNeg) 0) (36 + 3 * (s (58 + 9 * x.toNatClampNeg + 5)).toNatClampNeg) w) (58 + 9 * x.toNatClampNeg + 5) (-1) (58 + 9 * x.toNatClampNeg + j) = s (58 + 9 * x.toNatClampNeg + j) := fun j h1 h2 => by
      rw [g_upd_ne (by omega), g_upd_ne (by omega), g_upd_ne (by omega)]
    have e0 : ∀ j, j < 2 → upd (upd (upd s (35 + 3 * (s (58 + 9 * x.toNatClampNeg + 5)).toNatClampNeg) 0) (36 + 3 * (s (58 + 9 * x.toNatClampNeg + 5)).toNatClampNeg) w) (58 + 9 * x.toNatClampNeg + 5) (-1) j = s j := fun j h1 => by
      rw [g_upd_ne (by omega), g_upd_ne (by omega), g_upd_ne (by omega)]
    have := hp.q
    unfold g_Hq at this ⊢
    rw [e 1 (by omega) (by omega), e 2 (by omega) (by omega), e 3 (by omega) (by omega), e 4 (by omega) (by omega), e 8 (by omega) (by omega), e0 0 (by omega), e0 1 (by omega), g_upd_eq]
    obtain ⟨b1, b2, b3, b4, b5, b6⟩ := this
    exact ⟨b1, b2, ⟨by decide, by rw [show (-1 : Int32).toInt = -1 from rfl]; omega⟩, b4, b5, fun z => absurd z hd⟩
  · rw [g_upd_ne (by omega), g_upd_ne (by omega), g_upd_ne (by omega), g_upd_ne (by omega), g_upd_ne (by omega), g_upd_ne (by omega)]
    exact fun z => ⟨z, rfl⟩
  · have := hp.z
    unfold g_H7 at this ⊢
    rw [g_upd_ne (by omega), g_upd_ne (by omega), g_upd_ne (by omega), g_upd_ne (by omega), g_upd_ne (by omega), g_upd_ne (by omega), g_upd_ne (by omega), g_upd_ne (by omega), g_upd_ne (by omega)]
    exact this
theorem E_lay (E : g_E m s) {x : Int32} (h0 : 0 ≤ x.toInt) (h1 : x.toInt < (s 2).toInt) (hr : s (58 + 9 * x.toNatClampNeg + 5) ≠ -1) (hd : s (58 + 9 * x.toNatClampNeg + 2) = 0) : g_E (R_X0_layRope m x).2 (R_X8_leaves s x 0 (s (58 + 9 * x.toNatClampNeg + 1))) ∧ (R_X0_layRope m x).1 = s (58 + 9 * x.toNatClampNeg + 5) ∧ g_U m (R_X0_layRope m x).2 := by
  have hj := E.J.n
  have hx := j_nat h0
  have hp := E.J.2.2.1 x.toNatClampNeg (by omega)
  have hp5 := hp.2.2.1
  have c' := j_ne hr
  have c'' : (-1 : Int32).toInt = -1 := rfl
  have q5 := j_nat (x := s (58 + 9 * x.toNatClampNeg + 5)) (by omega)
  have e : (R_X0_layRope m x).2 = upd (upd (upd m (35 + 3 * (s (58 + 9 * x.toNatClampNeg + 5)).toNatClampNeg) 0) (36 + 3 * (s (58 + 9 * x.toNatClampNeg + 5)).toNatClampNeg) (s (58 + 9 * x.toNatClampNeg + 1))) (58 + 9 * x.toNatClampNeg + 5) (-1) := by
    unfold R_X0_layRope
    rw [E.hp (j := 5) (by omega) (by omega), E.hp (j := 1) (by omega) (by omega), put_eq (E.lo (by omega)) (by omega) hp5.2]
  refine ⟨⟨?_, J_leave E.J (by omega) (by omega) (by rw [hd]; decide), ?_⟩, ?_, ?_⟩
  · rw [e, leave_eq (by omega) (by omega)]
    exact ((E.L.both (by omega) (by omega) (by omega) (by omega)).both (by omega) (by omega) (by omega) (by omega)).both (by omega) (by omega) (by omega) (by omega)
  · rw [leave_eq (by omega) (by omega)]
    have z0 : (s 2).toInt ≤ 6 := by omega
    exact ((E.N.hi z0 (by omega) (by omega)).hi (by rw [g_upd_ne (by omega)]; exact z0) (by omega) (by omega)).updj (by omega) (by omega) (by omega) (by omega) (by rw [g_upd_ne (by omega), g_upd_ne (by omega)]; exact z0)
  · show m (58 + 9 * x.toNatClampNeg + 5) = _
    exact E.hp (j := 5) (by omega) (by omega)
  · rw [e]
    exact ((g_U.refl.upd (by omega)).upd (by omega)).upd (by omega)
/-- the invariant when a passage is unrigged into a helper's hand -/
theorem J_gives {x r : Int32} (a : g_J s) (hx : (x.toNatClampNeg : Int) < (s 2).toInt) (r0 : 0 ≤ r.toInt) (r1 : r.toInt < (s 1).toInt) (hd : s (58 + 9 * x.toNatClampNeg + 2) ≠ 2) : g_J (R_X8_gives s r x) := by
  have hj := a.n
  have hp := a.2.2.1 _ hx
  have q5 := j_nat r0
  unfold R_X8_gives
  rw [sr1 r0 (by omega), sr2 r0 (by omega)]
  have K := g_K.of a hx
  refine (K.step (t := upd (upd (upd s (35 + 3 * r.toNatClampNeg) 1) (36 + 3 * r.toNatClampNeg) x) (58 + 9 * x.toNatClampNeg + 5) r) (by omega) (((g_Out.refl.upd (by omega)).upd (by omega)).upd (by omega)) ?_ ?_ (fun p hp => ?_) ?_ ?_).j ?_
  · rw [g_upd_ne (by omega), g_upd_ne (by omega), g_upd_ne (by omega)]; exact a.1.2.2.2.2.1
  · rw [g_upd_ne (by omega), g_upd_ne (by omega), g_upd_ne (by omega)]; exact a.1.2.2.2.2.2.1
  · rw [g_upd_ne (by omega), g_upd_ne (by omega), g_upd_ne (by omega)]; exact (a.2.1 p hp).2.2
  · have e : ∀ j, j < 9 → j ≠ 5 → upd (upd (upd s (35 + 3 * r.toNatClampNeg) 1) (36 + 3 * r.toNatClampNeg) x) (58 + 9 * x.toNatClampNeg + 5) r (58 + 9 * x.toNatClampNeg + j) = s (58 + 9 * x.toNatClampNeg + j) := fun j h1 h2 => by
      rw [g_upd_ne (by omega), g_upd_ne (by omega), g_upd_ne (by omega)]
    have e0 : ∀ j, j < 2 → upd (upd (upd s (35 + 3 * r.toNatClampNeg) 1) (36 + 3 * r.toNatClampNeg) x) (58 + 9 * x.toNatClampNeg + 5) r j = s j := fun j h1 => by
      rw [g_upd_ne (by omega), g_upd_ne (by omega), g_upd_ne (by omega)]
    have := hp.q
    unfold g_Hq at this ⊢
    rw [e 1 (by omega) (by omega), e 2 (by omega) (by omega), e 3 (by omega) (by omega), e 4 (by omega) (by omega), e 8 (by omega) (by omega), e0 0 (by omega), e0 1 (by omega), g_upd_eq]
    obtain ⟨b1, b2, b3, b4, b5, b6⟩ := this
    exact ⟨b1, b2, ⟨by omega, r1⟩, b4, b5, fun z => absurd z hd⟩
  · rw [g_upd_ne (by omega), g_upd_ne (by omega), g_upd_ne (by omega), g_upd_ne (by omega), g_upd_ne (by omega), g_upd_ne (by omega)]
    exact fun z => ⟨z, rfl⟩
  · have := hp.z
    unfold g_H7 at this ⊢
    rw [g_upd_ne (by omega), g_upd_ne (by omega), g_upd_ne (by omega), g_upd_ne (by omega), g_upd_ne (by omega), g_upd_ne (by omega), g_upd_ne (by omega), g_upd_ne (by omega), g_upd_ne (by omega)]
    exact this
theorem J_27 {p : Nat} {v : Int32} (a : g_J s) (hp : p < 7) (hv : -1 ≤ v.toInt ∧ v.toInt < (s 1).toInt) : g_J (upd s (27 + p) v) := by
  obtain ⟨h1, h2, h3, h4, h5⟩ := a
  have q2 : (s 2).toInt ≤ 6 := h1.2.2.1.2
  refine ⟨?_, fun k hk => ?_, fun k hk => ?_, fun k k' hk hk' x y z => ?_, fun i hi => ?_⟩
  · rw [g_upd_ne (by omega), g_upd_ne (by omega), g_upd_ne (by omega), g_upd_ne (by omega), g_upd_ne (by omega), g_upd_ne (by omega), g_upd_ne (by omega), g_upd_ne (by omega), g_upd_ne (by omega), g_upd_ne (by omega)]
    exact h1
  · rw [g_upd_ne (by omega), g_upd_ne (by omega), g_upd_ne (show 1 ≠ 27 + p by omega)]
    by_cases e : k = p
    · subst e
      rw [g_upd_eq]
      exact ⟨(h2 k hk).1, (h2 k hk).2.1, hv⟩
    · rw [g_upd_ne (by omega)]
      exact h2 k hk
  · rw [g_upd_ne (by omega)] at hk
    have := h3 k hk
    unfold g_Hp at this ⊢
    rw [g_upd_ne (by omega), g_upd_ne (by omega), g_upd_ne (by omega), g_upd_ne (by omega), g_upd_ne (by omega), g_upd_ne (by omega), g_upd_ne (by omega), g_upd_ne (by omega), g_upd_ne (by omega)]
    exact this
  · rw [g_upd_ne (by omega)] at hk hk' x y
    rw [g_upd_ne (by omega), g_upd_ne (by omega)] at z
    exact h4 k k' hk hk' x y z
  · rw [g_upd_ne (by omega)] at hi
    rw [g_upd_ne (by omega)]
    exact h5 i hi
theorem g_E.p27 (E : g_E m s) {p : Nat} {v : Int32} (hp : p < 7) (hv : -1 ≤ v.toInt ∧ v.toInt < (s 1).toInt) : g_E (upd m (27 + p) v) (upd s (27 + p) v) := ⟨E.L.both (by omega) (by omega) (by omega) (by omega), J_27 E.J hp hv, E.N.hi (by have := E.J.n; omega) (by omega) (by omega)⟩
theorem E_unrig (E : g_E m s) {x : Int32} (h0 : 0 ≤ x.toInt) (h1 : x.toInt < (s 2).toInt) (hp1 : (s (58 + 9 * x.toNatClampNeg + 1)).toInt < (s 0).toInt) (hr : s (27 + (s (58 + 9 * x.toNatClampNeg + 1)).toNatClampNeg) ≠ -1) (hd : s (58 + 9 * x.toNatClampNeg + 2) = 0) : g_E (R_X0_unrig m x).2 (R_X8_gives (upd s (27 + (s (58 + 9 * x.toNatClampNeg + 1)).toNatClampNeg) (-1)) (s (27 + (s (58 + 9 * x.toNatClampNeg + 1)).toNatClampNeg)) x) ∧ (R_X0_unrig m x).1 = s (27 + (s (58 + 9 * x.toNatClampNeg + 1)).toNatClampNeg) ∧ g_U m (R_X0_unrig m x).2 := by
  have hj := E.J.n
  have hx := j_nat h0
  have hp := E.J.2.2.1 x.toNatClampNeg (by omega)
  have hp0 := hp.1
  have hq := j_nat (x := s (58 + 9 * x.toNatClampNeg + 1)) (by omega)
  have h27 := (E.J.2.1 (s (58 + 9 * x.toNatClampNeg + 1)).toNatClampNeg (by omega)).2.2
  have c' := j_ne hr
  have c'' : (-1 : Int32).toInt = -1 := rfl
  have E2 := E.p27 (p := (s (58 + 9 * x.toNatClampNeg + 1)).toNatClampNeg) (v := -1) (by omega) (by rw [c'']; omega)
  have e : R_X0_unrig m x = (s (27 + (s (58 + 9 * x.toNatClampNeg + 1)).toNatClampNeg), R_X0_takeRope (upd m (27 + (s (58 + 9 * x.toNatClampNeg + 1)).toNatClampNeg) (-1)) x (s (27 + (s (58 + 9 * x.toNatClampNeg + 1)).toNatClampNeg))) := by
    unfold R_X0_unrig R_X4_fix
    rw [E.hp (j := 1) (by omega) (by omega), E_rope E (by omega) (by omega), if_neg (has4_1 E (by omega) (by omega))]
  have u2 : ∀ j, j < 27 → upd s (27 + (s (58 + 9 * x.toNatClampNeg + 1)).toNatClampNeg) (-1) j = s j := fun j hj => g_upd_ne (by omega)
  rw [e]
  refine ⟨⟨?_, ?_, ?_⟩, rfl, ?_⟩
  · exact give_L E2.L E2.J h0 (by rw [u2 2 (by omega)]; exact h1) (by omega) (by rw [u2 1 (by omega)]; exact h27.2) (E2.lo (by omega))
  · exact J_gives E2.J (by rw [u2 2 (by omega)]; omega) (by omega) (by rw [u2 1 (by omega)]; exact h27.2) (by rw [g_upd_ne (by omega), hd]; decide)
  · exact give_N E2.N h0 (by omega) (by omega) (by omega) (by rw [u2 2 (by omega)]; omega)
  · exact (g_U.refl.upd (by omega)).trans (give_U h0 (by omega) (by rw [E2.lo (by omega), u2 1 (by omega)]; omega))
end PE
