/-! ===== the class's deeds keep truth values truth values ===== -/
def g_B7 (f : Nat → Int32) : Prop := g_B0 f ∧ (f 0).toInt ≤ 7 ∧ (f 1).toInt ≤ 8
section QB
theorem g_B7.at {f : Nat → Int32} (B : g_B7 f) {n : Nat} {x : Int32} (h0 : n ≠ 0) (h1 : n ≠ 1) (h : (n = 5 ∨ (58 ≤ n ∧ n < 112 ∧ (n - 58) % 9 = 8)) → x = 0 ∨ x = 1) : g_B7 (upd f n x) := by
  refine ⟨⟨?_, fun k hk => ?_⟩, ?_, ?_⟩
  · by_cases e : 5 = n
    · subst e; rw [g_upd_eq]; exact h (Or.inl rfl)
    · rw [g_upd_ne e]; exact B.1.1
  · by_cases e : 58 + 9 * k + 8 = n
    · subst e; rw [g_upd_eq]; exact h (Or.inr ⟨by omega, by omega, by omega⟩)
    · rw [g_upd_ne e]; exact B.1.2 k hk
  · rw [g_upd_ne (Ne.symm h0)]; exact B.2.1
  · rw [g_upd_ne (Ne.symm h1)]; exact B.2.2
theorem g_B7.no {f : Nat → Int32} (B : g_B7 f) {n : Nat} {x : Int32} (h : 1 < n ∧ n ≠ 5 ∧ (n < 58 ∨ 112 ≤ n ∨ (n - 58) % 9 ≠ 8)) : g_B7 (upd f n x) := B.at (by omega) (by omega) (fun z => absurd h (by omega))
theorem g_B7.z {f : Nat → Int32} (B : g_B7 f) {n : Nat} (h : 1 < n) : g_B7 (upd f n 0) := B.at (by omega) (by omega) (fun _ => Or.inl rfl)
theorem g_B7.o {f : Nat → Int32} (B : g_B7 f) {n : Nat} (h : 1 < n) : g_B7 (upd f n 1) := B.at (by omega) (by omega) (fun _ => Or.inr rfl)
variable {m : Nat → Int32}
theorem B_walkTo (B : g_B7 m) {h : Nat} {a b : Int32} : g_B7 (R_X1_walkTo m h a b) := by
  unfold R_X1_walkTo
  exact ((B.no (by omega)).no (by omega)).no (by omega)
theorem B_put (B : g_B7 m) {a b c : Int32} : g_B7 (R_X5_put m a b c) := by
  have b1 := B.2.2
  unfold R_X5_put
  split
  · exact B
  · next h =>
    have : a.toInt < (m 1).toInt := by
      unfold R_X5_has at h
      by_cases z : a < 0
      · rw [if_pos z] at h; exact absurd rfl h
      · by_cases y : m 1 ≤ a
        · rw [if_neg z, if_pos y] at h; exact absurd rfl h
        · exact j_nle y
    have e : a.toNatClampNeg = a.toInt.toNat := rfl
    exact (B.no (by omega)).no (by omega)
theorem has4_lt {a : Int32} (h : ¬ R_X4_has m a = 0) : a.toInt < (m 0).toInt := by
  unfold R_X4_has at h
  by_cases z : a < 0
  · rw [if_pos z] at h; exact absurd rfl h
  · by_cases y : m 0 ≤ a
    · rw [if_neg z, if_pos y] at h; exact absurd rfl h
    · exact j_nle y
theorem B_fix (B : g_B7 m) {a b : Int32} : g_B7 (R_X4_fix m a b) := by
  have b1 := B.2.1
  unfold R_X4_fix
  split
  · exact B
  · next h =>
    have := has4_lt h
    have e : a.toNatClampNeg = a.toInt.toNat := rfl
    exact B.no (by omega)
theorem B_change (B : g_B7 m) {a b c : Int32} : g_B7 (R_X4_change m a b c) := by
  have b1 := B.2.1
  unfold R_X4_change
  split
  · exact B
  · next h =>
    have := has4_lt h
    have e : a.toNatClampNeg = a.toInt.toNat := rfl
    exact (B.no (by omega)).no (by omega)
theorem B_take (B : g_B7 m) {a b : Int32} : g_B7 (R_X0_takeRope m a b) := by
  unfold R_X0_takeRope
  exact B_put (B.no (by omega))
theorem B_lay (B : g_B7 m) {a : Int32} : g_B7 (R_X0_layRope m a).2 := by
  unfold R_X0_layRope
  exact (B_put B).no (by omega)
theorem B_startRig (B : g_B7 m) {a : Int32} : g_B7 (R_X0_startRig m a).2 := by
  unfold R_X0_startRig
  exact (B.no (by omega)).no (by omega)
theorem B_unrig (B : g_B7 m) {a : Int32} : g_B7 (R_X0_unrig m a).2 := by
  unfold R_X0_unrig
  exact B_take (B_fix B)
theorem B_startWalk (B : g_B7 m) {a b : Int32} : g_B7 (R_X0_startWalk m a b).2 := by
  unfold R_X0_startWalk
  exact B_walkTo B
theorem B_X3_set (B : g_B7 m) {a b c d : Int32} : g_B7 (R_X3_set m a b c d) := by
  unfold R_X3_set
  exact ((B.no (by omega)).no (by omega)).no (by omega)
theorem B_sendFrom (B : g_B7 m) {a : Int32} : g_B7 (R_X0_sendFrom m a) := by
  unfold R_X0_sendFrom R_X3_add
  split
  · exact B.no (by omega)
  · split
    · exact B
    · exact (B_X3_set B).no (by omega)
theorem B_goUp_4 (B0 : g_B7 m) : ∀ (f a n : Nat) (t : Nat → Int32), g_B7 t → g_B7 (R_X3_goUp_4 m f a n t)
  | 0, _, _, _, _ => B0
  | f + 1, a, n, t, B => by
    unfold R_X3_goUp_4 R_X3_goUp_46
    split
    · exact (B.no (by omega)).no (by omega)
    · split
      · exact B_goUp_4 B0 f _ _ _ B
      · exact B_goUp_4 B0 f _ _ _ (B_X3_set B)
theorem B_goUp (B : g_B7 m) : g_B7 (R_X3_goUp m) := B_goUp_4 B _ _ _ _ B
theorem B_arrive (B : g_B7 m) {h : Nat} : g_B7 (R_X1_arrive m h) := by
  unfold R_X1_arrive
  exact ((B.no (by omega)).no (by omega)).no (by omega)
theorem B_walkOn_52 (B : g_B7 m) {h : Nat} {a : Int32} : g_B7 (R_X0_walkOn_52 m h a) := by
  unfold R_X0_walkOn_52
  have b2 : ∀ x y, g_B7 (upd (upd m (58 + 9 * h + 6) x) (58 + 9 * h + 4) y) := fun x y => (B.no (by omega)).no (by omega)
  have b3 : ∀ x y, g_B7 (R_X1_arrive (upd (upd m (58 + 9 * h + 6) x) (58 + 9 * h + 4) y) h) := fun x y => B_arrive (b2 x y)
  split
  · split
    · exact b3 _ _
    · exact (((b3 _ _).z (by omega)).no (by omega)).z (by omega)
  · exact b2 _ _
theorem B_walkOn (B : g_B7 m) {h : Nat} : g_B7 (R_X0_walkOn m h) := by
  unfold R_X0_walkOn R_X0_walkOn_29 R_X0_walkOn_30 R_X0_walkOn_47
  repeat' split
  all_goals exact B_walkOn_52 B
theorem B_rigOn (B : g_B7 m) {h : Nat} : g_B7 (R_X0_rigOn m h) := by
  unfold R_X0_rigOn
  have b2 : ∀ x, g_B7 (upd m (58 + 9 * h + 4) x) := fun x => B.no (by omega)
  split
  · exact ((B_fix (B_put (b2 _))).no (by omega)).no (by omega)
  · exact b2 _
theorem B_lmp_130 (B : g_B7 m) {x : Int32} : g_B7 (R_X0_letMinutePass_130 x m) := by
  have b2 : g_B7 (R_X1_countBelow m x.toNatClampNeg).2 := by
    unfold R_X1_countBelow R_X1_countBelow_18
    repeat' split
    all_goals exact B.no (by omega)
  unfold R_X0_letMinutePass_130
  split
  · exact b2
  · exact b2.no (by omega)
theorem B_lmp_109 (B : g_B7 m) {x a : Int32} : g_B7 (R_X0_letMinutePass_109 x a m) := by
  unfold R_X0_letMinutePass_109
  split
  · exact B_lmp_130 B
  · split
    · exact B_lmp_130 B
    · exact B_lmp_130 (B.no (by omega))
theorem B_lmp_80 (B : g_B7 m) {x a : Int32} : g_B7 (R_X0_letMinutePass_80 x a m) := by
  unfold R_X0_letMinutePass_80
  split
  · exact B_lmp_109 (B_walkOn B)
  · split
    · exact B_lmp_109 (B_rigOn B)
    · exact B_lmp_109 B
theorem B_lmp (B : g_B7 m) {x : Int32} : g_B7 (R_X0_letMinutePass m x) := by
  have k : ∀ a, g_B7 (R_X0_letMinutePass_26 m x a) := fun a => by
    unfold R_X0_letMinutePass_26
    repeat' split
    all_goals first | exact B_lmp_80 B | exact B_lmp_80 (B_startWalk B)
  unfold R_X0_letMinutePass R_X0_letMinutePass_25
  repeat' split
  all_goals exact k _
theorem B_letPass_18 {m0 : Nat → Int32} (B0 : g_B7 m0) {K : Nat → (Nat → Int32) → Int32 × (Nat → Int32)} (hK : ∀ i t, g_B7 t → g_B7 (K i t).2) {i : Nat} : ∀ (f k : Nat) (t : Nat → Int32), g_B7 t → g_B7 (R_X0_letPass_18 m0 K i f k t).2
  | 0, _, _, _ => B0
  | f + 1, k, t, B => by
    unfold R_X0_letPass_18 R_X0_letPass_61 R_X0_letPass_68
    split
    · have h1 := hK (i + 1) _ ((B_goUp B).no (n := 3) (x := R_X3_goUp t 3 + 1) (by omega))
      have h2 := hK (i + 1) _ (B.no (n := 3) (x := t 3 + 1) (by omega))
      split
      · exact h1
      · split
        · exact h2
        · exact h1
    · exact B_letPass_18 B0 hK f (k + 1) _ (B_lmp B)
theorem B_letPass_10 {m0 : Nat → Int32} (B0 : g_B7 m0) {x : Int32} : ∀ (f i : Nat) (t : Nat → Int32), g_B7 t → g_B7 (R_X0_letPass_10 m0 x f i t).2
  | 0, _, _, _ => B0
  | f + 1, i, t, B => by
    unfold R_X0_letPass_10
    split
    · exact B
    · exact B_letPass_18 B0 (fun i t h => B_letPass_10 B0 f i t h) 7 0 t B
theorem B_letPass (B : g_B7 m) {x : Int32} : g_B7 (R_X0_letPass m x).2 := B_letPass_10 B _ _ _ B
theorem B_X2_add_4 (B0 : g_B7 m) {a b c : Int32} : ∀ (f n : Nat) (t : Nat → Int32), g_B7 t → g_B7 (R_X2_add_4 m a b c f n t)
  | 0, _, _, _ => B0
  | f + 1, n, t, B => by
    unfold R_X2_add_4
    split
    · exact ((((B.no (by omega)).no (by omega)).no (by omega)).no (by omega)).no (by omega)
    · exact B_X2_add_4 B0 f _ _ (((B.no (by omega)).no (by omega)).no (by omega))
theorem B_startCarry_18 (B0 : g_B7 m) {x : Int32} : ∀ (f n : Nat) (t : Nat → Int32), g_B7 t → g_B7 (R_X0_startCarry_18 m x f n t).2
  | 0, _, _, _ => B0
  | f + 1, n, t, B => by
    unfold R_X0_startCarry_18 R_X0_startCarry_61
    split
    · exact B_X2_add_4 (B.o (by omega)) _ _ _ (B.o (by omega))
    · split
      · exact B_startCarry_18 B0 f _ _ ((B_walkTo B).o (by omega))
      · exact B_startCarry_18 B0 f _ _ B
theorem B_startCarry (B : g_B7 m) {x : Int32} : g_B7 (R_X0_startCarry m x).2 := B_startCarry_18 B _ _ _ B
theorem B_1 (B : g_B7 m) {x : Int32} (h : x.toInt ≤ 8) : g_B7 (upd m 1 x) := by
  refine ⟨⟨?_, fun k hk => ?_⟩, ?_, ?_⟩
  · rw [g_upd_ne (by omega)]; exact B.1.1
  · rw [g_upd_ne (by omega)]; exact B.1.2 k hk
  · rw [g_upd_ne (by omega)]; exact B.2.1
  · rw [g_upd_eq]; exact h
theorem B_0 (B : g_B7 m) {x : Int32} (h : x.toInt ≤ 7) : g_B7 (upd m 0 x) := by
  refine ⟨⟨?_, fun k hk => ?_⟩, ?_, ?_⟩
  · rw [g_upd_ne (by omega)]; exact B.1.1
  · rw [g_upd_ne (by omega)]; exact B.1.2 k hk
  · rw [g_upd_eq]; exact h
  · rw [g_upd_ne (by omega)]; exact B.2.2
theorem B_addOne5 (B : g_B7 m) {x : Int32} (h0 : 0 ≤ (m 1).toInt) : g_B7 (R_X5_addOne m x).2 := by
  unfold R_X5_addOne
  split
  · next h =>
    have h' : (m 1).toInt < 8 := j_ltR h rfl
    have e : (m 1).toNatClampNeg = (m 1).toInt.toNat := rfl
    refine B_put (B_1 (B.no (by omega)) ?_)
    rw [g_upd_ne (by omega), j_add (by rw [j_1]; omega) (by rw [j_1]; omega), j_1]
    omega
  · exact B
theorem B_startAnew1 (B : g_B7 m) {h : Nat} {x : Int32} : g_B7 (R_X1_startAnew m h x) := by
  unfold R_X1_startAnew
  exact ((((((((B.no (by omega)).no (by omega)).no (by omega)).no (by omega)).no (by omega)).no (by omega)).no (by omega)).no (by omega)).z (by omega)
theorem B_addOne0 (B : g_B7 m) {x : Int32} : g_B7 (R_X0_addOne m x).2 := by
  unfold R_X0_addOne
  split
  · exact (B_startAnew1 B).no (by omega)
  · exact B
theorem B_startAnew4 (B0 : g_B7 m) {x : Int32} (h : x.toInt ≤ 7) : ∀ (f n : Nat) (t : Nat → Int32), n ≤ 7 → g_B7 t → g_B7 (R_X4_startAnew_2 m x f n t)
  | 0, _, _, _, _ => B0
  | f + 1, n, t, hn, B => by
    have hi : (nI n).toInt = (n : Int) := nI_toInt (by omega)
    have c7 : (7 : Int32).toInt = 7 := rfl
    unfold R_X4_startAnew_2
    split
    · exact B_0 B h
    · next e =>
      have e' := j_nle e
      rw [nI_clamp (by omega)]
      exact B_startAnew4 B0 h f _ _ (by omega) (((B.no (by omega)).no (by omega)).no (by omega))
theorem B_startAnew (B : g_B7 m) {x : Int32} (h : x.toInt ≤ 7) : g_B7 (R_X0_startAnew m x) := by
  unfold R_X0_startAnew R_X4_startAnew
  have b := B_1 (B_startAnew4 B h 8 0 m (by omega) B) (x := 0) (by decide)
  exact ((((((((((b.z (by omega)).z (by omega)).z (by omega)).z (by omega)).z (by omega)).z (by omega)).no (by omega)).z (by omega)).z (by omega)).z (by omega)).z (by omega)
end QB
