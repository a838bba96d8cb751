/-! ===== the invariant through a minute ===== -/
theorem J_msgs {s t : Nat → Int32} (a : g_J s) (o : ∀ n, n < 178 → n < 112 ∨ 142 ≤ n → n ≠ 3 → n ≠ 6 → n ≠ 7 → t n = s n) (t3 : 0 ≤ (t 3).toInt ∧ (t 3).toInt ≤ 100000) (t6 : 0 ≤ (t 6).toInt ∧ (t 6).toInt ≤ 10) (tm : ∀ i : Nat, (i : Int) < (t 6).toInt → 1 ≤ (t (114 + 3 * i)).toInt ∧ (t (114 + 3 * i)).toInt ≤ 7) : g_J t := by
  obtain ⟨h1, h2, h3, h4, h5⟩ := a
  have q2 : (s 2).toInt ≤ 6 := h1.2.2.1.2
  have e : ∀ n, n < 112 → n ≠ 3 → n ≠ 6 → n ≠ 7 → t n = s n := fun n a b c d => o n (by omega) (by omega) b c d
  refine ⟨?_, fun p hp => ?_, fun k hk => ?_, fun k k' hk hk' a b c => ?_, tm⟩
  · rw [e 0, e 1, e 2, e 4, e 5, e 9, e 10, e 12]
    · exact ⟨h1.1, h1.2.1, h1.2.2.1, t3, h1.2.2.2.2.1, h1.2.2.2.2.2.1, t6, h1.2.2.2.2.2.2.2⟩
    all_goals decide
  · rw [e (13 + p) (by omega) (by omega) (by omega) (by omega), e (20 + p) (by omega) (by omega) (by omega) (by omega), e (27 + p) (by omega) (by omega) (by omega) (by omega), e 1 (by decide) (by decide) (by decide) (by decide)]
    exact h2 p hp
  · rw [e 2 (by decide) (by decide) (by decide) (by decide)] at hk
    have hk6 : k < 6 := by omega
    have := h3 k hk
    unfold g_Hp at this ⊢
    have f : ∀ j, j < 9 → t (58 + 9 * k + j) = s (58 + 9 * k + j) := fun j _ => e _ (by omega) (by omega) (by omega) (by omega)
    rw [e 0 (by decide) (by decide) (by decide) (by decide), e 1 (by decide) (by decide) (by decide) (by decide), f 1 (by decide), f 2 (by decide), f 3 (by decide), f 4 (by decide), f 5 (by decide), f 7 (by decide), f 8 (by decide)]
    exact this
  · rw [e 2 (by decide) (by decide) (by decide) (by decide)] at hk hk'
    have hk6 : k < 6 := by omega
    have hk6' : k' < 6 := by omega
    rw [e (58 + 9 * k + 2) (by omega) (by omega) (by omega) (by omega)] at a
    rw [e (58 + 9 * k' + 2) (by omega) (by omega) (by omega) (by omega)] at b
    rw [e (58 + 9 * k + 1) (by omega) (by omega) (by omega) (by omega), e (58 + 9 * k' + 1) (by omega) (by omega) (by omega) (by omega)] at c
    exact h4 k k' hk hk' a b c
theorem ix_msg {k j : Nat} (hk : k ≤ 10) (hj : j ≤ 2) {w : Int32} (hw : w.toInt = j) : ((112 + 3 * nI k) + w).toNatClampNeg = 112 + 3 * k + j := by
  have q0 : (nI k).toInt = k := nI_toInt (by omega)
  have q1 : (3 * nI k).toInt = 3 * k := j_mulE rfl q0 (by omega) (by omega)
  have q3 : (112 + 3 * nI k).toInt = 112 + 3 * k := j_addE rfl q1 (by omega) (by omega)
  have q4 : ((112 + 3 * nI k) + w).toInt = 112 + 3 * k + j := j_addE q3 hw (by omega) (by omega)
  have := j_nat (x := (112 + 3 * nI k) + w) (by omega)
  omega
theorem R_118 {s S : Nat → Int32} {K : Int32 → Nat → Nat → (Nat → Int32) → (Int32 × (Nat → Int32))} {v : Int32} {y k : Nat} (hy : y ≤ 10) (hk : k ≤ 10) : R_X8_minute_118 s K v y k 4 0 S = K v (y + 1) (k + 1) (upd (upd (upd S (112 + 3 * y) (S (112 + 3 * k))) (112 + 3 * y + 1) ((upd S (112 + 3 * y) (S (112 + 3 * k))) (112 + 3 * k + 1))) (112 + 3 * y + 2) ((upd (upd S (112 + 3 * y) (S (112 + 3 * k))) (112 + 3 * y + 1) ((upd S (112 + 3 * y) (S (112 + 3 * k))) (112 + 3 * k + 1))) (112 + 3 * k + 2))) := by
  rw [R_X8_minute_118, if_neg (by decide), R_X8_minute_118, if_neg (by decide), R_X8_minute_118, if_neg (by decide), R_X8_minute_118, if_pos (by decide)]
  unfold R_X8_minute_158
  rw [ix_msg (k := y) (j := 0) hy (by decide) (by decide), ix_msg (k := k) (j := 0) hk (by decide) (by decide), ix_msg (k := y) (j := 1) hy (by decide) (by decide), ix_msg (k := k) (j := 1) hk (by decide) (by decide), ix_msg (k := y) (j := 2) hy (by decide) (by decide), ix_msg (k := k) (j := 2) hk (by decide) (by decide)]
  rfl
theorem t_180 {v w : Int32} {t : Nat → Int32} : (R_X8_minute_180 v t w).2 3 = t 3 + 1 := by
  unfold R_X8_minute_180; dsimp only
  rw [g_upd_eq, g_upd_ne (by decide), g_upd_ne (by decide)]
theorem c_180 {v w : Int32} {t : Nat → Int32} : (R_X8_minute_180 v t w).2 6 = w := by
  unfold R_X8_minute_180; dsimp only
  rw [g_upd_ne (by decide), g_upd_ne (by decide), g_upd_eq]
theorem o_180 {v w : Int32} {t : Nat → Int32} {n : Nat} (h3 : n ≠ 3) (h6 : n ≠ 6) (h7 : n ≠ 7) : (R_X8_minute_180 v t w).2 n = t n := by
  unfold R_X8_minute_180; dsimp only
  rw [g_upd_ne h3, g_upd_ne h7, g_upd_ne h6]
theorem K_164 {p t : Nat → Int32} {v : Int32} {y : Nat} (a : g_J p) (h3 : (p 3).toInt < 100000) (hy : (y : Int) ≤ (p 6).toInt) (o : ∀ n, n < 178 → n < 112 ∨ 142 ≤ n → t n = p n) (ty : ∀ i : Nat, i < y → 1 ≤ (t (114 + 3 * i)).toInt ∧ (t (114 + 3 * i)).toInt ≤ 7) (tq : R_X8_in p (p 3) (p 9) ((p 10) - 1) ≠ 0 → ∀ i : Nat, (i : Int) < (p 6).toInt → t (114 + 3 * i) = p (114 + 3 * i)) : g_J (R_X8_minute_164 p v y t).2 ∧ ((R_X8_minute_164 p v y t).2 3).toInt = (p 3).toInt + 1 := by
  have B := a.1
  have q6 : (p 6).toInt ≤ 10 := B.2.2.2.2.2.2.1.2
  have key : ∀ w : Int32, (0 ≤ w.toInt ∧ w.toInt ≤ 10) → (∀ i : Nat, (i : Int) < w.toInt → 1 ≤ (t (114 + 3 * i)).toInt ∧ (t (114 + 3 * i)).toInt ≤ 7) → g_J (R_X8_minute_180 v t w).2 ∧ ((R_X8_minute_180 v t w).2 3).toInt = (p 3).toInt + 1 := by
    intro w hw hm
    have e3 : ((R_X8_minute_180 v t w).2 3).toInt = (p 3).toInt + 1 := by
      rw [t_180, o 3 (by decide) (by decide)]
      exact j_addE rfl rfl (by omega) (by omega)
    refine ⟨J_msgs a (fun n h h' h3 h6 h7 => ?_) ?_ ?_ (fun i hi => ?_), e3⟩
    · rw [o_180 h3 h6 h7]; exact o n h h'
    · rw [e3]; omega
    · rw [c_180]; exact hw
    · rw [c_180] at hi
      rw [o_180 (by omega) (by omega) (by omega)]
      exact hm i hi
  unfold R_X8_minute_164
  split
  · have q : (nI y).toInt = y := nI_toInt (by omega)
    exact key _ ⟨by omega, by omega⟩ (fun i hi => ty i (by omega))
  · next c =>
    exact key _ B.2.2.2.2.2.2.1 (fun i hi => by rw [tq c i hi]; exact a.2.2.2.2 i hi)
theorem K_65 {s p : Nat → Int32} (a : g_J p) (h3 : (p 3).toInt < 100000) : ∀ (f : Nat) (v : Int32) (y k : Nat) (t : Nat → Int32), y ≤ k → (k : Int) ≤ (p 6).toInt → (p 6).toInt < f + k → (∀ n, n < 178 → n < 112 ∨ 142 ≤ n → t n = p n) → (∀ i : Nat, i < y → 1 ≤ (t (114 + 3 * i)).toInt ∧ (t (114 + 3 * i)).toInt ≤ 7) → (∀ i : Nat, k ≤ i → (i : Int) < (p 6).toInt → t (114 + 3 * i) = p (114 + 3 * i)) → (R_X8_in p (p 3) (p 9) ((p 10) - 1) ≠ 0 → ∀ i : Nat, (i : Int) < (p 6).toInt → t (114 + 3 * i) = p (114 + 3 * i)) → g_J (R_X8_minute_65 s p f v y k t).2 ∧ ((R_X8_minute_65 s p f v y k t).2 3).toInt = (p 3).toInt + 1 := by
  have q6 : (p 6).toInt ≤ 10 := a.1.2.2.2.2.2.2.1.2
  intro f
  induction f with
  | zero => intro v y k t _ h1 h2; exact absurd h2 (by omega)
  | succ f ih =>
    intro v y k t hy hk hf o ty tk tq
    have qk : (nI k).toInt = k := nI_toInt (by omega)
    rw [R_X8_minute_65]
    split
    · exact K_164 a h3 (by omega) o ty tq
    next c =>
    have c' := j_nle c
    split
    next d =>
      have ek : ((112 + 3 * nI k) + 2).toNatClampNeg = 114 + 3 * k := by rw [ix_msg (j := 2) (by omega) (by decide) (by decide)]; omega
      rw [ek, g_upd_eq]
      have m1 : t (114 + 3 * k) = p (114 + 3 * k) := tk k (Nat.le_refl _) (by omega)
      have m2 := a.2.2.2.2 k (by omega)
      have e1 : (t (114 + 3 * k) - 1).toInt = (p (114 + 3 * k)).toInt - 1 := by
        rw [m1]; exact j_subE rfl rfl (by omega) (by omega)
      split
      · unfold R_X8_minute_158
        refine ih _ y (k + 1) _ (by omega) (by omega) (by omega) (fun n h h' => ?_) (fun i hi => ?_) (fun i h h' => ?_) (fun h => absurd d h)
        · rw [g_upd_ne (by omega)]; exact o n h h'
        · rw [g_upd_ne (by omega)]; exact ty i hi
        · rw [g_upd_ne (by omega)]; exact tk i (by omega) h'
      · next c0 =>
        have c0' := j_neR c0 (b := 0) rfl
        rw [R_118 (by omega) (by omega)]
        refine ih _ (y + 1) (k + 1) _ (by omega) (by omega) (by omega) (fun n h h' => ?_) (fun i hi => ?_) (fun i h h' => ?_) (fun h => absurd d h)
        · rw [g_upd_ne (by omega), g_upd_ne (by omega), g_upd_ne (by omega), g_upd_ne (by omega)]; exact o n h h'
        · by_cases z : i = y
          · subst z
            rw [show 114 + 3 * i = 112 + 3 * i + 2 by omega, g_upd_eq, g_upd_ne (by omega), g_upd_ne (by omega), show 112 + 3 * k + 2 = 114 + 3 * k by omega, g_upd_eq, e1]
            omega
          · rw [g_upd_ne (by omega), g_upd_ne (by omega), g_upd_ne (by omega), g_upd_ne (by omega)]; exact ty i (by omega)
        · rw [g_upd_ne (by omega), g_upd_ne (by omega), g_upd_ne (by omega), g_upd_ne (by omega)]; exact tk i (by omega) h'
    next d =>
      exact K_164 a h3 (by omega) o ty tq
/-- what a helper's minute leaves alone -/
def g_Fr (s t : Nat → Int32) : Prop := ∀ n, (n < 27 ∨ 178 ≤ n) → n ≠ 4 → n ≠ 5 → n ≠ 11 → t n = s n
theorem g_Fr.trans {s t u : Nat → Int32} (a : g_Fr s t) (b : g_Fr t u) : g_Fr s u := fun n h p q r => (b n h p q r).trans (a n h p q r)
theorem g_Fr.refl {s : Nat → Int32} : g_Fr s s := fun _ _ _ _ _ => rfl
theorem g_Fr.upd {s t : Nat → Int32} {n : Nat} {x : Int32} (a : g_Fr s t) (h : n = 4 ∨ n = 5 ∨ n = 11 ∨ (27 ≤ n ∧ n < 178)) : g_Fr s (upd t n x) := fun k p q r w => by
  rw [g_upd_ne (by omega)]; exact a k p q r w
theorem F_274 {s : Nat → Int32} {x t : Int32} (hx : x.toNatClampNeg < 6) : g_Fr s (R_X8_minuteOf_274 x s t) := by
  unfold R_X8_minuteOf_274 R_X8_minuteOf_306
  split
  · exact (g_Fr.refl.upd (by omega)).upd (by omega)
  · exact (g_Fr.refl.upd (by omega)).upd (by omega)
theorem F_219 {s : Nat → Int32} {x t : Int32} (hx : x.toNatClampNeg < 6) : g_Fr s (R_X8_minuteOf_219 x t s) := by
  have h : ∀ s : Nat → Int32, g_Fr s (R_X8_minuteOf_249 x s) := fun s => by
    unfold R_X8_minuteOf_249
    split
    · exact F_274 hx
    · exact F_274 hx
  unfold R_X8_minuteOf_219
  split
  · exact h s
  split
  · exact h s
  · exact (g_Fr.refl.upd (by omega)).trans (h _)
theorem F_178 {s : Nat → Int32} {x t w : Int32} (hx : x.toNatClampNeg < 6) (hx' : (x.toNatClampNeg : Int) < (s 2).toInt) (a : g_J s) : g_Fr s (R_X8_minuteOf_178 x t s w) := by
  have Q := (a.2.2.1 _ hx').q
  have B := a.1
  have b0 := B.1
  have b1 := B.2.1
  have q5 := Q.2.2.1
  have qs := Q.1
  have ni := j_nat Q.1.1
  have i27 : (27 + s (58 + 9 * x.toNatClampNeg + 1)).toNatClampNeg = 27 + (s (58 + 9 * x.toNatClampNeg + 1)).toNatClampNeg := by
    have : (27 + s (58 + 9 * x.toNatClampNeg + 1)).toInt = 27 + (s (58 + 9 * x.toNatClampNeg + 1)).toInt := j_addE rfl rfl (by omega) (by omega)
    have := j_nat (x := 27 + s (58 + 9 * x.toNatClampNeg + 1)) (by omega)
    omega
  have rr : ∀ j : Int32, ∀ v : Int, j.toInt = v → 1 ≤ v → v ≤ 2 → 32 ≤ ((34 + 3 * s (58 + 9 * x.toNatClampNeg + 5)) + j).toNatClampNeg ∧ ((34 + 3 * s (58 + 9 * x.toNatClampNeg + 5)) + j).toNatClampNeg < 58 := by
    intro j v hj v0 v2
    have q1 : (3 * s (58 + 9 * x.toNatClampNeg + 5)).toInt = 3 * (s (58 + 9 * x.toNatClampNeg + 5)).toInt := j_mulE rfl rfl (by omega) (by omega)
    have q3 : (34 + 3 * s (58 + 9 * x.toNatClampNeg + 5)).toInt = 34 + 3 * (s (58 + 9 * x.toNatClampNeg + 5)).toInt := j_addE rfl q1 (by omega) (by omega)
    have q4 : ((34 + 3 * s (58 + 9 * x.toNatClampNeg + 5)) + j).toInt = 34 + 3 * (s (58 + 9 * x.toNatClampNeg + 5)).toInt + v := j_addE q3 hj (by omega) (by omega)
    have := j_nat (x := (34 + 3 * s (58 + 9 * x.toNatClampNeg + 5)) + j) (by omega)
    omega
  have r1 := rr 1 1 rfl (by decide) (by decide)
  have r2 := rr 2 2 rfl (by decide) (by decide)
  have O : ∀ v v', g_Fr s (upd (upd s (58 + 9 * x.toNatClampNeg + 4) v) (58 + 9 * x.toNatClampNeg + 6) v') := fun v v' => (g_Fr.refl.upd (by omega)).upd (by omega)
  have hr : ∀ v v', g_Fr s (R_X8_hasRigged (upd (upd s (58 + 9 * x.toNatClampNeg + 4) v) (58 + 9 * x.toNatClampNeg + 6) v') x) := fun v v' => by
    have e1 : (upd (upd s (58 + 9 * x.toNatClampNeg + 4) v) (58 + 9 * x.toNatClampNeg + 6) v') (58 + 9 * x.toNatClampNeg + 1) = s (58 + 9 * x.toNatClampNeg + 1) := by rw [g_upd_ne (by omega), g_upd_ne (by omega)]
    have e5 : (upd (upd s (58 + 9 * x.toNatClampNeg + 4) v) (58 + 9 * x.toNatClampNeg + 6) v') (58 + 9 * x.toNatClampNeg + 5) = s (58 + 9 * x.toNatClampNeg + 5) := by rw [g_upd_ne (by omega), g_upd_ne (by omega)]
    unfold R_X8_hasRigged R_X8_leaves
    rw [e1, e5, i27, g_upd_ne (a := 27 + (s (58 + 9 * x.toNatClampNeg + 1)).toNatClampNeg) (by omega), e5]
    exact (((((O v v').upd (by omega)).upd (by omega)).upd (by omega)).upd (by omega)).upd (by omega)
  have ar : ∀ v v', g_Fr s (R_X8_arrives (upd (upd s (58 + 9 * x.toNatClampNeg + 4) v) (58 + 9 * x.toNatClampNeg + 6) v') x) := fun v v' => by
    unfold R_X8_arrives R_X8_arrives_32
    split
    · exact ((((((O v v').upd (by omega)).upd (by omega)).upd (by omega)).upd (by omega)).upd (by omega)).upd (by omega)
    · exact ((((O v v').upd (by omega)).upd (by omega)).upd (by omega)).upd (by omega)
  have r205 : g_Fr s (R_X8_minuteOf_205 x t s w) := by
    unfold R_X8_minuteOf_205
    split
    · exact (hr _ _).trans (F_219 hx)
    · exact (O _ _).trans (F_219 hx)
  unfold R_X8_minuteOf_178
  split
  · split
    · exact (ar _ _).trans (F_219 hx)
    · exact r205
  · exact r205
theorem F_66 {s t : Nat → Int32} {x w : Int32} (hx : x.toNatClampNeg < 6) (hx' : (x.toNatClampNeg : Int) < (t 2).toInt) (a : g_J t) : g_Fr t (R_X8_minuteOf_66 s x w t) := by
  unfold R_X8_minuteOf_66
  split
  · exact F_219 hx
  · have r131 : ∀ v, g_Fr t (R_X8_minuteOf_131 x w t v) := fun v => by
      unfold R_X8_minuteOf_131
      split
      · exact F_178 hx hx' a
      split
      · exact F_178 hx hx' a
      · exact F_178 hx hx' a
    have r94 : ∀ v, g_Fr t (R_X8_minuteOf_94 s x w t v) := fun v => by
      unfold R_X8_minuteOf_94 R_X8_minuteOf_126 R_X8_minuteOf_130
      repeat' split
      all_goals exact r131 _
    split
    · exact r94 _
    · exact r94 _
theorem F_minuteOf {s : Nat → Int32} {x : Int32} (h : g_J s) (h0 : 0 ≤ x.toInt) (h1 : x.toInt < (s 2).toInt) : g_Fr s (R_X8_minuteOf s x) := by
  have n := j_nat h0
  have hx' : (x.toNatClampNeg : Int) < (s 2).toInt := by omega
  have hx : x.toNatClampNeg < 6 := by have := h.1.2.2.1.2; omega
  have r24 : ∀ v, g_Fr s (R_X8_minuteOf_24 s x v) := fun v => by
    unfold R_X8_minuteOf_24
    split
    · exact F_66 hx hx' h
    split
    · exact F_66 hx hx' h
    split
    · split
      · next c =>
        have j := J_sets h hx hx' c
        exact (show g_Fr s (R_X8_sets s x (s (58 + 9 * x.toNatClampNeg + 1) - 1)) from fun k a b c d => fr_X8_sets (by omega) (by omega) (by omega) (by omega)).trans (F_66 hx (by rw [j.2]; exact hx') j.1)
      · exact F_66 hx hx' h
    · exact F_66 hx hx' h
  unfold R_X8_minuteOf R_X8_minuteOf_23
  split
  · exact r24 _
  split
  · exact r24 _
  · exact r24 _
theorem J_minute_2 {s : Nat → Int32} : ∀ (f h : Nat) (t : Nat → Int32), g_J t → (t 3).toInt < 100000 → (h : Int) ≤ (t 2).toInt → (t 2).toInt < f + h → g_J (R_X8_minute_2 s f h t).2 ∧ ((R_X8_minute_2 s f h t).2 3).toInt = (t 3).toInt + 1 := by
  intro f
  induction f with
  | zero => intro h t _ _ h1 h2; exact absurd h2 (by omega)
  | succ f ih =>
    intro h t a h3 h1 h2
    have q2 := a.1.2.2.1.2
    have qh : (nI h).toInt = h := nI_toInt (by omega)
    rw [R_X8_minute_2]
    split
    · have q6 := a.1.2.2.2.2.2.2.1
      exact K_65 a h3 11 0 0 0 t (Nat.le_refl _) (by omega) (by omega) (fun _ _ _ => rfl) (fun i hi => absurd hi (by omega)) (fun _ _ _ => rfl) (fun _ _ _ => rfl)
    · next c =>
      have c' := j_nle c
      have F := F_minuteOf a (x := nI h) (by omega) (by omega)
      have f3 := F 3 (by decide) (by decide) (by decide) (by decide)
      have f2 := F 2 (by decide) (by decide) (by decide) (by decide)
      have := ih (h + 1) _ (J_minuteOf a (x := nI h) (by omega) (by omega)) (by rw [f3]; exact h3) (by rw [f2]; omega) (by rw [f2]; omega)
      rw [f3] at this
      exact this
theorem J_minute {s : Nat → Int32} (h : g_J s) (h1 : (s 3).toInt < 100000) : g_J (R_X8_minute s).2 :=
  (J_minute_2 7 0 s h h1 (by have := h.1.2.2.1; omega) (by have := h.1.2.2.1; omega)).1
theorem t_minute {s : Nat → Int32} (h : g_J s) (h1 : (s 3).toInt < 100000) : ((R_X8_minute s).2 3).toInt = (s 3).toInt + 1 :=
  (J_minute_2 7 0 s h h1 (by have := h.1.2.2.1; omega) (by have := h.1.2.2.1; omega)).2
