/-! ===== the invariant through one helper's minute ===== -/
def g_Hq (s : Nat → Int32) (h : Nat) : Prop :=
  (0 ≤ (s (58 + 9 * h + 1)).toInt ∧ (s (58 + 9 * h + 1)).toInt ≤ (s 0).toInt) ∧
  (s (58 + 9 * h + 2) = 0 ∨ s (58 + 9 * h + 2) = 1 ∨ s (58 + 9 * h + 2) = 2) ∧
  (-1 ≤ (s (58 + 9 * h + 5)).toInt ∧ (s (58 + 9 * h + 5)).toInt < (s 1).toInt) ∧
  (s (58 + 9 * h + 8) = 0 ∨ s (58 + 9 * h + 8) = 1) ∧
  (s (58 + 9 * h + 2) = 1 → (0 ≤ (s (58 + 9 * h + 3)).toInt ∧ (s (58 + 9 * h + 3)).toInt ≤ (s 0).toInt) ∧ ((s (58 + 9 * h + 3)).toInt = (s (58 + 9 * h + 1)).toInt + 1 ∨ (s (58 + 9 * h + 3)).toInt = (s (58 + 9 * h + 1)).toInt - 1) ∧ 1 ≤ (s (58 + 9 * h + 4)).toInt) ∧
  (s (58 + 9 * h + 2) = 2 → (s (58 + 9 * h + 1)).toInt < (s 0).toInt ∧ 0 ≤ (s (58 + 9 * h + 5)).toInt ∧ 1 ≤ (s (58 + 9 * h + 4)).toInt)
def g_H7 (s : Nat → Int32) (h : Nat) : Prop := s (58 + 9 * h + 2) ≠ 1 → s (58 + 9 * h + 1) = 0 → s (58 + 9 * h + 7) = 0
theorem g_Hp.q {s : Nat → Int32} {h : Nat} (a : g_Hp s h) : g_Hq s h := ⟨a.1, a.2.1, a.2.2.1, a.2.2.2.1, a.2.2.2.2.1, a.2.2.2.2.2.1⟩
theorem g_Hp.z {s : Nat → Int32} {h : Nat} (a : g_Hp s h) : g_H7 s h := a.2.2.2.2.2.2
theorem g_Hq.p {s : Nat → Int32} {h : Nat} (a : g_Hq s h) (b : g_H7 s h) : g_Hp s h := ⟨a.1, a.2.1, a.2.2.1, a.2.2.2.1, a.2.2.2.2.1, a.2.2.2.2.2, b⟩
/-- the invariant, but helper h's minutes below -/
def g_K (s : Nat → Int32) (h : Nat) : Prop :=
  ((1 ≤ (s 0).toInt ∧ (s 0).toInt ≤ 7) ∧ (0 ≤ (s 1).toInt ∧ (s 1).toInt ≤ 8) ∧ (0 ≤ (s 2).toInt ∧ (s 2).toInt ≤ 6) ∧ (0 ≤ (s 3).toInt ∧ (s 3).toInt ≤ 100000) ∧
   (0 ≤ (s 4).toInt ∧ (s 4).toInt ≤ (s 0).toInt) ∧ (s 5 = 0 ∨ s 5 = 1) ∧ (0 ≤ (s 6).toInt ∧ (s 6).toInt ≤ 10) ∧ (0 ≤ (s 9).toInt ∧ (s 9).toInt ≤ (s 10).toInt ∧ (s 10).toInt ≤ 100000) ∧ (0 ≤ (s 12).toInt ∧ (s 12).toInt ≤ 12)) ∧
  (∀ p : Nat, p < 7 → (0 ≤ (s (13 + p)).toInt ∧ (s (13 + p)).toInt ≤ 60) ∧ (1 ≤ (s (20 + p)).toInt ∧ (s (20 + p)).toInt ≤ 30) ∧ -1 ≤ (s (27 + p)).toInt ∧ (s (27 + p)).toInt < (s 1).toInt) ∧
  (∀ k : Nat, (k : Int) < (s 2).toInt → k ≠ h → g_Hp s k) ∧ g_Hq s h ∧
  (∀ h h' : Nat, (h : Int) < (s 2).toInt → (h' : Int) < (s 2).toInt → s (58 + 9 * h + 2) = 2 → s (58 + 9 * h' + 2) = 2 → s (58 + 9 * h + 1) = s (58 + 9 * h' + 1) → h = h') ∧
  (∀ i : Nat, (i : Int) < (s 6).toInt → 1 ≤ (s (114 + 3 * i)).toInt ∧ (s (114 + 3 * i)).toInt ≤ 7)
theorem g_K.of {s : Nat → Int32} {h : Nat} (a : g_J s) (hh : (h : Int) < (s 2).toInt) : g_K s h :=
  ⟨a.1, a.2.1, fun k hk _ => a.2.2.1 k hk, (a.2.2.1 h hh).q, a.2.2.2.1, a.2.2.2.2⟩
theorem g_K.j {s : Nat → Int32} {h : Nat} (a : g_K s h) (z : g_H7 s h) : g_J s :=
  ⟨a.1, a.2.1, fun k hk => if e : k = h then e ▸ a.2.2.2.1.p z else a.2.2.1 k hk e, a.2.2.2.2.1, a.2.2.2.2.2⟩
/-- what a step of helper h leaves alone -/
def g_Out (s t : Nat → Int32) (h : Nat) : Prop := ∀ n, n < 178 → n ≠ 4 → n ≠ 5 → n ≠ 11 → (n < 27 ∨ 58 ≤ n) → (n < 58 + 9 * h ∨ 58 + 9 * h + 9 ≤ n) → t n = s n
theorem g_K.step {s t : Nat → Int32} {h : Nat} (a : g_K s h) (hh : h < 6) (o : g_Out s t h)
    (b4 : 0 ≤ (t 4).toInt ∧ (t 4).toInt ≤ (s 0).toInt) (b5 : t 5 = 0 ∨ t 5 = 1)
    (b27 : ∀ p : Nat, p < 7 → -1 ≤ (t (27 + p)).toInt ∧ (t (27 + p)).toInt < (s 1).toInt)
    (q : g_Hq t h) (u : t (58 + 9 * h + 2) = 2 → s (58 + 9 * h + 2) = 2 ∧ t (58 + 9 * h + 1) = s (58 + 9 * h + 1)) : g_K t h := by
  obtain ⟨h1, h2, h3, h4, h5, h6⟩ := a
  have e : ∀ n, n < 13 → n ≠ 4 → n ≠ 5 → n ≠ 11 → t n = s n := fun n a b c d => o n (by omega) b c d (by omega) (by omega)
  have q2 : (s 2).toInt ≤ 6 := h1.2.2.1.2
  have q6 : (s 6).toInt ≤ 10 := h1.2.2.2.2.2.2.1.2
  have ek : ∀ k j : Nat, k < 6 → k ≠ h → j < 9 → t (58 + 9 * k + j) = s (58 + 9 * k + j) := fun k j a b c => o _ (by omega) (by omega) (by omega) (by omega) (by omega) (by omega)
  refine ⟨?_, fun p hp => ?_, fun k hk hn => ?_, q, fun k k' hk hk' x y z => ?_, fun i hi => ?_⟩
  · rw [e 0, e 1, e 2, e 3, e 6, e 9, e 10, e 12]
    · exact ⟨h1.1, h1.2.1, h1.2.2.1, h1.2.2.2.1, b4, b5, h1.2.2.2.2.2.2⟩
    all_goals decide
  · rw [e 1 (by decide) (by decide) (by decide) (by decide), o (13 + p) (by omega) (by omega) (by omega) (by omega) (by omega) (by omega), o (20 + p) (by omega) (by omega) (by omega) (by omega) (by omega) (by omega)]
    exact ⟨(h2 p hp).1, (h2 p hp).2.1, b27 p hp⟩
  · rw [e 2 (by decide) (by decide) (by decide) (by decide)] at hk
    have hk6 : k < 6 := by omega
    have := h3 k hk hn
    unfold g_Hp at this ⊢
    rw [e 0 (by decide) (by decide) (by decide) (by decide), e 1 (by decide) (by decide) (by decide) (by decide), ek k 1 hk6 hn (by decide), ek k 2 hk6 hn (by decide), ek k 3 hk6 hn (by decide), ek k 4 hk6 hn (by decide), ek k 5 hk6 hn (by decide), ek k 7 hk6 hn (by decide), ek k 8 hk6 hn (by decide)]
    exact this
  · rw [e 2 (by decide) (by decide) (by decide) (by decide)] at hk hk'
    have hk6 : k < 6 := by omega
    have hk6' : k' < 6 := by omega
    by_cases c : k = h <;> by_cases c' : k' = h
    · rw [c, c']
    · subst c
      rw [ek k' 2 hk6' c' (by decide)] at y
      rw [ek k' 1 hk6' c' (by decide), (u x).2] at z
      exact h5 k k' hk hk' (u x).1 y z
    · subst c'
      rw [ek k 2 hk6 c (by decide)] at x
      rw [ek k 1 hk6 c (by decide), (u y).2] at z
      exact h5 k k' hk hk' x (u y).1 z
    · rw [ek k 2 hk6 c (by decide)] at x
      rw [ek k' 2 hk6' c' (by decide)] at y
      rw [ek k 1 hk6 c (by decide), ek k' 1 hk6' c' (by decide)] at z
      exact h5 k k' hk hk' x y z
  · rw [e 6 (by decide) (by decide) (by decide) (by decide)] at hi
    rw [o (114 + 3 * i) (by omega) (by omega) (by omega) (by omega) (by omega) (by omega)]
    exact h6 i hi
theorem g_Out.refl {s : Nat → Int32} {h : Nat} : g_Out s s h := fun _ _ _ _ _ _ _ => rfl
/-- one more write, into helper h's numbers, or where nothing is asked -/
theorem g_Out.upd {s t : Nat → Int32} {h n : Nat} {x : Int32} (o : g_Out s t h) (hn : n = 4 ∨ n = 5 ∨ n = 11 ∨ (27 ≤ n ∧ n < 58) ∨ (58 + 9 * h ≤ n ∧ n < 58 + 9 * h + 9)) : g_Out s (upd t n x) h := fun k a b c d e f => by
  rw [g_upd_ne (by omega)]; exact o k a b c d e f
/-- a write that only counts: effort, minutes below, those late -/
theorem g_K.tail {s : Nat → Int32} {h n : Nat} {x : Int32} (a : g_K s h) (hh : h < 6) (hn : n = 11 ∨ n = 58 + 9 * h ∨ n = 58 + 9 * h + 6 ∨ n = 58 + 9 * h + 7) : g_K (upd s n x) h := by
  have e : ∀ j, j < 9 → j ≠ 0 → j ≠ 6 → j ≠ 7 → upd s n x (58 + 9 * h + j) = s (58 + 9 * h + j) := fun j a b c d => g_upd_ne (by omega)
  have e' : ∀ j, j < 58 → j ≠ 11 → upd s n x j = s j := fun j a b => g_upd_ne (by omega)
  refine a.step hh (g_Out.refl.upd (by omega)) ?_ ?_ (fun p hp => ?_) ?_ ?_
  · rw [e' 4 (by omega) (by omega)]; exact a.1.2.2.2.2.1
  · rw [e' 5 (by omega) (by omega)]; exact a.1.2.2.2.2.2.1
  · rw [e' (27 + p) (by omega) (by omega)]; exact (a.2.1 p hp).2.2
  · have := a.2.2.2.1
    unfold g_Hq at this ⊢
    rw [e 1 (by decide) (by decide) (by decide) (by decide), e 2 (by decide) (by decide) (by decide) (by decide), e 3 (by decide) (by decide) (by decide) (by decide), e 4 (by decide) (by decide) (by decide) (by decide), e 5 (by decide) (by decide) (by decide) (by decide), e 8 (by decide) (by decide) (by decide) (by decide), e' 0 (by decide) (by decide), e' 1 (by decide) (by decide)]
    exact this
  · rw [e 2 (by decide) (by decide) (by decide) (by decide), e 1 (by decide) (by decide) (by decide) (by decide)]
    exact fun z => ⟨z, rfl⟩
theorem K_274 {s : Nat → Int32} {x t : Int32} (hx : x.toNatClampNeg < 6) (a : g_K s x.toNatClampNeg) (z : s (58 + 9 * x.toNatClampNeg + 2) ≠ 1 → s (58 + 9 * x.toNatClampNeg + 1) = 0 → t = 0) : g_J (R_X8_minuteOf_274 x s t) := by
  have b := a.tail (n := 58 + 9 * x.toNatClampNeg + 7) (x := t) hx (by omega)
  have e : ∀ w, g_J (R_X8_minuteOf_306 x s t w) := fun w => by
    unfold R_X8_minuteOf_306
    refine (b.tail (n := 11) hx (by omega)).j ?_
    intro h2 h1
    rw [g_upd_ne (by omega), g_upd_ne (by omega)] at h2
    rw [g_upd_ne (by omega), g_upd_ne (by omega)] at h1
    rw [g_upd_ne (by omega), g_upd_eq]
    exact z h2 h1
  unfold R_X8_minuteOf_274
  split
  · exact e 0
  · exact e 1
theorem K_249 {s : Nat → Int32} {x : Int32} (hx : x.toNatClampNeg < 6) (a : g_K s x.toNatClampNeg) : g_J (R_X8_minuteOf_249 x s) := by
  unfold R_X8_minuteOf_249
  split
  · exact K_274 hx a (fun _ _ => rfl)
  · next c =>
    refine K_274 hx a (fun h2 h1 => ?_)
    exfalso
    apply c
    unfold R_X8_isBelow
    rw [if_neg h2, h1, if_pos (by decide)]
theorem K_219 {s : Nat → Int32} {x t : Int32} (hx : x.toNatClampNeg < 6) (a : g_K s x.toNatClampNeg) : g_J (R_X8_minuteOf_219 x t s) := by
  unfold R_X8_minuteOf_219
  split
  · exact K_249 hx a
  split
  · exact K_249 hx a
  · exact K_249 hx (a.tail hx (by omega))
/-- the effort of a minute, and a minute less of what is left -/
theorem K_left {s : Nat → Int32} {x w : Int32} (hx : x.toNatClampNeg < 6) (a : g_K s x.toNatClampNeg) : g_Out s (upd (upd s (58 + 9 * x.toNatClampNeg + 4) (s (58 + 9 * x.toNatClampNeg + 4) - 1)) (58 + 9 * x.toNatClampNeg + 6) w) x.toNatClampNeg := (g_Out.refl.upd (by omega)).upd (by omega)
theorem K_178 {s : Nat → Int32} {x t w : Int32} (hx : x.toNatClampNeg < 6) (hx' : (x.toNatClampNeg : Int) < (s 2).toInt) (a : g_J s) (n0 : s (58 + 9 * x.toNatClampNeg + 2) ≠ 0) : g_J (R_X8_minuteOf_178 x t s w) := by
  have K := g_K.of a hx'
  have Q := K.2.2.2.1
  have h4 : 1 ≤ (s (58 + 9 * x.toNatClampNeg + 4)).toInt := by
    rcases Q.2.1 with c | c | c
    · exact absurd c n0
    · exact (Q.2.2.2.2.1 c).2.2
    · exact (Q.2.2.2.2.2 c).2.2
  have B := a.1
  have O := K_left (w := s (58 + 9 * x.toNatClampNeg + 6) + w) hx K
  have e4 : ∀ y, (upd (upd s (58 + 9 * x.toNatClampNeg + 4) (s (58 + 9 * x.toNatClampNeg + 4) - 1)) (58 + 9 * x.toNatClampNeg + 6) y) (58 + 9 * x.toNatClampNeg + 4) = s (58 + 9 * x.toNatClampNeg + 4) - 1 := fun y => by rw [g_upd_ne (by omega), g_upd_eq]
  have e6 : (upd s (58 + 9 * x.toNatClampNeg + 4) (s (58 + 9 * x.toNatClampNeg + 4) - 1)) (58 + 9 * x.toNatClampNeg + 6) = s (58 + 9 * x.toNatClampNeg + 6) := g_upd_ne (by omega)
  have el : (s (58 + 9 * x.toNatClampNeg + 4) - 1).toInt = (s (58 + 9 * x.toNatClampNeg + 4)).toInt - 1 := j_subE rfl rfl (by have := Int32.toInt_lt (s (58 + 9 * x.toNatClampNeg + 4)); omega) (by have := Int32.toInt_lt (s (58 + 9 * x.toNatClampNeg + 4)); omega)
  unfold R_X8_minuteOf_178
  simp only [e4, e6]
  generalize hT : (upd (upd s (58 + 9 * x.toNatClampNeg + 4) (s (58 + 9 * x.toNatClampNeg + 4) - 1)) (58 + 9 * x.toNatClampNeg + 6) (s (58 + 9 * x.toNatClampNeg + 6) + w)) = T at O
  have f : ∀ n, n ≠ 58 + 9 * x.toNatClampNeg + 4 → n ≠ 58 + 9 * x.toNatClampNeg + 6 → T n = s n := fun n p q => by rw [← hT, g_upd_ne q, g_upd_ne p]
  have fk : ∀ j, j < 9 → j ≠ 4 → j ≠ 6 → T (58 + 9 * x.toNatClampNeg + j) = s (58 + 9 * x.toNatClampNeg + j) := fun j _ p q => f _ (by omega) (by omega)
  have t4 : T (58 + 9 * x.toNatClampNeg + 4) = s (58 + 9 * x.toNatClampNeg + 4) - 1 := by rw [← hT]; exact e4 _
  have g219 : ∀ T', g_K T' x.toNatClampNeg → g_J (R_X8_minuteOf_219 x t T') := fun T' k => K_219 hx k
  have tb : ∀ j, j < 58 → T j = s j := fun j h => f j (by omega) (by omega)
  have p27 : ∀ p : Nat, p < 7 → -1 ≤ (T (27 + p)).toInt ∧ (T (27 + p)).toInt < (s 1).toInt := fun p hp => by rw [tb _ (by omega)]; exact (a.2.1 p hp).2.2
  have r205 : (s (58 + 9 * x.toNatClampNeg + 4) - 1 = 0 → s (58 + 9 * x.toNatClampNeg + 2) ≠ 1) → g_J (R_X8_minuteOf_205 x t s w) := by
    intro nc
    unfold R_X8_minuteOf_205
    simp only [e4, e6, hT]
    split
    · next c =>
      have s2 : s (58 + 9 * x.toNatClampNeg + 2) = 2 := by
        rcases Q.2.1 with d | d | d
        · exact absurd d n0
        · exact absurd d (nc c)
        · exact d
      have q2 := Q.2.2.2.2.2 s2
      have ni := j_nat Q.1.1
      have nr := j_nat q2.2.1
      have b0 := B.1
      have b1 := B.2.1
      have i27 : (27 + s (58 + 9 * x.toNatClampNeg + 1)).toNatClampNeg = 27 + (s (58 + 9 * x.toNatClampNeg + 1)).toNatClampNeg := by
        have : (27 + s (58 + 9 * x.toNatClampNeg + 1)).toInt = 27 + (s (58 + 9 * x.toNatClampNeg + 1)).toInt := j_addE rfl rfl (by omega) (by omega)
        have := j_nat (x := 27 + s (58 + 9 * x.toNatClampNeg + 1)) (by omega)
        omega
      refine g219 _ ?_
      unfold R_X8_hasRigged
      rw [fk 1 (by decide) (by decide) (by decide), fk 5 (by decide) (by decide) (by decide), i27]
      unfold R_X8_leaves
      rw [g_upd_ne (a := 27 + (s (58 + 9 * x.toNatClampNeg + 1)).toNatClampNeg) (by omega), fk 5 (by decide) (by decide) (by decide)]
      have rl : (s (58 + 9 * x.toNatClampNeg + 5)).toInt < (s 1).toInt := Q.2.2.1.2
      have rr : ∀ j : Int32, ∀ v : Int, j.toInt = v → 0 ≤ v → v ≤ 2 → ((34 + 3 * s (58 + 9 * x.toNatClampNeg + 5)) + j).toNatClampNeg = 34 + 3 * (s (58 + 9 * x.toNatClampNeg + 5)).toNatClampNeg + v.toNat := by
        intro j v hj v0 v2
        have q1 : (3 * s (58 + 9 * x.toNatClampNeg + 5)).toInt = 3 * (s (58 + 9 * x.toNatClampNeg + 5)).toInt := j_mulE rfl rfl (by omega) (by omega)
        have q3 : (34 + 3 * s (58 + 9 * x.toNatClampNeg + 5)).toInt = 34 + 3 * (s (58 + 9 * x.toNatClampNeg + 5)).toInt := j_addE rfl q1 (by omega) (by omega)
        have q4 : ((34 + 3 * s (58 + 9 * x.toNatClampNeg + 5)) + j).toInt = 34 + 3 * (s (58 + 9 * x.toNatClampNeg + 5)).toInt + v := j_addE q3 hj (by omega) (by omega)
        have := j_nat (x := (34 + 3 * s (58 + 9 * x.toNatClampNeg + 5)) + j) (by omega)
        omega
      rw [rr 1 1 rfl (by decide) (by decide), rr 2 2 rfl (by decide) (by decide)]
      have o1 : (1 : Int).toNat = 1 := rfl
      have o2 : (2 : Int).toNat = 2 := rfl
      rw [o1, o2]
      refine K.step hx (((((O.upd (by omega)).upd (by omega)).upd (by omega)).upd (by omega)).upd (by omega)) ?_ ?_ (fun p hp => ?_) ?_ ?_
      · repeat rw [g_upd_ne (by omega)]
        rw [tb 4 (by omega)]; exact B.2.2.2.2.1
      · repeat rw [g_upd_ne (by omega)]
        rw [tb 5 (by omega)]; exact B.2.2.2.2.2.1
      · rw [g_upd_ne (by omega), g_upd_ne (by omega), g_upd_ne (by omega), g_upd_ne (by omega)]
        by_cases c27 : 27 + p = 27 + (s (58 + 9 * x.toNatClampNeg + 1)).toNatClampNeg
        · rw [c27, g_upd_eq]; omega
        · rw [g_upd_ne c27]; exact p27 p hp
      · have w : ∀ v1 v2 v3 : Int32, ∀ a1 a2 a3, 27 ≤ a1 ∧ a1 < 58 → 27 ≤ a2 ∧ a2 < 58 → 27 ≤ a3 ∧ a3 < 58 → g_Hq (upd (upd (upd (upd (upd T a1 v1) a2 v2) a3 v3) (58 + 9 * x.toNatClampNeg + 5) (-1)) (58 + 9 * x.toNatClampNeg + 2) 0) x.toNatClampNeg := by
          intro v1 v2 v3 a1 a2 a3 h1 h2 h3
          have y : ∀ j, j < 9 → j ≠ 2 → j ≠ 5 → (upd (upd (upd (upd (upd T a1 v1) a2 v2) a3 v3) (58 + 9 * x.toNatClampNeg + 5) (-1)) (58 + 9 * x.toNatClampNeg + 2) 0) (58 + 9 * x.toNatClampNeg + j) = T (58 + 9 * x.toNatClampNeg + j) := fun j _ _ _ => by
            rw [g_upd_ne (by omega), g_upd_ne (by omega), g_upd_ne (by omega), g_upd_ne (by omega), g_upd_ne (by omega)]
          have y0 : ∀ j, j < 27 → (upd (upd (upd (upd (upd T a1 v1) a2 v2) a3 v3) (58 + 9 * x.toNatClampNeg + 5) (-1)) (58 + 9 * x.toNatClampNeg + 2) 0) j = T j := fun j _ => by
            rw [g_upd_ne (by omega), g_upd_ne (by omega), g_upd_ne (by omega), g_upd_ne (by omega), g_upd_ne (by omega)]
          have y5 : (upd (upd (upd (upd (upd T a1 v1) a2 v2) a3 v3) (58 + 9 * x.toNatClampNeg + 5) (-1)) (58 + 9 * x.toNatClampNeg + 2) 0) (58 + 9 * x.toNatClampNeg + 5) = -1 := by rw [g_upd_ne (by omega), g_upd_eq]
          unfold g_Hq
          rw [y 1 (by decide) (by decide) (by decide), y 3 (by decide) (by decide) (by decide), y 4 (by decide) (by decide) (by decide), y 8 (by decide) (by decide) (by decide), y5, g_upd_eq, y0 0 (by decide), y0 1 (by decide), tb 0 (by decide), tb 1 (by decide), fk 1 (by decide) (by decide) (by decide), fk 8 (by decide) (by decide) (by decide)]
          refine ⟨Q.1, Or.inl rfl, ⟨by decide, ?_⟩, Q.2.2.2.1, fun h => absurd h (by decide), fun h => absurd h (by decide)⟩
          have : (-1 : Int32).toInt = -1 := rfl
          omega
        exact w _ _ _ _ _ _ (by omega) (by omega) (by omega)
      · intro h
        rw [g_upd_eq] at h
        exact absurd h (by decide)
    · next c =>
      refine g219 _ (K.step hx O ?_ ?_ p27 ?_ ?_)
      · rw [tb 4 (by omega)]; exact B.2.2.2.2.1
      · rw [tb 5 (by omega)]; exact B.2.2.2.2.2.1
      · have l1 : 1 ≤ (s (58 + 9 * x.toNatClampNeg + 4) - 1).toInt := by
          have := j_neR c rfl
          have z : (0 : Int32).toInt = 0 := rfl
          omega
        unfold g_Hq at Q ⊢
        rw [fk 1 (by decide) (by decide) (by decide), fk 2 (by decide) (by decide) (by decide), fk 3 (by decide) (by decide) (by decide), fk 5 (by decide) (by decide) (by decide), fk 8 (by decide) (by decide) (by decide), t4, tb 0 (by decide), tb 1 (by decide)]
        exact ⟨Q.1, Q.2.1, Q.2.2.1, Q.2.2.2.1, fun h => ⟨(Q.2.2.2.2.1 h).1, (Q.2.2.2.2.1 h).2.1, l1⟩, fun h => ⟨(Q.2.2.2.2.2 h).1, (Q.2.2.2.2.2 h).2.1, l1⟩⟩
      · rw [fk 2 (by decide) (by decide) (by decide), fk 1 (by decide) (by decide) (by decide)]
        exact fun h => ⟨h, rfl⟩
  split
  · next c =>
    split
    · next d =>
      have q1 := Q.2.2.2.2.1 d
      have aa : ∀ U : Nat → Int32, g_Out s U x.toNatClampNeg → (∀ j, j < 27 → j ≠ 4 → j ≠ 5 → U j = s j) → (∀ p : Nat, p < 7 → U (27 + p) = s (27 + p)) → (0 ≤ (U 4).toInt ∧ (U 4).toInt ≤ (s 0).toInt) → (U 5 = 0 ∨ U 5 = 1) → (U (58 + 9 * x.toNatClampNeg + 5) = s (58 + 9 * x.toNatClampNeg + 5)) → g_K (R_X8_arrives_32 T x U) x.toNatClampNeg := by
        intro U oU u0 u27 u4 u5 ur
        unfold R_X8_arrives_32
        rw [fk 3 (by decide) (by decide) (by decide)]
        refine K.step hx ((((oU.upd (by omega)).upd (by omega)).upd (by omega)).upd (by omega)) ?_ ?_ (fun p hp => ?_) ?_ ?_
        · rw [g_upd_ne (by omega), g_upd_ne (by omega), g_upd_ne (by omega), g_upd_ne (by omega)]; exact u4
        · rw [g_upd_ne (by omega), g_upd_ne (by omega), g_upd_ne (by omega), g_upd_ne (by omega)]; exact u5
        · rw [g_upd_ne (by omega), g_upd_ne (by omega), g_upd_ne (by omega), g_upd_ne (by omega), u27 p hp]; exact (a.2.1 p hp).2.2
        · have y0 : ∀ j, j < 27 → (upd (upd (upd (upd U (58 + 9 * x.toNatClampNeg + 1) (s (58 + 9 * x.toNatClampNeg + 3))) (58 + 9 * x.toNatClampNeg + 3) (-1)) (58 + 9 * x.toNatClampNeg + 8) 0) (58 + 9 * x.toNatClampNeg + 2) 0) j = U j := fun j _ => by
            rw [g_upd_ne (by omega), g_upd_ne (by omega), g_upd_ne (by omega), g_upd_ne (by omega)]
          have y1 : (upd (upd (upd (upd U (58 + 9 * x.toNatClampNeg + 1) (s (58 + 9 * x.toNatClampNeg + 3))) (58 + 9 * x.toNatClampNeg + 3) (-1)) (58 + 9 * x.toNatClampNeg + 8) 0) (58 + 9 * x.toNatClampNeg + 2) 0) (58 + 9 * x.toNatClampNeg + 1) = s (58 + 9 * x.toNatClampNeg + 3) := by
            rw [g_upd_ne (by omega), g_upd_ne (by omega), g_upd_ne (by omega), g_upd_eq]
          have y5 : (upd (upd (upd (upd U (58 + 9 * x.toNatClampNeg + 1) (s (58 + 9 * x.toNatClampNeg + 3))) (58 + 9 * x.toNatClampNeg + 3) (-1)) (58 + 9 * x.toNatClampNeg + 8) 0) (58 + 9 * x.toNatClampNeg + 2) 0) (58 + 9 * x.toNatClampNeg + 5) = s (58 + 9 * x.toNatClampNeg + 5) := by
            rw [g_upd_ne (by omega), g_upd_ne (by omega), g_upd_ne (by omega), g_upd_ne (by omega), ur]
          have y8 : (upd (upd (upd (upd U (58 + 9 * x.toNatClampNeg + 1) (s (58 + 9 * x.toNatClampNeg + 3))) (58 + 9 * x.toNatClampNeg + 3) (-1)) (58 + 9 * x.toNatClampNeg + 8) 0) (58 + 9 * x.toNatClampNeg + 2) 0) (58 + 9 * x.toNatClampNeg + 8) = 0 := by
            rw [g_upd_ne (by omega), g_upd_eq]
          unfold g_Hq
          rw [y1, y5, y8, g_upd_eq, y0 0 (by decide), y0 1 (by decide), u0 0 (by decide) (by decide) (by decide), u0 1 (by decide) (by decide) (by decide)]
          exact ⟨q1.1, Or.inl rfl, Q.2.2.1, Or.inl rfl, fun h => absurd h (by decide), fun h => absurd h (by decide)⟩
        · intro h
          rw [g_upd_eq] at h
          exact absurd h (by decide)
      refine g219 _ ?_
      unfold R_X8_arrives
      split
      · refine aa _ ((O.upd (by omega)).upd (by omega)) (fun j h h4 h5 => ?_) (fun p hp => ?_) ?_ ?_ ?_
        · rw [g_upd_ne (by omega), g_upd_ne (by omega)]; exact tb j (by omega)
        · rw [g_upd_ne (by omega), g_upd_ne (by omega)]; exact tb _ (by omega)
        · rw [g_upd_ne (by omega), g_upd_eq, fk 3 (by decide) (by decide) (by decide)]; exact q1.1
        · rw [g_upd_eq]; exact Or.inl rfl
        · rw [g_upd_ne (by omega), g_upd_ne (by omega)]; exact fk 5 (by decide) (by decide) (by decide)
      · refine aa _ O (fun j h h4 h5 => tb j (by omega)) (fun p hp => tb _ (by omega)) ?_ ?_ (fk 5 (by decide) (by decide) (by decide))
        · rw [tb 4 (by omega)]; exact B.2.2.2.2.1
        · rw [tb 5 (by omega)]; exact B.2.2.2.2.2.1
    · next d => exact r205 (fun _ => d)
  · next c => exact r205 (fun h => absurd h c)
theorem K_66 {s t : Nat → Int32} {x w : Int32} (hx : x.toNatClampNeg < 6) (hx' : (x.toNatClampNeg : Int) < (t 2).toInt) (a : g_J t) : g_J (R_X8_minuteOf_66 s x w t) := by
  unfold R_X8_minuteOf_66
  split
  · exact K_219 hx (g_K.of a hx')
  · next n0 =>
    have r131 : ∀ v, g_J (R_X8_minuteOf_131 x w t v) := fun v => by
      unfold R_X8_minuteOf_131
      split
      · exact K_178 hx hx' a n0
      split
      · exact K_178 hx hx' a n0
      · exact K_178 hx hx' a n0
    have r94 : ∀ v, g_J (R_X8_minuteOf_94 s x w t v) := fun v => by
      unfold R_X8_minuteOf_94 R_X8_minuteOf_126 R_X8_minuteOf_130
      repeat' split
      all_goals exact r131 _
    split
    · exact r94 _
    · exact r94 _
theorem in_ne {s : Nat → Int32} {a b c : Int32} (h : ¬ R_X8_in s a b c = 0) : b.toInt ≤ a.toInt ∧ a.toInt ≤ c.toInt := by
  unfold R_X8_in at h
  split at h
  · exact absurd rfl h
  · next c1 =>
    split at h
    · exact absurd rfl h
    · next c2 => exact ⟨j_nlt c1, j_nlt c2⟩
theorem J_walks {s : Nat → Int32} {x b c d : Int32} (a : g_J s) (hx : x.toNatClampNeg < 6) (hx' : (x.toNatClampNeg : Int) < (s 2).toInt) (hb : 0 ≤ b.toInt ∧ b.toInt ≤ (s 0).toInt) (hb' : b.toInt = (s (58 + 9 * x.toNatClampNeg + 1)).toInt + 1 ∨ b.toInt = (s (58 + 9 * x.toNatClampNeg + 1)).toInt - 1) (hc : 1 ≤ c.toInt) (hd : d = 0 ∨ d = 1) : g_J (R_X8_walks s x b c d) := by
  have K := g_K.of a hx'
  have Q := K.2.2.2.1
  have e1 : ∀ n, n < 58 → R_X8_walks s x b c d n = s n := fun n h => fr_X8_walks (by omega) (by omega) (by omega) (by omega)
  have e2 : ∀ j, j < 9 → j ≠ 2 → j ≠ 3 → j ≠ 4 → j ≠ 8 → R_X8_walks s x b c d (58 + 9 * x.toNatClampNeg + j) = s (58 + 9 * x.toNatClampNeg + j) := fun n h _ _ _ _ => fr_X8_walks (by omega) (by omega) (by omega) (by omega)
  have f2 : R_X8_walks s x b c d (58 + 9 * x.toNatClampNeg + 2) = 1 := by
    unfold R_X8_walks
    rw [g_upd_ne (by omega), g_upd_ne (by omega), g_upd_ne (by omega), g_upd_eq]
  have f3 : R_X8_walks s x b c d (58 + 9 * x.toNatClampNeg + 3) = b := by
    unfold R_X8_walks
    rw [g_upd_ne (by omega), g_upd_ne (by omega), g_upd_eq]
  have f4 : R_X8_walks s x b c d (58 + 9 * x.toNatClampNeg + 4) = c := by
    unfold R_X8_walks
    rw [g_upd_ne (by omega), g_upd_eq]
  have f8 : R_X8_walks s x b c d (58 + 9 * x.toNatClampNeg + 8) = d := by
    unfold R_X8_walks
    rw [g_upd_eq]
  refine (g_K.step (t := R_X8_walks s x b c d) K hx (fun n _ _ _ _ _ h => fr_X8_walks (by omega) (by omega) (by omega) (by omega)) ?_ ?_ (fun p hp => ?_) ?_ ?_).j ?_
  · rw [e1 4 (by decide)]; exact a.1.2.2.2.2.1
  · rw [e1 5 (by decide)]; exact a.1.2.2.2.2.2.1
  · rw [e1 _ (by omega)]; exact (a.2.1 p hp).2.2
  · unfold g_Hq
    rw [f2, f3, f4, f8, e2 1 (by decide) (by decide) (by decide) (by decide) (by decide), e2 5 (by decide) (by decide) (by decide) (by decide) (by decide), e1 0 (by decide), e1 1 (by decide)]
    exact ⟨Q.1, Or.inr (Or.inl rfl), Q.2.2.1, hd, fun _ => ⟨hb, hb', hc⟩, fun h => absurd h (by decide)⟩
  · intro h; rw [f2] at h; exact absurd h (by decide)
  · intro h; exact absurd f2 h
theorem J_sets {s : Nat → Int32} {x b : Int32} (a : g_J s) (hx : x.toNatClampNeg < 6) (hx' : (x.toNatClampNeg : Int) < (s 2).toInt) (hr : R_X8_reason s x b = 0) : g_J (R_X8_sets s x b) ∧ (R_X8_sets s x b) 2 = s 2 := by
  have B := a.1
  have Q := (a.2.2.1 _ hx').1
  unfold R_X8_reason at hr
  split at hr
  · exact absurd hr (by decide)
  split at hr
  · exact absurd hr (by decide)
  next c =>
  have ⟨i1, i2⟩ := in_ne c
  have z0 : (0 : Int32).toInt = 0 := rfl
  have em : ((s (58 + 9 * x.toNatClampNeg + 1)) - 1).toInt = (s (58 + 9 * x.toNatClampNeg + 1)).toInt - 1 := j_subE rfl rfl (by omega) (by omega)
  have ep : ((s (58 + 9 * x.toNatClampNeg + 1)) + 1).toInt = (s (58 + 9 * x.toNatClampNeg + 1)).toInt + 1 := j_addE rfl rfl (by omega) (by omega)
  have hb' : b.toInt = (s (58 + 9 * x.toNatClampNeg + 1)).toInt + 1 ∨ b.toInt = (s (58 + 9 * x.toNatClampNeg + 1)).toInt - 1 := by
    split at hr
    · next d => right; rw [d, em]
    split at hr
    · next d => left; rw [d, ep]
    · exact absurd hr (by decide)
  have key : ∀ t : Int32, 0 ≤ t.toInt → t.toInt < 7 → g_J (R_X8_sets_26 s x b t) := fun t h0 h7 => by
    unfold R_X8_sets_26
    have e20 : (20 + t).toNatClampNeg = 20 + t.toNatClampNeg := by
      have q : (20 + t).toInt = 20 + t.toInt := j_addE rfl rfl (by omega) (by omega)
      have := j_nat (x := 20 + t) (by omega)
      have := j_nat h0
      omega
    have h7' : t.toNatClampNeg < 7 := by have := j_nat h0; omega
    rw [e20]
    exact J_walks a hx hx' ⟨by omega, i2⟩ hb' (a.2.1 _ h7').2.1.1 (Or.inl rfl)
  refine ⟨?_, fr_X8_sets (by omega) (by omega) (by omega) (by omega)⟩
  unfold R_X8_sets
  split
  · next d =>
    have d' := j_le d
    have eb : (b - 1).toInt = b.toInt - 1 := j_subE rfl rfl (by omega) (by omega)
    exact key _ (by omega) (by omega)
  · next d =>
    have d' := j_nle d
    exact key _ (by omega) (by omega)
theorem J_minuteOf {s : Nat → Int32} {x : Int32} (h : g_J s) (h0 : 0 ≤ x.toInt) (h1 : x.toInt < (s 2).toInt) : g_J (R_X8_minuteOf s x) := by
  have n := j_nat h0
  have hx' : (x.toNatClampNeg : Int) < (s 2).toInt := by omega
  have hx : x.toNatClampNeg < 6 := by have := h.1.2.2.1.2; omega
  have r24 : ∀ v, g_J (R_X8_minuteOf_24 s x v) := fun v => by
    unfold R_X8_minuteOf_24
    split
    · exact K_66 hx hx' h
    split
    · exact K_66 hx hx' h
    split
    · split
      · next c =>
        have j := J_sets h hx hx' c
        exact K_66 hx (by rw [j.2]; exact hx') j.1
      · exact K_66 hx hx' h
    · exact K_66 hx hx' h
  unfold R_X8_minuteOf R_X8_minuteOf_23
  split
  · exact r24 _
  split
  · exact r24 _
  · exact r24 _
