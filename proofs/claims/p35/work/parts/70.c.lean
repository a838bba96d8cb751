/-! ===== class beside model: deeds ===== -/
def g_U (m t : Nat → Int32) : Prop := ∀ n, 178 ≤ n → t n = m n
section PC
variable {m s : Nat → Int32}
theorem g_U.refl : g_U m m := fun _ _ => rfl
theorem g_U.upd {t : Nat → Int32} (u : g_U m t) {n : Nat} {x : Int32} (h : n < 178) : g_U m (upd t n x) := fun k hk => by rw [g_upd_ne (by omega)]; exact u k hk
theorem g_U.trans {t w : Nat → Int32} (a : g_U m t) (b : g_U t w) : g_U m w := fun n h => (b n h).trans (a n h)
theorem upd_comm {f : Nat → Int32} {a b : Nat} {x y : Int32} (h : a ≠ b) : upd (upd f a x) b y = upd (upd f b y) a x := by
  funext n
  unfold upd
  by_cases e : n = b
  · subst e
    rw [if_pos rfl, if_neg (Ne.symm h), if_pos rfl]
  · rw [if_neg e]
    by_cases d : n = a
    · rw [if_pos d, if_pos d]
    · rw [if_neg d, if_neg d, if_neg e]
theorem g_Lv.lt (J : g_J s) {n : Nat} (h : g_Lv s n) : n < 178 := by
  have := J.n
  unfold g_Lv at h
  omega
theorem g_L.updR (L : g_L m s) {n : Nat} {x : Int32} (h : m n = x) (h1 : n ≠ 1) (h2 : n ≠ 2) (h6 : n ≠ 6) (h12 : n ≠ 12) : g_L m (upd s n x) := fun k hk => by
  by_cases e : k = n
  · subst e; rw [g_upd_eq]; exact h
  · rw [g_upd_ne e]
    exact L k (hk.congr (g_upd_ne h1.symm) (g_upd_ne h2.symm) (g_upd_ne h6.symm) (g_upd_ne h12.symm))
theorem g_L.hi (L : g_L m s) {n : Nat} {x : Int32} (h : 178 ≤ n) : g_L m (upd s n x) := fun k hk => by
  have hk2 : g_Lv s k := hk.congr (g_upd_ne (by omega)) (g_upd_ne (by omega)) (g_upd_ne (by omega)) (g_upd_ne (by omega))
  have : k < 178 := by unfold g_Lv at hk2; omega
  rw [g_upd_ne (by omega)]
  exact L k hk2
theorem g_N.hi (N : g_N s) (h2 : (s 2).toInt ≤ 6) {n : Nat} {x : Int32} (h : n < 58 ∨ 112 ≤ n) (hn : n ≠ 2) : g_N (upd s n x) := fun k hk hd => by
  rw [g_upd_ne hn.symm] at hk
  rw [g_upd_ne (by omega)] at hd
  rw [g_upd_ne (by omega)]
  exact N k hk hd
theorem g_N.updj (N : g_N s) {h j : Nat} {x : Int32} (hj : j < 9) (h2 : j ≠ 2) (h8 : j ≠ 8) (hh : h < 6) (hs : (s 2).toInt ≤ 6) : g_N (upd s (58 + 9 * h + j) x) := fun k hk hd => by
  rw [g_upd_ne (by omega)] at hk
  rw [g_upd_ne (by omega)] at hd
  rw [g_upd_ne (by omega)]
  exact N k hk hd
theorem g_N.walk (N : g_N s) {h : Nat} {a b c : Int32} (hh : h < 6) (hs : (s 2).toInt ≤ 6) : g_N (upd (upd (upd (upd s (58 + 9 * h + 2) 1) (58 + 9 * h + 3) a) (58 + 9 * h + 4) b) (58 + 9 * h + 8) c) := fun k hk hd => by
  rw [g_upd_ne (by omega), g_upd_ne (by omega), g_upd_ne (by omega), g_upd_ne (by omega)] at hk
  rw [g_upd_ne (by omega), g_upd_ne (by omega), g_upd_ne (by omega)] at hd
  by_cases e : k = h
  · subst e
    rw [g_upd_eq] at hd
    exact absurd rfl hd
  · rw [g_upd_ne (by omega)] at hd
    rw [g_upd_ne (by omega), g_upd_ne (by omega), g_upd_ne (by omega), g_upd_ne (by omega)]
    exact N k hk hd
/-- what a deed does on both sides: refused by its first reason, or by another, or done -/
def g_Dd (m s : Nat → Int32) (bad : Prop) (can : Int32) (d r : Int32 × (Nat → Int32)) : Prop :=
  (bad ∧ r = (1, s)) ∨ (¬ bad ∧ can = 0 ∧ r = (2, s)) ∨ (¬ bad ∧ can ≠ 0 ∧ r.1 = 0 ∧ g_E d.2 r.2 ∧ d.1 = r.2 1303 ∧ g_U m d.2)
theorem stands_1 {x : Int32} (h : ¬ R_X8_stands s x = 0) : s (58 + 9 * x.toNatClampNeg + 2) = 0 := by
  unfold R_X8_stands at h
  by_cases a : s (58 + 9 * x.toNatClampNeg + 2) = 0
  · exact a
  · rw [if_neg a] at h; exact absurd rfl h
theorem reason_spec {x st : Int32} (h : R_X8_reason s x st = 0) : ¬ R_X8_stands s x = 0 ∧ (0 ≤ st.toInt ∧ st.toInt ≤ (s 0).toInt) ∧ (st = s (58 + 9 * x.toNatClampNeg + 1) - 1 ∨ st = s (58 + 9 * x.toNatClampNeg + 1) + 1) := by
  have hz := z_X8_reason h
  unfold R_X8_reason at h
  by_cases a : R_X8_stands s x = 0
  · rw [if_pos a] at h; exact absurd h (by decide)
  · refine ⟨a, hz, ?_⟩
    rw [if_neg a] at h
    by_cases b : R_X8_in s st 0 (s 0) = 0
    · rw [if_pos b] at h; exact absurd h (by decide)
    · rw [if_neg b] at h
      by_cases c : st = s (58 + 9 * x.toNatClampNeg + 1) - 1
      · exact Or.inl c
      · by_cases d : st = s (58 + 9 * x.toNatClampNeg + 1) + 1
        · exact Or.inr d
        · rw [if_neg c, if_neg d] at h; exact absurd h (by decide)
/-- setting out: the same minutes on both sides -/
theorem sets_eq (E : g_E m s) {x st : Int32} (h0 : 0 ≤ x.toInt) (h1 : x.toInt < (s 2).toInt) (hr : R_X8_reason s x st = 0) : R_X8_sets s x st = R_X8_walks s x st (R_X4_minutesOf m (g_min (m (58 + 9 * x.toNatClampNeg + 1)) st)) 0 := by
  have hx := j_nat h0
  have hj := E.J.n
  obtain ⟨-, ⟨a0, a1⟩, had⟩ := reason_spec hr
  have hp1 := (E.J.2.2.1 x.toNatClampNeg (by omega)).1
  have had' : st.toInt = (s (58 + 9 * x.toNatClampNeg + 1)).toInt - 1 ∨ st.toInt = (s (58 + 9 * x.toNatClampNeg + 1)).toInt + 1 := by
    rcases had with e | e
    · exact Or.inl (by rw [e]; exact j_sub1 (by omega))
    · exact Or.inr (by rw [e]; exact j_add1 (by omega))
  unfold R_X8_sets R_X8_sets_26 g_min
  rw [E.hp (j := 1) (by omega) (by omega)]
  by_cases b : s (58 + 9 * x.toNatClampNeg + 1) ≤ st
  · have b' := j_le b
    have e : st - 1 = s (58 + 9 * x.toNatClampNeg + 1) := Int32.toInt_inj.mp (by rw [j_sub1 (by omega)]; omega)
    rw [if_pos b, if_neg (Int32.not_lt.mpr b), e, E_min E (by omega) (by omega), s20 (by omega) (by omega)]
  · have b' := j_nle b
    rw [if_neg b, if_pos (Int32.not_le.mp b), E_min E (by omega) (by omega), s20 (by omega) (by omega)]
theorem walk_L (E : g_E m s) {x st mi : Int32} (h0 : 0 ≤ x.toInt) (h1 : x.toInt < (s 2).toInt) (hd : s (58 + 9 * x.toNatClampNeg + 2) = 0) : g_L (R_X1_walkTo m x.toNatClampNeg st mi) (R_X8_walks s x st mi 0) := by
  have hx := j_nat h0
  have hj := E.J.n
  unfold R_X1_walkTo R_X8_walks
  refine (((E.L.both (by omega) (by omega) (by omega) (by omega)).both (by omega) (by omega) (by omega) (by omega)).both (by omega) (by omega) (by omega) (by omega)).updR ?_ (by omega) (by omega) (by omega) (by omega)
  rw [g_upd_ne (by omega), g_upd_ne (by omega), g_upd_ne (by omega), E.hp (j := 8) (by omega) (by omega)]
  exact E.N _ (by omega) (by rw [hd]; decide)
theorem E_goes (E : g_E m s) (x st : Int32) : g_Dd m s (R_X8_isHelper s x = 0) (R_X0_canWalk m x st) (R_X0_startWalk m x st) (R_X8_goes s x st) := by
  have hj := E.J.n
  have JG := J_goes (x1 := x) (x2 := st) E.J
  unfold R_X8_goes at JG ⊢
  by_cases a : R_X8_isHelper s x = 0
  · exact Or.inl ⟨a, by rw [if_pos a]⟩
  · obtain ⟨h0, h1⟩ := isHelper_ne a
    have hx := j_nat h0
    refine Or.inr ?_
    rw [if_neg a] at JG ⊢
    have ec : R_X0_canWalk m x st = if R_X8_stands s x = 0 then 0 else (if R_X8_reason s x st = 0 then 1 else 0) := by
      unfold R_X0_canWalk
      rw [E_stand E, if_neg a, E_refusal E h0 h1]
    by_cases b : R_X8_reason s x st = 0
    · obtain ⟨c1, c2, c3⟩ := reason_spec b
      have hd := stands_1 c1
      rw [if_pos b] at JG ⊢
      refine Or.inr ⟨a, by rw [ec, if_neg c1, if_pos b]; decide, rfl, ⟨?_, JG, ?_⟩, ?_, ?_⟩
      · show g_L (R_X0_startWalk m x st).2 (upd (R_X8_sets s x st) 1303 _)
        refine g_L.hi ?_ (by omega)
        rw [sets_eq E h0 h1 b]
        exact walk_L E h0 h1 hd
      · show g_N (upd (R_X8_sets s x st) 1303 _)
        have e2 : R_X8_sets s x st 2 = s 2 := fr_X8_sets (by omega) (by omega) (by omega) (by omega)
        refine g_N.hi ?_ (by rw [e2]; omega) (by omega) (by omega)
        rw [sets_eq E h0 h1 b]
        exact g_N.walk E.N (by omega) (by omega)
      · have e4 : R_X8_sets s x st (58 + 9 * x.toNatClampNeg + 4) = R_X4_minutesOf m (g_min (m (58 + 9 * x.toNatClampNeg + 1)) st) := by
          rw [sets_eq E h0 h1 b]
          unfold R_X8_walks
          rw [g_upd_ne (by omega), g_upd_eq]
        show R_X4_minutesOf m _ = upd (R_X8_sets s x st) 1303 (R_X8_sets s x st (58 + 9 * x.toNatClampNeg + 4)) 1303
        rw [g_upd_eq, e4]
      · show g_U m (R_X1_walkTo m x.toNatClampNeg st _)
        exact ((g_U.refl.upd (by omega)).upd (by omega)).upd (by omega)
    · rw [if_neg b] at JG ⊢
      exact Or.inl ⟨a, by rw [ec, if_neg b, ite_self], rfl⟩
theorem sr1 {r : Int32} (h0 : 0 ≤ r.toInt) (h1 : r.toInt < 8) : ((34 + 3 * r) + 1).toNatClampNeg = 35 + 3 * r.toNatClampNeg := by
  have := ix_rope (x := r) (j := 1) (w := 1) h0 h1 rfl (by decide)
  omega
theorem sr2 {r : Int32} (h0 : 0 ≤ r.toInt) (h1 : r.toInt < 8) : ((34 + 3 * r) + 2).toNatClampNeg = 36 + 3 * r.toNatClampNeg := by
  have := ix_rope (x := r) (j := 2) (w := 2) h0 h1 rfl (by decide)
  omega
theorem sr0 {r : Int32} (h0 : 0 ≤ r.toInt) (h1 : r.toInt < 8) : (34 + 3 * r).toNatClampNeg = 34 + 3 * r.toNatClampNeg := by
  have h := ix_rope (x := r) (j := 0) (w := 0) h0 h1 rfl (by decide)
  rwa [Int32.add_zero] at h
/-- a rope comes into a helper's hand -/
theorem give_L (L : g_L m s) (J : g_J s) {x r : Int32} (h0 : 0 ≤ x.toInt) (h1 : x.toInt < (s 2).toInt) (r0 : 0 ≤ r.toInt) (r1 : r.toInt < (s 1).toInt) (m1 : m 1 = s 1) : g_L (R_X0_takeRope m x r) (R_X8_gives s r x) := by
  have hx := j_nat h0
  have hr := j_nat r0
  have hj := J.n
  have hh : ¬ R_X5_has (upd m (58 + 9 * x.toNatClampNeg + 5) r) r = 0 := by
    unfold R_X5_has
    rw [g_upd_ne (by omega), m1, if_neg (fun z => by have := j_ltR z j_0; omega), if_neg (fun z => by have := j_le z; omega)]
    decide
  unfold R_X0_takeRope R_X5_put R_X8_gives
  rw [if_neg hh, sr1 r0 (by omega), sr2 r0 (by omega), upd_comm (f := upd s (35 + 3 * r.toNatClampNeg) 1) (by omega), upd_comm (f := s) (by omega)]
  exact ((L.both (by omega) (by omega) (by omega) (by omega)).both (by omega) (by omega) (by omega) (by omega)).both (by omega) (by omega) (by omega) (by omega)
theorem give_U {x r : Int32} (h0 : 0 ≤ x.toInt) (h1 : x.toInt < 6) (r1 : (m 1).toInt ≤ 8) : g_U m (R_X0_takeRope m x r) := by
  have hx := j_nat h0
  have hh : g_U m (upd m (58 + 9 * x.toNatClampNeg + 5) r) := g_U.refl.upd (by omega)
  unfold R_X0_takeRope R_X5_put
  by_cases a : R_X5_has (upd m (58 + 9 * x.toNatClampNeg + 5) r) r = 0
  · rw [if_pos a]; exact hh
  · rw [if_neg a]
    obtain ⟨b0, b1⟩ := nz_X5_has a
    rw [g_upd_ne (by omega)] at b1
    have := j_nat b0
    exact (hh.upd (by omega)).upd (by omega)
theorem give_N (N : g_N s) {x r : Int32} (h0 : 0 ≤ x.toInt) (h1 : x.toInt < 6) (r0 : 0 ≤ r.toInt) (r1 : r.toInt < 8) (h2 : (s 2).toInt ≤ 6) : g_N (R_X8_gives s r x) := by
  have hx := j_nat h0
  have hr := j_nat r0
  unfold R_X8_gives
  rw [sr1 r0 r1, sr2 r0 r1]
  refine ((N.hi h2 (by omega) (by omega)).hi (by rw [g_upd_ne (by omega)]; exact h2) (by omega) (by omega)).updj (by omega) (by omega) (by omega) (by omega) (by rw [g_upd_ne (by omega), g_upd_ne (by omega)]; exact h2)
theorem E_takes (E : g_E m s) (x r : Int32) : g_Dd m s (R_X8_isHelper s x = 0 ∨ R_X8_isRope s r = 0) (R_X0_canTake m x r) (R_X5_lengthOf (R_X0_takeRope m x r) r, R_X0_takeRope m x r) (R_X8_takes s x r) := by
  have hj := E.J.n
  have JG := J_takes (x1 := x) (x2 := r) E.J
  unfold R_X8_takes at JG ⊢
  by_cases a : R_X8_isHelper s x = 0
  · exact Or.inl ⟨Or.inl a, by rw [if_pos a]⟩
  · by_cases a2 : R_X8_isRope s r = 0
    · exact Or.inl ⟨Or.inr a2, by rw [if_neg a, if_pos a2]⟩
    · obtain ⟨h0, h1⟩ := isHelper_ne a
      obtain ⟨r0, r1⟩ := isRope_ne a2
      have hx := j_nat h0
      have hr := j_nat r0
      have nb : ¬ (R_X8_isHelper s x = 0 ∨ R_X8_isRope s r = 0) := fun z => z.elim a a2
      refine Or.inr ?_
      rw [if_neg a, if_neg a2, sr1 r0 (by omega), sr2 r0 (by omega)] at JG ⊢
      have ec : R_X0_canTake m x r = if R_X8_stands s x = 0 then 0 else (if s (58 + 9 * x.toNatClampNeg + 5) = -1 then (if s (35 + 3 * r.toNatClampNeg) = 0 then (if s (36 + 3 * r.toNatClampNeg) = s (58 + 9 * x.toNatClampNeg + 1) then 1 else 0) else 0) else 0) := by
        unfold R_X0_canTake R_X5_liesAt
        rw [E_stand E, if_neg a, E.hp (j := 5) (by omega) (by omega), E.hp (j := 1) (by omega) (by omega), if_neg (has5_1 E r0 r1), E.r1 (by omega), E.r2 (by omega)]
        by_cases c1 : s (35 + 3 * r.toNatClampNeg) = 0
        · simp only [if_pos c1]
          by_cases c2 : s (36 + 3 * r.toNatClampNeg) = s (58 + 9 * x.toNatClampNeg + 1)
          · simp only [if_pos c2, i10]
          · simp only [if_neg c2, ↓reduceIte]
        · simp only [if_neg c1, ↓reduceIte]
      by_cases b : R_X8_stands s x = 0
      · rw [if_pos b] at JG ⊢
        exact Or.inl ⟨nb, by rw [ec, if_pos b], rfl⟩
      · by_cases c : s (58 + 9 * x.toNatClampNeg + 5) = -1
        · by_cases d : s (35 + 3 * r.toNatClampNeg) = 0
          · by_cases f : s (36 + 3 * r.toNatClampNeg) = s (58 + 9 * x.toNatClampNeg + 1)
            · rw [if_neg b, if_pos c, if_pos d, if_pos f] at JG ⊢
              refine Or.inr ⟨nb, by rw [ec, if_neg b, if_pos c, if_pos d, if_pos f]; decide, rfl, ⟨?_, JG, ?_⟩, ?_, ?_⟩
              · exact (give_L E.L E.J h0 h1 r0 r1 (E.lo (by omega))).hi (by omega)
              · refine (give_N E.N h0 (by omega) r0 (by omega) (by omega)).hi ?_ (by omega) (by omega)
                unfold R_X8_gives
                rw [sr1 r0 (by omega), sr2 r0 (by omega), g_upd_ne (by omega), g_upd_ne (by omega), g_upd_ne (by omega)]
                omega
              · show R_X5_lengthOf (R_X0_takeRope m x r) r = upd (R_X8_gives s r x) 1303 _ 1303
                have hL := give_L E.L E.J h0 h1 r0 r1 (E.lo (by omega))
                rw [g_upd_eq, sr0 r0 (by omega)]
                unfold R_X5_lengthOf
                have e1 : R_X0_takeRope m x r 1 = s 1 := by rw [fr_X0_takeRope (by omega), E.lo (by omega)]
                have hh : ¬ R_X5_has (R_X0_takeRope m x r) r = 0 := by
                  unfold R_X5_has
                  rw [e1, if_neg (fun z => by have := j_ltR z j_0; omega), if_neg (fun z => by have := j_le z; omega)]
                  decide
                rw [if_neg hh]
                refine hL _ (Or.inr (Or.inl ⟨by omega, by omega, ?_⟩))
                unfold R_X8_gives
                rw [sr1 r0 (by omega), sr2 r0 (by omega), g_upd_ne (by omega), g_upd_ne (by omega), g_upd_ne (by omega)]
                omega
              · exact give_U h0 (by omega) (by rw [E.lo (by omega)]; omega)
            · rw [if_neg b, if_pos c, if_pos d, if_neg f]
              exact Or.inl ⟨nb, by rw [ec, if_neg b, if_pos c, if_pos d, if_neg f], rfl⟩
          · rw [if_neg b, if_pos c, if_neg d]
            exact Or.inl ⟨nb, by rw [ec, if_neg b, if_pos c, if_neg d], rfl⟩
        · rw [if_neg b, if_neg c]
          exact Or.inl ⟨nb, by rw [ec, if_neg b, if_neg c], rfl⟩
end PC
