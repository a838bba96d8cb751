/-! ===== the class's main cave beside the model's row: they agree where something lies ===== -/
def g_Lv (s : Nat → Int32) (n : Nat) : Prop := n < 34 ∨ (34 ≤ n ∧ n < 58 ∧ (((n - 34) / 3 : Nat) : Int) < (s 1).toInt) ∨ (58 ≤ n ∧ n < 112 ∧ (((n - 58) / 9 : Nat) : Int) < (s 2).toInt) ∨ (112 ≤ n ∧ n < 142 ∧ (((n - 112) / 3 : Nat) : Int) < (s 6).toInt) ∨ (142 ≤ n ∧ n < 178 ∧ (((n - 142) / 3 : Nat) : Int) < (s 12).toInt)
def g_L (m s : Nat → Int32) : Prop := ∀ n, g_Lv s n → m n = s n
/-- who doesn't walk carries nothing -/
def g_N (s : Nat → Int32) : Prop := ∀ h : Nat, (h : Int) < (s 2).toInt → s (58 + 9 * h + 2) ≠ 1 → s (58 + 9 * h + 8) = 0
def g_E (m s : Nat → Int32) : Prop := g_L m s ∧ g_J s ∧ g_N s
section PR
variable {m s : Nat → Int32}
theorem g_Lv.congr {s t : Nat → Int32} {n : Nat} (h1 : t 1 = s 1) (h2 : t 2 = s 2) (h6 : t 6 = s 6) (h12 : t 12 = s 12) (h : g_Lv t n) : g_Lv s n := by
  unfold g_Lv at h ⊢
  rw [h1, h2, h6, h12] at h
  exact h
theorem g_L.both (L : g_L m s) {n : Nat} {x : Int32} (h1 : n ≠ 1) (h2 : n ≠ 2) (h6 : n ≠ 6) (h12 : n ≠ 12) : g_L (upd m n x) (upd s n x) := fun k hk => by
  by_cases e : k = n
  · subst e; rw [g_upd_eq, g_upd_eq]
  · rw [g_upd_ne e, g_upd_ne e]
    exact L k (hk.congr (g_upd_ne h1.symm) (g_upd_ne h2.symm) (g_upd_ne h6.symm) (g_upd_ne h12.symm))
theorem g_E.L (E : g_E m s) : g_L m s := E.1
theorem g_E.J (E : g_E m s) : g_J s := E.2.1
theorem g_E.N (E : g_E m s) : g_N s := E.2.2
theorem g_E.lo (E : g_E m s) {n : Nat} (h : n < 34) : m n = s n := E.1 n (Or.inl h)
theorem g_E.hp (E : g_E m s) {h j : Nat} (hh : (h : Int) < (s 2).toInt) (hj : j < 9) : m (58 + 9 * h + j) = s (58 + 9 * h + j) := by
  have := E.J.n
  exact E.1 _ (Or.inr (Or.inr (Or.inl ⟨by omega, by omega, by omega⟩)))
theorem g_E.r0 (E : g_E m s) {r : Nat} (hr : (r : Int) < (s 1).toInt) : m (34 + 3 * r) = s (34 + 3 * r) := by
  have := E.J.n
  exact E.1 _ (Or.inr (Or.inl ⟨by omega, by omega, by omega⟩))
theorem g_E.r1 (E : g_E m s) {r : Nat} (hr : (r : Int) < (s 1).toInt) : m (35 + 3 * r) = s (35 + 3 * r) := by
  have := E.J.n
  exact E.1 _ (Or.inr (Or.inl ⟨by omega, by omega, by omega⟩))
theorem g_E.r2 (E : g_E m s) {r : Nat} (hr : (r : Int) < (s 1).toInt) : m (36 + 3 * r) = s (36 + 3 * r) := by
  have := E.J.n
  exact E.1 _ (Or.inr (Or.inl ⟨by omega, by omega, by omega⟩))
theorem g_E.ms (E : g_E m s) {i j : Nat} (hi : (i : Int) < (s 6).toInt) (hj : j < 3) : m (112 + j + 3 * i) = s (112 + j + 3 * i) := by
  have := E.J.n
  exact E.1 _ (Or.inr (Or.inr (Or.inr (Or.inl ⟨by omega, by omega, by omega⟩))))
theorem g_E.lg (E : g_E m s) {i j : Nat} (hi : (i : Int) < (s 12).toInt) (hj : j < 3) : m (142 + j + 3 * i) = s (142 + j + 3 * i) := by
  have := E.J.n
  exact E.1 _ (Or.inr (Or.inr (Or.inr (Or.inr ⟨by omega, by omega, by omega⟩))))
theorem j_1 : (1 : Int32).toInt = 1 := rfl
theorem j_0 : (0 : Int32).toInt = 0 := rfl
theorem E_has4 (E : g_E m s) (x : Int32) : R_X4_has m x = R_X8_isPassage s x := by
  unfold R_X4_has R_X8_isPassage
  rw [E.lo (n := 0) (by omega)]
theorem E_has5 (E : g_E m s) (x : Int32) : R_X5_has m x = R_X8_isRope s x := by
  unfold R_X5_has R_X8_isRope
  rw [E.lo (n := 1) (by omega)]
theorem has4_1 (E : g_E m s) {x : Int32} (h0 : 0 ≤ x.toInt) (h1 : x.toInt < (s 0).toInt) : ¬ R_X4_has m x = 0 := by
  rw [E_has4 E]
  unfold R_X8_isPassage
  rw [if_neg (fun z => by have := j_ltR z j_0; omega), if_neg (fun z => by have := j_le z; omega)]
  decide
theorem has5_1 (E : g_E m s) {x : Int32} (h0 : 0 ≤ x.toInt) (h1 : x.toInt < (s 1).toInt) : ¬ R_X5_has m x = 0 := by
  rw [E_has5 E]
  unfold R_X8_isRope
  rw [if_neg (fun z => by have := j_ltR z j_0; omega), if_neg (fun z => by have := j_le z; omega)]
  decide
theorem E_drop (E : g_E m s) {x : Int32} (h0 : 0 ≤ x.toInt) (h1 : x.toInt < (s 0).toInt) : R_X4_dropOf m x = s (13 + x.toNatClampNeg) := by
  have := j_nat h0
  have := E.J.n
  unfold R_X4_dropOf
  rw [if_neg (has4_1 E h0 h1), E.lo (by omega)]
theorem E_min (E : g_E m s) {x : Int32} (h0 : 0 ≤ x.toInt) (h1 : x.toInt < (s 0).toInt) : R_X4_minutesOf m x = s (20 + x.toNatClampNeg) := by
  have := j_nat h0
  have := E.J.n
  unfold R_X4_minutesOf
  rw [if_neg (has4_1 E h0 h1), E.lo (by omega)]
theorem E_rope (E : g_E m s) {x : Int32} (h0 : 0 ≤ x.toInt) (h1 : x.toInt < (s 0).toInt) : R_X4_ropeOf m x = s (27 + x.toNatClampNeg) := by
  have := j_nat h0
  have := E.J.n
  unfold R_X4_ropeOf
  rw [if_neg (has4_1 E h0 h1), E.lo (by omega)]
theorem E_pitch (E : g_E m s) {x : Int32} (h0 : 0 ≤ x.toInt) (h1 : x.toInt < (s 0).toInt) : R_X4_isPitch m x = if s (13 + x.toNatClampNeg) ≤ 0 then 0 else 1 := by
  have := j_nat h0
  have := E.J.n
  unfold R_X4_isPitch
  rw [if_neg (has4_1 E h0 h1), E.lo (by omega)]
theorem s13 {x : Int32} (h0 : 0 ≤ x.toInt) (h1 : x.toInt ≤ 7) : (13 + x).toNatClampNeg = 13 + x.toNatClampNeg := (ix_p (x := x) (b := 13) (w := 13) rfl (by decide) h0 h1).1
theorem s20 {x : Int32} (h0 : 0 ≤ x.toInt) (h1 : x.toInt ≤ 7) : (20 + x).toNatClampNeg = 20 + x.toNatClampNeg := (ix_p (x := x) (b := 20) (w := 20) rfl (by decide) h0 h1).1
theorem s27 {x : Int32} (h0 : 0 ≤ x.toInt) (h1 : x.toInt ≤ 7) : (27 + x).toNatClampNeg = 27 + x.toNatClampNeg := (ix_p (x := x) (b := 27) (w := 27) rfl (by decide) h0 h1).1
theorem E_open (E : g_E m s) {x : Int32} (h0 : 0 ≤ x.toInt) (h1 : x.toInt < (s 0).toInt) : R_X4_isOpen m x = if R_X8_isShut s x = 0 then 1 else 0 := by
  have hx := j_nat h0
  have hn := E.J.n
  have hd := (E.J.2.1 x.toNatClampNeg (by omega)).1
  unfold R_X4_isOpen R_X8_isShut
  rw [if_neg (has4_1 E h0 h1), E.lo (by omega), E.lo (by omega), s13 h0 (by omega), s27 h0 (by omega)]
  by_cases a : s (13 + x.toNatClampNeg) = 0
  · rw [if_pos a, a]
    rfl
  · rw [if_neg a, if_neg (show ¬ s (13 + x.toNatClampNeg) ≤ 0 from fun z => a (by have := j_leR z j_0; exact Int32.toInt_inj.mp (by rw [j_0]; omega)))]
    by_cases b : s (27 + x.toNatClampNeg) = -1
    · rw [if_pos b, if_pos b]; rfl
    · rw [if_neg b, if_neg b]; rfl
theorem E_wayUp_4 (E : g_E m s) {x : Int32} (h1 : x.toInt ≤ (s 0).toInt) : ∀ (f n : Nat) (v : Int32), n + f ≤ 8 → R_X4_wayUp_4 m x f v n = R_X8_upFrom_4 s x f v n
  | 0, _, _, _ => rfl
  | f + 1, n, v, h => by
    have hn := E.J.n
    have hc : (nI n).toInt = (n : Int) := nI_toInt (by omega)
    unfold R_X4_wayUp_4 R_X8_upFrom_4
    by_cases a : x ≤ nI n
    · rw [if_pos a, if_pos a]
    · have a' := j_nle a
      rw [if_neg a, if_neg a, E.lo (n := 0) (by omega), if_neg (fun z => by have := j_le z; omega), nI_clamp (by omega), s20 (by omega) (by omega), nI_clamp (by omega), E.lo (by omega)]
      exact E_wayUp_4 E h1 f (n + 1) _ (by omega)
theorem E_wayUp (E : g_E m s) {x : Int32} (h1 : x.toInt ≤ (s 0).toInt) : R_X4_wayUp m x = R_X8_upFrom s x := E_wayUp_4 E h1 _ _ _ (by omega)
theorem E_inTime (E : g_E m s) {x st mi : Int32} (h0 : 0 ≤ x.toInt) (h1 : x.toInt < (s 2).toInt) (hs : st.toInt ≤ (s 0).toInt) : R_X0_isInTime m x.toNatClampNeg st mi = R_X8_isInTime s x st mi := by
  have hx := j_nat h0
  have hp := E.J.2.2.1 x.toNatClampNeg (by omega)
  have hp1 := hp.1
  have e : (if R_X8_isBelow s x = 0 then R_X8_isInTime_19 s x st mi 0 else R_X8_isInTime_19 s x st mi (s (58 + 9 * x.toNatClampNeg + 7))) = R_X8_isInTime_19 s x st mi (s (58 + 9 * x.toNatClampNeg + 7)) := by
    by_cases c : R_X8_isBelow s x = 0
    · rw [if_pos c]
      have z : s (58 + 9 * x.toNatClampNeg + 7) = 0 := by
        unfold R_X8_isBelow at c
        by_cases a : s (58 + 9 * x.toNatClampNeg + 2) = 1
        · rw [if_pos a] at c; exact absurd c (by decide)
        · rw [if_neg a] at c
          by_cases b : s (58 + 9 * x.toNatClampNeg + 1) ≤ 0
          · refine hp.2.2.2.2.2.2 a (Int32.toInt_inj.mp ?_)
            have := j_leR b j_0
            rw [j_0]; omega
          · rw [if_neg b] at c; exact absurd c (by decide)
      rw [z]
    · rw [if_neg c]
  unfold R_X0_isInTime R_X8_isInTime
  rw [e, E_wayUp E hs, E.hp (j := 0) (by omega) (by omega), E.hp (j := 7) (by omega) (by omega)]
  rfl
theorem i10 {α : Type} {a b : α} : (if (1 : Int32) = 0 then a else b) = b := if_neg (by decide)
theorem i00 {α : Type} {a b : α} : (if (0 : Int32) = 0 then a else b) = a := if_pos rfl
theorem E_ref84 (E : g_E m s) {x st t p : Int32} (h0 : 0 ≤ x.toInt) (h1 : x.toInt < (s 2).toInt) (hs : st.toInt ≤ (s 0).toInt) (p0 : 0 ≤ p.toInt) (p1 : p.toInt < (s 0).toInt) : R_X0_refusal_84 m x.toNatClampNeg st t p = R_X8_reason_69 s x st t p := by
  have hx := j_nat h0
  have hn := E.J.n
  unfold R_X0_refusal_84 R_X8_reason_69 R_X0_refusal_135 R_X0_refusal_137 R_X8_effort
  rw [E_open E p0 p1, E_pitch E p0 p1, E_min E p0 p1, s20 p0 (by omega), s13 p0 (by omega), E_inTime E h0 h1 hs, E.hp (j := 6) (by omega) (by omega)]
  by_cases a : R_X8_isShut s p = 0
  · simp only [if_pos a, i10]
    by_cases b : t = 0
    · simp only [if_pos b, Int32.mul_one]
    · simp only [if_neg b]
      by_cases c : s (13 + p.toNatClampNeg) ≤ 0
      · simp only [if_pos c, i00, ↓reduceIte, Int32.mul_one]
      · simp only [if_neg c, i10, Int32.mul_comm]
  · simp only [if_neg a, i00, ↓reduceIte]
theorem E_refusal (E : g_E m s) {x st : Int32} (h0 : 0 ≤ x.toInt) (h1 : x.toInt < (s 2).toInt) : R_X0_refusal m x.toNatClampNeg st = R_X8_reason s x st := by
  have hx := j_nat h0
  have hn := E.J.n
  have hp := E.J.2.2.1 x.toNatClampNeg (by omega)
  have hp1 := hp.1
  unfold R_X0_refusal R_X8_reason R_X8_stands R_X0_refusal_29
  rw [E.hp (j := 2) (by omega) (by omega), E.hp (j := 1) (by omega) (by omega)]
  by_cases a : s (58 + 9 * x.toNatClampNeg + 2) = 0
  · simp only [if_pos a, i10]
    have k : R_X0_refusal_34 m x.toNatClampNeg st 0 = 2 := by
      unfold R_X0_refusal_34
      simp only [i00, ↓reduceIte]
    have k1 : (st = s (58 + 9 * x.toNatClampNeg + 1) - 1 ∨ st = s (58 + 9 * x.toNatClampNeg + 1) + 1) → R_X0_refusal_34 m x.toNatClampNeg st 1 = if R_X8_in s st 0 (s 0) = 0 then 2 else R_X8_reason_47 s x st := by
      intro hst
      have hst' : st.toInt = (s (58 + 9 * x.toNatClampNeg + 1)).toInt - 1 ∨ st.toInt = (s (58 + 9 * x.toNatClampNeg + 1)).toInt + 1 := by
        rcases hst with rfl | rfl
        · exact Or.inl (j_sub1 (by omega))
        · exact Or.inr (j_add1 (by omega))
      unfold R_X0_refusal_34 R_X8_in
      rw [E.lo (n := 0) (by omega)]
      by_cases b : st < 0
      · simp only [if_pos b, i00, ↓reduceIte, i10]
      · have b' : (0 : Int) ≤ st.toInt := j_nltR b rfl
        by_cases c : st ≤ s 0
        · have c' := j_le c
          simp only [if_neg b, if_pos c, if_neg (Int32.not_lt.mpr c), i10]
          rw [E.hp (j := 1) (by omega) (by omega)]
          unfold R_X8_reason_47 R_X0_refusal_69 R_X8_reason_57
          rw [E.hp (j := 1) (by omega) (by omega)]
          by_cases d : s (58 + 9 * x.toNatClampNeg + 1) ≤ st
          · have d' := j_le d
            simp only [if_pos d, i00, ↓reduceIte]
            exact E_ref84 E h0 h1 c' (by omega) (by omega)
          · have d' := j_nle d
            simp only [if_neg d, i10]
            exact E_ref84 E h0 h1 c' (by omega) (by omega)
        · simp only [if_neg b, if_neg c, if_pos (Int32.not_le.mp c), i10, i00, ↓reduceIte]
    by_cases b : st = s (58 + 9 * x.toNatClampNeg + 1) - 1
    · rw [if_pos b, k1 (Or.inl b), if_pos b]
    · by_cases c : st = s (58 + 9 * x.toNatClampNeg + 1) + 1
      · rw [if_neg b, if_pos c, k1 (Or.inr c), if_neg b, if_pos c]
      · rw [if_neg b, if_neg c, k, if_neg b, if_neg c, ite_self]
  · simp only [if_neg a, i00, ↓reduceIte]
theorem E_stand (E : g_E m s) (x : Int32) : R_X0_isStanding m x = if R_X8_isHelper s x = 0 then 0 else R_X8_stands s x := by
  unfold R_X0_isStanding R_X8_isHelper R_X8_stands
  rw [E.lo (n := 2) (by omega)]
  by_cases a : x < 0
  · simp only [if_pos a, i00, ↓reduceIte]
  · have a' : (0 : Int) ≤ x.toInt := j_nltR a rfl
    by_cases b : s 2 ≤ x
    · simp only [if_neg a, if_pos b, i00, ↓reduceIte]
    · have b' := j_nle b
      have := j_nat a'
      simp only [if_neg a, if_neg b, i10]
      rw [E.hp (j := 2) (by omega) (by omega)]
end PR
