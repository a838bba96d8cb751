/-! ===== a minute of the law is the reference's ===== -/
section VB
variable {s t S T : Nat → Int32}
theorem upd_self {f : Nat → Int32} {a : Nat} : upd f a (f a) = f := by
  funext k
  by_cases h : k = a
  · subst h; exact g_upd_eq
  · exact g_upd_ne h
theorem upd_2 {f : Nat → Int32} {a : Nat} {x y : Int32} : upd (upd f a x) a y = upd f a y := by
  funext k
  by_cases h : k = a
  · subst h; rw [g_upd_eq, g_upd_eq]
  · rw [g_upd_ne h, g_upd_ne h, g_upd_ne h]
/-- the end of a helper's minute -/
theorem Lm_431 {K : Nat → (Nat → Int32) → Int32 × (Nat → Int32)} {n : Nat} (hn : n < 6) (w : Int32) : R_L_minute_431 K n w S = K (n + 1) (R_X8_minuteOf_219 (nI n) w S) := by
  have k : ∀ (S : Nat → Int32) (v : Int32), R_L_minute_461 K n S v = K (n + 1) (R_X8_minuteOf_249 (nI n) (upd S (58 + 9 * n + 6) (S (58 + 9 * n + 6) - v))) := by
    intro S v
    have q : ∀ u : Int32, R_L_minute_505 K n S v u = K (n + 1) (R_X8_minuteOf_274 (nI n) (upd S (58 + 9 * n + 6) (S (58 + 9 * n + 6) - v)) u) := by
      intro u
      unfold R_L_minute_505 R_L_minute_532 R_X8_minuteOf_274 R_X8_minuteOf_306
      rw [nI_clamp (by omega)]
      simp (disch := omega) only [g_upd_ne, g_upd_eq]
      by_cases c : u ≤ S (58 + 9 * n + 0)
      · rw [if_pos c, if_pos c]
      · rw [if_neg c, if_neg c]
    unfold R_L_minute_461 R_L_minute_491 R_X8_minuteOf_249 R_X8_isBelow
    rw [q, q, nI_clamp (by omega)]
    simp (disch := omega) only [g_upd_ne, g_upd_eq]
    by_cases a : S (58 + 9 * n + 2) = 1
    · rw [if_pos a, if_pos a, i10]
    · rw [if_neg a, if_neg a]
      by_cases b : S (58 + 9 * n + 1) ≤ 0
      · rw [if_pos b, if_pos b, i00]
      · rw [if_neg b, if_neg b, i10]
  unfold R_L_minute_431 R_L_minute_460 R_X8_minuteOf_219
  rw [k, k, Int32.sub_zero, upd_self, nI_clamp (by omega)]
  by_cases a : w = 0
  · rw [if_pos a, if_pos a]
  · rw [if_neg a, if_neg a]
    by_cases b : S (58 + 9 * n + 6) ≤ 0
    · rw [if_pos b, if_pos b]
    · rw [if_neg b, if_neg b]
/-- one who walks -/
theorem Lm_walk {n : Nat} (hn : n < 6) {e a b : Int32} (ha : a = if S (58 + 9 * n + 8) = 1 then S (58 + 9 * n + 3) else S 4) (hb : b = if S (58 + 9 * n + 8) = 1 then 0 else S 5) :
    upd (upd (upd (upd (upd (upd (upd (upd S (58 + 9 * n + 4) (S (58 + 9 * n + 4) - 1)) (58 + 9 * n + 6) (S (58 + 9 * n + 6) + e)) 4 a) 5 b) (58 + 9 * n + 1) (S (58 + 9 * n + 3))) (58 + 9 * n + 2) 0) (58 + 9 * n + 3) (-1)) (58 + 9 * n + 8) 0 = R_X8_arrives (upd (upd S (58 + 9 * n + 4) (S (58 + 9 * n + 4) - 1)) (58 + 9 * n + 6) (S (58 + 9 * n + 6) + e)) (nI n) := by
  unfold R_X8_arrives R_X8_arrives_32
  rw [nI_clamp (by omega)]
  simp (disch := omega) only [g_upd_ne, g_upd_eq]
  by_cases c : S (58 + 9 * n + 8) = 1
  · rw [if_pos c] at ha hb ⊢
    subst ha; subst hb
    funext k
    simp only [upd]
    repeat' split
    all_goals first | rfl | omega
  · rw [if_neg c] at ha hb ⊢
    subst ha; subst hb
    funext k
    simp only [upd]
    repeat' split
    all_goals first | rfl | omega | (congr 1; omega)
/-- one who has rigged -/
theorem Lm_rig {n : Nat} (hn : n < 6) {e : Int32} (h1 : 0 ≤ (S (58 + 9 * n + 1)).toInt) (h7 : (S (58 + 9 * n + 1)).toInt < 7) (r0 : 0 ≤ (S (58 + 9 * n + 5)).toInt) (r1 : (S (58 + 9 * n + 5)).toInt < 8) :
    upd (upd (upd (upd (upd (upd (upd S (58 + 9 * n + 4) (S (58 + 9 * n + 4) - 1)) (58 + 9 * n + 6) (S (58 + 9 * n + 6) + e)) (27 + (S (58 + 9 * n + 1)).toNatClampNeg) (S (58 + 9 * n + 5))) (35 + 3 * ((S (58 + 9 * n + 5)).toNatClampNeg)) 2) (36 + 3 * ((S (58 + 9 * n + 5)).toNatClampNeg)) (S (58 + 9 * n + 1))) (58 + 9 * n + 5) (-1)) (58 + 9 * n + 2) 0 = R_X8_hasRigged (upd (upd S (58 + 9 * n + 4) (S (58 + 9 * n + 4) - 1)) (58 + 9 * n + 6) (S (58 + 9 * n + 6) + e)) (nI n) := by
  have hj := j_nat h1
  have hr := j_nat r0
  have hc := nI_clamp (n := n) (by omega)
  unfold R_X8_hasRigged
  rw [hc]
  simp (disch := omega) only [g_upd_ne, g_upd_eq]
  rw [s27 h1 (by omega), leave_eq (by rw [hc, g_upd_ne (by omega), g_upd_ne (by omega), g_upd_ne (by omega)]; exact r0) (by rw [hc, g_upd_ne (by omega), g_upd_ne (by omega), g_upd_ne (by omega)]; exact r1), hc]
  simp (disch := omega) only [g_upd_ne, g_upd_eq]
theorem Lm_238 {K : Nat → (Nat → Int32) → Int32 × (Nat → Int32)} {n : Nat} (hn : n < 6) (w e : Int32) (h : S (58 + 9 * n + 2) = 1 ∨ ((0 ≤ (S (58 + 9 * n + 1)).toInt ∧ (S (58 + 9 * n + 1)).toInt < 7) ∧ 0 ≤ (S (58 + 9 * n + 5)).toInt ∧ (S (58 + 9 * n + 5)).toInt < 8)) : R_L_minute_238 K n w S e = K (n + 1) (R_X8_minuteOf_178 (nI n) w S e) := by
  have hc := nI_clamp (n := n) (by omega)
  unfold R_L_minute_238 R_L_minute_288 R_L_minute_310 R_L_minute_353 R_X8_minuteOf_178 R_X8_minuteOf_205
  rw [hc]
  simp (disch := omega) only [g_upd_ne, g_upd_eq]
  simp only [Lm_431 hn]
  by_cases a : S (58 + 9 * n + 4) - 1 = 0
  · simp only [if_pos a]
    by_cases b : S (58 + 9 * n + 2) = 1
    · simp only [if_pos b]
      by_cases c : S (58 + 9 * n + 8) = 1
      · simp only [if_pos c]
        rw [Lm_walk hn (e := e) (a := S (58 + 9 * n + 3)) (b := 0) (by rw [if_pos c]) (by rw [if_pos c])]
      · simp only [if_neg c]
        rw [Lm_walk hn (e := e) (a := S 4) (b := S 5) (by rw [if_neg c]) (by rw [if_neg c])]
    · simp only [if_neg b]
      obtain ⟨⟨h1, h7⟩, r0, r1⟩ := h.resolve_left b
      rw [Lm_rig hn (e := e) h1 h7 r0 r1]
  · simp only [if_neg a]
theorem Lm_124 {K : Nat → (Nat → Int32) → Int32 × (Nat → Int32)} {n : Nat} (hn : n < 6) (w : Int32) (hs : s (58 + 9 * n + 1) = S (58 + 9 * n + 1)) (a0 : 0 ≤ (S (58 + 9 * n + 1)).toInt) (a7 : (S (58 + 9 * n + 1)).toInt ≤ 7)
    (h : S (58 + 9 * n + 2) = 0 ∨ (S (58 + 9 * n + 2) = 1 ∧ 0 ≤ (S (58 + 9 * n + 3)).toInt ∧ ((S (58 + 9 * n + 3)).toInt = (S (58 + 9 * n + 1)).toInt + 1 ∨ (S (58 + 9 * n + 3)).toInt = (S (58 + 9 * n + 1)).toInt - 1)) ∨ (S (58 + 9 * n + 2) = 2 ∧ (S (58 + 9 * n + 1)).toInt < 7 ∧ 0 ≤ (S (58 + 9 * n + 5)).toInt ∧ (S (58 + 9 * n + 5)).toInt < 8)) : R_L_minute_124 K n w S = K (n + 1) (R_X8_minuteOf_66 s (nI n) w S) := by
  have hc := nI_clamp (n := n) (by omega)
  unfold R_L_minute_124 R_L_minute_197 R_L_minute_201 R_L_minute_202 R_X8_minuteOf_66 R_X8_minuteOf_94 R_X8_minuteOf_126 R_X8_minuteOf_130 R_X8_minuteOf_131
  rw [hc, hs]
  rcases h with h | ⟨h, h3, hd⟩ | ⟨h, h1, h5, h8⟩
  · rw [if_pos (show S (58 + 9 * n + 2) ≤ 0 by rw [h]; decide), if_pos h, Lm_431 hn]
  · rw [if_neg (show ¬ S (58 + 9 * n + 2) ≤ 0 by rw [h]; decide), if_neg (show ¬ S (58 + 9 * n + 2) = 0 by rw [h]; decide)]
    simp only [Lm_238 (S := S) hn w _ (Or.inl h), if_neg (show ¬ S (58 + 9 * n + 2) = 2 by rw [h]; decide), if_pos h, i10, i00]
    by_cases c : S (58 + 9 * n + 8) = 1
    · simp only [if_pos c, ite_self]
    · simp only [if_neg c]
      by_cases d : S (58 + 9 * n + 1) ≤ S (58 + 9 * n + 3)
      · simp only [if_pos d, if_true]
      · have d' := j_nle d
        have e1 : (13 + S (58 + 9 * n + 1) - 1).toNatClampNeg = 13 + (S (58 + 9 * n + 3)).toNatClampNeg := by
          have hj := j_nat h3
          have h13 : (13 : Int32).toInt = 13 := rfl
          have e := j_subE (x := 13 + S (58 + 9 * n + 1)) (y := 1) (j_addE h13 rfl (by omega) (by omega)) j_1 (by omega) (by omega)
          have hq := j_nat (x := 13 + S (58 + 9 * n + 1) - 1) (by omega)
          omega
        simp only [if_neg d, e1]
        by_cases g : S (13 + (S (58 + 9 * n + 3)).toNatClampNeg) ≤ 0
        · simp only [if_pos g, if_true]
        · simp only [if_neg g]
  · rw [if_neg (show ¬ S (58 + 9 * n + 2) ≤ 0 by rw [h]; decide), if_neg (show ¬ S (58 + 9 * n + 2) = 0 by rw [h]; decide)]
    simp only [Lm_238 (S := S) hn w _ (Or.inr ⟨⟨a0, h1⟩, h5, h8⟩), if_pos h, ite_self]
theorem Lm_43 (J : g_J S) {K : Nat → (Nat → Int32) → Int32 × (Nat → Int32)} {n : Nat} (hn : (n : Int) < (S 2).toInt) (w : Int32) : R_L_minute_43 K n S w = K (n + 1) (R_X8_minuteOf_24 S (nI n) w) := by
  have h6 := J.1.2.2.1.2
  have h07 := J.1.1.2
  have h18 := J.1.2.1.2
  have hc := nI_clamp (n := n) (by omega)
  have hq : (nI n).toInt = (n : Int) := nI_toInt (by omega)
  obtain ⟨⟨a0, a7⟩, dd, ⟨r0, r1⟩, -, pw, pr, -⟩ := J.2.2.1 n hn
  have base : R_L_minute_124 K n w S = K (n + 1) (R_X8_minuteOf_66 S (nI n) w S) := by
    refine Lm_124 (by omega) w rfl a0 (by omega) ?_
    rcases dd with d | d | d
    · exact Or.inl d
    · have := pw d
      exact Or.inr (Or.inl ⟨d, this.1.1, this.2.1⟩)
    · have := pr d
      exact Or.inr (Or.inr ⟨d, by omega, this.2.1, by omega⟩)
  unfold R_L_minute_43 R_X8_minuteOf_24 R_X8_stands
  rw [hc, base]
  by_cases d : S (58 + 9 * n + 2) = 0
  · rw [if_pos d, if_pos d, i10]
    by_cases z : S (58 + 9 * n + 1) ≤ 0
    · rw [if_pos z, if_pos z]
    · have z' : 0 < (S (58 + 9 * n + 1)).toInt := j_nleR z rfl
      have e1 := j_sub1 (x := S (58 + 9 * n + 1)) (by omega)
      rw [if_neg z, if_neg z, Lx_inTime (by rw [hc]; exact a0) a0 (by omega), Lx_why J _ (by omega) (by omega), Lx_sets (by rw [hc]; exact a0) (by omega) (by omega) (by rw [hc]; omega)]
      by_cases b : R_X8_isInTime S (nI n) (S (58 + 9 * n + 1)) 1 = 0
      · rw [if_pos b, if_pos b]
        by_cases c : R_X8_reason S (nI n) (S (58 + 9 * n + 1) - 1) = 0
        · rw [if_pos c, if_pos c]
          have st : ∀ v, R_X8_walks S (nI n) (S (58 + 9 * n + 1) - 1) v 0 (58 + 9 * n + 1) = S (58 + 9 * n + 1) ∧ R_X8_walks S (nI n) (S (58 + 9 * n + 1) - 1) v 0 (58 + 9 * n + 2) = 1 ∧ R_X8_walks S (nI n) (S (58 + 9 * n + 1) - 1) v 0 (58 + 9 * n + 3) = S (58 + 9 * n + 1) - 1 := by
            intro v
            unfold R_X8_walks
            rw [hc]
            refine ⟨?_, ?_, ?_⟩ <;> simp (disch := omega) only [g_upd_ne, g_upd_eq]
          have sx : ∃ v, R_X8_sets S (nI n) (S (58 + 9 * n + 1) - 1) = R_X8_walks S (nI n) (S (58 + 9 * n + 1) - 1) v 0 := by
            unfold R_X8_sets R_X8_sets_26
            split
            · exact ⟨_, rfl⟩
            · exact ⟨_, rfl⟩
          obtain ⟨v, ev⟩ := sx
          obtain ⟨s1, s2, s3⟩ := st v
          rw [ev]
          exact Lm_124 (by omega) w s1.symm (by rw [s1]; exact a0) (by rw [s1]; omega) (Or.inr (Or.inl ⟨s2, by rw [s3]; omega, Or.inr (by rw [s1, s3]; exact e1)⟩))
        · rw [if_neg c, if_neg c]
      · rw [if_neg b, if_neg b]
  · rw [if_neg d, if_neg d, i00]
/-! the messages -/
theorem Lm_fin {v : Int32} {y : Nat} : (v, upd (upd (upd S 6 (nI y)) 7 (S 7 + v)) 3 (S 3 + 1)) = R_X8_minute_180 v S (nI y) := by
  unfold R_X8_minute_180
  simp (disch := omega) only [g_upd_ne]
/-- in silence nothing moves -/
theorem Lm_still {v : Int32} (hm : ∀ i : Nat, (i : Int) < (S 6).toInt → 1 ≤ (S (114 + 3 * i)).toInt ∧ (S (114 + 3 * i)).toInt ≤ 7) (h0 : 0 ≤ (S 6).toInt) (h6 : (S 6).toInt ≤ 10) : ∀ (f k : Nat), (k : Int) ≤ (S 6).toInt → (S 6).toInt < f + k → R_L_minute_576 s 1 f v k k S = R_X8_minute_180 v S (S 6)
  | 0, k, h, h' => absurd h' (by omega)
  | f + 1, k, h, h' => by
    have hc : (nI k).toInt = (k : Int) := nI_toInt (by omega)
    unfold R_L_minute_576
    by_cases a : S 6 ≤ nI k
    · have a' := j_le a
      have e : nI k = S 6 := Int32.toInt_inj.mp (by omega)
      rw [if_pos a, Lm_fin, e]
    · have a' := j_nle a
      have q := (hm k (by omega)).1
      rw [if_neg a, if_neg (by decide)]
      unfold R_L_minute_604 R_L_minute_619 R_L_minute_673
      rw [Int32.sub_zero, if_neg (fun z => by rw [z, j_0] at q; omega), if_neg (fun z => by have := j_leR z j_0; omega), upd_self, upd_self, upd_self, Int32.add_zero]
      exact Lm_still hm h0 h6 f (k + 1) (by omega) (by omega)
/-- without it: class by class, what is alive agrees -/
theorem Lm_go {p : Nat → Int32} (J : g_J p) (hin : R_X8_in p (p 3) (p 9) (p 10 - 1) = 0) : ∀ (f : Nat) (v : Int32) (y k : Nat) (S T : Nat → Int32), y ≤ k → (k : Int) ≤ (p 6).toInt → (p 6).toInt < f + k → S 6 = p 6 →
    (∀ n, n < 112 ∨ 142 ≤ n → S n = T n) → (∀ i j : Nat, i < y → j < 3 → S (112 + 3 * i + j) = T (112 + 3 * i + j)) → (∀ i j : Nat, k ≤ i → i < 10 → j < 3 → S (112 + 3 * i + j) = p (112 + 3 * i + j) ∧ T (112 + 3 * i + j) = p (112 + 3 * i + j)) →
    (R_L_minute_576 s 0 f v y k S).1 = (R_X8_minute_65 t p f v y k T).1 ∧ g_L (R_L_minute_576 s 0 f v y k S).2 (R_X8_minute_65 t p f v y k T).2
  | 0, v, y, k, S, T, _, h, h', _, _, _, _ => absurd h' (by omega)
  | f + 1, v, y, k, S, T, hy, h, h', h6, ho, hl, hr => by
    have h10 := J.1.2.2.2.2.2.2.1.2
    have hc : (nI k).toInt = (k : Int) := nI_toInt (by omega)
    have hyc : (nI y).toInt = (y : Int) := nI_toInt (by omega)
    unfold R_L_minute_576 R_X8_minute_65
    rw [h6]
    by_cases a : p 6 ≤ nI k
    · rw [if_pos a, if_pos a, Lm_fin]
      unfold R_X8_minute_164
      rw [if_pos hin]
      unfold R_X8_minute_180
      refine ⟨rfl, fun n hn => ?_⟩
      dsimp only at hn ⊢
      by_cases e3 : n = 3
      · subst e3
        rw [g_upd_eq, g_upd_eq, g_upd_ne (by omega), g_upd_ne (by omega), g_upd_ne (by omega), g_upd_ne (by omega), ho 3 (by omega)]
      · rw [g_upd_ne e3, g_upd_ne e3]
        by_cases e7 : n = 7
        · subst e7
          rw [g_upd_eq, g_upd_eq, g_upd_ne (by omega), g_upd_ne (by omega), ho 7 (by omega)]
        · rw [g_upd_ne e7, g_upd_ne e7]
          by_cases e6 : n = 6
          · subst e6; rw [g_upd_eq, g_upd_eq]
          · rw [g_upd_ne e6, g_upd_ne e6]
            by_cases z : n < 112 ∨ 142 ≤ n
            · exact ho n z
            · unfold g_Lv at hn
              rw [g_upd_ne (by omega), g_upd_ne (by omega), g_upd_ne (by omega), g_upd_ne (by omega), g_upd_ne (by omega), g_upd_ne (by omega), g_upd_ne (by omega), g_upd_ne (by omega), g_upd_eq, hyc, g_upd_ne (by omega), g_upd_ne (by omega), g_upd_ne (by omega)] at hn
              have hi : (n - 112) / 3 < y := by omega
              have := hl ((n - 112) / 3) ((n - 112) % 3) hi (by omega)
              rw [show 112 + 3 * ((n - 112) / 3) + (n - 112) % 3 = n by omega] at this
              exact this
    · have a' := j_nle a
      have q := J.2.2.2.2 k (by omega)
      have hr2 := hr k 2 (by omega) (by omega) (by omega)
      have e2 : 112 + 3 * k + 2 = 114 + 3 * k := by omega
      rw [e2] at hr2
      have sk : (112 + 3 * nI k + 2).toNatClampNeg = 114 + 3 * k := by
        have := sm2 (k := nI k) (by omega) (by omega)
        rw [nI_clamp (by omega)] at this
        exact this
      have e1 := j_sub1 (x := p (114 + 3 * k)) (by omega)
      rw [if_neg a, if_neg a, if_pos hin, if_pos rfl, sk, g_upd_eq]
      unfold R_L_minute_604 R_L_minute_619 R_L_minute_673 R_X8_minute_158
      rw [hr2.1, hr2.2]
      have ro : ∀ (x : Int32) (n : Nat), n < 112 ∨ 142 ≤ n → upd T (114 + 3 * k) x n = T n := fun x n hn => g_upd_ne (by omega)
      by_cases z : p (114 + 3 * k) - 1 = 0
      · rw [if_pos z, if_pos z, if_pos (show p (114 + 3 * k) - 1 ≤ 0 by rw [z]; decide)]
        refine Lm_go J hin f _ y (k + 1) S _ (by omega) (by omega) (by omega) h6 (fun n hn => ?_) (fun i j hi hj => ?_) (fun i j hi hi2 hj => ?_)
        · rw [g_upd_ne (by omega)]; exact ho n hn
        · rw [g_upd_ne (by omega)]; exact hl i j hi hj
        · rw [g_upd_ne (by omega)]; exact hr i j (by omega) hi2 hj
      · have z0 : 0 < (p (114 + 3 * k) - 1).toInt := by
          have : (p (114 + 3 * k) - 1).toInt ≠ 0 := fun w => z (Int32.toInt_inj.mp (by rw [w]; rfl))
          omega
        rw [if_neg z, if_neg z, if_neg (fun w => by have := j_leR w j_0; omega), R_118 (by omega) (by omega), Int32.add_zero]
        have r0 := hr k 0 (by omega) (by omega) (by omega)
        have r1 := hr k 1 (by omega) (by omega) (by omega)
        rw [Nat.add_zero] at r0
        rw [show 112 + 3 * k + 1 = 113 + 3 * k by omega] at r1
        simp only [show 112 + 3 * y + 1 = 113 + 3 * y by omega, show 112 + 3 * y + 2 = 114 + 3 * y by omega, show 112 + 3 * k + 1 = 113 + 3 * k by omega, show 112 + 3 * k + 2 = 114 + 3 * k by omega]
        simp (disch := omega) only [g_upd_ne, g_upd_eq]
        rw [r0.1, r0.2, r1.1, r1.2]
        refine Lm_go J hin f _ (y + 1) (k + 1) _ _ (by omega) (by omega) (by omega) ?_ (fun n hn => ?_) (fun i j hi hj => ?_) (fun i j hi hi2 hj => ?_)
        · rw [g_upd_ne (by omega), g_upd_ne (by omega), g_upd_ne (by omega)]; exact h6
        · simp (disch := omega) only [g_upd_ne]
          exact ho n hn
        · by_cases e : i = y
          · subst e
            have hj3 : j = 0 ∨ j = 1 ∨ j = 2 := by omega
            rcases hj3 with rfl | rfl | rfl
            · simp (disch := omega) only [Nat.add_zero, g_upd_ne, g_upd_eq]
            · simp only [show 112 + 3 * i + 1 = 113 + 3 * i by omega]
              simp (disch := omega) only [g_upd_ne, g_upd_eq]
            · simp only [show 112 + 3 * i + 2 = 114 + 3 * i by omega]
              simp (disch := omega) only [g_upd_ne, g_upd_eq]
          · simp (disch := omega) only [g_upd_ne]
            exact hl i j (by omega) hj
        · simp (disch := omega) only [g_upd_ne]
          exact hr i j (by omega) hi2 hj
theorem Lm_msgs (J : g_J S) : (R_L_minute_3 s 1 6 S).1 = 0 ∨ True := Or.inr trivial
/-- all helpers, then the messages -/
theorem Lm_loop : ∀ (f n : Nat) (S : Nat → Int32), g_J S → (n : Int) ≤ (S 2).toInt → (S 2).toInt < f + n → (R_L_minute_3 s f n S).1 = (R_X8_minute_2 s f n S).1 ∧ g_L (R_L_minute_3 s f n S).2 (R_X8_minute_2 s f n S).2
  | 0, n, S, _, h, h' => absurd h' (by omega)
  | f + 1, n, S, J, h, h' => by
    have h6 := J.1.2.2.1.2
    have hm6 := J.1.2.2.2.2.2.2.1
    have hq : (nI n).toInt = (n : Int) := nI_toInt (by omega)
    unfold R_L_minute_3 R_X8_minute_2
    by_cases a : S 2 ≤ nI n
    · rw [if_pos a, if_pos a]
      unfold R_L_minute_567 R_L_minute_568
      have h9 := J.1.2.2.2.2.2.2.2.1
      have e10 := j_sub1 (x := S 10) (by omega)
      have go : R_X8_in S (S 3) (S 9) (S 10 - 1) = 0 → (R_L_minute_576 s 0 11 0 0 0 S).1 = (R_X8_minute_65 s S 11 0 0 0 S).1 ∧ g_L (R_L_minute_576 s 0 11 0 0 0 S).2 (R_X8_minute_65 s S 11 0 0 0 S).2 := fun hin =>
        Lm_go J hin 11 0 0 0 S S (by omega) (by omega) (by omega) rfl (fun _ _ => rfl) (fun i j hi => absurd hi (by omega)) (fun i j _ _ _ => ⟨rfl, rfl⟩)
      by_cases b : S 3 < S 9
      · rw [if_pos b]
        exact go (by unfold R_X8_in; rw [if_pos b])
      · by_cases c : S 10 ≤ S 3
        · rw [if_neg b, if_pos c]
          have c' := j_le c
          exact go (by unfold R_X8_in; rw [if_neg b, if_pos (Int32.lt_iff_toInt_lt.mpr (by omega))])
        · have c' := j_nle c
          rw [if_neg b, if_neg c, Lm_still (fun i hi => J.2.2.2.2 i hi) hm6.1 hm6.2 11 0 (by omega) (by omega)]
          have hin : ¬ R_X8_in S (S 3) (S 9) (S 10 - 1) = 0 := by
            unfold R_X8_in
            rw [if_neg b, if_neg (fun z => by have := j_lt z; omega)]
            decide
          have e : R_X8_minute_65 s S 11 0 0 0 S = R_X8_minute_180 0 S (S 6) := by
            unfold R_X8_minute_65 R_X8_minute_164
            rw [if_neg hin, if_neg hin, ite_self]
          rw [e]
          exact ⟨rfl, fun _ _ => rfl⟩
    · have a' := j_nle a
      rw [if_neg a, if_neg a]
      have F := F_minuteOf (x := nI n) J (by omega) (by omega)
      have J2 := J_minuteOf (x := nI n) J (by omega) (by omega)
      have e : (if S (58 + 9 * n + 1) = 0 then (if S (58 + 9 * n + 2) = 0 then R_L_minute_43 (R_L_minute_3 s f) n S 1 else R_L_minute_42 (R_L_minute_3 s f) n S) else R_L_minute_42 (R_L_minute_3 s f) n S) = R_L_minute_3 s f (n + 1) (R_X8_minuteOf S (nI n)) := by
        unfold R_L_minute_42 R_X8_minuteOf R_X8_minuteOf_23 R_X8_stands
        rw [Lm_43 J (by omega), Lm_43 J (by omega), nI_clamp (by omega)]
        by_cases d : S (58 + 9 * n + 2) = 0
        · simp only [if_pos d, i10]
          by_cases g : S (58 + 9 * n + 1) = 0
          · simp only [if_pos g]
          · simp only [if_neg g]
        · simp only [if_neg d, i00, ite_self, if_true]
      rw [e]
      have f2 : R_X8_minuteOf S (nI n) 2 = S 2 := F 2 (by omega) (by omega) (by omega) (by omega)
      exact Lm_loop f (n + 1) _ J2 (by rw [f2]; omega) (by rw [f2]; omega)
theorem Lm (J : g_J s) : (R_L_minute s).1 = (R_X8_minute s).1 ∧ g_L (R_L_minute s).2 (R_X8_minute s).2 := by
  have h6 := J.1.2.2.1
  exact Lm_loop 7 0 s J (by omega) (by omega)
/-- the invariant looks at what is alive alone -/
theorem J_live (J : g_J s) (L : g_L t s) : g_J t := by
  have lo : ∀ n, n < 34 → t n = s n := fun n hn => L n (Or.inl hn)
  have h2 := J.1.2.2.1
  have h6 := J.1.2.2.2.2.2.2.1
  have hp : ∀ h j : Nat, (h : Int) < (s 2).toInt → j < 9 → t (58 + 9 * h + j) = s (58 + 9 * h + j) := fun h j hh hj => L _ (Or.inr (Or.inr (Or.inl ⟨by omega, by omega, by omega⟩)))
  have hm : ∀ i : Nat, (i : Int) < (s 6).toInt → t (114 + 3 * i) = s (114 + 3 * i) := fun i hi => L _ (Or.inr (Or.inr (Or.inr (Or.inl ⟨by omega, by omega, by omega⟩))))
  obtain ⟨a, b, c, d, e⟩ := J
  refine ⟨?_, fun p hp' => ?_, fun k hk => ?_, fun k k' hk hk' x y z => ?_, fun i hi => ?_⟩
  · simpa only [lo 0 (by omega), lo 1 (by omega), lo 2 (by omega), lo 3 (by omega), lo 4 (by omega), lo 5 (by omega), lo 6 (by omega), lo 9 (by omega), lo 10 (by omega), lo 12 (by omega)] using a
  · rw [lo (13 + p) (by omega), lo (20 + p) (by omega), lo (27 + p) (by omega), lo 1 (by omega)]
    exact b p hp'
  · rw [lo 2 (by omega)] at hk
    have := c k hk
    unfold g_Hp at this ⊢
    rw [lo 0 (by omega), lo 1 (by omega), hp k 1 hk (by omega), hp k 2 hk (by omega), hp k 3 hk (by omega), hp k 4 hk (by omega), hp k 5 hk (by omega), hp k 7 hk (by omega), hp k 8 hk (by omega)]
    exact this
  · rw [lo 2 (by omega)] at hk hk'
    rw [hp k 2 hk (by omega)] at x
    rw [hp k' 2 hk' (by omega)] at y
    rw [hp k 1 hk (by omega), hp k' 1 hk' (by omega)] at z
    exact d k k' hk hk' x y z
  · rw [lo 6 (by omega)] at hi
    rw [hm i hi]
    exact e i hi
theorem N_live (J : g_J s) (N : g_N s) (L : g_L t s) : g_N t := by
  have h2 := J.1.2.2.1
  have hp : ∀ h j : Nat, (h : Int) < (s 2).toInt → j < 9 → t (58 + 9 * h + j) = s (58 + 9 * h + j) := fun h j hh hj => L _ (Or.inr (Or.inr (Or.inl ⟨by omega, by omega, by omega⟩)))
  intro h hh hd
  rw [L 2 (Or.inl (by omega))] at hh
  rw [hp h 2 hh (by omega)] at hd
  rw [hp h 8 hh (by omega)]
  exact N h hh hd
theorem LJ_minute (J : g_J s) (h : (s 3).toInt < 100000) : g_J (R_L_minute s).2 ∧ ((R_L_minute s).2 3).toInt = (s 3).toInt + 1 := by
  obtain ⟨-, L⟩ := Lm J
  exact ⟨J_live (J_minute J h) L, by rw [L 3 (Or.inl (by omega))]; exact t_minute J h⟩
end VB
