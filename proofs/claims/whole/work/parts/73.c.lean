/-! ===== the text: an order ===== -/
/-- what is read behind the letter: a fault at q, or all well up to p -/
def g_Re (m s : Nat → Int32) (L a : Nat) (b : Int32) (r : Int32 × (Nat → Int32)) (A : (Nat → Int32) → Prop) : Prop :=
  (r.1 = 0 ∧ ∃ q, q ≤ L ∧ r.2 1304 = nI q ∧ b = -1 - nI q) ∨ (r.1 = 1 ∧ ∃ p, a ≤ p ∧ p ≤ L ∧ r.2 1304 = nI p ∧ g_Ro s r.2 ∧ b = R_X6_behindEnd m (nI p) ∧ r.2 1305 = s 1305 ∧ A r.2)
section SC
variable {m s t u : Nat → Int32} {L : Nat}
theorem wrong_at {q : Nat} : R_X6_wrongAt m (nI q) = -1 - nI q := rfl
theorem rst_p (T : g_Tl m s L) {a : Nat} (ha : a ≤ 100) (hL : a ≤ L) (hs : s 1304 = nI a) : g_Re m s L a (R_X6_behindNumber m (nI a)) (R_X8_readsMinutes s) (fun w => w 1306 = R_X6_numberAt m (nI a)) := by
  have r0 : g_Ro s (upd s 1306 0) := g_Ro.refl.upd (by omega)
  have T1 := T.ro r0
  have h0 : (upd s 1306 0) 1304 = nI a := by rw [g_upd_ne (by omega)]; exact hs
  have start : ∃ t2, R_X8_digit (upd s 1306 0) 9 = (R_X6_digitAt m (nI (a + 0)), t2) ∧ g_Ro s t2 ∧ t2 1304 = (if R_X6_digitAt m (nI (a + 0)) = -1 then nI (a + 0) else nI (a + 0 + 1)) ∧ t2 1306 = 0 ∧ ∀ k, k ≠ 1304 → k ≠ 1306 → t2 k = s k := by
    rcases dig_9 T1 (p := a + 0) (by omega) with z | ⟨y1, y2, y3⟩
    · refine ⟨_, by rw [digit_no T1 (p := a + 0) (by omega) h0 (by decide) (Or.inl z), z], r0.upd (by omega), ?_, ?_, fun k h h' => ?_⟩
      · rw [g_upd_eq, if_pos z]
      · rw [g_upd_ne (by omega), g_upd_eq]
      · rw [g_upd_ne h, g_upd_ne h']
    · have nz : ¬ R_X6_digitAt m (nI (a + 0)) = -1 := fun z => by rw [z] at y1; exact absurd y1 (by decide)
      refine ⟨_, digit_ok T1 (p := a + 0) (by omega) h0 y1 (show _ ≤ (9 : Int32).toInt from y2), r0.upd (by omega), ?_, ?_, fun k h h' => ?_⟩
      · rw [g_upd_eq, if_neg nz]
      · rw [g_upd_ne (by omega), g_upd_eq]
      · rw [g_upd_ne h, g_upd_ne h']
  obtain ⟨t2, s1, s2, s3, s4, s5⟩ := start
  obtain ⟨k, num, k1, k2, k3, k4, k5, k6, k7⟩ := num_loop T (a := a) (by omega) hs 4 7 0 0 t2 (by omega) (by omega) (by omega) s2 (by decide) s3 s4
  have kL : a + k ≤ L := by
    by_cases e : k = 0
    · omega
    · have := k4 (k - 1) (by omega) (by omega); omega
  have kn : R_X6_digitsOfNumber m (nI a) = nI k := k3
  have nn : R_X6_numberAt m (nI a) = num := by
    unfold R_X6_numberAt R_X6_numberOf
    rw [kn]
    exact k6 4 (by omega) kn
  have hq : (nI k).toInt = (k : Int) := nI_toInt (by omega)
  have c600 : (600 : Int32).toInt = 600 := rfl
  have em : R_X8_readsMinutes s = R_X8_readsMinutes_17 s 7 (R_X6_digitAt m (nI (a + 0))) t2 := by
    unfold R_X8_readsMinutes
    rw [s1]
  rw [em]
  unfold R_X6_behindNumber R_X6_behindNumber_21 R_X6_behindNumber_47
  rw [num_of, kn, nn, nI_n (by omega) (by omega), wrong_at, wrong_at]
  by_cases d : R_X6_digitAt m (nI (a + k)) = -1
  · rw [if_pos d] at k7
    obtain ⟨w, w1, w2, w3, w4⟩ := k7
    rw [w4]
    by_cases e : k = 0
    · subst e
      rw [if_pos rfl, if_pos (show nI 0 = 0 from rfl)]
      exact Or.inl ⟨rfl, a, hL, by dsimp only; exact g_upd_eq, rfl⟩
    · rw [if_neg e, if_neg (fun z => e (by have := (nI_ne (q := 0) (by omega) (by omega)).mp z; omega)), if_pos d]
      by_cases f : 1 ≤ num.toInt ∧ num.toInt ≤ 600
      · rw [if_pos f, if_neg (fun z => by have := j_lt z; rw [j_1] at this; omega), if_pos (Int32.le_iff_toInt_le.mpr (by omega))]
        refine Or.inr ⟨rfl, a + k, by omega, kL, by dsimp only; exact g_upd_eq, w2.upd (by omega), rfl, ?_, ?_⟩
        · dsimp only
          rw [g_upd_ne (by omega), w3 _ (by omega) (by omega), s5 _ (by omega) (by omega)]
        · dsimp only
          rw [g_upd_ne (by omega), w1]
      · rw [if_neg f]
        have eb : (if num < 1 then -1 - nI a else if num ≤ 600 then R_X6_behindEnd m (nI (a + k)) else -1 - nI a) = -1 - nI a := by
          by_cases g : num < 1
          · rw [if_pos g]
          · have g' := j_nlt g
            rw [j_1] at g'
            rw [if_neg g, if_neg (fun z => by have := j_le z; omega)]
        rw [eb]
        exact Or.inl ⟨rfl, a, hL, by dsimp only; exact g_upd_eq, rfl⟩
  · rw [if_neg d] at k7
    obtain ⟨e, k8, k9⟩ := k7
    rw [if_neg d, if_neg (fun z => by have := (nI_ne (q := 0) (by omega) (by omega)).mp z; omega)]
    subst e
    exact Or.inl ⟨k8, a + 3, kL, k9, rfl⟩
theorem rst_c (T : g_Tl m s L) {a : Nat} (ha : a ≤ 100) (hL : a ≤ L) (hs : s 1304 = nI a) : g_Re m s L a (R_X6_behindSet m (nI a)) (R_X8_readsTeam s) (fun w => w 1306 = R_X6_setAt m (nI a)) := by
  have r0 : g_Ro s (upd s 1306 0) := g_Ro.refl.upd (by omega)
  have T1 := T.ro r0
  have n1 : (-1 : Int32).toInt = -1 := rfl
  have h0 : (upd s 1306 0) 1304 = nI a := by rw [g_upd_ne (by omega)]; exact hs
  have start : ∃ t2, R_X8_digit (upd s 1306 0) 5 = ((if 0 ≤ (R_X6_digitAt m (nI (a + 0))).toInt ∧ (R_X6_digitAt m (nI (a + 0))).toInt ≤ 5 then R_X6_digitAt m (nI (a + 0)) else -1), t2) ∧ g_Ro s t2 ∧ t2 1304 = (if (if 0 ≤ (R_X6_digitAt m (nI (a + 0))).toInt ∧ (R_X6_digitAt m (nI (a + 0))).toInt ≤ 5 then R_X6_digitAt m (nI (a + 0)) else -1) = -1 then nI (a + 0) else nI (a + 0 + 1)) ∧ t2 1306 = nI 0 ∧ ∀ k, k ≠ 1304 → k ≠ 1306 → t2 k = s k := by
    by_cases g : 0 ≤ (R_X6_digitAt m (nI (a + 0))).toInt ∧ (R_X6_digitAt m (nI (a + 0))).toInt ≤ 5
    · have nz' : ¬ R_X6_digitAt m (nI (a + 0)) = -1 := fun z => by rw [z, n1] at g; omega
      rw [if_pos g, if_neg nz']
      refine ⟨_, digit_ok T1 (p := a + 0) (by omega) h0 g.1 (show _ ≤ (5 : Int32).toInt from g.2), r0.upd (by omega), g_upd_eq, ?_, fun k h h' => ?_⟩
      · rw [g_upd_ne (by omega), g_upd_eq]; rfl
      · rw [g_upd_ne h, g_upd_ne h']
    · rw [if_neg g, if_pos rfl]
      refine ⟨_, digit_no T1 (p := a + 0) (by omega) h0 (by decide) ?_, r0.upd (by omega), g_upd_eq, ?_, fun k h h' => ?_⟩
      · rcases dig_9 T1 (p := a + 0) (by omega) with z | z
        · exact Or.inl z
        · exact Or.inr (show (5 : Int32).toInt < _ by rw [show (5 : Int32).toInt = 5 from rfl]; omega)
      · rw [g_upd_ne (by omega), g_upd_eq]; rfl
      · rw [g_upd_ne h, g_upd_ne h']
  obtain ⟨t2, s1, s2, s3, s4, s5⟩ := start
  obtain ⟨k, x', k1, k2, k3, k4, k5, z, w', z1, z2, z3, z4, z5, z6⟩ := set_loop T (a := a) (by omega) 7 8 0 0 0 (-1) t2 (by omega) (by omega) (by omega) (by omega) s2 (by decide) (by decide) (by decide) (by decide +kernel) s4 _ rfl s3
  have kL : a + k ≤ L := by
    by_cases e : k = 0
    · omega
    · have := k4 (k - 1) (by omega) (by omega); omega
  have kn : R_X6_digitsOfSet m (nI a) = nI k := k3
  have nn : R_X6_setAt m (nI a) = nI x' := k5 7 (by omega) kn
  have hq : (nI k).toInt = (k : Int) := nI_toInt (by omega)
  have c3 : (3 : Int32).toInt = 3 := rfl
  have em : R_X8_readsTeam s = R_X8_readsTeam_13 s 8 (-1) (if 0 ≤ (R_X6_digitAt m (nI (a + 0))).toInt ∧ (R_X6_digitAt m (nI (a + 0))).toInt ≤ 5 then R_X6_digitAt m (nI (a + 0)) else -1) t2 := by
    unfold R_X8_readsTeam
    rw [s1]
  rw [em, z6]
  unfold R_X6_behindSet
  rw [kn, nI_n (by omega) (by omega), wrong_at]
  by_cases e : 3 ≤ k
  · rw [if_pos (Int32.le_iff_toInt_le.mpr (by omega))]
    by_cases d : 0 ≤ (R_X6_digitAt m (nI (a + k))).toInt ∧ (R_X6_digitAt m (nI (a + k))).toInt ≤ 5
    · rw [if_pos d]
      refine Or.inl ⟨rfl, a + k, kL, z1, ?_⟩
      rw [end_at T (by omega), if_neg (fun y => ?_)]
      rcases dig_cases T (p := a + k) (by omega) with v | v
      · rw [v.1, n1] at d; omega
      · have y2 := v.2.2.2.2
        rw [y.2, show (59 : Int32).toInt = 59 from rfl] at y2
        omega
    · rw [if_neg d, if_neg (by omega)]
      refine Or.inr ⟨rfl, a + k, by omega, kL, z1, z3, rfl, ?_, ?_⟩
      · dsimp only
        rw [z4 _ (by omega) (by omega), s5 _ (by omega) (by omega)]
      · dsimp only
        rw [z2, nn]
  · rw [if_neg (fun y => by have := j_le y; omega), if_pos (show k ≤ 2 by omega), ite_self]
    exact Or.inl ⟨rfl, a + k, kL, z1, rfl⟩
theorem upto (T : g_Tl m s L) {p : Nat} (hp : p ≤ 1000) {x : Int32} (hx : 0 ≤ x.toInt ∧ x.toInt ≤ 9) : R_X6_isUpTo m x (nI p) = if 0 ≤ (R_X6_digitAt m (nI p)).toInt ∧ (R_X6_digitAt m (nI p)).toInt ≤ x.toInt then 1 else 0 := by
  unfold R_X6_isUpTo
  rcases dig_9 T hp with z | ⟨z1, z2, z3⟩
  · rw [if_pos z, z, if_neg (fun y => absurd y.1 (by decide))]
  · have nz : ¬ R_X6_digitAt m (nI p) = -1 := fun z => by rw [z] at z1; exact absurd z1 (by decide)
    rw [if_neg nz]
    by_cases a : x < R_X6_digitAt m (nI p)
    · have := j_lt a
      rw [if_pos a, if_neg (by omega)]
    · have := j_nlt a
      rw [if_neg a, if_pos (by omega)]
theorem dig_5 (T : g_Tl m s L) {p : Nat} (hp : p ≤ 1000) (h : s 1304 = nI p) {x : Int32} (hx : 0 ≤ x.toInt ∧ x.toInt ≤ 9) :
    (0 ≤ (R_X6_digitAt m (nI p)).toInt ∧ (R_X6_digitAt m (nI p)).toInt ≤ x.toInt ∧ p < L ∧ ¬ R_X6_digitAt m (nI p) = -1 ∧ R_X8_digit s x = (R_X6_digitAt m (nI p), upd s 1304 (nI (p + 1)))) ∨ (¬ (0 ≤ (R_X6_digitAt m (nI p)).toInt ∧ (R_X6_digitAt m (nI p)).toInt ≤ x.toInt) ∧ R_X8_digit s x = (-1, upd s 1304 (nI p))) := by
  rcases dig_9 T hp with z | ⟨z1, z2, z3⟩
  · exact Or.inr ⟨fun y => by rw [z] at y; exact absurd y.1 (by decide), digit_no T hp h hx (Or.inl z)⟩
  · have nz : ¬ R_X6_digitAt m (nI p) = -1 := fun z => by rw [z] at z1; exact absurd z1 (by decide)
    by_cases a : (R_X6_digitAt m (nI p)).toInt ≤ x.toInt
    · exact Or.inl ⟨z1, a, z3, nz, digit_ok T hp h z1 a⟩
    · exact Or.inr ⟨fun y => a y.2, digit_no T hp h hx (Or.inr (by omega))⟩
theorem rst_1 (T : g_Tl m s L) {a : Nat} (ha : a ≤ 100) (hL : a ≤ L) (hs : s 1304 = nI a) (hl : s 1305 = 114 ∨ s 1305 = 109) : g_Re m s L a (if R_X6_isUpTo m 5 (nI a) = 0 then R_X6_wrongAt m (nI a) else R_X6_behindEnd m (nI (a + 1))) (R_X8_readsRest_76 s) (fun w => w 1306 = R_X6_digitAt m (nI a)) := by
  rw [upto T (by omega) (by decide), wrong_at]
  unfold R_X8_readsRest_76 R_X8_readsRest_111
  have r1 : g_Ro s (R_X8_digit s 5).2 := Ro_digit g_Ro.refl
  rcases dig_5 T (p := a) (by omega) hs (x := 5) (by decide) with ⟨d1, d2, d3, d4, d5⟩ | ⟨d1, d2⟩
  · have d5' := d5
    rw [d5] at r1
    rw [d5, if_pos (show 0 ≤ (R_X6_digitAt m (nI a)).toInt ∧ (R_X6_digitAt m (nI a)).toInt ≤ (5 : Int32).toInt from ⟨d1, d2⟩), if_neg (show ¬ (1 : Int32) = 0 by decide)]
    dsimp only
    rw [g_upd_eq, if_neg d4, g_upd_ne (show 1305 ≠ 1306 by omega), g_upd_ne (show 1305 ≠ 1304 by omega), if_neg d4]
    have e : (if s 1305 = 114 then ((1 : Int32), upd (upd s 1304 (nI (a + 1))) 1306 (R_X6_digitAt m (nI a))) else if s 1305 = 109 then (1, upd (upd s 1304 (nI (a + 1))) 1306 (R_X6_digitAt m (nI a))) else if upd (R_X8_digit (upd (upd s 1304 (nI (a + 1))) 1306 (R_X6_digitAt m (nI a))) 7).2 1307 (R_X8_digit (upd (upd s 1304 (nI (a + 1))) 1306 (R_X6_digitAt m (nI a))) 7).1 1307 = -1 then (0, upd (R_X8_digit (upd (upd s 1304 (nI (a + 1))) 1306 (R_X6_digitAt m (nI a))) 7).2 1307 (R_X8_digit (upd (upd s 1304 (nI (a + 1))) 1306 (R_X6_digitAt m (nI a))) 7).1) else (1, upd (R_X8_digit (upd (upd s 1304 (nI (a + 1))) 1306 (R_X6_digitAt m (nI a))) 7).2 1307 (R_X8_digit (upd (upd s 1304 (nI (a + 1))) 1306 (R_X6_digitAt m (nI a))) 7).1)) = (1, upd (upd s 1304 (nI (a + 1))) 1306 (R_X6_digitAt m (nI a))) := by
      by_cases g : s 1305 = 114
      · rw [if_pos g]
      · rw [if_neg g, if_pos (hl.resolve_left g)]
    rw [e]
    refine Or.inr ⟨rfl, a + 1, by omega, by omega, ?_, r1.upd (by omega), rfl, ?_, by dsimp only; exact g_upd_eq⟩
    · dsimp only
      rw [g_upd_ne (by omega), g_upd_eq]
    · dsimp only
      rw [g_upd_ne (by omega), g_upd_ne (by omega)]
  · rw [d2, if_neg d1, if_pos (show (0 : Int32) = 0 from rfl)]
    dsimp only
    rw [g_upd_eq, if_pos (show (-1 : Int32) = -1 from rfl), if_pos (show (-1 : Int32) = -1 from rfl)]
    refine Or.inl ⟨rfl, a, hL, ?_, rfl⟩
    dsimp only
    rw [g_upd_ne (by omega), g_upd_eq]
theorem rst_2 (T : g_Tl m s L) {a : Nat} (ha : a ≤ 100) (hL : a ≤ L) (hs : s 1304 = nI a) (h1 : ¬ s 1305 = 114) (h2 : ¬ s 1305 = 109) : g_Re m s L a (R_X6_behindTwoDigits m (nI a)) (R_X8_readsRest_76 s) (fun w => w 1306 = R_X6_digitAt m (nI a) ∧ w 1307 = R_X6_digitAt m (nI (a + 1))) := by
  unfold R_X6_behindTwoDigits
  rw [nI_p1 (by omega), nI_p2 (by omega), upto T (by omega) (by decide), upto T (by omega) (by decide), wrong_at, wrong_at]
  unfold R_X8_readsRest_76 R_X8_readsRest_111
  have r1 : g_Ro s (R_X8_digit s 5).2 := Ro_digit g_Ro.refl
  rcases dig_5 T (p := a) (by omega) hs (x := 5) (by decide) with ⟨d1, d2, d3, d4, d5⟩ | ⟨d1, d2⟩
  · rw [d5] at r1
    rw [d5, if_pos (show 0 ≤ (R_X6_digitAt m (nI a)).toInt ∧ (R_X6_digitAt m (nI a)).toInt ≤ (5 : Int32).toInt from ⟨d1, d2⟩), if_neg (show ¬ (1 : Int32) = 0 by decide)]
    dsimp only
    rw [g_upd_eq, if_neg d4, g_upd_ne (show 1305 ≠ 1306 by omega), g_upd_ne (show 1305 ≠ 1304 by omega), if_neg h1, if_neg h2]
    have r2 : g_Ro s (upd (upd s 1304 (nI (a + 1))) 1306 (R_X6_digitAt m (nI a))) := r1.upd (by omega)
    have p2 : (upd (upd s 1304 (nI (a + 1))) 1306 (R_X6_digitAt m (nI a))) 1304 = nI (a + 1) := by rw [g_upd_ne (by omega), g_upd_eq]
    rcases dig_5 (T.ro r2) (p := a + 1) (by omega) p2 (x := 7) (by decide) with ⟨f1, f2, f3, f4, f5⟩ | ⟨f1, f2⟩
    · rw [f5, if_pos (show 0 ≤ (R_X6_digitAt m (nI (a + 1))).toInt ∧ (R_X6_digitAt m (nI (a + 1))).toInt ≤ (7 : Int32).toInt from ⟨f1, f2⟩), if_neg (show ¬ (1 : Int32) = 0 by decide)]
      dsimp only
      rw [g_upd_eq, if_neg f4]
      refine Or.inr ⟨rfl, a + 2, by omega, by omega, ?_, (r2.upd (by omega)).upd (by omega), rfl, ?_, ?_, by dsimp only; exact g_upd_eq⟩
      · dsimp only
        rw [g_upd_ne (by omega), g_upd_eq]
      · dsimp only
        simp (disch := omega) only [g_upd_ne]
      · dsimp only
        rw [g_upd_ne (by omega), g_upd_ne (by omega), g_upd_eq]
    · rw [f2, if_neg f1, if_pos (show (0 : Int32) = 0 from rfl)]
      dsimp only
      rw [g_upd_eq, if_pos (show (-1 : Int32) = -1 from rfl)]
      refine Or.inl ⟨rfl, a + 1, by omega, ?_, rfl⟩
      dsimp only
      rw [g_upd_ne (by omega), g_upd_eq]
  · rw [d2, if_neg d1, if_pos (show (0 : Int32) = 0 from rfl)]
    dsimp only
    rw [g_upd_eq, if_pos (show (-1 : Int32) = -1 from rfl), if_pos (show (-1 : Int32) = -1 from rfl)]
    refine Or.inl ⟨rfl, a, hL, ?_, rfl⟩
    dsimp only
    rw [g_upd_ne (by omega), g_upd_eq]
end SC
