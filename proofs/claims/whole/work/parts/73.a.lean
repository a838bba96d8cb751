/-! ===== the text: reading on both sides ===== -/
def g_Tl (m s : Nat → Int32) (L : Nat) : Prop := L ≤ 90 ∧ m 980 = nI L ∧ s 1301 = nI L ∧ ∀ k, k < L → m (890 + k) = s (1200 + k) ∧ 0 ≤ (s (1200 + k)).toInt ∧ (s (1200 + k)).toInt ≤ 127
def g_tail (u : Nat → Int32) : Int32 × (Nat → Int32) := if u 1304 = u 1301 then (0, u) else if u (1200 + (u 1304).toNatClampNeg) = 59 then (1, upd u 1304 (u 1304 + 1)) else (0, u)
def g_Ou (L i : Nat) (b : Int32) (r : Int32 × (Nat → Int32)) : Prop := (∃ q, q ≤ L ∧ b = -1 - nI q ∧ r.1 = 0 ∧ r.2 1304 = nI q) ∨ (∃ q, i < q ∧ q ≤ L ∧ b = nI q ∧ r.1 = 1 ∧ r.2 1304 = nI q)
section SA
variable {m s t u : Nat → Int32} {L : Nat}
theorem g_Tt.l (T : g_Tt m s) : ∃ L : Nat, g_Tl m s L := by
  obtain ⟨t1, t2, t3⟩ := T
  have e : s 1301 = nI (s 1301).toInt.toNat := as_nI (by omega) (by omega)
  exact ⟨(s 1301).toInt.toNat, by omega, t1.trans e, e, fun k hk => t3 k (by omega)⟩
theorem g_Tl.ro (T : g_Tl m s L) (r : g_Ro s t) : g_Tl m t L := by
  obtain ⟨a, b, c, d⟩ := T
  refine ⟨a, b, (r 1301 (by omega)).trans c, fun k hk => ?_⟩
  rw [r (1200 + k) (by omega)]
  exact d k hk
theorem g_Tl.mem {m' : Nat → Int32} (T : g_Tl m s L) (h : ∀ n, 890 ≤ n → n ≤ 980 → m' n = m n) : g_Tl m' s L := by
  obtain ⟨a, b, c, d⟩ := T
  refine ⟨a, (h 980 (by omega) (by omega)).trans b, c, fun k hk => ?_⟩
  rw [h (890 + k) (by omega) (by omega)]
  exact d k hk
theorem nI_p1 {p : Nat} (h : p < 10000) : nI p + 1 = nI (p + 1) := Int32.toInt_inj.mp (by
  rw [j_add (by rw [nI_toInt (by omega), j_1]; omega) (by rw [nI_toInt (by omega), j_1]; omega), nI_toInt (by omega), nI_toInt (by omega), j_1]; omega)
theorem nI_p2 {p : Nat} (h : p < 10000) : nI p + 2 = nI (p + 2) := Int32.toInt_inj.mp (by
  have e : (2 : Int32).toInt = 2 := rfl
  rw [j_add (by rw [nI_toInt (by omega), e]; omega) (by rw [nI_toInt (by omega), e]; omega), nI_toInt (by omega), nI_toInt (by omega), e]; omega)
theorem nI_n {p q : Nat} (h : p < 10000) (h' : q < 10000) : nI p + nI q = nI (p + q) := Int32.toInt_inj.mp (by
  rw [j_add (by rw [nI_toInt (by omega), nI_toInt (by omega)]; omega) (by rw [nI_toInt (by omega), nI_toInt (by omega)]; omega), nI_toInt (by omega), nI_toInt (by omega), nI_toInt (by omega)]; omega)
theorem nI_ne {p q : Nat} (h : p < 10000) (h' : q < 10000) : nI p = nI q ↔ p = q := ⟨fun z => by
  have := congrArg Int32.toInt z
  rw [nI_toInt (by omega), nI_toInt (by omega)] at this
  omega, fun z => by rw [z]⟩
theorem byte_at (T : g_Tl m s L) {p : Nat} (hp : p ≤ 1000) : R_X6_byteAt m (nI p) = if p < L then s (1200 + p) else -1 := by
  obtain ⟨a, b, c, d⟩ := T
  have hi : (nI p).toInt = (p : Int) := nI_toInt (by omega)
  have hl : (nI L).toInt = (L : Int) := nI_toInt (by omega)
  unfold R_X6_byteAt
  rw [if_neg (fun z => by have := j_ltR z j_0; omega), b, nI_clamp (by omega)]
  by_cases e : p < L
  · rw [if_pos e, if_neg (fun z => by have := j_le z; omega)]
    exact (d p e).1
  · rw [if_neg e, if_pos (Int32.le_iff_toInt_le.mpr (by omega))]
theorem dig_cases (T : g_Tl m s L) {p : Nat} (hp : p ≤ 1000) : (R_X6_digitAt m (nI p) = -1 ∧ (p < L → (s (1200 + p)).toInt < 48 ∨ 57 < (s (1200 + p)).toInt)) ∨ (p < L ∧ R_X6_digitAt m (nI p) = s (1200 + p) - 48 ∧ 0 ≤ (R_X6_digitAt m (nI p)).toInt ∧ (R_X6_digitAt m (nI p)).toInt ≤ 9 ∧ (s (1200 + p)).toInt = (R_X6_digitAt m (nI p)).toInt + 48) := by
  have B := byte_at T hp
  have c48 : (48 : Int32).toInt = 48 := rfl
  have c57 : (57 : Int32).toInt = 57 := rfl
  unfold R_X6_digitAt
  rw [B]
  by_cases e : p < L
  · have v := T.2.2.2 p e
    rw [if_pos e]
    by_cases a : s (1200 + p) < 48
    · rw [if_pos a]
      have := j_lt a
      exact Or.inl ⟨rfl, fun _ => Or.inl (by omega)⟩
    · rw [if_neg a]
      have a' := j_nlt a
      by_cases b : 57 < s (1200 + p)
      · rw [if_pos b]
        have := j_lt b
        exact Or.inl ⟨rfl, fun _ => Or.inr (by omega)⟩
      · rw [if_neg b]
        have b' := j_nlt b
        have es : (s (1200 + p) - 48).toInt = (s (1200 + p)).toInt - 48 := j_subE rfl rfl (by omega) (by omega)
        exact Or.inr ⟨e, rfl, by omega, by omega, by omega⟩
  · rw [if_neg e, if_pos (by decide)]
    exact Or.inl ⟨rfl, fun z => absurd z e⟩
theorem dig_9 (T : g_Tl m s L) {p : Nat} (hp : p ≤ 1000) : R_X6_digitAt m (nI p) = -1 ∨ (0 ≤ (R_X6_digitAt m (nI p)).toInt ∧ (R_X6_digitAt m (nI p)).toInt ≤ 9 ∧ p < L) := by
  rcases dig_cases T hp with h | h
  · exact Or.inl h.1
  · exact Or.inr ⟨h.2.2.1, h.2.2.2.1, h.1⟩
theorem in_1 {x a b : Int32} (h : a.toInt ≤ x.toInt) (h' : x.toInt ≤ b.toInt) : ¬ R_X8_in s x a b = 0 := by
  unfold R_X8_in
  rw [if_neg (fun z => by have := j_lt z; omega), if_neg (fun z => by have := j_lt z; omega)]
  decide
theorem in_0 {x a b : Int32} (h : x.toInt < a.toInt ∨ b.toInt < x.toInt) : R_X8_in s x a b = 0 := by
  unfold R_X8_in
  by_cases c : x < a
  · rw [if_pos c]
  · rw [if_neg c, if_pos (Int32.lt_iff_toInt_lt.mpr (by have := j_nlt c; omega))]
theorem digit_ok (T : g_Tl m t L) {p : Nat} (hp : p ≤ 1000) (h : t 1304 = nI p) {x : Int32} (d0 : 0 ≤ (R_X6_digitAt m (nI p)).toInt) (d1 : (R_X6_digitAt m (nI p)).toInt ≤ x.toInt) : R_X8_digit t x = (R_X6_digitAt m (nI p), upd t 1304 (nI (p + 1))) := by
  rcases dig_cases T hp with z | ⟨z1, z2, z3, z4, z5⟩
  · rw [z.1] at d0; exact absurd d0 (by decide)
  · have hi : (nI p).toInt = (p : Int) := nI_toInt (by omega)
    have hl : (nI L).toInt = (L : Int) := nI_toInt (by have := T.1; omega)
    have I : ¬ R_X8_in t (R_X6_digitAt m (nI p)) 0 x = 0 := in_1 (by rw [j_0]; omega) d1
    unfold R_X8_digit R_X8_digit_27 R_X8_digit_49
    rw [T.2.2.1, h, if_neg (fun z => by have := j_le z; omega), nI_clamp (by omega), ← z2, if_neg I, if_neg I, nI_p1 (by omega)]
theorem digit_no (T : g_Tl m t L) {p : Nat} (hp : p ≤ 1000) (h : t 1304 = nI p) {x : Int32} (h9 : 0 ≤ x.toInt ∧ x.toInt ≤ 9) (d : R_X6_digitAt m (nI p) = -1 ∨ x.toInt < (R_X6_digitAt m (nI p)).toInt) : R_X8_digit t x = (-1, upd t 1304 (nI p)) := by
  have hi : (nI p).toInt = (p : Int) := nI_toInt (by omega)
  have hl : (nI L).toInt = (L : Int) := nI_toInt (by have := T.1; omega)
  have k : ∀ v, R_X8_in t v 0 x = 0 → R_X8_digit_27 t x v = (-1, upd t 1304 (nI p)) := fun v hv => by
    unfold R_X8_digit_27 R_X8_digit_49
    rw [if_pos hv, if_pos hv, h, Int32.add_zero]
  unfold R_X8_digit
  by_cases e : p < L
  · rw [T.2.2.1, h, if_neg (fun z => by have := j_le z; omega), nI_clamp (by omega)]
    refine k _ (in_0 ?_)
    have v := T.2.2.2 p e
    have es : (t (1200 + p) - 48).toInt = (t (1200 + p)).toInt - 48 := j_subE rfl rfl (by omega) (by omega)
    rw [es, j_0]
    rcases dig_cases T hp with z | ⟨z1, z2, z3, z4, z5⟩
    · have := z.2 e; omega
    · rcases d with d | d
      · rw [d] at z3; exact absurd z3 (by decide)
      · omega
  · rw [T.2.2.1, h, if_pos (Int32.le_iff_toInt_le.mpr (by omega))]
    exact k _ (in_0 (Or.inl (by decide)))
theorem end_at (T : g_Tl m s L) {p : Nat} (hp : p ≤ 900) : R_X6_behindEnd m (nI p) = if p < L ∧ s (1200 + p) = 59 then nI (p + 1) else -1 - nI p := by
  unfold R_X6_behindEnd R_X6_wrongAt
  rw [byte_at T (by omega), nI_p1 (by omega)]
  by_cases e : p < L
  · rw [if_pos e]
    by_cases d : s (1200 + p) = 59
    · rw [if_pos d, if_pos ⟨e, d⟩]
    · rw [if_neg d, if_neg (fun z => d z.2)]
  · rw [if_neg e, if_neg (by decide), if_neg (fun z => e z.1)]
theorem tail_out (T : g_Tl m u L) {p i : Nat} (h : u 1304 = nI p) (hp : p ≤ L) (hi : i ≤ p) : g_Ou L i (R_X6_behindEnd m (nI p)) (g_tail u) ∧ ∀ n, n ≠ 1304 → (g_tail u).2 n = u n := by
  have hL := T.1
  rw [end_at T (by omega)]
  unfold g_tail
  rw [T.2.2.1, h, nI_clamp (by omega), nI_p1 (by omega)]
  by_cases e : p = L
  · rw [if_neg (show ¬ (p < L ∧ u (1200 + p) = 59) from fun z => by have := z.1; omega), if_pos (show nI p = nI L by rw [e])]
    dsimp only
    refine ⟨Or.inl ⟨p, hp, rfl, rfl, ?_⟩, fun n _ => rfl⟩
    exact h
  · rw [if_neg (show ¬ nI p = nI L from fun z => e ((nI_ne (by omega) (by omega)).mp z))]
    by_cases d : u (1200 + p) = 59
    · rw [if_pos d, if_pos ⟨by omega, d⟩]
      dsimp only
      refine ⟨Or.inr ⟨p + 1, by omega, by omega, rfl, rfl, ?_⟩, fun n hn => g_upd_ne hn⟩
      dsimp only
      exact g_upd_eq
    · rw [if_neg d, if_neg (fun z => d z.2)]
      dsimp only
      refine ⟨Or.inl ⟨p, hp, rfl, rfl, ?_⟩, fun n _ => rfl⟩
      exact h
theorem order_eq : R_X8_readsOrder s = if (R_X8_readsRest (upd (upd s 1305 (s (1200 + (s 1304).toNatClampNeg))) 1304 (s 1304 + 1))).1 = 0 then (0, (R_X8_readsRest (upd (upd s 1305 (s (1200 + (s 1304).toNatClampNeg))) 1304 (s 1304 + 1))).2) else g_tail (R_X8_readsRest (upd (upd s 1305 (s (1200 + (s 1304).toNatClampNeg))) 1304 (s 1304 + 1))).2 := by
  unfold R_X8_readsOrder g_tail
  rw [g_upd_ne (show 1304 ≠ 1305 by omega)]
/-! the minutes -/
theorem min_55 (T : g_Tl m t L) {a k : Nat} {s : Nat → Int32} {num : Int32} (ha : a ≤ 200) (hs : s 1304 = nI a) (hk : k ≤ 3) (h4 : t 1304 = nI (a + k)) (h6 : t 1306 = num) :
    R_X8_readsMinutes_55 s t = (if k = 0 then (0, upd t 1304 (nI (a + k))) else if 1 ≤ num.toInt ∧ num.toInt ≤ 600 then (1, upd t 1304 (nI (a + k))) else (0, upd t 1304 (nI a))) := by
  have e0 : nI (a + k) - nI a = nI k := Int32.toInt_inj.mp (by
    rw [j_subE (nI_toInt (by omega)) (nI_toInt (by omega)) (by omega) (by omega), nI_toInt (by omega)]; omega)
  have hq : (nI k).toInt = (k : Int) := nI_toInt (by omega)
  have ha' : (nI a).toInt = (a : Int) := nI_toInt (by omega)
  have hak : (nI (a + k)).toInt = ((a + k : Nat) : Int) := nI_toInt (by omega)
  have c3 : (3 : Int32).toInt = 3 := rfl
  have c600 : (600 : Int32).toInt = 600 := rfl
  unfold R_X8_readsMinutes_55 R_X8_readsMinutes_96 R_X8_readsMinutes_101 R_X8_readsMinutes_115
  rw [h4, hs, e0, if_pos (Int32.le_iff_toInt_le.mpr (by omega)), i10, i10, i00, i00]
  by_cases e : k = 0
  · subst e
    rw [if_pos rfl, if_pos (show nI (a + 0) = nI a from rfl), g_upd_eq, if_pos (Int32.le_iff_toInt_le.mpr (by omega))]
  · rw [if_neg (fun z => e (by have := (nI_ne (by omega) (by omega)).mp z; omega)), if_neg e, g_upd_eq, if_neg (show ¬ nI (a + k) ≤ nI a from fun z => by have := j_le z; omega), h6]
    by_cases d : 1 ≤ num.toInt ∧ num.toInt ≤ 600
    · rw [if_neg (in_1 (by rw [j_1]; omega) (by omega)), if_pos d]
    · rw [if_pos (in_0 (by rw [j_1]; omega)), if_neg d]
theorem num_loop (T0 : g_Tl m s L) {a : Nat} (ha : a ≤ 200) (hs : s 1304 = nI a) : ∀ (fc fm n : Nat) (num : Int32) (t : Nat → Int32), n ≤ 3 → 3 < fc + n → 4 < fm + n → g_Ro s t → (0 ≤ num.toInt ∧ num.toInt < 10 ^ n) →
    t 1304 = (if R_X6_digitAt m (nI (a + n)) = -1 then nI (a + n) else nI (a + n + 1)) → t 1306 = num →
    ∃ k num', n ≤ k ∧ k ≤ 3 ∧ R_X6_digitsOfNumber_2 m (nI a) fc n = nI k ∧ (∀ j, n ≤ j → j < k → a + j < L) ∧ 0 ≤ num'.toInt ∧
      (∀ fs, 3 < fs + n → R_X6_digitsOfNumber m (nI a) = nI k → R_X6_numberOf_5 m (nI a) (nI k) fs num n = num') ∧
      (if R_X6_digitAt m (nI (a + k)) = -1 then
        (∃ w, w 1306 = num' ∧ g_Ro s w ∧ (∀ n, n ≠ 1304 → n ≠ 1306 → w n = t n) ∧ R_X8_readsMinutes_17 s fm (R_X6_digitAt m (nI (a + n))) t = if k = 0 then (0, upd w 1304 (nI (a + k))) else if 1 ≤ num'.toInt ∧ num'.toInt ≤ 600 then (1, upd w 1304 (nI (a + k))) else (0, upd w 1304 (nI a)))
      else k = 3 ∧ (R_X8_readsMinutes_17 s fm (R_X6_digitAt m (nI (a + n))) t).1 = 0 ∧ (R_X8_readsMinutes_17 s fm (R_X6_digitAt m (nI (a + n))) t).2 1304 = nI (a + 3))
  | 0, fm, n, num, t, h1, h2, _, _, _, _, _ => absurd h2 (by omega)
  | fc + 1, 0, n, num, t, h1, h2, h3, _, _, _, _ => absurd h3 (by omega)
  | fc + 1, fm + 1, n, num, t, h1, h2, h3, r, hn, h4, h6 => by
    have T := T0.ro r
    have hq : (nI n).toInt = (n : Int) := nI_toInt (by omega)
    have c3 : (3 : Int32).toInt = 3 := rfl
    have e0 : ∀ j : Nat, j ≤ 4 → nI (a + j) - nI a = nI j := fun j hj => Int32.toInt_inj.mp (by
      rw [j_subE (nI_toInt (by omega)) (nI_toInt (by omega)) (by omega) (by omega), nI_toInt (by omega)]; omega)
    unfold R_X8_readsMinutes_17 R_X6_digitsOfNumber_2
    rw [nI_n (by omega) (by omega)]
    by_cases d : R_X6_digitAt m (nI (a + n)) = -1
    · rw [if_pos d, if_pos d]
      rw [if_pos d] at h4
      refine ⟨n, num, Nat.le_refl _, h1, ?_, fun j h h' => absurd h' (by omega), hn.1, fun fs hf hk => ?_, ?_⟩
      · by_cases e : n = 3
        · subst e; rw [if_pos (by decide)]; rfl
        · rw [if_neg (fun z => by have := j_le z; omega)]
      · obtain ⟨g, rfl⟩ : ∃ g, fs = g + 1 := ⟨fs - 1, by omega⟩
        unfold R_X6_numberOf_5
        rw [if_pos (Int32.le_iff_toInt_le.mpr (Int.le_refl _))]
      · rw [if_pos d]
        exact ⟨t, h6, r, fun _ _ _ => rfl, min_55 T ha hs h1 h4 h6⟩
    · rcases dig_9 T (p := a + n) (by omega) with z | ⟨z1, z2, z3⟩
      · exact absurd z d
      rw [if_neg d, if_neg d]
      rw [if_neg d] at h4
      by_cases e : n = 3
      · subst e
        rw [if_pos (show (3 : Int32) ≤ nI 3 by decide), h4, hs, e0 4 (by omega), if_pos (by decide)]
        refine ⟨3, num, Nat.le_refl _, Nat.le_refl _, rfl, fun j h h' => absurd h' (by omega), hn.1, fun fs hf hk => ?_, ?_⟩
        · obtain ⟨g, rfl⟩ : ∃ g, fs = g + 1 := ⟨fs - 1, by omega⟩
          unfold R_X6_numberOf_5
          rw [if_pos (Int32.le_iff_toInt_le.mpr (Int.le_refl _))]
        · rw [if_neg d]
          unfold R_X8_readsMinutes_55
          rw [h4, hs, e0 4 (by omega), if_neg (by decide)]
          refine ⟨rfl, rfl, ?_⟩
          show upd t 1304 (nI a + 3) 1304 = nI (a + 3)
          rw [g_upd_eq]
          exact nI_n (q := 3) (by omega) (by omega)
      · have ej : (nI (n + 1)).toInt = ((n + 1 : Nat) : Int) := nI_toInt (by omega)
        rw [if_neg (fun z => by have := j_le z; omega), h4, hs, show a + n + 1 = a + (n + 1) by omega, e0 (n + 1) (by omega), if_neg (fun z => by have := j_lt z; omega), h6]
        have p3 : (10 : Int) ^ n ≤ 100 := by
          have : n = 0 ∨ n = 1 ∨ n = 2 := by omega
          rcases this with rfl | rfl | rfl <;> decide
        have q1 : ((10 : Int32) * num).toInt = 10 * num.toInt := j_mulE rfl rfl (by omega) (by omega)
        have q2 : ((10 : Int32) * num + R_X6_digitAt m (nI (a + n))).toInt = 10 * num.toInt + (R_X6_digitAt m (nI (a + n))).toInt := j_addE q1 rfl (by omega) (by omega)
        have r1 : g_Ro s (upd t 1306 (10 * num + R_X6_digitAt m (nI (a + n)))) := r.upd (by omega)
        have T1 := T0.ro r1
        have p4 : (upd t 1306 (10 * num + R_X6_digitAt m (nI (a + n)))) 1304 = nI (a + (n + 1)) := by rw [g_upd_ne (by omega), h4]; rfl
        have bn : 0 ≤ ((10 : Int32) * num + R_X6_digitAt m (nI (a + n))).toInt ∧ ((10 : Int32) * num + R_X6_digitAt m (nI (a + n))).toInt < 10 ^ (n + 1) := by
          rw [q2, Int.pow_succ]
          omega
        have step : ∃ t2, R_X8_digit (upd t 1306 (10 * num + R_X6_digitAt m (nI (a + n)))) 9 = (R_X6_digitAt m (nI (a + (n + 1))), t2) ∧ g_Ro s t2 ∧ t2 1304 = (if R_X6_digitAt m (nI (a + (n + 1))) = -1 then nI (a + (n + 1)) else nI (a + (n + 1) + 1)) ∧ t2 1306 = 10 * num + R_X6_digitAt m (nI (a + n)) ∧ ∀ k, k ≠ 1304 → k ≠ 1306 → t2 k = t k := by
          rcases dig_9 T1 (p := a + (n + 1)) (by omega) with z | ⟨y1, y2, y3⟩
          · refine ⟨_, by rw [digit_no T1 (p := a + (n + 1)) (by omega) p4 (by decide) (Or.inl z), z], r1.upd (by omega), ?_, ?_, fun k h h' => ?_⟩
            · rw [g_upd_eq, if_pos z]
            · rw [g_upd_ne (by omega), g_upd_eq]
            · rw [g_upd_ne h, g_upd_ne h']
          · have nz : ¬ R_X6_digitAt m (nI (a + (n + 1))) = -1 := fun z => by rw [z] at y1; exact absurd y1 (by decide)
            refine ⟨_, digit_ok T1 (p := a + (n + 1)) (by omega) p4 y1 (show _ ≤ (9 : Int32).toInt from y2), r1.upd (by omega), ?_, ?_, fun k h h' => ?_⟩
            · rw [g_upd_eq, if_neg nz]
            · rw [g_upd_ne (by omega), g_upd_eq]
            · rw [g_upd_ne h, g_upd_ne h']
        obtain ⟨t2, s1, s2, s3, s4, s5⟩ := step
        rw [s1]
        obtain ⟨k, num', k1, k2, k3, k4, k5, k6, k7⟩ := num_loop T0 ha hs fc fm (n + 1) _ t2 (by omega) (by omega) (by omega) s2 bn s3 s4
        refine ⟨k, num', by omega, k2, k3, fun j h h' => ?_, k5, fun fs hf hk => ?_, ?_⟩
        · by_cases e : j = n
          · subst e; exact z3
          · exact k4 j (by omega) h'
        · obtain ⟨g, rfl⟩ : ∃ g, fs = g + 1 := ⟨fs - 1, by omega⟩
          unfold R_X6_numberOf_5
          have kk : (nI k).toInt = (k : Int) := nI_toInt (by omega)
          rw [if_neg (fun z => by have := j_le z; omega), nI_n (by omega) (by omega)]
          exact k6 g (by omega) hk
        · by_cases d2 : R_X6_digitAt m (nI (a + k)) = -1
          · rw [if_pos d2] at k7 ⊢
            obtain ⟨w, w1, w2, w3, w4⟩ := k7
            exact ⟨w, w1, w2, fun n h h' => (w3 n h h').trans (s5 n h h'), w4⟩
          · rw [if_neg d2] at k7 ⊢
            exact k7
end SA
