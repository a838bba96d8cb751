/-! ===== what the holding keeps, and what an order leaves alone above the row ===== -/
theorem hold_2_at {s : Nat → Int32} : ∀ (f k : Nat) (t : Nat → Int32), k ≤ 178 → 178 < f + k → ∀ n, R_X8_hold_2 s f k t n = if 200 + k ≤ n ∧ n < 378 then t (n - 200) else t n := by
  intro f
  induction f with
  | zero => intro k t h1 h2; exact absurd h2 (by omega)
  | succ f ih =>
    intro k t h1 h2 n
    have qk : (nI k).toInt = k := nI_toInt (by omega)
    have q178 : (178 : Int32).toInt = 178 := rfl
    rw [R_X8_hold_2]
    split
    · next c =>
      have c' := j_le c
      rw [if_neg (by omega)]
    · next c =>
      have c' := j_nle c
      have nk : (nI k).toNatClampNeg = k := by have := j_nat (x := nI k) (by omega); omega
      rw [ih (k + 1) _ (by omega) (by omega) n, nk]
      by_cases e : n = 200 + k
      · subst e
        rw [if_neg (by omega), if_pos (by omega), g_upd_eq, Nat.add_sub_cancel_left]
      · by_cases d : 200 + (k + 1) ≤ n ∧ n < 378
        · rw [if_pos d, if_pos (by omega), g_upd_ne (by omega)]
        · rw [if_neg d, if_neg (by omega), g_upd_ne e]
theorem hold_at {s : Nat → Int32} (n : Nat) : R_X8_hold s n = if 200 ≤ n ∧ n < 378 then s (n - 200) else s n :=
  hold_2_at 179 0 s (by omega) (by omega) n
theorem hold_ne {s : Nat → Int32} {n : Nat} (h : n < 200 ∨ 378 ≤ n) : R_X8_hold s n = s n := by rw [hold_at, if_neg (by omega)]
theorem J_hold {s : Nat → Int32} (h : g_J s) : g_J (R_X8_hold s) := h.congr fun n hn => hold_ne (by omega)
/-- above the row nothing but the answer -/
def g_Up (s t : Nat → Int32) : Prop := ∀ n, 178 ≤ n → n ≠ 1303 → t n = s n
theorem g_Up.refl {s : Nat → Int32} : g_Up s s := fun _ _ _ => rfl
theorem g_Up.upd {s t : Nat → Int32} {n : Nat} {x : Int32} (a : g_Up s t) (h : n < 178 ∨ n = 1303) : g_Up s (upd t n x) := fun k p q => by
  rw [g_upd_ne (by omega)]; exact a k p q
theorem g_Up.trans {s t u : Nat → Int32} (a : g_Up s t) (b : g_Up t u) : g_Up s u := fun n h p => (b n h p).trans (a n h p)
theorem isHelper_ne {s : Nat → Int32} {x : Int32} (h : ¬ R_X8_isHelper s x = 0) : 0 ≤ x.toInt ∧ x.toInt < (s 2).toInt := by
  unfold R_X8_isHelper at h
  split at h
  · exact absurd rfl h
  next c1 =>
  split at h
  · exact absurd rfl h
  next c2 => exact ⟨j_nlt c1, j_nle c2⟩
theorem U_walks {s t : Nat → Int32} {a b c d : Int32} (u : g_Up s t) (h : a.toNatClampNeg < 6) : g_Up s (R_X8_walks t a b c d) := by
  unfold R_X8_walks
  exact (((u.upd (by omega)).upd (by omega)).upd (by omega)).upd (by omega)
theorem U_goes {s : Nat → Int32} {x1 x2 : Int32} (a : g_J s) : g_Up s (R_X8_goes s x1 x2).2 := by
  unfold R_X8_goes
  split
  · exact g_Up.refl
  next c =>
  have z := isHelper_ne c
  have n := j_nat z.1
  have n2 := a.1.2.2.1.2
  split
  · refine g_Up.upd ?_ (by omega)
    unfold R_X8_sets R_X8_sets_26
    split
    · exact U_walks g_Up.refl (by omega)
    · exact U_walks g_Up.refl (by omega)
  · exact g_Up.refl
theorem U_rigsAt {s : Nat → Int32} {x1 : Int32} (a : g_J s) : g_Up s (R_X8_rigsAt s x1).2 := by
  unfold R_X8_rigsAt
  split
  · exact g_Up.refl
  next c =>
  have z := isHelper_ne c
  have n := j_nat z.1
  have n2 := a.1.2.2.1.2
  repeat' split
  all_goals first
    | exact ((g_Up.refl.upd (by omega)).upd (by omega)).upd (by omega)
    | exact g_Up.refl
theorem isRope_ne {s : Nat → Int32} {x : Int32} (h : ¬ R_X8_isRope s x = 0) : 0 ≤ x.toInt ∧ x.toInt < (s 1).toInt := by
  unfold R_X8_isRope at h
  split at h
  · exact absurd rfl h
  next c1 =>
  split at h
  · exact absurd rfl h
  next c2 => exact ⟨j_nlt c1, j_nle c2⟩
theorem ix_rope {x j : Int32} {w : Nat} (h0 : 0 ≤ x.toInt) (h1 : x.toInt < 8) (hj : j.toInt = w) (hw : w ≤ 2) : ((34 + 3 * x) + j).toNatClampNeg = 34 + 3 * x.toNatClampNeg + w := by
  have q1 : (3 * x).toInt = 3 * x.toInt := j_mulE rfl rfl (by omega) (by omega)
  have q3 : (34 + 3 * x).toInt = 34 + 3 * x.toInt := j_addE rfl q1 (by omega) (by omega)
  have q4 : ((34 + 3 * x) + j).toInt = 34 + 3 * x.toInt + w := j_addE q3 hj (by omega) (by omega)
  have := j_nat (x := (34 + 3 * x) + j) (by omega)
  have := j_nat h0
  omega
theorem U_takes {s : Nat → Int32} {x1 x2 : Int32} (a : g_J s) : g_Up s (R_X8_takes s x1 x2).2 := by
  unfold R_X8_takes
  split
  · exact g_Up.refl
  next c =>
  split
  · exact g_Up.refl
  next d =>
  have z := isHelper_ne c
  have n := j_nat z.1
  have n2 := a.1.2.2.1.2
  have z' := isRope_ne d
  have n1 := a.1.2.1.2
  have n' := j_nat z'.1
  repeat' split
  all_goals try exact g_Up.refl
  unfold R_X8_gives
  rw [ix_rope (w := 1) z'.1 (by omega) (by decide) (by decide), ix_rope (w := 2) z'.1 (by omega) (by decide) (by decide)]
  exact (((g_Up.refl.upd (by omega)).upd (by omega)).upd (by omega)).upd (by omega)
theorem U_sends {s : Nat → Int32} {x1 : Int32} (a : g_J s) : g_Up s (R_X8_sends s x1).2 := by
  have n6 := a.1.2.2.2.2.2.2.1
  have k43 : (s (6)).toInt ≠ 10 ∨ s (58 + 9 * x1.toNatClampNeg + 1) = 0 → g_Up s (R_X8_sends_43 s x1).2 := by
    intro h
    unfold R_X8_sends_43 R_X8_sends_115
    split
    · exact (g_Up.refl.upd (by omega)).upd (by omega)
    next c =>
    have h6 : (s 6).toInt < 10 := by
      rcases h with h | h
      · omega
      · exact absurd h c
    have ix : ∀ (w : Int32) (v : Nat), w.toInt = v → v ≤ 2 → ((112 + 3 * s 6) + w).toNatClampNeg < 178 := fun w v hw hv => by
      have q1 : (3 * s 6).toInt = 3 * (s 6).toInt := j_mulE rfl rfl (by omega) (by omega)
      have q3 : (112 + 3 * s 6).toInt = 112 + 3 * (s 6).toInt := j_addE rfl q1 (by omega) (by omega)
      have q4 : ((112 + 3 * s 6) + w).toInt = 112 + 3 * (s 6).toInt + v := j_addE q3 hw (by omega) (by omega)
      have := j_nat (x := (112 + 3 * s 6) + w) (by omega)
      omega
    have i0 : (112 + 3 * s 6).toNatClampNeg < 178 := by
      have := ix 0 0 rfl (by decide)
      rwa [show (112 + 3 * s 6) + 0 = 112 + 3 * s 6 by simp] at this
    have i1 := ix 1 1 rfl (by decide)
    have i2 := ix 2 2 rfl (by decide)
    exact ((((g_Up.refl.upd (.inl i0)).upd (.inl i1)).upd (.inl i2)).upd (by omega)).upd (by omega)
  unfold R_X8_sends
  split
  · exact g_Up.refl
  next ch =>
  have z := isHelper_ne ch
  have q := (a.h z.1 z.2).1
  split
  · exact g_Up.refl
  split
  · next c =>
    have c' := j_leR c (b := 0) rfl
    exact k43 (Or.inr (Int32.toInt_inj.mp (by have : (0 : Int32).toInt = 0 := rfl; omega)))
  split
  · exact g_Up.refl
  · next c =>
    exact k43 (Or.inl (j_neR c rfl))
theorem U_65 {s p : Nat → Int32} (h6 : (p 6).toInt ≤ 10) : ∀ (f : Nat) (v : Int32) (y k : Nat) (t : Nat → Int32), y ≤ k → (k : Int) ≤ (p 6).toInt → (p 6).toInt < f + k → g_Up t (R_X8_minute_65 s p f v y k t).2 := by
  have U164 : ∀ (v : Int32) (y : Nat) (t : Nat → Int32), g_Up t (R_X8_minute_164 p v y t).2 := fun v y t => by
    unfold R_X8_minute_164 R_X8_minute_180
    split
    · exact ((g_Up.refl.upd (by omega)).upd (by omega)).upd (by omega)
    · exact ((g_Up.refl.upd (by omega)).upd (by omega)).upd (by omega)
  intro f
  induction f with
  | zero => intro v y k t _ h1 h2; exact absurd h2 (by omega)
  | succ f ih =>
    intro v y k t hy hk hf
    have qk : (nI k).toInt = k := nI_toInt (by omega)
    rw [R_X8_minute_65]
    split
    · exact U164 _ _ _
    next c =>
    have c' := j_nle c
    split
    · have ek : ((112 + 3 * nI k) + 2).toNatClampNeg = 114 + 3 * k := by rw [ix_msg (j := 2) (by omega) (by decide) (by decide)]; omega
      rw [ek, g_upd_eq]
      split
      · unfold R_X8_minute_158
        exact g_Up.trans (g_Up.refl.upd (by omega)) (ih _ y (k + 1) _ (by omega) (by omega) (by omega))
      · rw [R_118 (by omega) (by omega)]
        exact g_Up.trans ((((g_Up.refl.upd (by omega)).upd (by omega)).upd (by omega)).upd (by omega)) (ih _ (y + 1) (k + 1) _ (by omega) (by omega) (by omega))
    · exact U164 _ _ _
theorem U_minute_2 {s : Nat → Int32} : ∀ (f h : Nat) (t : Nat → Int32), g_J t → (h : Int) ≤ (t 2).toInt → (t 2).toInt < f + h → g_Up t (R_X8_minute_2 s f h t).2 := by
  intro f
  induction f with
  | zero => intro h t _ h1 h2; exact absurd h2 (by omega)
  | succ f ih =>
    intro h t a h1 h2
    have q2 := a.1.2.2.1.2
    have qh : (nI h).toInt = h := nI_toInt (by omega)
    rw [R_X8_minute_2]
    split
    · have q6 := a.1.2.2.2.2.2.2.1
      exact U_65 (by omega) 11 0 0 0 t (Nat.le_refl _) (by omega) (by omega)
    · next c =>
      have c' := j_nle c
      have F := F_minuteOf a (x := nI h) (by omega) (by omega)
      have f2 := F 2 (by decide) (by decide) (by decide) (by decide)
      exact g_Up.trans (fun n h h' => F n (by omega) (by omega) (by omega) (by omega)) (ih (h + 1) _ (J_minuteOf a (x := nI h) (by omega) (by omega)) (by rw [f2]; omega) (by rw [f2]; omega))
theorem U_minute {s : Nat → Int32} (h : g_J s) (_ : True) : g_Up s (R_X8_minute s).2 :=
  U_minute_2 7 0 s h (by have := h.1.2.2.1; omega) (by have := h.1.2.2.1; omega)
theorem U_passes_35 {s : Nat → Int32} {x1 : Int32} (h6 : x1.toInt ≤ 600) (h0 : 0 ≤ x1.toInt) : ∀ (f k : Nat) (t : Nat → Int32), k ≤ 600 → 600 < f + k → g_J t → (t 3).toInt + x1.toInt ≤ 100000 + k → g_Up t (R_X8_passes_35 s x1 f k t).2 ∧ g_J (R_X8_passes_35 s x1 f k t).2 := by
  intro f
  induction f with
  | zero => intro k t h1 h2; exact absurd h2 (by omega)
  | succ f ih =>
    intro k t h1 h2 a h3
    have qk : (nI k).toInt = k := nI_toInt (by omega)
    rw [R_X8_passes_35]
    split
    · exact ⟨g_Up.refl, a⟩
    · next c =>
      have c' := j_nle c
      have b := J_hi (n := 1303) (x := t 1303 + (R_X8_minute t).1) (by omega) (J_minute a (by omega))
      have e3 : (upd (R_X8_minute t).2 1303 (t 1303 + (R_X8_minute t).1) 3).toInt = (t 3).toInt + 1 := by rw [g_upd_ne (by omega)]; exact t_minute a (by omega)
      have := ih (k + 1) _ (by omega) (by omega) b (by rw [e3]; omega)
      refine ⟨g_Up.trans (g_Up.upd (U_minute a trivial) (by omega)) this.1, this.2⟩
theorem U_passes {s : Nat → Int32} {x1 : Int32} (a : g_J s) : g_Up s (R_X8_passes s x1).2 ∧ g_J (R_X8_passes s x1).2 := by
  unfold R_X8_passes
  split
  · exact ⟨g_Up.refl, a⟩
  next c =>
  have z := in_ne c
  have e1 : (1 : Int32).toInt = 1 := rfl
  have e6 : (600 : Int32).toInt = 600 := rfl
  have n3 := a.1.2.2.2.1
  split
  · next d =>
    have d' := j_leR d (b := 100000) rfl
    have es : (s 3 + x1).toInt = (s 3).toInt + x1.toInt := j_addE rfl rfl (by omega) (by omega)
    have := U_passes_35 (s := s) (x1 := x1) (by omega) (by omega) 601 0 (upd s 1303 0) (by omega) (by omega) (J_hi (by omega) a) (by rw [g_upd_ne (by omega)]; omega)
    exact ⟨g_Up.trans (g_Up.refl.upd (by omega)) this.1, this.2⟩
  · exact ⟨g_Up.refl, a⟩
theorem U_245 {s t : Nat → Int32} {x1 v : Int32} : g_Up t (R_X8_carries_245 s x1 t v).2 := by
  unfold R_X8_carries_245
  exact ((((((g_Up.refl.upd (by omega)).upd (by omega)).upd (by omega)).upd (by omega)).upd (by omega)).upd (by omega)).upd (by omega)
theorem U_153 {s : Nat → Int32} {x1 : Int32} : ∀ (f d : Nat) (t : Nat → Int32), d ≤ 177 → 144 ≤ d → d < f + 144 → g_Up t (R_X8_carries_153 s x1 f d t).2 := by
  intro f
  induction f with
  | zero => intro d t _ h1 h2; exact absurd h2 (by omega)
  | succ f ih =>
    intro d t h1 h2 h3
    have qd : (nI d).toInt = d := nI_toInt (by omega)
    have nd := j_nat (x := nI d) (by omega)
    have q : (145 : Int32).toInt = 145 := rfl
    rw [R_X8_carries_153]
    split
    · split
      · exact U_245
      · exact U_245
    · next c =>
      have c' := j_nlt c
      exact g_Up.trans (g_Up.refl.upd (by omega)) (ih (d - 1) _ (by omega) (by omega) (by omega))
theorem U_105 {s : Nat → Int32} {x1 : Int32} : ∀ (f i : Nat) (t : Nat → Int32), (t 2).toInt ≤ 6 → i ≤ 6 → 6 < f + i → g_Up t (R_X8_carries_105 s x1 f i t).2 := by
  intro f
  induction f with
  | zero => intro i t _ h1 h2; exact absurd h2 (by omega)
  | succ f ih =>
    intro i t h1 h2 h3
    have qi : (nI i).toInt = i := nI_toInt (by omega)
    have ni := j_nat (x := nI i) (by omega)
    rw [R_X8_carries_105]
    split
    · exact U_153 34 177 t (by omega) (by omega) (by omega)
    next c =>
    have c' := j_nle c
    unfold R_X8_carries_142
    split
    · exact g_Up.trans (U_walks g_Up.refl (by omega)) (ih (i + 1) _ (by rw [fr_X8_walks (by omega) (by omega) (by omega) (by omega)]; exact h1) (by omega) (by omega))
    · exact ih (i + 1) _ h1 (by omega) (by omega)
theorem U_35 {s : Nat → Int32} {x1 : Int32} (h2 : (s 2).toInt ≤ 6) : ∀ (f : Nat) (v : Int32) (h : Nat), h ≤ 6 → 6 < f + h → g_Up s (R_X8_carries_35 s x1 f v h).2 := by
  have u77 : ∀ v, g_Up s (R_X8_carries_77 s x1 v).2 := fun v => by
    unfold R_X8_carries_77
    split
    · exact g_Up.refl
    · exact U_105 7 0 s h2 (by omega) (by omega)
  intro f
  induction f with
  | zero => intro v h h1 h2; exact absurd h2 (by omega)
  | succ f ih =>
    intro v h h1 h3
    have qh : (nI h).toInt = h := nI_toInt (by omega)
    rw [R_X8_carries_35]
    split
    · exact u77 _
    next c =>
    have c' := j_nle c
    unfold R_X8_carries_65 R_X8_carries_70
    split
    · exact u77 _
    split
    · exact ih _ _ (by omega) (by omega)
    split
    · exact ih _ _ (by omega) (by omega)
    · exact ih _ _ (by omega) (by omega)
theorem U_carries {s : Nat → Int32} {x1 : Int32} (a : g_J s) : g_Up s (R_X8_carries s x1).2 := by
  have n2 := a.1.2.2.1.2
  unfold R_X8_carries
  split
  · exact g_Up.refl
  split
  · exact U_35 n2 7 _ 0 (by omega) (by omega)
  · exact g_Up.refl
