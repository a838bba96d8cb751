/-! ===== what the law does: helpers, a new exercise, minutes ===== -/
section VE
variable {m s t : Nat → Int32} {pm : Nat → Nat}
/-- a new helper's row, as the law writes it -/
theorem help_loop {v w : Int32} {h : Nat} (hs : (s 2).toNatClampNeg = h) (hw : w = if v - v / 2 * 2 = 0 then 30 + (v - v / 571 * 571) else 30 + (v - v / 60 * 60)) : ∀ (f j : Nat) (S : Nat → Int32), j ≤ 9 → 9 < f + j →
    ∃ S', R_L_acts_521 m s pm v f j S = (if g_wv (R_X7_addHelper m pm (S' (58 + 9 * h + 0))) = (S' 2 + 1) - 1 then (1, (R_X7_addHelper m pm (S' (58 + 9 * h + 0))).2.1, upd S' 2 (S' 2 + 1), (R_X7_addHelper m pm (S' (58 + 9 * h + 0))).2.2) else (0, (R_X7_addHelper m pm (S' (58 + 9 * h + 0))).2.1, upd S' 2 (S' 2 + 1), (R_X7_addHelper m pm (S' (58 + 9 * h + 0))).2.2)) ∧ ∀ n, S' n = if 58 + 9 * h + j ≤ n ∧ n < 58 + 9 * h + 9 then g_hv w (n - (58 + 9 * h)) else S n
  | 0, j, S, h1, h2 => absurd h2 (by omega)
  | f + 1, j, S, h1, h2 => by
    by_cases c : j = 9
    · subst c
      refine ⟨S, ?_, fun n => by rw [if_neg (by omega)]⟩
      unfold R_L_acts_521
      rw [if_pos (by decide), hs]
    · have key : ∀ u : Int32, g_hv w j = u → R_L_acts_581 s (R_L_acts_521 m s pm v f) j S u = R_L_acts_521 m s pm v f (j + 1) (upd S (58 + 9 * h + j) (g_hv w j)) := by
        intro u hu
        unfold R_L_acts_581
        rw [hs, hu, Nat.add_zero]
        rfl
      have hj : j = 0 ∨ j = 1 ∨ j = 2 ∨ j = 3 ∨ j = 4 ∨ j = 5 ∨ j = 6 ∨ j = 7 ∨ j = 8 := by omega
      have e : R_L_acts_521 m s pm v (f + 1) j S = R_L_acts_521 m s pm v f (j + 1) (upd S (58 + 9 * h + j) (g_hv w j)) := by
        conv => lhs; unfold R_L_acts_521
        unfold R_L_acts_559 R_L_acts_576
        rcases hj with rfl | rfl | rfl | rfl | rfl | rfl | rfl | rfl | rfl
        · rw [if_neg (by decide), if_pos (by decide)]
          by_cases d : v - v / 2 * 2 = 0
          · rw [if_pos d] at hw ⊢; exact key _ (by rw [hw]; rfl)
          · rw [if_neg d] at hw ⊢; exact key _ (by rw [hw]; rfl)
        · rw [if_neg (by decide), if_neg (by decide), if_neg (by decide), if_neg (by decide)]; exact key 0 rfl
        · rw [if_neg (by decide), if_neg (by decide), if_neg (by decide), if_neg (by decide)]; exact key 0 rfl
        · rw [if_neg (by decide), if_neg (by decide), if_pos (by decide)]; exact key (-1) rfl
        · rw [if_neg (by decide), if_neg (by decide), if_neg (by decide), if_neg (by decide)]; exact key 0 rfl
        · rw [if_neg (by decide), if_neg (by decide), if_neg (by decide), if_pos (by decide)]; exact key (-1) rfl
        · rw [if_neg (by decide), if_neg (by decide), if_neg (by decide), if_neg (by decide)]; exact key 0 rfl
        · rw [if_neg (by decide), if_neg (by decide), if_neg (by decide), if_neg (by decide)]; exact key 0 rfl
        · rw [if_neg (by decide), if_neg (by decide), if_neg (by decide), if_neg (by decide)]; exact key 0 rfl
      obtain ⟨S', h3, h4⟩ := help_loop hs hw f (j + 1) (upd S (58 + 9 * h + j) (g_hv w j)) (by omega) (by omega)
      refine ⟨S', e.trans h3, fun n => ?_⟩
      rw [h4]
      by_cases d : n = 58 + 9 * h + j
      · subst d
        rw [if_neg (by omega), if_pos (by omega), g_upd_eq, Nat.add_sub_cancel_left]
      · rw [g_upd_ne d]
        by_cases g : 58 + 9 * h + (j + 1) ≤ n ∧ n < 58 + 9 * h + 9
        · rw [if_pos g, if_pos (by omega)]
        · rw [if_neg g, if_neg (by omega)]
theorem A_helper {v : Int32} {T : Int} (A : lA m s pm) (hv : 0 ≤ v.toInt) (hT : (s 3).toInt ≤ T) : lO (R_L_acts_473 m s pm v) T := by
  have J := A.1.J
  obtain ⟨h0, h6⟩ := J.1.2.2.1
  have hh := j_nat h0
  unfold R_L_acts_473
  by_cases a : s 2 = 6
  · rw [if_pos a]
    have e : ∀ t : Nat → Int32, t 2 = s 2 → R_X8_addHelper t 30 = R_X8_fails t 2 := fun t h => by
      unfold R_X8_addHelper
      rw [in_ok (by decide) (by decide), i10, h, if_pos a]
    have e2 : ∀ t : Nat → Int32, R_X8_addHelper t 601 = R_X8_fails t 1 := fun t => by
      unfold R_X8_addHelper
      have z : R_X8_in t 601 30 600 = 0 := by unfold R_X8_in; decide
      rw [z, if_pos rfl]
    have RF := Ref_addHelper A.1 30
    have d := fl_bad (e s rfl)
    rw [if_pos (val_bad RF d.1 (by decide) iaE2)]
    have RF2 := Ref_addHelper RF.1 601
    have d2 := fl_bad (e2 (R_X8_addHelper s 30).2)
    exact o_bad (s := s) RF2 d2.1 (fun n hn => (d2.2 n hn).trans (d.2 n hn)) (by decide) iaE1 hT A.2.2
  · have a' := j_neR a (show (6 : Int32).toInt = 6 from rfl)
    rw [if_neg a]
    have b1 := mod_b (v := v) (c := 571) (k := 571) hv rfl (by omega)
    have b2 := mod_b (v := v) (c := 60) (k := 60) hv rfl (by omega)
    have c30 : (30 : Int32).toInt = 30 := rfl
    have e1 := j_addE (x := 30) (y := v - v / 571 * 571) c30 rfl (by omega) (by omega)
    have e2 := j_addE (x := 30) (y := v - v / 60 * 60) c30 rfl (by omega) (by omega)
    obtain ⟨w, hw⟩ : ∃ w, w = if v - v / 2 * 2 = 0 then 30 + (v - v / 571 * 571) else 30 + (v - v / 60 * 60) := ⟨_, rfl⟩
    have wb : 30 ≤ w.toInt ∧ w.toInt ≤ 600 := by
      rw [hw]
      split <;> omega
    have sh : s 2 = nI (s 2).toNatClampNeg := j_nI h0
    have eh : R_X8_hold s 2 = nI (s 2).toNatClampNeg := by rw [A.2.1]; exact sh
    obtain ⟨S', l1, l2⟩ := help_loop (m := m) (pm := pm) (s := s) (v := v) (w := w) (h := (s 2).toNatClampNeg) rfl hw 10 0 s (by omega) (by omega)
    obtain ⟨T', t1, t2⟩ := addH_loop (s := s) (x := w) (h := (s 2).toNatClampNeg) (by omega) eh 10 0 (R_X8_hold s) (by omega) (by omega)
    have eq : T' = S' := by
      funext n
      rw [t2, l2, A.2.1]
    subst eq
    have w0 : T' (58 + 9 * (s 2).toNatClampNeg + 0) = w := by
      rw [l2, if_pos (by omega), Nat.add_sub_cancel_left]
      rfl
    have w2 : T' 2 = s 2 := by rw [l2, if_neg (by omega)]
    have e8 : R_X8_addHelper s w = R_X8_ends (upd T' 2 (T' 2 + 1)) (nI (s 2).toNatClampNeg) := by
      unfold R_X8_addHelper
      rw [in_ok (by rw [c30]; omega) (by have : (600 : Int32).toInt = 600 := rfl; omega), i10, if_neg a]
      exact t1
    have en := ends_all (s := upd T' 2 (T' 2 + 1)) (a := nI (s 2).toNatClampNeg) (by rw [g_upd_ne (by omega), l2, if_neg (by omega)]; exact A.c)
    rw [← e8, ← sh] at en
    rw [l1, w0, Int32.add_sub_cancel]
    rw [← w2] at en
    refine o_ok (Ref_addHelper A.1 w) en iaE ?_ (fun i hi => ?_)
    · rw [g_upd_ne (by omega), l2, if_neg (by omega)]; exact hT
    · rw [g_upd_ne (by omega), l2, if_neg (by omega)]; exact A.2.2 i hi
/-! a new exercise -/
theorem new_84 : ∀ (f p : Nat) (S : Nat → Int32), p ≤ 7 → 7 < f + p →
    ∃ S', R_L_acts_84 m s pm f p S = (if g_wv (R_X7_begin m pm (S' 0)) = s 3 then (1, (R_X7_begin m pm (S' 0)).2.1, S', (R_X7_begin m pm (S' 0)).2.2) else (0, (R_X7_begin m pm (S' 0)).2.1, S', (R_X7_begin m pm (S' 0)).2.2)) ∧ ∀ n, S' n = if 13 + p ≤ n ∧ n < 20 then g_d0 (n - 13) else if 20 + p ≤ n ∧ n < 27 then g_m0 (n - 20) else if 27 + p ≤ n ∧ n < 34 then -1 else S n
  | 0, p, S, h1, h2 => absurd h2 (by omega)
  | f + 1, p, S, h1, h2 => by
    by_cases c : p = 7
    · subst c
      refine ⟨S, ?_, fun n => by rw [if_neg (by omega), if_neg (by omega), if_neg (by omega)]⟩
      unfold R_L_acts_84
      rw [if_pos (by decide)]
    · have key : ∀ a b : Int32, g_d0 p = a → g_m0 p = b → R_L_acts_155 (R_L_acts_84 m s pm f) p S a b = R_L_acts_84 m s pm f (p + 1) (upd (upd (upd S (13 + p) (g_d0 p)) (20 + p) (g_m0 p)) (27 + p) (-1)) := by
        intro a b ha hb
        unfold R_L_acts_155
        rw [ha, hb]
      have hp : p = 0 ∨ p = 1 ∨ p = 2 ∨ p = 3 ∨ p = 4 ∨ p = 5 ∨ p = 6 := by omega
      have e : R_L_acts_84 m s pm (f + 1) p S = R_L_acts_84 m s pm f (p + 1) (upd (upd (upd S (13 + p) (g_d0 p)) (20 + p) (g_m0 p)) (27 + p) (-1)) := by
        conv => lhs; unfold R_L_acts_84
        unfold R_L_acts_117
        rcases hp with rfl | rfl | rfl | rfl | rfl | rfl | rfl
        · rw [if_neg (by decide), if_neg (by decide), if_neg (by decide), if_neg (by decide), if_neg (by decide), if_neg (by decide)]; exact key 0 5 rfl rfl
        · rw [if_neg (by decide), if_pos (by decide), if_pos (by decide)]; exact key 20 8 rfl rfl
        · rw [if_neg (by decide), if_neg (by decide), if_neg (by decide), if_neg (by decide), if_pos (by decide)]; exact key 0 6 rfl rfl
        · rw [if_neg (by decide), if_neg (by decide), if_pos (by decide), if_neg (by decide), if_neg (by decide), if_pos (by decide)]; exact key 35 10 rfl rfl
        · rw [if_neg (by decide), if_neg (by decide), if_neg (by decide), if_neg (by decide), if_neg (by decide), if_neg (by decide)]; exact key 0 5 rfl rfl
        · rw [if_neg (by decide), if_neg (by decide), if_neg (by decide), if_neg (by decide), if_neg (by decide), if_neg (by decide)]; exact key 0 5 rfl rfl
        · rw [if_neg (by decide), if_neg (by decide), if_neg (by decide), if_neg (by decide), if_neg (by decide), if_neg (by decide)]; exact key 0 5 rfl rfl
      obtain ⟨S', h3, h4⟩ := new_84 f (p + 1) (upd (upd (upd S (13 + p) (g_d0 p)) (20 + p) (g_m0 p)) (27 + p) (-1)) (by omega) (by omega)
      refine ⟨S', e.trans h3, fun n => ?_⟩
      rw [h4]
      by_cases e1 : n = 13 + p
      · subst e1
        rw [if_neg (by omega), if_neg (by omega), if_neg (by omega), if_pos (by omega), g_upd_ne (by omega), g_upd_ne (by omega), g_upd_eq, Nat.add_sub_cancel_left]
      · by_cases e2 : n = 20 + p
        · subst e2
          rw [if_neg (by omega), if_neg (by omega), if_neg (by omega), if_neg (by omega), if_pos (by omega), g_upd_ne (by omega), g_upd_eq, Nat.add_sub_cancel_left]
        · by_cases e3 : n = 27 + p
          · subst e3
            rw [if_neg (by omega), if_neg (by omega), if_neg (by omega), if_neg (by omega), if_neg (by omega), if_pos (by omega), g_upd_eq]
          · rw [g_upd_ne e3, g_upd_ne e2, g_upd_ne e1]
            by_cases d1 : 13 + p ≤ n ∧ n < 20
            · rw [if_pos d1, if_pos (by omega)]
            · rw [if_neg d1, if_neg (by omega)]
              by_cases d2 : 20 + p ≤ n ∧ n < 27
              · rw [if_pos d2, if_pos (by omega)]
              · rw [if_neg d2, if_neg (by omega)]
                by_cases d3 : 27 + p ≤ n ∧ n < 34
                · rw [if_pos d3, if_pos (by omega)]
                · rw [if_neg d3, if_neg (by omega)]
theorem new_40 {v x : Int32} (hx : x = 1 + (v / 4 - v / 4 / 7 * 7)) : ∀ (f k : Nat) (S : Nat → Int32), k ≤ 13 → 13 < f + k →
    ∃ S', R_L_acts_40 m s pm v f k S = R_L_acts_84 m s pm 8 0 S' ∧ ∀ n, S' n = if k ≤ n ∧ n < 13 then (if n = 0 ∨ n = 4 then x else 0) else S n
  | 0, k, S, h1, h2 => absurd h2 (by omega)
  | f + 1, k, S, h1, h2 => by
    by_cases c : k = 13
    · subst c
      refine ⟨S, ?_, fun n => by rw [if_neg (by omega)]⟩
      unfold R_L_acts_40
      rw [if_pos (by decide)]
    · have hk : (nI k).toInt = (k : Int) := nI_toInt (by omega)
      have e : R_L_acts_40 m s pm v (f + 1) k S = R_L_acts_40 m s pm v f (k + 1) (upd S k (if k = 0 ∨ k = 4 then x else 0)) := by
        conv => lhs; unfold R_L_acts_40
        unfold R_L_acts_61 R_L_acts_74
        rw [if_neg (fun z => by have := j_leL z (show (13 : Int32).toInt = 13 from rfl); omega), Nat.zero_add]
        by_cases e0 : k = 0
        · subst e0
          rw [if_pos (by decide), if_pos (Or.inl rfl), hx]
        · rw [if_neg (fun z => e0 (by have := j_eqR z j_0; omega))]
          by_cases e4 : k = 4
          · subst e4
            rw [if_pos (by decide), if_pos (Or.inr rfl), hx]
          · rw [if_neg (fun z => e4 (by have := j_eqR z (show (4 : Int32).toInt = 4 from rfl); omega)), if_neg (fun z => z.elim e0 e4)]
      obtain ⟨S', h3, h4⟩ := new_40 hx f (k + 1) (upd S k (if k = 0 ∨ k = 4 then x else 0)) (by omega) (by omega)
      refine ⟨S', e.trans h3, fun n => ?_⟩
      rw [h4]
      by_cases d : n = k
      · subst d
        rw [if_neg (by omega), g_upd_eq, if_pos (show n ≤ n ∧ n < 13 by omega)]
      · rw [g_upd_ne d]
        by_cases g : k + 1 ≤ n ∧ n < 13
        · rw [if_pos g, if_pos (show k ≤ n ∧ n < 13 by omega)]
        · rw [if_neg g, if_neg (show ¬ (k ≤ n ∧ n < 13) by omega)]
theorem A_begin {v : Int32} {T : Int} (A : lA m s pm) (hv : 0 ≤ v.toInt) (hT : (s 3).toInt ≤ T) : lO (R_L_acts_40 m s pm v 14 0 s) T := by
  have J := A.1.J
  have h3 := J.1.2.2.2.1.1
  have v4 := div_nn (x := v) (y := 4) hv (by decide)
  have b := mod_b (v := v / 4) (c := 7) (k := 7) v4 rfl (by omega)
  have e := j_addE (x := 1) (y := v / 4 - v / 4 / 7 * 7) j_1 rfl (by omega) (by omega)
  obtain ⟨x, hx⟩ : ∃ x, x = 1 + (v / 4 - v / 4 / 7 * 7) := ⟨_, rfl⟩
  rw [← hx] at e
  obtain ⟨S1, l1, l2⟩ := new_40 (m := m) (s := s) (pm := pm) hx 14 0 s (by omega) (by omega)
  obtain ⟨S', k1, k2⟩ := new_84 (m := m) (s := s) (pm := pm) 8 0 S1 (by omega) (by omega)
  have at_ : ∀ n, S' n = if n < 34 then g_new x n else s n := fun n => by
    rw [k2, l2]
    unfold g_new
    by_cases a : n < 34
    · rw [if_pos a]
      by_cases d1 : 13 + 0 ≤ n ∧ n < 20
      · rw [if_pos d1, if_neg (by omega), if_pos d1]
      · rw [if_neg d1]
        by_cases d2 : 20 + 0 ≤ n ∧ n < 27
        · rw [if_pos d2, if_neg (by omega), if_neg (by omega), if_pos d2]
        · rw [if_neg d2]
          by_cases d3 : 27 + 0 ≤ n ∧ n < 34
          · rw [if_pos d3, if_neg (by omega), if_neg (by omega), if_neg (by omega), if_pos d3]
          · rw [if_neg d3, if_pos (show 0 ≤ n ∧ n < 13 by omega)]
            by_cases w : n = 0 ∨ n = 4
            · rw [if_pos w, if_pos w]
            · rw [if_neg w, if_neg w, if_neg (show ¬ (13 ≤ n ∧ n < 20) by omega), if_neg (show ¬ (20 ≤ n ∧ n < 27) by omega), if_neg (show ¬ (27 ≤ n ∧ n < 34) by omega)]
    · rw [if_neg a, if_neg (by omega), if_neg (by omega), if_neg (by omega), if_neg (by omega)]
  obtain ⟨g0, -, gz, -, -, -, -⟩ := g_new_lo (x := x)
  have s0 : S' 0 = x := by rw [at_, if_pos (by omega)]; exact g0
  rw [l1, k1, s0]
  have hb : ∀ n, R_X8_begins (R_X8_hold s) x n = if n < 178 then g_new x n else R_X8_hold s n := fun n => begins_at n
  have e8 : R_X8_begin s x = R_X8_ends (R_X8_begins s x) (s 3) := by
    unfold R_X8_begin
    have e203 : R_X8_begins (R_X8_hold s) x 203 = s 3 := by rw [hb, if_neg (by omega), A.2.1]; exact aside A (n := 3) (by omega)
    rw [in_ok (by rw [j_1]; omega) (by have : (7 : Int32).toInt = 7 := rfl; omega), i10, e203, A.2.1]
  rw [A.2.1] at hb
  have en := ends_all (s := R_X8_begins s x) (a := s 3) (by rw [hb, if_neg (by omega)]; exact A.c)
  rw [← e8] at en
  have RF := Ref_begin A.1 x
  refine o_live RF en.2.1 en.1 (fun n hn => ?_) i1E ?_ (fun i hi => ?_)
  · have lt := g_Lv.lt RF.1.J hn
    have z : ∀ n, n < 13 → n ≠ 0 → n ≠ 4 → (R_X8_begin s x).2 n = 0 := fun n h1 h2 h3 => by rw [en.2.2 n (by omega), hb, if_pos (by omega)]; exact gz n h1 h2 h3
    unfold g_Lv at hn
    rw [z 1 (by omega) (by omega) (by omega), z 2 (by omega) (by omega) (by omega), z 6 (by omega) (by omega) (by omega), z 12 (by omega) (by omega) (by omega), j_0] at hn
    have h34 : n < 34 := by omega
    rw [at_, if_pos h34, en.2.2 n lt, hb, if_pos lt]
  · rw [at_, if_pos (by omega), gz 3 (by omega) (by omega) (by omega), j_0]; omega
  · rw [at_, if_neg (by omega)]; exact A.2.2 i hi
/-! minutes -/
theorem lR_604 {K : Int32 → Nat → Nat → (Nat → Int32) → Int32 × (Nat → Int32)} (hK : ∀ v y k S, lR S → lR (K v y k S).2) {v w : Int32} {y k : Nat} {S : Nat → Int32} (h : lR S) : lR (R_L_minute_604 K v y k S w).2 := by
  have h2 : ∀ a b c : Int32, lR (upd (upd (upd S (112 + 3 * y) a) (113 + 3 * y) b) (114 + 3 * y) c) := fun a b c => ((h.u1 (by omega)).u1 (by omega)).u1 (by omega)
  unfold R_L_minute_604 R_L_minute_619 R_L_minute_673
  repeat' split
  all_goals first
    | exact hK _ _ _ _ h
    | exact hK _ _ _ _ (h2 _ _ _)
theorem lR_576 (h0 : lR s) {w : Int32} : ∀ (f : Nat) (v : Int32) (y k : Nat) (S : Nat → Int32), lR S → lR (R_L_minute_576 s w f v y k S).2 := by
  intro f
  induction f with
  | zero => intro v y k S _; exact h0
  | succ f ih =>
    intro v y k S h
    have h2 := fun (a : Int32) => lR_604 (K := R_L_minute_576 s w f) ih (v := v) (w := a) (y := y) (k := k) h
    have h3 : ∀ a b c : Int32, lR (upd (upd (upd S 6 a) 7 b) 3 c) := fun a b c => ((h.u1 (by omega)).u1 (by omega)).u1 (by omega)
    unfold R_L_minute_576
    repeat' split
    · exact h3 _ _ _
    · exact h2 _
    · exact h2 _
section LRK
variable {K : Nat → (Nat → Int32) → Int32 × (Nat → Int32)} {n : Nat} {w e : Int32} {S : Nat → Int32}
theorem lR_431 (hK : ∀ n S, lR S → lR (K n S).2) (h : lR S) : lR (R_L_minute_431 K n w S).2 := by
  have k : ∀ v S, lR S → lR (R_L_minute_461 K n S v).2 := fun v S h => by
    unfold R_L_minute_461 R_L_minute_491 R_L_minute_505 R_L_minute_532
    repeat' split
    all_goals exact hK _ _ (((h.u1 (by omega)).u1 (by omega)).u1 (by omega))
  unfold R_L_minute_431 R_L_minute_460
  repeat' split
  all_goals exact k _ _ h
theorem lR_238 (hK : ∀ n S, lR S → lR (K n S).2) (h : lR S) (h7 : (S (58 + 9 * n + 1)).toNatClampNeg ≤ 7) : lR (R_L_minute_238 K n w S e).2 := by
  unfold R_L_minute_238 R_L_minute_288 R_L_minute_310 R_L_minute_353
  repeat' split
  all_goals
    refine lR_431 hK ?_
    repeat (first | with_reducible exact h | refine lR.u1 ?_ (by omega) | refine lR.set ?_ (by decide))
theorem lR_124 (hK : ∀ n S, lR S → lR (K n S).2) (h : lR S) (h7 : (S (58 + 9 * n + 1)).toNatClampNeg ≤ 7) : lR (R_L_minute_124 K n w S).2 := by
  unfold R_L_minute_124 R_L_minute_197 R_L_minute_201 R_L_minute_202
  repeat' split
  all_goals first | with_reducible exact lR_431 hK h | with_reducible exact lR_238 hK h h7
theorem lR_43 (hK : ∀ n S, lR S → lR (K n S).2) (h : lR S) (hn : n < 6) (h7 : (S (58 + 9 * n + 1)).toNatClampNeg ≤ 7) : lR (R_L_minute_43 K n S w).2 := by
  have k : ∀ y, lR (R_L_sets S (nI n) y) := fun y => by
    unfold R_L_sets R_L_sets_45
    split <;> exact (((h.u1 (by omega)).u1 (by omega)).u1 (by omega)).u1 (by omega)
  have k7 : ∀ y, (R_L_sets S (nI n) y (58 + 9 * n + 1)).toNatClampNeg ≤ 7 := fun y => by
    rw [Int32.toInt_inj.mp (ps_sets (s := S) (t := y) hn).1]
    exact h7
  unfold R_L_minute_43
  repeat' split
  all_goals first | with_reducible exact lR_124 hK h h7 | with_reducible exact lR_124 hK (k _) (k7 _)
theorem Lm_step (J : g_J S) (a' : (n : Int) < (S 2).toInt) : (if S (58 + 9 * n + 1) = 0 then (if S (58 + 9 * n + 2) = 0 then R_L_minute_43 K n S 1 else R_L_minute_42 K n S) else R_L_minute_42 K n S) = K (n + 1) (R_X8_minuteOf S (nI n)) := by
  have h6 := J.1.2.2.1.2
  unfold R_L_minute_42 R_X8_minuteOf R_X8_minuteOf_23 R_X8_stands
  rw [Lm_43 J (by omega), Lm_43 J (by omega), nI_clamp (by omega)]
  by_cases d : S (58 + 9 * n + 2) = 0
  · simp only [if_pos d, i10]
    by_cases g : S (58 + 9 * n + 1) = 0
    · simp only [if_pos g]
    · simp only [if_neg g]
  · simp only [if_neg d, i00, ite_self, if_true]
theorem lR_mo (J : g_J S) (a' : (n : Int) < (S 2).toInt) (h : lR S) : lR (R_X8_minuteOf S (nI n)) := by
  have h6 := J.1.2.2.1.2
  have h07 := J.1.1.2
  have a0 := (J.2.2.1 n a').1
  have h7 : (S (58 + 9 * n + 1)).toNatClampNeg ≤ 7 := by
    have := j_nat a0.1
    omega
  have e := Lm_step (K := fun _ T => ((0 : Int32), T)) J a'
  have g : ∀ w : Int32, lR (R_L_minute_43 (fun _ T => ((0 : Int32), T)) n S w).2 := fun w => lR_43 (fun _ _ z => z) h (by omega) h7
  have e2 : R_X8_minuteOf S (nI n) = (if S (58 + 9 * n + 1) = 0 then (if S (58 + 9 * n + 2) = 0 then R_L_minute_43 (fun _ T => ((0 : Int32), T)) n S 1 else R_L_minute_42 (fun _ T => ((0 : Int32), T)) n S) else R_L_minute_42 (fun _ T => ((0 : Int32), T)) n S).2 := by rw [e]
  rw [e2]
  unfold R_L_minute_42
  repeat' split
  all_goals exact g _
end LRK
theorem lR_3 (h0 : lR s) : ∀ (f n : Nat) (S : Nat → Int32), g_J S → (n : Int) ≤ (S 2).toInt → lR S → lR (R_L_minute_3 s f n S).2 := by
  intro f
  induction f with
  | zero => intro n S _ _ _; exact h0
  | succ f ih =>
    intro n S J hn h
    have h6 := J.1.2.2.1.2
    have hq : (nI n).toInt = (n : Int) := nI_toInt (by omega)
    have k5 := fun (w : Int32) => lR_576 h0 (w := w) 11 0 0 0 S h
    unfold R_L_minute_3
    by_cases a : S 2 ≤ nI n
    · rw [if_pos a]
      unfold R_L_minute_567 R_L_minute_568
      repeat' split
      all_goals exact k5 _
    · have a' := j_nle a
      rw [if_neg a, Lm_step J (by omega)]
      have F := F_minuteOf (x := nI n) J (by omega) (by omega)
      have f2 : R_X8_minuteOf S (nI n) 2 = S 2 := F 2 (by omega) (by omega) (by omega) (by omega)
      exact ih (n + 1) _ (J_minuteOf J (by omega) (by omega)) (by rw [f2]; omega) (lR_mo J (by omega) h)
theorem lR_minute (J : g_J s) (h : lR s) : lR (R_L_minute s).2 := lR_3 h _ _ _ J (by have := J.1.2.2.1.1; omega) h
theorem L_two {a b : Nat → Int32} (Ea : g_E m a) (Eb : g_E m b) : g_L a b := fun n hn => by
  have lo : ∀ k, k < 34 → a k = b k := fun k hk => (Ea.lo hk).symm.trans (Eb.lo hk)
  have := hn.congr (s := a) (lo 1 (by omega)).symm (lo 2 (by omega)).symm (lo 6 (by omega)).symm (lo 12 (by omega)).symm
  rw [← Ea.L n this]
  exact Eb.L n hn
theorem pass_1809 {m0 M S : Nat → Int32} {P : Nat → Nat} {x : Int32} (hx : x.toInt ≤ 40) (hx0 : 0 ≤ x.toInt) : ∀ (f f' i : Nat) (m1 t : Nat → Int32) (c : Int32), g_E m1 t → (i : Int) ≤ x.toInt → 600 < f + i → 40 < f' + i → (t 3).toInt + x.toInt ≤ 100000 + i → m1 7 = m0 7 + c → lR t →
    ∃ c' t', R_L_acts_1809 M S P x f' c i t = (if g_wv (R_X7_pass M P x) = c' then (1, (R_X7_pass M P x).2.1, t', (R_X7_pass M P x).2.2) else (0, (R_X7_pass M P x).2.1, t', (R_X7_pass M P x).2.2)) ∧ g_E (R_X0_letPass_10 m0 x f i m1).2 t' ∧ (R_X0_letPass_10 m0 x f i m1).1 = c' ∧ (t' 3).toInt = (t 3).toInt + (x.toInt - i) ∧ lR t'
  | 0, f', i, m1, t, c, _, h, h', _, _, _, _ => absurd h' (by omega)
  | f + 1, 0, i, m1, t, c, _, h, _, h', _, _, _ => absurd h' (by omega)
  | f + 1, f' + 1, i, m1, t, c, E, h, h', h'', ht, h7, hr => by
    have hc : (nI i).toInt = (i : Int) := nI_toInt (by omega)
    unfold R_X0_letPass_10 R_L_acts_1809
    by_cases a : x ≤ nI i
    · have a' := j_le a
      rw [if_pos a, if_pos a]
      refine ⟨c, t, rfl, E, ?_, by omega, hr⟩
      show m1 7 - m0 7 = c
      rw [h7, Int32.add_comm, Int32.add_sub_cancel]
    · have a' := j_nle a
      rw [if_neg a, if_neg a]
      have h3 : (t 3).toInt < 100000 := by omega
      obtain ⟨m', e1, e2, e3, e4, -⟩ := min_loop (m0 := m0) (s0 := t) (K := R_X0_letPass_10 m0 x f) (i := i) 7 0 m1 t E h3 (by omega) (by omega)
      obtain ⟨l1, l2⟩ := Lm E.J
      obtain ⟨j1, j3⟩ := LJ_minute E.J h3
      have E2 : g_E m' (R_X8_minute t).2 := ⟨e2, J_minute E.J h3, e3⟩
      have E3 : g_E m' (R_L_minute t).2 := by
        refine ⟨fun n hn => ?_, j1, N_live E2.J E2.N l2⟩
        have hn' := hn.congr (s := (R_X8_minute t).2) (l2 1 (Or.inl (by omega))) (l2 2 (Or.inl (by omega))) (l2 6 (Or.inl (by omega))) (l2 12 (Or.inl (by omega)))
        rw [E2.L n hn', l2 n hn']
      have e4' : m' 7 = m1 7 + (R_X8_minute t).1 := e4
      rw [e1]
      obtain ⟨c', t', k1, k2, k3, k4, k5⟩ := pass_1809 (m0 := m0) (M := M) (S := S) (P := P) hx hx0 f f' (i + 1) m' (R_L_minute t).2 (c + (R_L_minute t).1) E3 (by omega) (by omega) (by omega) (by omega) (by rw [e4', l1, h7, Int32.add_assoc]) (lR_minute E.J hr)
      exact ⟨c', t', k1, k2, k3, by omega, k5⟩
theorem A_pass {x : Int32} {T : Int} (A : lA m s pm) (h1 : 1 ≤ x.toInt) (h40 : x.toInt ≤ 40) (h9 : (s 3).toInt ≤ 90000) (hT : (s 3).toInt + 40 ≤ T) : lO (R_L_acts_1803 m s pm x) T := by
  have J := A.1.J
  have h3 := J.1.2.2.2.1.1
  have RF := Ref_pass A.1 x
  have sE := A.1.sE
  rw [A.2.1] at sE
  have hin : R_X8_in s x 1 600 = 1 := in_ok (by rw [j_1]; exact h1) (by have : (600 : Int32).toInt = 600 := rfl; omega)
  have hadd := j_addE (x := s 3) (y := x) rfl rfl (by omega) (by omega)
  have c1 : (100000 : Int32).toInt = 100000 := rfl
  have nle : s 3 + x ≤ 100000 := Int32.le_iff_toInt_le.mpr (by omega)
  have e7 : R_X7_pass m pm x = (.inl (some (.int (R_X0_letPass (R_X7_save m pm).1 x).1)), (R_X0_letPass (R_X7_save m pm).1 x).2, (R_X7_save m pm).2) := by
    unfold R_X7_pass R_X0_canPass
    rw [if_neg (mt (bad_in s x 1 600).mp (by rw [hin]; decide)), A.1.E.lo (n := 3) (by omega), if_neg (Int32.not_lt.mpr nle), if_neg (by decide)]
  have e8 : R_X8_pass s x = R_X8_done (R_X8_passes_35 s x 601 0 (upd s 1303 0)).2 (R_X8_passes_35 s x 601 0 (upd s 1303 0)).1 := by
    unfold R_X8_pass R_X8_passes
    rw [A.2.1, hin, i10, if_pos nle]
  have pl := pass_loop (m0 := (R_X7_save m pm).1) (s0 := s) (x := x) (by omega) (by omega) 601 0 (R_X7_save m pm).1 (upd s 1303 0) (sE.hi (by omega)) (by omega) (by omega) (by rw [g_upd_ne (by omega)]; omega) (by rw [g_upd_eq, Int32.add_zero])
  obtain ⟨c', t', k1, k2, k3, k4, k5⟩ := pass_1809 (m0 := (R_X7_save m pm).1) (M := m) (S := s) (P := pm) (x := x) h40 (by omega) 601 41 0 (R_X7_save m pm).1 s 0 sE (by omega) (by omega) (by omega) (by omega) (by rw [Int32.add_zero]) A.2.2
  unfold R_L_acts_1803
  rw [k1]
  have en : (R_X8_pass s x).1 = (R_X8_passes_35 s x 601 0 (upd s 1303 0)).2 1303 ∧ (R_X8_pass s x).2 1302 = 0 := by
    have U := (U_passes (s := s) (x1 := x) J).1
    unfold R_X8_passes at U
    rw [hin, i10, if_pos nle] at U
    rw [e8]
    unfold R_X8_done
    rw [pl.1, if_pos (by decide)]
    have := ends_all (s := (R_X8_passes_35 s x 601 0 (upd s 1303 0)).2) (a := (R_X8_passes_35 s x 601 0 (upd s 1303 0)).2 1303) (by rw [U 1300 (by omega) (by omega)]; exact A.c)
    exact ⟨this.1, this.2.1⟩
  have ev : (R_X8_pass s x).1 = c' := by rw [en.1, ← pl.2.2.1]; exact k3
  refine o_live RF en.2 ev ?_ iaE (by omega) k5
  refine L_two (m := (R_X7_pass m pm x).2.1) ?_ RF.1.E
  rw [e7]
  exact k2
end VE
