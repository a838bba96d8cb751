/-! ===== the whole of both sides: the cave, what is saved, the text ===== -/
section QA
theorem g_N.congr {s t : Nat → Int32} (N : g_N s) (h : ∀ n, n < 178 → t n = s n) (h2 : (s 2).toInt ≤ 6) : g_N t := fun k hk hd => by
  rw [h 2 (by omega)] at hk
  rw [h _ (by omega)] at hd
  rw [h _ (by omega)]
  exact N k hk hd
theorem g_E.congr {m s m' s' : Nat → Int32} (E : g_E m s) (hm : ∀ n, n < 178 → m' n = m n) (hs : ∀ n, n < 178 → s' n = s n) : g_E m' s' := by
  have J' : g_J s' := E.J.congr hs
  have h2 := E.J.1.2.2.1.2
  refine ⟨fun n hn => ?_, J', E.N.congr hs h2⟩
  have hl := g_Lv.lt J' hn
  rw [hm n hl, hs n hl]
  exact E.L n (hn.congr (hs 1 (by omega)) (hs 2 (by omega)) (hs 6 (by omega)) (hs 12 (by omega)))
/-- fields that hold a truth value hold 0 or 1 -/
def g_B0 (f : Nat → Int32) : Prop := (f 5 = 0 ∨ f 5 = 1) ∧ ∀ h, h < 6 → f (58 + 9 * h + 8) = 0 ∨ f (58 + 9 * h + 8) = 1
def g_Sv (m : Nat → Int32) (pm : Nat → Nat) (s : Nat → Int32) (c : Nat) : Prop := ∀ i : Nat, i < c → g_E (fun n => m (178 * pm i + n)) (fun n => s (400 + 178 * i + n))
def g_Pi (pm : Nat → Nat) : Prop := ∀ i j, i < 4 → j < 4 → pm i = pm j → i = j
def g_Tt (m s : Nat → Int32) : Prop := m 980 = s 1301 ∧ (0 ≤ (s 1301).toInt ∧ (s 1301).toInt ≤ 90) ∧ ∀ k : Nat, (k : Int) < (s 1301).toInt → m (890 + k) = s (1200 + k) ∧ 0 ≤ (s (1200 + k)).toInt ∧ (s (1200 + k)).toInt ≤ 127
def g_Rel (m s : Nat → Int32) (pm : Nat → Nat) : Prop := g_E m s ∧ (∃ c : Nat, c ≤ 4 ∧ s 1300 = nI c ∧ m 981 = nI c ∧ g_Sv m pm s c) ∧ g_Tt m s ∧ g_Bo m ∧ g_Pm pm ∧ g_Pi pm ∧ pm 4 = 1
theorem g_Rel.E {m s : Nat → Int32} {pm : Nat → Nat} (R : g_Rel m s pm) : g_E m s := R.1
theorem g_Rel.J {m s : Nat → Int32} {pm : Nat → Nat} (R : g_Rel m s pm) : g_J s := R.1.2.1
theorem g_Rel.T {m s : Nat → Int32} {pm : Nat → Nat} (R : g_Rel m s pm) : g_Tt m s := R.2.2.1
theorem g_Rel.Bo {m s : Nat → Int32} {pm : Nat → Nat} (R : g_Rel m s pm) : g_Bo m := R.2.2.2.1
theorem g_Rel.Pm {m s : Nat → Int32} {pm : Nat → Nat} (R : g_Rel m s pm) : g_Pm pm := R.2.2.2.2.1
theorem g_Rel.Pi {m s : Nat → Int32} {pm : Nat → Nat} (R : g_Rel m s pm) : g_Pi pm := R.2.2.2.2.2.1
theorem g_Rel.p4 {m s : Nat → Int32} {pm : Nat → Nat} (R : g_Rel m s pm) : pm 4 = 1 := R.2.2.2.2.2.2
theorem g_Rel.I {m s : Nat → Int32} {pm : Nat → Nat} (R : g_Rel m s pm) : g_I m pm := by
  have hj := R.J.n
  obtain ⟨c, c1, c2, c3, -⟩ := R.2.1
  obtain ⟨t1, t2, -⟩ := R.T
  have hc : (nI c).toInt = (c : Int) := nI_toInt (by omega)
  have h12 := R.J.1.2.2.2.2.2.2.2.2
  have h6 := R.J.1.2.2.2.2.2.2.1
  refine ⟨?_, R.Bo, R.Pm⟩
  rw [R.E.lo (n := 0) (by omega), R.E.lo (n := 1) (by omega), R.E.lo (n := 2) (by omega), R.E.lo (n := 6) (by omega), R.E.lo (n := 12) (by omega), t1, c3]
  exact ⟨by omega, by omega, by omega, by omega, by omega, by omega, by omega⟩
/-- below the main cave and above the saved ones nothing: what only the model's own fields see -/
theorem g_Rel.over {m s t : Nat → Int32} {pm : Nat → Nat} (R : g_Rel m s pm) (h : ∀ n, n < 178 ∨ (400 ≤ n ∧ n < 1302) → t n = s n) : g_Rel m t pm := by
  obtain ⟨c, c1, c2, c3, c4⟩ := R.2.1
  obtain ⟨t1, t2, t3⟩ := R.T
  refine ⟨R.E.congr (fun _ _ => rfl) (fun n hn => h n (Or.inl hn)), ⟨c, c1, (h 1300 (by omega)).trans c2, c3, fun i hi => (c4 i hi).congr (fun _ _ => rfl) (fun n hn => h _ (by omega))⟩, ⟨?_, ?_, fun k hk => ?_⟩, R.2.2.2⟩
  · rw [h 1301 (by omega)]; exact t1
  · rw [h 1301 (by omega)]; exact t2
  · rw [h 1301 (by omega)] at hk
    rw [h (1200 + k) (by omega)]
    exact t3 k hk
theorem ends_51_at {s : Nat → Int32} {a : Int32} {c : Nat} (hc : c ≤ 3) : ∀ (f k : Nat) (t : Nat → Int32), k ≤ 178 → 178 < f + k → t 1300 = nI c →
    (R_X8_ends_51 s a f k t).1 = a ∧ ∀ n, (R_X8_ends_51 s a f k t).2 n = if 400 + 178 * c + k ≤ n ∧ n < 400 + 178 * c + 178 then t (200 + (n - (400 + 178 * c))) else if n = 1302 then 0 else if n = 1300 then nI c + 1 else t n := by
  intro f
  induction f with
  | zero => intro k t h1 h2; exact absurd h2 (by omega)
  | succ f ih =>
    intro k t h1 h2 h3
    have qk : (nI k).toInt = k := nI_toInt (by omega)
    have q178 : (178 : Int32).toInt = 178 := rfl
    rw [R_X8_ends_51]
    split
    · next e =>
      have e' := j_le e
      unfold R_X8_tells
      refine ⟨rfl, fun n => ?_⟩
      rw [if_neg (by omega), h3]
      dsimp only
      by_cases e1 : n = 1302
      · subst e1; rw [g_upd_eq, if_pos rfl]
      rw [g_upd_ne e1, if_neg e1]
      by_cases e2 : n = 1300
      · subst e2; rw [g_upd_eq, if_pos rfl]
      rw [g_upd_ne e2, if_neg e2]
    · next e =>
      have e' := j_nle e
      have nk : (nI k).toNatClampNeg = k := nI_clamp (by omega)
      have qc : (nI c).toInt = (c : Int) := nI_toInt (by omega)
      have q1 : ((178 : Int32) * nI c).toInt = 178 * c := j_mulE rfl qc (by omega) (by omega)
      have q2 : (((178 : Int32) * nI c) + nI k).toInt = 178 * c + k := j_addE q1 qk (by omega) (by omega)
      have q3 := j_nat (x := ((178 : Int32) * nI c) + nI k) (by omega)
      rw [h3, show (((178 : Int32) * nI c) + nI k).toNatClampNeg = 178 * c + k by omega, nk]
      have ih := ih (k + 1) (upd t (400 + (178 * c + k)) (t (200 + k))) (by omega) (by omega) (by rw [g_upd_ne (by omega)]; exact h3)
      refine ⟨ih.1, fun n => ?_⟩
      rw [ih.2 n]
      by_cases e1 : n = 400 + (178 * c + k)
      · subst e1
        rw [if_neg (by omega), if_neg (by omega), if_neg (by omega), g_upd_eq, if_pos (by omega)]
        exact congrArg t (by omega)
      · by_cases e2 : 400 + 178 * c + (k + 1) ≤ n ∧ n < 400 + 178 * c + 178
        · rw [if_pos e2, if_pos (by omega), g_upd_ne (by omega)]
        · rw [if_neg e2, g_upd_ne e1, if_neg (show ¬ (400 + 178 * c + k ≤ n ∧ n < 400 + 178 * c + 178) by omega)]
theorem ends_10_at {s : Nat → Int32} {a : Int32} : ∀ (f k : Nat) (t : Nat → Int32), k ≤ 534 → 534 < f + k →
    ∃ t', R_X8_ends_10 s a f k t = R_X8_ends_49 s a (upd t' 1300 (t 1300 - 1)) ∧ ∀ n, t' n = if 400 + k ≤ n ∧ n < 934 then t (n + 178) else t n := by
  intro f
  induction f with
  | zero => intro k t h1 h2; exact absurd h2 (by omega)
  | succ f ih =>
    intro k t h1 h2
    have qk : (nI k).toInt = k := nI_toInt (by omega)
    have q534 : (534 : Int32).toInt = 534 := rfl
    rw [R_X8_ends_10]
    split
    · next e =>
      have e' := j_le e
      exact ⟨t, rfl, fun n => by rw [if_neg (by omega)]⟩
    · next e =>
      have e' := j_nle e
      have nk : (nI k).toNatClampNeg = k := nI_clamp (by omega)
      have q2 : (nI k + 178).toInt = k + 178 := j_addE qk rfl (by omega) (by omega)
      have q3 := j_nat (x := nI k + 178) (by omega)
      rw [show (nI k + 178).toNatClampNeg = k + 178 by omega, nk]
      obtain ⟨t', h1', h2'⟩ := ih (k + 1) (upd t (400 + k) (t (400 + (k + 178)))) (by omega) (by omega)
      refine ⟨t', ?_, fun n => ?_⟩
      · rw [h1', g_upd_ne (by omega)]
      · rw [h2' n]
        by_cases e1 : n = 400 + k
        · subst e1
          rw [if_neg (by omega), if_pos (by omega), g_upd_eq]
          exact congrArg t (by omega)
        · by_cases e2 : 400 + (k + 1) ≤ n ∧ n < 934
          · rw [if_pos e2, if_pos (by omega), g_upd_ne (by omega)]
          · rw [if_neg e2, if_neg (by omega), g_upd_ne e1]
/-- the deed's end: the answer, nothing thrown, the row that was held is now the newest past -/
theorem ends_lt {s : Nat → Int32} {a : Int32} {c : Nat} (hc : c ≤ 3) (h : s 1300 = nI c) :
    (R_X8_ends s a).1 = a ∧ ∀ n, (R_X8_ends s a).2 n = if 400 + 178 * c ≤ n ∧ n < 400 + 178 * c + 178 then s (200 + (n - (400 + 178 * c))) else if n = 1302 then 0 else if n = 1300 then nI (c + 1) else s n := by
  have n4 : ¬ nI c = 4 := fun z => by
    have := congrArg Int32.toInt z
    rw [nI_toInt (by omega)] at this
    have e4 : (4 : Int32).toInt = 4 := rfl
    omega
  have e1 : nI c + 1 = nI (c + 1) := Int32.toInt_inj.mp (by
    rw [j_add (by rw [nI_toInt (by omega), j_1]; omega) (by rw [nI_toInt (by omega), j_1]; omega), nI_toInt (by omega), nI_toInt (by omega), j_1]; omega)
  unfold R_X8_ends R_X8_ends_49
  rw [h, if_neg n4, ← e1]
  exact ends_51_at hc 179 0 s (by omega) (by omega) h
theorem ends_4 {s : Nat → Int32} {a : Int32} (h : s 1300 = 4) :
    (R_X8_ends s a).1 = a ∧ ∀ n, (R_X8_ends s a).2 n = if 934 ≤ n ∧ n < 1112 then s (200 + (n - 934)) else if 400 ≤ n ∧ n < 934 then s (n + 178) else if n = 1302 then 0 else s n := by
  unfold R_X8_ends
  rw [h, if_pos rfl]
  obtain ⟨t', h1, h2⟩ := ends_10_at (s := s) (a := a) 535 0 s (by omega) (by omega)
  rw [h1, h]
  unfold R_X8_ends_49
  obtain ⟨q1, q2⟩ := ends_51_at (s := s) (a := a) (c := 3) (by omega) 179 0 (upd t' 1300 (4 - 1)) (by omega) (by omega) (by rw [g_upd_eq]; rfl)
  refine ⟨q1, fun n => ?_⟩
  rw [q2 n]
  by_cases e1 : 934 ≤ n ∧ n < 1112
  · rw [if_pos (by omega), if_pos e1, g_upd_ne (by omega), h2, if_neg (by omega)]
  · rw [if_neg (by omega), if_neg e1]
    by_cases e2 : n = 1302
    · subst e2; rw [if_pos rfl, if_neg (by omega), if_pos rfl]
    · rw [if_neg e2]
      by_cases e3 : n = 1300
      · subst e3
        rw [if_pos rfl, if_neg (by omega), if_neg (by omega), h]
        rfl
      · rw [if_neg e3, g_upd_ne e3, h2]
        by_cases e4 : 400 ≤ n ∧ n < 934
        · rw [if_pos (by omega), if_pos e4]
        · rw [if_neg (by omega), if_neg e4, if_neg e2]
theorem save_12_at {m : Nat → Int32} {pm : Nat → Nat} {c : Nat} (hp : g_Pm pm) (hc : c ≤ 3) (h : m 981 = nI c) :
    (R_X7_save_12 m pm).2 = pm ∧ (∀ k, k < 178 → (R_X7_save_12 m pm).1 (178 * pm c + k) = m k) ∧ ∀ n, (n < 178 * pm c ∨ 178 * pm c + 178 ≤ n) → (R_X7_save_12 m pm).1 n = if n = 981 then nI (c + 1) else m n := by
  have hq := hp c (by omega)
  have e1 : nI c + 1 = nI (c + 1) := Int32.toInt_inj.mp (by
    rw [j_add (by rw [nI_toInt (by omega), j_1]; omega) (by rw [nI_toInt (by omega), j_1]; omega), nI_toInt (by omega), nI_toInt (by omega), j_1]; omega)
  unfold R_X7_save_12
  rw [h, nI_clamp (by omega)]
  refine ⟨rfl, fun k hk => ?_, fun n hn => ?_⟩
  · dsimp only
    rw [g_upd_ne (by omega), cp_at (by omega) hk]
    exact congrArg m (by omega)
  · dsimp only
    by_cases e : n = 981
    · subst e
      rw [g_upd_eq, if_pos rfl, cp_ne (by omega) (by omega), h, e1]
    · rw [g_upd_ne e, if_neg e, cp_ne (by omega) hn]
theorem g_Pi.drop {pm : Nat → Nat} (h : g_Pi pm) : g_Pi (R_X7_drop pm) := by
  intro i j hi hj e
  have a : i = 0 ∨ i = 1 ∨ i = 2 ∨ i = 3 := by omega
  have b : j = 0 ∨ j = 1 ∨ j = 2 ∨ j = 3 := by omega
  have d0 : R_X7_drop pm 0 = pm 1 := rfl
  have d1 : R_X7_drop pm 1 = pm 2 := rfl
  have d2 : R_X7_drop pm 2 = pm 3 := rfl
  have d3 : R_X7_drop pm 3 = pm 0 := rfl
  rcases a with rfl | rfl | rfl | rfl <;> rcases b with rfl | rfl | rfl | rfl <;> simp only [d0, d1, d2, d3] at e ⊢ <;> first | rfl | (have := h _ _ (by omega) (by omega) e; omega)
theorem g_Bo.of {m t : Nat → Int32} (h : g_B0 t) (hb : ∀ d, 1 ≤ d → d < 5 → ∃ c, c < 5 ∧ ∀ k, k < 178 → t (178 * d + k) = m (178 * c + k)) (B : g_Bo m) : g_Bo t := fun d hd => by
  rcases Nat.eq_zero_or_pos d with e | e
  · subst e
    refine ⟨?_, fun k hk => ?_⟩
    · exact h.1
    · have := h.2 k hk
      rwa [show 178 * 0 + (58 + 9 * k + 8) = 58 + 9 * k + 8 by omega]
  · obtain ⟨c, hc, hk⟩ := hb d e hd
    refine ⟨?_, fun k hk' => ?_⟩
    · rw [hk 5 (by omega)]; exact (B c hc).1
    · rw [hk _ (by omega)]; exact (B c hc).2 k hk'
/-- a deed on the main cave, between the saving and the end -/
theorem save_ends {m s m' s' : Nat → Int32} {pm : Nat → Nat} {a : Int32} (R : g_Rel m s pm) (E : g_E m' s') (B : g_B0 m') (u : g_U (R_X7_save m pm).1 m') (v : g_Up (R_X8_hold s) s') :
    g_Rel m' (R_X8_ends s' a).2 (R_X7_save m pm).2 ∧ (R_X8_ends s' a).1 = a ∧ (R_X8_ends s' a).2 1302 = 0 := by
  obtain ⟨c, c1, c2, c3, c4⟩ := R.2.1
  obtain ⟨t1, t2, t3⟩ := R.T
  have qc : (nI c).toInt = (c : Int) := nI_toInt (by omega)
  have v1 : ∀ n, 378 ≤ n → n ≠ 1303 → s' n = s n := fun n h1 h2 => (v n (by omega) h2).trans (hold_ne (Or.inr h1))
  have v2 : ∀ n, 200 ≤ n → n < 378 → s' n = s (n - 200) := fun n h1 h2 => by rw [v n (by omega) (by omega), hold_at, if_pos ⟨h1, h2⟩]
  by_cases h4 : c = 4
  · subst h4
    have e3 : ¬ m 981 < 4 := by rw [c3]; decide
    have hs : R_X7_save m pm = R_X7_save_12 (upd m 981 3) (R_X7_drop pm) := by unfold R_X7_save; rw [if_neg e3]
    obtain ⟨k1, k2, k3⟩ := save_12_at (m := upd m 981 3) R.Pm.drop (c := 3) (by omega) (by rw [g_upd_eq]; rfl)
    have hp := R.Pm.drop 3 (by omega)
    rw [hs] at u ⊢
    obtain ⟨z1, z2⟩ := ends_4 (s := s') (a := a) ((v1 1300 (by omega) (by omega)).trans c2)
    have d3 : R_X7_drop pm 3 = pm 0 := rfl
    have dd : ∀ i, i < 3 → R_X7_drop pm i = pm (i + 1) := fun i hi => by
      have : i = 0 ∨ i = 1 ∨ i = 2 := by omega
      rcases this with rfl | rfl | rfl <;> rfl
    have blk : ∀ d, 1 ≤ d → d < 5 → d ≠ pm 0 → ∀ k, k < 178 → m' (178 * d + k) = m (178 * d + k) := fun d h1 h2 h3 k hk => by
      rw [u _ (by omega), k3 _ (by rw [d3]; omega), if_neg (by omega), g_upd_ne (by omega)]
    have blk0 : ∀ k, k < 178 → m' (178 * pm 0 + k) = m k := fun k hk => by
      have := R.Pm 0 (by omega)
      rw [u _ (by omega)]
      have := k2 k hk
      rw [d3] at this
      rw [this, g_upd_ne (by omega)]
    refine ⟨⟨?_, ⟨4, by omega, ?_, ?_, fun i hi => ?_⟩, ⟨?_, ?_, fun k hk => ?_⟩, ?_, ?_, ?_, ?_⟩, z1, ?_⟩
    · exact E.congr (fun _ _ => rfl) (fun n hn => by rw [z2, if_neg (by omega), if_neg (by omega), if_neg (by omega)])
    · rw [z2, if_neg (by omega), if_neg (by omega), if_neg (by omega), v1 _ (by omega) (by omega), c2]
    · rw [u _ (by omega), k3 _ (by omega), if_pos rfl]
    · rw [k1]
      by_cases e : i = 3
      · subst e
        refine R.E.congr (fun n hn => ?_) (fun n hn => ?_)
        · rw [d3]; exact blk0 n hn
        · rw [z2, if_pos (by omega), v2 _ (by omega) (by omega)]
          exact congrArg s (by omega)
      · have hq := R.Pm (i + 1) (by omega)
        refine (c4 (i + 1) (by omega)).congr (fun n hn => ?_) (fun n hn => ?_)
        · rw [dd i (by omega)]
          exact blk _ hq.1 hq.2 (fun z => by have := R.Pi (i + 1) 0 (by omega) (by omega) z; omega) n hn
        · rw [z2, if_neg (by omega), if_pos (by omega), v1 _ (by omega) (by omega)]
          exact congrArg s (by omega)
    · rw [u _ (by omega), k3 _ (by omega), if_neg (by omega), g_upd_ne (by omega), z2, if_neg (by omega), if_neg (by omega), if_neg (by omega), v1 _ (by omega) (by omega)]
      exact t1
    · rw [z2, if_neg (by omega), if_neg (by omega), if_neg (by omega), v1 _ (by omega) (by omega)]
      exact t2
    · rw [z2, if_neg (by omega), if_neg (by omega), if_neg (by omega), v1 _ (by omega) (by omega)] at hk
      rw [z2, if_neg (by omega), if_neg (by omega), if_neg (by omega), v1 _ (by omega) (by omega), u _ (by omega), k3 _ (by omega), if_neg (by omega), g_upd_ne (by omega)]
      exact t3 k hk
    · refine g_Bo.of B (fun d h1 h2 => ?_) R.Bo
      by_cases e : d = pm 0
      · exact ⟨0, by omega, fun k hk => by rw [e, blk0 k hk]; exact congrArg m (by omega)⟩
      · exact ⟨d, h2, blk d h1 h2 e⟩
    · rw [k1]; exact R.Pm.drop
    · rw [k1]; exact R.Pi.drop
    · rw [k1]; exact R.p4
    · rw [z2, if_neg (by omega), if_neg (by omega), if_pos rfl]
  · have e3 : m 981 < 4 := by
      rw [c3]
      have e4 : (4 : Int32).toInt = 4 := rfl
      exact Int32.lt_iff_toInt_lt.mpr (by omega)
    have hs : R_X7_save m pm = R_X7_save_12 m pm := by unfold R_X7_save; rw [if_pos e3]
    obtain ⟨k1, k2, k3⟩ := save_12_at (m := m) R.Pm (c := c) (by omega) c3
    have hp := R.Pm c (by omega)
    rw [hs] at u ⊢
    obtain ⟨z1, z2⟩ := ends_lt (s := s') (a := a) (c := c) (by omega) ((v1 1300 (by omega) (by omega)).trans c2)
    have blk : ∀ d, 1 ≤ d → d < 5 → d ≠ pm c → ∀ k, k < 178 → m' (178 * d + k) = m (178 * d + k) := fun d h1 h2 h3 k hk => by
      rw [u _ (by omega), k3 _ (by omega), if_neg (by omega)]
    have blk0 : ∀ k, k < 178 → m' (178 * pm c + k) = m k := fun k hk => by
      rw [u _ (by omega)]
      exact k2 k hk
    refine ⟨⟨?_, ⟨c + 1, by omega, ?_, ?_, fun i hi => ?_⟩, ⟨?_, ?_, fun k hk => ?_⟩, ?_, ?_, ?_, ?_⟩, z1, ?_⟩
    · exact E.congr (fun _ _ => rfl) (fun n hn => by rw [z2, if_neg (by omega), if_neg (by omega), if_neg (by omega)])
    · rw [z2, if_neg (by omega), if_neg (by omega), if_pos rfl]
    · rw [u _ (by omega), k3 _ (by omega), if_pos rfl]
    · rw [k1]
      by_cases e : i = c
      · subst e
        refine R.E.congr (fun n hn => ?_) (fun n hn => ?_)
        · exact blk0 n hn
        · rw [z2, if_pos (by omega), v2 _ (by omega) (by omega)]
          exact congrArg s (by omega)
      · have hq := R.Pm i (by omega)
        refine (c4 i (by omega)).congr (fun n hn => ?_) (fun n hn => ?_)
        · exact blk _ hq.1 hq.2 (fun z => by have := R.Pi i c (by omega) (by omega) z; omega) n hn
        · rw [z2, if_neg (by omega), if_neg (by omega), if_neg (by omega), v1 _ (by omega) (by omega)]
    · rw [u _ (by omega), k3 _ (by omega), if_neg (by omega), z2, if_neg (by omega), if_neg (by omega), if_neg (by omega), v1 _ (by omega) (by omega)]
      exact t1
    · rw [z2, if_neg (by omega), if_neg (by omega), if_neg (by omega), v1 _ (by omega) (by omega)]
      exact t2
    · rw [z2, if_neg (by omega), if_neg (by omega), if_neg (by omega), v1 _ (by omega) (by omega)] at hk
      rw [z2, if_neg (by omega), if_neg (by omega), if_neg (by omega), v1 _ (by omega) (by omega), u _ (by omega), k3 _ (by omega), if_neg (by omega)]
      exact t3 k hk
    · refine g_Bo.of B (fun d h1 h2 => ?_) R.Bo
      by_cases e : d = pm c
      · exact ⟨0, by omega, fun k hk => by rw [e, blk0 k hk]; exact congrArg m (by omega)⟩
      · exact ⟨d, h2, blk d h1 h2 e⟩
    · rw [k1]; exact R.Pm
    · rw [k1]; exact R.Pi
    · rw [k1]; exact R.p4
    · rw [z2, if_neg (by omega), if_pos rfl]
end QA
