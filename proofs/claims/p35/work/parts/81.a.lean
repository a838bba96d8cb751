/-! ===== the law's looks are the reference's ===== -/
section VA
variable {s : Nat → Int32}
theorem up_sh {x : Int32} : ∀ (f n : Nat) (v : Int32), (n : Int) ≤ x.toInt → x.toInt < n + f → n + f ≤ 9 → R_X8_upFrom_4 s x f v n = v + R_X8_upFrom_4 s x f 0 n
  | 0, n, v, h, h', _ => absurd h' (by omega)
  | f + 1, n, v, h, h', h9 => by
    have hc : (nI n).toInt = (n : Int) := nI_toInt (by omega)
    unfold R_X8_upFrom_4
    by_cases a : x ≤ nI n
    · rw [if_pos a, if_pos a, Int32.add_zero]
    · have a' := j_nle a
      rw [if_neg a, if_neg a, up_sh f (n + 1) _ (by omega) (by omega) (by omega), up_sh f (n + 1) (0 + _) (by omega) (by omega) (by omega), Int32.zero_add, Int32.add_assoc]
theorem up_sn {k : Nat} (hk : k ≤ 6) : ∀ (f n : Nat) (v : Int32), n ≤ k → k + 1 < n + f → n + f ≤ 9 → R_X8_upFrom_4 s (nI (k + 1)) f v n = R_X8_upFrom_4 s (nI k) f v n + s (20 + k)
  | 0, n, v, h, h', _ => absurd h' (by omega)
  | f + 1, n, v, h, h', h9 => by
    have hc : (nI n).toInt = (n : Int) := nI_toInt (by omega)
    have hk1 : (nI (k + 1)).toInt = ((k + 1 : Nat) : Int) := nI_toInt (by omega)
    have hk0 : (nI k).toInt = (k : Int) := nI_toInt (by omega)
    unfold R_X8_upFrom_4
    rw [if_neg (fun z => by have := j_le z; omega)]
    by_cases e : n = k
    · subst e
      obtain ⟨g, rfl⟩ : ∃ g, f = g + 1 := ⟨f - 1, by omega⟩
      have hn1 : (nI (n + 1)).toInt = ((n + 1 : Nat) : Int) := nI_toInt (by omega)
      rw [if_pos (Int32.le_iff_toInt_le.mpr (by omega))]
      unfold R_X8_upFrom_4
      rw [if_pos (Int32.le_iff_toInt_le.mpr (by omega)), s20 (by omega) (by omega), nI_clamp (by omega)]
    · rw [if_neg (fun z => by have := j_le z; omega)]
      exact up_sn hk f (n + 1) _ (by omega) (by omega) (by omega)
theorem up_k {k : Nat} (hk : k ≤ 6) : R_X8_upFrom s (nI (k + 1)) = R_X8_upFrom s (nI k) + s (20 + k) := up_sn hk 8 0 0 (by omega) (by omega) (by omega)
theorem L_up : ∀ (k f : Nat) (v p : Int32), k ≤ 7 → k < f → p.toInt = (k : Int) - 1 → R_L_upFrom_6 s f v p = v + R_X8_upFrom s (nI k)
  | 0, f, v, p, _, h, hp => by
    obtain ⟨g, rfl⟩ : ∃ g, f = g + 1 := ⟨f - 1, by omega⟩
    unfold R_L_upFrom_6 R_X8_upFrom R_X8_upFrom_4
    rw [if_pos (Int32.lt_iff_toInt_lt.mpr (by rw [j_0]; omega)), if_pos (by decide), Int32.add_zero]
  | k + 1, f, v, p, h7, h, hp => by
    obtain ⟨g, rfl⟩ : ∃ g, f = g + 1 := ⟨f - 1, by omega⟩
    have h1 : (-1 : Int32).toInt = -1 := rfl
    have hj := j_nat (x := p) (by omega)
    unfold R_L_upFrom_6
    rw [if_neg (fun z => by have := j_lt z; rw [j_0] at this; omega), L_up k g _ _ (by omega) (by omega) (by rw [j_addE rfl h1 (by omega) (by omega)]; omega), up_k (by omega), show 20 + p.toNatClampNeg = 20 + k by omega, Int32.add_assoc, Int32.add_comm (s (20 + k))]
theorem Lx_up {x : Int32} (h0 : 0 ≤ x.toInt) (h7 : x.toInt ≤ 7) : R_L_upFrom s x = R_X8_upFrom s x := by
  have hj := j_nat h0
  unfold R_L_upFrom
  rw [L_up x.toNatClampNeg 8 0 _ (by omega) (by omega) (by rw [j_sub1 (by omega)]; omega), Int32.zero_add, ← j_nI h0]
theorem Lx_inTime {x st a : Int32} (hA : 0 ≤ (s (58 + 9 * x.toNatClampNeg + 1)).toInt) (h0 : 0 ≤ st.toInt) (h7 : st.toInt ≤ 7) : R_L_inTime s x st a = R_X8_isInTime s x st a := by
  unfold R_L_inTime R_X8_isInTime R_X8_isBelow R_L_inTime_23 R_L_inTime_28 R_L_inTime_48 R_X8_isInTime_19
  rw [Lx_up h0 h7]
  by_cases b : s (58 + 9 * x.toNatClampNeg + 2) = 1
  · simp only [if_pos b, i10]
  · by_cases c : s (58 + 9 * x.toNatClampNeg + 1) = 0
    · simp only [if_neg b, if_pos c, i00]
      rw [if_pos (show s (58 + 9 * x.toNatClampNeg + 1) ≤ 0 by rw [c]; decide), i00]
      exact if_pos trivial
    · have c2 : ¬ s (58 + 9 * x.toNatClampNeg + 1) ≤ 0 := fun z => c (Int32.toInt_inj.mp (by have := j_le z; rw [j_0] at this; rw [j_0]; omega))
      simp only [if_neg b, if_neg c, if_neg c2, i10]
theorem Lx_through (J : g_J s) {n : Nat} (hn : (n : Int) < (s 2).toInt) : R_L_through s (nI n) = R_X8_passageOf s (nI n) := by
  have h6 := J.1.2.2.1.2
  have p := J.2.2.1 n hn
  have h07 := J.1.1.2
  unfold R_L_through R_X8_passageOf
  rw [nI_clamp (by omega)]
  by_cases b : s (58 + 9 * n + 2) = 1
  · rw [if_pos b, if_pos b]
    obtain ⟨⟨d1, d2⟩, d3, -⟩ := p.2.2.2.2.1 b
    have p1 := p.1
    by_cases a : s (58 + 9 * n + 3) ≤ s (58 + 9 * n + 1)
    · have a' := j_le a
      rw [if_pos a, if_neg (fun z => by have := j_le z; omega)]
      exact Int32.toInt_inj.mp (by rw [j_sub1 (by omega)]; omega)
    · have a' := j_nle a
      rw [if_neg a, if_pos (Int32.le_iff_toInt_le.mpr (by omega))]
  · rw [if_neg b, if_neg b]
theorem Lx_many4 (J : g_J s) {p : Int32} : ∀ (f n : Nat) (v : Int32), n + f ≤ 7 → R_L_many_5 s p f v n = R_X8_walkers_4 s p f v n
  | 0, _, _, _ => rfl
  | f + 1, n, v, h => by
    have hc : (nI n).toInt = (n : Int) := nI_toInt (by omega)
    unfold R_L_many_5 R_X8_walkers_4 R_L_many_29 R_X8_walkers_29
    by_cases a : s 2 ≤ nI n
    · rw [if_pos a, if_pos a]
    · have a' := j_nle a
      rw [if_neg a, if_neg a, Lx_through J (by omega), Lx_many4 J f (n + 1) _ (by omega), Lx_many4 J f (n + 1) _ (by omega)]
theorem Lx_many (J : g_J s) (p : Int32) : R_L_many s p = R_X8_walkers s p := Lx_many4 J _ _ _ (by omega)
theorem Lx_rig4 {p : Int32} : ∀ (f n : Nat) (v : Int32), n + f ≤ 7 → R_L_rigger_5 s p f v n = R_X8_rigger_4 s p f v n
  | 0, _, _, _ => rfl
  | f + 1, n, v, h => by
    unfold R_L_rigger_5 R_X8_rigger_4 R_L_rigger_44 R_L_rigger_45 R_X8_rigger_38 R_X8_rigger_39
    rw [nI_clamp (by omega), Lx_rig4 f (n + 1) _ (by omega), Lx_rig4 f (n + 1) _ (by omega)]
theorem Lx_rigger (p : Int32) : R_L_rigger s p = R_X8_rigger s p := Lx_rig4 _ _ _ (by omega)
theorem Lx_100 (J : g_J s) {x y t e u : Int32} (hA : 0 ≤ (s (58 + 9 * x.toNatClampNeg + 1)).toInt) (y0 : 0 ≤ y.toInt) (y7 : y.toInt ≤ 7) (t0 : 0 ≤ t.toInt) (t1 : t.toInt < 7) (he : e = R_X8_effort s t u) (hu : u = 0 ↔ ¬ y ≤ s (58 + 9 * x.toNatClampNeg + 1)) : R_L_why_100 s x y t e = R_X8_reason_69 s x y u t := by
  have hj := j_nat t0
  have q := (J.2.1 t.toNatClampNeg (by omega)).2.2.1
  have m1 : (-1 : Int32).toInt = -1 := rfl
  unfold R_L_why_100 R_L_why_120 R_X8_reason_69 R_X8_isShut
  rw [s13 t0 (by omega), s27 t0 (by omega), s20 t0 (by omega), Lx_inTime hA y0 y7, he]
  have k : (if s (58 + 9 * x.toNatClampNeg + 6) + R_X8_effort s t u ≤ 100 then (if y ≤ s (58 + 9 * x.toNatClampNeg + 1) then 0 else if R_X8_isInTime s x y (s (20 + t.toNatClampNeg)) = 0 then 5 else 0) else 4) = (if s (58 + 9 * x.toNatClampNeg + 6) + R_X8_effort s t u ≤ 100 then (if u = 0 then (if R_X8_isInTime s x y (s (20 + t.toNatClampNeg)) = 0 then 5 else 0) else 0) else 4 : Int32) := by
    by_cases z : u = 0
    · rw [if_pos z, if_neg (hu.mp z)]
    · rw [if_neg z, if_pos (Classical.byContradiction fun w => z (hu.mpr w))]
  by_cases d : s (13 + t.toNatClampNeg) ≤ 0
  · simp only [if_pos d, i00]
    exact k
  · by_cases f : s (27 + t.toNatClampNeg) = -1
    · simp only [if_neg d, if_pos f, i10]
      rw [f, if_neg (by decide)]
    · have f2 : (0 : Int32) ≤ s (27 + t.toNatClampNeg) := Int32.le_iff_toInt_le.mpr (by
        have : (s (27 + t.toNatClampNeg)).toInt ≠ -1 := fun z => f (Int32.toInt_inj.mp (by rw [z, m1]))
        rw [j_0]; omega)
      simp only [if_neg d, if_neg f, if_pos f2, i00]
      exact k
theorem Lx_why (J : g_J s) {x : Int32} (y : Int32) (h0 : 0 ≤ x.toInt) (h1 : x.toInt < (s 2).toInt) : R_L_why s x y = R_X8_reason s x y := by
  have hx := j_nat h0
  have p := J.2.2.1 x.toNatClampNeg (by omega)
  obtain ⟨⟨a0, a7⟩, dd, -⟩ := p
  have h07 := J.1.1.2
  have k : ∀ t, (s (58 + 9 * x.toNatClampNeg + 1) ≤ y → t = s (58 + 9 * x.toNatClampNeg + 1)) → (¬ s (58 + 9 * x.toNatClampNeg + 1) ≤ y → t = y) → R_L_why_26 s x y t = R_X8_reason s x y := by
    intro t ht1 ht2
    unfold R_L_why_26 R_X8_reason R_X8_stands R_X8_in
    by_cases d : s (58 + 9 * x.toNatClampNeg + 2) = 0
    · rw [if_pos (show s (58 + 9 * x.toNatClampNeg + 2) ≤ 0 by rw [d]; decide), if_pos d, i10]
      by_cases b : y < 0
      · rw [if_pos b, if_pos b, i00]
      · have b' : (0 : Int) ≤ y.toInt := j_nltR b rfl
        by_cases c : s 0 < y
        · rw [if_neg b, if_pos c, if_neg b, if_pos c, i00]
        · have c' := j_nlt c
          rw [if_neg b, if_neg c, if_neg b, if_neg c, i10]
          by_cases q : (y - s (58 + 9 * x.toNatClampNeg + 1)) * (y - s (58 + 9 * x.toNatClampNeg + 1)) = 1
          · rw [if_pos q]
            rcases sq1 b' (by omega) a0 (by omega) (j_eqR q rfl) with e | e
            · have e1 : y = s (58 + 9 * x.toNatClampNeg + 1) + 1 := Int32.toInt_inj.mp (by rw [j_add1 (by omega)]; exact e)
              have le : s (58 + 9 * x.toNatClampNeg + 1) ≤ y := Int32.le_iff_toInt_le.mpr (by omega)
              rw [if_pos le, if_neg (fun z => by have := j_eq z; rw [j_sub1 (by omega)] at this; omega), if_pos e1]
              unfold R_L_why_96 R_X8_reason_47 R_X8_reason_57
              rw [if_pos le, if_pos rfl, ht1 le]
              refine Lx_100 J a0 b' (by omega) a0 (by omega) ?_ ⟨fun _ z => by have := j_le z; omega, fun _ => rfl⟩
              unfold R_X8_effort
              rw [if_pos rfl, Int32.mul_one, s20 a0 (by omega)]
            · have e1 : y = s (58 + 9 * x.toNatClampNeg + 1) - 1 := Int32.toInt_inj.mp (by rw [j_sub1 (by omega)]; exact e)
              have nle : ¬ s (58 + 9 * x.toNatClampNeg + 1) ≤ y := fun z => by have := j_le z; omega
              have hu : (1 : Int32) = 0 ↔ ¬ y ≤ s (58 + 9 * x.toNatClampNeg + 1) := ⟨fun z => absurd z (by decide), fun z => absurd (Int32.le_iff_toInt_le.mpr (by omega)) z⟩
              rw [if_neg nle, if_pos e1]
              unfold R_L_why_96 R_X8_reason_47 R_X8_reason_57
              rw [if_neg nle, i10, ht2 nle]
              by_cases g : s (13 + y.toNatClampNeg) ≤ 0
              · rw [if_pos g]
                refine Lx_100 J a0 b' (by omega) b' (by omega) ?_ hu
                unfold R_X8_effort
                rw [i10, s13 b' (by omega), if_pos g, Int32.mul_one, s20 b' (by omega)]
              · rw [if_neg g]
                refine Lx_100 J a0 b' (by omega) b' (by omega) ?_ hu
                unfold R_X8_effort
                rw [i10, s13 b' (by omega), if_neg g, Int32.mul_comm, s20 b' (by omega)]
          · rw [if_neg q]
            have n1 : ¬ y = s (58 + 9 * x.toNatClampNeg + 1) - 1 := fun z => q (by
              have e := j_subE (x := y) (y := s (58 + 9 * x.toNatClampNeg + 1)) (a := y.toInt) (b := y.toInt + 1) rfl (by have := j_eq z; rw [j_sub1 (by omega)] at this; omega) (by omega) (by omega)
              exact Int32.toInt_inj.mp (by rw [j_mulE (e.trans (by omega : _ = (-1 : Int))) (e.trans (by omega : _ = (-1 : Int))) (by decide) (by decide)]; rfl))
            have n2 : ¬ y = s (58 + 9 * x.toNatClampNeg + 1) + 1 := fun z => q (by
              have e := j_subE (x := y) (y := s (58 + 9 * x.toNatClampNeg + 1)) (a := y.toInt) (b := y.toInt - 1) rfl (by have := j_eq z; rw [j_add1 (by omega)] at this; omega) (by omega) (by omega)
              exact Int32.toInt_inj.mp (by rw [j_mulE (e.trans (by omega : _ = (1 : Int))) (e.trans (by omega : _ = (1 : Int))) (by decide) (by decide)]; rfl))
            rw [if_neg n1, if_neg n2]
    · have d2 : ¬ s (58 + 9 * x.toNatClampNeg + 2) ≤ 0 := fun z => by
        rcases dd with q | q | q
        · exact d q
        · rw [q] at z; exact absurd z (by decide)
        · rw [q] at z; exact absurd z (by decide)
      rw [if_neg d2, if_neg d, i00]
  unfold R_L_why
  by_cases a : s (58 + 9 * x.toNatClampNeg + 1) ≤ y
  · rw [if_pos a]; exact k _ (fun _ => rfl) (fun z => absurd a z)
  · rw [if_neg a]; exact k _ (fun z => absurd z a) (fun _ => rfl)
theorem Lx_sets {x y : Int32} (a0 : 0 ≤ (s (58 + 9 * x.toNatClampNeg + 1)).toInt) (y0 : 0 ≤ y.toInt) (y7 : y.toInt ≤ 7) (ne : y.toInt ≠ (s (58 + 9 * x.toNatClampNeg + 1)).toInt) : R_L_sets s x y = R_X8_sets s x y := by
  unfold R_L_sets R_L_sets_45 R_X8_sets R_X8_sets_26 R_X8_walks
  by_cases a : s (58 + 9 * x.toNatClampNeg + 1) ≤ y
  · have a' := j_le a
    have e := j_sub1 (x := y) (by omega)
    rw [if_pos a, if_pos a, s20 (by omega) (by omega)]
  · rw [if_neg a, if_neg a, s20 y0 y7]
theorem p20_1 {x : Int32} (h1 : 1 ≤ x.toInt) (h7 : x.toInt ≤ 7) : ((20 + x) - 1).toNatClampNeg = 20 + (x.toNatClampNeg - 1) := by
  have hj := j_nat (x := x) (by omega)
  have h20 : (20 : Int32).toInt = 20 := rfl
  have h1' : (1 : Int32).toInt = 1 := rfl
  have e := j_subE (x := 20 + x) (y := 1) (j_addE h20 rfl (by omega) (by omega)) h1' (by omega) (by omega)
  have hq := j_nat (x := 20 + x - 1) (by omega)
  omega
theorem p1_nat {x : Int32} (h1 : 1 ≤ x.toInt) : (x - 1).toNatClampNeg = x.toNatClampNeg - 1 := by
  have hj := j_nat (x := x) (by omega)
  have e := j_sub1 (x := x) (by omega)
  have hq := j_nat (x := x - 1) (by omega)
  omega
theorem Lx_could (J : g_J s) {x : Int32} (h0 : 0 ≤ x.toInt) (h1 : x.toInt < (s 2).toInt) : R_L_could s x = if R_X8_isCarryable s = 0 then 0 else R_X8_canCarry s x := by
  have hx := j_nat h0
  have p := J.2.2.1 x.toNatClampNeg (by omega)
  obtain ⟨⟨a0, a7⟩, dd, -⟩ := p
  have h07 := J.1.1.2
  obtain ⟨c0, c7⟩ := J.1.2.2.2.2.1
  have c5 := J.1.2.2.2.2.2.1
  have m1 : (-1 : Int32).toInt = -1 := rfl
  have six : ∀ v : Int32, (2 : Int32) * (3 * v) = 6 * v := fun v => by rw [← Int32.mul_assoc]; rfl
  unfold R_L_could R_L_could_37 R_X8_isCarryable R_X8_canCarry R_X8_stands R_X8_isShut
  rcases c5 with c5 | c5
  · rw [if_neg (show ¬ s 5 = 1 by rw [c5]; decide), if_pos c5]
    by_cases z : s 4 = 0
    · rw [if_pos z, if_pos (show s 4 ≤ 0 by rw [z]; decide), i00]
    · have z1 : 1 ≤ (s 4).toInt := by
        have : (s 4).toInt ≠ 0 := fun w => z (Int32.toInt_inj.mp (by rw [w]; rfl))
        omega
      have e := j_sub1 (x := s 4) (by omega)
      have hq := j_nat (x := s 4 - 1) (by omega)
      have q := (J.2.1 (s 4 - 1).toNatClampNeg (by omega)).2.2.1
      rw [if_neg z, if_neg (show ¬ s 4 ≤ 0 from fun w => by have := j_leR w j_0; omega), s13 (by omega) (by omega), s27 (by omega) (by omega), p20_1 z1 (by omega), ← p1_nat z1, six, Lx_inTime a0 (by omega) (by omega)]
      have k : ∀ w : Int32, w = 1 → (if s (58 + 9 * x.toNatClampNeg + 2) = 0 then (if s (58 + 9 * x.toNatClampNeg + 1) = s 4 then (if 100 < s (58 + 9 * x.toNatClampNeg + 6) + 6 * s (20 + (s 4 - 1).toNatClampNeg) then 0 else if R_X8_isInTime s x (s 4 - 1) (3 * s (20 + (s 4 - 1).toNatClampNeg)) = 0 then 0 else 1) else 0) else 0) = (if w = 0 then 0 else if (if s (58 + 9 * x.toNatClampNeg + 2) = 0 then 1 else 0 : Int32) = 0 then 0 else if s (58 + 9 * x.toNatClampNeg + 1) = s 4 then (if 100 < s (58 + 9 * x.toNatClampNeg + 6) + 6 * s (20 + (s 4 - 1).toNatClampNeg) then 0 else if R_X8_isInTime s x (s 4 - 1) (3 * s (20 + (s 4 - 1).toNatClampNeg)) = 0 then 0 else 1) else 0 : Int32) := by
        intro w hw
        rw [hw, i10]
        by_cases d : s (58 + 9 * x.toNatClampNeg + 2) = 0
        · rw [if_pos d, if_pos d, i10]
        · rw [if_neg d, if_neg d, i00]
      by_cases d : s (13 + (s 4 - 1).toNatClampNeg) ≤ 0
      · rw [if_pos d, if_pos d, i00]
        exact k 1 rfl
      · by_cases f : s (27 + (s 4 - 1).toNatClampNeg) = -1
        · rw [if_neg d, if_neg d, if_pos f, i10, i00, f, if_neg (by decide)]
        · have f2 : (0 : Int32) ≤ s (27 + (s 4 - 1).toNatClampNeg) := Int32.le_iff_toInt_le.mpr (by
            have : (s (27 + (s 4 - 1).toNatClampNeg)).toInt ≠ -1 := fun z => f (Int32.toInt_inj.mp (by rw [z, m1]))
            rw [j_0]; omega)
          rw [if_neg d, if_neg d, if_neg f, i00, if_pos f2]
          exact k 1 rfl
  · rw [if_pos c5, if_neg (show ¬ s 5 = 0 by rw [c5]; decide), i00]
end VA
