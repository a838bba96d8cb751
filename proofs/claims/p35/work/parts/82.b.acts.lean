/-! ===== the law: what it does ===== -/
theorem nz0 {x : Int32} (h : x.toInt ≠ 0) : ¬ x = 0 := fun e => h (by rw [e]; rfl)
theorem rem_b {x y : Int32} (h : 0 ≤ x.toInt) (hy : 0 < y.toInt) : 0 ≤ (x - x / y * y).toInt ∧ (x - x / y * y).toInt < y.toInt := by
  have hx := j_nat h
  have hq := j_nat (x := y) (by omega)
  have b1 := Int32.toInt_lt x
  have b2 := Int32.toInt_lt y
  rw [j_nI h, j_nI (x := y) (by omega), pk_rem (by omega) (by omega) (by omega)]
  have hm : x.toNatClampNeg % y.toNatClampNeg < y.toNatClampNeg := Nat.mod_lt _ (by omega)
  rw [nI_toInt (by omega), nI_toInt (by omega)]
  omega
theorem div_nn {x y : Int32} (h : 0 ≤ x.toInt) (hy : 0 < y.toInt) : 0 ≤ (x / y).toInt := by
  have b1 := Int32.toInt_lt x
  rw [Int32.toInt_div, Int.tdiv_eq_ediv_of_nonneg h]
  have h1 := Int.ediv_nonneg h (Int.le_of_lt hy)
  have h2 := Int.ediv_le_self y.toInt h
  rw [Int.bmod_eq_of_le (by omega) (by omega)]
  exact h1
theorem low_b {s : Nat → Int32} {x y : Int32} {b : Int} (hb : y.toInt = b) (h : 0 < b) : 0 ≤ (R_L_low s x y).toInt ∧ (R_L_low s x y).toInt < b := by
  subst hb
  unfold R_L_low
  refine rem_b ?_ h
  obtain ⟨j, hj, he⟩ := pk_andE x (m := 2147483647) 31 rfl
  rw [he, nI_toInt (by omega)]
  omega
theorem L_hq {s : Nat → Int32} {x : Int32} (J : g_J s) (h0 : 0 ≤ x.toInt) (h1 : x.toInt < (s 2).toInt) : 0 ≤ (s (58 + 9 * x.toNatClampNeg + 1)).toInt ∧ (s (58 + 9 * x.toNatClampNeg + 1)).toInt ≤ 7 ∧ (s (58 + 9 * x.toNatClampNeg + 5)).toInt < 8 ∧ ((s (58 + 9 * x.toNatClampNeg + 2)).toInt = 0 ∨ (s (58 + 9 * x.toNatClampNeg + 2)).toInt = 1 ∨ (s (58 + 9 * x.toNatClampNeg + 2)).toInt = 2) ∧ ((s (58 + 9 * x.toNatClampNeg + 2)).toInt = 1 → 0 ≤ (s (58 + 9 * x.toNatClampNeg + 3)).toInt ∧ (s (58 + 9 * x.toNatClampNeg + 3)).toInt ≤ 7) ∧ ((s (58 + 9 * x.toNatClampNeg + 2)).toInt = 2 → (s (58 + 9 * x.toNatClampNeg + 1)).toInt < 7 ∧ 0 ≤ (s (58 + 9 * x.toNatClampNeg + 5)).toInt) := by
  have hx := j_nat h0
  have h6 := J.1.2.2.1.2
  exact L_hpj J (t := s) (fun _ _ => rfl) (by rw [nI_toInt (by omega)]; omega) (by omega)
theorem L_27 {s : Nat → Int32} {x : Int32} (J : g_J s) (h0 : 0 ≤ x.toInt) (h1 : x.toInt < 7) : (s (27 + x.toNatClampNeg)).toInt < 8 := by
  have hx := j_nat h0
  have := (J.2.1 x.toNatClampNeg (by omega)).2.2.2
  have := J.1.2.1.2
  omega
theorem nz_could {s : Nat → Int32} {x : Int32} (h : 0 ≤ (s 4).toInt) (c : ¬ R_L_could s x = 0) : 1 ≤ (s 4).toInt := by
  rcases Int.lt_or_le 0 (s 4).toInt with z | z
  · omega
  · exfalso
    have e : s 4 = 0 := Int32.toInt_inj.mp (by show (s 4).toInt = 0; omega)
    unfold R_L_could at c
    rw [if_pos e, ite_self] at c
    exact c rfl
theorem why_le {s : Nat → Int32} {x y : Int32} (h : R_L_why s x y ≤ 0) : (0 ≤ y.toInt ∧ y.toInt ≤ (s 0).toInt) ∧ y.toInt ≠ (s (58 + 9 * x.toNatClampNeg + 1)).toInt := by
  have k : ∀ t, R_L_why_26 s x y t ≤ 0 → (0 ≤ y.toInt ∧ y.toInt ≤ (s 0).toInt) ∧ y.toInt ≠ (s (58 + 9 * x.toNatClampNeg + 1)).toInt := by
    intro t h
    unfold R_L_why_26 at h
    by_cases a : s (58 + 9 * x.toNatClampNeg + 2) ≤ 0
    · rw [if_pos a] at h
      by_cases b : y < 0
      · rw [if_pos b] at h; exact absurd h (by decide)
      · rw [if_neg b] at h
        by_cases c : s 0 < y
        · rw [if_pos c] at h; exact absurd h (by decide)
        · rw [if_neg c] at h
          by_cases d : (y - s (58 + 9 * x.toNatClampNeg + 1)) * (y - s (58 + 9 * x.toNatClampNeg + 1)) = 1
          · refine ⟨⟨j_nltR b rfl, j_nlt c⟩, fun e => ?_⟩
            rw [Int32.toInt_inj.mp e, Int32.sub_self] at d
            exact absurd d (by decide)
          · rw [if_neg d] at h; exact absurd h (by decide)
    · rw [if_neg a] at h; exact absurd h (by decide)
  unfold R_L_why at h
  split at h
  · exact k _ h
  · exact k _ h
def R_L_acts_581 (s : Nat → Int32) (K_521 : Nat → (Nat → Int32) → (Int32 × (Nat → Int32) × (Nat → Int32) × (Nat → Nat))) (j : Nat) (s_521 : Nat → Int32) (t0_581 : Int32) : (Int32 × (Nat → Int32) × (Nat → Int32) × (Nat → Nat)) := (K_521 (j + 1) (upd s_521 (58 + 9 * ((s (2)).toNatClampNeg) + j + 0) t0_581))
def R_L_acts_559 (s : Nat → Int32) (v10_11 : Int32) (K_521 : Nat → (Nat → Int32) → (Int32 × (Nat → Int32) × (Nat → Int32) × (Nat → Nat))) (j : Nat) (s_521 : Nat → Int32) (t0_559 : Int32) : (Int32 × (Nat → Int32) × (Nat → Int32) × (Nat → Nat)) := (R_L_acts_581 s K_521 j s_521 (30 + (v10_11 - v10_11 / t0_559 * t0_559)))
def R_L_acts_576 (s : Nat → Int32) (K_521 : Nat → (Nat → Int32) → (Int32 × (Nat → Int32) × (Nat → Int32) × (Nat → Nat))) (j : Nat) (s_521 : Nat → Int32) : (Int32 × (Nat → Int32) × (Nat → Int32) × (Nat → Nat)) := (R_L_acts_581 s K_521 j s_521 (-1))
def R_L_acts_521 (m : Nat → Int32) (s : Nat → Int32) (pm : Nat → Nat) (v10_11 : Int32) : Nat → Nat → (Nat → Int32) → (Int32 × (Nat → Int32) × (Nat → Int32) × (Nat → Nat))
  | 0, _, _ => (0, m, s, pm)
  | f + 1, j, s_521 => (if 9 ≤ (nI j) then (if (g_wv (R_X7_addHelper m pm (s_521 (58 + 9 * ((s (2)).toNatClampNeg) + 0)))) = (((s_521 (2)) + 1) - 1) then (1, (R_X7_addHelper m pm (s_521 (58 + 9 * ((s (2)).toNatClampNeg) + 0))).2.1, (upd s_521 (2) ((s_521 (2)) + 1)), (R_X7_addHelper m pm (s_521 (58 + 9 * ((s (2)).toNatClampNeg) + 0))).2.2) else (0, (R_X7_addHelper m pm (s_521 (58 + 9 * ((s (2)).toNatClampNeg) + 0))).2.1, (upd s_521 (2) ((s_521 (2)) + 1)), (R_X7_addHelper m pm (s_521 (58 + 9 * ((s (2)).toNatClampNeg) + 0))).2.2)) else (if (nI j) = 0 then (if (v10_11 - v10_11 / 2 * 2) = 0 then (R_L_acts_559 s v10_11 (R_L_acts_521 m s pm v10_11 f) j s_521 571) else (R_L_acts_559 s v10_11 (R_L_acts_521 m s pm v10_11 f) j s_521 60)) else (if (nI j) = 3 then (R_L_acts_576 s (R_L_acts_521 m s pm v10_11 f) j s_521 ) else (if (nI j) = 5 then (R_L_acts_576 s (R_L_acts_521 m s pm v10_11 f) j s_521 ) else (R_L_acts_581 s (R_L_acts_521 m s pm v10_11 f) j s_521 0)))))
def R_L_acts_473 (m : Nat → Int32) (s : Nat → Int32) (pm : Nat → Nat) (v10_11 : Int32) : (Int32 × (Nat → Int32) × (Nat → Int32) × (Nat → Nat)) := (if (s (2)) = 6 then (if (g_wv (R_X7_addHelper m pm ((30) : Int32))) = -2000003 then (if (g_wv (R_X7_addHelper ((R_X7_addHelper m pm ((30) : Int32)).2.1) ((R_X7_addHelper m pm ((30) : Int32)).2.2) ((601) : Int32))) = -2000002 then (1, (R_X7_addHelper ((R_X7_addHelper m pm ((30) : Int32)).2.1) ((R_X7_addHelper m pm ((30) : Int32)).2.2) ((601) : Int32)).2.1, s, (R_X7_addHelper ((R_X7_addHelper m pm ((30) : Int32)).2.1) ((R_X7_addHelper m pm ((30) : Int32)).2.2) ((601) : Int32)).2.2) else (0, (R_X7_addHelper ((R_X7_addHelper m pm ((30) : Int32)).2.1) ((R_X7_addHelper m pm ((30) : Int32)).2.2) ((601) : Int32)).2.1, s, (R_X7_addHelper ((R_X7_addHelper m pm ((30) : Int32)).2.1) ((R_X7_addHelper m pm ((30) : Int32)).2.2) ((601) : Int32)).2.2)) else (0, (R_X7_addHelper m pm ((30) : Int32)).2.1, s, (R_X7_addHelper m pm ((30) : Int32)).2.2)) else (R_L_acts_521 m s pm v10_11 10 0 s))
def R_L_acts_1809 (m : Nat → Int32) (s : Nat → Int32) (pm : Nat → Nat) (v15_1803 : Int32) : Nat → Int32 → Nat → (Nat → Int32) → (Int32 × (Nat → Int32) × (Nat → Int32) × (Nat → Nat))
  | 0, _, _, _ => (0, m, s, pm)
  | f + 1, v16_1809, j, s_1809 => (if v15_1803 ≤ (nI j) then (if (g_wv (R_X7_pass m pm v15_1803)) = v16_1809 then (1, (R_X7_pass m pm v15_1803).2.1, s_1809, (R_X7_pass m pm v15_1803).2.2) else (0, (R_X7_pass m pm v15_1803).2.1, s_1809, (R_X7_pass m pm v15_1803).2.2)) else ((R_L_acts_1809 m s pm v15_1803 f) (v16_1809 + (R_L_minute s_1809).1) (j + 1) ((R_L_minute s_1809).2)))
def R_L_acts_1803 (m : Nat → Int32) (s : Nat → Int32) (pm : Nat → Nat) (v15_1803 : Int32) : (Int32 × (Nat → Int32) × (Nat → Int32) × (Nat → Nat)) := (R_L_acts_1809 m s pm v15_1803 41 0 0 s)
def R_L_acts_1799 (m : Nat → Int32) (s : Nat → Int32) (pm : Nat → Nat) (v10_11 : Int32) (t0_1799 : Int32) : (Int32 × (Nat → Int32) × (Nat → Int32) × (Nat → Nat)) := (R_L_acts_1803 m s pm (1 + (v10_11 - v10_11 / t0_1799 * t0_1799)))
def R_L_acts_1781 (m : Nat → Int32) (s : Nat → Int32) (pm : Nat → Nat) (v10_11 : Int32) : (Int32 × (Nat → Int32) × (Nat → Int32) × (Nat → Nat)) := (if (v10_11 - v10_11 / 6 * 6) = 0 then (R_L_acts_1799 m s pm v10_11 40) else (R_L_acts_1799 m s pm v10_11 9))
def R_L_acts_1683 (m : Nat → Int32) (s : Nat → Int32) (pm : Nat → Nat) (v12_691 : Int32) : (Int32 × (Nat → Int32) × (Nat → Int32) × (Nat → Nat)) := (if (g_wv (R_X7_send m pm v12_691)) = -2000003 then (1, (R_X7_send m pm v12_691).2.1, s, (R_X7_send m pm v12_691).2.2) else (0, (R_X7_send m pm v12_691).2.1, s, (R_X7_send m pm v12_691).2.2))
def R_L_acts_1762 (m : Nat → Int32) (pm : Nat → Nat) (v12_691 : Int32) (s_1762 : Nat → Int32) : (Int32 × (Nat → Int32) × (Nat → Int32) × (Nat → Nat)) := (if (g_wv (R_X7_send m pm v12_691)) = (s_1762 (6)) then (1, (R_X7_send m pm v12_691).2.1, s_1762, (R_X7_send m pm v12_691).2.2) else (0, (R_X7_send m pm v12_691).2.1, s_1762, (R_X7_send m pm v12_691).2.2))
def R_L_acts_1700 (m : Nat → Int32) (s : Nat → Int32) (pm : Nat → Nat) (v12_691 : Int32) : (Int32 × (Nat → Int32) × (Nat → Int32) × (Nat → Nat)) := (if (s (58 + 9 * v12_691.toNatClampNeg + 1)) = 0 then (R_L_acts_1762 m pm v12_691 (upd s (7) ((s (7)) + 1))) else (R_L_acts_1762 m pm v12_691 (upd (upd (upd (upd s (112 + 3 * ((s (6)).toNatClampNeg)) v12_691) (113 + 3 * ((s (6)).toNatClampNeg)) (s (3))) (114 + 3 * ((s (6)).toNatClampNeg)) (s (58 + 9 * v12_691.toNatClampNeg + 1))) (6) ((s (6)) + 1))))
def R_L_acts_1652 (m : Nat → Int32) (s : Nat → Int32) (pm : Nat → Nat) (v10_11 : Int32) (v11_20 : Int32) (v12_691 : Int32) : (Int32 × (Nat → Int32) × (Nat → Int32) × (Nat → Nat)) := (if v11_20 = 21 then (if 0 < (s (58 + 9 * v12_691.toNatClampNeg + 2)) then (R_L_acts_1683 m s pm v12_691 ) else (if (s (58 + 9 * v12_691.toNatClampNeg + 1)) ≤ 0 then (R_L_acts_1700 m s pm v12_691 ) else (if (s (6)) = 10 then (R_L_acts_1683 m s pm v12_691 ) else (R_L_acts_1700 m s pm v12_691 )))) else (R_L_acts_1781 m s pm v10_11 ))
def R_L_acts_1621 (m : Nat → Int32) (s : Nat → Int32) (pm : Nat → Nat) (v15_1381 : Int32) (s_1558 : Nat → Int32) (t0_1621 : Int32) : (Int32 × (Nat → Int32) × (Nat → Int32) × (Nat → Nat)) := (if (g_wv (R_X7_carry m pm v15_1381)) = (3 * (s (20 + ((s (4)).toNatClampNeg - 1)))) then (1, (R_X7_carry m pm v15_1381).2.1, (upd (upd (upd (upd (upd (upd s_1558 (142) (s_1558 (3))) (143) (s_1558 (4))) (144) v15_1381) (12) ((s_1558 (12)) + t0_1621)) (8) ((s_1558 (8)) + 1)) (5) 1), (R_X7_carry m pm v15_1381).2.2) else (0, (R_X7_carry m pm v15_1381).2.1, (upd (upd (upd (upd (upd (upd s_1558 (142) (s_1558 (3))) (143) (s_1558 (4))) (144) v15_1381) (12) ((s_1558 (12)) + t0_1621)) (8) ((s_1558 (8)) + 1)) (5) 1), (R_X7_carry m pm v15_1381).2.2))
def R_L_acts_1558 (m : Nat → Int32) (s : Nat → Int32) (pm : Nat → Nat) (v15_1381 : Int32) : Nat → Nat → (Nat → Int32) → (Int32 × (Nat → Int32) × (Nat → Int32) × (Nat → Nat))
  | 0, _, _ => (0, m, s, pm)
  | f + 1, e, s_1558 => (if (nI e) ≤ 2 then (if 12 ≤ (s_1558 (12)) then (R_L_acts_1621 m s pm v15_1381 s_1558 0) else (R_L_acts_1621 m s pm v15_1381 s_1558 1)) else ((R_L_acts_1558 m s pm v15_1381 f) (e - 1) (upd s_1558 (142 + e) (s_1558 (142 + (e - 3))))))
def R_L_acts_1548 (K_1479 : Nat → (Nat → Int32) → (Int32 × (Nat → Int32) × (Nat → Int32) × (Nat → Nat))) (i : Nat) (s_1548 : Nat → Int32) : (Int32 × (Nat → Int32) × (Nat → Int32) × (Nat → Nat)) := (K_1479 (i + 1) s_1548)
def R_L_acts_1479 (m : Nat → Int32) (s : Nat → Int32) (pm : Nat → Nat) (v15_1381 : Int32) : Nat → Nat → (Nat → Int32) → (Int32 × (Nat → Int32) × (Nat → Int32) × (Nat → Nat))
  | 0, _, _ => (0, m, s, pm)
  | f + 1, i, s_1479 => (if (s_1479 (2)) ≤ (nI i) then (R_L_acts_1558 m s pm v15_1381 36 35 s_1479) else (if ((v15_1381 >>> ((nI i) &&& 31)) &&& 1) = 1 then (R_L_acts_1548 (R_L_acts_1479 m s pm v15_1381 f) i (upd (upd (upd (upd s_1479 (58 + 9 * i + 2) 1) (58 + 9 * i + 3) ((s_1479 (4)) - 1)) (58 + 9 * i + 4) (3 * (s (20 + ((s (4)).toNatClampNeg - 1))))) (58 + 9 * i + 8) 1)) else (R_L_acts_1548 (R_L_acts_1479 m s pm v15_1381 f) i s_1479)))
def R_L_acts_1433 (K_1381 : Int32 → Int32 → Nat → (Int32 × (Nat → Int32) × (Nat → Int32) × (Nat → Nat))) (v15_1381 : Int32) (v16_1381 : Int32) (j : Nat) (t0_1418 : Int32) (t0_1433 : Int32) : (Int32 × (Nat → Int32) × (Nat → Int32) × (Nat → Nat)) := (K_1381 (v15_1381 ||| t0_1418) (v16_1381 + t0_1433) (j + 1))
def R_L_acts_1418 (s : Nat → Int32) (K_1381 : Int32 → Int32 → Nat → (Int32 × (Nat → Int32) × (Nat → Int32) × (Nat → Nat))) (v15_1381 : Int32) (v16_1381 : Int32) (j : Nat) (t0_1418 : Int32) : (Int32 × (Nat → Int32) × (Nat → Int32) × (Nat → Nat)) := (if (R_L_could s (nI j)) = 0 then (R_L_acts_1433 K_1381 v15_1381 v16_1381 j t0_1418 0) else (R_L_acts_1433 K_1381 v15_1381 v16_1381 j t0_1418 1))
def R_L_acts_1381 (m : Nat → Int32) (s : Nat → Int32) (pm : Nat → Nat) : Nat → Int32 → Int32 → Nat → (Int32 × (Nat → Int32) × (Nat → Int32) × (Nat → Nat))
  | 0, _, _, _ => (0, m, s, pm)
  | f + 1, v15_1381, v16_1381, j => (if (s (2)) ≤ (nI j) then (if 3 ≤ v16_1381 then (R_L_acts_1479 m s pm v15_1381 7 0 s) else (if (g_wv (R_X7_carry m pm v15_1381)) = -2000002 then (1, (R_X7_carry m pm v15_1381).2.1, s, (R_X7_carry m pm v15_1381).2.2) else (0, (R_X7_carry m pm v15_1381).2.1, s, (R_X7_carry m pm v15_1381).2.2))) else (if (R_L_could s (nI j)) = 0 then (R_L_acts_1418 s (R_L_acts_1381 m s pm f) v15_1381 v16_1381 j 0) else (R_L_acts_1418 s (R_L_acts_1381 m s pm f) v15_1381 v16_1381 j (1 <<< ((nI j) &&& 31)))))
def R_L_acts_1365 (m : Nat → Int32) (s : Nat → Int32) (pm : Nat → Nat) (v10_11 : Int32) (v11_20 : Int32) (v12_691 : Int32) : (Int32 × (Nat → Int32) × (Nat → Int32) × (Nat → Nat)) := (if 21 ≤ v11_20 then (R_L_acts_1652 m s pm v10_11 v11_20 v12_691 ) else (R_L_acts_1381 m s pm 7 0 0 0))
def R_L_acts_1288 (m : Nat → Int32) (s : Nat → Int32) (pm : Nat → Nat) (v12_691 : Int32) : (Int32 × (Nat → Int32) × (Nat → Int32) × (Nat → Nat)) := (if (g_wv (R_X7_takeOff m pm v12_691)) = -2000003 then (1, (R_X7_takeOff m pm v12_691).2.1, s, (R_X7_takeOff m pm v12_691).2.2) else (0, (R_X7_takeOff m pm v12_691).2.1, s, (R_X7_takeOff m pm v12_691).2.2))
def R_L_acts_1234 (m : Nat → Int32) (s : Nat → Int32) (pm : Nat → Nat) (v10_11 : Int32) (v11_20 : Int32) (v12_691 : Int32) : (Int32 × (Nat → Int32) × (Nat → Int32) × (Nat → Nat)) := (if v11_20 = 18 then (if 0 < (s (58 + 9 * v12_691.toNatClampNeg + 2)) then (R_L_acts_1288 m s pm v12_691 ) else (if 0 ≤ (s (58 + 9 * v12_691.toNatClampNeg + 5)) then (R_L_acts_1288 m s pm v12_691 ) else (if (s (0)) ≤ (s (58 + 9 * v12_691.toNatClampNeg + 1)) then (R_L_acts_1288 m s pm v12_691 ) else (if (s (27 + (s (58 + 9 * v12_691.toNatClampNeg + 1)).toNatClampNeg)) < 0 then (R_L_acts_1288 m s pm v12_691 ) else (if (R_L_many s (s (58 + 9 * v12_691.toNatClampNeg + 1))) ≤ 0 then (if (g_wv (R_X7_takeOff m pm v12_691)) = (s (27 + (s (58 + 9 * v12_691.toNatClampNeg + 1)).toNatClampNeg)) then (1, (R_X7_takeOff m pm v12_691).2.1, (upd (upd (upd (upd s (27 + (s (58 + 9 * v12_691.toNatClampNeg + 1)).toNatClampNeg) (-1)) (58 + 9 * v12_691.toNatClampNeg + 5) (s (27 + (s (58 + 9 * v12_691.toNatClampNeg + 1)).toNatClampNeg))) (35 + 3 * ((s (27 + (s (58 + 9 * v12_691.toNatClampNeg + 1)).toNatClampNeg)).toNatClampNeg)) 1) (36 + 3 * ((s (27 + (s (58 + 9 * v12_691.toNatClampNeg + 1)).toNatClampNeg)).toNatClampNeg)) v12_691), (R_X7_takeOff m pm v12_691).2.2) else (0, (R_X7_takeOff m pm v12_691).2.1, (upd (upd (upd (upd s (27 + (s (58 + 9 * v12_691.toNatClampNeg + 1)).toNatClampNeg) (-1)) (58 + 9 * v12_691.toNatClampNeg + 5) (s (27 + (s (58 + 9 * v12_691.toNatClampNeg + 1)).toNatClampNeg))) (35 + 3 * ((s (27 + (s (58 + 9 * v12_691.toNatClampNeg + 1)).toNatClampNeg)).toNatClampNeg)) 1) (36 + 3 * ((s (27 + (s (58 + 9 * v12_691.toNatClampNeg + 1)).toNatClampNeg)).toNatClampNeg)) v12_691), (R_X7_takeOff m pm v12_691).2.2)) else (R_L_acts_1288 m s pm v12_691 )))))) else (R_L_acts_1365 m s pm v10_11 v11_20 v12_691 ))
def R_L_acts_1176 (m : Nat → Int32) (s : Nat → Int32) (pm : Nat → Nat) (v12_691 : Int32) (t0_1176 : Int32) : (Int32 × (Nat → Int32) × (Nat → Int32) × (Nat → Nat)) := (if t0_1176 = 0 then (if (g_wv (R_X7_rig m pm v12_691)) = -2000003 then (1, (R_X7_rig m pm v12_691).2.1, s, (R_X7_rig m pm v12_691).2.2) else (0, (R_X7_rig m pm v12_691).2.1, s, (R_X7_rig m pm v12_691).2.2)) else (if (g_wv (R_X7_rig m pm v12_691)) = (s (58 + 9 * v12_691.toNatClampNeg + 1)) then (1, (R_X7_rig m pm v12_691).2.1, (upd (upd s (58 + 9 * v12_691.toNatClampNeg + 2) 2) (58 + 9 * v12_691.toNatClampNeg + 4) 10), (R_X7_rig m pm v12_691).2.2) else (0, (R_X7_rig m pm v12_691).2.1, (upd (upd s (58 + 9 * v12_691.toNatClampNeg + 2) 2) (58 + 9 * v12_691.toNatClampNeg + 4) 10), (R_X7_rig m pm v12_691).2.2)))
def R_L_acts_1175 (m : Nat → Int32) (s : Nat → Int32) (pm : Nat → Nat) (v12_691 : Int32) : (Int32 × (Nat → Int32) × (Nat → Int32) × (Nat → Nat)) := (R_L_acts_1176 m s pm v12_691 0)
def R_L_acts_1112 (m : Nat → Int32) (s : Nat → Int32) (pm : Nat → Nat) (v12_691 : Int32) (t0_1112 : Int32) : (Int32 × (Nat → Int32) × (Nat → Int32) × (Nat → Nat)) := (if (s (13 + t0_1112.toNatClampNeg)) ≤ 0 then (R_L_acts_1175 m s pm v12_691 ) else (if 0 ≤ (s (27 + (s (58 + 9 * v12_691.toNatClampNeg + 1)).toNatClampNeg)) then (R_L_acts_1175 m s pm v12_691 ) else (if 0 ≤ (R_L_rigger s (s (58 + 9 * v12_691.toNatClampNeg + 1))) then (R_L_acts_1175 m s pm v12_691 ) else (if (s (34 + 3 * ((s (58 + 9 * v12_691.toNatClampNeg + 5)).toNatClampNeg))) < ((s (13 + (s (58 + 9 * v12_691.toNatClampNeg + 1)).toNatClampNeg)) + 3) then (R_L_acts_1175 m s pm v12_691 ) else (if (R_L_inTime s v12_691 (s (58 + 9 * v12_691.toNatClampNeg + 1)) 10) = 0 then (R_L_acts_1175 m s pm v12_691 ) else (R_L_acts_1176 m s pm v12_691 1))))))
def R_L_acts_1062 (m : Nat → Int32) (s : Nat → Int32) (pm : Nat → Nat) (v10_11 : Int32) (v11_20 : Int32) (v12_691 : Int32) : (Int32 × (Nat → Int32) × (Nat → Int32) × (Nat → Nat)) := (if 18 ≤ v11_20 then (R_L_acts_1234 m s pm v10_11 v11_20 v12_691 ) else (if (s (58 + 9 * v12_691.toNatClampNeg + 2)) = 0 then (if (s (58 + 9 * v12_691.toNatClampNeg + 5)) < 0 then (R_L_acts_1175 m s pm v12_691 ) else (if (s (0)) ≤ (s (58 + 9 * v12_691.toNatClampNeg + 1)) then (R_L_acts_1175 m s pm v12_691 ) else (if 7 ≤ (s (58 + 9 * v12_691.toNatClampNeg + 1)) then (R_L_acts_1112 m s pm v12_691 6) else (R_L_acts_1112 m s pm v12_691 (s (58 + 9 * v12_691.toNatClampNeg + 1)))))) else (R_L_acts_1175 m s pm v12_691 )))
def R_L_acts_999 (m : Nat → Int32) (s : Nat → Int32) (pm : Nat → Nat) (v12_691 : Int32) : (Int32 × (Nat → Int32) × (Nat → Int32) × (Nat → Nat)) := (if (g_wv (R_X7_lay m pm v12_691)) = -2000003 then (1, (R_X7_lay m pm v12_691).2.1, s, (R_X7_lay m pm v12_691).2.2) else (0, (R_X7_lay m pm v12_691).2.1, s, (R_X7_lay m pm v12_691).2.2))
def R_L_acts_968 (m : Nat → Int32) (s : Nat → Int32) (pm : Nat → Nat) (v10_11 : Int32) (v11_20 : Int32) (v12_691 : Int32) : (Int32 × (Nat → Int32) × (Nat → Int32) × (Nat → Nat)) := (if v11_20 = 15 then (if 0 < (s (58 + 9 * v12_691.toNatClampNeg + 2)) then (R_L_acts_999 m s pm v12_691 ) else (if 0 ≤ (s (58 + 9 * v12_691.toNatClampNeg + 5)) then (if (g_wv (R_X7_lay m pm v12_691)) = (s (58 + 9 * v12_691.toNatClampNeg + 5)) then (1, (R_X7_lay m pm v12_691).2.1, (upd (upd (upd s (58 + 9 * v12_691.toNatClampNeg + 5) (-1)) (35 + 3 * ((s (58 + 9 * v12_691.toNatClampNeg + 5)).toNatClampNeg)) 0) (36 + 3 * ((s (58 + 9 * v12_691.toNatClampNeg + 5)).toNatClampNeg)) (s (58 + 9 * v12_691.toNatClampNeg + 1))), (R_X7_lay m pm v12_691).2.2) else (0, (R_X7_lay m pm v12_691).2.1, (upd (upd (upd s (58 + 9 * v12_691.toNatClampNeg + 5) (-1)) (35 + 3 * ((s (58 + 9 * v12_691.toNatClampNeg + 5)).toNatClampNeg)) 0) (36 + 3 * ((s (58 + 9 * v12_691.toNatClampNeg + 5)).toNatClampNeg)) (s (58 + 9 * v12_691.toNatClampNeg + 1))), (R_X7_lay m pm v12_691).2.2)) else (R_L_acts_999 m s pm v12_691 ))) else (R_L_acts_1062 m s pm v10_11 v11_20 v12_691 ))
def R_L_acts_895 (m : Nat → Int32) (s : Nat → Int32) (pm : Nat → Nat) (v12_691 : Int32) (v15_849 : Int32) : (Int32 × (Nat → Int32) × (Nat → Int32) × (Nat → Nat)) := (if (g_wv (R_X7_take m pm v12_691 v15_849)) = -2000003 then (1, (R_X7_take m pm v12_691 v15_849).2.1, s, (R_X7_take m pm v12_691 v15_849).2.2) else (0, (R_X7_take m pm v12_691 v15_849).2.1, s, (R_X7_take m pm v12_691 v15_849).2.2))
def R_L_acts_849 (m : Nat → Int32) (s : Nat → Int32) (pm : Nat → Nat) (v12_691 : Int32) (v15_849 : Int32) : (Int32 × (Nat → Int32) × (Nat → Int32) × (Nat → Nat)) := (if 0 < (s (58 + 9 * v12_691.toNatClampNeg + 2)) then (R_L_acts_895 m s pm v12_691 v15_849 ) else (if 0 ≤ (s (58 + 9 * v12_691.toNatClampNeg + 5)) then (R_L_acts_895 m s pm v12_691 v15_849 ) else (if 0 < (s (35 + 3 * v15_849.toNatClampNeg)) then (R_L_acts_895 m s pm v12_691 v15_849 ) else (if (s (36 + 3 * v15_849.toNatClampNeg)) = (s (58 + 9 * v12_691.toNatClampNeg + 1)) then (if (g_wv (R_X7_take m pm v12_691 v15_849)) = (s (34 + 3 * v15_849.toNatClampNeg)) then (1, (R_X7_take m pm v12_691 v15_849).2.1, (upd (upd (upd s (58 + 9 * v12_691.toNatClampNeg + 5) v15_849) (35 + 3 * v15_849.toNatClampNeg) 1) (36 + 3 * v15_849.toNatClampNeg) v12_691), (R_X7_take m pm v12_691 v15_849).2.2) else (0, (R_X7_take m pm v12_691 v15_849).2.1, (upd (upd (upd s (58 + 9 * v12_691.toNatClampNeg + 5) v15_849) (35 + 3 * v15_849.toNatClampNeg) 1) (36 + 3 * v15_849.toNatClampNeg) v12_691), (R_X7_take m pm v12_691 v15_849).2.2)) else (R_L_acts_895 m s pm v12_691 v15_849 )))))
def R_L_acts_807 (m : Nat → Int32) (s : Nat → Int32) (pm : Nat → Nat) (v10_11 : Int32) (v11_20 : Int32) (v12_691 : Int32) : (Int32 × (Nat → Int32) × (Nat → Int32) × (Nat → Nat)) := (if 15 ≤ v11_20 then (R_L_acts_968 m s pm v10_11 v11_20 v12_691 ) else (if (s (1)) = 0 then (if (g_wv (R_X7_take m pm v12_691 ((0) : Int32))) = -2000001 then (1, (R_X7_take m pm v12_691 ((0) : Int32)).2.1, s, (R_X7_take m pm v12_691 ((0) : Int32)).2.2) else (0, (R_X7_take m pm v12_691 ((0) : Int32)).2.1, s, (R_X7_take m pm v12_691 ((0) : Int32)).2.2)) else (R_L_acts_849 m s pm v12_691 ((v10_11 / 6) - (v10_11 / 6) / (s (1)) * (s (1))))))
def R_L_acts_735 (m : Nat → Int32) (s : Nat → Int32) (pm : Nat → Nat) (v12_691 : Int32) (t0_735 : Int32) : (Int32 × (Nat → Int32) × (Nat → Int32) × (Nat → Nat)) := (if (R_L_why s v12_691 t0_735) ≤ 0 then (if (g_wv (R_X7_go m pm v12_691 t0_735)) = ((R_L_sets s v12_691 t0_735) (58 + 9 * v12_691.toNatClampNeg + 4)) then (1, (R_X7_go m pm v12_691 t0_735).2.1, (R_L_sets s v12_691 t0_735), (R_X7_go m pm v12_691 t0_735).2.2) else (0, (R_X7_go m pm v12_691 t0_735).2.1, (R_L_sets s v12_691 t0_735), (R_X7_go m pm v12_691 t0_735).2.2)) else (if (g_wv (R_X7_go m pm v12_691 t0_735)) = -2000003 then (1, (R_X7_go m pm v12_691 t0_735).2.1, s, (R_X7_go m pm v12_691 t0_735).2.2) else (0, (R_X7_go m pm v12_691 t0_735).2.1, s, (R_X7_go m pm v12_691 t0_735).2.2)))
def R_L_acts_691 (m : Nat → Int32) (s : Nat → Int32) (pm : Nat → Nat) (v10_11 : Int32) (v11_20 : Int32) (v12_691 : Int32) : (Int32 × (Nat → Int32) × (Nat → Int32) × (Nat → Nat)) := (if 13 ≤ v11_20 then (R_L_acts_807 m s pm v10_11 v11_20 v12_691 ) else (if ((v10_11 / 6) - (v10_11 / 6) / 4 * 4) = 0 then (R_L_acts_735 m s pm v12_691 ((s (58 + 9 * v12_691.toNatClampNeg + 1)) - 1)) else (R_L_acts_735 m s pm v12_691 ((s (58 + 9 * v12_691.toNatClampNeg + 1)) + 1))))
def R_L_acts_683 (m : Nat → Int32) (s : Nat → Int32) (pm : Nat → Nat) (v10_11 : Int32) (v11_20 : Int32) : (Int32 × (Nat → Int32) × (Nat → Int32) × (Nat → Nat)) := (R_L_acts_691 m s pm v10_11 v11_20 (v10_11 - v10_11 / (s (2)) * (s (2))))
def R_L_acts_618 (m : Nat → Int32) (s : Nat → Int32) (pm : Nat → Nat) (v10_11 : Int32) (v11_20 : Int32) : (Int32 × (Nat → Int32) × (Nat → Int32) × (Nat → Nat)) := (if v11_20 = 5 then (if (g_wv (R_X7_setSilence m pm ((s (3)) + (v10_11 - v10_11 / 9 * 9)) (((s (3)) + (v10_11 - v10_11 / 9 * 9)) + ((v10_11 / 9) - (v10_11 / 9) / 12 * 12)))) = (s (10)) then (1, (R_X7_setSilence m pm ((s (3)) + (v10_11 - v10_11 / 9 * 9)) (((s (3)) + (v10_11 - v10_11 / 9 * 9)) + ((v10_11 / 9) - (v10_11 / 9) / 12 * 12))).2.1, (upd (upd s (9) ((s (3)) + (v10_11 - v10_11 / 9 * 9))) (10) (((s (3)) + (v10_11 - v10_11 / 9 * 9)) + ((v10_11 / 9) - (v10_11 / 9) / 12 * 12))), (R_X7_setSilence m pm ((s (3)) + (v10_11 - v10_11 / 9 * 9)) (((s (3)) + (v10_11 - v10_11 / 9 * 9)) + ((v10_11 / 9) - (v10_11 / 9) / 12 * 12))).2.2) else (0, (R_X7_setSilence m pm ((s (3)) + (v10_11 - v10_11 / 9 * 9)) (((s (3)) + (v10_11 - v10_11 / 9 * 9)) + ((v10_11 / 9) - (v10_11 / 9) / 12 * 12))).2.1, (upd (upd s (9) ((s (3)) + (v10_11 - v10_11 / 9 * 9))) (10) (((s (3)) + (v10_11 - v10_11 / 9 * 9)) + ((v10_11 / 9) - (v10_11 / 9) / 12 * 12))), (R_X7_setSilence m pm ((s (3)) + (v10_11 - v10_11 / 9 * 9)) (((s (3)) + (v10_11 - v10_11 / 9 * 9)) + ((v10_11 / 9) - (v10_11 / 9) / 12 * 12))).2.2)) else (R_L_acts_683 m s pm v10_11 v11_20 ))
def R_L_acts_461 (m : Nat → Int32) (s : Nat → Int32) (pm : Nat → Nat) (v10_11 : Int32) (v11_20 : Int32) : (Int32 × (Nat → Int32) × (Nat → Int32) × (Nat → Nat)) := (if v11_20 = 4 then (R_L_acts_473 m s pm v10_11 ) else (if (s (2)) = 0 then (R_L_acts_473 m s pm v10_11 ) else (R_L_acts_618 m s pm v10_11 v11_20 )))
def R_L_acts_346 (m : Nat → Int32) (s : Nat → Int32) (pm : Nat → Nat) (v10_11 : Int32) (v11_20 : Int32) : (Int32 × (Nat → Int32) × (Nat → Int32) × (Nat → Nat)) := (if v11_20 = 3 then (if (s (1)) = 8 then (if (g_wv (R_X7_addRope m pm ((10) : Int32))) = -2000003 then (if (g_wv (R_X7_addRope ((R_X7_addRope m pm ((10) : Int32)).2.1) ((R_X7_addRope m pm ((10) : Int32)).2.2) ((9) : Int32))) = -2000002 then (1, (R_X7_addRope ((R_X7_addRope m pm ((10) : Int32)).2.1) ((R_X7_addRope m pm ((10) : Int32)).2.2) ((9) : Int32)).2.1, s, (R_X7_addRope ((R_X7_addRope m pm ((10) : Int32)).2.1) ((R_X7_addRope m pm ((10) : Int32)).2.2) ((9) : Int32)).2.2) else (0, (R_X7_addRope ((R_X7_addRope m pm ((10) : Int32)).2.1) ((R_X7_addRope m pm ((10) : Int32)).2.2) ((9) : Int32)).2.1, s, (R_X7_addRope ((R_X7_addRope m pm ((10) : Int32)).2.1) ((R_X7_addRope m pm ((10) : Int32)).2.2) ((9) : Int32)).2.2)) else (0, (R_X7_addRope m pm ((10) : Int32)).2.1, s, (R_X7_addRope m pm ((10) : Int32)).2.2)) else (if (g_wv (R_X7_addRope m pm (10 + (v10_11 - v10_11 / 71 * 71)))) = (((s (1)) + 1) - 1) then (1, (R_X7_addRope m pm (10 + (v10_11 - v10_11 / 71 * 71))).2.1, (upd (upd (upd (upd s (34 + 3 * ((s (1)).toNatClampNeg)) (10 + (v10_11 - v10_11 / 71 * 71))) (35 + 3 * ((s (1)).toNatClampNeg)) 0) (36 + 3 * ((s (1)).toNatClampNeg)) 0) (1) ((s (1)) + 1)), (R_X7_addRope m pm (10 + (v10_11 - v10_11 / 71 * 71))).2.2) else (0, (R_X7_addRope m pm (10 + (v10_11 - v10_11 / 71 * 71))).2.1, (upd (upd (upd (upd s (34 + 3 * ((s (1)).toNatClampNeg)) (10 + (v10_11 - v10_11 / 71 * 71))) (35 + 3 * ((s (1)).toNatClampNeg)) 0) (36 + 3 * ((s (1)).toNatClampNeg)) 0) (1) ((s (1)) + 1)), (R_X7_addRope m pm (10 + (v10_11 - v10_11 / 71 * 71))).2.2))) else (R_L_acts_461 m s pm v10_11 v11_20 ))
def R_L_acts_230 (m : Nat → Int32) (s : Nat → Int32) (pm : Nat → Nat) (v12_200 : Int32) : (Int32 × (Nat → Int32) × (Nat → Int32) × (Nat → Nat)) := (if (g_wv (R_X7_setPassage m pm v12_200 ((0) : Int32) ((1) : Int32))) = -2000003 then (if (g_wv (R_X7_setPassage ((R_X7_setPassage m pm v12_200 ((0) : Int32) ((1) : Int32)).2.1) ((R_X7_setPassage m pm v12_200 ((0) : Int32) ((1) : Int32)).2.2) v12_200 ((61) : Int32) ((1) : Int32))) = -2000002 then (1, (R_X7_setPassage ((R_X7_setPassage m pm v12_200 ((0) : Int32) ((1) : Int32)).2.1) ((R_X7_setPassage m pm v12_200 ((0) : Int32) ((1) : Int32)).2.2) v12_200 ((61) : Int32) ((1) : Int32)).2.1, s, (R_X7_setPassage ((R_X7_setPassage m pm v12_200 ((0) : Int32) ((1) : Int32)).2.1) ((R_X7_setPassage m pm v12_200 ((0) : Int32) ((1) : Int32)).2.2) v12_200 ((61) : Int32) ((1) : Int32)).2.2) else (0, (R_X7_setPassage ((R_X7_setPassage m pm v12_200 ((0) : Int32) ((1) : Int32)).2.1) ((R_X7_setPassage m pm v12_200 ((0) : Int32) ((1) : Int32)).2.2) v12_200 ((61) : Int32) ((1) : Int32)).2.1, s, (R_X7_setPassage ((R_X7_setPassage m pm v12_200 ((0) : Int32) ((1) : Int32)).2.1) ((R_X7_setPassage m pm v12_200 ((0) : Int32) ((1) : Int32)).2.2) v12_200 ((61) : Int32) ((1) : Int32)).2.2)) else (0, (R_X7_setPassage m pm v12_200 ((0) : Int32) ((1) : Int32)).2.1, s, (R_X7_setPassage m pm v12_200 ((0) : Int32) ((1) : Int32)).2.2))
def R_L_acts_318 (m : Nat → Int32) (s : Nat → Int32) (pm : Nat → Nat) (v10_11 : Int32) (v12_200 : Int32) (t0_294 : Int32) (t0_318 : Int32) : (Int32 × (Nat → Int32) × (Nat → Int32) × (Nat → Nat)) := (if (g_wv (R_X7_setPassage m pm v12_200 t0_294 (1 + ((v10_11 / 7) - (v10_11 / 7) / t0_318 * t0_318)))) = (s (13 + v12_200.toNatClampNeg)) then (1, (R_X7_setPassage m pm v12_200 t0_294 (1 + ((v10_11 / 7) - (v10_11 / 7) / t0_318 * t0_318))).2.1, (upd (upd s (13 + v12_200.toNatClampNeg) t0_294) (20 + v12_200.toNatClampNeg) (1 + ((v10_11 / 7) - (v10_11 / 7) / t0_318 * t0_318))), (R_X7_setPassage m pm v12_200 t0_294 (1 + ((v10_11 / 7) - (v10_11 / 7) / t0_318 * t0_318))).2.2) else (0, (R_X7_setPassage m pm v12_200 t0_294 (1 + ((v10_11 / 7) - (v10_11 / 7) / t0_318 * t0_318))).2.1, (upd (upd s (13 + v12_200.toNatClampNeg) t0_294) (20 + v12_200.toNatClampNeg) (1 + ((v10_11 / 7) - (v10_11 / 7) / t0_318 * t0_318))), (R_X7_setPassage m pm v12_200 t0_294 (1 + ((v10_11 / 7) - (v10_11 / 7) / t0_318 * t0_318))).2.2))
def R_L_acts_294 (m : Nat → Int32) (s : Nat → Int32) (pm : Nat → Nat) (v10_11 : Int32) (v12_200 : Int32) (t0_294 : Int32) : (Int32 × (Nat → Int32) × (Nat → Int32) × (Nat → Nat)) := (if (v10_11 - v10_11 / 5 * 5) = 0 then (R_L_acts_318 m s pm v10_11 v12_200 t0_294 30) else (R_L_acts_318 m s pm v10_11 v12_200 t0_294 6))
def R_L_acts_200 (m : Nat → Int32) (s : Nat → Int32) (pm : Nat → Nat) (v10_11 : Int32) (v12_200 : Int32) : (Int32 × (Nat → Int32) × (Nat → Int32) × (Nat → Nat)) := (if 0 ≤ (s (27 + v12_200.toNatClampNeg)) then (R_L_acts_230 m s pm v12_200 ) else (if 0 ≤ (R_L_rigger s v12_200) then (R_L_acts_230 m s pm v12_200 ) else (if (R_L_many s v12_200) ≤ 0 then (if ((v10_11 / 7) - (v10_11 / 7) / 3 * 3) = 0 then (R_L_acts_294 m s pm v10_11 v12_200 ((v10_11 / 21) - (v10_11 / 21) / 61 * 61)) else (R_L_acts_294 m s pm v10_11 v12_200 0)) else (R_L_acts_230 m s pm v12_200 ))))
def R_L_acts_186 (m : Nat → Int32) (s : Nat → Int32) (pm : Nat → Nat) (v10_11 : Int32) (v11_20 : Int32) : (Int32 × (Nat → Int32) × (Nat → Int32) × (Nat → Nat)) := (if 3 ≤ v11_20 then (R_L_acts_346 m s pm v10_11 v11_20 ) else (R_L_acts_200 m s pm v10_11 (v10_11 - v10_11 / (s (0)) * (s (0)))))
def R_L_acts_155 (K_84 : Nat → (Nat → Int32) → (Int32 × (Nat → Int32) × (Nat → Int32) × (Nat → Nat))) (p : Nat) (s_84 : Nat → Int32) (t0_117 : Int32) (t0_155 : Int32) : (Int32 × (Nat → Int32) × (Nat → Int32) × (Nat → Nat)) := (K_84 (p + 1) (upd (upd (upd s_84 (13 + p) t0_117) (20 + p) t0_155) (27 + p) (-1)))
def R_L_acts_117 (K_84 : Nat → (Nat → Int32) → (Int32 × (Nat → Int32) × (Nat → Int32) × (Nat → Nat))) (p : Nat) (s_84 : Nat → Int32) (t0_117 : Int32) : (Int32 × (Nat → Int32) × (Nat → Int32) × (Nat → Nat)) := (if (nI p) = 1 then (R_L_acts_155 K_84 p s_84 t0_117 8) else (if (nI p) = 2 then (R_L_acts_155 K_84 p s_84 t0_117 6) else (if (nI p) = 3 then (R_L_acts_155 K_84 p s_84 t0_117 10) else (R_L_acts_155 K_84 p s_84 t0_117 5))))
def R_L_acts_84 (m : Nat → Int32) (s : Nat → Int32) (pm : Nat → Nat) : Nat → Nat → (Nat → Int32) → (Int32 × (Nat → Int32) × (Nat → Int32) × (Nat → Nat))
  | 0, _, _ => (0, m, s, pm)
  | f + 1, p, s_84 => (if 7 ≤ (nI p) then (if (g_wv (R_X7_begin m pm (s_84 (0)))) = (s (3)) then (1, (R_X7_begin m pm (s_84 (0))).2.1, s_84, (R_X7_begin m pm (s_84 (0))).2.2) else (0, (R_X7_begin m pm (s_84 (0))).2.1, s_84, (R_X7_begin m pm (s_84 (0))).2.2)) else (if (nI p) = 1 then (R_L_acts_117 (R_L_acts_84 m s pm f) p s_84 20) else (if (nI p) = 3 then (R_L_acts_117 (R_L_acts_84 m s pm f) p s_84 35) else (R_L_acts_117 (R_L_acts_84 m s pm f) p s_84 0))))
def R_L_acts_74 (K_40 : Nat → (Nat → Int32) → (Int32 × (Nat → Int32) × (Nat → Int32) × (Nat → Nat))) (k : Nat) (s_40 : Nat → Int32) (t0_74 : Int32) : (Int32 × (Nat → Int32) × (Nat → Int32) × (Nat → Nat)) := (K_40 (k + 1) (upd s_40 (0 + k) t0_74))
def R_L_acts_61 (v10_11 : Int32) (K_40 : Nat → (Nat → Int32) → (Int32 × (Nat → Int32) × (Nat → Int32) × (Nat → Nat))) (k : Nat) (s_40 : Nat → Int32) : (Int32 × (Nat → Int32) × (Nat → Int32) × (Nat → Nat)) := (R_L_acts_74 K_40 k s_40 (1 + ((v10_11 / 4) - (v10_11 / 4) / 7 * 7)))
def R_L_acts_40 (m : Nat → Int32) (s : Nat → Int32) (pm : Nat → Nat) (v10_11 : Int32) : Nat → Nat → (Nat → Int32) → (Int32 × (Nat → Int32) × (Nat → Int32) × (Nat → Nat))
  | 0, _, _ => (0, m, s, pm)
  | f + 1, k, s_40 => (if 13 ≤ (nI k) then (R_L_acts_84 m s pm 8 0 s_40) else (if (nI k) = 0 then (R_L_acts_61 v10_11 (R_L_acts_40 m s pm v10_11 f) k s_40 ) else (if (nI k) = 4 then (R_L_acts_61 v10_11 (R_L_acts_40 m s pm v10_11 f) k s_40 ) else (R_L_acts_74 (R_L_acts_40 m s pm v10_11 f) k s_40 0))))
def R_L_acts_20 (m : Nat → Int32) (s : Nat → Int32) (pm : Nat → Nat) (v10_11 : Int32) (v11_20 : Int32) : (Int32 × (Nat → Int32) × (Nat → Int32) × (Nat → Nat)) := (if v11_20 = 0 then (if (v10_11 - v10_11 / 4 * 4) = 0 then (R_L_acts_40 m s pm v10_11 14 0 s) else (R_L_acts_186 m s pm v10_11 v11_20 )) else (R_L_acts_186 m s pm v10_11 v11_20 ))
def R_L_acts_11 (m : Nat → Int32) (s : Nat → Int32) (pm : Nat → Nat) (x9 : Int32) (v10_11 : Int32) : (Int32 × (Nat → Int32) × (Nat → Int32) × (Nat → Nat)) := (R_L_acts_20 m s pm v10_11 (R_L_low s x9 30))
def R_L_acts (m : Nat → Int32) (s : Nat → Int32) (pm : Nat → Nat) (x9 : Int32) : (Int32 × (Nat → Int32) × (Nat → Int32) × (Nat → Nat)) := (R_L_acts_11 m s pm x9 (R_L_low s (x9 >>> (5 &&& 31)) 10000000))
set_option maxRecDepth 100000 in
set_option maxHeartbeats 4000000 in
theorem walk_L_acts {X : g_X} (O : g_ok X cL_acts RL (some .boolean) ({ frames := 10, cells := 8, slots := 48, locals := 190 } : Room)) (hs : (g_xl X).stackTraces = false) (Y : g_Y (g_xs X)) (hn : g_xn X = 19) {lm : Nat → Int64} {m : Nat → Int32} {s : Nat → Int32} {pm : Nat → Nat} {x9 : Int32} (p0 : g_Rel m s pm) (p1 : (s (3)).toInt ≤ 90000) : g_V X (fun r : Int32 × (Nat → Int32) × (Nat → Int32) × (Nat → Nat) => ((.inl (some (.int r.1)), (r.2.1, r.2.2.1, lm, r.2.2.2)) : g_Res)) (R_L_acts m s pm x9) 0 0 m (s, lm, pm) 0 [(0, .ref (g_ad X 122)), (1, .ref (g_ad X 124)), (2, .ref (g_ad X 125)), (3, .ref (g_ad X 126)), (4, .ref (g_ad X 127)), (5, .ref (g_ad X 128)), (6, .ref (g_ad X 129)), (7, .ref (g_ad X 130)), (8, .ref (g_ad X 131)), (9, .int x9)] [] := by
  have hN : ∀ i, Nat.blt i 19 = true → i < g_xn X := fun i h => by rw [hn]; exact g_blt.mp h
  have hI0 := p0.I
  have hJ := p0.J
  obtain ⟨⟨j0a, j0b⟩, ⟨j1a, j1b⟩, ⟨j2a, j2b⟩, ⟨j3a, j3b⟩, ⟨j4a, j4b⟩, j5, ⟨j6a, j6b⟩, ⟨j9a, j9b, j9c⟩, ⟨j12a, j12b⟩⟩ := hJ.1
  refine r_iload O 9 dL_acts_0 rfl ?_
  refine r_iconst (x := 5) O dL_acts_2 rfl ?_
  refine r_ishr O dL_acts_3 ?_
  refine r_ldc O dL_acts_4 w_con_L_30 ?_
  refine r_callSi O [.int (x9 >>> (5 &&& 31)), .int 10000000] [] (met_L_low (g_xl X) hs lm pm m s (x9 >>> (5 &&& 31)) 10000000 (by first | decide | with_reducible assumption | with_reducible omega | (simp (disch := omega) only [g_upd_ne, g_upd_eq]; first | with_reducible assumption | with_reducible omega | decide) | exact Or.inl rfl | exact Or.inr rfl)) LL_31 rfl rfl rfl dL_acts_6 rfl rfl ?_
  have J_11 : ∀ (v10_11 : Int32) (hj0 : 0 ≤ v10_11.toInt) (hj1 : v10_11.toInt < 10000000), g_V X (fun r : Int32 × (Nat → Int32) × (Nat → Int32) × (Nat → Nat) => ((.inl (some (.int r.1)), (r.2.1, r.2.2.1, lm, r.2.2.2)) : g_Res)) (R_L_acts_11 m s pm x9 v10_11) 0 0 m (s, lm, pm) 11 [(0, .ref (g_ad X 122)), (1, .ref (g_ad X 124)), (2, .ref (g_ad X 125)), (3, .ref (g_ad X 126)), (4, .ref (g_ad X 127)), (5, .ref (g_ad X 128)), (6, .ref (g_ad X 129)), (7, .ref (g_ad X 130)), (8, .ref (g_ad X 131)), (9, .int x9), (10, .int v10_11)] [] := by
    intro v10_11 hj0 hj1
    refine r_iload O 9 dL_acts_11 rfl ?_
    refine r_bipush (x := 30) O dL_acts_13 rfl ?_
    refine r_callSi O [.int x9, .int 30] [] (met_L_low (g_xl X) hs lm pm m s x9 30 (by first | decide | with_reducible assumption | with_reducible omega | (simp (disch := omega) only [g_upd_ne, g_upd_eq]; first | with_reducible assumption | with_reducible omega | decide) | exact Or.inl rfl | exact Or.inr rfl)) LL_31 rfl rfl rfl dL_acts_15 rfl rfl ?_
    have J_20 : ∀ (v11_20 : Int32), g_V X (fun r : Int32 × (Nat → Int32) × (Nat → Int32) × (Nat → Nat) => ((.inl (some (.int r.1)), (r.2.1, r.2.2.1, lm, r.2.2.2)) : g_Res)) (R_L_acts_20 m s pm v10_11 v11_20) 0 0 m (s, lm, pm) 20 [(0, .ref (g_ad X 122)), (1, .ref (g_ad X 124)), (2, .ref (g_ad X 125)), (3, .ref (g_ad X 126)), (4, .ref (g_ad X 127)), (5, .ref (g_ad X 128)), (6, .ref (g_ad X 129)), (7, .ref (g_ad X 130)), (8, .ref (g_ad X 131)), (10, .int v10_11), (11, .int v11_20)] [] := by
      intro v11_20
      refine r_iload O 10 dL_acts_20 rfl ?_
      have J_186 : g_V X (fun r : Int32 × (Nat → Int32) × (Nat → Int32) × (Nat → Nat) => ((.inl (some (.int r.1)), (r.2.1, r.2.2.1, lm, r.2.2.2)) : g_Res)) (R_L_acts_186 m s pm v10_11 v11_20 ) 0 0 m (s, lm, pm) 186 [(0, .ref (g_ad X 122)), (1, .ref (g_ad X 124)), (2, .ref (g_ad X 125)), (3, .ref (g_ad X 126)), (4, .ref (g_ad X 127)), (5, .ref (g_ad X 128)), (6, .ref (g_ad X 129)), (7, .ref (g_ad X 130)), (8, .ref (g_ad X 131)), (10, .int v10_11), (11, .int v11_20)] [] := by
        refine r_iload O 10 dL_acts_186 rfl ?_
        refine r_iconst (x := 3) O dL_acts_188 rfl ?_
        have J_346 : g_V X (fun r : Int32 × (Nat → Int32) × (Nat → Int32) × (Nat → Nat) => ((.inl (some (.int r.1)), (r.2.1, r.2.2.1, lm, r.2.2.2)) : g_Res)) (R_L_acts_346 m s pm v10_11 v11_20 ) 0 0 m (s, lm, pm) 346 [(0, .ref (g_ad X 122)), (1, .ref (g_ad X 124)), (2, .ref (g_ad X 125)), (3, .ref (g_ad X 126)), (4, .ref (g_ad X 127)), (5, .ref (g_ad X 128)), (6, .ref (g_ad X 129)), (7, .ref (g_ad X 130)), (8, .ref (g_ad X 131)), (10, .int v10_11), (11, .int v11_20)] [] := by
          refine r_iload O 10 dL_acts_346 rfl ?_
          refine r_iconst (x := 3) O dL_acts_348 rfl ?_
          have J_461 : g_V X (fun r : Int32 × (Nat → Int32) × (Nat → Int32) × (Nat → Nat) => ((.inl (some (.int r.1)), (r.2.1, r.2.2.1, lm, r.2.2.2)) : g_Res)) (R_L_acts_461 m s pm v10_11 v11_20 ) 0 0 m (s, lm, pm) 461 [(0, .ref (g_ad X 122)), (1, .ref (g_ad X 124)), (2, .ref (g_ad X 125)), (3, .ref (g_ad X 126)), (4, .ref (g_ad X 127)), (5, .ref (g_ad X 128)), (6, .ref (g_ad X 129)), (7, .ref (g_ad X 130)), (8, .ref (g_ad X 131)), (10, .int v10_11), (11, .int v11_20)] [] := by
            refine r_iload O 10 dL_acts_461 rfl ?_
            refine r_iconst (x := 4) O dL_acts_463 rfl ?_
            have J_473 : g_V X (fun r : Int32 × (Nat → Int32) × (Nat → Int32) × (Nat → Nat) => ((.inl (some (.int r.1)), (r.2.1, r.2.2.1, lm, r.2.2.2)) : g_Res)) (R_L_acts_473 m s pm v10_11 ) 0 0 m (s, lm, pm) 473 [(0, .ref (g_ad X 122)), (1, .ref (g_ad X 124)), (6, .ref (g_ad X 129)), (10, .int v10_11)] [] := by
              refine r_aload_n O 1 dL_acts_473 rfl rfl ?_
              refine r_iconst (x := 2) O dL_acts_474 rfl ?_
              refine r_ialn (b := 0) (loc := 2) O R_124 (g_vin (by decide) (by decide)) rfl dL_acts_475 ?_
              refine r_bipush (x := 6) O dL_acts_476 rfl ?_
              refine r_icmp_ne O 510 dL_acts_478 (by decide) (fun c_478 => ?_) (fun c_478 => ?_)
              · have e_478 : (s (2)).toInt = (6 : Int) := j_eqR c_478 rfl
                refine r_aload_n O 0 dL_acts_481 rfl rfl ?_
                refine r_bipush (x := 30) O dL_acts_482 rfl ?_
                refine r_cW O Y [.ref (g_ad X 122), .int 30] [] (met_L_helpers (g_xl X) hs m s lm pm ((30) : Int32) hI0) LW_55 rfl rfl rfl dL_acts_484 rfl rfl ?_
                refine r_ldc O dL_acts_487 w_con_L_50 ?_
                refine r_icmp_ne O 508 dL_acts_489 (by decide) (fun c_489 => ?_) (fun c_489 => ?_)
                · have e_489 : (g_wv (R_X7_addHelper m pm ((30) : Int32))).toInt = (-2000003 : Int) := j_eqR c_489 rfl
                  refine r_aload_n O 0 dL_acts_492 rfl rfl ?_
                  refine r_sipush (x := 601) O dL_acts_493 rfl ?_
                  refine r_cW O Y [.ref (g_ad X 122), .int 601] [] (met_L_helpers (g_xl X) hs ((R_X7_addHelper m pm ((30) : Int32)).2.1) s lm ((R_X7_addHelper m pm ((30) : Int32)).2.2) ((601) : Int32) (Ref_addHelper p0 ((30) : Int32)).1.I) LW_55 rfl rfl rfl dL_acts_496 rfl rfl ?_
                  refine r_ldc O dL_acts_499 w_con_L_51 ?_
                  refine r_icmp_ne O 508 dL_acts_501 (by decide) (fun c_501 => ?_) (fun c_501 => ?_)
                  · have e_501 : (g_wv (R_X7_addHelper ((R_X7_addHelper m pm ((30) : Int32)).2.1) ((R_X7_addHelper m pm ((30) : Int32)).2.2) ((601) : Int32))).toInt = (-2000002 : Int) := j_eqR c_501 rfl
                    refine r_iconst (x := 1) O dL_acts_504 rfl ?_
                    refine r_goto O 509 dL_acts_505 (by decide) ?_
                    exact r_iret O dL_acts_509 rfl (Nat.le_of_ble_eq_true rfl) (Nat.le_of_ble_eq_true rfl) rfl
                  · have e_501 : (g_wv (R_X7_addHelper ((R_X7_addHelper m pm ((30) : Int32)).2.1) ((R_X7_addHelper m pm ((30) : Int32)).2.2) ((601) : Int32))).toInt ≠ (-2000002 : Int) := j_neR c_501 rfl
                    refine r_iconst (x := 0) O dL_acts_508 rfl ?_
                    exact r_iret O dL_acts_509 rfl (Nat.le_of_ble_eq_true rfl) (Nat.le_of_ble_eq_true rfl) rfl
                · have e_489 : (g_wv (R_X7_addHelper m pm ((30) : Int32))).toInt ≠ (-2000003 : Int) := j_neR c_489 rfl
                  refine r_iconst (x := 0) O dL_acts_508 rfl ?_
                  exact r_iret O dL_acts_509 rfl (Nat.le_of_ble_eq_true rfl) (Nat.le_of_ble_eq_true rfl) rfl
              · have e_478 : (s (2)).toInt ≠ (6 : Int) := j_neR c_478 rfl
                refine r_bipush (x := 9) O dL_acts_510 rfl ?_
                refine r_aload_n O 1 dL_acts_512 rfl rfl ?_
                refine r_iconst (x := 2) O dL_acts_513 rfl ?_
                refine r_ialn (b := 0) (loc := 2) O R_124 (g_vin (by decide) (by decide)) rfl dL_acts_514 ?_
                refine r_imul O dL_acts_515 ?_
                refine r_istore (lc' := [(12, .int (9 * (s (2)))), (0, .ref (g_ad X 122)), (1, .ref (g_ad X 124)), (6, .ref (g_ad X 129)), (10, .int v10_11)]) O dL_acts_516 (hN 12 rfl) rfl ?_
                refine r_iconst (x := 0) O dL_acts_518 rfl ?_
                refine r_istore (lc' := [(13, .int 0), (12, .int (9 * (s (2)))), (0, .ref (g_ad X 122)), (1, .ref (g_ad X 124)), (6, .ref (g_ad X 129)), (10, .int v10_11)]) O dL_acts_519 (hN 13 rfl) rfl ?_
                have L_521 : ∀ (f_521 : Nat) (j : Nat) (s_521 : Nat → Int32) (hi_521 : j ≤ 9 ∧ 9 < f_521 + j), g_V X (fun r : Int32 × (Nat → Int32) × (Nat → Int32) × (Nat → Nat) => ((.inl (some (.int r.1)), (r.2.1, r.2.2.1, lm, r.2.2.2)) : g_Res)) (R_L_acts_521 m s pm v10_11 f_521 j s_521) 0 0 m (s_521, lm, pm) 521 [(0, .ref (g_ad X 122)), (1, .ref (g_ad X 124)), (6, .ref (g_ad X 129)), (10, .int v10_11), (12, .int (9 * (s (2)))), (13, .int (nI j))] [] := by
                  intro f_521
                  induction f_521 with
                  | zero => intro j s_521 hi_521; exact absurd hi_521 (by omega)
                  | succ f_521 ih_521 =>
                    intro j s_521 hi_521
                    have hc_j : (nI j).toInt = (j : Int) := nI_toInt (by omega)
                    refine r_iload O 5 dL_acts_521 rfl ?_
                    refine r_bipush (x := 9) O dL_acts_523 rfl ?_
                    refine r_icmp_ge O 588 dL_acts_525 (by decide) (fun c_525 => ?_) (fun c_525 => ?_)
                    · have e_525 : (9 : Int) ≤ (nI j).toInt := j_leL c_525 rfl
                      refine r_aload_n O 1 dL_acts_588 rfl rfl ?_
                      refine r_iconst (x := 2) O dL_acts_589 rfl ?_
                      refine r_dup2 O dL_acts_590 rfl rfl ?_
                      refine r_ialn (b := 0) (loc := 2) O R_124 (g_vin (by decide) (by decide)) rfl dL_acts_591 ?_
                      refine r_iconst (x := 1) O dL_acts_592 rfl ?_
                      refine r_iadd O dL_acts_593 ?_
                      refine r_iasn (b := 0) (loc := 2) O T_124 (g_vin (by decide) (by decide)) rfl dL_acts_594 ?_
                      refine r_aload_n O 0 dL_acts_595 rfl rfl ?_
                      refine r_aload O 2 dL_acts_596 rfl ?_
                      refine r_iload O 4 dL_acts_598 rfl ?_
                      have ix_600 : (9 * (s (2))).toInt = ((9 : Int) * (s (2)).toInt) := (j_mulE rfl rfl (by with_reducible omega) (by with_reducible omega))
                      have ja_600_0 := j_nat (x := (s (2))) (by with_reducible omega)
                      have iy_600 := j_nat (x := (9 * (s (2)))) (by with_reducible omega)
                      refine r_ialv (b := 58) (loc := 58 + 9 * ((s (2)).toNatClampNeg) + 0) (v := (s_521 (58 + 9 * ((s (2)).toNatClampNeg) + 0))) O R_129 (show vp_in (9 * (s (2))) 54 from g_vin (by with_reducible omega) (by with_reducible omega)) (by with_reducible omega) (by rw [g_upd_ne (by with_reducible omega)]) dL_acts_600 ?_
                      refine r_cW O Y [.ref (g_ad X 122), .int (s_521 (58 + 9 * ((s (2)).toNatClampNeg) + 0))] [] (met_L_helpers (g_xl X) hs m (upd s_521 (2) ((s_521 (2)) + 1)) lm pm (s_521 (58 + 9 * ((s (2)).toNatClampNeg) + 0)) hI0) LW_55 rfl rfl rfl dL_acts_601 rfl rfl ?_
                      refine r_aload_n O 1 dL_acts_604 rfl rfl ?_
                      refine r_iconst (x := 2) O dL_acts_605 rfl ?_
                      refine r_ialv (b := 0) (loc := 2) (v := ((s_521 (2)) + 1)) O R_124 (g_vin (by decide) (by decide)) rfl (by rw [g_upd_eq]) dL_acts_606 ?_
                      refine r_iconst (x := 1) O dL_acts_607 rfl ?_
                      refine r_isub O dL_acts_608 ?_
                      refine r_icmp_ne O 616 dL_acts_609 (by decide) (fun c_609 => ?_) (fun c_609 => ?_)
                      · have e_609 : (g_wv (R_X7_addHelper m pm (s_521 (58 + 9 * ((s (2)).toNatClampNeg) + 0)))).toInt = (((s_521 (2)) + 1) - 1).toInt := j_eq c_609
                        refine r_iconst (x := 1) O dL_acts_612 rfl ?_
                        refine r_goto O 617 dL_acts_613 (by decide) ?_
                        exact r_iret O dL_acts_617 rfl (Nat.le_of_ble_eq_true rfl) (Nat.le_of_ble_eq_true rfl) rfl
                      · have e_609 : (g_wv (R_X7_addHelper m pm (s_521 (58 + 9 * ((s (2)).toNatClampNeg) + 0)))).toInt ≠ (((s_521 (2)) + 1) - 1).toInt := j_ne c_609
                        refine r_iconst (x := 0) O dL_acts_616 rfl ?_
                        exact r_iret O dL_acts_617 rfl (Nat.le_of_ble_eq_true rfl) (Nat.le_of_ble_eq_true rfl) rfl
                    · have e_525 : (nI j).toInt < (9 : Int) := j_nleL c_525 rfl
                      refine r_aload O 2 dL_acts_528 rfl ?_
                      refine r_iload O 4 dL_acts_530 rfl ?_
                      refine r_iload O 5 dL_acts_532 rfl ?_
                      refine r_iadd O dL_acts_534 ?_
                      refine r_iload O 5 dL_acts_535 rfl ?_
                      have J_581 : ∀ (t0_581 : Int32), g_V X (fun r : Int32 × (Nat → Int32) × (Nat → Int32) × (Nat → Nat) => ((.inl (some (.int r.1)), (r.2.1, r.2.2.1, lm, r.2.2.2)) : g_Res)) (R_L_acts_581 s ((R_L_acts_521 m s pm v10_11 f_521)) j s_521 t0_581) 0 0 m (s_521, lm, pm) 581 [(0, .ref (g_ad X 122)), (1, .ref (g_ad X 124)), (6, .ref (g_ad X 129)), (10, .int v10_11), (12, .int (9 * (s (2)))), (13, .int (nI j))] [.int t0_581, .int ((9 * (s (2))) + (nI j)), .ref (g_ad X 129)] := by
                        intro t0_581
                        have ix_581 : ((9 * (s (2))) + (nI j)).toInt = (((9 : Int) * (s (2)).toInt) + (nI j).toInt) := (j_addE (j_mulE rfl rfl (by with_reducible omega) (by with_reducible omega)) rfl (by with_reducible omega) (by with_reducible omega))
                        have ja_581_0 := j_nat (x := (s (2))) (by with_reducible omega)
                        have iy_581 := j_nat (x := ((9 * (s (2))) + (nI j))) (by with_reducible omega)
                        refine r_iasn (b := 58) (loc := 58 + 9 * ((s (2)).toNatClampNeg) + j + 0) O T_129 (show vp_in ((9 * (s (2))) + (nI j)) 54 from g_vin (by with_reducible omega) (by with_reducible omega)) (by with_reducible omega) dL_acts_581 ?_
                        refine r_iinc (lc' := [(13, .int (nI (j + 1))), (0, .ref (g_ad X 122)), (1, .ref (g_ad X 124)), (6, .ref (g_ad X 129)), (10, .int v10_11), (12, .int (9 * (s (2))))]) O 5 dL_acts_582 rfl (nI_1 j) (hN 13 rfl) rfl ?_
                        refine r_goto O 521 dL_acts_585 (by decide) ?_
                        refine r_sub [1, 2, 3, 4, 5, 0] rfl ?_
                        exact ih_521 (j + 1) (upd s_521 (58 + 9 * ((s (2)).toNatClampNeg) + j + 0) t0_581) (by with_reducible omega)
                      refine r_if_ne O 564 dL_acts_537 (by decide) (fun c_537 => ?_) (fun c_537 => ?_)
                      · have e_537 : (nI j).toInt = (0 : Int) := j_eqR c_537 rfl
                        refine r_bipush (x := 30) O dL_acts_540 rfl ?_
                        refine r_iload O 3 dL_acts_542 rfl ?_
                        refine r_iload O 3 dL_acts_544 rfl ?_
                        refine r_iconst (x := 2) O dL_acts_546 rfl ?_
                        refine r_irem O dL_acts_547 (by decide) ?_
                        have J_559 : ∀ (t0_559 : Int32) (hj0 : 1 ≤ t0_559.toInt), g_V X (fun r : Int32 × (Nat → Int32) × (Nat → Int32) × (Nat → Nat) => ((.inl (some (.int r.1)), (r.2.1, r.2.2.1, lm, r.2.2.2)) : g_Res)) (R_L_acts_559 s v10_11 ((R_L_acts_521 m s pm v10_11 f_521)) j s_521 t0_559) 0 0 m (s_521, lm, pm) 559 [(0, .ref (g_ad X 122)), (1, .ref (g_ad X 124)), (6, .ref (g_ad X 129)), (10, .int v10_11), (12, .int (9 * (s (2)))), (13, .int (nI j))] [.int t0_559, .int v10_11, .int 30, .int ((9 * (s (2))) + (nI j)), .ref (g_ad X 129)] := by
                          intro t0_559 hj0
                          refine r_irem O dL_acts_559 (nz0 (by with_reducible omega)) ?_
                          refine r_iadd O dL_acts_560 ?_
                          refine r_goto O 581 dL_acts_561 (by decide) ?_
                          exact J_581 (30 + (v10_11 - v10_11 / t0_559 * t0_559))
                        refine r_if_ne O 557 dL_acts_548 (by decide) (fun c_548 => ?_) (fun c_548 => ?_)
                        · have e_548 : (v10_11 - v10_11 / 2 * 2).toInt = (0 : Int) := j_eqR c_548 rfl
                          refine r_sipush (x := 571) O dL_acts_551 rfl ?_
                          refine r_goto O 559 dL_acts_554 (by decide) ?_
                          have hlit_t0_559 : (571 : Int32).toInt = 571 := rfl
                          exact J_559 571 (by first | decide | with_reducible assumption | with_reducible omega | (simp (disch := omega) only [g_upd_ne, g_upd_eq]; first | with_reducible assumption | with_reducible omega | decide) | exact Or.inl rfl | exact Or.inr rfl)
                        · have e_548 : (v10_11 - v10_11 / 2 * 2).toInt ≠ (0 : Int) := j_neR c_548 rfl
                          refine r_bipush (x := 60) O dL_acts_557 rfl ?_
                          have hlit_t0_559 : (60 : Int32).toInt = 60 := rfl
                          exact J_559 60 (by first | decide | with_reducible assumption | with_reducible omega | (simp (disch := omega) only [g_upd_ne, g_upd_eq]; first | with_reducible assumption | with_reducible omega | decide) | exact Or.inl rfl | exact Or.inr rfl)
                      · have e_537 : (nI j).toInt ≠ (0 : Int) := j_neR c_537 rfl
                        refine r_iload O 5 dL_acts_564 rfl ?_
                        refine r_iconst (x := 3) O dL_acts_566 rfl ?_
                        have J_576 : g_V X (fun r : Int32 × (Nat → Int32) × (Nat → Int32) × (Nat → Nat) => ((.inl (some (.int r.1)), (r.2.1, r.2.2.1, lm, r.2.2.2)) : g_Res)) (R_L_acts_576 s ((R_L_acts_521 m s pm v10_11 f_521)) j s_521 ) 0 0 m (s_521, lm, pm) 576 [(0, .ref (g_ad X 122)), (1, .ref (g_ad X 124)), (6, .ref (g_ad X 129)), (10, .int v10_11), (12, .int (9 * (s (2)))), (13, .int (nI j))] [.int ((9 * (s (2))) + (nI j)), .ref (g_ad X 129)] := by
                          refine r_iconst (x := (-1)) O dL_acts_576 rfl ?_
                          refine r_goto O 581 dL_acts_577 (by decide) ?_
                          exact J_581 (-1)
                        refine r_icmp_eq O 576 dL_acts_567 (by decide) (fun c_567 => ?_) (fun c_567 => ?_)
                        · have e_567 : (nI j).toInt = (3 : Int) := j_eqR c_567 rfl
                          exact J_576
                        · have e_567 : (nI j).toInt ≠ (3 : Int) := j_neR c_567 rfl
                          refine r_iload O 5 dL_acts_570 rfl ?_
                          refine r_iconst (x := 5) O dL_acts_572 rfl ?_
                          refine r_icmp_ne O 580 dL_acts_573 (by decide) (fun c_573 => ?_) (fun c_573 => ?_)
                          · have e_573 : (nI j).toInt = (5 : Int) := j_eqR c_573 rfl
                            exact J_576
                          · have e_573 : (nI j).toInt ≠ (5 : Int) := j_neR c_573 rfl
                            refine r_iconst (x := 0) O dL_acts_580 rfl ?_
                            exact J_581 0
                refine r_sub [2, 3, 4, 5, 1, 0] rfl ?_
                exact L_521 10 0 s (by with_reducible omega)
            refine r_icmp_eq O 473 dL_acts_464 (by decide) (fun c_464 => ?_) (fun c_464 => ?_)
            · have e_464 : (v11_20).toInt = (4 : Int) := j_eqR c_464 rfl
              refine r_sub [0, 1, 6, 9] rfl ?_
              exact J_473
            · have e_464 : (v11_20).toInt ≠ (4 : Int) := j_neR c_464 rfl
              refine r_aload_n O 1 dL_acts_467 rfl rfl ?_
              refine r_iconst (x := 2) O dL_acts_468 rfl ?_
              refine r_ialn (b := 0) (loc := 2) O R_124 (g_vin (by decide) (by decide)) rfl dL_acts_469 ?_
              have J_618 : ∀  (hj0 : (s (2)).toInt ≠ 0), g_V X (fun r : Int32 × (Nat → Int32) × (Nat → Int32) × (Nat → Nat) => ((.inl (some (.int r.1)), (r.2.1, r.2.2.1, lm, r.2.2.2)) : g_Res)) (R_L_acts_618 m s pm v10_11 v11_20 ) 0 0 m (s, lm, pm) 618 [(0, .ref (g_ad X 122)), (1, .ref (g_ad X 124)), (2, .ref (g_ad X 125)), (3, .ref (g_ad X 126)), (4, .ref (g_ad X 127)), (5, .ref (g_ad X 128)), (6, .ref (g_ad X 129)), (7, .ref (g_ad X 130)), (8, .ref (g_ad X 131)), (10, .int v10_11), (11, .int v11_20)] [] := by
                intro  hj0
                refine r_iload O 10 dL_acts_618 rfl ?_
                refine r_iconst (x := 5) O dL_acts_620 rfl ?_
                have J_683 : g_V X (fun r : Int32 × (Nat → Int32) × (Nat → Int32) × (Nat → Nat) => ((.inl (some (.int r.1)), (r.2.1, r.2.2.1, lm, r.2.2.2)) : g_Res)) (R_L_acts_683 m s pm v10_11 v11_20 ) 0 0 m (s, lm, pm) 683 [(0, .ref (g_ad X 122)), (1, .ref (g_ad X 124)), (2, .ref (g_ad X 125)), (3, .ref (g_ad X 126)), (4, .ref (g_ad X 127)), (5, .ref (g_ad X 128)), (6, .ref (g_ad X 129)), (7, .ref (g_ad X 130)), (8, .ref (g_ad X 131)), (10, .int v10_11), (11, .int v11_20)] [] := by
                  refine r_iload O 9 dL_acts_683 rfl ?_
                  refine r_aload_n O 1 dL_acts_685 rfl rfl ?_
                  refine r_iconst (x := 2) O dL_acts_686 rfl ?_
                  refine r_ialn (b := 0) (loc := 2) O R_124 (g_vin (by decide) (by decide)) rfl dL_acts_687 ?_
                  refine r_irem O dL_acts_688 (nz0 (by with_reducible omega)) ?_
                  have J_691 : ∀ (v12_691 : Int32) (hj0 : 0 ≤ v12_691.toInt) (hj1 : v12_691.toInt < (s (2)).toInt), g_V X (fun r : Int32 × (Nat → Int32) × (Nat → Int32) × (Nat → Nat) => ((.inl (some (.int r.1)), (r.2.1, r.2.2.1, lm, r.2.2.2)) : g_Res)) (R_L_acts_691 m s pm v10_11 v11_20 v12_691) 0 0 m (s, lm, pm) 691 [(0, .ref (g_ad X 122)), (1, .ref (g_ad X 124)), (2, .ref (g_ad X 125)), (3, .ref (g_ad X 126)), (4, .ref (g_ad X 127)), (5, .ref (g_ad X 128)), (6, .ref (g_ad X 129)), (7, .ref (g_ad X 130)), (8, .ref (g_ad X 131)), (10, .int v10_11), (11, .int v11_20), (12, .int v12_691)] [] := by
                    intro v12_691 hj0 hj1
                    obtain ⟨q1a, q1b, q5, q2, q3, q4⟩ := L_hq hJ hj0 hj1
                    have q27 : (s (58 + 9 * v12_691.toNatClampNeg + 1)).toInt < 7 → (s (27 + (s (58 + 9 * v12_691.toNatClampNeg + 1)).toNatClampNeg)).toInt < 8 := fun z => L_27 hJ q1a z
                    refine r_bipush (x := 9) O dL_acts_691 rfl ?_
                    refine r_iload O 11 dL_acts_693 rfl ?_
                    refine r_imul O dL_acts_695 ?_
                    refine r_istore (lc' := [(13, .int (9 * v12_691)), (0, .ref (g_ad X 122)), (1, .ref (g_ad X 124)), (2, .ref (g_ad X 125)), (3, .ref (g_ad X 126)), (4, .ref (g_ad X 127)), (5, .ref (g_ad X 128)), (6, .ref (g_ad X 129)), (7, .ref (g_ad X 130)), (8, .ref (g_ad X 131)), (10, .int v10_11), (11, .int v11_20), (12, .int v12_691)]) O dL_acts_696 (hN 13 rfl) rfl ?_
                    refine r_aload O 7 dL_acts_698 rfl ?_
                    refine r_iload O 0 dL_acts_700 rfl ?_
                    refine r_iconst (x := 1) O dL_acts_702 rfl ?_
                    refine r_iadd O dL_acts_703 ?_
                    have ix_704 : ((9 * v12_691) + 1).toInt = (((9 : Int) * v12_691.toInt) + (1 : Int)) := (j_addE (j_mulE rfl rfl (by with_reducible omega) (by with_reducible omega)) rfl (by with_reducible omega) (by with_reducible omega))
                    have ja_704_0 := j_nat (x := v12_691) (by with_reducible omega)
                    have iy_704 := j_nat (x := ((9 * v12_691) + 1)) (by with_reducible omega)
                    refine r_ialn (b := 58) (loc := 58 + 9 * v12_691.toNatClampNeg + 1) O R_129 (show vp_in ((9 * v12_691) + 1) 54 from g_vin (by with_reducible omega) (by with_reducible omega)) (by with_reducible omega) dL_acts_704 ?_
                    refine r_istore (lc' := [(14, .int (s (58 + 9 * v12_691.toNatClampNeg + 1))), (13, .int (9 * v12_691)), (0, .ref (g_ad X 122)), (1, .ref (g_ad X 124)), (2, .ref (g_ad X 125)), (3, .ref (g_ad X 126)), (4, .ref (g_ad X 127)), (5, .ref (g_ad X 128)), (6, .ref (g_ad X 129)), (7, .ref (g_ad X 130)), (8, .ref (g_ad X 131)), (10, .int v10_11), (11, .int v11_20), (12, .int v12_691)]) O dL_acts_705 (hN 14 rfl) rfl ?_
                    refine r_iload O 12 dL_acts_707 rfl ?_
                    refine r_bipush (x := 13) O dL_acts_709 rfl ?_
                    have J_807 : g_V X (fun r : Int32 × (Nat → Int32) × (Nat → Int32) × (Nat → Nat) => ((.inl (some (.int r.1)), (r.2.1, r.2.2.1, lm, r.2.2.2)) : g_Res)) (R_L_acts_807 m s pm v10_11 v11_20 v12_691 ) 0 0 m (s, lm, pm) 807 [(0, .ref (g_ad X 122)), (1, .ref (g_ad X 124)), (2, .ref (g_ad X 125)), (3, .ref (g_ad X 126)), (4, .ref (g_ad X 127)), (5, .ref (g_ad X 128)), (6, .ref (g_ad X 129)), (7, .ref (g_ad X 130)), (8, .ref (g_ad X 131)), (10, .int v10_11), (11, .int v11_20), (12, .int v12_691), (13, .int (9 * v12_691)), (14, .int (s (58 + 9 * v12_691.toNatClampNeg + 1)))] [] := by
                      refine r_iload O 10 dL_acts_807 rfl ?_
                      refine r_bipush (x := 15) O dL_acts_809 rfl ?_
                      have J_968 : g_V X (fun r : Int32 × (Nat → Int32) × (Nat → Int32) × (Nat → Nat) => ((.inl (some (.int r.1)), (r.2.1, r.2.2.1, lm, r.2.2.2)) : g_Res)) (R_L_acts_968 m s pm v10_11 v11_20 v12_691 ) 0 0 m (s, lm, pm) 968 [(0, .ref (g_ad X 122)), (1, .ref (g_ad X 124)), (2, .ref (g_ad X 125)), (3, .ref (g_ad X 126)), (4, .ref (g_ad X 127)), (5, .ref (g_ad X 128)), (6, .ref (g_ad X 129)), (7, .ref (g_ad X 130)), (8, .ref (g_ad X 131)), (10, .int v10_11), (11, .int v11_20), (12, .int v12_691), (13, .int (9 * v12_691)), (14, .int (s (58 + 9 * v12_691.toNatClampNeg + 1)))] [] := by
                        refine r_iload O 10 dL_acts_968 rfl ?_
                        refine r_bipush (x := 15) O dL_acts_970 rfl ?_
                        have J_1062 : g_V X (fun r : Int32 × (Nat → Int32) × (Nat → Int32) × (Nat → Nat) => ((.inl (some (.int r.1)), (r.2.1, r.2.2.1, lm, r.2.2.2)) : g_Res)) (R_L_acts_1062 m s pm v10_11 v11_20 v12_691 ) 0 0 m (s, lm, pm) 1062 [(0, .ref (g_ad X 122)), (1, .ref (g_ad X 124)), (2, .ref (g_ad X 125)), (3, .ref (g_ad X 126)), (4, .ref (g_ad X 127)), (5, .ref (g_ad X 128)), (6, .ref (g_ad X 129)), (7, .ref (g_ad X 130)), (8, .ref (g_ad X 131)), (10, .int v10_11), (11, .int v11_20), (12, .int v12_691), (13, .int (9 * v12_691)), (14, .int (s (58 + 9 * v12_691.toNatClampNeg + 1)))] [] := by
                          refine r_iload O 10 dL_acts_1062 rfl ?_
                          refine r_bipush (x := 18) O dL_acts_1064 rfl ?_
                          have J_1234 : g_V X (fun r : Int32 × (Nat → Int32) × (Nat → Int32) × (Nat → Nat) => ((.inl (some (.int r.1)), (r.2.1, r.2.2.1, lm, r.2.2.2)) : g_Res)) (R_L_acts_1234 m s pm v10_11 v11_20 v12_691 ) 0 0 m (s, lm, pm) 1234 [(0, .ref (g_ad X 122)), (1, .ref (g_ad X 124)), (2, .ref (g_ad X 125)), (3, .ref (g_ad X 126)), (4, .ref (g_ad X 127)), (5, .ref (g_ad X 128)), (6, .ref (g_ad X 129)), (7, .ref (g_ad X 130)), (8, .ref (g_ad X 131)), (10, .int v10_11), (11, .int v11_20), (12, .int v12_691), (13, .int (9 * v12_691)), (14, .int (s (58 + 9 * v12_691.toNatClampNeg + 1)))] [] := by
                            refine r_iload O 10 dL_acts_1234 rfl ?_
                            refine r_bipush (x := 18) O dL_acts_1236 rfl ?_
                            have J_1365 : g_V X (fun r : Int32 × (Nat → Int32) × (Nat → Int32) × (Nat → Nat) => ((.inl (some (.int r.1)), (r.2.1, r.2.2.1, lm, r.2.2.2)) : g_Res)) (R_L_acts_1365 m s pm v10_11 v11_20 v12_691 ) 0 0 m (s, lm, pm) 1365 [(0, .ref (g_ad X 122)), (1, .ref (g_ad X 124)), (2, .ref (g_ad X 125)), (3, .ref (g_ad X 126)), (4, .ref (g_ad X 127)), (5, .ref (g_ad X 128)), (6, .ref (g_ad X 129)), (7, .ref (g_ad X 130)), (8, .ref (g_ad X 131)), (10, .int v10_11), (11, .int v11_20), (12, .int v12_691), (13, .int (9 * v12_691)), (14, .int (s (58 + 9 * v12_691.toNatClampNeg + 1)))] [] := by
                              refine r_iload O 10 dL_acts_1365 rfl ?_
                              refine r_bipush (x := 21) O dL_acts_1367 rfl ?_
                              have J_1652 : g_V X (fun r : Int32 × (Nat → Int32) × (Nat → Int32) × (Nat → Nat) => ((.inl (some (.int r.1)), (r.2.1, r.2.2.1, lm, r.2.2.2)) : g_Res)) (R_L_acts_1652 m s pm v10_11 v11_20 v12_691 ) 0 0 m (s, lm, pm) 1652 [(0, .ref (g_ad X 122)), (1, .ref (g_ad X 124)), (2, .ref (g_ad X 125)), (3, .ref (g_ad X 126)), (4, .ref (g_ad X 127)), (5, .ref (g_ad X 128)), (6, .ref (g_ad X 129)), (7, .ref (g_ad X 130)), (10, .int v10_11), (11, .int v11_20), (12, .int v12_691), (13, .int (9 * v12_691)), (14, .int (s (58 + 9 * v12_691.toNatClampNeg + 1)))] [] := by
                                refine r_iload O 9 dL_acts_1652 rfl ?_
                                refine r_bipush (x := 21) O dL_acts_1654 rfl ?_
                                have J_1781 : g_V X (fun r : Int32 × (Nat → Int32) × (Nat → Int32) × (Nat → Nat) => ((.inl (some (.int r.1)), (r.2.1, r.2.2.1, lm, r.2.2.2)) : g_Res)) (R_L_acts_1781 m s pm v10_11 ) 0 0 m (s, lm, pm) 1781 [(0, .ref (g_ad X 122)), (1, .ref (g_ad X 124)), (2, .ref (g_ad X 125)), (3, .ref (g_ad X 126)), (4, .ref (g_ad X 127)), (5, .ref (g_ad X 128)), (6, .ref (g_ad X 129)), (7, .ref (g_ad X 130)), (10, .int v10_11)] [] := by
                                  refine r_iconst (x := 1) O dL_acts_1781 rfl ?_
                                  refine r_iload O 8 dL_acts_1782 rfl ?_
                                  refine r_iload O 8 dL_acts_1784 rfl ?_
                                  refine r_bipush (x := 6) O dL_acts_1786 rfl ?_
                                  refine r_irem O dL_acts_1788 (by decide) ?_
                                  have J_1799 : ∀ (t0_1799 : Int32) (hj0 : 1 ≤ t0_1799.toInt) (hj1 : t0_1799.toInt ≤ 40), g_V X (fun r : Int32 × (Nat → Int32) × (Nat → Int32) × (Nat → Nat) => ((.inl (some (.int r.1)), (r.2.1, r.2.2.1, lm, r.2.2.2)) : g_Res)) (R_L_acts_1799 m s pm v10_11 t0_1799) 0 0 m (s, lm, pm) 1799 [(0, .ref (g_ad X 122)), (1, .ref (g_ad X 124)), (2, .ref (g_ad X 125)), (3, .ref (g_ad X 126)), (4, .ref (g_ad X 127)), (5, .ref (g_ad X 128)), (6, .ref (g_ad X 129)), (7, .ref (g_ad X 130))] [.int t0_1799, .int v10_11, .int 1] := by
                                    intro t0_1799 hj0 hj1
                                    refine r_irem O dL_acts_1799 (nz0 (by with_reducible omega)) ?_
                                    refine r_iadd O dL_acts_1800 ?_
                                    have J_1803 : ∀ (v15_1803 : Int32) (hj0 : 1 ≤ v15_1803.toInt) (hj1 : v15_1803.toInt ≤ 40), g_V X (fun r : Int32 × (Nat → Int32) × (Nat → Int32) × (Nat → Nat) => ((.inl (some (.int r.1)), (r.2.1, r.2.2.1, lm, r.2.2.2)) : g_Res)) (R_L_acts_1803 m s pm v15_1803) 0 0 m (s, lm, pm) 1803 [(0, .ref (g_ad X 122)), (1, .ref (g_ad X 124)), (2, .ref (g_ad X 125)), (3, .ref (g_ad X 126)), (4, .ref (g_ad X 127)), (5, .ref (g_ad X 128)), (6, .ref (g_ad X 129)), (7, .ref (g_ad X 130)), (15, .int v15_1803)] [] := by
                                      intro v15_1803 hj0 hj1
                                      refine r_iconst (x := 0) O dL_acts_1803 rfl ?_
                                      refine r_istore (lc' := [(16, .int 0), (0, .ref (g_ad X 122)), (1, .ref (g_ad X 124)), (2, .ref (g_ad X 125)), (3, .ref (g_ad X 126)), (4, .ref (g_ad X 127)), (5, .ref (g_ad X 128)), (6, .ref (g_ad X 129)), (7, .ref (g_ad X 130)), (15, .int v15_1803)]) O dL_acts_1804 (hN 16 rfl) rfl ?_
                                      refine r_iconst (x := 0) O dL_acts_1806 rfl ?_
                                      refine r_istore (lc' := [(17, .int 0), (16, .int 0), (0, .ref (g_ad X 122)), (1, .ref (g_ad X 124)), (2, .ref (g_ad X 125)), (3, .ref (g_ad X 126)), (4, .ref (g_ad X 127)), (5, .ref (g_ad X 128)), (6, .ref (g_ad X 129)), (7, .ref (g_ad X 130)), (15, .int v15_1803)]) O dL_acts_1807 (hN 17 rfl) rfl ?_
                                      have L_1809 : ∀ (f_1809 : Nat) (v16_1809 : Int32) (j : Nat) (s_1809 : Nat → Int32) (hi_1809 : j ≤ 40 ∧ 40 < f_1809 + j ∧ g_J s_1809 ∧ (s_1809 (3)).toInt = (s (3)).toInt + j), g_V X (fun r : Int32 × (Nat → Int32) × (Nat → Int32) × (Nat → Nat) => ((.inl (some (.int r.1)), (r.2.1, r.2.2.1, lm, r.2.2.2)) : g_Res)) (R_L_acts_1809 m s pm v15_1803 f_1809 v16_1809 j s_1809) 0 0 m (s_1809, lm, pm) 1809 [(0, .ref (g_ad X 122)), (1, .ref (g_ad X 124)), (2, .ref (g_ad X 125)), (3, .ref (g_ad X 126)), (4, .ref (g_ad X 127)), (5, .ref (g_ad X 128)), (6, .ref (g_ad X 129)), (7, .ref (g_ad X 130)), (15, .int v15_1803), (16, .int v16_1809), (17, .int (nI j))] [] := by
                                        intro f_1809
                                        induction f_1809 with
                                        | zero => intro v16_1809 j s_1809 hi_1809; exact absurd hi_1809 (by omega)
                                        | succ f_1809 ih_1809 =>
                                          intro v16_1809 j s_1809 hi_1809
                                          have hc_j : (nI j).toInt = (j : Int) := nI_toInt (by omega)
                                          obtain ⟨hi1, hi2, hi3, hi4⟩ := hi_1809
                                          refine r_iload O 10 dL_acts_1809 rfl ?_
                                          refine r_iload O 8 dL_acts_1811 rfl ?_
                                          refine r_icmp_ge O 1841 dL_acts_1813 (by decide) (fun c_1813 => ?_) (fun c_1813 => ?_)
                                          · have e_1813 : (v15_1803).toInt ≤ (nI j).toInt := j_le c_1813
                                            refine r_aload_n O 0 dL_acts_1841 rfl rfl ?_
                                            refine r_iload O 8 dL_acts_1842 rfl ?_
                                            refine r_cW O Y [.ref (g_ad X 122), .int v15_1803] [] (met_L_passes (g_xl X) hs m s_1809 lm pm v15_1803 hI0) LW_92 rfl rfl rfl dL_acts_1844 rfl rfl ?_
                                            refine r_iload O 9 dL_acts_1847 rfl ?_
                                            refine r_icmp_ne O 1856 dL_acts_1849 (by decide) (fun c_1849 => ?_) (fun c_1849 => ?_)
                                            · have e_1849 : (g_wv (R_X7_pass m pm v15_1803)).toInt = (v16_1809).toInt := j_eq c_1849
                                              refine r_iconst (x := 1) O dL_acts_1852 rfl ?_
                                              refine r_goto O 1857 dL_acts_1853 (by decide) ?_
                                              exact r_iret O dL_acts_1857 rfl (Nat.le_of_ble_eq_true rfl) (Nat.le_of_ble_eq_true rfl) rfl
                                            · have e_1849 : (g_wv (R_X7_pass m pm v15_1803)).toInt ≠ (v16_1809).toInt := j_ne c_1849
                                              refine r_iconst (x := 0) O dL_acts_1856 rfl ?_
                                              exact r_iret O dL_acts_1857 rfl (Nat.le_of_ble_eq_true rfl) (Nat.le_of_ble_eq_true rfl) rfl
                                          · have e_1813 : (nI j).toInt < (v15_1803).toInt := j_nle c_1813
                                            refine r_iload O 9 dL_acts_1816 rfl ?_
                                            refine r_aload_n O 1 dL_acts_1818 rfl rfl ?_
                                            refine r_aload_n O 2 dL_acts_1819 rfl rfl ?_
                                            refine r_aload_n O 3 dL_acts_1820 rfl rfl ?_
                                            refine r_aload O 4 dL_acts_1821 rfl ?_
                                            refine r_aload O 5 dL_acts_1823 rfl ?_
                                            refine r_aload O 6 dL_acts_1825 rfl ?_
                                            refine r_aload O 7 dL_acts_1827 rfl ?_
                                            refine r_callSi O [.ref (g_ad X 124), .ref (g_ad X 125), .ref (g_ad X 126), .ref (g_ad X 127), .ref (g_ad X 128), .ref (g_ad X 129), .ref (g_ad X 130)] [.int v16_1809] (met_L_minute (g_xl X) hs lm pm m s_1809 (by first | decide | with_reducible assumption | with_reducible omega | (simp (disch := omega) only [g_upd_ne, g_upd_eq]; first | with_reducible assumption | with_reducible omega | decide) | exact Or.inl rfl | exact Or.inr rfl)) LL_88 rfl rfl rfl dL_acts_1829 rfl rfl ?_
                                            refine r_iadd O dL_acts_1832 ?_
                                            refine r_istore (lc' := [(16, .int (v16_1809 + (R_L_minute s_1809).1)), (0, .ref (g_ad X 122)), (1, .ref (g_ad X 124)), (2, .ref (g_ad X 125)), (3, .ref (g_ad X 126)), (4, .ref (g_ad X 127)), (5, .ref (g_ad X 128)), (6, .ref (g_ad X 129)), (7, .ref (g_ad X 130)), (15, .int v15_1803), (17, .int (nI j))]) O dL_acts_1833 (hN 16 rfl) rfl ?_
                                            refine r_iinc (lc' := [(17, .int (nI (j + 1))), (16, .int (v16_1809 + (R_L_minute s_1809).1)), (0, .ref (g_ad X 122)), (1, .ref (g_ad X 124)), (2, .ref (g_ad X 125)), (3, .ref (g_ad X 126)), (4, .ref (g_ad X 127)), (5, .ref (g_ad X 128)), (6, .ref (g_ad X 129)), (7, .ref (g_ad X 130)), (15, .int v15_1803)]) O 10 dL_acts_1835 rfl (nI_1 j) (hN 17 rfl) rfl ?_
                                            refine r_goto O 1809 dL_acts_1838 (by decide) ?_
                                            refine r_sub [2, 3, 4, 5, 6, 7, 8, 9, 10, 1, 0] rfl ?_
                                            exact ih_1809 (v16_1809 + (R_L_minute s_1809).1) (j + 1) ((R_L_minute s_1809).2) ⟨(by with_reducible omega), (by with_reducible omega), (LJ_minute hi3 (by omega)).1, by rw [(LJ_minute hi3 (by omega)).2]; omega⟩
                                      refine r_sub [2, 3, 4, 5, 6, 7, 8, 9, 10, 1, 0] rfl ?_
                                      exact L_1809 41 0 0 s ⟨(by with_reducible omega), (by with_reducible omega), hJ, (by with_reducible omega)⟩
                                    refine r_istore (lc' := [(15, .int (1 + (v10_11 - v10_11 / t0_1799 * t0_1799))), (0, .ref (g_ad X 122)), (1, .ref (g_ad X 124)), (2, .ref (g_ad X 125)), (3, .ref (g_ad X 126)), (4, .ref (g_ad X 127)), (5, .ref (g_ad X 128)), (6, .ref (g_ad X 129)), (7, .ref (g_ad X 130))]) O dL_acts_1801 (hN 15 rfl) rfl ?_
                                    refine r_sub [1, 2, 3, 4, 5, 6, 7, 8, 0] rfl ?_
                                    exact J_1803 (1 + (v10_11 - v10_11 / t0_1799 * t0_1799)) (by have h := rem_b (x := v10_11) (y := t0_1799) (by with_reducible omega) (by with_reducible omega); have h1 : (1 : Int32).toInt = 1 := rfl; have e := j_addE (x := 1) (y := v10_11 - v10_11 / t0_1799 * t0_1799) h1 rfl (by omega) (by omega); omega) (by have h := rem_b (x := v10_11) (y := t0_1799) (by with_reducible omega) (by with_reducible omega); have h1 : (1 : Int32).toInt = 1 := rfl; have e := j_addE (x := 1) (y := v10_11 - v10_11 / t0_1799 * t0_1799) h1 rfl (by omega) (by omega); omega)
                                  refine r_if_ne O 1797 dL_acts_1789 (by decide) (fun c_1789 => ?_) (fun c_1789 => ?_)
                                  · have e_1789 : (v10_11 - v10_11 / 6 * 6).toInt = (0 : Int) := j_eqR c_1789 rfl
                                    refine r_bipush (x := 40) O dL_acts_1792 rfl ?_
                                    refine r_goto O 1799 dL_acts_1794 (by decide) ?_
                                    refine r_sub [0, 1, 2, 3, 4, 5, 6, 7] rfl ?_
                                    have hlit_t0_1799 : (40 : Int32).toInt = 40 := rfl
                                    exact J_1799 40 (by first | decide | with_reducible assumption | with_reducible omega | (simp (disch := omega) only [g_upd_ne, g_upd_eq]; first | with_reducible assumption | with_reducible omega | decide) | exact Or.inl rfl | exact Or.inr rfl) (by first | decide | with_reducible assumption | with_reducible omega | (simp (disch := omega) only [g_upd_ne, g_upd_eq]; first | with_reducible assumption | with_reducible omega | decide) | exact Or.inl rfl | exact Or.inr rfl)
                                  · have e_1789 : (v10_11 - v10_11 / 6 * 6).toInt ≠ (0 : Int) := j_neR c_1789 rfl
                                    refine r_bipush (x := 9) O dL_acts_1797 rfl ?_
                                    refine r_sub [0, 1, 2, 3, 4, 5, 6, 7] rfl ?_
                                    have hlit_t0_1799 : (9 : Int32).toInt = 9 := rfl
                                    exact J_1799 9 (by first | decide | with_reducible assumption | with_reducible omega | (simp (disch := omega) only [g_upd_ne, g_upd_eq]; first | with_reducible assumption | with_reducible omega | decide) | exact Or.inl rfl | exact Or.inr rfl) (by first | decide | with_reducible assumption | with_reducible omega | (simp (disch := omega) only [g_upd_ne, g_upd_eq]; first | with_reducible assumption | with_reducible omega | decide) | exact Or.inl rfl | exact Or.inr rfl)
                                refine r_icmp_ne O 1781 dL_acts_1656 (by decide) (fun c_1656 => ?_) (fun c_1656 => ?_)
                                · have e_1656 : (v11_20).toInt = (21 : Int) := j_eqR c_1656 rfl
                                  refine r_aload O 6 dL_acts_1659 rfl ?_
                                  refine r_iload O 11 dL_acts_1661 rfl ?_
                                  refine r_iconst (x := 2) O dL_acts_1663 rfl ?_
                                  refine r_iadd O dL_acts_1664 ?_
                                  have ix_1665 : ((9 * v12_691) + 2).toInt = (((9 : Int) * v12_691.toInt) + (2 : Int)) := (j_addE (j_mulE rfl rfl (by with_reducible omega) (by with_reducible omega)) rfl (by with_reducible omega) (by with_reducible omega))
                                  have ja_1665_0 := j_nat (x := v12_691) (by with_reducible omega)
                                  have iy_1665 := j_nat (x := ((9 * v12_691) + 2)) (by with_reducible omega)
                                  refine r_ialn (b := 58) (loc := 58 + 9 * v12_691.toNatClampNeg + 2) O R_129 (show vp_in ((9 * v12_691) + 2) 54 from g_vin (by with_reducible omega) (by with_reducible omega)) (by with_reducible omega) dL_acts_1665 ?_
                                  have J_1683 : g_V X (fun r : Int32 × (Nat → Int32) × (Nat → Int32) × (Nat → Nat) => ((.inl (some (.int r.1)), (r.2.1, r.2.2.1, lm, r.2.2.2)) : g_Res)) (R_L_acts_1683 m s pm v12_691 ) 0 0 m (s, lm, pm) 1683 [(0, .ref (g_ad X 122)), (12, .int v12_691)] [] := by
                                    refine r_aload_n O 0 dL_acts_1683 rfl rfl ?_
                                    refine r_iload O 1 dL_acts_1684 rfl ?_
                                    refine r_cW O Y [.ref (g_ad X 122), .int v12_691] [] (met_L_sends (g_xl X) hs m s lm pm v12_691 hI0) LW_85 rfl rfl rfl dL_acts_1686 rfl rfl ?_
                                    refine r_ldc O dL_acts_1689 w_con_L_50 ?_
                                    refine r_icmp_ne O 1698 dL_acts_1691 (by decide) (fun c_1691 => ?_) (fun c_1691 => ?_)
                                    · have e_1691 : (g_wv (R_X7_send m pm v12_691)).toInt = (-2000003 : Int) := j_eqR c_1691 rfl
                                      refine r_iconst (x := 1) O dL_acts_1694 rfl ?_
                                      refine r_goto O 1699 dL_acts_1695 (by decide) ?_
                                      exact r_iret O dL_acts_1699 rfl (Nat.le_of_ble_eq_true rfl) (Nat.le_of_ble_eq_true rfl) rfl
                                    · have e_1691 : (g_wv (R_X7_send m pm v12_691)).toInt ≠ (-2000003 : Int) := j_neR c_1691 rfl
                                      refine r_iconst (x := 0) O dL_acts_1698 rfl ?_
                                      exact r_iret O dL_acts_1699 rfl (Nat.le_of_ble_eq_true rfl) (Nat.le_of_ble_eq_true rfl) rfl
                                  refine r_if_gt O 1683 dL_acts_1666 (by decide) (fun c_1666 => ?_) (fun c_1666 => ?_)
                                  · have e_1666 : (0 : Int) < (s (58 + 9 * v12_691.toNatClampNeg + 2)).toInt := j_ltL c_1666 rfl
                                    refine r_sub [0, 10] rfl ?_
                                    exact J_1683
                                  · have e_1666 : (s (58 + 9 * v12_691.toNatClampNeg + 2)).toInt ≤ (0 : Int) := j_nltL c_1666 rfl
                                    refine r_iload O 12 dL_acts_1669 rfl ?_
                                    have J_1700 : ∀  (hj0 : (s (58 + 9 * v12_691.toNatClampNeg + 1)).toInt ≤ 0 ∨ (s (6)).toInt ≠ 10), g_V X (fun r : Int32 × (Nat → Int32) × (Nat → Int32) × (Nat → Nat) => ((.inl (some (.int r.1)), (r.2.1, r.2.2.1, lm, r.2.2.2)) : g_Res)) (R_L_acts_1700 m s pm v12_691 ) 0 0 m (s, lm, pm) 1700 [(0, .ref (g_ad X 122)), (1, .ref (g_ad X 124)), (7, .ref (g_ad X 130)), (12, .int v12_691), (14, .int (s (58 + 9 * v12_691.toNatClampNeg + 1)))] [] := by
                                      intro  hj0
                                      refine r_iload O 4 dL_acts_1700 rfl ?_
                                      have J_1762 : ∀ (s_1762 : Nat → Int32), g_V X (fun r : Int32 × (Nat → Int32) × (Nat → Int32) × (Nat → Nat) => ((.inl (some (.int r.1)), (r.2.1, r.2.2.1, lm, r.2.2.2)) : g_Res)) (R_L_acts_1762 m pm v12_691 s_1762) 0 0 m (s_1762, lm, pm) 1762 [(0, .ref (g_ad X 122)), (1, .ref (g_ad X 124)), (12, .int v12_691)] [] := by
                                        intro s_1762
                                        refine r_aload_n O 0 dL_acts_1762 rfl rfl ?_
                                        refine r_iload O 2 dL_acts_1763 rfl ?_
                                        refine r_cW O Y [.ref (g_ad X 122), .int v12_691] [] (met_L_sends (g_xl X) hs m s_1762 lm pm v12_691 hI0) LW_85 rfl rfl rfl dL_acts_1765 rfl rfl ?_
                                        refine r_aload_n O 1 dL_acts_1768 rfl rfl ?_
                                        refine r_bipush (x := 6) O dL_acts_1769 rfl ?_
                                        refine r_ialn (b := 0) (loc := 6) O R_124 (g_vin (by decide) (by decide)) rfl dL_acts_1771 ?_
                                        refine r_icmp_ne O 1779 dL_acts_1772 (by decide) (fun c_1772 => ?_) (fun c_1772 => ?_)
                                        · have e_1772 : (g_wv (R_X7_send m pm v12_691)).toInt = (s_1762 (6)).toInt := j_eq c_1772
                                          refine r_iconst (x := 1) O dL_acts_1775 rfl ?_
                                          refine r_goto O 1780 dL_acts_1776 (by decide) ?_
                                          exact r_iret O dL_acts_1780 rfl (Nat.le_of_ble_eq_true rfl) (Nat.le_of_ble_eq_true rfl) rfl
                                        · have e_1772 : (g_wv (R_X7_send m pm v12_691)).toInt ≠ (s_1762 (6)).toInt := j_ne c_1772
                                          refine r_iconst (x := 0) O dL_acts_1779 rfl ?_
                                          exact r_iret O dL_acts_1780 rfl (Nat.le_of_ble_eq_true rfl) (Nat.le_of_ble_eq_true rfl) rfl
                                      refine r_if_ne O 1716 dL_acts_1702 (by decide) (fun c_1702 => ?_) (fun c_1702 => ?_)
                                      · have e_1702 : (s (58 + 9 * v12_691.toNatClampNeg + 1)).toInt = (0 : Int) := j_eqR c_1702 rfl
                                        refine r_aload_n O 1 dL_acts_1705 rfl rfl ?_
                                        refine r_bipush (x := 7) O dL_acts_1706 rfl ?_
                                        refine r_dup2 O dL_acts_1708 rfl rfl ?_
                                        refine r_ialn (b := 0) (loc := 7) O R_124 (g_vin (by decide) (by decide)) rfl dL_acts_1709 ?_
                                        refine r_iconst (x := 1) O dL_acts_1710 rfl ?_
                                        refine r_iadd O dL_acts_1711 ?_
                                        refine r_iasn (b := 0) (loc := 7) O T_124 (g_vin (by decide) (by decide)) rfl dL_acts_1712 ?_
                                        refine r_goto O 1762 dL_acts_1713 (by decide) ?_
                                        refine r_sub [0, 1, 3] rfl ?_
                                        exact J_1762 (upd s (7) ((s (7)) + 1))
                                      · have e_1702 : (s (58 + 9 * v12_691.toNatClampNeg + 1)).toInt ≠ (0 : Int) := j_neR c_1702 rfl
                                        refine r_aload O 2 dL_acts_1716 rfl ?_
                                        refine r_iconst (x := 3) O dL_acts_1718 rfl ?_
                                        refine r_aload_n O 1 dL_acts_1719 rfl rfl ?_
                                        refine r_bipush (x := 6) O dL_acts_1720 rfl ?_
                                        refine r_ialn (b := 0) (loc := 6) O R_124 (g_vin (by decide) (by decide)) rfl dL_acts_1722 ?_
                                        refine r_imul O dL_acts_1723 ?_
                                        refine r_iload O 3 dL_acts_1724 rfl ?_
                                        have ix_1726 : (3 * (s (6))).toInt = ((3 : Int) * (s (6)).toInt) := (j_mulE rfl rfl (by with_reducible omega) (by with_reducible omega))
                                        have ja_1726_0 := j_nat (x := (s (6))) (by with_reducible omega)
                                        have iy_1726 := j_nat (x := (3 * (s (6)))) (by with_reducible omega)
                                        refine r_iasn (b := 112) (loc := 112 + 3 * ((s (6)).toNatClampNeg)) O T_130 (show vp_in (3 * (s (6))) 30 from g_vin (by with_reducible omega) (by with_reducible omega)) (by with_reducible omega) dL_acts_1726 ?_
                                        refine r_aload O 2 dL_acts_1727 rfl ?_
                                        refine r_iconst (x := 3) O dL_acts_1729 rfl ?_
                                        refine r_aload_n O 1 dL_acts_1730 rfl rfl ?_
                                        refine r_bipush (x := 6) O dL_acts_1731 rfl ?_
                                        refine r_ialv (b := 0) (loc := 6) (v := (s (6))) O R_124 (g_vin (by decide) (by decide)) rfl (by rw [g_upd_ne (by with_reducible omega)]) dL_acts_1733 ?_
                                        refine r_imul O dL_acts_1734 ?_
                                        refine r_iconst (x := 1) O dL_acts_1735 rfl ?_
                                        refine r_iadd O dL_acts_1736 ?_
                                        refine r_aload_n O 1 dL_acts_1737 rfl rfl ?_
                                        refine r_iconst (x := 3) O dL_acts_1738 rfl ?_
                                        refine r_ialv (b := 0) (loc := 3) (v := (s (3))) O R_124 (g_vin (by decide) (by decide)) rfl (by rw [g_upd_ne (by with_reducible omega)]) dL_acts_1739 ?_
                                        have ix_1740 : ((3 * (s (6))) + 1).toInt = (((3 : Int) * (s (6)).toInt) + (1 : Int)) := (j_addE (j_mulE rfl rfl (by with_reducible omega) (by with_reducible omega)) rfl (by with_reducible omega) (by with_reducible omega))
                                        have ja_1740_0 := j_nat (x := (s (6))) (by with_reducible omega)
                                        have iy_1740 := j_nat (x := ((3 * (s (6))) + 1)) (by with_reducible omega)
                                        refine r_iasn (b := 112) (loc := 113 + 3 * ((s (6)).toNatClampNeg)) O T_130 (show vp_in ((3 * (s (6))) + 1) 30 from g_vin (by with_reducible omega) (by with_reducible omega)) (by with_reducible omega) dL_acts_1740 ?_
                                        refine r_aload O 2 dL_acts_1741 rfl ?_
                                        refine r_iconst (x := 3) O dL_acts_1743 rfl ?_
                                        refine r_aload_n O 1 dL_acts_1744 rfl rfl ?_
                                        refine r_bipush (x := 6) O dL_acts_1745 rfl ?_
                                        refine r_ialv (b := 0) (loc := 6) (v := (s (6))) O R_124 (g_vin (by decide) (by decide)) rfl (by rw [g_upd_ne (by with_reducible omega), g_upd_ne (by with_reducible omega)]) dL_acts_1747 ?_
                                        refine r_imul O dL_acts_1748 ?_
                                        refine r_iconst (x := 2) O dL_acts_1749 rfl ?_
                                        refine r_iadd O dL_acts_1750 ?_
                                        refine r_iload O 4 dL_acts_1751 rfl ?_
                                        have ix_1753 : ((3 * (s (6))) + 2).toInt = (((3 : Int) * (s (6)).toInt) + (2 : Int)) := (j_addE (j_mulE rfl rfl (by with_reducible omega) (by with_reducible omega)) rfl (by with_reducible omega) (by with_reducible omega))
                                        have ja_1753_0 := j_nat (x := (s (6))) (by with_reducible omega)
                                        have iy_1753 := j_nat (x := ((3 * (s (6))) + 2)) (by with_reducible omega)
                                        refine r_iasn (b := 112) (loc := 114 + 3 * ((s (6)).toNatClampNeg)) O T_130 (show vp_in ((3 * (s (6))) + 2) 30 from g_vin (by with_reducible omega) (by with_reducible omega)) (by with_reducible omega) dL_acts_1753 ?_
                                        refine r_aload_n O 1 dL_acts_1754 rfl rfl ?_
                                        refine r_bipush (x := 6) O dL_acts_1755 rfl ?_
                                        refine r_dup2 O dL_acts_1757 rfl rfl ?_
                                        refine r_ialv (b := 0) (loc := 6) (v := (s (6))) O R_124 (g_vin (by decide) (by decide)) rfl (by rw [g_upd_ne (by with_reducible omega), g_upd_ne (by with_reducible omega), g_upd_ne (by with_reducible omega)]) dL_acts_1758 ?_
                                        refine r_iconst (x := 1) O dL_acts_1759 rfl ?_
                                        refine r_iadd O dL_acts_1760 ?_
                                        refine r_iasn (b := 0) (loc := 6) O T_124 (g_vin (by decide) (by decide)) rfl dL_acts_1761 ?_
                                        refine r_sub [0, 1, 3] rfl ?_
                                        exact J_1762 (upd (upd (upd (upd s (112 + 3 * ((s (6)).toNatClampNeg)) v12_691) (113 + 3 * ((s (6)).toNatClampNeg)) (s (3))) (114 + 3 * ((s (6)).toNatClampNeg)) (s (58 + 9 * v12_691.toNatClampNeg + 1))) (6) ((s (6)) + 1))
                                    refine r_if_le O 1700 dL_acts_1671 (by decide) (fun c_1671 => ?_) (fun c_1671 => ?_)
                                    · have e_1671 : (s (58 + 9 * v12_691.toNatClampNeg + 1)).toInt ≤ (0 : Int) := j_leR c_1671 rfl
                                      refine r_sub [0, 1, 7, 10, 12] rfl ?_
                                      exact J_1700  (by first | decide | with_reducible assumption | with_reducible omega | (simp (disch := omega) only [g_upd_ne, g_upd_eq]; first | with_reducible assumption | with_reducible omega | decide) | exact Or.inl rfl | exact Or.inr rfl)
                                    · have e_1671 : (0 : Int) < (s (58 + 9 * v12_691.toNatClampNeg + 1)).toInt := j_nleR c_1671 rfl
                                      refine r_aload_n O 1 dL_acts_1674 rfl rfl ?_
                                      refine r_bipush (x := 6) O dL_acts_1675 rfl ?_
                                      refine r_ialn (b := 0) (loc := 6) O R_124 (g_vin (by decide) (by decide)) rfl dL_acts_1677 ?_
                                      refine r_bipush (x := 10) O dL_acts_1678 rfl ?_
                                      refine r_icmp_ne O 1700 dL_acts_1680 (by decide) (fun c_1680 => ?_) (fun c_1680 => ?_)
                                      · have e_1680 : (s (6)).toInt = (10 : Int) := j_eqR c_1680 rfl
                                        refine r_sub [0, 10] rfl ?_
                                        exact J_1683
                                      · have e_1680 : (s (6)).toInt ≠ (10 : Int) := j_neR c_1680 rfl
                                        refine r_sub [0, 1, 7, 10, 12] rfl ?_
                                        exact J_1700  (by first | decide | with_reducible assumption | with_reducible omega | (simp (disch := omega) only [g_upd_ne, g_upd_eq]; first | with_reducible assumption | with_reducible omega | decide) | exact Or.inl rfl | exact Or.inr rfl)
                                · have e_1656 : (v11_20).toInt ≠ (21 : Int) := j_neR c_1656 rfl
                                  refine r_sub [0, 1, 2, 3, 4, 5, 6, 7, 8] rfl ?_
                                  exact J_1781
                              refine r_icmp_ge O 1652 dL_acts_1369 (by decide) (fun c_1369 => ?_) (fun c_1369 => ?_)
                              · have e_1369 : (21 : Int) ≤ (v11_20).toInt := j_leL c_1369 rfl
                                refine r_sub [0, 1, 2, 3, 4, 5, 6, 7, 9, 10, 11, 12, 13] rfl ?_
                                exact J_1652
                              · have e_1369 : (v11_20).toInt < (21 : Int) := j_nleL c_1369 rfl
                                refine r_iconst (x := 0) O dL_acts_1372 rfl ?_
                                refine r_istore (lc' := [(15, .int 0), (0, .ref (g_ad X 122)), (1, .ref (g_ad X 124)), (2, .ref (g_ad X 125)), (3, .ref (g_ad X 126)), (4, .ref (g_ad X 127)), (5, .ref (g_ad X 128)), (6, .ref (g_ad X 129)), (7, .ref (g_ad X 130)), (8, .ref (g_ad X 131)), (10, .int v10_11), (11, .int v11_20), (12, .int v12_691), (13, .int (9 * v12_691)), (14, .int (s (58 + 9 * v12_691.toNatClampNeg + 1)))]) O dL_acts_1373 (hN 15 rfl) rfl ?_
                                refine r_iconst (x := 0) O dL_acts_1375 rfl ?_
                                refine r_istore (lc' := [(16, .int 0), (15, .int 0), (0, .ref (g_ad X 122)), (1, .ref (g_ad X 124)), (2, .ref (g_ad X 125)), (3, .ref (g_ad X 126)), (4, .ref (g_ad X 127)), (5, .ref (g_ad X 128)), (6, .ref (g_ad X 129)), (7, .ref (g_ad X 130)), (8, .ref (g_ad X 131)), (10, .int v10_11), (11, .int v11_20), (12, .int v12_691), (13, .int (9 * v12_691)), (14, .int (s (58 + 9 * v12_691.toNatClampNeg + 1)))]) O dL_acts_1376 (hN 16 rfl) rfl ?_
                                refine r_iconst (x := 0) O dL_acts_1378 rfl ?_
                                refine r_istore (lc' := [(17, .int 0), (16, .int 0), (15, .int 0), (0, .ref (g_ad X 122)), (1, .ref (g_ad X 124)), (2, .ref (g_ad X 125)), (3, .ref (g_ad X 126)), (4, .ref (g_ad X 127)), (5, .ref (g_ad X 128)), (6, .ref (g_ad X 129)), (7, .ref (g_ad X 130)), (8, .ref (g_ad X 131)), (10, .int v10_11), (11, .int v11_20), (12, .int v12_691), (13, .int (9 * v12_691)), (14, .int (s (58 + 9 * v12_691.toNatClampNeg + 1)))]) O dL_acts_1379 (hN 17 rfl) rfl ?_
                                have L_1381 : ∀ (f_1381 : Nat) (v15_1381 : Int32) (v16_1381 : Int32) (j : Nat) (hi_1381 : j ≤ 6 ∧ 6 < f_1381 + j ∧ (v16_1381.toInt ≤ 0 ∨ 1 ≤ (s (4)).toInt) ∧ 0 ≤ v16_1381.toInt ∧ v16_1381.toInt ≤ j), g_V X (fun r : Int32 × (Nat → Int32) × (Nat → Int32) × (Nat → Nat) => ((.inl (some (.int r.1)), (r.2.1, r.2.2.1, lm, r.2.2.2)) : g_Res)) (R_L_acts_1381 m s pm f_1381 v15_1381 v16_1381 j) 0 0 m (s, lm, pm) 1381 [(0, .ref (g_ad X 122)), (1, .ref (g_ad X 124)), (2, .ref (g_ad X 125)), (3, .ref (g_ad X 126)), (4, .ref (g_ad X 127)), (6, .ref (g_ad X 129)), (8, .ref (g_ad X 131)), (15, .int v15_1381), (16, .int v16_1381), (17, .int (nI j))] [] := by
                                  intro f_1381
                                  induction f_1381 with
                                  | zero => intro v15_1381 v16_1381 j hi_1381; exact absurd hi_1381 (by omega)
                                  | succ f_1381 ih_1381 =>
                                    intro v15_1381 v16_1381 j hi_1381
                                    have hc_j : (nI j).toInt = (j : Int) := nI_toInt (by omega)
                                    refine r_iload O 9 dL_acts_1381 rfl ?_
                                    refine r_aload_n O 1 dL_acts_1383 rfl rfl ?_
                                    refine r_iconst (x := 2) O dL_acts_1384 rfl ?_
                                    refine r_ialn (b := 0) (loc := 2) O R_124 (g_vin (by decide) (by decide)) rfl dL_acts_1385 ?_
                                    refine r_icmp_ge O 1442 dL_acts_1386 (by decide) (fun c_1386 => ?_) (fun c_1386 => ?_)
                                    · have e_1386 : (s (2)).toInt ≤ (nI j).toInt := j_le c_1386
                                      refine r_iload O 8 dL_acts_1442 rfl ?_
                                      refine r_iconst (x := 3) O dL_acts_1444 rfl ?_
                                      refine r_icmp_ge O 1465 dL_acts_1445 (by decide) (fun c_1445 => ?_) (fun c_1445 => ?_)
                                      · have e_1445 : (3 : Int) ≤ (v16_1381).toInt := j_leL c_1445 rfl
                                        refine r_iconst (x := 3) O dL_acts_1465 rfl ?_
                                        refine r_aload_n O 3 dL_acts_1466 rfl rfl ?_
                                        refine r_aload_n O 1 dL_acts_1467 rfl rfl ?_
                                        refine r_iconst (x := 4) O dL_acts_1468 rfl ?_
                                        refine r_ialn (b := 0) (loc := 4) O R_124 (g_vin (by decide) (by decide)) rfl dL_acts_1469 ?_
                                        refine r_iconst (x := 1) O dL_acts_1470 rfl ?_
                                        refine r_isub O dL_acts_1471 ?_
                                        have ix_1472 : ((s (4)) - 1).toInt = ((s (4)).toInt - (1 : Int)) := (j_subE rfl rfl (by with_reducible omega) (by with_reducible omega))
                                        have ja_1472_0 := j_nat (x := (s (4))) (by with_reducible omega)
                                        have iy_1472 := j_nat (x := ((s (4)) - 1)) (by with_reducible omega)
                                        refine r_ialn (b := 20) (loc := 20 + ((s (4)).toNatClampNeg - 1)) O R_126 (show vp_in ((s (4)) - 1) 7 from g_vin (by with_reducible omega) (by with_reducible omega)) (by with_reducible omega) dL_acts_1472 ?_
                                        refine r_imul O dL_acts_1473 ?_
                                        refine r_istore (lc' := [(17, .int (3 * (s (20 + ((s (4)).toNatClampNeg - 1))))), (0, .ref (g_ad X 122)), (1, .ref (g_ad X 124)), (2, .ref (g_ad X 125)), (3, .ref (g_ad X 126)), (4, .ref (g_ad X 127)), (6, .ref (g_ad X 129)), (8, .ref (g_ad X 131)), (15, .int v15_1381), (16, .int v16_1381)]) O dL_acts_1474 (hN 17 rfl) rfl ?_
                                        refine r_iconst (x := 0) O dL_acts_1476 rfl ?_
                                        refine r_istore (lc' := [(18, .int 0), (17, .int (3 * (s (20 + ((s (4)).toNatClampNeg - 1))))), (0, .ref (g_ad X 122)), (1, .ref (g_ad X 124)), (2, .ref (g_ad X 125)), (3, .ref (g_ad X 126)), (4, .ref (g_ad X 127)), (6, .ref (g_ad X 129)), (8, .ref (g_ad X 131)), (15, .int v15_1381), (16, .int v16_1381)]) O dL_acts_1477 (hN 18 rfl) rfl ?_
                                        have L_1479 : ∀ (f_1479 : Nat) (i : Nat) (s_1479 : Nat → Int32) (hi_1479 : i ≤ 6 ∧ 6 < f_1479 + i ∧ s_1479 (2) = s (2) ∧ s_1479 (4) = s (4)), g_V X (fun r : Int32 × (Nat → Int32) × (Nat → Int32) × (Nat → Nat) => ((.inl (some (.int r.1)), (r.2.1, r.2.2.1, lm, r.2.2.2)) : g_Res)) (R_L_acts_1479 m s pm v15_1381 f_1479 i s_1479) 0 0 m (s_1479, lm, pm) 1479 [(0, .ref (g_ad X 122)), (1, .ref (g_ad X 124)), (6, .ref (g_ad X 129)), (8, .ref (g_ad X 131)), (15, .int v15_1381), (17, .int (3 * (s (20 + ((s (4)).toNatClampNeg - 1))))), (18, .int (nI i))] [] := by
                                          intro f_1479
                                          induction f_1479 with
                                          | zero => intro i s_1479 hi_1479; exact absurd hi_1479 (by omega)
                                          | succ f_1479 ih_1479 =>
                                            intro i s_1479 hi_1479
                                            have hc_i : (nI i).toInt = (i : Int) := nI_toInt (by omega)
                                            obtain ⟨hi1, hi2, hi3, hi4⟩ := hi_1479
                                            have hi5 : (s_1479 (2)).toInt = (s (2)).toInt := by rw [hi3]
                                            refine r_iload O 6 dL_acts_1479 rfl ?_
                                            refine r_aload_n O 1 dL_acts_1481 rfl rfl ?_
                                            refine r_iconst (x := 2) O dL_acts_1482 rfl ?_
                                            refine r_ialn (b := 0) (loc := 2) O R_124 (g_vin (by decide) (by decide)) rfl dL_acts_1483 ?_
                                            refine r_icmp_ge O 1554 dL_acts_1484 (by decide) (fun c_1484 => ?_) (fun c_1484 => ?_)
                                            · have e_1484 : (s_1479 (2)).toInt ≤ (nI i).toInt := j_le c_1484
                                              refine r_bipush (x := 35) O dL_acts_1554 rfl ?_
                                              refine r_istore (lc' := [(18, .int 35), (0, .ref (g_ad X 122)), (1, .ref (g_ad X 124)), (6, .ref (g_ad X 129)), (8, .ref (g_ad X 131)), (15, .int v15_1381), (17, .int (3 * (s (20 + ((s (4)).toNatClampNeg - 1)))))]) O dL_acts_1556 (hN 18 rfl) rfl ?_
                                              have L_1558 : ∀ (f_1558 : Nat) (e : Nat) (s_1558 : Nat → Int32) (hi_1558 : 2 ≤ e ∧ e ≤ 35 ∧ e < f_1558), g_V X (fun r : Int32 × (Nat → Int32) × (Nat → Int32) × (Nat → Nat) => ((.inl (some (.int r.1)), (r.2.1, r.2.2.1, lm, r.2.2.2)) : g_Res)) (R_L_acts_1558 m s pm v15_1381 f_1558 e s_1558) 0 0 m (s_1558, lm, pm) 1558 [(0, .ref (g_ad X 122)), (1, .ref (g_ad X 124)), (8, .ref (g_ad X 131)), (15, .int v15_1381), (17, .int (3 * (s (20 + ((s (4)).toNatClampNeg - 1))))), (18, .int (nI e))] [] := by
                                                intro f_1558
                                                induction f_1558 with
                                                | zero => intro e s_1558 hi_1558; exact absurd hi_1558 (by omega)
                                                | succ f_1558 ih_1558 =>
                                                  intro e s_1558 hi_1558
                                                  have hc_e : (nI e).toInt = (e : Int) := nI_toInt (by omega)
                                                  refine r_iload O 5 dL_acts_1558 rfl ?_
                                                  refine r_iconst (x := 2) O dL_acts_1560 rfl ?_
                                                  refine r_icmp_le O 1582 dL_acts_1561 (by decide) (fun c_1561 => ?_) (fun c_1561 => ?_)
                                                  · have e_1561 : (nI e).toInt ≤ (2 : Int) := j_leR c_1561 rfl
                                                    refine r_aload O 2 dL_acts_1582 rfl ?_
                                                    refine r_iconst (x := 0) O dL_acts_1584 rfl ?_
                                                    refine r_aload_n O 1 dL_acts_1585 rfl rfl ?_
                                                    refine r_iconst (x := 3) O dL_acts_1586 rfl ?_
                                                    refine r_ialn (b := 0) (loc := 3) O R_124 (g_vin (by decide) (by decide)) rfl dL_acts_1587 ?_
                                                    refine r_iasn (b := 142) (loc := 142) O T_131 (g_vin (by decide) (by decide)) rfl dL_acts_1588 ?_
                                                    refine r_aload O 2 dL_acts_1589 rfl ?_
                                                    refine r_iconst (x := 1) O dL_acts_1591 rfl ?_
                                                    refine r_aload_n O 1 dL_acts_1592 rfl rfl ?_
                                                    refine r_iconst (x := 4) O dL_acts_1593 rfl ?_
                                                    refine r_ialv (b := 0) (loc := 4) (v := (s_1558 (4))) O R_124 (g_vin (by decide) (by decide)) rfl (by rw [g_upd_ne (by with_reducible omega)]) dL_acts_1594 ?_
                                                    refine r_iasn (b := 142) (loc := 143) O T_131 (g_vin (by decide) (by decide)) rfl dL_acts_1595 ?_
                                                    refine r_aload O 2 dL_acts_1596 rfl ?_
                                                    refine r_iconst (x := 2) O dL_acts_1598 rfl ?_
                                                    refine r_iload O 3 dL_acts_1599 rfl ?_
                                                    refine r_iasn (b := 142) (loc := 144) O T_131 (g_vin (by decide) (by decide)) rfl dL_acts_1601 ?_
                                                    refine r_aload_n O 1 dL_acts_1602 rfl rfl ?_
                                                    refine r_bipush (x := 12) O dL_acts_1603 rfl ?_
                                                    refine r_dup2 O dL_acts_1605 rfl rfl ?_
                                                    refine r_ialv (b := 0) (loc := 12) (v := (s_1558 (12))) O R_124 (g_vin (by decide) (by decide)) rfl (by rw [g_upd_ne (by with_reducible omega), g_upd_ne (by with_reducible omega), g_upd_ne (by with_reducible omega)]) dL_acts_1606 ?_
                                                    refine r_aload_n O 1 dL_acts_1607 rfl rfl ?_
                                                    refine r_bipush (x := 12) O dL_acts_1608 rfl ?_
                                                    refine r_ialv (b := 0) (loc := 12) (v := (s_1558 (12))) O R_124 (g_vin (by decide) (by decide)) rfl (by rw [g_upd_ne (by with_reducible omega), g_upd_ne (by with_reducible omega), g_upd_ne (by with_reducible omega)]) dL_acts_1610 ?_
                                                    refine r_bipush (x := 12) O dL_acts_1611 rfl ?_
                                                    have J_1621 : ∀ (t0_1621 : Int32), g_V X (fun r : Int32 × (Nat → Int32) × (Nat → Int32) × (Nat → Nat) => ((.inl (some (.int r.1)), (r.2.1, r.2.2.1, lm, r.2.2.2)) : g_Res)) (R_L_acts_1621 m s pm v15_1381 s_1558 t0_1621) 0 0 m ((upd (upd (upd s_1558 (142) (s_1558 (3))) (143) (s_1558 (4))) (144) v15_1381), lm, pm) 1621 [(0, .ref (g_ad X 122)), (1, .ref (g_ad X 124)), (15, .int v15_1381), (17, .int (3 * (s (20 + ((s (4)).toNatClampNeg - 1)))))] [.int t0_1621, .int (s_1558 (12)), .int 12, .ref (g_ad X 124)] := by
                                                      intro t0_1621
                                                      refine r_iadd O dL_acts_1621 ?_
                                                      refine r_iasn (b := 0) (loc := 12) O T_124 (g_vin (by decide) (by decide)) rfl dL_acts_1622 ?_
                                                      refine r_aload_n O 1 dL_acts_1623 rfl rfl ?_
                                                      refine r_bipush (x := 8) O dL_acts_1624 rfl ?_
                                                      refine r_dup2 O dL_acts_1626 rfl rfl ?_
                                                      refine r_ialv (b := 0) (loc := 8) (v := (s_1558 (8))) O R_124 (g_vin (by decide) (by decide)) rfl (by rw [g_upd_ne (by with_reducible omega), g_upd_ne (by with_reducible omega), g_upd_ne (by with_reducible omega), g_upd_ne (by with_reducible omega)]) dL_acts_1627 ?_
                                                      refine r_iconst (x := 1) O dL_acts_1628 rfl ?_
                                                      refine r_iadd O dL_acts_1629 ?_
                                                      refine r_iasn (b := 0) (loc := 8) O T_124 (g_vin (by decide) (by decide)) rfl dL_acts_1630 ?_
                                                      refine r_aload_n O 1 dL_acts_1631 rfl rfl ?_
                                                      refine r_iconst (x := 5) O dL_acts_1632 rfl ?_
                                                      refine r_iconst (x := 1) O dL_acts_1633 rfl ?_
                                                      refine r_iasn (b := 0) (loc := 5) O T_124 (g_vin (by decide) (by decide)) rfl dL_acts_1634 ?_
                                                      refine r_aload_n O 0 dL_acts_1635 rfl rfl ?_
                                                      refine r_iload O 2 dL_acts_1636 rfl ?_
                                                      refine r_cW O Y [.ref (g_ad X 122), .int v15_1381] [] (met_L_carries (g_xl X) hs m (upd (upd (upd (upd (upd (upd s_1558 (142) (s_1558 (3))) (143) (s_1558 (4))) (144) v15_1381) (12) ((s_1558 (12)) + t0_1621)) (8) ((s_1558 (8)) + 1)) (5) 1) lm pm v15_1381 hI0) LW_82 rfl rfl rfl dL_acts_1638 rfl rfl ?_
                                                      refine r_iload O 3 dL_acts_1641 rfl ?_
                                                      refine r_icmp_ne O 1650 dL_acts_1643 (by decide) (fun c_1643 => ?_) (fun c_1643 => ?_)
                                                      · have e_1643 : (g_wv (R_X7_carry m pm v15_1381)).toInt = (3 * (s (20 + ((s (4)).toNatClampNeg - 1)))).toInt := j_eq c_1643
                                                        refine r_iconst (x := 1) O dL_acts_1646 rfl ?_
                                                        refine r_goto O 1651 dL_acts_1647 (by decide) ?_
                                                        exact r_iret O dL_acts_1651 rfl (Nat.le_of_ble_eq_true rfl) (Nat.le_of_ble_eq_true rfl) rfl
                                                      · have e_1643 : (g_wv (R_X7_carry m pm v15_1381)).toInt ≠ (3 * (s (20 + ((s (4)).toNatClampNeg - 1)))).toInt := j_ne c_1643
                                                        refine r_iconst (x := 0) O dL_acts_1650 rfl ?_
                                                        exact r_iret O dL_acts_1651 rfl (Nat.le_of_ble_eq_true rfl) (Nat.le_of_ble_eq_true rfl) rfl
                                                    refine r_icmp_ge O 1620 dL_acts_1613 (by decide) (fun c_1613 => ?_) (fun c_1613 => ?_)
                                                    · have e_1613 : (12 : Int) ≤ (s_1558 (12)).toInt := j_leL c_1613 rfl
                                                      refine r_iconst (x := 0) O dL_acts_1620 rfl ?_
                                                      refine r_sub [0, 1, 3, 4] rfl ?_
                                                      exact J_1621 0
                                                    · have e_1613 : (s_1558 (12)).toInt < (12 : Int) := j_nleL c_1613 rfl
                                                      refine r_iconst (x := 1) O dL_acts_1616 rfl ?_
                                                      refine r_goto O 1621 dL_acts_1617 (by decide) ?_
                                                      refine r_sub [0, 1, 3, 4] rfl ?_
                                                      exact J_1621 1
                                                  · have e_1561 : (2 : Int) < (nI e).toInt := j_nleR c_1561 rfl
                                                    refine r_aload O 2 dL_acts_1564 rfl ?_
                                                    refine r_iload O 5 dL_acts_1566 rfl ?_
                                                    refine r_aload O 2 dL_acts_1568 rfl ?_
                                                    refine r_iload O 5 dL_acts_1570 rfl ?_
                                                    refine r_iconst (x := 3) O dL_acts_1572 rfl ?_
                                                    refine r_isub O dL_acts_1573 ?_
                                                    have ix_1574 : ((nI e) - 3).toInt = ((nI e).toInt - (3 : Int)) := (j_subE rfl rfl (by with_reducible omega) (by with_reducible omega))
                                                    have iy_1574 := j_nat (x := ((nI e) - 3)) (by with_reducible omega)
                                                    refine r_ialn (b := 142) (loc := 142 + (e - 3)) O R_131 (show vp_in ((nI e) - 3) 36 from g_vin (by with_reducible omega) (by with_reducible omega)) (by with_reducible omega) dL_acts_1574 ?_
                                                    have iy_1575 := nI_clamp (n := e) (by with_reducible omega)
                                                    refine r_iasn (b := 142) (loc := 142 + e) O T_131 (show vp_in (nI e) 36 from g_vin (by with_reducible omega) (by with_reducible omega)) (by with_reducible omega) dL_acts_1575 ?_
                                                    refine r_iinc (lc' := [(18, .int (nI (e - 1))), (0, .ref (g_ad X 122)), (1, .ref (g_ad X 124)), (8, .ref (g_ad X 131)), (15, .int v15_1381), (17, .int (3 * (s (20 + ((s (4)).toNatClampNeg - 1)))))]) O 5 dL_acts_1576 rfl (j_dec (by omega)) (hN 18 rfl) rfl ?_
                                                    refine r_goto O 1558 dL_acts_1579 (by decide) ?_
                                                    refine r_sub [1, 2, 3, 4, 5, 0] rfl ?_
                                                    exact ih_1558 (e - 1) (upd s_1558 (142 + e) (s_1558 (142 + (e - 3)))) (by with_reducible omega)
                                              refine r_sub [1, 2, 4, 5, 6, 0] rfl ?_
                                              exact L_1558 36 35 s_1479 (by with_reducible omega)
                                            · have e_1484 : (nI i).toInt < (s_1479 (2)).toInt := j_nle c_1484
                                              refine r_iload O 4 dL_acts_1487 rfl ?_
                                              refine r_iload O 6 dL_acts_1489 rfl ?_
                                              refine r_ishr O dL_acts_1491 ?_
                                              refine r_iconst (x := 1) O dL_acts_1492 rfl ?_
                                              refine r_iand O dL_acts_1493 ?_
                                              refine r_iconst (x := 1) O dL_acts_1494 rfl ?_
                                              have J_1548 : ∀ (s_1548 : Nat → Int32) (hj0 : s_1548 (2) = s (2)) (hj1 : s_1548 (4) = s (4)), g_V X (fun r : Int32 × (Nat → Int32) × (Nat → Int32) × (Nat → Nat) => ((.inl (some (.int r.1)), (r.2.1, r.2.2.1, lm, r.2.2.2)) : g_Res)) (R_L_acts_1548 ((R_L_acts_1479 m s pm v15_1381 f_1479)) i s_1548) 0 0 m (s_1548, lm, pm) 1548 [(0, .ref (g_ad X 122)), (1, .ref (g_ad X 124)), (6, .ref (g_ad X 129)), (8, .ref (g_ad X 131)), (15, .int v15_1381), (17, .int (3 * (s (20 + ((s (4)).toNatClampNeg - 1))))), (18, .int (nI i))] [] := by
                                                intro s_1548 hj0 hj1
                                                refine r_iinc (lc' := [(18, .int (nI (i + 1))), (0, .ref (g_ad X 122)), (1, .ref (g_ad X 124)), (6, .ref (g_ad X 129)), (8, .ref (g_ad X 131)), (15, .int v15_1381), (17, .int (3 * (s (20 + ((s (4)).toNatClampNeg - 1)))))]) O 6 dL_acts_1548 rfl (nI_1 i) (hN 18 rfl) rfl ?_
                                                refine r_goto O 1479 dL_acts_1551 (by decide) ?_
                                                refine r_sub [1, 2, 3, 4, 5, 6, 0] rfl ?_
                                                exact ih_1479 (i + 1) s_1548 ⟨(by with_reducible omega), (by with_reducible omega), hj0, hj1⟩
                                              refine r_icmp_ne O 1548 dL_acts_1495 (by decide) (fun c_1495 => ?_) (fun c_1495 => ?_)
                                              · have e_1495 : ((v15_1381 >>> ((nI i) &&& 31)) &&& 1).toInt = (1 : Int) := j_eqR c_1495 rfl
                                                refine r_aload O 2 dL_acts_1498 rfl ?_
                                                refine r_bipush (x := 9) O dL_acts_1500 rfl ?_
                                                refine r_iload O 6 dL_acts_1502 rfl ?_
                                                refine r_imul O dL_acts_1504 ?_
                                                refine r_iconst (x := 2) O dL_acts_1505 rfl ?_
                                                refine r_iadd O dL_acts_1506 ?_
                                                refine r_iconst (x := 1) O dL_acts_1507 rfl ?_
                                                have ix_1508 : ((9 * (nI i)) + 2).toInt = (((9 : Int) * (nI i).toInt) + (2 : Int)) := (j_addE (j_mulE rfl rfl (by with_reducible omega) (by with_reducible omega)) rfl (by with_reducible omega) (by with_reducible omega))
                                                have iy_1508 := j_nat (x := ((9 * (nI i)) + 2)) (by with_reducible omega)
                                                refine r_iasn (b := 58) (loc := 58 + 9 * i + 2) O T_129 (show vp_in ((9 * (nI i)) + 2) 54 from g_vin (by with_reducible omega) (by with_reducible omega)) (by with_reducible omega) dL_acts_1508 ?_
                                                refine r_aload O 2 dL_acts_1509 rfl ?_
                                                refine r_bipush (x := 9) O dL_acts_1511 rfl ?_
                                                refine r_iload O 6 dL_acts_1513 rfl ?_
                                                refine r_imul O dL_acts_1515 ?_
                                                refine r_iconst (x := 3) O dL_acts_1516 rfl ?_
                                                refine r_iadd O dL_acts_1517 ?_
                                                refine r_aload_n O 1 dL_acts_1518 rfl rfl ?_
                                                refine r_iconst (x := 4) O dL_acts_1519 rfl ?_
                                                refine r_ialv (b := 0) (loc := 4) (v := (s_1479 (4))) O R_124 (g_vin (by decide) (by decide)) rfl (by rw [g_upd_ne (by with_reducible omega)]) dL_acts_1520 ?_
                                                refine r_iconst (x := 1) O dL_acts_1521 rfl ?_
                                                refine r_isub O dL_acts_1522 ?_
                                                have ix_1523 : ((9 * (nI i)) + 3).toInt = (((9 : Int) * (nI i).toInt) + (3 : Int)) := (j_addE (j_mulE rfl rfl (by with_reducible omega) (by with_reducible omega)) rfl (by with_reducible omega) (by with_reducible omega))
                                                have iy_1523 := j_nat (x := ((9 * (nI i)) + 3)) (by with_reducible omega)
                                                refine r_iasn (b := 58) (loc := 58 + 9 * i + 3) O T_129 (show vp_in ((9 * (nI i)) + 3) 54 from g_vin (by with_reducible omega) (by with_reducible omega)) (by with_reducible omega) dL_acts_1523 ?_
                                                refine r_aload O 2 dL_acts_1524 rfl ?_
                                                refine r_bipush (x := 9) O dL_acts_1526 rfl ?_
                                                refine r_iload O 6 dL_acts_1528 rfl ?_
                                                refine r_imul O dL_acts_1530 ?_
                                                refine r_iconst (x := 4) O dL_acts_1531 rfl ?_
                                                refine r_iadd O dL_acts_1532 ?_
                                                refine r_iload O 5 dL_acts_1533 rfl ?_
                                                have ix_1535 : ((9 * (nI i)) + 4).toInt = (((9 : Int) * (nI i).toInt) + (4 : Int)) := (j_addE (j_mulE rfl rfl (by with_reducible omega) (by with_reducible omega)) rfl (by with_reducible omega) (by with_reducible omega))
                                                have iy_1535 := j_nat (x := ((9 * (nI i)) + 4)) (by with_reducible omega)
                                                refine r_iasn (b := 58) (loc := 58 + 9 * i + 4) O T_129 (show vp_in ((9 * (nI i)) + 4) 54 from g_vin (by with_reducible omega) (by with_reducible omega)) (by with_reducible omega) dL_acts_1535 ?_
                                                refine r_aload O 2 dL_acts_1536 rfl ?_
                                                refine r_bipush (x := 9) O dL_acts_1538 rfl ?_
                                                refine r_iload O 6 dL_acts_1540 rfl ?_
                                                refine r_imul O dL_acts_1542 ?_
                                                refine r_bipush (x := 8) O dL_acts_1543 rfl ?_
                                                refine r_iadd O dL_acts_1545 ?_
                                                refine r_iconst (x := 1) O dL_acts_1546 rfl ?_
                                                have ix_1547 : ((9 * (nI i)) + 8).toInt = (((9 : Int) * (nI i).toInt) + (8 : Int)) := (j_addE (j_mulE rfl rfl (by with_reducible omega) (by with_reducible omega)) rfl (by with_reducible omega) (by with_reducible omega))
                                                have iy_1547 := j_nat (x := ((9 * (nI i)) + 8)) (by with_reducible omega)
                                                refine r_iasn (b := 58) (loc := 58 + 9 * i + 8) O T_129 (show vp_in ((9 * (nI i)) + 8) 54 from g_vin (by with_reducible omega) (by with_reducible omega)) (by with_reducible omega) dL_acts_1547 ?_
                                                exact J_1548 (upd (upd (upd (upd s_1479 (58 + 9 * i + 2) 1) (58 + 9 * i + 3) ((s_1479 (4)) - 1)) (58 + 9 * i + 4) (3 * (s (20 + ((s (4)).toNatClampNeg - 1))))) (58 + 9 * i + 8) 1) (by first | exact hi3 | exact hi4 | (rw [g_upd_ne (by omega), g_upd_ne (by omega), g_upd_ne (by omega), g_upd_ne (by omega)]; first | exact hi3 | exact hi4)) (by first | exact hi3 | exact hi4 | (rw [g_upd_ne (by omega), g_upd_ne (by omega), g_upd_ne (by omega), g_upd_ne (by omega)]; first | exact hi3 | exact hi4))
                                              · have e_1495 : ((v15_1381 >>> ((nI i) &&& 31)) &&& 1).toInt ≠ (1 : Int) := j_neR c_1495 rfl
                                                exact J_1548 s_1479 (by first | exact hi3 | exact hi4 | (rw [g_upd_ne (by omega), g_upd_ne (by omega), g_upd_ne (by omega), g_upd_ne (by omega)]; first | exact hi3 | exact hi4)) (by first | exact hi3 | exact hi4 | (rw [g_upd_ne (by omega), g_upd_ne (by omega), g_upd_ne (by omega), g_upd_ne (by omega)]; first | exact hi3 | exact hi4))
                                        refine r_sub [2, 3, 7, 8, 9, 1, 0] rfl ?_
                                        exact L_1479 7 0 s ⟨(by with_reducible omega), (by with_reducible omega), rfl, rfl⟩
                                      · have e_1445 : (v16_1381).toInt < (3 : Int) := j_nleL c_1445 rfl
                                        refine r_aload_n O 0 dL_acts_1448 rfl rfl ?_
                                        refine r_iload O 7 dL_acts_1449 rfl ?_
                                        refine r_cW O Y [.ref (g_ad X 122), .int v15_1381] [] (met_L_carries (g_xl X) hs m s lm pm v15_1381 hI0) LW_82 rfl rfl rfl dL_acts_1451 rfl rfl ?_
                                        refine r_ldc O dL_acts_1454 w_con_L_51 ?_
                                        refine r_icmp_ne O 1463 dL_acts_1456 (by decide) (fun c_1456 => ?_) (fun c_1456 => ?_)
                                        · have e_1456 : (g_wv (R_X7_carry m pm v15_1381)).toInt = (-2000002 : Int) := j_eqR c_1456 rfl
                                          refine r_iconst (x := 1) O dL_acts_1459 rfl ?_
                                          refine r_goto O 1464 dL_acts_1460 (by decide) ?_
                                          exact r_iret O dL_acts_1464 rfl (Nat.le_of_ble_eq_true rfl) (Nat.le_of_ble_eq_true rfl) rfl
                                        · have e_1456 : (g_wv (R_X7_carry m pm v15_1381)).toInt ≠ (-2000002 : Int) := j_neR c_1456 rfl
                                          refine r_iconst (x := 0) O dL_acts_1463 rfl ?_
                                          exact r_iret O dL_acts_1464 rfl (Nat.le_of_ble_eq_true rfl) (Nat.le_of_ble_eq_true rfl) rfl
                                    · have e_1386 : (nI j).toInt < (s (2)).toInt := j_nle c_1386
                                      refine r_aload_n O 1 dL_acts_1389 rfl rfl ?_
                                      refine r_aload_n O 2 dL_acts_1390 rfl rfl ?_
                                      refine r_aload_n O 3 dL_acts_1391 rfl rfl ?_
                                      refine r_aload O 4 dL_acts_1392 rfl ?_
                                      refine r_aload O 5 dL_acts_1394 rfl ?_
                                      refine r_iload O 9 dL_acts_1396 rfl ?_
                                      refine r_callSi O [.ref (g_ad X 124), .ref (g_ad X 125), .ref (g_ad X 126), .ref (g_ad X 127), .ref (g_ad X 129), .int (nI j)] [] (met_L_could (g_xl X) hs lm pm m s (nI j) (by first | decide | with_reducible assumption | with_reducible omega | (simp (disch := omega) only [g_upd_ne, g_upd_eq]; first | with_reducible assumption | with_reducible omega | decide) | exact Or.inl rfl | exact Or.inr rfl) (by first | decide | with_reducible assumption | with_reducible omega | (simp (disch := omega) only [g_upd_ne, g_upd_eq]; first | with_reducible assumption | with_reducible omega | decide) | exact Or.inl rfl | exact Or.inr rfl) (by first | decide | with_reducible assumption | with_reducible omega | (simp (disch := omega) only [g_upd_ne, g_upd_eq]; first | with_reducible assumption | with_reducible omega | decide) | exact Or.inl rfl | exact Or.inr rfl) (by first | decide | with_reducible assumption | with_reducible omega | (simp (disch := omega) only [g_upd_ne, g_upd_eq]; first | with_reducible assumption | with_reducible omega | decide) | exact Or.inl rfl | exact Or.inr rfl)) LL_78 rfl rfl rfl dL_acts_1398 rfl rfl ?_
                                      refine r_istore (lc' := [(18, .int (R_L_could s (nI j))), (0, .ref (g_ad X 122)), (1, .ref (g_ad X 124)), (2, .ref (g_ad X 125)), (3, .ref (g_ad X 126)), (4, .ref (g_ad X 127)), (6, .ref (g_ad X 129)), (8, .ref (g_ad X 131)), (15, .int v15_1381), (16, .int v16_1381), (17, .int (nI j))]) O dL_acts_1401 (hN 18 rfl) rfl ?_
                                      refine r_iload O 8 dL_acts_1403 rfl ?_
                                      refine r_iload O 0 dL_acts_1405 rfl ?_
                                      have J_1418 : ∀ (t0_1418 : Int32), g_V X (fun r : Int32 × (Nat → Int32) × (Nat → Int32) × (Nat → Nat) => ((.inl (some (.int r.1)), (r.2.1, r.2.2.1, lm, r.2.2.2)) : g_Res)) (R_L_acts_1418 s ((R_L_acts_1381 m s pm f_1381)) v15_1381 v16_1381 j t0_1418) 0 0 m (s, lm, pm) 1418 [(0, .ref (g_ad X 122)), (1, .ref (g_ad X 124)), (2, .ref (g_ad X 125)), (3, .ref (g_ad X 126)), (4, .ref (g_ad X 127)), (6, .ref (g_ad X 129)), (8, .ref (g_ad X 131)), (16, .int v16_1381), (17, .int (nI j)), (18, .int (R_L_could s (nI j)))] [.int t0_1418, .int v15_1381] := by
                                        intro t0_1418
                                        refine r_ior O dL_acts_1418 ?_
                                        refine r_istore (lc' := [(15, .int (v15_1381 ||| t0_1418)), (0, .ref (g_ad X 122)), (1, .ref (g_ad X 124)), (2, .ref (g_ad X 125)), (3, .ref (g_ad X 126)), (4, .ref (g_ad X 127)), (6, .ref (g_ad X 129)), (8, .ref (g_ad X 131)), (16, .int v16_1381), (17, .int (nI j)), (18, .int (R_L_could s (nI j)))]) O dL_acts_1419 (hN 15 rfl) rfl ?_
                                        refine r_iload O 8 dL_acts_1421 rfl ?_
                                        refine r_iload O 10 dL_acts_1423 rfl ?_
                                        have J_1433 : ∀ (t0_1433 : Int32) (hj0 : 0 ≤ t0_1433.toInt) (hj1 : t0_1433.toInt ≤ 1) (hj2 : t0_1433.toInt ≤ 0 ∨ 1 ≤ (s (4)).toInt), g_V X (fun r : Int32 × (Nat → Int32) × (Nat → Int32) × (Nat → Nat) => ((.inl (some (.int r.1)), (r.2.1, r.2.2.1, lm, r.2.2.2)) : g_Res)) (R_L_acts_1433 ((R_L_acts_1381 m s pm f_1381)) v15_1381 v16_1381 j t0_1418 t0_1433) 0 0 m (s, lm, pm) 1433 [(0, .ref (g_ad X 122)), (1, .ref (g_ad X 124)), (2, .ref (g_ad X 125)), (3, .ref (g_ad X 126)), (4, .ref (g_ad X 127)), (6, .ref (g_ad X 129)), (8, .ref (g_ad X 131)), (15, .int (v15_1381 ||| t0_1418)), (17, .int (nI j))] [.int t0_1433, .int v16_1381] := by
                                          intro t0_1433 hj0 hj1 hj2
                                          refine r_iadd O dL_acts_1433 ?_
                                          refine r_istore (lc' := [(16, .int (v16_1381 + t0_1433)), (0, .ref (g_ad X 122)), (1, .ref (g_ad X 124)), (2, .ref (g_ad X 125)), (3, .ref (g_ad X 126)), (4, .ref (g_ad X 127)), (6, .ref (g_ad X 129)), (8, .ref (g_ad X 131)), (15, .int (v15_1381 ||| t0_1418)), (17, .int (nI j))]) O dL_acts_1434 (hN 16 rfl) rfl ?_
                                          refine r_iinc (lc' := [(17, .int (nI (j + 1))), (16, .int (v16_1381 + t0_1433)), (0, .ref (g_ad X 122)), (1, .ref (g_ad X 124)), (2, .ref (g_ad X 125)), (3, .ref (g_ad X 126)), (4, .ref (g_ad X 127)), (6, .ref (g_ad X 129)), (8, .ref (g_ad X 131)), (15, .int (v15_1381 ||| t0_1418))]) O 9 dL_acts_1436 rfl (nI_1 j) (hN 17 rfl) rfl ?_
                                          refine r_goto O 1381 dL_acts_1439 (by decide) ?_
                                          refine r_sub [2, 3, 4, 5, 6, 7, 8, 9, 1, 0] rfl ?_
                                          exact ih_1381 (v15_1381 ||| t0_1418) (v16_1381 + t0_1433) (j + 1) (by have h := j_addE (x := v16_1381) (y := t0_1433) rfl rfl (by omega) (by omega); omega)
                                        refine r_if_eq O 1432 dL_acts_1425 (by decide) (fun c_1425 => ?_) (fun c_1425 => ?_)
                                        · have e_1425 : (R_L_could s (nI j)).toInt = (0 : Int) := j_eqR c_1425 rfl
                                          refine r_iconst (x := 0) O dL_acts_1432 rfl ?_
                                          refine r_sub [1, 2, 3, 4, 5, 6, 7, 0, 9] rfl ?_
                                          have hlit_t0_1433 : (0 : Int32).toInt = 0 := rfl
                                          exact J_1433 0 (by first | decide | with_reducible assumption | with_reducible omega | (simp (disch := omega) only [g_upd_ne, g_upd_eq]; first | with_reducible assumption | with_reducible omega | decide) | exact Or.inl rfl | exact Or.inr rfl) (by first | decide | with_reducible assumption | with_reducible omega | (simp (disch := omega) only [g_upd_ne, g_upd_eq]; first | with_reducible assumption | with_reducible omega | decide) | exact Or.inl rfl | exact Or.inr rfl) (by first | decide | with_reducible assumption | with_reducible omega | (simp (disch := omega) only [g_upd_ne, g_upd_eq]; first | with_reducible assumption | with_reducible omega | decide) | exact Or.inl rfl | exact Or.inr rfl)
                                        · have e_1425 : (R_L_could s (nI j)).toInt ≠ (0 : Int) := j_neR c_1425 rfl
                                          have z_1425 := nz_could j4a c_1425
                                          refine r_iconst (x := 1) O dL_acts_1428 rfl ?_
                                          refine r_goto O 1433 dL_acts_1429 (by decide) ?_
                                          refine r_sub [1, 2, 3, 4, 5, 6, 7, 0, 9] rfl ?_
                                          have hlit_t0_1433 : (1 : Int32).toInt = 1 := rfl
                                          exact J_1433 1 (by first | decide | with_reducible assumption | with_reducible omega | (simp (disch := omega) only [g_upd_ne, g_upd_eq]; first | with_reducible assumption | with_reducible omega | decide) | exact Or.inl rfl | exact Or.inr rfl) (by first | decide | with_reducible assumption | with_reducible omega | (simp (disch := omega) only [g_upd_ne, g_upd_eq]; first | with_reducible assumption | with_reducible omega | decide) | exact Or.inl rfl | exact Or.inr rfl) (by first | decide | with_reducible assumption | with_reducible omega | (simp (disch := omega) only [g_upd_ne, g_upd_eq]; first | with_reducible assumption | with_reducible omega | decide) | exact Or.inl rfl | exact Or.inr rfl)
                                      refine r_if_eq O 1417 dL_acts_1407 (by decide) (fun c_1407 => ?_) (fun c_1407 => ?_)
                                      · have e_1407 : (R_L_could s (nI j)).toInt = (0 : Int) := j_eqR c_1407 rfl
                                        refine r_iconst (x := 0) O dL_acts_1417 rfl ?_
                                        refine r_sub [1, 2, 3, 4, 5, 6, 7, 9, 10, 0] rfl ?_
                                        exact J_1418 0
                                      · have e_1407 : (R_L_could s (nI j)).toInt ≠ (0 : Int) := j_neR c_1407 rfl
                                        have z_1407 := nz_could j4a c_1407
                                        refine r_iconst (x := 1) O dL_acts_1410 rfl ?_
                                        refine r_iload O 10 dL_acts_1411 rfl ?_
                                        refine r_ishl O dL_acts_1413 ?_
                                        refine r_goto O 1418 dL_acts_1414 (by decide) ?_
                                        refine r_sub [1, 2, 3, 4, 5, 6, 7, 9, 10, 0] rfl ?_
                                        exact J_1418 (1 <<< ((nI j) &&& 31))
                                refine r_sub [3, 4, 5, 6, 7, 9, 11, 2, 1, 0] rfl ?_
                                have hlit_v16_1381 : (0 : Int32).toInt = 0 := rfl
                                exact L_1381 7 0 0 0 (by with_reducible omega)
                            refine r_icmp_ne O 1365 dL_acts_1238 (by decide) (fun c_1238 => ?_) (fun c_1238 => ?_)
                            · have e_1238 : (v11_20).toInt = (18 : Int) := j_eqR c_1238 rfl
                              refine r_aload O 6 dL_acts_1241 rfl ?_
                              refine r_iload O 12 dL_acts_1243 rfl ?_
                              refine r_iconst (x := 2) O dL_acts_1245 rfl ?_
                              refine r_iadd O dL_acts_1246 ?_
                              have ix_1247 : ((9 * v12_691) + 2).toInt = (((9 : Int) * v12_691.toInt) + (2 : Int)) := (j_addE (j_mulE rfl rfl (by with_reducible omega) (by with_reducible omega)) rfl (by with_reducible omega) (by with_reducible omega))
                              have ja_1247_0 := j_nat (x := v12_691) (by with_reducible omega)
                              have iy_1247 := j_nat (x := ((9 * v12_691) + 2)) (by with_reducible omega)
                              refine r_ialn (b := 58) (loc := 58 + 9 * v12_691.toNatClampNeg + 2) O R_129 (show vp_in ((9 * v12_691) + 2) 54 from g_vin (by with_reducible omega) (by with_reducible omega)) (by with_reducible omega) dL_acts_1247 ?_
                              have J_1288 : g_V X (fun r : Int32 × (Nat → Int32) × (Nat → Int32) × (Nat → Nat) => ((.inl (some (.int r.1)), (r.2.1, r.2.2.1, lm, r.2.2.2)) : g_Res)) (R_L_acts_1288 m s pm v12_691 ) 0 0 m (s, lm, pm) 1288 [(0, .ref (g_ad X 122)), (12, .int v12_691)] [] := by
                                refine r_aload_n O 0 dL_acts_1288 rfl rfl ?_
                                refine r_iload O 1 dL_acts_1289 rfl ?_
                                refine r_cW O Y [.ref (g_ad X 122), .int v12_691] [] (met_L_offs (g_xl X) hs m s lm pm v12_691 hI0) LW_75 rfl rfl rfl dL_acts_1291 rfl rfl ?_
                                refine r_ldc O dL_acts_1294 w_con_L_50 ?_
                                refine r_icmp_ne O 1303 dL_acts_1296 (by decide) (fun c_1296 => ?_) (fun c_1296 => ?_)
                                · have e_1296 : (g_wv (R_X7_takeOff m pm v12_691)).toInt = (-2000003 : Int) := j_eqR c_1296 rfl
                                  refine r_iconst (x := 1) O dL_acts_1299 rfl ?_
                                  refine r_goto O 1304 dL_acts_1300 (by decide) ?_
                                  exact r_iret O dL_acts_1304 rfl (Nat.le_of_ble_eq_true rfl) (Nat.le_of_ble_eq_true rfl) rfl
                                · have e_1296 : (g_wv (R_X7_takeOff m pm v12_691)).toInt ≠ (-2000003 : Int) := j_neR c_1296 rfl
                                  refine r_iconst (x := 0) O dL_acts_1303 rfl ?_
                                  exact r_iret O dL_acts_1304 rfl (Nat.le_of_ble_eq_true rfl) (Nat.le_of_ble_eq_true rfl) rfl
                              refine r_if_gt O 1288 dL_acts_1248 (by decide) (fun c_1248 => ?_) (fun c_1248 => ?_)
                              · have e_1248 : (0 : Int) < (s (58 + 9 * v12_691.toNatClampNeg + 2)).toInt := j_ltL c_1248 rfl
                                refine r_sub [0, 11] rfl ?_
                                exact J_1288
                              · have e_1248 : (s (58 + 9 * v12_691.toNatClampNeg + 2)).toInt ≤ (0 : Int) := j_nltL c_1248 rfl
                                refine r_aload O 6 dL_acts_1251 rfl ?_
                                refine r_iload O 12 dL_acts_1253 rfl ?_
                                refine r_iconst (x := 5) O dL_acts_1255 rfl ?_
                                refine r_iadd O dL_acts_1256 ?_
                                have ix_1257 : ((9 * v12_691) + 5).toInt = (((9 : Int) * v12_691.toInt) + (5 : Int)) := (j_addE (j_mulE rfl rfl (by with_reducible omega) (by with_reducible omega)) rfl (by with_reducible omega) (by with_reducible omega))
                                have ja_1257_0 := j_nat (x := v12_691) (by with_reducible omega)
                                have iy_1257 := j_nat (x := ((9 * v12_691) + 5)) (by with_reducible omega)
                                refine r_ialn (b := 58) (loc := 58 + 9 * v12_691.toNatClampNeg + 5) O R_129 (show vp_in ((9 * v12_691) + 5) 54 from g_vin (by with_reducible omega) (by with_reducible omega)) (by with_reducible omega) dL_acts_1257 ?_
                                refine r_if_ge O 1288 dL_acts_1258 (by decide) (fun c_1258 => ?_) (fun c_1258 => ?_)
                                · have e_1258 : (0 : Int) ≤ (s (58 + 9 * v12_691.toNatClampNeg + 5)).toInt := j_leL c_1258 rfl
                                  refine r_sub [0, 11] rfl ?_
                                  exact J_1288
                                · have e_1258 : (s (58 + 9 * v12_691.toNatClampNeg + 5)).toInt < (0 : Int) := j_nleL c_1258 rfl
                                  refine r_iload O 13 dL_acts_1261 rfl ?_
                                  refine r_aload_n O 1 dL_acts_1263 rfl rfl ?_
                                  refine r_iconst (x := 0) O dL_acts_1264 rfl ?_
                                  refine r_ialn (b := 0) (loc := 0) O R_124 (g_vin (by decide) (by decide)) rfl dL_acts_1265 ?_
                                  refine r_icmp_ge O 1288 dL_acts_1266 (by decide) (fun c_1266 => ?_) (fun c_1266 => ?_)
                                  · have e_1266 : (s (0)).toInt ≤ (s (58 + 9 * v12_691.toNatClampNeg + 1)).toInt := j_le c_1266
                                    refine r_sub [0, 11] rfl ?_
                                    exact J_1288
                                  · have e_1266 : (s (58 + 9 * v12_691.toNatClampNeg + 1)).toInt < (s (0)).toInt := j_nle c_1266
                                    have q27b := q27 (by with_reducible omega)
                                    refine r_aload O 4 dL_acts_1269 rfl ?_
                                    refine r_iload O 13 dL_acts_1271 rfl ?_
                                    have ja_1273_0 := j_nat (x := (s (58 + 9 * v12_691.toNatClampNeg + 1))) (by with_reducible omega)
                                    refine r_ialn (b := 27) (loc := 27 + (s (58 + 9 * v12_691.toNatClampNeg + 1)).toNatClampNeg) O R_127 (show vp_in (s (58 + 9 * v12_691.toNatClampNeg + 1)) 7 from g_vin (by with_reducible omega) (by with_reducible omega)) (by with_reducible omega) dL_acts_1273 ?_
                                    refine r_if_lt O 1288 dL_acts_1274 (by decide) (fun c_1274 => ?_) (fun c_1274 => ?_)
                                    · have e_1274 : (s (27 + (s (58 + 9 * v12_691.toNatClampNeg + 1)).toNatClampNeg)).toInt < (0 : Int) := j_ltR c_1274 rfl
                                      refine r_sub [0, 11] rfl ?_
                                      exact J_1288
                                    · have e_1274 : (0 : Int) ≤ (s (27 + (s (58 + 9 * v12_691.toNatClampNeg + 1)).toNatClampNeg)).toInt := j_nltR c_1274 rfl
                                      refine r_aload_n O 1 dL_acts_1277 rfl rfl ?_
                                      refine r_aload O 6 dL_acts_1278 rfl ?_
                                      refine r_iload O 13 dL_acts_1280 rfl ?_
                                      refine r_callSi O [.ref (g_ad X 124), .ref (g_ad X 129), .int (s (58 + 9 * v12_691.toNatClampNeg + 1))] [] (met_L_many (g_xl X) hs lm pm m s (s (58 + 9 * v12_691.toNatClampNeg + 1)) (by first | decide | with_reducible assumption | with_reducible omega | (simp (disch := omega) only [g_upd_ne, g_upd_eq]; first | with_reducible assumption | with_reducible omega | decide) | exact Or.inl rfl | exact Or.inr rfl)) LL_43 rfl rfl rfl dL_acts_1282 rfl rfl ?_
                                      refine r_if_le O 1305 dL_acts_1285 (by decide) (fun c_1285 => ?_) (fun c_1285 => ?_)
                                      · have e_1285 : (R_L_many s (s (58 + 9 * v12_691.toNatClampNeg + 1))).toInt ≤ (0 : Int) := j_leR c_1285 rfl
                                        refine r_aload O 4 dL_acts_1305 rfl ?_
                                        refine r_iload O 13 dL_acts_1307 rfl ?_
                                        have ja_1309_0 := j_nat (x := (s (58 + 9 * v12_691.toNatClampNeg + 1))) (by with_reducible omega)
                                        refine r_ialn (b := 27) (loc := 27 + (s (58 + 9 * v12_691.toNatClampNeg + 1)).toNatClampNeg) O R_127 (show vp_in (s (58 + 9 * v12_691.toNatClampNeg + 1)) 7 from g_vin (by with_reducible omega) (by with_reducible omega)) (by with_reducible omega) dL_acts_1309 ?_
                                        refine r_istore (lc' := [(15, .int (s (27 + (s (58 + 9 * v12_691.toNatClampNeg + 1)).toNatClampNeg))), (0, .ref (g_ad X 122)), (1, .ref (g_ad X 124)), (2, .ref (g_ad X 125)), (3, .ref (g_ad X 126)), (4, .ref (g_ad X 127)), (5, .ref (g_ad X 128)), (6, .ref (g_ad X 129)), (7, .ref (g_ad X 130)), (8, .ref (g_ad X 131)), (10, .int v10_11), (11, .int v11_20), (12, .int v12_691), (13, .int (9 * v12_691)), (14, .int (s (58 + 9 * v12_691.toNatClampNeg + 1)))]) O dL_acts_1310 (hN 15 rfl) rfl ?_
                                        refine r_aload O 5 dL_acts_1312 rfl ?_
                                        refine r_iload O 14 dL_acts_1314 rfl ?_
                                        refine r_iconst (x := (-1)) O dL_acts_1316 rfl ?_
                                        have ja_1317_0 := j_nat (x := (s (58 + 9 * v12_691.toNatClampNeg + 1))) (by with_reducible omega)
                                        refine r_iasn (b := 27) (loc := 27 + (s (58 + 9 * v12_691.toNatClampNeg + 1)).toNatClampNeg) O T_127 (show vp_in (s (58 + 9 * v12_691.toNatClampNeg + 1)) 7 from g_vin (by with_reducible omega) (by with_reducible omega)) (by with_reducible omega) dL_acts_1317 ?_
                                        refine r_aload O 7 dL_acts_1318 rfl ?_
                                        refine r_iload O 13 dL_acts_1320 rfl ?_
                                        refine r_iconst (x := 5) O dL_acts_1322 rfl ?_
                                        refine r_iadd O dL_acts_1323 ?_
                                        refine r_iload O 0 dL_acts_1324 rfl ?_
                                        have ix_1326 : ((9 * v12_691) + 5).toInt = (((9 : Int) * v12_691.toInt) + (5 : Int)) := (j_addE (j_mulE rfl rfl (by with_reducible omega) (by with_reducible omega)) rfl (by with_reducible omega) (by with_reducible omega))
                                        have ja_1326_0 := j_nat (x := v12_691) (by with_reducible omega)
                                        have iy_1326 := j_nat (x := ((9 * v12_691) + 5)) (by with_reducible omega)
                                        refine r_iasn (b := 58) (loc := 58 + 9 * v12_691.toNatClampNeg + 5) O T_129 (show vp_in ((9 * v12_691) + 5) 54 from g_vin (by with_reducible omega) (by with_reducible omega)) (by with_reducible omega) dL_acts_1326 ?_
                                        refine r_aload O 6 dL_acts_1327 rfl ?_
                                        refine r_iconst (x := 3) O dL_acts_1329 rfl ?_
                                        refine r_iload O 0 dL_acts_1330 rfl ?_
                                        refine r_imul O dL_acts_1332 ?_
                                        refine r_iconst (x := 1) O dL_acts_1333 rfl ?_
                                        refine r_iadd O dL_acts_1334 ?_
                                        refine r_iconst (x := 1) O dL_acts_1335 rfl ?_
                                        have ix_1336 : ((3 * (s (27 + (s (58 + 9 * v12_691.toNatClampNeg + 1)).toNatClampNeg))) + 1).toInt = (((3 : Int) * (s (27 + (s (58 + 9 * v12_691.toNatClampNeg + 1)).toNatClampNeg)).toInt) + (1 : Int)) := (j_addE (j_mulE rfl rfl (by with_reducible omega) (by with_reducible omega)) rfl (by with_reducible omega) (by with_reducible omega))
                                        have ja_1336_0 := j_nat (x := (s (27 + (s (58 + 9 * v12_691.toNatClampNeg + 1)).toNatClampNeg))) (by with_reducible omega)
                                        have iy_1336 := j_nat (x := ((3 * (s (27 + (s (58 + 9 * v12_691.toNatClampNeg + 1)).toNatClampNeg))) + 1)) (by with_reducible omega)
                                        refine r_iasn (b := 34) (loc := 35 + 3 * ((s (27 + (s (58 + 9 * v12_691.toNatClampNeg + 1)).toNatClampNeg)).toNatClampNeg)) O T_128 (show vp_in ((3 * (s (27 + (s (58 + 9 * v12_691.toNatClampNeg + 1)).toNatClampNeg))) + 1) 24 from g_vin (by with_reducible omega) (by with_reducible omega)) (by with_reducible omega) dL_acts_1336 ?_
                                        refine r_aload O 6 dL_acts_1337 rfl ?_
                                        refine r_iconst (x := 3) O dL_acts_1339 rfl ?_
                                        refine r_iload O 0 dL_acts_1340 rfl ?_
                                        refine r_imul O dL_acts_1342 ?_
                                        refine r_iconst (x := 2) O dL_acts_1343 rfl ?_
                                        refine r_iadd O dL_acts_1344 ?_
                                        refine r_iload O 12 dL_acts_1345 rfl ?_
                                        have ix_1347 : ((3 * (s (27 + (s (58 + 9 * v12_691.toNatClampNeg + 1)).toNatClampNeg))) + 2).toInt = (((3 : Int) * (s (27 + (s (58 + 9 * v12_691.toNatClampNeg + 1)).toNatClampNeg)).toInt) + (2 : Int)) := (j_addE (j_mulE rfl rfl (by with_reducible omega) (by with_reducible omega)) rfl (by with_reducible omega) (by with_reducible omega))
                                        have ja_1347_0 := j_nat (x := (s (27 + (s (58 + 9 * v12_691.toNatClampNeg + 1)).toNatClampNeg))) (by with_reducible omega)
                                        have iy_1347 := j_nat (x := ((3 * (s (27 + (s (58 + 9 * v12_691.toNatClampNeg + 1)).toNatClampNeg))) + 2)) (by with_reducible omega)
                                        refine r_iasn (b := 34) (loc := 36 + 3 * ((s (27 + (s (58 + 9 * v12_691.toNatClampNeg + 1)).toNatClampNeg)).toNatClampNeg)) O T_128 (show vp_in ((3 * (s (27 + (s (58 + 9 * v12_691.toNatClampNeg + 1)).toNatClampNeg))) + 2) 24 from g_vin (by with_reducible omega) (by with_reducible omega)) (by with_reducible omega) dL_acts_1347 ?_
                                        refine r_aload_n O 1 dL_acts_1348 rfl rfl ?_
                                        refine r_iload O 12 dL_acts_1349 rfl ?_
                                        refine r_cW O Y [.ref (g_ad X 122), .int v12_691] [] (met_L_offs (g_xl X) hs m (upd (upd (upd (upd s (27 + (s (58 + 9 * v12_691.toNatClampNeg + 1)).toNatClampNeg) (-1)) (58 + 9 * v12_691.toNatClampNeg + 5) (s (27 + (s (58 + 9 * v12_691.toNatClampNeg + 1)).toNatClampNeg))) (35 + 3 * ((s (27 + (s (58 + 9 * v12_691.toNatClampNeg + 1)).toNatClampNeg)).toNatClampNeg)) 1) (36 + 3 * ((s (27 + (s (58 + 9 * v12_691.toNatClampNeg + 1)).toNatClampNeg)).toNatClampNeg)) v12_691) lm pm v12_691 hI0) LW_75 rfl rfl rfl dL_acts_1351 rfl rfl ?_
                                        refine r_iload O 0 dL_acts_1354 rfl ?_
                                        refine r_icmp_ne O 1363 dL_acts_1356 (by decide) (fun c_1356 => ?_) (fun c_1356 => ?_)
                                        · have e_1356 : (g_wv (R_X7_takeOff m pm v12_691)).toInt = (s (27 + (s (58 + 9 * v12_691.toNatClampNeg + 1)).toNatClampNeg)).toInt := j_eq c_1356
                                          refine r_iconst (x := 1) O dL_acts_1359 rfl ?_
                                          refine r_goto O 1364 dL_acts_1360 (by decide) ?_
                                          exact r_iret O dL_acts_1364 rfl (Nat.le_of_ble_eq_true rfl) (Nat.le_of_ble_eq_true rfl) rfl
                                        · have e_1356 : (g_wv (R_X7_takeOff m pm v12_691)).toInt ≠ (s (27 + (s (58 + 9 * v12_691.toNatClampNeg + 1)).toNatClampNeg)).toInt := j_ne c_1356
                                          refine r_iconst (x := 0) O dL_acts_1363 rfl ?_
                                          exact r_iret O dL_acts_1364 rfl (Nat.le_of_ble_eq_true rfl) (Nat.le_of_ble_eq_true rfl) rfl
                                      · have e_1285 : (0 : Int) < (R_L_many s (s (58 + 9 * v12_691.toNatClampNeg + 1))).toInt := j_nleR c_1285 rfl
                                        refine r_sub [0, 11] rfl ?_
                                        exact J_1288
                            · have e_1238 : (v11_20).toInt ≠ (18 : Int) := j_neR c_1238 rfl
                              exact J_1365
                          refine r_icmp_ge O 1234 dL_acts_1066 (by decide) (fun c_1066 => ?_) (fun c_1066 => ?_)
                          · have e_1066 : (18 : Int) ≤ (v11_20).toInt := j_leL c_1066 rfl
                            exact J_1234
                          · have e_1066 : (v11_20).toInt < (18 : Int) := j_nleL c_1066 rfl
                            refine r_aload O 6 dL_acts_1069 rfl ?_
                            refine r_iload O 12 dL_acts_1071 rfl ?_
                            refine r_iconst (x := 2) O dL_acts_1073 rfl ?_
                            refine r_iadd O dL_acts_1074 ?_
                            have ix_1075 : ((9 * v12_691) + 2).toInt = (((9 : Int) * v12_691.toInt) + (2 : Int)) := (j_addE (j_mulE rfl rfl (by with_reducible omega) (by with_reducible omega)) rfl (by with_reducible omega) (by with_reducible omega))
                            have ja_1075_0 := j_nat (x := v12_691) (by with_reducible omega)
                            have iy_1075 := j_nat (x := ((9 * v12_691) + 2)) (by with_reducible omega)
                            refine r_ialn (b := 58) (loc := 58 + 9 * v12_691.toNatClampNeg + 2) O R_129 (show vp_in ((9 * v12_691) + 2) 54 from g_vin (by with_reducible omega) (by with_reducible omega)) (by with_reducible omega) dL_acts_1075 ?_
                            have J_1176 : ∀ (t0_1176 : Int32), g_V X (fun r : Int32 × (Nat → Int32) × (Nat → Int32) × (Nat → Nat) => ((.inl (some (.int r.1)), (r.2.1, r.2.2.1, lm, r.2.2.2)) : g_Res)) (R_L_acts_1176 m s pm v12_691 t0_1176) 0 0 m (s, lm, pm) 1176 [(0, .ref (g_ad X 122)), (6, .ref (g_ad X 129)), (12, .int v12_691), (13, .int (9 * v12_691)), (14, .int (s (58 + 9 * v12_691.toNatClampNeg + 1)))] [.int t0_1176] := by
                              intro t0_1176
                              refine r_istore (lc' := [(15, .int t0_1176), (0, .ref (g_ad X 122)), (6, .ref (g_ad X 129)), (12, .int v12_691), (13, .int (9 * v12_691)), (14, .int (s (58 + 9 * v12_691.toNatClampNeg + 1)))]) O dL_acts_1176 (hN 15 rfl) rfl ?_
                              refine r_iload O 0 dL_acts_1178 rfl ?_
                              refine r_if_ne O 1200 dL_acts_1180 (by decide) (fun c_1180 => ?_) (fun c_1180 => ?_)
                              · have e_1180 : (t0_1176).toInt = (0 : Int) := j_eqR c_1180 rfl
                                refine r_aload_n O 1 dL_acts_1183 rfl rfl ?_
                                refine r_iload O 3 dL_acts_1184 rfl ?_
                                refine r_cW O Y [.ref (g_ad X 122), .int v12_691] [] (met_L_rigs (g_xl X) hs m s lm pm v12_691 hI0) LW_72 rfl rfl rfl dL_acts_1186 rfl rfl ?_
                                refine r_ldc O dL_acts_1189 w_con_L_50 ?_
                                refine r_icmp_ne O 1198 dL_acts_1191 (by decide) (fun c_1191 => ?_) (fun c_1191 => ?_)
                                · have e_1191 : (g_wv (R_X7_rig m pm v12_691)).toInt = (-2000003 : Int) := j_eqR c_1191 rfl
                                  refine r_iconst (x := 1) O dL_acts_1194 rfl ?_
                                  refine r_goto O 1199 dL_acts_1195 (by decide) ?_
                                  exact r_iret O dL_acts_1199 rfl (Nat.le_of_ble_eq_true rfl) (Nat.le_of_ble_eq_true rfl) rfl
                                · have e_1191 : (g_wv (R_X7_rig m pm v12_691)).toInt ≠ (-2000003 : Int) := j_neR c_1191 rfl
                                  refine r_iconst (x := 0) O dL_acts_1198 rfl ?_
                                  exact r_iret O dL_acts_1199 rfl (Nat.le_of_ble_eq_true rfl) (Nat.le_of_ble_eq_true rfl) rfl
                              · have e_1180 : (t0_1176).toInt ≠ (0 : Int) := j_neR c_1180 rfl
                                refine r_aload O 2 dL_acts_1200 rfl ?_
                                refine r_iload O 4 dL_acts_1202 rfl ?_
                                refine r_iconst (x := 2) O dL_acts_1204 rfl ?_
                                refine r_iadd O dL_acts_1205 ?_
                                refine r_iconst (x := 2) O dL_acts_1206 rfl ?_
                                have ix_1207 : ((9 * v12_691) + 2).toInt = (((9 : Int) * v12_691.toInt) + (2 : Int)) := (j_addE (j_mulE rfl rfl (by with_reducible omega) (by with_reducible omega)) rfl (by with_reducible omega) (by with_reducible omega))
                                have ja_1207_0 := j_nat (x := v12_691) (by with_reducible omega)
                                have iy_1207 := j_nat (x := ((9 * v12_691) + 2)) (by with_reducible omega)
                                refine r_iasn (b := 58) (loc := 58 + 9 * v12_691.toNatClampNeg + 2) O T_129 (show vp_in ((9 * v12_691) + 2) 54 from g_vin (by with_reducible omega) (by with_reducible omega)) (by with_reducible omega) dL_acts_1207 ?_
                                refine r_aload O 2 dL_acts_1208 rfl ?_
                                refine r_iload O 4 dL_acts_1210 rfl ?_
                                refine r_iconst (x := 4) O dL_acts_1212 rfl ?_
                                refine r_iadd O dL_acts_1213 ?_
                                refine r_bipush (x := 10) O dL_acts_1214 rfl ?_
                                have ix_1216 : ((9 * v12_691) + 4).toInt = (((9 : Int) * v12_691.toInt) + (4 : Int)) := (j_addE (j_mulE rfl rfl (by with_reducible omega) (by with_reducible omega)) rfl (by with_reducible omega) (by with_reducible omega))
                                have ja_1216_0 := j_nat (x := v12_691) (by with_reducible omega)
                                have iy_1216 := j_nat (x := ((9 * v12_691) + 4)) (by with_reducible omega)
                                refine r_iasn (b := 58) (loc := 58 + 9 * v12_691.toNatClampNeg + 4) O T_129 (show vp_in ((9 * v12_691) + 4) 54 from g_vin (by with_reducible omega) (by with_reducible omega)) (by with_reducible omega) dL_acts_1216 ?_
                                refine r_aload_n O 1 dL_acts_1217 rfl rfl ?_
                                refine r_iload O 3 dL_acts_1218 rfl ?_
                                refine r_cW O Y [.ref (g_ad X 122), .int v12_691] [] (met_L_rigs (g_xl X) hs m (upd (upd s (58 + 9 * v12_691.toNatClampNeg + 2) 2) (58 + 9 * v12_691.toNatClampNeg + 4) 10) lm pm v12_691 hI0) LW_72 rfl rfl rfl dL_acts_1220 rfl rfl ?_
                                refine r_iload O 5 dL_acts_1223 rfl ?_
                                refine r_icmp_ne O 1232 dL_acts_1225 (by decide) (fun c_1225 => ?_) (fun c_1225 => ?_)
                                · have e_1225 : (g_wv (R_X7_rig m pm v12_691)).toInt = (s (58 + 9 * v12_691.toNatClampNeg + 1)).toInt := j_eq c_1225
                                  refine r_iconst (x := 1) O dL_acts_1228 rfl ?_
                                  refine r_goto O 1233 dL_acts_1229 (by decide) ?_
                                  exact r_iret O dL_acts_1233 rfl (Nat.le_of_ble_eq_true rfl) (Nat.le_of_ble_eq_true rfl) rfl
                                · have e_1225 : (g_wv (R_X7_rig m pm v12_691)).toInt ≠ (s (58 + 9 * v12_691.toNatClampNeg + 1)).toInt := j_ne c_1225
                                  refine r_iconst (x := 0) O dL_acts_1232 rfl ?_
                                  exact r_iret O dL_acts_1233 rfl (Nat.le_of_ble_eq_true rfl) (Nat.le_of_ble_eq_true rfl) rfl
                            have J_1175 : g_V X (fun r : Int32 × (Nat → Int32) × (Nat → Int32) × (Nat → Nat) => ((.inl (some (.int r.1)), (r.2.1, r.2.2.1, lm, r.2.2.2)) : g_Res)) (R_L_acts_1175 m s pm v12_691 ) 0 0 m (s, lm, pm) 1175 [(0, .ref (g_ad X 122)), (6, .ref (g_ad X 129)), (12, .int v12_691), (13, .int (9 * v12_691)), (14, .int (s (58 + 9 * v12_691.toNatClampNeg + 1)))] [] := by
                              refine r_iconst (x := 0) O dL_acts_1175 rfl ?_
                              exact J_1176 0
                            refine r_if_ne O 1175 dL_acts_1076 (by decide) (fun c_1076 => ?_) (fun c_1076 => ?_)
                            · have e_1076 : (s (58 + 9 * v12_691.toNatClampNeg + 2)).toInt = (0 : Int) := j_eqR c_1076 rfl
                              refine r_aload O 6 dL_acts_1079 rfl ?_
                              refine r_iload O 12 dL_acts_1081 rfl ?_
                              refine r_iconst (x := 5) O dL_acts_1083 rfl ?_
                              refine r_iadd O dL_acts_1084 ?_
                              have ix_1085 : ((9 * v12_691) + 5).toInt = (((9 : Int) * v12_691.toInt) + (5 : Int)) := (j_addE (j_mulE rfl rfl (by with_reducible omega) (by with_reducible omega)) rfl (by with_reducible omega) (by with_reducible omega))
                              have ja_1085_0 := j_nat (x := v12_691) (by with_reducible omega)
                              have iy_1085 := j_nat (x := ((9 * v12_691) + 5)) (by with_reducible omega)
                              refine r_ialn (b := 58) (loc := 58 + 9 * v12_691.toNatClampNeg + 5) O R_129 (show vp_in ((9 * v12_691) + 5) 54 from g_vin (by with_reducible omega) (by with_reducible omega)) (by with_reducible omega) dL_acts_1085 ?_
                              refine r_if_lt O 1175 dL_acts_1086 (by decide) (fun c_1086 => ?_) (fun c_1086 => ?_)
                              · have e_1086 : (s (58 + 9 * v12_691.toNatClampNeg + 5)).toInt < (0 : Int) := j_ltR c_1086 rfl
                                refine r_sub [0, 6, 11, 12, 13] rfl ?_
                                exact J_1175
                              · have e_1086 : (0 : Int) ≤ (s (58 + 9 * v12_691.toNatClampNeg + 5)).toInt := j_nltR c_1086 rfl
                                refine r_iload O 13 dL_acts_1089 rfl ?_
                                refine r_aload_n O 1 dL_acts_1091 rfl rfl ?_
                                refine r_iconst (x := 0) O dL_acts_1092 rfl ?_
                                refine r_ialn (b := 0) (loc := 0) O R_124 (g_vin (by decide) (by decide)) rfl dL_acts_1093 ?_
                                refine r_icmp_ge O 1175 dL_acts_1094 (by decide) (fun c_1094 => ?_) (fun c_1094 => ?_)
                                · have e_1094 : (s (0)).toInt ≤ (s (58 + 9 * v12_691.toNatClampNeg + 1)).toInt := j_le c_1094
                                  refine r_sub [0, 6, 11, 12, 13] rfl ?_
                                  exact J_1175
                                · have e_1094 : (s (58 + 9 * v12_691.toNatClampNeg + 1)).toInt < (s (0)).toInt := j_nle c_1094
                                  refine r_aload_n O 2 dL_acts_1097 rfl rfl ?_
                                  refine r_iload O 13 dL_acts_1098 rfl ?_
                                  refine r_bipush (x := 7) O dL_acts_1100 rfl ?_
                                  have J_1112 : ∀ (t0_1112 : Int32) (hj0 : 0 ≤ t0_1112.toInt) (hj1 : t0_1112.toInt < 7), g_V X (fun r : Int32 × (Nat → Int32) × (Nat → Int32) × (Nat → Nat) => ((.inl (some (.int r.1)), (r.2.1, r.2.2.1, lm, r.2.2.2)) : g_Res)) (R_L_acts_1112 m s pm v12_691 t0_1112) 0 0 m (s, lm, pm) 1112 [(0, .ref (g_ad X 122)), (1, .ref (g_ad X 124)), (2, .ref (g_ad X 125)), (3, .ref (g_ad X 126)), (4, .ref (g_ad X 127)), (5, .ref (g_ad X 128)), (6, .ref (g_ad X 129)), (12, .int v12_691), (13, .int (9 * v12_691)), (14, .int (s (58 + 9 * v12_691.toNatClampNeg + 1)))] [.int t0_1112, .ref (g_ad X 125)] := by
                                    intro t0_1112 hj0 hj1
                                    have ja_1112_0 := j_nat (x := t0_1112) (by with_reducible omega)
                                    refine r_ialn (b := 13) (loc := 13 + t0_1112.toNatClampNeg) O R_125 (show vp_in t0_1112 7 from g_vin (by with_reducible omega) (by with_reducible omega)) (by with_reducible omega) dL_acts_1112 ?_
                                    refine r_if_le O 1175 dL_acts_1113 (by decide) (fun c_1113 => ?_) (fun c_1113 => ?_)
                                    · have e_1113 : (s (13 + t0_1112.toNatClampNeg)).toInt ≤ (0 : Int) := j_leR c_1113 rfl
                                      refine r_sub [0, 6, 7, 8, 9] rfl ?_
                                      exact J_1175
                                    · have e_1113 : (0 : Int) < (s (13 + t0_1112.toNatClampNeg)).toInt := j_nleR c_1113 rfl
                                      refine r_aload O 4 dL_acts_1116 rfl ?_
                                      refine r_iload O 9 dL_acts_1118 rfl ?_
                                      have ja_1120_0 := j_nat (x := (s (58 + 9 * v12_691.toNatClampNeg + 1))) (by with_reducible omega)
                                      refine r_ialn (b := 27) (loc := 27 + (s (58 + 9 * v12_691.toNatClampNeg + 1)).toNatClampNeg) O R_127 (show vp_in (s (58 + 9 * v12_691.toNatClampNeg + 1)) 7 from g_vin (by with_reducible omega) (by with_reducible omega)) (by with_reducible omega) dL_acts_1120 ?_
                                      refine r_if_ge O 1175 dL_acts_1121 (by decide) (fun c_1121 => ?_) (fun c_1121 => ?_)
                                      · have e_1121 : (0 : Int) ≤ (s (27 + (s (58 + 9 * v12_691.toNatClampNeg + 1)).toNatClampNeg)).toInt := j_leL c_1121 rfl
                                        refine r_sub [0, 6, 7, 8, 9] rfl ?_
                                        exact J_1175
                                      · have e_1121 : (s (27 + (s (58 + 9 * v12_691.toNatClampNeg + 1)).toNatClampNeg)).toInt < (0 : Int) := j_nleL c_1121 rfl
                                        refine r_aload_n O 1 dL_acts_1124 rfl rfl ?_
                                        refine r_aload O 6 dL_acts_1125 rfl ?_
                                        refine r_iload O 9 dL_acts_1127 rfl ?_
                                        refine r_callSi O [.ref (g_ad X 124), .ref (g_ad X 129), .int (s (58 + 9 * v12_691.toNatClampNeg + 1))] [] (met_L_rigger (g_xl X) hs lm pm m s (s (58 + 9 * v12_691.toNatClampNeg + 1)) (by first | decide | with_reducible assumption | with_reducible omega | (simp (disch := omega) only [g_upd_ne, g_upd_eq]; first | with_reducible assumption | with_reducible omega | decide) | exact Or.inl rfl | exact Or.inr rfl)) LL_39 rfl rfl rfl dL_acts_1129 rfl rfl ?_
                                        refine r_if_ge O 1175 dL_acts_1132 (by decide) (fun c_1132 => ?_) (fun c_1132 => ?_)
                                        · have e_1132 : (0 : Int) ≤ (R_L_rigger s (s (58 + 9 * v12_691.toNatClampNeg + 1))).toInt := j_leL c_1132 rfl
                                          refine r_sub [0, 6, 7, 8, 9] rfl ?_
                                          exact J_1175
                                        · have e_1132 : (R_L_rigger s (s (58 + 9 * v12_691.toNatClampNeg + 1))).toInt < (0 : Int) := j_nleL c_1132 rfl
                                          refine r_aload O 5 dL_acts_1135 rfl ?_
                                          refine r_iconst (x := 3) O dL_acts_1137 rfl ?_
                                          refine r_aload O 6 dL_acts_1138 rfl ?_
                                          refine r_iload O 8 dL_acts_1140 rfl ?_
                                          refine r_iconst (x := 5) O dL_acts_1142 rfl ?_
                                          refine r_iadd O dL_acts_1143 ?_
                                          have ix_1144 : ((9 * v12_691) + 5).toInt = (((9 : Int) * v12_691.toInt) + (5 : Int)) := (j_addE (j_mulE rfl rfl (by with_reducible omega) (by with_reducible omega)) rfl (by with_reducible omega) (by with_reducible omega))
                                          have ja_1144_0 := j_nat (x := v12_691) (by with_reducible omega)
                                          have iy_1144 := j_nat (x := ((9 * v12_691) + 5)) (by with_reducible omega)
                                          refine r_ialn (b := 58) (loc := 58 + 9 * v12_691.toNatClampNeg + 5) O R_129 (show vp_in ((9 * v12_691) + 5) 54 from g_vin (by with_reducible omega) (by with_reducible omega)) (by with_reducible omega) dL_acts_1144 ?_
                                          refine r_imul O dL_acts_1145 ?_
                                          have ix_1146 : (3 * (s (58 + 9 * v12_691.toNatClampNeg + 5))).toInt = ((3 : Int) * (s (58 + 9 * v12_691.toNatClampNeg + 5)).toInt) := (j_mulE rfl rfl (by with_reducible omega) (by with_reducible omega))
                                          have ja_1146_0 := j_nat (x := (s (58 + 9 * v12_691.toNatClampNeg + 5))) (by with_reducible omega)
                                          have iy_1146 := j_nat (x := (3 * (s (58 + 9 * v12_691.toNatClampNeg + 5)))) (by with_reducible omega)
                                          refine r_ialn (b := 34) (loc := 34 + 3 * ((s (58 + 9 * v12_691.toNatClampNeg + 5)).toNatClampNeg)) O R_128 (show vp_in (3 * (s (58 + 9 * v12_691.toNatClampNeg + 5))) 24 from g_vin (by with_reducible omega) (by with_reducible omega)) (by with_reducible omega) dL_acts_1146 ?_
                                          refine r_aload_n O 2 dL_acts_1147 rfl rfl ?_
                                          refine r_iload O 9 dL_acts_1148 rfl ?_
                                          have ja_1150_0 := j_nat (x := (s (58 + 9 * v12_691.toNatClampNeg + 1))) (by with_reducible omega)
                                          refine r_ialn (b := 13) (loc := 13 + (s (58 + 9 * v12_691.toNatClampNeg + 1)).toNatClampNeg) O R_125 (show vp_in (s (58 + 9 * v12_691.toNatClampNeg + 1)) 7 from g_vin (by with_reducible omega) (by with_reducible omega)) (by with_reducible omega) dL_acts_1150 ?_
                                          refine r_iconst (x := 3) O dL_acts_1151 rfl ?_
                                          refine r_iadd O dL_acts_1152 ?_
                                          refine r_icmp_lt O 1175 dL_acts_1153 (by decide) (fun c_1153 => ?_) (fun c_1153 => ?_)
                                          · have e_1153 : (s (34 + 3 * ((s (58 + 9 * v12_691.toNatClampNeg + 5)).toNatClampNeg))).toInt < ((s (13 + (s (58 + 9 * v12_691.toNatClampNeg + 1)).toNatClampNeg)) + 3).toInt := j_lt c_1153
                                            refine r_sub [0, 6, 7, 8, 9] rfl ?_
                                            exact J_1175
                                          · have e_1153 : ((s (13 + (s (58 + 9 * v12_691.toNatClampNeg + 1)).toNatClampNeg)) + 3).toInt ≤ (s (34 + 3 * ((s (58 + 9 * v12_691.toNatClampNeg + 5)).toNatClampNeg))).toInt := j_nlt c_1153
                                            refine r_aload_n O 3 dL_acts_1156 rfl rfl ?_
                                            refine r_aload O 6 dL_acts_1157 rfl ?_
                                            refine r_iload O 7 dL_acts_1159 rfl ?_
                                            refine r_iload O 9 dL_acts_1161 rfl ?_
                                            refine r_bipush (x := 10) O dL_acts_1163 rfl ?_
                                            refine r_callSi O [.ref (g_ad X 126), .ref (g_ad X 129), .int v12_691, .int (s (58 + 9 * v12_691.toNatClampNeg + 1)), .int 10] [] (met_L_inTime (g_xl X) hs lm pm m s v12_691 (s (58 + 9 * v12_691.toNatClampNeg + 1)) 10 (by first | decide | with_reducible assumption | with_reducible omega | (simp (disch := omega) only [g_upd_ne, g_upd_eq]; first | with_reducible assumption | with_reducible omega | decide) | exact Or.inl rfl | exact Or.inr rfl) (by first | decide | with_reducible assumption | with_reducible omega | (simp (disch := omega) only [g_upd_ne, g_upd_eq]; first | with_reducible assumption | with_reducible omega | decide) | exact Or.inl rfl | exact Or.inr rfl) (by first | decide | with_reducible assumption | with_reducible omega | (simp (disch := omega) only [g_upd_ne, g_upd_eq]; first | with_reducible assumption | with_reducible omega | decide) | exact Or.inl rfl | exact Or.inr rfl) (by first | decide | with_reducible assumption | with_reducible omega | (simp (disch := omega) only [g_upd_ne, g_upd_eq]; first | with_reducible assumption | with_reducible omega | decide) | exact Or.inl rfl | exact Or.inr rfl)) LL_18 rfl rfl rfl dL_acts_1165 rfl rfl ?_
                                            refine r_if_eq O 1175 dL_acts_1168 (by decide) (fun c_1168 => ?_) (fun c_1168 => ?_)
                                            · have e_1168 : (R_L_inTime s v12_691 (s (58 + 9 * v12_691.toNatClampNeg + 1)) 10).toInt = (0 : Int) := j_eqR c_1168 rfl
                                              refine r_sub [0, 6, 7, 8, 9] rfl ?_
                                              exact J_1175
                                            · have e_1168 : (R_L_inTime s v12_691 (s (58 + 9 * v12_691.toNatClampNeg + 1)) 10).toInt ≠ (0 : Int) := j_neR c_1168 rfl
                                              refine r_iconst (x := 1) O dL_acts_1171 rfl ?_
                                              refine r_goto O 1176 dL_acts_1172 (by decide) ?_
                                              refine r_sub [0, 6, 7, 8, 9] rfl ?_
                                              exact J_1176 1
                                  refine r_icmp_ge O 1110 dL_acts_1102 (by decide) (fun c_1102 => ?_) (fun c_1102 => ?_)
                                  · have e_1102 : (7 : Int) ≤ (s (58 + 9 * v12_691.toNatClampNeg + 1)).toInt := j_leL c_1102 rfl
                                    refine r_bipush (x := 6) O dL_acts_1110 rfl ?_
                                    refine r_sub [0, 1, 2, 3, 4, 5, 6, 11, 12, 13] rfl ?_
                                    have hlit_t0_1112 : (6 : Int32).toInt = 6 := rfl
                                    exact J_1112 6 (by first | decide | with_reducible assumption | with_reducible omega | (simp (disch := omega) only [g_upd_ne, g_upd_eq]; first | with_reducible assumption | with_reducible omega | decide) | exact Or.inl rfl | exact Or.inr rfl) (by first | decide | with_reducible assumption | with_reducible omega | (simp (disch := omega) only [g_upd_ne, g_upd_eq]; first | with_reducible assumption | with_reducible omega | decide) | exact Or.inl rfl | exact Or.inr rfl)
                                  · have e_1102 : (s (58 + 9 * v12_691.toNatClampNeg + 1)).toInt < (7 : Int) := j_nleL c_1102 rfl
                                    refine r_iload O 13 dL_acts_1105 rfl ?_
                                    refine r_goto O 1112 dL_acts_1107 (by decide) ?_
                                    refine r_sub [0, 1, 2, 3, 4, 5, 6, 11, 12, 13] rfl ?_
                                    exact J_1112 (s (58 + 9 * v12_691.toNatClampNeg + 1)) (by first | decide | with_reducible assumption | with_reducible omega | (simp (disch := omega) only [g_upd_ne, g_upd_eq]; first | with_reducible assumption | with_reducible omega | decide) | exact Or.inl rfl | exact Or.inr rfl) (by first | decide | with_reducible assumption | with_reducible omega | (simp (disch := omega) only [g_upd_ne, g_upd_eq]; first | with_reducible assumption | with_reducible omega | decide) | exact Or.inl rfl | exact Or.inr rfl)
                            · have e_1076 : (s (58 + 9 * v12_691.toNatClampNeg + 2)).toInt ≠ (0 : Int) := j_neR c_1076 rfl
                              refine r_sub [0, 6, 11, 12, 13] rfl ?_
                              exact J_1175
                        refine r_icmp_ne O 1062 dL_acts_972 (by decide) (fun c_972 => ?_) (fun c_972 => ?_)
                        · have e_972 : (v11_20).toInt = (15 : Int) := j_eqR c_972 rfl
                          refine r_aload O 6 dL_acts_975 rfl ?_
                          refine r_iload O 12 dL_acts_977 rfl ?_
                          refine r_iconst (x := 5) O dL_acts_979 rfl ?_
                          refine r_iadd O dL_acts_980 ?_
                          have ix_981 : ((9 * v12_691) + 5).toInt = (((9 : Int) * v12_691.toInt) + (5 : Int)) := (j_addE (j_mulE rfl rfl (by with_reducible omega) (by with_reducible omega)) rfl (by with_reducible omega) (by with_reducible omega))
                          have ja_981_0 := j_nat (x := v12_691) (by with_reducible omega)
                          have iy_981 := j_nat (x := ((9 * v12_691) + 5)) (by with_reducible omega)
                          refine r_ialn (b := 58) (loc := 58 + 9 * v12_691.toNatClampNeg + 5) O R_129 (show vp_in ((9 * v12_691) + 5) 54 from g_vin (by with_reducible omega) (by with_reducible omega)) (by with_reducible omega) dL_acts_981 ?_
                          refine r_istore (lc' := [(15, .int (s (58 + 9 * v12_691.toNatClampNeg + 5))), (0, .ref (g_ad X 122)), (1, .ref (g_ad X 124)), (2, .ref (g_ad X 125)), (3, .ref (g_ad X 126)), (4, .ref (g_ad X 127)), (5, .ref (g_ad X 128)), (6, .ref (g_ad X 129)), (7, .ref (g_ad X 130)), (8, .ref (g_ad X 131)), (10, .int v10_11), (11, .int v11_20), (12, .int v12_691), (13, .int (9 * v12_691)), (14, .int (s (58 + 9 * v12_691.toNatClampNeg + 1)))]) O dL_acts_982 (hN 15 rfl) rfl ?_
                          refine r_aload O 7 dL_acts_984 rfl ?_
                          refine r_iload O 13 dL_acts_986 rfl ?_
                          refine r_iconst (x := 2) O dL_acts_988 rfl ?_
                          refine r_iadd O dL_acts_989 ?_
                          have ix_990 : ((9 * v12_691) + 2).toInt = (((9 : Int) * v12_691.toInt) + (2 : Int)) := (j_addE (j_mulE rfl rfl (by with_reducible omega) (by with_reducible omega)) rfl (by with_reducible omega) (by with_reducible omega))
                          have ja_990_0 := j_nat (x := v12_691) (by with_reducible omega)
                          have iy_990 := j_nat (x := ((9 * v12_691) + 2)) (by with_reducible omega)
                          refine r_ialn (b := 58) (loc := 58 + 9 * v12_691.toNatClampNeg + 2) O R_129 (show vp_in ((9 * v12_691) + 2) 54 from g_vin (by with_reducible omega) (by with_reducible omega)) (by with_reducible omega) dL_acts_990 ?_
                          have J_999 : g_V X (fun r : Int32 × (Nat → Int32) × (Nat → Int32) × (Nat → Nat) => ((.inl (some (.int r.1)), (r.2.1, r.2.2.1, lm, r.2.2.2)) : g_Res)) (R_L_acts_999 m s pm v12_691 ) 0 0 m (s, lm, pm) 999 [(0, .ref (g_ad X 122)), (12, .int v12_691)] [] := by
                            refine r_aload_n O 0 dL_acts_999 rfl rfl ?_
                            refine r_iload O 1 dL_acts_1000 rfl ?_
                            refine r_cW O Y [.ref (g_ad X 122), .int v12_691] [] (met_L_lays (g_xl X) hs m s lm pm v12_691 hI0) LW_69 rfl rfl rfl dL_acts_1002 rfl rfl ?_
                            refine r_ldc O dL_acts_1005 w_con_L_50 ?_
                            refine r_icmp_ne O 1014 dL_acts_1007 (by decide) (fun c_1007 => ?_) (fun c_1007 => ?_)
                            · have e_1007 : (g_wv (R_X7_lay m pm v12_691)).toInt = (-2000003 : Int) := j_eqR c_1007 rfl
                              refine r_iconst (x := 1) O dL_acts_1010 rfl ?_
                              refine r_goto O 1015 dL_acts_1011 (by decide) ?_
                              exact r_iret O dL_acts_1015 rfl (Nat.le_of_ble_eq_true rfl) (Nat.le_of_ble_eq_true rfl) rfl
                            · have e_1007 : (g_wv (R_X7_lay m pm v12_691)).toInt ≠ (-2000003 : Int) := j_neR c_1007 rfl
                              refine r_iconst (x := 0) O dL_acts_1014 rfl ?_
                              exact r_iret O dL_acts_1015 rfl (Nat.le_of_ble_eq_true rfl) (Nat.le_of_ble_eq_true rfl) rfl
                          refine r_if_gt O 999 dL_acts_991 (by decide) (fun c_991 => ?_) (fun c_991 => ?_)
                          · have e_991 : (0 : Int) < (s (58 + 9 * v12_691.toNatClampNeg + 2)).toInt := j_ltL c_991 rfl
                            refine r_sub [1, 12] rfl ?_
                            exact J_999
                          · have e_991 : (s (58 + 9 * v12_691.toNatClampNeg + 2)).toInt ≤ (0 : Int) := j_nltL c_991 rfl
                            refine r_iload O 0 dL_acts_994 rfl ?_
                            refine r_if_ge O 1016 dL_acts_996 (by decide) (fun c_996 => ?_) (fun c_996 => ?_)
                            · have e_996 : (0 : Int) ≤ (s (58 + 9 * v12_691.toNatClampNeg + 5)).toInt := j_leL c_996 rfl
                              refine r_aload O 7 dL_acts_1016 rfl ?_
                              refine r_iload O 13 dL_acts_1018 rfl ?_
                              refine r_iconst (x := 5) O dL_acts_1020 rfl ?_
                              refine r_iadd O dL_acts_1021 ?_
                              refine r_iconst (x := (-1)) O dL_acts_1022 rfl ?_
                              have ix_1023 : ((9 * v12_691) + 5).toInt = (((9 : Int) * v12_691.toInt) + (5 : Int)) := (j_addE (j_mulE rfl rfl (by with_reducible omega) (by with_reducible omega)) rfl (by with_reducible omega) (by with_reducible omega))
                              have ja_1023_0 := j_nat (x := v12_691) (by with_reducible omega)
                              have iy_1023 := j_nat (x := ((9 * v12_691) + 5)) (by with_reducible omega)
                              refine r_iasn (b := 58) (loc := 58 + 9 * v12_691.toNatClampNeg + 5) O T_129 (show vp_in ((9 * v12_691) + 5) 54 from g_vin (by with_reducible omega) (by with_reducible omega)) (by with_reducible omega) dL_acts_1023 ?_
                              refine r_aload O 6 dL_acts_1024 rfl ?_
                              refine r_iconst (x := 3) O dL_acts_1026 rfl ?_
                              refine r_iload O 0 dL_acts_1027 rfl ?_
                              refine r_imul O dL_acts_1029 ?_
                              refine r_iconst (x := 1) O dL_acts_1030 rfl ?_
                              refine r_iadd O dL_acts_1031 ?_
                              refine r_iconst (x := 0) O dL_acts_1032 rfl ?_
                              have ix_1033 : ((3 * (s (58 + 9 * v12_691.toNatClampNeg + 5))) + 1).toInt = (((3 : Int) * (s (58 + 9 * v12_691.toNatClampNeg + 5)).toInt) + (1 : Int)) := (j_addE (j_mulE rfl rfl (by with_reducible omega) (by with_reducible omega)) rfl (by with_reducible omega) (by with_reducible omega))
                              have ja_1033_0 := j_nat (x := (s (58 + 9 * v12_691.toNatClampNeg + 5))) (by with_reducible omega)
                              have iy_1033 := j_nat (x := ((3 * (s (58 + 9 * v12_691.toNatClampNeg + 5))) + 1)) (by with_reducible omega)
                              refine r_iasn (b := 34) (loc := 35 + 3 * ((s (58 + 9 * v12_691.toNatClampNeg + 5)).toNatClampNeg)) O T_128 (show vp_in ((3 * (s (58 + 9 * v12_691.toNatClampNeg + 5))) + 1) 24 from g_vin (by with_reducible omega) (by with_reducible omega)) (by with_reducible omega) dL_acts_1033 ?_
                              refine r_aload O 6 dL_acts_1034 rfl ?_
                              refine r_iconst (x := 3) O dL_acts_1036 rfl ?_
                              refine r_iload O 0 dL_acts_1037 rfl ?_
                              refine r_imul O dL_acts_1039 ?_
                              refine r_iconst (x := 2) O dL_acts_1040 rfl ?_
                              refine r_iadd O dL_acts_1041 ?_
                              refine r_iload O 14 dL_acts_1042 rfl ?_
                              have ix_1044 : ((3 * (s (58 + 9 * v12_691.toNatClampNeg + 5))) + 2).toInt = (((3 : Int) * (s (58 + 9 * v12_691.toNatClampNeg + 5)).toInt) + (2 : Int)) := (j_addE (j_mulE rfl rfl (by with_reducible omega) (by with_reducible omega)) rfl (by with_reducible omega) (by with_reducible omega))
                              have ja_1044_0 := j_nat (x := (s (58 + 9 * v12_691.toNatClampNeg + 5))) (by with_reducible omega)
                              have iy_1044 := j_nat (x := ((3 * (s (58 + 9 * v12_691.toNatClampNeg + 5))) + 2)) (by with_reducible omega)
                              refine r_iasn (b := 34) (loc := 36 + 3 * ((s (58 + 9 * v12_691.toNatClampNeg + 5)).toNatClampNeg)) O T_128 (show vp_in ((3 * (s (58 + 9 * v12_691.toNatClampNeg + 5))) + 2) 24 from g_vin (by with_reducible omega) (by with_reducible omega)) (by with_reducible omega) dL_acts_1044 ?_
                              refine r_aload_n O 1 dL_acts_1045 rfl rfl ?_
                              refine r_iload O 12 dL_acts_1046 rfl ?_
                              refine r_cW O Y [.ref (g_ad X 122), .int v12_691] [] (met_L_lays (g_xl X) hs m (upd (upd (upd s (58 + 9 * v12_691.toNatClampNeg + 5) (-1)) (35 + 3 * ((s (58 + 9 * v12_691.toNatClampNeg + 5)).toNatClampNeg)) 0) (36 + 3 * ((s (58 + 9 * v12_691.toNatClampNeg + 5)).toNatClampNeg)) (s (58 + 9 * v12_691.toNatClampNeg + 1))) lm pm v12_691 hI0) LW_69 rfl rfl rfl dL_acts_1048 rfl rfl ?_
                              refine r_iload O 0 dL_acts_1051 rfl ?_
                              refine r_icmp_ne O 1060 dL_acts_1053 (by decide) (fun c_1053 => ?_) (fun c_1053 => ?_)
                              · have e_1053 : (g_wv (R_X7_lay m pm v12_691)).toInt = (s (58 + 9 * v12_691.toNatClampNeg + 5)).toInt := j_eq c_1053
                                refine r_iconst (x := 1) O dL_acts_1056 rfl ?_
                                refine r_goto O 1061 dL_acts_1057 (by decide) ?_
                                exact r_iret O dL_acts_1061 rfl (Nat.le_of_ble_eq_true rfl) (Nat.le_of_ble_eq_true rfl) rfl
                              · have e_1053 : (g_wv (R_X7_lay m pm v12_691)).toInt ≠ (s (58 + 9 * v12_691.toNatClampNeg + 5)).toInt := j_ne c_1053
                                refine r_iconst (x := 0) O dL_acts_1060 rfl ?_
                                exact r_iret O dL_acts_1061 rfl (Nat.le_of_ble_eq_true rfl) (Nat.le_of_ble_eq_true rfl) rfl
                            · have e_996 : (s (58 + 9 * v12_691.toNatClampNeg + 5)).toInt < (0 : Int) := j_nleL c_996 rfl
                              refine r_sub [1, 12] rfl ?_
                              exact J_999
                        · have e_972 : (v11_20).toInt ≠ (15 : Int) := j_neR c_972 rfl
                          exact J_1062
                      refine r_icmp_ge O 968 dL_acts_811 (by decide) (fun c_811 => ?_) (fun c_811 => ?_)
                      · have e_811 : (15 : Int) ≤ (v11_20).toInt := j_leL c_811 rfl
                        exact J_968
                      · have e_811 : (v11_20).toInt < (15 : Int) := j_nleL c_811 rfl
                        refine r_aload_n O 1 dL_acts_814 rfl rfl ?_
                        refine r_iconst (x := 1) O dL_acts_815 rfl ?_
                        refine r_ialn (b := 0) (loc := 1) O R_124 (g_vin (by decide) (by decide)) rfl dL_acts_816 ?_
                        refine r_if_ne O 838 dL_acts_817 (by decide) (fun c_817 => ?_) (fun c_817 => ?_)
                        · have e_817 : (s (1)).toInt = (0 : Int) := j_eqR c_817 rfl
                          refine r_aload_n O 0 dL_acts_820 rfl rfl ?_
                          refine r_iload O 11 dL_acts_821 rfl ?_
                          refine r_iconst (x := 0) O dL_acts_823 rfl ?_
                          refine r_cW O Y [.ref (g_ad X 122), .int v12_691, .int 0] [] (met_L_takes (g_xl X) hs m s lm pm v12_691 ((0) : Int32) hI0) LW_65 rfl rfl rfl dL_acts_824 rfl rfl ?_
                          refine r_ldc O dL_acts_827 w_con_L_68 ?_
                          refine r_icmp_ne O 836 dL_acts_829 (by decide) (fun c_829 => ?_) (fun c_829 => ?_)
                          · have e_829 : (g_wv (R_X7_take m pm v12_691 ((0) : Int32))).toInt = (-2000001 : Int) := j_eqR c_829 rfl
                            refine r_iconst (x := 1) O dL_acts_832 rfl ?_
                            refine r_goto O 837 dL_acts_833 (by decide) ?_
                            exact r_iret O dL_acts_837 rfl (Nat.le_of_ble_eq_true rfl) (Nat.le_of_ble_eq_true rfl) rfl
                          · have e_829 : (g_wv (R_X7_take m pm v12_691 ((0) : Int32))).toInt ≠ (-2000001 : Int) := j_neR c_829 rfl
                            refine r_iconst (x := 0) O dL_acts_836 rfl ?_
                            exact r_iret O dL_acts_837 rfl (Nat.le_of_ble_eq_true rfl) (Nat.le_of_ble_eq_true rfl) rfl
                        · have e_817 : (s (1)).toInt ≠ (0 : Int) := j_neR c_817 rfl
                          refine r_iload O 9 dL_acts_838 rfl ?_
                          refine r_bipush (x := 6) O dL_acts_840 rfl ?_
                          refine r_idiv O dL_acts_842 (by decide) ?_
                          refine r_aload_n O 1 dL_acts_843 rfl rfl ?_
                          refine r_iconst (x := 1) O dL_acts_844 rfl ?_
                          refine r_ialn (b := 0) (loc := 1) O R_124 (g_vin (by decide) (by decide)) rfl dL_acts_845 ?_
                          refine r_irem O dL_acts_846 (nz0 (by with_reducible omega)) ?_
                          have J_849 : ∀ (v15_849 : Int32) (hj0 : 0 ≤ v15_849.toInt) (hj1 : v15_849.toInt < (s (1)).toInt), g_V X (fun r : Int32 × (Nat → Int32) × (Nat → Int32) × (Nat → Nat) => ((.inl (some (.int r.1)), (r.2.1, r.2.2.1, lm, r.2.2.2)) : g_Res)) (R_L_acts_849 m s pm v12_691 v15_849) 0 0 m (s, lm, pm) 849 [(0, .ref (g_ad X 122)), (5, .ref (g_ad X 128)), (6, .ref (g_ad X 129)), (12, .int v12_691), (13, .int (9 * v12_691)), (14, .int (s (58 + 9 * v12_691.toNatClampNeg + 1))), (15, .int v15_849)] [] := by
                            intro v15_849 hj0 hj1
                            refine r_aload O 2 dL_acts_849 rfl ?_
                            refine r_iload O 4 dL_acts_851 rfl ?_
                            refine r_iconst (x := 2) O dL_acts_853 rfl ?_
                            refine r_iadd O dL_acts_854 ?_
                            have ix_855 : ((9 * v12_691) + 2).toInt = (((9 : Int) * v12_691.toInt) + (2 : Int)) := (j_addE (j_mulE rfl rfl (by with_reducible omega) (by with_reducible omega)) rfl (by with_reducible omega) (by with_reducible omega))
                            have ja_855_0 := j_nat (x := v12_691) (by with_reducible omega)
                            have iy_855 := j_nat (x := ((9 * v12_691) + 2)) (by with_reducible omega)
                            refine r_ialn (b := 58) (loc := 58 + 9 * v12_691.toNatClampNeg + 2) O R_129 (show vp_in ((9 * v12_691) + 2) 54 from g_vin (by with_reducible omega) (by with_reducible omega)) (by with_reducible omega) dL_acts_855 ?_
                            have J_895 : g_V X (fun r : Int32 × (Nat → Int32) × (Nat → Int32) × (Nat → Nat) => ((.inl (some (.int r.1)), (r.2.1, r.2.2.1, lm, r.2.2.2)) : g_Res)) (R_L_acts_895 m s pm v12_691 v15_849 ) 0 0 m (s, lm, pm) 895 [(0, .ref (g_ad X 122)), (12, .int v12_691), (15, .int v15_849)] [] := by
                              refine r_aload_n O 0 dL_acts_895 rfl rfl ?_
                              refine r_iload O 1 dL_acts_896 rfl ?_
                              refine r_iload O 2 dL_acts_898 rfl ?_
                              refine r_cW O Y [.ref (g_ad X 122), .int v12_691, .int v15_849] [] (met_L_takes (g_xl X) hs m s lm pm v12_691 v15_849 hI0) LW_65 rfl rfl rfl dL_acts_900 rfl rfl ?_
                              refine r_ldc O dL_acts_903 w_con_L_50 ?_
                              refine r_icmp_ne O 912 dL_acts_905 (by decide) (fun c_905 => ?_) (fun c_905 => ?_)
                              · have e_905 : (g_wv (R_X7_take m pm v12_691 v15_849)).toInt = (-2000003 : Int) := j_eqR c_905 rfl
                                refine r_iconst (x := 1) O dL_acts_908 rfl ?_
                                refine r_goto O 913 dL_acts_909 (by decide) ?_
                                exact r_iret O dL_acts_913 rfl (Nat.le_of_ble_eq_true rfl) (Nat.le_of_ble_eq_true rfl) rfl
                              · have e_905 : (g_wv (R_X7_take m pm v12_691 v15_849)).toInt ≠ (-2000003 : Int) := j_neR c_905 rfl
                                refine r_iconst (x := 0) O dL_acts_912 rfl ?_
                                exact r_iret O dL_acts_913 rfl (Nat.le_of_ble_eq_true rfl) (Nat.le_of_ble_eq_true rfl) rfl
                            refine r_if_gt O 895 dL_acts_856 (by decide) (fun c_856 => ?_) (fun c_856 => ?_)
                            · have e_856 : (0 : Int) < (s (58 + 9 * v12_691.toNatClampNeg + 2)).toInt := j_ltL c_856 rfl
                              refine r_sub [0, 3, 6] rfl ?_
                              exact J_895
                            · have e_856 : (s (58 + 9 * v12_691.toNatClampNeg + 2)).toInt ≤ (0 : Int) := j_nltL c_856 rfl
                              refine r_aload O 2 dL_acts_859 rfl ?_
                              refine r_iload O 4 dL_acts_861 rfl ?_
                              refine r_iconst (x := 5) O dL_acts_863 rfl ?_
                              refine r_iadd O dL_acts_864 ?_
                              have ix_865 : ((9 * v12_691) + 5).toInt = (((9 : Int) * v12_691.toInt) + (5 : Int)) := (j_addE (j_mulE rfl rfl (by with_reducible omega) (by with_reducible omega)) rfl (by with_reducible omega) (by with_reducible omega))
                              have ja_865_0 := j_nat (x := v12_691) (by with_reducible omega)
                              have iy_865 := j_nat (x := ((9 * v12_691) + 5)) (by with_reducible omega)
                              refine r_ialn (b := 58) (loc := 58 + 9 * v12_691.toNatClampNeg + 5) O R_129 (show vp_in ((9 * v12_691) + 5) 54 from g_vin (by with_reducible omega) (by with_reducible omega)) (by with_reducible omega) dL_acts_865 ?_
                              refine r_if_ge O 895 dL_acts_866 (by decide) (fun c_866 => ?_) (fun c_866 => ?_)
                              · have e_866 : (0 : Int) ≤ (s (58 + 9 * v12_691.toNatClampNeg + 5)).toInt := j_leL c_866 rfl
                                refine r_sub [0, 3, 6] rfl ?_
                                exact J_895
                              · have e_866 : (s (58 + 9 * v12_691.toNatClampNeg + 5)).toInt < (0 : Int) := j_nleL c_866 rfl
                                refine r_aload O 1 dL_acts_869 rfl ?_
                                refine r_iconst (x := 3) O dL_acts_871 rfl ?_
                                refine r_iload O 6 dL_acts_872 rfl ?_
                                refine r_imul O dL_acts_874 ?_
                                refine r_iconst (x := 1) O dL_acts_875 rfl ?_
                                refine r_iadd O dL_acts_876 ?_
                                have ix_877 : ((3 * v15_849) + 1).toInt = (((3 : Int) * v15_849.toInt) + (1 : Int)) := (j_addE (j_mulE rfl rfl (by with_reducible omega) (by with_reducible omega)) rfl (by with_reducible omega) (by with_reducible omega))
                                have ja_877_0 := j_nat (x := v15_849) (by with_reducible omega)
                                have iy_877 := j_nat (x := ((3 * v15_849) + 1)) (by with_reducible omega)
                                refine r_ialn (b := 34) (loc := 35 + 3 * v15_849.toNatClampNeg) O R_128 (show vp_in ((3 * v15_849) + 1) 24 from g_vin (by with_reducible omega) (by with_reducible omega)) (by with_reducible omega) dL_acts_877 ?_
                                refine r_if_gt O 895 dL_acts_878 (by decide) (fun c_878 => ?_) (fun c_878 => ?_)
                                · have e_878 : (0 : Int) < (s (35 + 3 * v15_849.toNatClampNeg)).toInt := j_ltL c_878 rfl
                                  refine r_sub [0, 3, 6] rfl ?_
                                  exact J_895
                                · have e_878 : (s (35 + 3 * v15_849.toNatClampNeg)).toInt ≤ (0 : Int) := j_nltL c_878 rfl
                                  refine r_aload O 1 dL_acts_881 rfl ?_
                                  refine r_iconst (x := 3) O dL_acts_883 rfl ?_
                                  refine r_iload O 6 dL_acts_884 rfl ?_
                                  refine r_imul O dL_acts_886 ?_
                                  refine r_iconst (x := 2) O dL_acts_887 rfl ?_
                                  refine r_iadd O dL_acts_888 ?_
                                  have ix_889 : ((3 * v15_849) + 2).toInt = (((3 : Int) * v15_849.toInt) + (2 : Int)) := (j_addE (j_mulE rfl rfl (by with_reducible omega) (by with_reducible omega)) rfl (by with_reducible omega) (by with_reducible omega))
                                  have ja_889_0 := j_nat (x := v15_849) (by with_reducible omega)
                                  have iy_889 := j_nat (x := ((3 * v15_849) + 2)) (by with_reducible omega)
                                  refine r_ialn (b := 34) (loc := 36 + 3 * v15_849.toNatClampNeg) O R_128 (show vp_in ((3 * v15_849) + 2) 24 from g_vin (by with_reducible omega) (by with_reducible omega)) (by with_reducible omega) dL_acts_889 ?_
                                  refine r_iload O 5 dL_acts_890 rfl ?_
                                  refine r_icmp_eq O 914 dL_acts_892 (by decide) (fun c_892 => ?_) (fun c_892 => ?_)
                                  · have e_892 : (s (36 + 3 * v15_849.toNatClampNeg)).toInt = (s (58 + 9 * v12_691.toNatClampNeg + 1)).toInt := j_eq c_892
                                    refine r_aload O 2 dL_acts_914 rfl ?_
                                    refine r_iload O 4 dL_acts_916 rfl ?_
                                    refine r_iconst (x := 5) O dL_acts_918 rfl ?_
                                    refine r_iadd O dL_acts_919 ?_
                                    refine r_iload O 6 dL_acts_920 rfl ?_
                                    have ix_922 : ((9 * v12_691) + 5).toInt = (((9 : Int) * v12_691.toInt) + (5 : Int)) := (j_addE (j_mulE rfl rfl (by with_reducible omega) (by with_reducible omega)) rfl (by with_reducible omega) (by with_reducible omega))
                                    have ja_922_0 := j_nat (x := v12_691) (by with_reducible omega)
                                    have iy_922 := j_nat (x := ((9 * v12_691) + 5)) (by with_reducible omega)
                                    refine r_iasn (b := 58) (loc := 58 + 9 * v12_691.toNatClampNeg + 5) O T_129 (show vp_in ((9 * v12_691) + 5) 54 from g_vin (by with_reducible omega) (by with_reducible omega)) (by with_reducible omega) dL_acts_922 ?_
                                    refine r_aload O 1 dL_acts_923 rfl ?_
                                    refine r_iconst (x := 3) O dL_acts_925 rfl ?_
                                    refine r_iload O 6 dL_acts_926 rfl ?_
                                    refine r_imul O dL_acts_928 ?_
                                    refine r_iconst (x := 1) O dL_acts_929 rfl ?_
                                    refine r_iadd O dL_acts_930 ?_
                                    refine r_iconst (x := 1) O dL_acts_931 rfl ?_
                                    have ix_932 : ((3 * v15_849) + 1).toInt = (((3 : Int) * v15_849.toInt) + (1 : Int)) := (j_addE (j_mulE rfl rfl (by with_reducible omega) (by with_reducible omega)) rfl (by with_reducible omega) (by with_reducible omega))
                                    have ja_932_0 := j_nat (x := v15_849) (by with_reducible omega)
                                    have iy_932 := j_nat (x := ((3 * v15_849) + 1)) (by with_reducible omega)
                                    refine r_iasn (b := 34) (loc := 35 + 3 * v15_849.toNatClampNeg) O T_128 (show vp_in ((3 * v15_849) + 1) 24 from g_vin (by with_reducible omega) (by with_reducible omega)) (by with_reducible omega) dL_acts_932 ?_
                                    refine r_aload O 1 dL_acts_933 rfl ?_
                                    refine r_iconst (x := 3) O dL_acts_935 rfl ?_
                                    refine r_iload O 6 dL_acts_936 rfl ?_
                                    refine r_imul O dL_acts_938 ?_
                                    refine r_iconst (x := 2) O dL_acts_939 rfl ?_
                                    refine r_iadd O dL_acts_940 ?_
                                    refine r_iload O 3 dL_acts_941 rfl ?_
                                    have ix_943 : ((3 * v15_849) + 2).toInt = (((3 : Int) * v15_849.toInt) + (2 : Int)) := (j_addE (j_mulE rfl rfl (by with_reducible omega) (by with_reducible omega)) rfl (by with_reducible omega) (by with_reducible omega))
                                    have ja_943_0 := j_nat (x := v15_849) (by with_reducible omega)
                                    have iy_943 := j_nat (x := ((3 * v15_849) + 2)) (by with_reducible omega)
                                    refine r_iasn (b := 34) (loc := 36 + 3 * v15_849.toNatClampNeg) O T_128 (show vp_in ((3 * v15_849) + 2) 24 from g_vin (by with_reducible omega) (by with_reducible omega)) (by with_reducible omega) dL_acts_943 ?_
                                    refine r_aload_n O 0 dL_acts_944 rfl rfl ?_
                                    refine r_iload O 3 dL_acts_945 rfl ?_
                                    refine r_iload O 6 dL_acts_947 rfl ?_
                                    refine r_cW O Y [.ref (g_ad X 122), .int v12_691, .int v15_849] [] (met_L_takes (g_xl X) hs m (upd (upd (upd s (58 + 9 * v12_691.toNatClampNeg + 5) v15_849) (35 + 3 * v15_849.toNatClampNeg) 1) (36 + 3 * v15_849.toNatClampNeg) v12_691) lm pm v12_691 v15_849 hI0) LW_65 rfl rfl rfl dL_acts_949 rfl rfl ?_
                                    refine r_aload O 1 dL_acts_952 rfl ?_
                                    refine r_iconst (x := 3) O dL_acts_954 rfl ?_
                                    refine r_iload O 6 dL_acts_955 rfl ?_
                                    refine r_imul O dL_acts_957 ?_
                                    have ix_958 : (3 * v15_849).toInt = ((3 : Int) * v15_849.toInt) := (j_mulE rfl rfl (by with_reducible omega) (by with_reducible omega))
                                    have ja_958_0 := j_nat (x := v15_849) (by with_reducible omega)
                                    have iy_958 := j_nat (x := (3 * v15_849)) (by with_reducible omega)
                                    refine r_ialv (b := 34) (loc := 34 + 3 * v15_849.toNatClampNeg) (v := (s (34 + 3 * v15_849.toNatClampNeg))) O R_128 (show vp_in (3 * v15_849) 24 from g_vin (by with_reducible omega) (by with_reducible omega)) (by with_reducible omega) (by rw [g_upd_ne (by with_reducible omega), g_upd_ne (by with_reducible omega), g_upd_ne (by with_reducible omega)]) dL_acts_958 ?_
                                    refine r_icmp_ne O 966 dL_acts_959 (by decide) (fun c_959 => ?_) (fun c_959 => ?_)
                                    · have e_959 : (g_wv (R_X7_take m pm v12_691 v15_849)).toInt = (s (34 + 3 * v15_849.toNatClampNeg)).toInt := j_eq c_959
                                      refine r_iconst (x := 1) O dL_acts_962 rfl ?_
                                      refine r_goto O 967 dL_acts_963 (by decide) ?_
                                      exact r_iret O dL_acts_967 rfl (Nat.le_of_ble_eq_true rfl) (Nat.le_of_ble_eq_true rfl) rfl
                                    · have e_959 : (g_wv (R_X7_take m pm v12_691 v15_849)).toInt ≠ (s (34 + 3 * v15_849.toNatClampNeg)).toInt := j_ne c_959
                                      refine r_iconst (x := 0) O dL_acts_966 rfl ?_
                                      exact r_iret O dL_acts_967 rfl (Nat.le_of_ble_eq_true rfl) (Nat.le_of_ble_eq_true rfl) rfl
                                  · have e_892 : (s (36 + 3 * v15_849.toNatClampNeg)).toInt ≠ (s (58 + 9 * v12_691.toNatClampNeg + 1)).toInt := j_ne c_892
                                    refine r_sub [0, 3, 6] rfl ?_
                                    exact J_895
                          refine r_istore (lc' := [(15, .int ((v10_11 / 6) - (v10_11 / 6) / (s (1)) * (s (1)))), (0, .ref (g_ad X 122)), (1, .ref (g_ad X 124)), (2, .ref (g_ad X 125)), (3, .ref (g_ad X 126)), (4, .ref (g_ad X 127)), (5, .ref (g_ad X 128)), (6, .ref (g_ad X 129)), (7, .ref (g_ad X 130)), (8, .ref (g_ad X 131)), (10, .int v10_11), (11, .int v11_20), (12, .int v12_691), (13, .int (9 * v12_691)), (14, .int (s (58 + 9 * v12_691.toNatClampNeg + 1)))]) O dL_acts_847 (hN 15 rfl) rfl ?_
                          refine r_sub [1, 6, 7, 12, 13, 14, 0] rfl ?_
                          exact J_849 ((v10_11 / 6) - (v10_11 / 6) / (s (1)) * (s (1))) (by have h6 := div_nn (x := v10_11) (y := 6) (by with_reducible omega) (by decide); first | exact (rem_b h6 (by with_reducible omega)).1 | exact (rem_b h6 (by with_reducible omega)).2) (by have h6 := div_nn (x := v10_11) (y := 6) (by with_reducible omega) (by decide); first | exact (rem_b h6 (by with_reducible omega)).1 | exact (rem_b h6 (by with_reducible omega)).2)
                    refine r_icmp_ge O 807 dL_acts_711 (by decide) (fun c_711 => ?_) (fun c_711 => ?_)
                    · have e_711 : (13 : Int) ≤ (v11_20).toInt := j_leL c_711 rfl
                      refine r_sub [2, 3, 4, 5, 6, 7, 8, 9, 10, 11, 12, 13, 1, 0] rfl ?_
                      exact J_807
                    · have e_711 : (v11_20).toInt < (13 : Int) := j_nleL c_711 rfl
                      refine r_iload O 11 dL_acts_714 rfl ?_
                      refine r_bipush (x := 6) O dL_acts_716 rfl ?_
                      refine r_idiv O dL_acts_718 (by decide) ?_
                      refine r_iconst (x := 4) O dL_acts_719 rfl ?_
                      refine r_irem O dL_acts_720 (by decide) ?_
                      have J_735 : ∀ (t0_735 : Int32) (hj0 : t0_735.toInt = (s (58 + 9 * v12_691.toNatClampNeg + 1)).toInt - 1 ∨ t0_735.toInt = (s (58 + 9 * v12_691.toNatClampNeg + 1)).toInt + 1), g_V X (fun r : Int32 × (Nat → Int32) × (Nat → Int32) × (Nat → Nat) => ((.inl (some (.int r.1)), (r.2.1, r.2.2.1, lm, r.2.2.2)) : g_Res)) (R_L_acts_735 m s pm v12_691 t0_735) 0 0 m (s, lm, pm) 735 [(0, .ref (g_ad X 122)), (1, .ref (g_ad X 124)), (2, .ref (g_ad X 125)), (3, .ref (g_ad X 126)), (4, .ref (g_ad X 127)), (6, .ref (g_ad X 129)), (12, .int v12_691), (13, .int (9 * v12_691))] [.int t0_735] := by
                        intro t0_735 hj0
                        refine r_istore (lc' := [(15, .int t0_735), (0, .ref (g_ad X 122)), (1, .ref (g_ad X 124)), (2, .ref (g_ad X 125)), (3, .ref (g_ad X 126)), (4, .ref (g_ad X 127)), (6, .ref (g_ad X 129)), (12, .int v12_691), (13, .int (9 * v12_691))]) O dL_acts_735 (hN 15 rfl) rfl ?_
                        refine r_aload_n O 2 dL_acts_737 rfl rfl ?_
                        refine r_aload_n O 3 dL_acts_738 rfl rfl ?_
                        refine r_aload_n O 4 dL_acts_739 rfl rfl ?_
                        refine r_aload O 5 dL_acts_740 rfl ?_
                        refine r_aload O 6 dL_acts_742 rfl ?_
                        refine r_iload O 7 dL_acts_744 rfl ?_
                        refine r_iload O 0 dL_acts_746 rfl ?_
                        refine r_callSi O [.ref (g_ad X 124), .ref (g_ad X 125), .ref (g_ad X 126), .ref (g_ad X 127), .ref (g_ad X 129), .int v12_691, .int t0_735] [] (met_L_why (g_xl X) hs lm pm m s v12_691 t0_735 (by first | decide | with_reducible assumption | with_reducible omega | (simp (disch := omega) only [g_upd_ne, g_upd_eq]; first | with_reducible assumption | with_reducible omega | decide) | exact Or.inl rfl | exact Or.inr rfl) (by first | decide | with_reducible assumption | with_reducible omega | (simp (disch := omega) only [g_upd_ne, g_upd_eq]; first | with_reducible assumption | with_reducible omega | decide) | exact Or.inl rfl | exact Or.inr rfl) (by first | decide | with_reducible assumption | with_reducible omega | (simp (disch := omega) only [g_upd_ne, g_upd_eq]; first | with_reducible assumption | with_reducible omega | decide) | exact Or.inl rfl | exact Or.inr rfl) (by first | decide | with_reducible assumption | with_reducible omega | (simp (disch := omega) only [g_upd_ne, g_upd_eq]; first | with_reducible assumption | with_reducible omega | decide) | exact Or.inl rfl | exact Or.inr rfl) (by first | decide | with_reducible assumption | with_reducible omega | (simp (disch := omega) only [g_upd_ne, g_upd_eq]; first | with_reducible assumption | with_reducible omega | decide) | exact Or.inl rfl | exact Or.inr rfl)) LL_22 rfl rfl rfl dL_acts_748 rfl rfl ?_
                        refine r_if_le O 773 dL_acts_751 (by decide) (fun c_751 => ?_) (fun c_751 => ?_)
                        · have e_751 : (R_L_why s v12_691 t0_735).toInt ≤ (0 : Int) := j_leR c_751 rfl
                          have w_751 := why_le c_751
                          refine r_aload_n O 4 dL_acts_773 rfl rfl ?_
                          refine r_aload O 6 dL_acts_774 rfl ?_
                          refine r_iload O 7 dL_acts_776 rfl ?_
                          refine r_iload O 0 dL_acts_778 rfl ?_
                          refine r_callSv O [.ref (g_ad X 126), .ref (g_ad X 129), .int v12_691, .int t0_735] [] (met_L_sets (g_xl X) hs lm pm m s v12_691 t0_735 (by first | decide | with_reducible assumption | with_reducible omega | (simp (disch := omega) only [g_upd_ne, g_upd_eq]; first | with_reducible assumption | with_reducible omega | decide) | exact Or.inl rfl | exact Or.inr rfl) (by first | decide | with_reducible assumption | with_reducible omega | (simp (disch := omega) only [g_upd_ne, g_upd_eq]; first | with_reducible assumption | with_reducible omega | decide) | exact Or.inl rfl | exact Or.inr rfl) (by with_reducible omega) (by first | decide | with_reducible assumption | with_reducible omega | (simp (disch := omega) only [g_upd_ne, g_upd_eq]; first | with_reducible assumption | with_reducible omega | decide) | exact Or.inl rfl | exact Or.inr rfl) (by first | decide | with_reducible assumption | with_reducible omega | (simp (disch := omega) only [g_upd_ne, g_upd_eq]; first | with_reducible assumption | with_reducible omega | decide) | exact Or.inl rfl | exact Or.inr rfl) (by first | decide | with_reducible assumption | with_reducible omega | (simp (disch := omega) only [g_upd_ne, g_upd_eq]; first | with_reducible assumption | with_reducible omega | decide) | exact Or.inl rfl | exact Or.inr rfl) (by first | decide | with_reducible assumption | with_reducible omega | (simp (disch := omega) only [g_upd_ne, g_upd_eq]; first | with_reducible assumption | with_reducible omega | decide) | exact Or.inl rfl | exact Or.inr rfl)) LL_26 rfl rfl rfl dL_acts_780 rfl rfl ?_
                          refine r_aload_n O 1 dL_acts_783 rfl rfl ?_
                          refine r_iload O 7 dL_acts_784 rfl ?_
                          refine r_iload O 0 dL_acts_786 rfl ?_
                          refine r_cW O Y [.ref (g_ad X 122), .int v12_691, .int t0_735] [] (met_L_goes (g_xl X) hs m (R_L_sets s v12_691 t0_735) lm pm v12_691 t0_735 hI0) LW_62 rfl rfl rfl dL_acts_788 rfl rfl ?_
                          refine r_aload O 6 dL_acts_791 rfl ?_
                          refine r_iload O 8 dL_acts_793 rfl ?_
                          refine r_iconst (x := 4) O dL_acts_795 rfl ?_
                          refine r_iadd O dL_acts_796 ?_
                          have ix_797 : ((9 * v12_691) + 4).toInt = (((9 : Int) * v12_691.toInt) + (4 : Int)) := (j_addE (j_mulE rfl rfl (by with_reducible omega) (by with_reducible omega)) rfl (by with_reducible omega) (by with_reducible omega))
                          have ja_797_0 := j_nat (x := v12_691) (by with_reducible omega)
                          have iy_797 := j_nat (x := ((9 * v12_691) + 4)) (by with_reducible omega)
                          refine r_ialn (b := 58) (loc := 58 + 9 * v12_691.toNatClampNeg + 4) O R_129 (show vp_in ((9 * v12_691) + 4) 54 from g_vin (by with_reducible omega) (by with_reducible omega)) (by with_reducible omega) dL_acts_797 ?_
                          refine r_icmp_ne O 805 dL_acts_798 (by decide) (fun c_798 => ?_) (fun c_798 => ?_)
                          · have e_798 : (g_wv (R_X7_go m pm v12_691 t0_735)).toInt = ((R_L_sets s v12_691 t0_735) (58 + 9 * v12_691.toNatClampNeg + 4)).toInt := j_eq c_798
                            refine r_iconst (x := 1) O dL_acts_801 rfl ?_
                            refine r_goto O 806 dL_acts_802 (by decide) ?_
                            exact r_iret O dL_acts_806 rfl (Nat.le_of_ble_eq_true rfl) (Nat.le_of_ble_eq_true rfl) rfl
                          · have e_798 : (g_wv (R_X7_go m pm v12_691 t0_735)).toInt ≠ ((R_L_sets s v12_691 t0_735) (58 + 9 * v12_691.toNatClampNeg + 4)).toInt := j_ne c_798
                            refine r_iconst (x := 0) O dL_acts_805 rfl ?_
                            exact r_iret O dL_acts_806 rfl (Nat.le_of_ble_eq_true rfl) (Nat.le_of_ble_eq_true rfl) rfl
                        · have e_751 : (0 : Int) < (R_L_why s v12_691 t0_735).toInt := j_nleR c_751 rfl
                          refine r_aload_n O 1 dL_acts_754 rfl rfl ?_
                          refine r_iload O 7 dL_acts_755 rfl ?_
                          refine r_iload O 0 dL_acts_757 rfl ?_
                          refine r_cW O Y [.ref (g_ad X 122), .int v12_691, .int t0_735] [] (met_L_goes (g_xl X) hs m s lm pm v12_691 t0_735 hI0) LW_62 rfl rfl rfl dL_acts_759 rfl rfl ?_
                          refine r_ldc O dL_acts_762 w_con_L_50 ?_
                          refine r_icmp_ne O 771 dL_acts_764 (by decide) (fun c_764 => ?_) (fun c_764 => ?_)
                          · have e_764 : (g_wv (R_X7_go m pm v12_691 t0_735)).toInt = (-2000003 : Int) := j_eqR c_764 rfl
                            refine r_iconst (x := 1) O dL_acts_767 rfl ?_
                            refine r_goto O 772 dL_acts_768 (by decide) ?_
                            exact r_iret O dL_acts_772 rfl (Nat.le_of_ble_eq_true rfl) (Nat.le_of_ble_eq_true rfl) rfl
                          · have e_764 : (g_wv (R_X7_go m pm v12_691 t0_735)).toInt ≠ (-2000003 : Int) := j_neR c_764 rfl
                            refine r_iconst (x := 0) O dL_acts_771 rfl ?_
                            exact r_iret O dL_acts_772 rfl (Nat.le_of_ble_eq_true rfl) (Nat.le_of_ble_eq_true rfl) rfl
                      refine r_if_ne O 731 dL_acts_721 (by decide) (fun c_721 => ?_) (fun c_721 => ?_)
                      · have e_721 : ((v10_11 / 6) - (v10_11 / 6) / 4 * 4).toInt = (0 : Int) := j_eqR c_721 rfl
                        refine r_iload O 0 dL_acts_724 rfl ?_
                        refine r_iconst (x := 1) O dL_acts_726 rfl ?_
                        refine r_isub O dL_acts_727 ?_
                        refine r_goto O 735 dL_acts_728 (by decide) ?_
                        refine r_sub [2, 3, 4, 5, 6, 8, 13, 1] rfl ?_
                        have ix_735_t0_735 : ((s (58 + 9 * v12_691.toNatClampNeg + 1)) - 1).toInt = ((s (58 + 9 * v12_691.toNatClampNeg + 1)).toInt - (1 : Int)) := (j_subE rfl rfl (by with_reducible omega) (by with_reducible omega))
                        exact J_735 ((s (58 + 9 * v12_691.toNatClampNeg + 1)) - 1) (by first | decide | with_reducible assumption | with_reducible omega | (simp (disch := omega) only [g_upd_ne, g_upd_eq]; first | with_reducible assumption | with_reducible omega | decide) | exact Or.inl rfl | exact Or.inr rfl)
                      · have e_721 : ((v10_11 / 6) - (v10_11 / 6) / 4 * 4).toInt ≠ (0 : Int) := j_neR c_721 rfl
                        refine r_iload O 0 dL_acts_731 rfl ?_
                        refine r_iconst (x := 1) O dL_acts_733 rfl ?_
                        refine r_iadd O dL_acts_734 ?_
                        refine r_sub [2, 3, 4, 5, 6, 8, 13, 1] rfl ?_
                        have ix_735_t0_735 : ((s (58 + 9 * v12_691.toNatClampNeg + 1)) + 1).toInt = ((s (58 + 9 * v12_691.toNatClampNeg + 1)).toInt + (1 : Int)) := (j_addE rfl rfl (by with_reducible omega) (by with_reducible omega))
                        exact J_735 ((s (58 + 9 * v12_691.toNatClampNeg + 1)) + 1) (by first | decide | with_reducible assumption | with_reducible omega | (simp (disch := omega) only [g_upd_ne, g_upd_eq]; first | with_reducible assumption | with_reducible omega | decide) | exact Or.inl rfl | exact Or.inr rfl)
                  refine r_istore (lc' := [(12, .int (v10_11 - v10_11 / (s (2)) * (s (2)))), (0, .ref (g_ad X 122)), (1, .ref (g_ad X 124)), (2, .ref (g_ad X 125)), (3, .ref (g_ad X 126)), (4, .ref (g_ad X 127)), (5, .ref (g_ad X 128)), (6, .ref (g_ad X 129)), (7, .ref (g_ad X 130)), (8, .ref (g_ad X 131)), (10, .int v10_11), (11, .int v11_20)]) O dL_acts_689 (hN 12 rfl) rfl ?_
                  refine r_sub [1, 2, 3, 4, 5, 6, 7, 8, 9, 10, 11, 0] rfl ?_
                  exact J_691 (v10_11 - v10_11 / (s (2)) * (s (2))) (by first | exact (rem_b (by with_reducible omega) (by with_reducible omega)).1 | exact (rem_b (by with_reducible omega) (by with_reducible omega)).2) (by first | exact (rem_b (by with_reducible omega) (by with_reducible omega)).1 | exact (rem_b (by with_reducible omega) (by with_reducible omega)).2)
                refine r_icmp_ne O 683 dL_acts_621 (by decide) (fun c_621 => ?_) (fun c_621 => ?_)
                · have e_621 : (v11_20).toInt = (5 : Int) := j_eqR c_621 rfl
                  refine r_aload_n O 1 dL_acts_624 rfl rfl ?_
                  refine r_bipush (x := 10) O dL_acts_625 rfl ?_
                  refine r_ialn (b := 0) (loc := 10) O R_124 (g_vin (by decide) (by decide)) rfl dL_acts_627 ?_
                  refine r_istore (lc' := [(12, .int (s (10))), (0, .ref (g_ad X 122)), (1, .ref (g_ad X 124)), (2, .ref (g_ad X 125)), (3, .ref (g_ad X 126)), (4, .ref (g_ad X 127)), (5, .ref (g_ad X 128)), (6, .ref (g_ad X 129)), (7, .ref (g_ad X 130)), (8, .ref (g_ad X 131)), (10, .int v10_11), (11, .int v11_20)]) O dL_acts_628 (hN 12 rfl) rfl ?_
                  refine r_aload_n O 2 dL_acts_630 rfl rfl ?_
                  refine r_bipush (x := 9) O dL_acts_631 rfl ?_
                  refine r_aload_n O 2 dL_acts_633 rfl rfl ?_
                  refine r_iconst (x := 3) O dL_acts_634 rfl ?_
                  refine r_ialn (b := 0) (loc := 3) O R_124 (g_vin (by decide) (by decide)) rfl dL_acts_635 ?_
                  refine r_iload O 10 dL_acts_636 rfl ?_
                  refine r_bipush (x := 9) O dL_acts_638 rfl ?_
                  refine r_irem O dL_acts_640 (by decide) ?_
                  refine r_iadd O dL_acts_641 ?_
                  refine r_iasn (b := 0) (loc := 9) O T_124 (g_vin (by decide) (by decide)) rfl dL_acts_642 ?_
                  refine r_aload_n O 2 dL_acts_643 rfl rfl ?_
                  refine r_bipush (x := 10) O dL_acts_644 rfl ?_
                  refine r_aload_n O 2 dL_acts_646 rfl rfl ?_
                  refine r_bipush (x := 9) O dL_acts_647 rfl ?_
                  refine r_ialv (b := 0) (loc := 9) (v := ((s (3)) + (v10_11 - v10_11 / 9 * 9))) O R_124 (g_vin (by decide) (by decide)) rfl (by rw [g_upd_eq]) dL_acts_649 ?_
                  refine r_iload O 10 dL_acts_650 rfl ?_
                  refine r_bipush (x := 9) O dL_acts_652 rfl ?_
                  refine r_idiv O dL_acts_654 (by decide) ?_
                  refine r_bipush (x := 12) O dL_acts_655 rfl ?_
                  refine r_irem O dL_acts_657 (by decide) ?_
                  refine r_iadd O dL_acts_658 ?_
                  refine r_iasn (b := 0) (loc := 10) O T_124 (g_vin (by decide) (by decide)) rfl dL_acts_659 ?_
                  refine r_aload_n O 1 dL_acts_660 rfl rfl ?_
                  refine r_aload_n O 2 dL_acts_661 rfl rfl ?_
                  refine r_bipush (x := 9) O dL_acts_662 rfl ?_
                  refine r_ialv (b := 0) (loc := 9) (v := ((s (3)) + (v10_11 - v10_11 / 9 * 9))) O R_124 (g_vin (by decide) (by decide)) rfl (by rw [g_upd_ne (by with_reducible omega), g_upd_eq]) dL_acts_664 ?_
                  refine r_aload_n O 2 dL_acts_665 rfl rfl ?_
                  refine r_bipush (x := 10) O dL_acts_666 rfl ?_
                  refine r_ialv (b := 0) (loc := 10) (v := (((s (3)) + (v10_11 - v10_11 / 9 * 9)) + ((v10_11 / 9) - (v10_11 / 9) / 12 * 12))) O R_124 (g_vin (by decide) (by decide)) rfl (by rw [g_upd_eq]) dL_acts_668 ?_
                  refine r_cW O Y [.ref (g_ad X 122), .int ((s (3)) + (v10_11 - v10_11 / 9 * 9)), .int (((s (3)) + (v10_11 - v10_11 / 9 * 9)) + ((v10_11 / 9) - (v10_11 / 9) / 12 * 12))] [] (met_L_silences (g_xl X) hs m (upd (upd s (9) ((s (3)) + (v10_11 - v10_11 / 9 * 9))) (10) (((s (3)) + (v10_11 - v10_11 / 9 * 9)) + ((v10_11 / 9) - (v10_11 / 9) / 12 * 12))) lm pm ((s (3)) + (v10_11 - v10_11 / 9 * 9)) (((s (3)) + (v10_11 - v10_11 / 9 * 9)) + ((v10_11 / 9) - (v10_11 / 9) / 12 * 12)) hI0) LW_58 rfl rfl rfl dL_acts_669 rfl rfl ?_
                  refine r_iload O 0 dL_acts_672 rfl ?_
                  refine r_icmp_ne O 681 dL_acts_674 (by decide) (fun c_674 => ?_) (fun c_674 => ?_)
                  · have e_674 : (g_wv (R_X7_setSilence m pm ((s (3)) + (v10_11 - v10_11 / 9 * 9)) (((s (3)) + (v10_11 - v10_11 / 9 * 9)) + ((v10_11 / 9) - (v10_11 / 9) / 12 * 12)))).toInt = (s (10)).toInt := j_eq c_674
                    refine r_iconst (x := 1) O dL_acts_677 rfl ?_
                    refine r_goto O 682 dL_acts_678 (by decide) ?_
                    exact r_iret O dL_acts_682 rfl (Nat.le_of_ble_eq_true rfl) (Nat.le_of_ble_eq_true rfl) rfl
                  · have e_674 : (g_wv (R_X7_setSilence m pm ((s (3)) + (v10_11 - v10_11 / 9 * 9)) (((s (3)) + (v10_11 - v10_11 / 9 * 9)) + ((v10_11 / 9) - (v10_11 / 9) / 12 * 12)))).toInt ≠ (s (10)).toInt := j_ne c_674
                    refine r_iconst (x := 0) O dL_acts_681 rfl ?_
                    exact r_iret O dL_acts_682 rfl (Nat.le_of_ble_eq_true rfl) (Nat.le_of_ble_eq_true rfl) rfl
                · have e_621 : (v11_20).toInt ≠ (5 : Int) := j_neR c_621 rfl
                  exact J_683
              refine r_if_ne O 618 dL_acts_470 (by decide) (fun c_470 => ?_) (fun c_470 => ?_)
              · have e_470 : (s (2)).toInt = (0 : Int) := j_eqR c_470 rfl
                refine r_sub [0, 1, 6, 9] rfl ?_
                exact J_473
              · have e_470 : (s (2)).toInt ≠ (0 : Int) := j_neR c_470 rfl
                exact J_618  (by first | decide | with_reducible assumption | with_reducible omega | (simp (disch := omega) only [g_upd_ne, g_upd_eq]; first | with_reducible assumption | with_reducible omega | decide) | exact Or.inl rfl | exact Or.inr rfl)
          refine r_icmp_ne O 461 dL_acts_349 (by decide) (fun c_349 => ?_) (fun c_349 => ?_)
          · have e_349 : (v11_20).toInt = (3 : Int) := j_eqR c_349 rfl
            refine r_aload_n O 1 dL_acts_352 rfl rfl ?_
            refine r_iconst (x := 1) O dL_acts_353 rfl ?_
            refine r_ialn (b := 0) (loc := 1) O R_124 (g_vin (by decide) (by decide)) rfl dL_acts_354 ?_
            refine r_bipush (x := 8) O dL_acts_355 rfl ?_
            refine r_icmp_ne O 388 dL_acts_357 (by decide) (fun c_357 => ?_) (fun c_357 => ?_)
            · have e_357 : (s (1)).toInt = (8 : Int) := j_eqR c_357 rfl
              refine r_aload_n O 0 dL_acts_360 rfl rfl ?_
              refine r_bipush (x := 10) O dL_acts_361 rfl ?_
              refine r_cW O Y [.ref (g_ad X 122), .int 10] [] (met_L_ropes (g_xl X) hs m s lm pm ((10) : Int32) hI0) LW_52 rfl rfl rfl dL_acts_363 rfl rfl ?_
              refine r_ldc O dL_acts_366 w_con_L_50 ?_
              refine r_icmp_ne O 386 dL_acts_368 (by decide) (fun c_368 => ?_) (fun c_368 => ?_)
              · have e_368 : (g_wv (R_X7_addRope m pm ((10) : Int32))).toInt = (-2000003 : Int) := j_eqR c_368 rfl
                refine r_aload_n O 0 dL_acts_371 rfl rfl ?_
                refine r_bipush (x := 9) O dL_acts_372 rfl ?_
                refine r_cW O Y [.ref (g_ad X 122), .int 9] [] (met_L_ropes (g_xl X) hs ((R_X7_addRope m pm ((10) : Int32)).2.1) s lm ((R_X7_addRope m pm ((10) : Int32)).2.2) ((9) : Int32) (Ref_addRope p0 ((10) : Int32)).1.I) LW_52 rfl rfl rfl dL_acts_374 rfl rfl ?_
                refine r_ldc O dL_acts_377 w_con_L_51 ?_
                refine r_icmp_ne O 386 dL_acts_379 (by decide) (fun c_379 => ?_) (fun c_379 => ?_)
                · have e_379 : (g_wv (R_X7_addRope ((R_X7_addRope m pm ((10) : Int32)).2.1) ((R_X7_addRope m pm ((10) : Int32)).2.2) ((9) : Int32))).toInt = (-2000002 : Int) := j_eqR c_379 rfl
                  refine r_iconst (x := 1) O dL_acts_382 rfl ?_
                  refine r_goto O 387 dL_acts_383 (by decide) ?_
                  exact r_iret O dL_acts_387 rfl (Nat.le_of_ble_eq_true rfl) (Nat.le_of_ble_eq_true rfl) rfl
                · have e_379 : (g_wv (R_X7_addRope ((R_X7_addRope m pm ((10) : Int32)).2.1) ((R_X7_addRope m pm ((10) : Int32)).2.2) ((9) : Int32))).toInt ≠ (-2000002 : Int) := j_neR c_379 rfl
                  refine r_iconst (x := 0) O dL_acts_386 rfl ?_
                  exact r_iret O dL_acts_387 rfl (Nat.le_of_ble_eq_true rfl) (Nat.le_of_ble_eq_true rfl) rfl
              · have e_368 : (g_wv (R_X7_addRope m pm ((10) : Int32))).toInt ≠ (-2000003 : Int) := j_neR c_368 rfl
                refine r_iconst (x := 0) O dL_acts_386 rfl ?_
                exact r_iret O dL_acts_387 rfl (Nat.le_of_ble_eq_true rfl) (Nat.le_of_ble_eq_true rfl) rfl
            · have e_357 : (s (1)).toInt ≠ (8 : Int) := j_neR c_357 rfl
              refine r_aload O 5 dL_acts_388 rfl ?_
              refine r_iconst (x := 3) O dL_acts_390 rfl ?_
              refine r_aload_n O 1 dL_acts_391 rfl rfl ?_
              refine r_iconst (x := 1) O dL_acts_392 rfl ?_
              refine r_ialn (b := 0) (loc := 1) O R_124 (g_vin (by decide) (by decide)) rfl dL_acts_393 ?_
              refine r_imul O dL_acts_394 ?_
              refine r_bipush (x := 10) O dL_acts_395 rfl ?_
              refine r_iload O 9 dL_acts_397 rfl ?_
              refine r_bipush (x := 71) O dL_acts_399 rfl ?_
              refine r_irem O dL_acts_401 (by decide) ?_
              refine r_iadd O dL_acts_402 ?_
              have ix_403 : (3 * (s (1))).toInt = ((3 : Int) * (s (1)).toInt) := (j_mulE rfl rfl (by with_reducible omega) (by with_reducible omega))
              have ja_403_0 := j_nat (x := (s (1))) (by with_reducible omega)
              have iy_403 := j_nat (x := (3 * (s (1)))) (by with_reducible omega)
              refine r_iasn (b := 34) (loc := 34 + 3 * ((s (1)).toNatClampNeg)) O T_128 (show vp_in (3 * (s (1))) 24 from g_vin (by with_reducible omega) (by with_reducible omega)) (by with_reducible omega) dL_acts_403 ?_
              refine r_aload O 5 dL_acts_404 rfl ?_
              refine r_iconst (x := 3) O dL_acts_406 rfl ?_
              refine r_aload_n O 1 dL_acts_407 rfl rfl ?_
              refine r_iconst (x := 1) O dL_acts_408 rfl ?_
              refine r_ialv (b := 0) (loc := 1) (v := (s (1))) O R_124 (g_vin (by decide) (by decide)) rfl (by rw [g_upd_ne (by with_reducible omega)]) dL_acts_409 ?_
              refine r_imul O dL_acts_410 ?_
              refine r_iconst (x := 1) O dL_acts_411 rfl ?_
              refine r_iadd O dL_acts_412 ?_
              refine r_iconst (x := 0) O dL_acts_413 rfl ?_
              have ix_414 : ((3 * (s (1))) + 1).toInt = (((3 : Int) * (s (1)).toInt) + (1 : Int)) := (j_addE (j_mulE rfl rfl (by with_reducible omega) (by with_reducible omega)) rfl (by with_reducible omega) (by with_reducible omega))
              have ja_414_0 := j_nat (x := (s (1))) (by with_reducible omega)
              have iy_414 := j_nat (x := ((3 * (s (1))) + 1)) (by with_reducible omega)
              refine r_iasn (b := 34) (loc := 35 + 3 * ((s (1)).toNatClampNeg)) O T_128 (show vp_in ((3 * (s (1))) + 1) 24 from g_vin (by with_reducible omega) (by with_reducible omega)) (by with_reducible omega) dL_acts_414 ?_
              refine r_aload O 5 dL_acts_415 rfl ?_
              refine r_iconst (x := 3) O dL_acts_417 rfl ?_
              refine r_aload_n O 1 dL_acts_418 rfl rfl ?_
              refine r_iconst (x := 1) O dL_acts_419 rfl ?_
              refine r_ialv (b := 0) (loc := 1) (v := (s (1))) O R_124 (g_vin (by decide) (by decide)) rfl (by rw [g_upd_ne (by with_reducible omega), g_upd_ne (by with_reducible omega)]) dL_acts_420 ?_
              refine r_imul O dL_acts_421 ?_
              refine r_iconst (x := 2) O dL_acts_422 rfl ?_
              refine r_iadd O dL_acts_423 ?_
              refine r_iconst (x := 0) O dL_acts_424 rfl ?_
              have ix_425 : ((3 * (s (1))) + 2).toInt = (((3 : Int) * (s (1)).toInt) + (2 : Int)) := (j_addE (j_mulE rfl rfl (by with_reducible omega) (by with_reducible omega)) rfl (by with_reducible omega) (by with_reducible omega))
              have ja_425_0 := j_nat (x := (s (1))) (by with_reducible omega)
              have iy_425 := j_nat (x := ((3 * (s (1))) + 2)) (by with_reducible omega)
              refine r_iasn (b := 34) (loc := 36 + 3 * ((s (1)).toNatClampNeg)) O T_128 (show vp_in ((3 * (s (1))) + 2) 24 from g_vin (by with_reducible omega) (by with_reducible omega)) (by with_reducible omega) dL_acts_425 ?_
              refine r_aload_n O 1 dL_acts_426 rfl rfl ?_
              refine r_iconst (x := 1) O dL_acts_427 rfl ?_
              refine r_dup2 O dL_acts_428 rfl rfl ?_
              refine r_ialv (b := 0) (loc := 1) (v := (s (1))) O R_124 (g_vin (by decide) (by decide)) rfl (by rw [g_upd_ne (by with_reducible omega), g_upd_ne (by with_reducible omega), g_upd_ne (by with_reducible omega)]) dL_acts_429 ?_
              refine r_iconst (x := 1) O dL_acts_430 rfl ?_
              refine r_iadd O dL_acts_431 ?_
              refine r_iasn (b := 0) (loc := 1) O T_124 (g_vin (by decide) (by decide)) rfl dL_acts_432 ?_
              refine r_aload_n O 0 dL_acts_433 rfl rfl ?_
              refine r_aload O 5 dL_acts_434 rfl ?_
              refine r_iconst (x := 3) O dL_acts_436 rfl ?_
              refine r_aload_n O 1 dL_acts_437 rfl rfl ?_
              refine r_iconst (x := 1) O dL_acts_438 rfl ?_
              refine r_ialv (b := 0) (loc := 1) (v := ((s (1)) + 1)) O R_124 (g_vin (by decide) (by decide)) rfl (by rw [g_upd_eq]) dL_acts_439 ?_
              refine r_imul O dL_acts_440 ?_
              refine r_iconst (x := 3) O dL_acts_441 rfl ?_
              refine r_isub O dL_acts_442 ?_
              have ix_443 : ((3 * ((s (1)) + 1)) - 3).toInt = (((3 : Int) * ((s (1)).toInt + (1 : Int))) - (3 : Int)) := (j_subE (j_mulE rfl (j_addE rfl rfl (by with_reducible omega) (by with_reducible omega)) (by with_reducible omega) (by with_reducible omega)) rfl (by with_reducible omega) (by with_reducible omega))
              have ja_443_0 := j_nat (x := (s (1))) (by with_reducible omega)
              have iy_443 := j_nat (x := ((3 * ((s (1)) + 1)) - 3)) (by with_reducible omega)
              refine r_ialv (b := 34) (loc := 34 + 3 * ((s (1)).toNatClampNeg)) (v := (10 + (v10_11 - v10_11 / 71 * 71))) O R_128 (show vp_in ((3 * ((s (1)) + 1)) - 3) 24 from g_vin (by with_reducible omega) (by with_reducible omega)) (by with_reducible omega) (by rw [g_upd_ne (by with_reducible omega), g_upd_ne (by with_reducible omega), g_upd_ne (by with_reducible omega), g_upd_eq]) dL_acts_443 ?_
              refine r_cW O Y [.ref (g_ad X 122), .int (10 + (v10_11 - v10_11 / 71 * 71))] [] (met_L_ropes (g_xl X) hs m (upd (upd (upd (upd s (34 + 3 * ((s (1)).toNatClampNeg)) (10 + (v10_11 - v10_11 / 71 * 71))) (35 + 3 * ((s (1)).toNatClampNeg)) 0) (36 + 3 * ((s (1)).toNatClampNeg)) 0) (1) ((s (1)) + 1)) lm pm (10 + (v10_11 - v10_11 / 71 * 71)) hI0) LW_52 rfl rfl rfl dL_acts_444 rfl rfl ?_
              refine r_aload_n O 1 dL_acts_447 rfl rfl ?_
              refine r_iconst (x := 1) O dL_acts_448 rfl ?_
              refine r_ialv (b := 0) (loc := 1) (v := ((s (1)) + 1)) O R_124 (g_vin (by decide) (by decide)) rfl (by rw [g_upd_eq]) dL_acts_449 ?_
              refine r_iconst (x := 1) O dL_acts_450 rfl ?_
              refine r_isub O dL_acts_451 ?_
              refine r_icmp_ne O 459 dL_acts_452 (by decide) (fun c_452 => ?_) (fun c_452 => ?_)
              · have e_452 : (g_wv (R_X7_addRope m pm (10 + (v10_11 - v10_11 / 71 * 71)))).toInt = (((s (1)) + 1) - 1).toInt := j_eq c_452
                refine r_iconst (x := 1) O dL_acts_455 rfl ?_
                refine r_goto O 460 dL_acts_456 (by decide) ?_
                exact r_iret O dL_acts_460 rfl (Nat.le_of_ble_eq_true rfl) (Nat.le_of_ble_eq_true rfl) rfl
              · have e_452 : (g_wv (R_X7_addRope m pm (10 + (v10_11 - v10_11 / 71 * 71)))).toInt ≠ (((s (1)) + 1) - 1).toInt := j_ne c_452
                refine r_iconst (x := 0) O dL_acts_459 rfl ?_
                exact r_iret O dL_acts_460 rfl (Nat.le_of_ble_eq_true rfl) (Nat.le_of_ble_eq_true rfl) rfl
          · have e_349 : (v11_20).toInt ≠ (3 : Int) := j_neR c_349 rfl
            exact J_461
        refine r_icmp_ge O 346 dL_acts_189 (by decide) (fun c_189 => ?_) (fun c_189 => ?_)
        · have e_189 : (3 : Int) ≤ (v11_20).toInt := j_leL c_189 rfl
          exact J_346
        · have e_189 : (v11_20).toInt < (3 : Int) := j_nleL c_189 rfl
          refine r_iload O 9 dL_acts_192 rfl ?_
          refine r_aload_n O 1 dL_acts_194 rfl rfl ?_
          refine r_iconst (x := 0) O dL_acts_195 rfl ?_
          refine r_ialn (b := 0) (loc := 0) O R_124 (g_vin (by decide) (by decide)) rfl dL_acts_196 ?_
          refine r_irem O dL_acts_197 (nz0 (by with_reducible omega)) ?_
          have J_200 : ∀ (v12_200 : Int32) (hj0 : 0 ≤ v12_200.toInt) (hj1 : v12_200.toInt < (s (0)).toInt), g_V X (fun r : Int32 × (Nat → Int32) × (Nat → Int32) × (Nat → Nat) => ((.inl (some (.int r.1)), (r.2.1, r.2.2.1, lm, r.2.2.2)) : g_Res)) (R_L_acts_200 m s pm v10_11 v12_200) 0 0 m (s, lm, pm) 200 [(0, .ref (g_ad X 122)), (1, .ref (g_ad X 124)), (2, .ref (g_ad X 125)), (3, .ref (g_ad X 126)), (4, .ref (g_ad X 127)), (6, .ref (g_ad X 129)), (10, .int v10_11), (12, .int v12_200)] [] := by
            intro v12_200 hj0 hj1
            refine r_aload O 4 dL_acts_200 rfl ?_
            refine r_iload O 7 dL_acts_202 rfl ?_
            have ja_204_0 := j_nat (x := v12_200) (by with_reducible omega)
            refine r_ialn (b := 27) (loc := 27 + v12_200.toNatClampNeg) O R_127 (show vp_in v12_200 7 from g_vin (by with_reducible omega) (by with_reducible omega)) (by with_reducible omega) dL_acts_204 ?_
            have J_230 : g_V X (fun r : Int32 × (Nat → Int32) × (Nat → Int32) × (Nat → Nat) => ((.inl (some (.int r.1)), (r.2.1, r.2.2.1, lm, r.2.2.2)) : g_Res)) (R_L_acts_230 m s pm v12_200 ) 0 0 m (s, lm, pm) 230 [(0, .ref (g_ad X 122)), (12, .int v12_200)] [] := by
              refine r_aload_n O 0 dL_acts_230 rfl rfl ?_
              refine r_iload O 1 dL_acts_231 rfl ?_
              refine r_iconst (x := 0) O dL_acts_233 rfl ?_
              refine r_iconst (x := 1) O dL_acts_234 rfl ?_
              refine r_cW O Y [.ref (g_ad X 122), .int v12_200, .int 0, .int 1] [] (met_L_passages (g_xl X) hs m s lm pm v12_200 ((0) : Int32) ((1) : Int32) hI0) LW_46 rfl rfl rfl dL_acts_235 rfl rfl ?_
              refine r_ldc O dL_acts_238 w_con_L_50 ?_
              refine r_icmp_ne O 261 dL_acts_240 (by decide) (fun c_240 => ?_) (fun c_240 => ?_)
              · have e_240 : (g_wv (R_X7_setPassage m pm v12_200 ((0) : Int32) ((1) : Int32))).toInt = (-2000003 : Int) := j_eqR c_240 rfl
                refine r_aload_n O 0 dL_acts_243 rfl rfl ?_
                refine r_iload O 1 dL_acts_244 rfl ?_
                refine r_bipush (x := 61) O dL_acts_246 rfl ?_
                refine r_iconst (x := 1) O dL_acts_248 rfl ?_
                refine r_cW O Y [.ref (g_ad X 122), .int v12_200, .int 61, .int 1] [] (met_L_passages (g_xl X) hs ((R_X7_setPassage m pm v12_200 ((0) : Int32) ((1) : Int32)).2.1) s lm ((R_X7_setPassage m pm v12_200 ((0) : Int32) ((1) : Int32)).2.2) v12_200 ((61) : Int32) ((1) : Int32) (Ref_setPassage p0 v12_200 ((0) : Int32) ((1) : Int32)).1.I) LW_46 rfl rfl rfl dL_acts_249 rfl rfl ?_
                refine r_ldc O dL_acts_252 w_con_L_51 ?_
                refine r_icmp_ne O 261 dL_acts_254 (by decide) (fun c_254 => ?_) (fun c_254 => ?_)
                · have e_254 : (g_wv (R_X7_setPassage ((R_X7_setPassage m pm v12_200 ((0) : Int32) ((1) : Int32)).2.1) ((R_X7_setPassage m pm v12_200 ((0) : Int32) ((1) : Int32)).2.2) v12_200 ((61) : Int32) ((1) : Int32))).toInt = (-2000002 : Int) := j_eqR c_254 rfl
                  refine r_iconst (x := 1) O dL_acts_257 rfl ?_
                  refine r_goto O 262 dL_acts_258 (by decide) ?_
                  exact r_iret O dL_acts_262 rfl (Nat.le_of_ble_eq_true rfl) (Nat.le_of_ble_eq_true rfl) rfl
                · have e_254 : (g_wv (R_X7_setPassage ((R_X7_setPassage m pm v12_200 ((0) : Int32) ((1) : Int32)).2.1) ((R_X7_setPassage m pm v12_200 ((0) : Int32) ((1) : Int32)).2.2) v12_200 ((61) : Int32) ((1) : Int32))).toInt ≠ (-2000002 : Int) := j_neR c_254 rfl
                  refine r_iconst (x := 0) O dL_acts_261 rfl ?_
                  exact r_iret O dL_acts_262 rfl (Nat.le_of_ble_eq_true rfl) (Nat.le_of_ble_eq_true rfl) rfl
              · have e_240 : (g_wv (R_X7_setPassage m pm v12_200 ((0) : Int32) ((1) : Int32))).toInt ≠ (-2000003 : Int) := j_neR c_240 rfl
                refine r_iconst (x := 0) O dL_acts_261 rfl ?_
                exact r_iret O dL_acts_262 rfl (Nat.le_of_ble_eq_true rfl) (Nat.le_of_ble_eq_true rfl) rfl
            refine r_if_ge O 230 dL_acts_205 (by decide) (fun c_205 => ?_) (fun c_205 => ?_)
            · have e_205 : (0 : Int) ≤ (s (27 + v12_200.toNatClampNeg)).toInt := j_leL c_205 rfl
              refine r_sub [0, 7] rfl ?_
              exact J_230
            · have e_205 : (s (27 + v12_200.toNatClampNeg)).toInt < (0 : Int) := j_nleL c_205 rfl
              refine r_aload_n O 1 dL_acts_208 rfl rfl ?_
              refine r_aload O 5 dL_acts_209 rfl ?_
              refine r_iload O 7 dL_acts_211 rfl ?_
              refine r_callSi O [.ref (g_ad X 124), .ref (g_ad X 129), .int v12_200] [] (met_L_rigger (g_xl X) hs lm pm m s v12_200 (by first | decide | with_reducible assumption | with_reducible omega | (simp (disch := omega) only [g_upd_ne, g_upd_eq]; first | with_reducible assumption | with_reducible omega | decide) | exact Or.inl rfl | exact Or.inr rfl)) LL_39 rfl rfl rfl dL_acts_213 rfl rfl ?_
              refine r_if_ge O 230 dL_acts_216 (by decide) (fun c_216 => ?_) (fun c_216 => ?_)
              · have e_216 : (0 : Int) ≤ (R_L_rigger s v12_200).toInt := j_leL c_216 rfl
                refine r_sub [0, 7] rfl ?_
                exact J_230
              · have e_216 : (R_L_rigger s v12_200).toInt < (0 : Int) := j_nleL c_216 rfl
                refine r_aload_n O 1 dL_acts_219 rfl rfl ?_
                refine r_aload O 5 dL_acts_220 rfl ?_
                refine r_iload O 7 dL_acts_222 rfl ?_
                refine r_callSi O [.ref (g_ad X 124), .ref (g_ad X 129), .int v12_200] [] (met_L_many (g_xl X) hs lm pm m s v12_200 (by first | decide | with_reducible assumption | with_reducible omega | (simp (disch := omega) only [g_upd_ne, g_upd_eq]; first | with_reducible assumption | with_reducible omega | decide) | exact Or.inl rfl | exact Or.inr rfl)) LL_43 rfl rfl rfl dL_acts_224 rfl rfl ?_
                refine r_if_le O 263 dL_acts_227 (by decide) (fun c_227 => ?_) (fun c_227 => ?_)
                · have e_227 : (R_L_many s v12_200).toInt ≤ (0 : Int) := j_leR c_227 rfl
                  refine r_aload_n O 2 dL_acts_263 rfl rfl ?_
                  refine r_iload O 7 dL_acts_264 rfl ?_
                  have ja_266_0 := j_nat (x := v12_200) (by with_reducible omega)
                  refine r_ialn (b := 13) (loc := 13 + v12_200.toNatClampNeg) O R_125 (show vp_in v12_200 7 from g_vin (by with_reducible omega) (by with_reducible omega)) (by with_reducible omega) dL_acts_266 ?_
                  refine r_istore (lc' := [(13, .int (s (13 + v12_200.toNatClampNeg))), (0, .ref (g_ad X 122)), (1, .ref (g_ad X 124)), (2, .ref (g_ad X 125)), (3, .ref (g_ad X 126)), (4, .ref (g_ad X 127)), (6, .ref (g_ad X 129)), (10, .int v10_11), (12, .int v12_200)]) O dL_acts_267 (hN 13 rfl) rfl ?_
                  refine r_aload_n O 3 dL_acts_269 rfl rfl ?_
                  refine r_iload O 8 dL_acts_270 rfl ?_
                  refine r_iload O 7 dL_acts_272 rfl ?_
                  refine r_bipush (x := 7) O dL_acts_274 rfl ?_
                  refine r_idiv O dL_acts_276 (by decide) ?_
                  refine r_iconst (x := 3) O dL_acts_277 rfl ?_
                  refine r_irem O dL_acts_278 (by decide) ?_
                  have J_294 : ∀ (t0_294 : Int32), g_V X (fun r : Int32 × (Nat → Int32) × (Nat → Int32) × (Nat → Nat) => ((.inl (some (.int r.1)), (r.2.1, r.2.2.1, lm, r.2.2.2)) : g_Res)) (R_L_acts_294 m s pm v10_11 v12_200 t0_294) 0 0 m (s, lm, pm) 294 [(0, .ref (g_ad X 122)), (2, .ref (g_ad X 125)), (3, .ref (g_ad X 126)), (10, .int v10_11), (12, .int v12_200), (13, .int (s (13 + v12_200.toNatClampNeg)))] [.int t0_294, .int v12_200, .ref (g_ad X 125)] := by
                    intro t0_294
                    have ja_294_0 := j_nat (x := v12_200) (by with_reducible omega)
                    refine r_iasn (b := 13) (loc := 13 + v12_200.toNatClampNeg) O T_125 (show vp_in v12_200 7 from g_vin (by with_reducible omega) (by with_reducible omega)) (by with_reducible omega) dL_acts_294 ?_
                    refine r_aload_n O 2 dL_acts_295 rfl rfl ?_
                    refine r_iload O 4 dL_acts_296 rfl ?_
                    refine r_iconst (x := 1) O dL_acts_298 rfl ?_
                    refine r_iload O 3 dL_acts_299 rfl ?_
                    refine r_bipush (x := 7) O dL_acts_301 rfl ?_
                    refine r_idiv O dL_acts_303 (by decide) ?_
                    refine r_iload O 3 dL_acts_304 rfl ?_
                    refine r_iconst (x := 5) O dL_acts_306 rfl ?_
                    refine r_irem O dL_acts_307 (by decide) ?_
                    have J_318 : ∀ (t0_318 : Int32) (hj0 : 1 ≤ t0_318.toInt), g_V X (fun r : Int32 × (Nat → Int32) × (Nat → Int32) × (Nat → Nat) => ((.inl (some (.int r.1)), (r.2.1, r.2.2.1, lm, r.2.2.2)) : g_Res)) (R_L_acts_318 m s pm v10_11 v12_200 t0_294 t0_318) 0 0 m ((upd s (13 + v12_200.toNatClampNeg) t0_294), lm, pm) 318 [(0, .ref (g_ad X 122)), (2, .ref (g_ad X 125)), (3, .ref (g_ad X 126)), (12, .int v12_200), (13, .int (s (13 + v12_200.toNatClampNeg)))] [.int t0_318, .int (v10_11 / 7), .int 1, .int v12_200, .ref (g_ad X 126)] := by
                      intro t0_318 hj0
                      refine r_irem O dL_acts_318 (nz0 (by with_reducible omega)) ?_
                      refine r_iadd O dL_acts_319 ?_
                      have ja_320_0 := j_nat (x := v12_200) (by with_reducible omega)
                      refine r_iasn (b := 20) (loc := 20 + v12_200.toNatClampNeg) O T_126 (show vp_in v12_200 7 from g_vin (by with_reducible omega) (by with_reducible omega)) (by with_reducible omega) dL_acts_320 ?_
                      refine r_aload_n O 0 dL_acts_321 rfl rfl ?_
                      refine r_iload O 3 dL_acts_322 rfl ?_
                      refine r_aload_n O 1 dL_acts_324 rfl rfl ?_
                      refine r_iload O 3 dL_acts_325 rfl ?_
                      have ja_327_0 := j_nat (x := v12_200) (by with_reducible omega)
                      refine r_ialv (b := 13) (loc := 13 + v12_200.toNatClampNeg) (v := t0_294) O R_125 (show vp_in v12_200 7 from g_vin (by with_reducible omega) (by with_reducible omega)) (by with_reducible omega) (by rw [g_upd_ne (by with_reducible omega), g_upd_eq]) dL_acts_327 ?_
                      refine r_aload_n O 2 dL_acts_328 rfl rfl ?_
                      refine r_iload O 3 dL_acts_329 rfl ?_
                      have ja_331_0 := j_nat (x := v12_200) (by with_reducible omega)
                      refine r_ialv (b := 20) (loc := 20 + v12_200.toNatClampNeg) (v := (1 + ((v10_11 / 7) - (v10_11 / 7) / t0_318 * t0_318))) O R_126 (show vp_in v12_200 7 from g_vin (by with_reducible omega) (by with_reducible omega)) (by with_reducible omega) (by rw [g_upd_eq]) dL_acts_331 ?_
                      refine r_cW O Y [.ref (g_ad X 122), .int v12_200, .int t0_294, .int (1 + ((v10_11 / 7) - (v10_11 / 7) / t0_318 * t0_318))] [] (met_L_passages (g_xl X) hs m (upd (upd s (13 + v12_200.toNatClampNeg) t0_294) (20 + v12_200.toNatClampNeg) (1 + ((v10_11 / 7) - (v10_11 / 7) / t0_318 * t0_318))) lm pm v12_200 t0_294 (1 + ((v10_11 / 7) - (v10_11 / 7) / t0_318 * t0_318)) hI0) LW_46 rfl rfl rfl dL_acts_332 rfl rfl ?_
                      refine r_iload O 4 dL_acts_335 rfl ?_
                      refine r_icmp_ne O 344 dL_acts_337 (by decide) (fun c_337 => ?_) (fun c_337 => ?_)
                      · have e_337 : (g_wv (R_X7_setPassage m pm v12_200 t0_294 (1 + ((v10_11 / 7) - (v10_11 / 7) / t0_318 * t0_318)))).toInt = (s (13 + v12_200.toNatClampNeg)).toInt := j_eq c_337
                        refine r_iconst (x := 1) O dL_acts_340 rfl ?_
                        refine r_goto O 345 dL_acts_341 (by decide) ?_
                        exact r_iret O dL_acts_345 rfl (Nat.le_of_ble_eq_true rfl) (Nat.le_of_ble_eq_true rfl) rfl
                      · have e_337 : (g_wv (R_X7_setPassage m pm v12_200 t0_294 (1 + ((v10_11 / 7) - (v10_11 / 7) / t0_318 * t0_318)))).toInt ≠ (s (13 + v12_200.toNatClampNeg)).toInt := j_ne c_337
                        refine r_iconst (x := 0) O dL_acts_344 rfl ?_
                        exact r_iret O dL_acts_345 rfl (Nat.le_of_ble_eq_true rfl) (Nat.le_of_ble_eq_true rfl) rfl
                    refine r_if_ne O 316 dL_acts_308 (by decide) (fun c_308 => ?_) (fun c_308 => ?_)
                    · have e_308 : (v10_11 - v10_11 / 5 * 5).toInt = (0 : Int) := j_eqR c_308 rfl
                      refine r_bipush (x := 30) O dL_acts_311 rfl ?_
                      refine r_goto O 318 dL_acts_313 (by decide) ?_
                      refine r_sub [0, 1, 2, 4, 5] rfl ?_
                      have hlit_t0_318 : (30 : Int32).toInt = 30 := rfl
                      exact J_318 30 (by first | decide | with_reducible assumption | with_reducible omega | (simp (disch := omega) only [g_upd_ne, g_upd_eq]; first | with_reducible assumption | with_reducible omega | decide) | exact Or.inl rfl | exact Or.inr rfl)
                    · have e_308 : (v10_11 - v10_11 / 5 * 5).toInt ≠ (0 : Int) := j_neR c_308 rfl
                      refine r_bipush (x := 6) O dL_acts_316 rfl ?_
                      refine r_sub [0, 1, 2, 4, 5] rfl ?_
                      have hlit_t0_318 : (6 : Int32).toInt = 6 := rfl
                      exact J_318 6 (by first | decide | with_reducible assumption | with_reducible omega | (simp (disch := omega) only [g_upd_ne, g_upd_eq]; first | with_reducible assumption | with_reducible omega | decide) | exact Or.inl rfl | exact Or.inr rfl)
                  refine r_if_ne O 293 dL_acts_279 (by decide) (fun c_279 => ?_) (fun c_279 => ?_)
                  · have e_279 : ((v10_11 / 7) - (v10_11 / 7) / 3 * 3).toInt = (0 : Int) := j_eqR c_279 rfl
                    refine r_iload O 7 dL_acts_282 rfl ?_
                    refine r_bipush (x := 21) O dL_acts_284 rfl ?_
                    refine r_idiv O dL_acts_286 (by decide) ?_
                    refine r_bipush (x := 61) O dL_acts_287 rfl ?_
                    refine r_irem O dL_acts_289 (by decide) ?_
                    refine r_goto O 294 dL_acts_290 (by decide) ?_
                    refine r_sub [1, 3, 4, 7, 8, 0] rfl ?_
                    exact J_294 ((v10_11 / 21) - (v10_11 / 21) / 61 * 61)
                  · have e_279 : ((v10_11 / 7) - (v10_11 / 7) / 3 * 3).toInt ≠ (0 : Int) := j_neR c_279 rfl
                    refine r_iconst (x := 0) O dL_acts_293 rfl ?_
                    refine r_sub [1, 3, 4, 7, 8, 0] rfl ?_
                    exact J_294 0
                · have e_227 : (0 : Int) < (R_L_many s v12_200).toInt := j_nleR c_227 rfl
                  refine r_sub [0, 7] rfl ?_
                  exact J_230
          refine r_istore (lc' := [(12, .int (v10_11 - v10_11 / (s (0)) * (s (0)))), (0, .ref (g_ad X 122)), (1, .ref (g_ad X 124)), (2, .ref (g_ad X 125)), (3, .ref (g_ad X 126)), (4, .ref (g_ad X 127)), (5, .ref (g_ad X 128)), (6, .ref (g_ad X 129)), (7, .ref (g_ad X 130)), (8, .ref (g_ad X 131)), (10, .int v10_11), (11, .int v11_20)]) O dL_acts_198 (hN 12 rfl) rfl ?_
          refine r_sub [1, 2, 3, 4, 5, 7, 10, 0] rfl ?_
          exact J_200 (v10_11 - v10_11 / (s (0)) * (s (0))) (by first | exact (rem_b (by with_reducible omega) (by with_reducible omega)).1 | exact (rem_b (by with_reducible omega) (by with_reducible omega)).2) (by first | exact (rem_b (by with_reducible omega) (by with_reducible omega)).1 | exact (rem_b (by with_reducible omega) (by with_reducible omega)).2)
      refine r_if_ne O 186 dL_acts_22 (by decide) (fun c_22 => ?_) (fun c_22 => ?_)
      · have e_22 : (v11_20).toInt = (0 : Int) := j_eqR c_22 rfl
        refine r_iload O 9 dL_acts_25 rfl ?_
        refine r_iconst (x := 4) O dL_acts_27 rfl ?_
        refine r_irem O dL_acts_28 (by decide) ?_
        refine r_if_ne O 186 dL_acts_29 (by decide) (fun c_29 => ?_) (fun c_29 => ?_)
        · have e_29 : (v10_11 - v10_11 / 4 * 4).toInt = (0 : Int) := j_eqR c_29 rfl
          refine r_aload_n O 1 dL_acts_32 rfl rfl ?_
          refine r_iconst (x := 3) O dL_acts_33 rfl ?_
          refine r_ialn (b := 0) (loc := 3) O R_124 (g_vin (by decide) (by decide)) rfl dL_acts_34 ?_
          refine r_istore (lc' := [(12, .int (s (3))), (0, .ref (g_ad X 122)), (1, .ref (g_ad X 124)), (2, .ref (g_ad X 125)), (3, .ref (g_ad X 126)), (4, .ref (g_ad X 127)), (5, .ref (g_ad X 128)), (6, .ref (g_ad X 129)), (7, .ref (g_ad X 130)), (8, .ref (g_ad X 131)), (10, .int v10_11), (11, .int v11_20)]) O dL_acts_35 (hN 12 rfl) rfl ?_
          refine r_iconst (x := 0) O dL_acts_37 rfl ?_
          refine r_istore (lc' := [(13, .int 0), (12, .int (s (3))), (0, .ref (g_ad X 122)), (1, .ref (g_ad X 124)), (2, .ref (g_ad X 125)), (3, .ref (g_ad X 126)), (4, .ref (g_ad X 127)), (5, .ref (g_ad X 128)), (6, .ref (g_ad X 129)), (7, .ref (g_ad X 130)), (8, .ref (g_ad X 131)), (10, .int v10_11), (11, .int v11_20)]) O dL_acts_38 (hN 13 rfl) rfl ?_
          have L_40 : ∀ (f_40 : Nat) (k : Nat) (s_40 : Nat → Int32) (hi_40 : k ≤ 13 ∧ 13 < f_40 + k), g_V X (fun r : Int32 × (Nat → Int32) × (Nat → Int32) × (Nat → Nat) => ((.inl (some (.int r.1)), (r.2.1, r.2.2.1, lm, r.2.2.2)) : g_Res)) (R_L_acts_40 m s pm v10_11 f_40 k s_40) 0 0 m (s_40, lm, pm) 40 [(0, .ref (g_ad X 122)), (1, .ref (g_ad X 124)), (2, .ref (g_ad X 125)), (3, .ref (g_ad X 126)), (4, .ref (g_ad X 127)), (10, .int v10_11), (12, .int (s (3))), (13, .int (nI k))] [] := by
            intro f_40
            induction f_40 with
            | zero => intro k s_40 hi_40; exact absurd hi_40 (by omega)
            | succ f_40 ih_40 =>
              intro k s_40 hi_40
              have hc_k : (nI k).toInt = (k : Int) := nI_toInt (by omega)
              refine r_iload O 7 dL_acts_40 rfl ?_
              refine r_bipush (x := 13) O dL_acts_42 rfl ?_
              refine r_icmp_ge O 81 dL_acts_44 (by decide) (fun c_44 => ?_) (fun c_44 => ?_)
              · have e_44 : (13 : Int) ≤ (nI k).toInt := j_leL c_44 rfl
                refine r_iconst (x := 0) O dL_acts_81 rfl ?_
                refine r_istore (lc' := [(13, .int 0), (0, .ref (g_ad X 122)), (1, .ref (g_ad X 124)), (2, .ref (g_ad X 125)), (3, .ref (g_ad X 126)), (4, .ref (g_ad X 127)), (10, .int v10_11), (12, .int (s (3)))]) O dL_acts_82 (hN 13 rfl) rfl ?_
                have L_84 : ∀ (f_84 : Nat) (p : Nat) (s_84 : Nat → Int32) (hi_84 : p ≤ 7 ∧ 7 < f_84 + p), g_V X (fun r : Int32 × (Nat → Int32) × (Nat → Int32) × (Nat → Nat) => ((.inl (some (.int r.1)), (r.2.1, r.2.2.1, lm, r.2.2.2)) : g_Res)) (R_L_acts_84 m s pm f_84 p s_84) 0 0 m (s_84, lm, pm) 84 [(0, .ref (g_ad X 122)), (1, .ref (g_ad X 124)), (2, .ref (g_ad X 125)), (3, .ref (g_ad X 126)), (4, .ref (g_ad X 127)), (12, .int (s (3))), (13, .int (nI p))] [] := by
                  intro f_84
                  induction f_84 with
                  | zero => intro p s_84 hi_84; exact absurd hi_84 (by omega)
                  | succ f_84 ih_84 =>
                    intro p s_84 hi_84
                    have hc_p : (nI p).toInt = (p : Int) := nI_toInt (by omega)
                    refine r_iload O 6 dL_acts_84 rfl ?_
                    refine r_bipush (x := 7) O dL_acts_86 rfl ?_
                    refine r_icmp_ge O 168 dL_acts_88 (by decide) (fun c_88 => ?_) (fun c_88 => ?_)
                    · have e_88 : (7 : Int) ≤ (nI p).toInt := j_leL c_88 rfl
                      refine r_aload_n O 0 dL_acts_168 rfl rfl ?_
                      refine r_aload_n O 1 dL_acts_169 rfl rfl ?_
                      refine r_iconst (x := 0) O dL_acts_170 rfl ?_
                      refine r_ialn (b := 0) (loc := 0) O R_124 (g_vin (by decide) (by decide)) rfl dL_acts_171 ?_
                      refine r_cW O Y [.ref (g_ad X 122), .int (s_84 (0))] [] (met_L_begins (g_xl X) hs m s_84 lm pm (s_84 (0)) hI0) LW_35 rfl rfl rfl dL_acts_172 rfl rfl ?_
                      refine r_iload O 5 dL_acts_175 rfl ?_
                      refine r_icmp_ne O 184 dL_acts_177 (by decide) (fun c_177 => ?_) (fun c_177 => ?_)
                      · have e_177 : (g_wv (R_X7_begin m pm (s_84 (0)))).toInt = (s (3)).toInt := j_eq c_177
                        refine r_iconst (x := 1) O dL_acts_180 rfl ?_
                        refine r_goto O 185 dL_acts_181 (by decide) ?_
                        exact r_iret O dL_acts_185 rfl (Nat.le_of_ble_eq_true rfl) (Nat.le_of_ble_eq_true rfl) rfl
                      · have e_177 : (g_wv (R_X7_begin m pm (s_84 (0)))).toInt ≠ (s (3)).toInt := j_ne c_177
                        refine r_iconst (x := 0) O dL_acts_184 rfl ?_
                        exact r_iret O dL_acts_185 rfl (Nat.le_of_ble_eq_true rfl) (Nat.le_of_ble_eq_true rfl) rfl
                    · have e_88 : (nI p).toInt < (7 : Int) := j_nleL c_88 rfl
                      refine r_aload_n O 2 dL_acts_91 rfl rfl ?_
                      refine r_iload O 6 dL_acts_92 rfl ?_
                      refine r_iload O 6 dL_acts_94 rfl ?_
                      refine r_iconst (x := 1) O dL_acts_96 rfl ?_
                      have J_117 : ∀ (t0_117 : Int32), g_V X (fun r : Int32 × (Nat → Int32) × (Nat → Int32) × (Nat → Nat) => ((.inl (some (.int r.1)), (r.2.1, r.2.2.1, lm, r.2.2.2)) : g_Res)) (R_L_acts_117 ((R_L_acts_84 m s pm f_84)) p s_84 t0_117) 0 0 m (s_84, lm, pm) 117 [(0, .ref (g_ad X 122)), (1, .ref (g_ad X 124)), (2, .ref (g_ad X 125)), (3, .ref (g_ad X 126)), (4, .ref (g_ad X 127)), (12, .int (s (3))), (13, .int (nI p))] [.int t0_117, .int (nI p), .ref (g_ad X 125)] := by
                        intro t0_117
                        have iy_117 := nI_clamp (n := p) (by with_reducible omega)
                        refine r_iasn (b := 13) (loc := 13 + p) O T_125 (show vp_in (nI p) 7 from g_vin (by with_reducible omega) (by with_reducible omega)) (by with_reducible omega) dL_acts_117 ?_
                        refine r_aload_n O 3 dL_acts_118 rfl rfl ?_
                        refine r_iload O 6 dL_acts_119 rfl ?_
                        refine r_iload O 6 dL_acts_121 rfl ?_
                        refine r_iconst (x := 1) O dL_acts_123 rfl ?_
                        have J_155 : ∀ (t0_155 : Int32), g_V X (fun r : Int32 × (Nat → Int32) × (Nat → Int32) × (Nat → Nat) => ((.inl (some (.int r.1)), (r.2.1, r.2.2.1, lm, r.2.2.2)) : g_Res)) (R_L_acts_155 ((R_L_acts_84 m s pm f_84)) p s_84 t0_117 t0_155) 0 0 m ((upd s_84 (13 + p) t0_117), lm, pm) 155 [(0, .ref (g_ad X 122)), (1, .ref (g_ad X 124)), (2, .ref (g_ad X 125)), (3, .ref (g_ad X 126)), (4, .ref (g_ad X 127)), (12, .int (s (3))), (13, .int (nI p))] [.int t0_155, .int (nI p), .ref (g_ad X 126)] := by
                          intro t0_155
                          have iy_155 := nI_clamp (n := p) (by with_reducible omega)
                          refine r_iasn (b := 20) (loc := 20 + p) O T_126 (show vp_in (nI p) 7 from g_vin (by with_reducible omega) (by with_reducible omega)) (by with_reducible omega) dL_acts_155 ?_
                          refine r_aload O 4 dL_acts_156 rfl ?_
                          refine r_iload O 6 dL_acts_158 rfl ?_
                          refine r_iconst (x := (-1)) O dL_acts_160 rfl ?_
                          have iy_161 := nI_clamp (n := p) (by with_reducible omega)
                          refine r_iasn (b := 27) (loc := 27 + p) O T_127 (show vp_in (nI p) 7 from g_vin (by with_reducible omega) (by with_reducible omega)) (by with_reducible omega) dL_acts_161 ?_
                          refine r_iinc (lc' := [(13, .int (nI (p + 1))), (0, .ref (g_ad X 122)), (1, .ref (g_ad X 124)), (2, .ref (g_ad X 125)), (3, .ref (g_ad X 126)), (4, .ref (g_ad X 127)), (12, .int (s (3)))]) O 6 dL_acts_162 rfl (nI_1 p) (hN 13 rfl) rfl ?_
                          refine r_goto O 84 dL_acts_165 (by decide) ?_
                          refine r_sub [1, 2, 3, 4, 5, 6, 0] rfl ?_
                          exact ih_84 (p + 1) (upd (upd (upd s_84 (13 + p) t0_117) (20 + p) t0_155) (27 + p) (-1)) (by with_reducible omega)
                        refine r_icmp_ne O 132 dL_acts_124 (by decide) (fun c_124 => ?_) (fun c_124 => ?_)
                        · have e_124 : (nI p).toInt = (1 : Int) := j_eqR c_124 rfl
                          refine r_bipush (x := 8) O dL_acts_127 rfl ?_
                          refine r_goto O 155 dL_acts_129 (by decide) ?_
                          exact J_155 8
                        · have e_124 : (nI p).toInt ≠ (1 : Int) := j_neR c_124 rfl
                          refine r_iload O 6 dL_acts_132 rfl ?_
                          refine r_iconst (x := 2) O dL_acts_134 rfl ?_
                          refine r_icmp_ne O 143 dL_acts_135 (by decide) (fun c_135 => ?_) (fun c_135 => ?_)
                          · have e_135 : (nI p).toInt = (2 : Int) := j_eqR c_135 rfl
                            refine r_bipush (x := 6) O dL_acts_138 rfl ?_
                            refine r_goto O 155 dL_acts_140 (by decide) ?_
                            exact J_155 6
                          · have e_135 : (nI p).toInt ≠ (2 : Int) := j_neR c_135 rfl
                            refine r_iload O 6 dL_acts_143 rfl ?_
                            refine r_iconst (x := 3) O dL_acts_145 rfl ?_
                            refine r_icmp_ne O 154 dL_acts_146 (by decide) (fun c_146 => ?_) (fun c_146 => ?_)
                            · have e_146 : (nI p).toInt = (3 : Int) := j_eqR c_146 rfl
                              refine r_bipush (x := 10) O dL_acts_149 rfl ?_
                              refine r_goto O 155 dL_acts_151 (by decide) ?_
                              exact J_155 10
                            · have e_146 : (nI p).toInt ≠ (3 : Int) := j_neR c_146 rfl
                              refine r_iconst (x := 5) O dL_acts_154 rfl ?_
                              exact J_155 5
                      refine r_icmp_ne O 105 dL_acts_97 (by decide) (fun c_97 => ?_) (fun c_97 => ?_)
                      · have e_97 : (nI p).toInt = (1 : Int) := j_eqR c_97 rfl
                        refine r_bipush (x := 20) O dL_acts_100 rfl ?_
                        refine r_goto O 117 dL_acts_102 (by decide) ?_
                        exact J_117 20
                      · have e_97 : (nI p).toInt ≠ (1 : Int) := j_neR c_97 rfl
                        refine r_iload O 6 dL_acts_105 rfl ?_
                        refine r_iconst (x := 3) O dL_acts_107 rfl ?_
                        refine r_icmp_ne O 116 dL_acts_108 (by decide) (fun c_108 => ?_) (fun c_108 => ?_)
                        · have e_108 : (nI p).toInt = (3 : Int) := j_eqR c_108 rfl
                          refine r_bipush (x := 35) O dL_acts_111 rfl ?_
                          refine r_goto O 117 dL_acts_113 (by decide) ?_
                          exact J_117 35
                        · have e_108 : (nI p).toInt ≠ (3 : Int) := j_neR c_108 rfl
                          refine r_iconst (x := 0) O dL_acts_116 rfl ?_
                          exact J_117 0
                refine r_sub [1, 2, 3, 4, 5, 7, 0] rfl ?_
                exact L_84 8 0 s_40 (by with_reducible omega)
              · have e_44 : (nI k).toInt < (13 : Int) := j_nleL c_44 rfl
                refine r_aload_n O 1 dL_acts_47 rfl rfl ?_
                refine r_iload O 7 dL_acts_48 rfl ?_
                refine r_iload O 7 dL_acts_50 rfl ?_
                have J_74 : ∀ (t0_74 : Int32), g_V X (fun r : Int32 × (Nat → Int32) × (Nat → Int32) × (Nat → Nat) => ((.inl (some (.int r.1)), (r.2.1, r.2.2.1, lm, r.2.2.2)) : g_Res)) (R_L_acts_74 ((R_L_acts_40 m s pm v10_11 f_40)) k s_40 t0_74) 0 0 m (s_40, lm, pm) 74 [(0, .ref (g_ad X 122)), (1, .ref (g_ad X 124)), (2, .ref (g_ad X 125)), (3, .ref (g_ad X 126)), (4, .ref (g_ad X 127)), (10, .int v10_11), (12, .int (s (3))), (13, .int (nI k))] [.int t0_74, .int (nI k), .ref (g_ad X 124)] := by
                  intro t0_74
                  have iy_74 := nI_clamp (n := k) (by with_reducible omega)
                  refine r_iasn (b := 0) (loc := 0 + k) O T_124 (show vp_in (nI k) 13 from g_vin (by with_reducible omega) (by with_reducible omega)) (by with_reducible omega) dL_acts_74 ?_
                  refine r_iinc (lc' := [(13, .int (nI (k + 1))), (0, .ref (g_ad X 122)), (1, .ref (g_ad X 124)), (2, .ref (g_ad X 125)), (3, .ref (g_ad X 126)), (4, .ref (g_ad X 127)), (10, .int v10_11), (12, .int (s (3)))]) O 7 dL_acts_75 rfl (nI_1 k) (hN 13 rfl) rfl ?_
                  refine r_goto O 40 dL_acts_78 (by decide) ?_
                  refine r_sub [1, 2, 3, 4, 5, 6, 7, 0] rfl ?_
                  exact ih_40 (k + 1) (upd s_40 (0 + k) t0_74) (by with_reducible omega)
                have J_61 : g_V X (fun r : Int32 × (Nat → Int32) × (Nat → Int32) × (Nat → Nat) => ((.inl (some (.int r.1)), (r.2.1, r.2.2.1, lm, r.2.2.2)) : g_Res)) (R_L_acts_61 v10_11 ((R_L_acts_40 m s pm v10_11 f_40)) k s_40 ) 0 0 m (s_40, lm, pm) 61 [(0, .ref (g_ad X 122)), (1, .ref (g_ad X 124)), (2, .ref (g_ad X 125)), (3, .ref (g_ad X 126)), (4, .ref (g_ad X 127)), (10, .int v10_11), (12, .int (s (3))), (13, .int (nI k))] [.int (nI k), .ref (g_ad X 124)] := by
                  refine r_iconst (x := 1) O dL_acts_61 rfl ?_
                  refine r_iload O 5 dL_acts_62 rfl ?_
                  refine r_iconst (x := 4) O dL_acts_64 rfl ?_
                  refine r_idiv O dL_acts_65 (by decide) ?_
                  refine r_bipush (x := 7) O dL_acts_66 rfl ?_
                  refine r_irem O dL_acts_68 (by decide) ?_
                  refine r_iadd O dL_acts_69 ?_
                  refine r_goto O 74 dL_acts_70 (by decide) ?_
                  exact J_74 (1 + ((v10_11 / 4) - (v10_11 / 4) / 7 * 7))
                refine r_if_eq O 61 dL_acts_52 (by decide) (fun c_52 => ?_) (fun c_52 => ?_)
                · have e_52 : (nI k).toInt = (0 : Int) := j_eqR c_52 rfl
                  exact J_61
                · have e_52 : (nI k).toInt ≠ (0 : Int) := j_neR c_52 rfl
                  refine r_iload O 7 dL_acts_55 rfl ?_
                  refine r_iconst (x := 4) O dL_acts_57 rfl ?_
                  refine r_icmp_ne O 73 dL_acts_58 (by decide) (fun c_58 => ?_) (fun c_58 => ?_)
                  · have e_58 : (nI k).toInt = (4 : Int) := j_eqR c_58 rfl
                    exact J_61
                  · have e_58 : (nI k).toInt ≠ (4 : Int) := j_neR c_58 rfl
                    refine r_iconst (x := 0) O dL_acts_73 rfl ?_
                    exact J_74 0
          refine r_sub [2, 3, 4, 5, 6, 11, 1, 0] rfl ?_
          exact L_40 14 0 s (by with_reducible omega)
        · have e_29 : (v10_11 - v10_11 / 4 * 4).toInt ≠ (0 : Int) := j_neR c_29 rfl
          exact J_186
      · have e_22 : (v11_20).toInt ≠ (0 : Int) := j_neR c_22 rfl
        exact J_186
    refine r_istore (lc' := [(11, .int (R_L_low s x9 30)), (0, .ref (g_ad X 122)), (1, .ref (g_ad X 124)), (2, .ref (g_ad X 125)), (3, .ref (g_ad X 126)), (4, .ref (g_ad X 127)), (5, .ref (g_ad X 128)), (6, .ref (g_ad X 129)), (7, .ref (g_ad X 130)), (8, .ref (g_ad X 131)), (9, .int x9), (10, .int v10_11)]) O dL_acts_18 (hN 11 rfl) rfl ?_
    refine r_sub [1, 2, 3, 4, 5, 6, 7, 8, 9, 11, 0] rfl ?_
    exact J_20 (R_L_low s x9 30)
  refine r_istore (lc' := [(10, .int (R_L_low s (x9 >>> (5 &&& 31)) 10000000)), (0, .ref (g_ad X 122)), (1, .ref (g_ad X 124)), (2, .ref (g_ad X 125)), (3, .ref (g_ad X 126)), (4, .ref (g_ad X 127)), (5, .ref (g_ad X 128)), (6, .ref (g_ad X 129)), (7, .ref (g_ad X 130)), (8, .ref (g_ad X 131)), (9, .int x9)]) O dL_acts_9 (hN 10 rfl) rfl ?_
  refine r_sub [1, 2, 3, 4, 5, 6, 7, 8, 9, 10, 0] rfl ?_
  exact J_11 (R_L_low s (x9 >>> (5 &&& 31)) 10000000) (by first | exact (low_b (b := 10000000) rfl (by decide)).1 | exact (low_b (b := 10000000) rfl (by decide)).2) (by first | exact (low_b (b := 10000000) rfl (by decide)).1 | exact (low_b (b := 10000000) rfl (by decide)).2)
theorem met_L_acts (l : Launch) (hs : l.stackTraces = false) (lm : Nat → Int64) (m : Nat → Int32) (s : Nat → Int32) (pm : Nat → Nat) (x9 : Int32) (p0 : g_Rel m s pm) (p1 : (s (3)).toInt ≤ 90000) : g_SY l yL_acts cL_acts 19 (some .boolean) ({ frames := 10, cells := 8, slots := 48, locals := 190 } : Room) (fun ad => [.ref (ad 122), .ref (ad 124), .ref (ad 125), .ref (ad 126), .ref (ad 127), .ref (ad 128), .ref (ad 129), .ref (ad 130), .ref (ad 131), .int x9]) m (s, lm, pm) ((fun r : Int32 × (Nat → Int32) × (Nat → Int32) × (Nat → Nat) => ((.inl (some (.int r.1)), (r.2.1, r.2.2.1, lm, r.2.2.2)) : g_Res)) (R_L_acts m s pm x9)) :=
  g_sy_of (by decide) (fun _ => Nat.le_of_ble_eq_true rfl) (fun X hl hn O Y => walk_L_acts O (by rw [hl]; exact hs) Y hn p0 p1)
