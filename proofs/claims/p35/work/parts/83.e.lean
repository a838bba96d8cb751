/-! ===== what the law does: all ways ===== -/
section VG
variable {m s : Nat → Int32} {pm : Nat → Nat}
theorem lO.mono {r : Int32 × (Nat → Int32) × (Nat → Int32) × (Nat → Nat)} {T T' : Int} (h : lO r T) (hT : T ≤ T') : lO r T' := ⟨h.1, h.2.1, Int.le_trans h.2.2 hT⟩
theorem A_691 {v w x : Int32} (A : lA m s pm) (hv : 0 ≤ v.toInt) (h0 : 0 ≤ x.toInt) (h1 : x.toInt < (s 2).toInt) (h9 : (s 3).toInt ≤ 90000) : lO (R_L_acts_691 m s pm v w x) ((s 3).toInt + 40) := by
  have J := A.1.J
  have hT : (s 3).toInt ≤ (s 3).toInt + 40 := by omega
  have v6 := div_nn (x := v) (y := 6) hv (by decide)
  have r8 := J.1.2.1
  unfold R_L_acts_691
  by_cases a : 13 ≤ w
  · rw [if_pos a]
    unfold R_L_acts_807
    by_cases b : 15 ≤ w
    · rw [if_pos b]
      unfold R_L_acts_968
      by_cases c : w = 15
      · rw [if_pos c]
        exact A_lay A h0 h1 hT
      · rw [if_neg c]
        by_cases d : 18 ≤ w
        · by_cases e : w = 18
          · subst e
            unfold R_L_acts_1062
            rw [if_pos d]
            exact A_off A h0 h1 hT v
          · unfold R_L_acts_1062 R_L_acts_1234 R_L_acts_1365
            rw [if_pos d, if_neg e]
            by_cases f : 21 ≤ w
            · rw [if_pos f]
              by_cases g : w = 21
              · subst g
                exact A_send A h0 h1 hT v
              · unfold R_L_acts_1652
                rw [if_neg g]
                unfold R_L_acts_1781
                have k : ∀ c : Int32, 1 ≤ c.toInt → c.toInt ≤ 40 → lO (R_L_acts_1799 m s pm v c) ((s 3).toInt + 40) := fun c c1 c40 => by
                  have b := rem_b (x := v) (y := c) hv (by omega)
                  have e := j_addE (x := 1) (y := v - v / c * c) j_1 rfl (by omega) (by omega)
                  unfold R_L_acts_1799
                  exact A_pass A (by omega) (by omega) h9 (by omega)
                split
                · exact k 40 (by decide) (by decide)
                · exact k 9 (by decide) (by decide)
            · rw [if_neg f]
              exact A_carry A hT
        · exact A_rig A h0 h1 hT v w d
    · rw [if_neg b]
      by_cases c : s 1 = 0
      · rw [if_pos c]
        exact A_take0 A h0 h1 c hT
      · rw [if_neg c]
        have c' := j_neR c j_0
        have r := rem_b (x := v / 6) (y := s 1) v6 (by omega)
        exact A_take A h0 h1 r.1 r.2 hT
  · rw [if_neg a]
    split
    · exact A_go A h0 h1 hT
    · exact A_go A h0 h1 hT
theorem A_acts {z : Int32} (A : lA m s pm) (h9 : (s 3).toInt ≤ 90000) : lO (R_L_acts m s pm z) ((s 3).toInt + 40) := by
  have J := A.1.J
  have hT : (s 3).toInt ≤ (s 3).toInt + 40 := by omega
  have hp := J.1.1
  have h6 := J.1.2.2.1
  unfold R_L_acts R_L_acts_11
  obtain ⟨hv, -⟩ := low_b (s := s) (x := z >>> (5 &&& 31)) (y := 10000000) (b := 10000000) rfl (by decide)
  generalize R_L_low s (z >>> (5 &&& 31)) 10000000 = v at hv ⊢
  generalize R_L_low s z 30 = w
  have k186 : lO (R_L_acts_186 m s pm v w) ((s 3).toInt + 40) := by
    unfold R_L_acts_186
    by_cases a : 3 ≤ w
    · rw [if_pos a]
      by_cases b : w = 3
      · subst b
        exact A_rope A hv hT v
      · unfold R_L_acts_346
        rw [if_neg b]
        unfold R_L_acts_461
        by_cases c : w = 4
        · rw [if_pos c]
          exact A_helper A hv hT
        · rw [if_neg c]
          by_cases d : s 2 = 0
          · rw [if_pos d]
            exact A_helper A hv hT
          · have d' := j_neR d j_0
            rw [if_neg d]
            by_cases e : w = 5
            · subst e
              exact A_silence A hv h9 hT
            · unfold R_L_acts_618
              rw [if_neg e]
              unfold R_L_acts_683
              have r := rem_b (x := v) (y := s 2) hv (by omega)
              exact A_691 A hv r.1 r.2 h9
    · rw [if_neg a]
      have r := rem_b (x := v) (y := s 0) hv (by omega)
      exact A_200 A hv r.1 r.2 hT
  unfold R_L_acts_20
  by_cases a : w = 0
  · rw [if_pos a]
    by_cases b : v - v / 4 * 4 = 0
    · rw [if_pos b]
      exact A_begin A hv hT
    · rw [if_neg b]
      exact k186
  · rw [if_neg a]
    exact k186
end VG
