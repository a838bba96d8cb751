/-! ===== readers ===== -/
section RA
variable {m s : Nat → Int32} {pm : Nat → Nat}
theorem tell_ref {hs : List String} (R : g_Rel m s pm) {v w : Int32} (e : v = w) : g_Ref hs ((.inl (some (.int v)) : Option Value ⊕ String), m, pm) (R_X8_tells s w) := by
  unfold R_X8_tells
  refine ⟨R.over (fun n hn => ?_), Or.inl ⟨v, rfl, ?_, e⟩⟩
  · show upd s 1302 0 n = s n
    exact g_upd_ne (by omega)
  · show upd s 1302 0 1302 = 0
    exact g_upd_eq
theorem nz_is {x : Int32} {b : Nat} (h0 : 0 ≤ x.toInt) (h1 : x.toInt ≤ b) (hb : b < 100) : ∃ w : Nat, w ≤ b ∧ x = nI w := ⟨x.toInt.toNat, by omega, as_nI (by omega) (by omega)⟩
theorem Ref_passage (R : g_Rel m s pm) (x y : Int32) : g_Ref ["java/lang/IndexOutOfBoundsException", "java/lang/IllegalArgumentException"] (R_X7_passage m pm x y) (R_X8_passage s x y) := by
  have hj := R.J.n
  unfold R_X7_passage R_X8_passage
  by_cases a : R_X8_isPassage s x = 0
  · rw [if_pos ((bad_p R x).mpr a), if_pos a]
    exact fail_s R (by decide +kernel) (by decide +kernel)
  rw [if_neg (mt (bad_p R x).mp a), if_neg a]
  by_cases b : R_X8_in s y 0 4 = 0
  · rw [if_pos ((bad_in s y 0 4).mpr b), if_pos b]
    exact fail_s R (by decide +kernel) (by decide +kernel)
  rw [if_neg (mt (bad_in s y 0 4).mp b), if_neg b]
  obtain ⟨h0, h1⟩ := isPassage_ne a
  refine tell_ref R ?_
  unfold R_X0_aboutPassage R_X8_passageFact
  rw [E_drop R.E h0 h1, E_min R.E h0 h1, E_rope R.E h0 h1, E_walkers R.E h0, E_rigger R.E, s13 h0 (by omega), s20 h0 (by omega), s27 h0 (by omega)]
  rfl
theorem ix_r {x : Int32} {w : Nat} (h0 : 0 ≤ x.toInt) (h1 : x.toInt ≤ 12) (hw : w < 3) {b : Int32} {c : Nat} (hb : b.toInt = c) (hc : c < 200) : ((b + (3 * x)) + nI w).toNatClampNeg = c + 3 * x.toNatClampNeg + w := by
  have hx := j_nat h0
  have hq : (nI w).toInt = (w : Int) := nI_toInt (by omega)
  have q1 : ((3 : Int32) * x).toInt = 3 * x.toInt := j_mulE rfl rfl (by omega) (by omega)
  have q2 : (b + 3 * x).toInt = c + 3 * x.toInt := j_addE hb q1 (by omega) (by omega)
  have q3 : ((b + 3 * x) + nI w).toInt = c + 3 * x.toInt + w := j_addE q2 hq (by omega) (by omega)
  have := j_nat (x := (b + 3 * x) + nI w) (by omega)
  omega
theorem Ref_rope (R : g_Rel m s pm) (x y : Int32) : g_Ref ["java/lang/IndexOutOfBoundsException", "java/lang/IllegalArgumentException"] (R_X7_rope m pm x y) (R_X8_rope s x y) := by
  have hj := R.J.n
  unfold R_X7_rope R_X8_rope
  by_cases a : R_X8_isRope s x = 0
  · rw [if_pos ((bad_r R x).mpr a), if_pos a]
    exact fail_s R (by decide +kernel) (by decide +kernel)
  rw [if_neg (mt (bad_r R x).mp a), if_neg a]
  by_cases b : R_X8_in s y 0 2 = 0
  · rw [if_pos ((bad_in s y 0 2).mpr b), if_pos b]
    exact fail_s R (by decide +kernel) (by decide +kernel)
  rw [if_neg (mt (bad_in s y 0 2).mp b), if_neg b]
  obtain ⟨h0, h1⟩ := isRope_ne a
  obtain ⟨b0, b1⟩ := nz_X8_in b
  have hx := j_nat h0
  obtain ⟨w, hw, rfl⟩ := nz_is (b := 2) b0 b1 (by omega)
  refine tell_ref R ?_
  unfold R_X5_about
  rw [if_neg (has5_1 R.E h0 h1), R.E.r0 (by omega), R.E.r1 (by omega), R.E.r2 (by omega), ix_r h0 (by omega) (by omega) (b := 34) (c := 34) rfl (by omega)]
  have : w = 0 ∨ w = 1 ∨ w = 2 := by omega
  rcases this with rfl | rfl | rfl
  · exact (if_pos (by decide)).trans (congrArg s (by omega))
  · exact ((if_neg (by decide)).trans (if_pos (by decide))).trans (congrArg s (by omega))
  · exact ((if_neg (by decide)).trans (if_neg (by decide))).trans (congrArg s (by omega))
theorem Ref_message (R : g_Rel m s pm) (x y : Int32) : g_Ref ["java/lang/IndexOutOfBoundsException", "java/lang/IllegalArgumentException"] (R_X7_message m pm x y) (R_X8_message s x y) := by
  have hj := R.J.n
  have hs : (s 6 - 1).toInt = (s 6).toInt - 1 := j_sub1 (by omega)
  have bd : (x < 0 ∨ s 6 ≤ x) ↔ R_X8_in s x 0 (s 6 - 1) = 0 := by
    refine Iff.trans ⟨fun z => z.imp id (fun z => ?_), fun z => z.imp id (fun z => ?_)⟩ (bad_in s x 0 (s 6 - 1))
    · have := j_le z; exact Int32.lt_iff_toInt_lt.mpr (by omega)
    · have := j_lt z; exact Int32.le_iff_toInt_le.mpr (by omega)
  unfold R_X7_message R_X8_message
  rw [R.E.lo (n := 6) (by omega)]
  by_cases a : R_X8_in s x 0 (s 6 - 1) = 0
  · rw [if_pos (bd.mpr a), if_pos a]
    exact fail_s R (by decide +kernel) (by decide +kernel)
  rw [if_neg (mt bd.mp a), if_neg a]
  by_cases b : R_X8_in s y 0 2 = 0
  · rw [if_pos ((bad_in s y 0 2).mpr b), if_pos b]
    exact fail_s R (by decide +kernel) (by decide +kernel)
  rw [if_neg (mt (bad_in s y 0 2).mp b), if_neg b]
  obtain ⟨h0, h1⟩ := nz_X8_in a
  have h0' : 0 ≤ x.toInt := h0
  obtain ⟨b0, b1⟩ := nz_X8_in b
  have hx := j_nat h0'
  obtain ⟨w, hw, rfl⟩ := nz_is (b := 2) b0 b1 (by omega)
  refine tell_ref R ?_
  unfold R_X3_about
  rw [if_neg (fun z => by have := j_ltR z j_0; omega), R.E.lo (n := 6) (by omega), if_pos (Int32.lt_iff_toInt_lt.mpr (by omega)), ix_r h0' (by omega) (by omega) (b := 112) (c := 112) rfl (by omega)]
  have e0 := R.E.ms (i := x.toNatClampNeg) (j := 0) (by omega) (by omega)
  have e1 := R.E.ms (i := x.toNatClampNeg) (j := 1) (by omega) (by omega)
  have e2 := R.E.ms (i := x.toNatClampNeg) (j := 2) (by omega) (by omega)
  rw [show 112 + 3 * x.toNatClampNeg = 112 + 0 + 3 * x.toNatClampNeg by omega, show 113 + 3 * x.toNatClampNeg = 112 + 1 + 3 * x.toNatClampNeg by omega, show 114 + 3 * x.toNatClampNeg = 112 + 2 + 3 * x.toNatClampNeg by omega, e0, e1, e2]
  have : w = 0 ∨ w = 1 ∨ w = 2 := by omega
  rcases this with rfl | rfl | rfl
  · exact (if_pos (by decide)).trans (congrArg s (by omega))
  · exact ((if_neg (by decide)).trans (if_pos (by decide))).trans (congrArg s (by omega))
  · exact ((if_neg (by decide)).trans (if_neg (by decide))).trans (congrArg s (by omega))
theorem Ref_carried (R : g_Rel m s pm) (x y : Int32) : g_Ref ["java/lang/IndexOutOfBoundsException", "java/lang/IllegalArgumentException"] (R_X7_carried m pm x y) (R_X8_carried s x y) := by
  have hj := R.J.n
  have hs : (s 12 - 1).toInt = (s 12).toInt - 1 := j_sub1 (by omega)
  have bd : (x < 0 ∨ s 12 ≤ x) ↔ R_X8_in s x 0 (s 12 - 1) = 0 := by
    refine Iff.trans ⟨fun z => z.imp id (fun z => ?_), fun z => z.imp id (fun z => ?_)⟩ (bad_in s x 0 (s 12 - 1))
    · have := j_le z; exact Int32.lt_iff_toInt_lt.mpr (by omega)
    · have := j_lt z; exact Int32.le_iff_toInt_le.mpr (by omega)
  unfold R_X7_carried R_X8_carried
  rw [R.E.lo (n := 12) (by omega)]
  by_cases a : R_X8_in s x 0 (s 12 - 1) = 0
  · rw [if_pos (bd.mpr a), if_pos a]
    exact fail_s R (by decide +kernel) (by decide +kernel)
  rw [if_neg (mt bd.mp a), if_neg a]
  by_cases b : R_X8_in s y 0 2 = 0
  · rw [if_pos ((bad_in s y 0 2).mpr b), if_pos b]
    exact fail_s R (by decide +kernel) (by decide +kernel)
  rw [if_neg (mt (bad_in s y 0 2).mp b), if_neg b]
  obtain ⟨h0, h1⟩ := nz_X8_in a
  have h0' : 0 ≤ x.toInt := h0
  obtain ⟨b0, b1⟩ := nz_X8_in b
  have hx := j_nat h0'
  obtain ⟨w, hw, rfl⟩ := nz_is (b := 2) b0 b1 (by omega)
  refine tell_ref R ?_
  unfold R_X2_about
  rw [if_neg (fun z => by have := j_ltR z j_0; omega), R.E.lo (n := 12) (by omega), if_pos (Int32.lt_iff_toInt_lt.mpr (by omega)), ix_r h0' (by omega) (by omega) (b := 142) (c := 142) rfl (by omega)]
  have e0 := R.E.lg (i := x.toNatClampNeg) (j := 0) (by omega) (by omega)
  have e1 := R.E.lg (i := x.toNatClampNeg) (j := 1) (by omega) (by omega)
  have e2 := R.E.lg (i := x.toNatClampNeg) (j := 2) (by omega) (by omega)
  rw [show 142 + 3 * x.toNatClampNeg = 142 + 0 + 3 * x.toNatClampNeg by omega, show 143 + 3 * x.toNatClampNeg = 142 + 1 + 3 * x.toNatClampNeg by omega, show 144 + 3 * x.toNatClampNeg = 142 + 2 + 3 * x.toNatClampNeg by omega, e0, e1, e2]
  have : w = 0 ∨ w = 1 ∨ w = 2 := by omega
  rcases this with rfl | rfl | rfl
  · exact (if_pos (by decide)).trans (congrArg s (by omega))
  · exact ((if_neg (by decide)).trans (if_pos (by decide))).trans (congrArg s (by omega))
  · exact ((if_neg (by decide)).trans (if_neg (by decide))).trans (congrArg s (by omega))
theorem b01 {x : Int32} (h : x = 0 ∨ x = 1) : (if x = 0 then (0 : Int32) else 1) = x := by
  rcases h with rfl | rfl
  · rfl
  · rfl
theorem Ref_helper (R : g_Rel m s pm) (x y : Int32) : g_Ref ["java/lang/IndexOutOfBoundsException", "java/lang/IllegalArgumentException"] (R_X7_helper m pm x y) (R_X8_helper s x y) := by
  have hj := R.J.n
  unfold R_X7_helper R_X8_helper
  by_cases a : R_X8_isHelper s x = 0
  · rw [if_pos ((bad_h' R x).mpr a), if_pos a]
    exact fail_s R (by decide +kernel) (by decide +kernel)
  rw [if_neg (mt (bad_h' R x).mp a), if_neg a]
  by_cases b : R_X8_in s y 0 8 = 0
  · rw [if_pos ((bad_in s y 0 8).mpr b), if_pos b]
    exact fail_s R (by decide +kernel) (by decide +kernel)
  rw [if_neg (mt (bad_in s y 0 8).mp b), if_neg b]
  obtain ⟨h0, h1⟩ := isHelper_ne a
  obtain ⟨b0, b1⟩ := nz_X8_in b
  have hx := j_nat h0
  obtain ⟨w, hw, rfl⟩ := nz_is (b := 8) b0 b1 (by omega)
  have h8 := (R.J.2.2.1 x.toNatClampNeg (by omega)).2.2.2.1
  refine tell_ref R ?_
  unfold R_X8_of R_X1_about
  rw [of_ix h0 (by omega) (by omega), R.E.hp (j := 0) (by omega) (by omega), R.E.hp (j := 1) (by omega) (by omega), R.E.hp (j := 2) (by omega) (by omega), R.E.hp (j := 3) (by omega) (by omega), R.E.hp (j := 4) (by omega) (by omega), R.E.hp (j := 5) (by omega) (by omega), R.E.hp (j := 6) (by omega) (by omega), R.E.hp (j := 7) (by omega) (by omega), R.E.hp (j := 8) (by omega) (by omega), b01 h8]
  have : w = 0 ∨ w = 1 ∨ w = 2 ∨ w = 3 ∨ w = 4 ∨ w = 5 ∨ w = 6 ∨ w = 7 ∨ w = 8 := by omega
  rcases this with rfl | rfl | rfl | rfl | rfl | rfl | rfl | rfl | rfl <;> rfl
theorem Ref_value (R : g_Rel m s pm) (x : Int32) : g_Ref ["java/lang/IllegalArgumentException"] (R_X7_value m pm x) (R_X8_value s x) := by
  have hj := R.J.n
  unfold R_X7_value R_X8_value
  by_cases b : R_X8_in s x 0 13 = 0
  · rw [if_pos ((bad_in s x 0 13).mpr b), if_pos b]
    exact fail_s R (by decide +kernel) (by decide +kernel)
  rw [if_neg (mt (bad_in s x 0 13).mp b), if_neg b]
  obtain ⟨b0, b1⟩ := nz_X8_in b
  obtain ⟨w, hw, rfl⟩ := nz_is (b := 13) b0 b1 (by omega)
  refine tell_ref R ?_
  unfold R_X0_about R_X8_valueOf
  have L := fun n (h : n < 34) => R.E.lo (n := n) h
  rw [L 0 (by omega), L 1 (by omega), L 2 (by omega), L 3 (by omega), L 4 (by omega), L 5 (by omega), L 6 (by omega), L 7 (by omega), L 8 (by omega), L 9 (by omega), L 10 (by omega), L 11 (by omega), E_below R.E, E_shut R.E, b01 R.J.1.2.2.2.2.2.1]
  have : w = 0 ∨ w = 1 ∨ w = 2 ∨ w = 3 ∨ w = 4 ∨ w = 5 ∨ w = 6 ∨ w = 7 ∨ w = 8 ∨ w = 9 ∨ w = 10 ∨ w = 11 ∨ w = 12 ∨ w = 13 := by omega
  rcases this with rfl | rfl | rfl | rfl | rfl | rfl | rfl | rfl | rfl | rfl | rfl | rfl | rfl | rfl <;> rfl
end RA
