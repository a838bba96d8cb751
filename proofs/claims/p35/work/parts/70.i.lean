/-! ===== class beside model: carrying ===== -/
section PI
def g_sh (n : Nat) (t : Nat → Int32) : Nat → Int32 := fun k => if 145 ≤ k ∧ k < 145 + n then t (k - 3) else t k
theorem sh_0 (t : Nat → Int32) : g_sh 0 t = t := by
  funext k
  unfold g_sh
  rw [if_neg (by omega)]
theorem sh_lo {n k : Nat} {t : Nat → Int32} (h : k < 145) : g_sh n t k = t k := by
  unfold g_sh
  rw [if_neg (by omega)]
theorem add_loop {m : Nat → Int32} {a b c : Int32} : ∀ (f n : Nat) (M : Nat → Int32), n ≤ 11 → n < f →
    R_X2_add_4 m a b c f n M = upd (upd (upd (upd (upd (g_sh (3 * n) M) 142 a) 143 b) 144 c) 12 (g_min (M 12 + 1) 12)) 8 (M 8 + 1)
  | 0, n, M, _, h => absurd h (by omega)
  | f + 1, n, M, h1, h2 => by
    have hc : (nI n).toInt = (n : Int) := nI_toInt (by omega)
    unfold R_X2_add_4
    by_cases e : n = 0
    · subst e
      rw [if_pos (by decide)]
      simp (disch := omega) only [g_upd_ne]
      rw [sh_0]
    · have hd : ((nI n) - 1).toInt = (n : Int) - 1 := by rw [j_sub1 (by omega), hc]
      have hd2 := j_nat (x := nI n - 1) (by omega)
      rw [if_neg (fun z => by have := j_leR z j_0; omega), nI_clamp (by omega)]
      have ed : (nI n - 1).toNatClampNeg = n - 1 := by omega
      rw [ed]
      simp (disch := omega) only [g_upd_ne]
      rw [add_loop f (n - 1) _ (by omega) (by omega)]
      simp (disch := omega) only [g_upd_ne]
      have es : g_sh (3 * (n - 1)) (upd (upd (upd M (142 + 3 * n) (M (142 + 3 * (n - 1)))) (143 + 3 * n) (M (143 + 3 * (n - 1)))) (144 + 3 * n) (M (144 + 3 * (n - 1)))) = g_sh (3 * n) M := by
        funext k
        unfold g_sh
        by_cases k1 : 145 ≤ k ∧ k < 145 + 3 * (n - 1)
        · rw [if_pos k1, if_pos (by omega), g_upd_ne (by omega), g_upd_ne (by omega), g_upd_ne (by omega)]
        · rw [if_neg k1]
          by_cases k2 : 145 ≤ k ∧ k < 145 + 3 * n
          · rw [if_pos k2]
            by_cases q : k = 144 + 3 * n
            · subst q; rw [g_upd_eq]; exact congrArg M (by omega)
            rw [g_upd_ne q]
            by_cases q : k = 143 + 3 * n
            · subst q; rw [g_upd_eq]; exact congrArg M (by omega)
            rw [g_upd_ne q]
            have q : k = 142 + 3 * n := by omega
            subst q; rw [g_upd_eq]; exact congrArg M (by omega)
          · rw [if_neg k2, g_upd_ne (by omega), g_upd_ne (by omega), g_upd_ne (by omega)]
      rw [es]
theorem lay_loop {s : Nat → Int32} {x : Int32} : ∀ (f d : Nat) (t : Nat → Int32), d ≤ 177 → 144 ≤ d → d < f + 144 →
    R_X8_carries_153 s x f d t = R_X8_carries_245 s x (g_sh (d - 144) t) (if 12 ≤ t 12 then 0 else 1)
  | 0, d, t, _, h, h' => absurd h' (by omega)
  | f + 1, d, t, h1, h2, h3 => by
    have hc : (nI d).toInt = (d : Int) := nI_toInt (by omega)
    have c145 : (145 : Int32).toInt = 145 := rfl
    unfold R_X8_carries_153
    by_cases e : d = 144
    · subst e
      rw [if_pos (by decide)]
      simp (disch := omega) only [g_upd_ne]
      show _ = R_X8_carries_245 s x (g_sh 0 t) _
      rw [sh_0]
      by_cases q : 12 ≤ t 12
      · rw [if_pos q, if_pos q]
      · rw [if_neg q, if_neg q]
    · have hd2 : (nI d - 3).toInt = (d : Int) - 3 := j_subE hc rfl (by omega) (by omega)
      have hd3 := j_nat (x := nI d - 3) (by omega)
      rw [if_neg (fun z => by have := j_lt z; omega), nI_clamp (by omega), show (nI d - 3).toNatClampNeg = d - 3 by omega]
      rw [lay_loop f (d - 1) _ (by omega) (by omega) (by omega), g_upd_ne (by omega)]
      have es : g_sh (d - 1 - 144) (upd t d (t (d - 3))) = g_sh (d - 144) t := by
        funext k
        unfold g_sh
        by_cases k1 : 145 ≤ k ∧ k < 145 + (d - 1 - 144)
        · rw [if_pos k1, if_pos (by omega), g_upd_ne (by omega)]
        · rw [if_neg k1]
          by_cases k2 : 145 ≤ k ∧ k < 145 + (d - 144)
          · rw [if_pos k2]
            have q : k = d := by omega
            subst q; rw [g_upd_eq]
          · rw [if_neg k2, g_upd_ne (by omega)]
      rw [es]
/-- what a carry lays behind its walkers, on both sides -/
theorem log_L {M t s : Nat → Int32} {x : Int32} (L : g_L M t) (h12 : 0 ≤ (t 12).toInt ∧ (t 12).toInt ≤ 12) (h2 : (t 2).toInt ≤ 6) (h1 : (t 1).toInt ≤ 8) (h6 : (t 6).toInt ≤ 10) :
    g_L (R_X2_add (upd M 5 1) (M 3) (M 4) x) (R_X8_carries_153 s x 34 177 t).2 := by
  have m3 : M 3 = t 3 := L 3 (Or.inl (by omega))
  have m4 : M 4 = t 4 := L 4 (Or.inl (by omega))
  have m12 : M 12 = t 12 := L 12 (Or.inl (by omega))
  have m8 : M 8 = t 8 := L 8 (Or.inl (by omega))
  unfold R_X2_add
  rw [add_loop 12 11 _ (by omega) (by omega), lay_loop 34 177 t (by omega) (by omega) (by omega)]
  unfold R_X8_carries_245
  simp (disch := omega) only [g_upd_ne, sh_lo]
  have e12 : g_min (t 12 + 1) 12 = t 12 + (if 12 ≤ t 12 then 0 else 1) := by
    have ha := j_add (x := t 12) (y := 1) (by rw [j_1]; omega) (by rw [j_1]; omega)
    rw [j_1] at ha
    have c12 : (12 : Int32).toInt = 12 := rfl
    unfold g_min
    by_cases q : 12 ≤ t 12
    · have := j_le q
      have e : t 12 = 12 := Int32.toInt_inj.mp (by rw [c12]; omega)
      rw [e]; rfl
    · have q' := j_nle q
      rw [if_neg q, if_neg (fun z => by have := j_lt z; omega)]
  have b12 : (t 12 + (if 12 ≤ t 12 then 0 else 1)).toInt ≤ (t 12).toInt + 1 ∧ ((t 12 + (if 12 ≤ t 12 then 0 else 1)).toInt ≤ 12) := by
    have c12 : (12 : Int32).toInt = 12 := rfl
    by_cases q : 12 ≤ t 12
    · rw [if_pos q, Int32.add_zero]
      omega
    · have q' := j_nle q
      rw [if_neg q, j_add (by rw [j_1]; omega) (by rw [j_1]; omega), j_1]
      omega
  rw [m12, m8, m3, m4, e12]
  generalize hv : t 12 + (if 12 ≤ t 12 then 0 else 1) = v at b12 ⊢
  intro n hn
  have hl : g_Lv (upd t 12 v) n := by
    refine hn.congr ?_ ?_ ?_ ?_
    · simp (disch := omega) only [g_upd_ne, sh_lo]
    · simp (disch := omega) only [g_upd_ne, sh_lo]
    · simp (disch := omega) only [g_upd_ne, sh_lo]
    · simp (disch := omega) only [g_upd_ne, g_upd_eq]
  have hr : n < 178 ∧ (n < 142 → n ≠ 12 → g_Lv t n) ∧ (145 ≤ n → g_Lv t (n - 3)) := by
    unfold g_Lv at hl ⊢
    rw [g_upd_ne (show 1 ≠ 12 by omega), g_upd_ne (show 2 ≠ 12 by omega), g_upd_ne (show 6 ≠ 12 by omega), g_upd_eq] at hl
    refine ⟨by omega, fun a b => by omega, fun a => ?_⟩
    omega
  by_cases e8 : n = 8
  · subst e8; simp (disch := omega) only [g_upd_ne, g_upd_eq]
  by_cases e5 : n = 5
  · subst e5; simp (disch := omega) only [g_upd_ne, g_upd_eq, sh_lo]
  by_cases e12' : n = 12
  · subst e12'; simp (disch := omega) only [g_upd_ne, g_upd_eq]
  by_cases ea : n = 142
  · subst ea; simp (disch := omega) only [g_upd_ne, g_upd_eq]
  by_cases eb : n = 143
  · subst eb; simp (disch := omega) only [g_upd_ne, g_upd_eq]
  by_cases ec : n = 144
  · subst ec; simp (disch := omega) only [g_upd_ne, g_upd_eq]
  simp (disch := omega) only [g_upd_ne]
  by_cases h : n < 142
  · rw [sh_lo (by omega), sh_lo (by omega), g_upd_ne e5]
    exact L n (hr.2.1 h e12')
  · unfold g_sh
    rw [if_pos (by omega), if_pos (by omega), g_upd_ne (by omega)]
    exact L _ (hr.2.2 (by omega))
end PI
