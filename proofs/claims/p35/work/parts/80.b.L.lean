/-! ===== the law: a minute ===== -/
/-- what a minute of the helpers below n leaves -/
def lfr (s t : Nat → Int32) (n : Nat) : Prop := ∀ k, (k ≤ 3 ∨ (6 ≤ k ∧ k ≤ 10) ∨ (58 + 9 * n ≤ k ∧ k < 142)) → t k = s k
theorem lfr.up {s t : Nat → Int32} {n : Nat} (h : lfr s t n) : lfr s t (n + 1) := fun k hk => h k (by omega)
theorem lfr_u {s t : Nat → Int32} {n k0 : Nat} {x : Int32} (h : lfr s t n) (hk : ¬ (k0 ≤ 3 ∨ (6 ≤ k0 ∧ k0 ≤ 10) ∨ (58 + 9 * n ≤ k0 ∧ k0 < 142))) : lfr s (upd t k0 x) n := fun k hk' => by
  rw [g_upd_ne (fun e => hk (by rw [← e]; exact hk'))]
  exact h k hk'
theorem lfr_lo {s t : Nat → Int32} {n : Nat} (J : g_J s) (h : lfr s t n) : (t 0).toInt ≤ 7 ∧ (t 2).toInt ≤ 6 ∧ 0 ≤ (t 6).toInt ∧ (t 6).toInt ≤ 10 := by
  rw [h 0 (by omega), h 2 (by omega), h 6 (by omega)]
  exact ⟨J.1.1.2, J.1.2.2.1.2, J.1.2.2.2.2.2.2.1.1, J.1.2.2.2.2.2.2.1.2⟩
theorem L_hpj {s t : Nat → Int32} {n : Nat} (J : g_J s) (h : lfr s t n) (hn : (nI n).toInt < (t 2).toInt) (h6 : n ≤ 6 := by omega) : 0 ≤ (t (58 + 9 * n + 1)).toInt ∧ (t (58 + 9 * n + 1)).toInt ≤ 7 ∧ (t (58 + 9 * n + 5)).toInt < 8 ∧ ((t (58 + 9 * n + 2)).toInt = 0 ∨ (t (58 + 9 * n + 2)).toInt = 1 ∨ (t (58 + 9 * n + 2)).toInt = 2) ∧ ((t (58 + 9 * n + 2)).toInt = 1 → 0 ≤ (t (58 + 9 * n + 3)).toInt ∧ (t (58 + 9 * n + 3)).toInt ≤ 7) ∧ ((t (58 + 9 * n + 2)).toInt = 2 → (t (58 + 9 * n + 1)).toInt < 7 ∧ 0 ≤ (t (58 + 9 * n + 5)).toInt) := by
  have hq : (nI n).toInt = (n : Int) := nI_toInt (by omega)
  have h2 := J.1.2.2.1.2
  have h0 := J.1.1.2
  have h1 := J.1.2.1.2
  rw [h 2 (by omega)] at hn
  have p := J.2.2.1 n (by omega)
  rw [h _ (by omega), h _ (by omega), h _ (by omega), h _ (by omega)]
  obtain ⟨⟨a1, a2⟩, b, ⟨c1, c2⟩, -, d, e, -⟩ := p
  refine ⟨a1, by omega, by omega, ?_, fun z => ?_, fun z => ?_⟩
  · rcases b with b | b | b <;> rw [b] <;> decide
  · have := (d (Int32.toInt_inj.mp z)).1
    omega
  · have := e (Int32.toInt_inj.mp z)
    omega
theorem ps_sets {s : Nat → Int32} {n : Nat} {t : Int32} (hn : n < 6) : (R_L_sets s (nI n) t (58 + 9 * n + 1)).toInt = (s (58 + 9 * n + 1)).toInt ∧ (R_L_sets s (nI n) t (58 + 9 * n + 2)).toInt = 1 ∧ R_L_sets s (nI n) t (58 + 9 * n + 3) = t ∧ (R_L_sets s (nI n) t (58 + 9 * n + 5)).toInt = (s (58 + 9 * n + 5)).toInt := by
  unfold R_L_sets R_L_sets_45
  rw [nI_clamp (by omega)]
  split <;> refine ⟨?_, ?_, ?_, ?_⟩ <;> simp (disch := omega) only [g_upd_ne, g_upd_eq] <;> rfl
theorem lfr_sets {s t : Nat → Int32} {n : Nat} {x : Int32} (h : lfr s t n) (hn : n < 6) : lfr s (R_L_sets t (nI n) x) (n + 1) := fun k hk => by
  have e : R_L_sets t (nI n) x k = t k := by
    unfold R_L_sets R_L_sets_45
    rw [nI_clamp (by omega)]
    split <;> simp (disch := omega) only [g_upd_ne]
  rw [e]
  exact h k (by omega)
def R_L_minute_673 (K_576 : Int32 → Nat → Nat → (Nat → Int32) → (Int32 × (Nat → Int32))) (v7_576 : Int32) (k : Nat) (t0_619 : Int32) (y2 : Nat) (s_673 : Nat → Int32) : (Int32 × (Nat → Int32)) := (K_576 (v7_576 + t0_619) y2 (k + 1) s_673)
def R_L_minute_619 (K_576 : Int32 → Nat → Nat → (Nat → Int32) → (Int32 × (Nat → Int32))) (v7_576 : Int32) (y : Nat) (k : Nat) (s_576 : Nat → Int32) (t0_604 : Int32) (t0_619 : Int32) : (Int32 × (Nat → Int32)) := (if ((s_576 (114 + 3 * k)) - t0_604) ≤ 0 then (R_L_minute_673 K_576 v7_576 k t0_619 y s_576) else (R_L_minute_673 K_576 v7_576 k t0_619 (y + 1) (upd (upd (upd s_576 (112 + 3 * y) (s_576 (112 + 3 * k))) (113 + 3 * y) (s_576 (113 + 3 * k))) (114 + 3 * y) ((s_576 (114 + 3 * k)) - t0_604))))
def R_L_minute_604 (K_576 : Int32 → Nat → Nat → (Nat → Int32) → (Int32 × (Nat → Int32))) (v7_576 : Int32) (y : Nat) (k : Nat) (s_576 : Nat → Int32) (t0_604 : Int32) : (Int32 × (Nat → Int32)) := (if ((s_576 (114 + 3 * k)) - t0_604) = 0 then (R_L_minute_619 K_576 v7_576 y k s_576 t0_604 1) else (R_L_minute_619 K_576 v7_576 y k s_576 t0_604 0))
def R_L_minute_576 (s : Nat → Int32) (t0_568 : Int32) : Nat → Int32 → Nat → Nat → (Nat → Int32) → (Int32 × (Nat → Int32))
  | 0, _, _, _, _ => (0, s)
  | f + 1, v7_576, y, k, s_576 => (if (s_576 (6)) ≤ (nI k) then (v7_576, (upd (upd (upd s_576 (6) (nI y)) (7) ((s_576 (7)) + v7_576)) (3) ((s_576 (3)) + 1))) else (if t0_568 = 0 then (R_L_minute_604 (R_L_minute_576 s t0_568 f) v7_576 y k s_576 1) else (R_L_minute_604 (R_L_minute_576 s t0_568 f) v7_576 y k s_576 0)))
def R_L_minute_568 (s : Nat → Int32) (s_3 : Nat → Int32) (t0_568 : Int32) : (Int32 × (Nat → Int32)) := (R_L_minute_576 s t0_568 11 0 0 0 s_3)
def R_L_minute_567 (s : Nat → Int32) (s_3 : Nat → Int32) : (Int32 × (Nat → Int32)) := (R_L_minute_568 s s_3 0)
def R_L_minute_532 (K_3 : Nat → (Nat → Int32) → (Int32 × (Nat → Int32))) (n : Nat) (s_431 : Nat → Int32) (t0_461 : Int32) (t0_505 : Int32) (t0_532 : Int32) : (Int32 × (Nat → Int32)) := (K_3 (n + 1) (upd (upd (upd s_431 (58 + 9 * n + 6) ((s_431 (58 + 9 * n + 6)) - t0_461)) (58 + 9 * n + 7) t0_505) (11) ((s_431 (11)) + t0_532)))
def R_L_minute_505 (K_3 : Nat → (Nat → Int32) → (Int32 × (Nat → Int32))) (n : Nat) (s_431 : Nat → Int32) (t0_461 : Int32) (t0_505 : Int32) : (Int32 × (Nat → Int32)) := (if t0_505 ≤ (s_431 (58 + 9 * n + 0)) then (R_L_minute_532 K_3 n s_431 t0_461 t0_505 0) else (R_L_minute_532 K_3 n s_431 t0_461 t0_505 1))
def R_L_minute_491 (K_3 : Nat → (Nat → Int32) → (Int32 × (Nat → Int32))) (n : Nat) (s_431 : Nat → Int32) (t0_461 : Int32) : (Int32 × (Nat → Int32)) := (R_L_minute_505 K_3 n s_431 t0_461 ((s_431 (58 + 9 * n + 7)) + 1))
def R_L_minute_461 (K_3 : Nat → (Nat → Int32) → (Int32 × (Nat → Int32))) (n : Nat) (s_431 : Nat → Int32) (t0_461 : Int32) : (Int32 × (Nat → Int32)) := (if (s_431 (58 + 9 * n + 2)) = 1 then (R_L_minute_491 K_3 n s_431 t0_461 ) else (if (s_431 (58 + 9 * n + 1)) ≤ 0 then (R_L_minute_505 K_3 n s_431 t0_461 0) else (R_L_minute_491 K_3 n s_431 t0_461 )))
def R_L_minute_460 (K_3 : Nat → (Nat → Int32) → (Int32 × (Nat → Int32))) (n : Nat) (s_431 : Nat → Int32) : (Int32 × (Nat → Int32)) := (R_L_minute_461 K_3 n s_431 0)
def R_L_minute_431 (K_3 : Nat → (Nat → Int32) → (Int32 × (Nat → Int32))) (n : Nat) (t0_43 : Int32) (s_431 : Nat → Int32) : (Int32 × (Nat → Int32)) := (if t0_43 = 0 then (R_L_minute_460 K_3 n s_431 ) else (if (s_431 (58 + 9 * n + 6)) ≤ 0 then (R_L_minute_460 K_3 n s_431 ) else (R_L_minute_461 K_3 n s_431 1)))
def R_L_minute_353 (K_3 : Nat → (Nat → Int32) → (Int32 × (Nat → Int32))) (n : Nat) (t0_43 : Int32) (s_124 : Nat → Int32) (t0_238 : Int32) : (Int32 × (Nat → Int32)) := (if ((s_124 (58 + 9 * n + 4)) - 1) = 0 then (R_L_minute_431 K_3 n t0_43 (upd (upd (upd (upd (upd (upd (upd s_124 (58 + 9 * n + 4) ((s_124 (58 + 9 * n + 4)) - 1)) (58 + 9 * n + 6) ((s_124 (58 + 9 * n + 6)) + t0_238)) (27 + (s_124 (58 + 9 * n + 1)).toNatClampNeg) (s_124 (58 + 9 * n + 5))) (35 + 3 * ((s_124 (58 + 9 * n + 5)).toNatClampNeg)) 2) (36 + 3 * ((s_124 (58 + 9 * n + 5)).toNatClampNeg)) (s_124 (58 + 9 * n + 1))) (58 + 9 * n + 5) (-1)) (58 + 9 * n + 2) 0)) else (R_L_minute_431 K_3 n t0_43 (upd (upd s_124 (58 + 9 * n + 4) ((s_124 (58 + 9 * n + 4)) - 1)) (58 + 9 * n + 6) ((s_124 (58 + 9 * n + 6)) + t0_238))))
def R_L_minute_310 (K_3 : Nat → (Nat → Int32) → (Int32 × (Nat → Int32))) (n : Nat) (t0_43 : Int32) (s_124 : Nat → Int32) (t0_238 : Int32) (t0_288 : Int32) (t0_310 : Int32) : (Int32 × (Nat → Int32)) := (R_L_minute_431 K_3 n t0_43 (upd (upd (upd (upd (upd (upd (upd (upd s_124 (58 + 9 * n + 4) ((s_124 (58 + 9 * n + 4)) - 1)) (58 + 9 * n + 6) ((s_124 (58 + 9 * n + 6)) + t0_238)) (4) t0_288) (5) t0_310) (58 + 9 * n + 1) (s_124 (58 + 9 * n + 3))) (58 + 9 * n + 2) 0) (58 + 9 * n + 3) (-1)) (58 + 9 * n + 8) 0))
def R_L_minute_288 (K_3 : Nat → (Nat → Int32) → (Int32 × (Nat → Int32))) (n : Nat) (t0_43 : Int32) (s_124 : Nat → Int32) (t0_238 : Int32) (t0_288 : Int32) : (Int32 × (Nat → Int32)) := (if (s_124 (58 + 9 * n + 8)) = 1 then (R_L_minute_310 K_3 n t0_43 s_124 t0_238 t0_288 0) else (R_L_minute_310 K_3 n t0_43 s_124 t0_238 t0_288 (s_124 (5))))
def R_L_minute_238 (K_3 : Nat → (Nat → Int32) → (Int32 × (Nat → Int32))) (n : Nat) (t0_43 : Int32) (s_124 : Nat → Int32) (t0_238 : Int32) : (Int32 × (Nat → Int32)) := (if ((s_124 (58 + 9 * n + 4)) - 1) = 0 then (if (s_124 (58 + 9 * n + 2)) = 1 then (if (s_124 (58 + 9 * n + 8)) = 1 then (R_L_minute_288 K_3 n t0_43 s_124 t0_238 (s_124 (58 + 9 * n + 3))) else (R_L_minute_288 K_3 n t0_43 s_124 t0_238 (s_124 (4)))) else (R_L_minute_353 K_3 n t0_43 s_124 t0_238 )) else (R_L_minute_353 K_3 n t0_43 s_124 t0_238 ))
def R_L_minute_202 (K_3 : Nat → (Nat → Int32) → (Int32 × (Nat → Int32))) (n : Nat) (t0_43 : Int32) (s_124 : Nat → Int32) (t0_202 : Int32) : (Int32 × (Nat → Int32)) := (if (s_124 (58 + 9 * n + 2)) = 2 then (R_L_minute_238 K_3 n t0_43 s_124 0) else (if t0_202 = 0 then (R_L_minute_238 K_3 n t0_43 s_124 1) else (R_L_minute_238 K_3 n t0_43 s_124 2)))
def R_L_minute_197 (K_3 : Nat → (Nat → Int32) → (Int32 × (Nat → Int32))) (n : Nat) (t0_43 : Int32) (s_124 : Nat → Int32) : (Int32 × (Nat → Int32)) := (R_L_minute_202 K_3 n t0_43 s_124 1)
def R_L_minute_201 (K_3 : Nat → (Nat → Int32) → (Int32 × (Nat → Int32))) (n : Nat) (t0_43 : Int32) (s_124 : Nat → Int32) : (Int32 × (Nat → Int32)) := (R_L_minute_202 K_3 n t0_43 s_124 0)
def R_L_minute_124 (K_3 : Nat → (Nat → Int32) → (Int32 × (Nat → Int32))) (n : Nat) (t0_43 : Int32) (s_124 : Nat → Int32) : (Int32 × (Nat → Int32)) := (if (s_124 (58 + 9 * n + 2)) ≤ 0 then (R_L_minute_431 K_3 n t0_43 s_124) else (if (s_124 (58 + 9 * n + 8)) = 1 then (R_L_minute_197 K_3 n t0_43 s_124 ) else (if (s_124 (58 + 9 * n + 2)) = 1 then (if (s_124 (58 + 9 * n + 1)) ≤ (s_124 (58 + 9 * n + 3)) then (R_L_minute_201 K_3 n t0_43 s_124 ) else (if (s_124 (13 + (s_124 (58 + 9 * n + 3)).toNatClampNeg)) ≤ 0 then (R_L_minute_201 K_3 n t0_43 s_124 ) else (R_L_minute_197 K_3 n t0_43 s_124 ))) else (R_L_minute_201 K_3 n t0_43 s_124 ))))
def R_L_minute_43 (K_3 : Nat → (Nat → Int32) → (Int32 × (Nat → Int32))) (n : Nat) (s_3 : Nat → Int32) (t0_43 : Int32) : (Int32 × (Nat → Int32)) := (if (s_3 (58 + 9 * n + 2)) = 0 then (if (s_3 (58 + 9 * n + 1)) ≤ 0 then (R_L_minute_124 K_3 n t0_43 s_3) else (if (R_L_inTime s_3 (nI n) (s_3 (58 + 9 * n + 1)) 1) = 0 then (if (R_L_why s_3 (nI n) ((s_3 (58 + 9 * n + 1)) - 1)) = 0 then (R_L_minute_124 K_3 n t0_43 (R_L_sets s_3 (nI n) ((s_3 (58 + 9 * n + 1)) - 1))) else (R_L_minute_124 K_3 n t0_43 s_3)) else (R_L_minute_124 K_3 n t0_43 s_3))) else (R_L_minute_124 K_3 n t0_43 s_3))
def R_L_minute_42 (K_3 : Nat → (Nat → Int32) → (Int32 × (Nat → Int32))) (n : Nat) (s_3 : Nat → Int32) : (Int32 × (Nat → Int32)) := (R_L_minute_43 K_3 n s_3 0)
def R_L_minute_3 (s : Nat → Int32) : Nat → Nat → (Nat → Int32) → (Int32 × (Nat → Int32))
  | 0, _, _ => (0, s)
  | f + 1, n, s_3 => (if (s_3 (2)) ≤ (nI n) then (if (s_3 (3)) < (s_3 (9)) then (R_L_minute_567 s s_3 ) else (if (s_3 (10)) ≤ (s_3 (3)) then (R_L_minute_567 s s_3 ) else (R_L_minute_568 s s_3 1))) else (if (s_3 (58 + 9 * n + 1)) = 0 then (if (s_3 (58 + 9 * n + 2)) = 0 then (R_L_minute_43 (R_L_minute_3 s f) n s_3 1) else (R_L_minute_42 (R_L_minute_3 s f) n s_3 )) else (R_L_minute_42 (R_L_minute_3 s f) n s_3 )))
def R_L_minute (s : Nat → Int32) : (Int32 × (Nat → Int32)) := (R_L_minute_3 s 7 0 s)
set_option maxRecDepth 100000 in
set_option maxHeartbeats 4000000 in
theorem walk_L_minute {X : g_X} (O : g_ok X cL_minute RL (some .int) ({ frames := 3, cells := 0, slots := 0, locals := 77 } : Room)) (hs : (g_xl X).stackTraces = false) (hn : g_xn X = 12) {m : Nat → Int32} {lm : Nat → Int64} {pm : Nat → Nat} {s : Nat → Int32} (p0 : g_J s) : g_V X (fun r : Int32 × (Nat → Int32) => ((.inl (some (.int r.1)), (m, r.2, lm, pm)) : g_Res)) (R_L_minute s) 0 0 m (s, lm, pm) 0 [(0, .ref (g_ad X 124)), (1, .ref (g_ad X 125)), (2, .ref (g_ad X 126)), (3, .ref (g_ad X 127)), (4, .ref (g_ad X 128)), (5, .ref (g_ad X 129)), (6, .ref (g_ad X 130))] [] := by
  have hN : ∀ i, Nat.blt i 12 = true → i < g_xn X := fun i h => by rw [hn]; exact g_blt.mp h
  refine r_iconst (x := 0) O dL_minute_0 rfl ?_
  refine r_istore (lc' := [(7, .int 0), (0, .ref (g_ad X 124)), (1, .ref (g_ad X 125)), (2, .ref (g_ad X 126)), (3, .ref (g_ad X 127)), (4, .ref (g_ad X 128)), (5, .ref (g_ad X 129)), (6, .ref (g_ad X 130))]) O dL_minute_1 (hN 7 rfl) rfl ?_
  have L_3 : ∀ (f_3 : Nat) (n : Nat) (s_3 : Nat → Int32) (hi_3 : n ≤ 6 ∧ 6 < f_3 + n ∧ lfr s s_3 n), g_V X (fun r : Int32 × (Nat → Int32) => ((.inl (some (.int r.1)), (m, r.2, lm, pm)) : g_Res)) (R_L_minute_3 s f_3 n s_3) 0 0 m (s_3, lm, pm) 3 [(0, .ref (g_ad X 124)), (1, .ref (g_ad X 125)), (2, .ref (g_ad X 126)), (3, .ref (g_ad X 127)), (4, .ref (g_ad X 128)), (5, .ref (g_ad X 129)), (6, .ref (g_ad X 130)), (7, .int (nI n))] [] := by
    intro f_3
    induction f_3 with
    | zero => intro n s_3 hi_3; exact absurd hi_3 (by omega)
    | succ f_3 ih_3 =>
      intro n s_3 hi_3
      have hc_n : (nI n).toInt = (n : Int) := nI_toInt (by omega)
      obtain ⟨hi1, hi2, hi3⟩ := hi_3
      have h33 := lfr_lo p0 hi3
      obtain ⟨h30, h32, h36, h36b⟩ := h33
      refine r_iload O 7 dL_minute_3 rfl ?_
      refine r_aload_n O 0 dL_minute_5 rfl rfl ?_
      refine r_iconst (x := 2) O dL_minute_6 rfl ?_
      refine r_ialn (b := 0) (loc := 2) O R_124 (g_vin (by decide) (by decide)) rfl dL_minute_7 ?_
      refine r_icmp_ge O 540 dL_minute_8 (by decide) (fun c_8 => ?_) (fun c_8 => ?_)
      · have e_8 : (s_3 (2)).toInt ≤ (nI n).toInt := j_le c_8
        refine r_iconst (x := 0) O dL_minute_540 rfl ?_
        refine r_istore (lc' := [(7, .int 0), (0, .ref (g_ad X 124)), (1, .ref (g_ad X 125)), (2, .ref (g_ad X 126)), (3, .ref (g_ad X 127)), (4, .ref (g_ad X 128)), (5, .ref (g_ad X 129)), (6, .ref (g_ad X 130))]) O dL_minute_541 (hN 7 rfl) rfl ?_
        refine r_aload_n O 1 dL_minute_543 rfl rfl ?_
        refine r_bipush (x := 9) O dL_minute_544 rfl ?_
        refine r_ialn (b := 0) (loc := 9) O R_124 (g_vin (by decide) (by decide)) rfl dL_minute_546 ?_
        refine r_aload_n O 1 dL_minute_547 rfl rfl ?_
        refine r_iconst (x := 3) O dL_minute_548 rfl ?_
        refine r_ialn (b := 0) (loc := 3) O R_124 (g_vin (by decide) (by decide)) rfl dL_minute_549 ?_
        have J_568 : ∀ (t0_568 : Int32), g_V X (fun r : Int32 × (Nat → Int32) => ((.inl (some (.int r.1)), (m, r.2, lm, pm)) : g_Res)) (R_L_minute_568 s s_3 t0_568) 0 0 m (s_3, lm, pm) 568 [(0, .ref (g_ad X 124)), (6, .ref (g_ad X 130)), (7, .int 0)] [.int t0_568] := by
          intro t0_568
          refine r_istore (lc' := [(8, .int t0_568), (0, .ref (g_ad X 124)), (6, .ref (g_ad X 130)), (7, .int 0)]) O dL_minute_568 (hN 8 rfl) rfl ?_
          refine r_iconst (x := 0) O dL_minute_570 rfl ?_
          refine r_istore (lc' := [(9, .int 0), (8, .int t0_568), (0, .ref (g_ad X 124)), (6, .ref (g_ad X 130)), (7, .int 0)]) O dL_minute_571 (hN 9 rfl) rfl ?_
          refine r_iconst (x := 0) O dL_minute_573 rfl ?_
          refine r_istore (lc' := [(10, .int 0), (9, .int 0), (8, .int t0_568), (0, .ref (g_ad X 124)), (6, .ref (g_ad X 130)), (7, .int 0)]) O dL_minute_574 (hN 10 rfl) rfl ?_
          have L_576 : ∀ (f_576 : Nat) (v7_576 : Int32) (y : Nat) (k : Nat) (s_576 : Nat → Int32) (hi_576 : y ≤ k ∧ k ≤ 10 ∧ 10 < f_576 + k ∧ (s_576 (6)).toInt ≤ 10), g_V X (fun r : Int32 × (Nat → Int32) => ((.inl (some (.int r.1)), (m, r.2, lm, pm)) : g_Res)) (R_L_minute_576 s t0_568 f_576 v7_576 y k s_576) 0 0 m (s_576, lm, pm) 576 [(0, .ref (g_ad X 124)), (6, .ref (g_ad X 130)), (7, .int v7_576), (8, .int t0_568), (9, .int (nI y)), (10, .int (nI k))] [] := by
            intro f_576
            induction f_576 with
            | zero => intro v7_576 y k s_576 hi_576; exact absurd hi_576 (by omega)
            | succ f_576 ih_576 =>
              intro v7_576 y k s_576 hi_576
              have hc_y : (nI y).toInt = (y : Int) := nI_toInt (by omega)
              have hc_k : (nI k).toInt = (k : Int) := nI_toInt (by omega)
              refine r_iload O 5 dL_minute_576 rfl ?_
              refine r_aload_n O 0 dL_minute_578 rfl rfl ?_
              refine r_bipush (x := 6) O dL_minute_579 rfl ?_
              refine r_ialn (b := 0) (loc := 6) O R_124 (g_vin (by decide) (by decide)) rfl dL_minute_581 ?_
              refine r_icmp_ge O 679 dL_minute_582 (by decide) (fun c_582 => ?_) (fun c_582 => ?_)
              · have e_582 : (s_576 (6)).toInt ≤ (nI k).toInt := j_le c_582
                refine r_aload_n O 0 dL_minute_679 rfl rfl ?_
                refine r_bipush (x := 6) O dL_minute_680 rfl ?_
                refine r_iload O 4 dL_minute_682 rfl ?_
                refine r_iasn (b := 0) (loc := 6) O T_124 (g_vin (by decide) (by decide)) rfl dL_minute_684 ?_
                refine r_aload_n O 0 dL_minute_685 rfl rfl ?_
                refine r_bipush (x := 7) O dL_minute_686 rfl ?_
                refine r_dup2 O dL_minute_688 rfl rfl ?_
                refine r_ialv (b := 0) (loc := 7) (v := (s_576 (7))) O R_124 (g_vin (by decide) (by decide)) rfl (by rw [g_upd_ne (by with_reducible omega)]) dL_minute_689 ?_
                refine r_iload O 2 dL_minute_690 rfl ?_
                refine r_iadd O dL_minute_692 ?_
                refine r_iasn (b := 0) (loc := 7) O T_124 (g_vin (by decide) (by decide)) rfl dL_minute_693 ?_
                refine r_aload_n O 0 dL_minute_694 rfl rfl ?_
                refine r_iconst (x := 3) O dL_minute_695 rfl ?_
                refine r_dup2 O dL_minute_696 rfl rfl ?_
                refine r_ialv (b := 0) (loc := 3) (v := (s_576 (3))) O R_124 (g_vin (by decide) (by decide)) rfl (by rw [g_upd_ne (by with_reducible omega), g_upd_ne (by with_reducible omega)]) dL_minute_697 ?_
                refine r_iconst (x := 1) O dL_minute_698 rfl ?_
                refine r_iadd O dL_minute_699 ?_
                refine r_iasn (b := 0) (loc := 3) O T_124 (g_vin (by decide) (by decide)) rfl dL_minute_700 ?_
                refine r_iload O 2 dL_minute_701 rfl ?_
                exact r_iret O dL_minute_703 rfl (Nat.le_of_ble_eq_true rfl) (Nat.le_of_ble_eq_true rfl) rfl
              · have e_582 : (nI k).toInt < (s_576 (6)).toInt := j_nle c_582
                refine r_aload O 1 dL_minute_585 rfl ?_
                refine r_iconst (x := 3) O dL_minute_587 rfl ?_
                refine r_iload O 5 dL_minute_588 rfl ?_
                refine r_imul O dL_minute_590 ?_
                refine r_iconst (x := 2) O dL_minute_591 rfl ?_
                refine r_iadd O dL_minute_592 ?_
                have ix_593 : ((3 * (nI k)) + 2).toInt = (((3 : Int) * (nI k).toInt) + (2 : Int)) := (j_addE (j_mulE rfl rfl (by with_reducible omega) (by with_reducible omega)) rfl (by with_reducible omega) (by with_reducible omega))
                have iy_593 := j_nat (x := ((3 * (nI k)) + 2)) (by with_reducible omega)
                refine r_ialn (b := 112) (loc := 114 + 3 * k) O R_130 (show vp_in ((3 * (nI k)) + 2) 30 from g_vin (by with_reducible omega) (by with_reducible omega)) (by with_reducible omega) dL_minute_593 ?_
                refine r_iload O 3 dL_minute_594 rfl ?_
                have J_604 : ∀ (t0_604 : Int32), g_V X (fun r : Int32 × (Nat → Int32) => ((.inl (some (.int r.1)), (m, r.2, lm, pm)) : g_Res)) (R_L_minute_604 ((R_L_minute_576 s t0_568 f_576)) v7_576 y k s_576 t0_604) 0 0 m (s_576, lm, pm) 604 [(0, .ref (g_ad X 124)), (6, .ref (g_ad X 130)), (7, .int v7_576), (8, .int t0_568), (9, .int (nI y)), (10, .int (nI k))] [.int t0_604, .int (s_576 (114 + 3 * k))] := by
                  intro t0_604
                  refine r_isub O dL_minute_604 ?_
                  refine r_istore (lc' := [(11, .int ((s_576 (114 + 3 * k)) - t0_604)), (0, .ref (g_ad X 124)), (6, .ref (g_ad X 130)), (7, .int v7_576), (8, .int t0_568), (9, .int (nI y)), (10, .int (nI k))]) O dL_minute_605 (hN 11 rfl) rfl ?_
                  refine r_iload O 3 dL_minute_607 rfl ?_
                  refine r_iload O 0 dL_minute_609 rfl ?_
                  have J_619 : ∀ (t0_619 : Int32), g_V X (fun r : Int32 × (Nat → Int32) => ((.inl (some (.int r.1)), (m, r.2, lm, pm)) : g_Res)) (R_L_minute_619 ((R_L_minute_576 s t0_568 f_576)) v7_576 y k s_576 t0_604 t0_619) 0 0 m (s_576, lm, pm) 619 [(0, .ref (g_ad X 124)), (6, .ref (g_ad X 130)), (8, .int t0_568), (9, .int (nI y)), (10, .int (nI k)), (11, .int ((s_576 (114 + 3 * k)) - t0_604))] [.int t0_619, .int v7_576] := by
                    intro t0_619
                    refine r_iadd O dL_minute_619 ?_
                    refine r_istore (lc' := [(7, .int (v7_576 + t0_619)), (0, .ref (g_ad X 124)), (6, .ref (g_ad X 130)), (8, .int t0_568), (9, .int (nI y)), (10, .int (nI k)), (11, .int ((s_576 (114 + 3 * k)) - t0_604))]) O dL_minute_620 (hN 7 rfl) rfl ?_
                    refine r_iload O 6 dL_minute_622 rfl ?_
                    have J_673 : ∀ (y2 : Nat) (s_673 : Nat → Int32) (hj0 : y2 ≤ k + 1) (hj1 : (s_673 (6)).toInt ≤ 10), g_V X (fun r : Int32 × (Nat → Int32) => ((.inl (some (.int r.1)), (m, r.2, lm, pm)) : g_Res)) (R_L_minute_673 ((R_L_minute_576 s t0_568 f_576)) v7_576 k t0_619 y2 s_673) 0 0 m (s_673, lm, pm) 673 [(0, .ref (g_ad X 124)), (6, .ref (g_ad X 130)), (7, .int (v7_576 + t0_619)), (8, .int t0_568), (9, .int (nI y2)), (10, .int (nI k))] [] := by
                      intro y2 s_673 hj0 hj1
                      refine r_iinc (lc' := [(10, .int (nI (k + 1))), (0, .ref (g_ad X 124)), (6, .ref (g_ad X 130)), (7, .int (v7_576 + t0_619)), (8, .int t0_568), (9, .int (nI y2))]) O 5 dL_minute_673 rfl (nI_1 k) (hN 10 rfl) rfl ?_
                      refine r_goto O 576 dL_minute_676 (by decide) ?_
                      refine r_sub [1, 2, 3, 4, 5, 0] rfl ?_
                      exact ih_576 (v7_576 + t0_619) y2 (k + 1) s_673 ⟨(by first | decide | with_reducible assumption | with_reducible omega | (simp (disch := omega) only [g_upd_ne, g_upd_eq]; first | with_reducible assumption | with_reducible omega | decide) | exact Or.inl rfl | exact Or.inr rfl), (by first | decide | with_reducible assumption | with_reducible omega | (simp (disch := omega) only [g_upd_ne, g_upd_eq]; first | with_reducible assumption | with_reducible omega | decide) | exact Or.inl rfl | exact Or.inr rfl), (by first | decide | with_reducible assumption | with_reducible omega | (simp (disch := omega) only [g_upd_ne, g_upd_eq]; first | with_reducible assumption | with_reducible omega | decide) | exact Or.inl rfl | exact Or.inr rfl), (by first | decide | with_reducible assumption | with_reducible omega | (simp (disch := omega) only [g_upd_ne, g_upd_eq]; first | with_reducible assumption | with_reducible omega | decide) | exact Or.inl rfl | exact Or.inr rfl)⟩
                    refine r_if_le O 673 dL_minute_624 (by decide) (fun c_624 => ?_) (fun c_624 => ?_)
                    · have e_624 : ((s_576 (114 + 3 * k)) - t0_604).toInt ≤ (0 : Int) := j_leR c_624 rfl
                      refine r_sub [1, 2, 0, 3, 4, 5] rfl ?_
                      exact J_673 y s_576 (by first | with_reducible omega | (rw [g_upd_ne (by with_reducible omega), g_upd_ne (by with_reducible omega), g_upd_ne (by with_reducible omega)]; with_reducible omega)) (by first | with_reducible omega | (rw [g_upd_ne (by with_reducible omega), g_upd_ne (by with_reducible omega), g_upd_ne (by with_reducible omega)]; with_reducible omega))
                    · have e_624 : (0 : Int) < ((s_576 (114 + 3 * k)) - t0_604).toInt := j_nleR c_624 rfl
                      refine r_aload O 2 dL_minute_627 rfl ?_
                      refine r_iconst (x := 3) O dL_minute_629 rfl ?_
                      refine r_iload O 4 dL_minute_630 rfl ?_
                      refine r_imul O dL_minute_632 ?_
                      refine r_aload O 2 dL_minute_633 rfl ?_
                      refine r_iconst (x := 3) O dL_minute_635 rfl ?_
                      refine r_iload O 5 dL_minute_636 rfl ?_
                      refine r_imul O dL_minute_638 ?_
                      have ix_639 : (3 * (nI k)).toInt = ((3 : Int) * (nI k).toInt) := (j_mulE rfl rfl (by with_reducible omega) (by with_reducible omega))
                      have iy_639 := j_nat (x := (3 * (nI k))) (by with_reducible omega)
                      refine r_ialn (b := 112) (loc := 112 + 3 * k) O R_130 (show vp_in (3 * (nI k)) 30 from g_vin (by with_reducible omega) (by with_reducible omega)) (by with_reducible omega) dL_minute_639 ?_
                      have ix_640 : (3 * (nI y)).toInt = ((3 : Int) * (nI y).toInt) := (j_mulE rfl rfl (by with_reducible omega) (by with_reducible omega))
                      have iy_640 := j_nat (x := (3 * (nI y))) (by with_reducible omega)
                      refine r_iasn (b := 112) (loc := 112 + 3 * y) O T_130 (show vp_in (3 * (nI y)) 30 from g_vin (by with_reducible omega) (by with_reducible omega)) (by with_reducible omega) dL_minute_640 ?_
                      refine r_aload O 2 dL_minute_641 rfl ?_
                      refine r_iconst (x := 3) O dL_minute_643 rfl ?_
                      refine r_iload O 4 dL_minute_644 rfl ?_
                      refine r_imul O dL_minute_646 ?_
                      refine r_iconst (x := 1) O dL_minute_647 rfl ?_
                      refine r_iadd O dL_minute_648 ?_
                      refine r_aload O 2 dL_minute_649 rfl ?_
                      refine r_iconst (x := 3) O dL_minute_651 rfl ?_
                      refine r_iload O 5 dL_minute_652 rfl ?_
                      refine r_imul O dL_minute_654 ?_
                      refine r_iconst (x := 1) O dL_minute_655 rfl ?_
                      refine r_iadd O dL_minute_656 ?_
                      have ix_657 : ((3 * (nI k)) + 1).toInt = (((3 : Int) * (nI k).toInt) + (1 : Int)) := (j_addE (j_mulE rfl rfl (by with_reducible omega) (by with_reducible omega)) rfl (by with_reducible omega) (by with_reducible omega))
                      have iy_657 := j_nat (x := ((3 * (nI k)) + 1)) (by with_reducible omega)
                      refine r_ialv (b := 112) (loc := 113 + 3 * k) (v := (s_576 (113 + 3 * k))) O R_130 (show vp_in ((3 * (nI k)) + 1) 30 from g_vin (by with_reducible omega) (by with_reducible omega)) (by with_reducible omega) (by rw [g_upd_ne (by with_reducible omega)]) dL_minute_657 ?_
                      have ix_658 : ((3 * (nI y)) + 1).toInt = (((3 : Int) * (nI y).toInt) + (1 : Int)) := (j_addE (j_mulE rfl rfl (by with_reducible omega) (by with_reducible omega)) rfl (by with_reducible omega) (by with_reducible omega))
                      have iy_658 := j_nat (x := ((3 * (nI y)) + 1)) (by with_reducible omega)
                      refine r_iasn (b := 112) (loc := 113 + 3 * y) O T_130 (show vp_in ((3 * (nI y)) + 1) 30 from g_vin (by with_reducible omega) (by with_reducible omega)) (by with_reducible omega) dL_minute_658 ?_
                      refine r_aload O 2 dL_minute_659 rfl ?_
                      refine r_iconst (x := 3) O dL_minute_661 rfl ?_
                      refine r_iload O 4 dL_minute_662 rfl ?_
                      refine r_imul O dL_minute_664 ?_
                      refine r_iconst (x := 2) O dL_minute_665 rfl ?_
                      refine r_iadd O dL_minute_666 ?_
                      refine r_iload O 6 dL_minute_667 rfl ?_
                      have ix_669 : ((3 * (nI y)) + 2).toInt = (((3 : Int) * (nI y).toInt) + (2 : Int)) := (j_addE (j_mulE rfl rfl (by with_reducible omega) (by with_reducible omega)) rfl (by with_reducible omega) (by with_reducible omega))
                      have iy_669 := j_nat (x := ((3 * (nI y)) + 2)) (by with_reducible omega)
                      refine r_iasn (b := 112) (loc := 114 + 3 * y) O T_130 (show vp_in ((3 * (nI y)) + 2) 30 from g_vin (by with_reducible omega) (by with_reducible omega)) (by with_reducible omega) dL_minute_669 ?_
                      refine r_iinc (lc' := [(9, .int (nI (y + 1))), (7, .int (v7_576 + t0_619)), (0, .ref (g_ad X 124)), (6, .ref (g_ad X 130)), (8, .int t0_568), (10, .int (nI k)), (11, .int ((s_576 (114 + 3 * k)) - t0_604))]) O 4 dL_minute_670 rfl (nI_1 y) (hN 9 rfl) rfl ?_
                      refine r_sub [2, 3, 1, 4, 0, 5] rfl ?_
                      exact J_673 (y + 1) (upd (upd (upd s_576 (112 + 3 * y) (s_576 (112 + 3 * k))) (113 + 3 * y) (s_576 (113 + 3 * k))) (114 + 3 * y) ((s_576 (114 + 3 * k)) - t0_604)) (by first | with_reducible omega | (rw [g_upd_ne (by with_reducible omega), g_upd_ne (by with_reducible omega), g_upd_ne (by with_reducible omega)]; with_reducible omega)) (by first | with_reducible omega | (rw [g_upd_ne (by with_reducible omega), g_upd_ne (by with_reducible omega), g_upd_ne (by with_reducible omega)]; with_reducible omega))
                  refine r_if_ne O 618 dL_minute_611 (by decide) (fun c_611 => ?_) (fun c_611 => ?_)
                  · have e_611 : ((s_576 (114 + 3 * k)) - t0_604).toInt = (0 : Int) := j_eqR c_611 rfl
                    refine r_iconst (x := 1) O dL_minute_614 rfl ?_
                    refine r_goto O 619 dL_minute_615 (by decide) ?_
                    refine r_sub [1, 2, 4, 5, 6, 0] rfl ?_
                    exact J_619 1
                  · have e_611 : ((s_576 (114 + 3 * k)) - t0_604).toInt ≠ (0 : Int) := j_neR c_611 rfl
                    refine r_iconst (x := 0) O dL_minute_618 rfl ?_
                    refine r_sub [1, 2, 4, 5, 6, 0] rfl ?_
                    exact J_619 0
                refine r_if_eq O 603 dL_minute_596 (by decide) (fun c_596 => ?_) (fun c_596 => ?_)
                · have e_596 : (t0_568).toInt = (0 : Int) := j_eqR c_596 rfl
                  refine r_iconst (x := 1) O dL_minute_603 rfl ?_
                  exact J_604 1
                · have e_596 : (t0_568).toInt ≠ (0 : Int) := j_neR c_596 rfl
                  refine r_iconst (x := 0) O dL_minute_599 rfl ?_
                  refine r_goto O 604 dL_minute_600 (by decide) ?_
                  exact J_604 0
          refine r_sub [3, 4, 5, 2, 1, 0] rfl ?_
          exact L_576 11 0 0 0 s_3 ⟨(by first | decide | with_reducible assumption | with_reducible omega | (simp (disch := omega) only [g_upd_ne, g_upd_eq]; first | with_reducible assumption | with_reducible omega | decide) | exact Or.inl rfl | exact Or.inr rfl), (by first | decide | with_reducible assumption | with_reducible omega | (simp (disch := omega) only [g_upd_ne, g_upd_eq]; first | with_reducible assumption | with_reducible omega | decide) | exact Or.inl rfl | exact Or.inr rfl), (by first | decide | with_reducible assumption | with_reducible omega | (simp (disch := omega) only [g_upd_ne, g_upd_eq]; first | with_reducible assumption | with_reducible omega | decide) | exact Or.inl rfl | exact Or.inr rfl), (by first | decide | with_reducible assumption | with_reducible omega | (simp (disch := omega) only [g_upd_ne, g_upd_eq]; first | with_reducible assumption | with_reducible omega | decide) | exact Or.inl rfl | exact Or.inr rfl)⟩
        have J_567 : g_V X (fun r : Int32 × (Nat → Int32) => ((.inl (some (.int r.1)), (m, r.2, lm, pm)) : g_Res)) (R_L_minute_567 s s_3 ) 0 0 m (s_3, lm, pm) 567 [(0, .ref (g_ad X 124)), (6, .ref (g_ad X 130)), (7, .int 0)] [] := by
          refine r_iconst (x := 0) O dL_minute_567 rfl ?_
          exact J_568 0
        refine r_icmp_gt O 567 dL_minute_550 (by decide) (fun c_550 => ?_) (fun c_550 => ?_)
        · have e_550 : (s_3 (3)).toInt < (s_3 (9)).toInt := j_lt c_550
          refine r_sub [1, 7, 0] rfl ?_
          exact J_567
        · have e_550 : (s_3 (9)).toInt ≤ (s_3 (3)).toInt := j_nlt c_550
          refine r_aload_n O 1 dL_minute_553 rfl rfl ?_
          refine r_iconst (x := 3) O dL_minute_554 rfl ?_
          refine r_ialn (b := 0) (loc := 3) O R_124 (g_vin (by decide) (by decide)) rfl dL_minute_555 ?_
          refine r_aload_n O 1 dL_minute_556 rfl rfl ?_
          refine r_bipush (x := 10) O dL_minute_557 rfl ?_
          refine r_ialn (b := 0) (loc := 10) O R_124 (g_vin (by decide) (by decide)) rfl dL_minute_559 ?_
          refine r_icmp_ge O 567 dL_minute_560 (by decide) (fun c_560 => ?_) (fun c_560 => ?_)
          · have e_560 : (s_3 (10)).toInt ≤ (s_3 (3)).toInt := j_le c_560
            refine r_sub [1, 7, 0] rfl ?_
            exact J_567
          · have e_560 : (s_3 (3)).toInt < (s_3 (10)).toInt := j_nle c_560
            refine r_iconst (x := 1) O dL_minute_563 rfl ?_
            refine r_goto O 568 dL_minute_564 (by decide) ?_
            refine r_sub [1, 7, 0] rfl ?_
            exact J_568 1
      · have e_8 : (nI n).toInt < (s_3 (2)).toInt := j_nle c_8
        obtain ⟨q1a, q1b, q5, q2, q3, q4⟩ := L_hpj p0 hi3 e_8
        refine r_bipush (x := 9) O dL_minute_11 rfl ?_
        refine r_iload O 7 dL_minute_13 rfl ?_
        refine r_imul O dL_minute_15 ?_
        refine r_istore (lc' := [(8, .int (9 * (nI n))), (0, .ref (g_ad X 124)), (1, .ref (g_ad X 125)), (2, .ref (g_ad X 126)), (3, .ref (g_ad X 127)), (4, .ref (g_ad X 128)), (5, .ref (g_ad X 129)), (6, .ref (g_ad X 130)), (7, .int (nI n))]) O dL_minute_16 (hN 8 rfl) rfl ?_
        refine r_aload O 6 dL_minute_18 rfl ?_
        refine r_iload O 0 dL_minute_20 rfl ?_
        refine r_iconst (x := 1) O dL_minute_22 rfl ?_
        refine r_iadd O dL_minute_23 ?_
        have ix_24 : ((9 * (nI n)) + 1).toInt = (((9 : Int) * (nI n).toInt) + (1 : Int)) := (j_addE (j_mulE rfl rfl (by with_reducible omega) (by with_reducible omega)) rfl (by with_reducible omega) (by with_reducible omega))
        have iy_24 := j_nat (x := ((9 * (nI n)) + 1)) (by with_reducible omega)
        refine r_ialn (b := 58) (loc := 58 + 9 * n + 1) O R_129 (show vp_in ((9 * (nI n)) + 1) 54 from g_vin (by with_reducible omega) (by with_reducible omega)) (by with_reducible omega) dL_minute_24 ?_
        have J_43 : ∀ (t0_43 : Int32), g_V X (fun r : Int32 × (Nat → Int32) => ((.inl (some (.int r.1)), (m, r.2, lm, pm)) : g_Res)) (R_L_minute_43 ((R_L_minute_3 s f_3)) n s_3 t0_43) 0 0 m (s_3, lm, pm) 43 [(0, .ref (g_ad X 124)), (1, .ref (g_ad X 125)), (2, .ref (g_ad X 126)), (3, .ref (g_ad X 127)), (4, .ref (g_ad X 128)), (5, .ref (g_ad X 129)), (6, .ref (g_ad X 130)), (7, .int (nI n)), (8, .int (9 * (nI n)))] [.int t0_43] := by
          intro t0_43
          refine r_istore (lc' := [(9, .int t0_43), (0, .ref (g_ad X 124)), (1, .ref (g_ad X 125)), (2, .ref (g_ad X 126)), (3, .ref (g_ad X 127)), (4, .ref (g_ad X 128)), (5, .ref (g_ad X 129)), (6, .ref (g_ad X 130)), (7, .int (nI n)), (8, .int (9 * (nI n)))]) O dL_minute_43 (hN 9 rfl) rfl ?_
          refine r_aload O 6 dL_minute_45 rfl ?_
          refine r_iload O 9 dL_minute_47 rfl ?_
          refine r_iconst (x := 2) O dL_minute_49 rfl ?_
          refine r_iadd O dL_minute_50 ?_
          have ix_51 : ((9 * (nI n)) + 2).toInt = (((9 : Int) * (nI n).toInt) + (2 : Int)) := (j_addE (j_mulE rfl rfl (by with_reducible omega) (by with_reducible omega)) rfl (by with_reducible omega) (by with_reducible omega))
          have iy_51 := j_nat (x := ((9 * (nI n)) + 2)) (by with_reducible omega)
          refine r_ialn (b := 58) (loc := 58 + 9 * n + 2) O R_129 (show vp_in ((9 * (nI n)) + 2) 54 from g_vin (by with_reducible omega) (by with_reducible omega)) (by with_reducible omega) dL_minute_51 ?_
          have J_124 : ∀ (s_124 : Nat → Int32) (hj0 : lfr s s_124 (n + 1)) (hj1 : (s_124 (58 + 9 * n + 1)).toInt = (s_3 (58 + 9 * n + 1)).toInt) (hj2 : (s_124 (58 + 9 * n + 5)).toInt = (s_3 (58 + 9 * n + 5)).toInt) (hj3 : ((s_124 (58 + 9 * n + 2)).toInt = (s_3 (58 + 9 * n + 2)).toInt ∧ (s_124 (58 + 9 * n + 3)).toInt = (s_3 (58 + 9 * n + 3)).toInt) ∨ ((s_124 (58 + 9 * n + 2)).toInt = 1 ∧ 0 ≤ (s_124 (58 + 9 * n + 3)).toInt)), g_V X (fun r : Int32 × (Nat → Int32) => ((.inl (some (.int r.1)), (m, r.2, lm, pm)) : g_Res)) (R_L_minute_124 ((R_L_minute_3 s f_3)) n t0_43 s_124) 0 0 m (s_124, lm, pm) 124 [(0, .ref (g_ad X 124)), (1, .ref (g_ad X 125)), (2, .ref (g_ad X 126)), (3, .ref (g_ad X 127)), (4, .ref (g_ad X 128)), (5, .ref (g_ad X 129)), (6, .ref (g_ad X 130)), (7, .int (nI n)), (8, .int (9 * (nI n))), (9, .int t0_43)] [] := by
            intro s_124 hj0 hj1 hj2 hj3
            refine r_aload O 5 dL_minute_124 rfl ?_
            refine r_iload O 8 dL_minute_126 rfl ?_
            refine r_iconst (x := 2) O dL_minute_128 rfl ?_
            refine r_iadd O dL_minute_129 ?_
            have ix_130 : ((9 * (nI n)) + 2).toInt = (((9 : Int) * (nI n).toInt) + (2 : Int)) := (j_addE (j_mulE rfl rfl (by with_reducible omega) (by with_reducible omega)) rfl (by with_reducible omega) (by with_reducible omega))
            have iy_130 := j_nat (x := ((9 * (nI n)) + 2)) (by with_reducible omega)
            refine r_ialn (b := 58) (loc := 58 + 9 * n + 2) O R_129 (show vp_in ((9 * (nI n)) + 2) 54 from g_vin (by with_reducible omega) (by with_reducible omega)) (by with_reducible omega) dL_minute_130 ?_
            have J_431 : ∀ (s_431 : Nat → Int32) (hj0 : lfr s s_431 (n + 1)), g_V X (fun r : Int32 × (Nat → Int32) => ((.inl (some (.int r.1)), (m, r.2, lm, pm)) : g_Res)) (R_L_minute_431 ((R_L_minute_3 s f_3)) n t0_43 s_431) 0 0 m (s_431, lm, pm) 431 [(0, .ref (g_ad X 124)), (1, .ref (g_ad X 125)), (2, .ref (g_ad X 126)), (3, .ref (g_ad X 127)), (4, .ref (g_ad X 128)), (5, .ref (g_ad X 129)), (6, .ref (g_ad X 130)), (7, .int (nI n)), (8, .int (9 * (nI n))), (9, .int t0_43)] [] := by
              intro s_431 hj0
              refine r_aload O 5 dL_minute_431 rfl ?_
              refine r_iload O 8 dL_minute_433 rfl ?_
              refine r_bipush (x := 6) O dL_minute_435 rfl ?_
              refine r_iadd O dL_minute_437 ?_
              refine r_dup2 O dL_minute_438 rfl rfl ?_
              have ix_439 : ((9 * (nI n)) + 6).toInt = (((9 : Int) * (nI n).toInt) + (6 : Int)) := (j_addE (j_mulE rfl rfl (by with_reducible omega) (by with_reducible omega)) rfl (by with_reducible omega) (by with_reducible omega))
              have iy_439 := j_nat (x := ((9 * (nI n)) + 6)) (by with_reducible omega)
              refine r_ialn (b := 58) (loc := 58 + 9 * n + 6) O R_129 (show vp_in ((9 * (nI n)) + 6) 54 from g_vin (by with_reducible omega) (by with_reducible omega)) (by with_reducible omega) dL_minute_439 ?_
              refine r_iload O 9 dL_minute_440 rfl ?_
              have J_461 : ∀ (t0_461 : Int32), g_V X (fun r : Int32 × (Nat → Int32) => ((.inl (some (.int r.1)), (m, r.2, lm, pm)) : g_Res)) (R_L_minute_461 ((R_L_minute_3 s f_3)) n s_431 t0_461) 0 0 m (s_431, lm, pm) 461 [(0, .ref (g_ad X 124)), (1, .ref (g_ad X 125)), (2, .ref (g_ad X 126)), (3, .ref (g_ad X 127)), (4, .ref (g_ad X 128)), (5, .ref (g_ad X 129)), (6, .ref (g_ad X 130)), (7, .int (nI n)), (8, .int (9 * (nI n)))] [.int t0_461, .int (s_431 (58 + 9 * n + 6)), .int ((9 * (nI n)) + 6), .ref (g_ad X 129)] := by
                intro t0_461
                refine r_isub O dL_minute_461 ?_
                have ix_462 : ((9 * (nI n)) + 6).toInt = (((9 : Int) * (nI n).toInt) + (6 : Int)) := (j_addE (j_mulE rfl rfl (by with_reducible omega) (by with_reducible omega)) rfl (by with_reducible omega) (by with_reducible omega))
                have iy_462 := j_nat (x := ((9 * (nI n)) + 6)) (by with_reducible omega)
                refine r_iasn (b := 58) (loc := 58 + 9 * n + 6) O T_129 (show vp_in ((9 * (nI n)) + 6) 54 from g_vin (by with_reducible omega) (by with_reducible omega)) (by with_reducible omega) dL_minute_462 ?_
                refine r_aload O 5 dL_minute_463 rfl ?_
                refine r_iload O 8 dL_minute_465 rfl ?_
                refine r_bipush (x := 7) O dL_minute_467 rfl ?_
                refine r_iadd O dL_minute_469 ?_
                refine r_aload O 5 dL_minute_470 rfl ?_
                refine r_iload O 8 dL_minute_472 rfl ?_
                refine r_iconst (x := 2) O dL_minute_474 rfl ?_
                refine r_iadd O dL_minute_475 ?_
                have ix_476 : ((9 * (nI n)) + 2).toInt = (((9 : Int) * (nI n).toInt) + (2 : Int)) := (j_addE (j_mulE rfl rfl (by with_reducible omega) (by with_reducible omega)) rfl (by with_reducible omega) (by with_reducible omega))
                have iy_476 := j_nat (x := ((9 * (nI n)) + 2)) (by with_reducible omega)
                refine r_ialv (b := 58) (loc := 58 + 9 * n + 2) (v := (s_431 (58 + 9 * n + 2))) O R_129 (show vp_in ((9 * (nI n)) + 2) 54 from g_vin (by with_reducible omega) (by with_reducible omega)) (by with_reducible omega) (by rw [g_upd_ne (by with_reducible omega)]) dL_minute_476 ?_
                refine r_iconst (x := 1) O dL_minute_477 rfl ?_
                have J_505 : ∀ (t0_505 : Int32), g_V X (fun r : Int32 × (Nat → Int32) => ((.inl (some (.int r.1)), (m, r.2, lm, pm)) : g_Res)) (R_L_minute_505 ((R_L_minute_3 s f_3)) n s_431 t0_461 t0_505) 0 0 m ((upd s_431 (58 + 9 * n + 6) ((s_431 (58 + 9 * n + 6)) - t0_461)), lm, pm) 505 [(0, .ref (g_ad X 124)), (1, .ref (g_ad X 125)), (2, .ref (g_ad X 126)), (3, .ref (g_ad X 127)), (4, .ref (g_ad X 128)), (5, .ref (g_ad X 129)), (6, .ref (g_ad X 130)), (7, .int (nI n)), (8, .int (9 * (nI n)))] [.int t0_505, .int ((9 * (nI n)) + 7), .ref (g_ad X 129)] := by
                  intro t0_505
                  have ix_505 : ((9 * (nI n)) + 7).toInt = (((9 : Int) * (nI n).toInt) + (7 : Int)) := (j_addE (j_mulE rfl rfl (by with_reducible omega) (by with_reducible omega)) rfl (by with_reducible omega) (by with_reducible omega))
                  have iy_505 := j_nat (x := ((9 * (nI n)) + 7)) (by with_reducible omega)
                  refine r_iasn (b := 58) (loc := 58 + 9 * n + 7) O T_129 (show vp_in ((9 * (nI n)) + 7) 54 from g_vin (by with_reducible omega) (by with_reducible omega)) (by with_reducible omega) dL_minute_505 ?_
                  refine r_aload_n O 0 dL_minute_506 rfl rfl ?_
                  refine r_bipush (x := 11) O dL_minute_507 rfl ?_
                  refine r_dup2 O dL_minute_509 rfl rfl ?_
                  refine r_ialv (b := 0) (loc := 11) (v := (s_431 (11))) O R_124 (g_vin (by decide) (by decide)) rfl (by rw [g_upd_ne (by with_reducible omega), g_upd_ne (by with_reducible omega)]) dL_minute_510 ?_
                  refine r_aload O 5 dL_minute_511 rfl ?_
                  refine r_iload O 8 dL_minute_513 rfl ?_
                  refine r_bipush (x := 7) O dL_minute_515 rfl ?_
                  refine r_iadd O dL_minute_517 ?_
                  have ix_518 : ((9 * (nI n)) + 7).toInt = (((9 : Int) * (nI n).toInt) + (7 : Int)) := (j_addE (j_mulE rfl rfl (by with_reducible omega) (by with_reducible omega)) rfl (by with_reducible omega) (by with_reducible omega))
                  have iy_518 := j_nat (x := ((9 * (nI n)) + 7)) (by with_reducible omega)
                  refine r_ialv (b := 58) (loc := 58 + 9 * n + 7) (v := t0_505) O R_129 (show vp_in ((9 * (nI n)) + 7) 54 from g_vin (by with_reducible omega) (by with_reducible omega)) (by with_reducible omega) (by rw [g_upd_eq]) dL_minute_518 ?_
                  refine r_aload O 5 dL_minute_519 rfl ?_
                  refine r_iload O 8 dL_minute_521 rfl ?_
                  have ix_523 : (9 * (nI n)).toInt = ((9 : Int) * (nI n).toInt) := (j_mulE rfl rfl (by with_reducible omega) (by with_reducible omega))
                  have iy_523 := j_nat (x := (9 * (nI n))) (by with_reducible omega)
                  refine r_ialv (b := 58) (loc := 58 + 9 * n + 0) (v := (s_431 (58 + 9 * n + 0))) O R_129 (show vp_in (9 * (nI n)) 54 from g_vin (by with_reducible omega) (by with_reducible omega)) (by with_reducible omega) (by rw [g_upd_ne (by with_reducible omega), g_upd_ne (by with_reducible omega)]) dL_minute_523 ?_
                  have J_532 : ∀ (t0_532 : Int32), g_V X (fun r : Int32 × (Nat → Int32) => ((.inl (some (.int r.1)), (m, r.2, lm, pm)) : g_Res)) (R_L_minute_532 ((R_L_minute_3 s f_3)) n s_431 t0_461 t0_505 t0_532) 0 0 m ((upd (upd s_431 (58 + 9 * n + 6) ((s_431 (58 + 9 * n + 6)) - t0_461)) (58 + 9 * n + 7) t0_505), lm, pm) 532 [(0, .ref (g_ad X 124)), (1, .ref (g_ad X 125)), (2, .ref (g_ad X 126)), (3, .ref (g_ad X 127)), (4, .ref (g_ad X 128)), (5, .ref (g_ad X 129)), (6, .ref (g_ad X 130)), (7, .int (nI n))] [.int t0_532, .int (s_431 (11)), .int 11, .ref (g_ad X 124)] := by
                    intro t0_532
                    refine r_iadd O dL_minute_532 ?_
                    refine r_iasn (b := 0) (loc := 11) O T_124 (g_vin (by decide) (by decide)) rfl dL_minute_533 ?_
                    refine r_iinc (lc' := [(7, .int (nI (n + 1))), (0, .ref (g_ad X 124)), (1, .ref (g_ad X 125)), (2, .ref (g_ad X 126)), (3, .ref (g_ad X 127)), (4, .ref (g_ad X 128)), (5, .ref (g_ad X 129)), (6, .ref (g_ad X 130))]) O 7 dL_minute_534 rfl (nI_1 n) (hN 7 rfl) rfl ?_
                    refine r_goto O 3 dL_minute_537 (by decide) ?_
                    refine r_sub [1, 2, 3, 4, 5, 6, 7, 0] rfl ?_
                    exact ih_3 (n + 1) (upd (upd (upd s_431 (58 + 9 * n + 6) ((s_431 (58 + 9 * n + 6)) - t0_461)) (58 + 9 * n + 7) t0_505) (11) ((s_431 (11)) + t0_532)) ⟨(by with_reducible omega), (by with_reducible omega), (by repeat (first | with_reducible assumption | refine lfr_u ?_ (by with_reducible omega)))⟩
                  refine r_icmp_le O 531 dL_minute_524 (by decide) (fun c_524 => ?_) (fun c_524 => ?_)
                  · have e_524 : (t0_505).toInt ≤ (s_431 (58 + 9 * n + 0)).toInt := j_le c_524
                    refine r_iconst (x := 0) O dL_minute_531 rfl ?_
                    refine r_sub [0, 1, 2, 3, 4, 5, 6, 7] rfl ?_
                    exact J_532 0
                  · have e_524 : (s_431 (58 + 9 * n + 0)).toInt < (t0_505).toInt := j_nle c_524
                    refine r_iconst (x := 1) O dL_minute_527 rfl ?_
                    refine r_goto O 532 dL_minute_528 (by decide) ?_
                    refine r_sub [0, 1, 2, 3, 4, 5, 6, 7] rfl ?_
                    exact J_532 1
                have J_491 : g_V X (fun r : Int32 × (Nat → Int32) => ((.inl (some (.int r.1)), (m, r.2, lm, pm)) : g_Res)) (R_L_minute_491 ((R_L_minute_3 s f_3)) n s_431 t0_461 ) 0 0 m ((upd s_431 (58 + 9 * n + 6) ((s_431 (58 + 9 * n + 6)) - t0_461)), lm, pm) 491 [(0, .ref (g_ad X 124)), (1, .ref (g_ad X 125)), (2, .ref (g_ad X 126)), (3, .ref (g_ad X 127)), (4, .ref (g_ad X 128)), (5, .ref (g_ad X 129)), (6, .ref (g_ad X 130)), (7, .int (nI n)), (8, .int (9 * (nI n)))] [.int ((9 * (nI n)) + 7), .ref (g_ad X 129)] := by
                  refine r_aload O 5 dL_minute_491 rfl ?_
                  refine r_iload O 8 dL_minute_493 rfl ?_
                  refine r_bipush (x := 7) O dL_minute_495 rfl ?_
                  refine r_iadd O dL_minute_497 ?_
                  have ix_498 : ((9 * (nI n)) + 7).toInt = (((9 : Int) * (nI n).toInt) + (7 : Int)) := (j_addE (j_mulE rfl rfl (by with_reducible omega) (by with_reducible omega)) rfl (by with_reducible omega) (by with_reducible omega))
                  have iy_498 := j_nat (x := ((9 * (nI n)) + 7)) (by with_reducible omega)
                  refine r_ialv (b := 58) (loc := 58 + 9 * n + 7) (v := (s_431 (58 + 9 * n + 7))) O R_129 (show vp_in ((9 * (nI n)) + 7) 54 from g_vin (by with_reducible omega) (by with_reducible omega)) (by with_reducible omega) (by rw [g_upd_ne (by with_reducible omega)]) dL_minute_498 ?_
                  refine r_iconst (x := 1) O dL_minute_499 rfl ?_
                  refine r_iadd O dL_minute_500 ?_
                  refine r_goto O 505 dL_minute_501 (by decide) ?_
                  exact J_505 ((s_431 (58 + 9 * n + 7)) + 1)
                refine r_icmp_eq O 491 dL_minute_478 (by decide) (fun c_478 => ?_) (fun c_478 => ?_)
                · have e_478 : (s_431 (58 + 9 * n + 2)).toInt = (1 : Int) := j_eqR c_478 rfl
                  exact J_491
                · have e_478 : (s_431 (58 + 9 * n + 2)).toInt ≠ (1 : Int) := j_neR c_478 rfl
                  refine r_aload O 5 dL_minute_481 rfl ?_
                  refine r_iload O 8 dL_minute_483 rfl ?_
                  refine r_iconst (x := 1) O dL_minute_485 rfl ?_
                  refine r_iadd O dL_minute_486 ?_
                  have ix_487 : ((9 * (nI n)) + 1).toInt = (((9 : Int) * (nI n).toInt) + (1 : Int)) := (j_addE (j_mulE rfl rfl (by with_reducible omega) (by with_reducible omega)) rfl (by with_reducible omega) (by with_reducible omega))
                  have iy_487 := j_nat (x := ((9 * (nI n)) + 1)) (by with_reducible omega)
                  refine r_ialv (b := 58) (loc := 58 + 9 * n + 1) (v := (s_431 (58 + 9 * n + 1))) O R_129 (show vp_in ((9 * (nI n)) + 1) 54 from g_vin (by with_reducible omega) (by with_reducible omega)) (by with_reducible omega) (by rw [g_upd_ne (by with_reducible omega)]) dL_minute_487 ?_
                  refine r_if_le O 504 dL_minute_488 (by decide) (fun c_488 => ?_) (fun c_488 => ?_)
                  · have e_488 : (s_431 (58 + 9 * n + 1)).toInt ≤ (0 : Int) := j_leR c_488 rfl
                    refine r_iconst (x := 0) O dL_minute_504 rfl ?_
                    exact J_505 0
                  · have e_488 : (0 : Int) < (s_431 (58 + 9 * n + 1)).toInt := j_nleR c_488 rfl
                    exact J_491
              have J_460 : g_V X (fun r : Int32 × (Nat → Int32) => ((.inl (some (.int r.1)), (m, r.2, lm, pm)) : g_Res)) (R_L_minute_460 ((R_L_minute_3 s f_3)) n s_431 ) 0 0 m (s_431, lm, pm) 460 [(0, .ref (g_ad X 124)), (1, .ref (g_ad X 125)), (2, .ref (g_ad X 126)), (3, .ref (g_ad X 127)), (4, .ref (g_ad X 128)), (5, .ref (g_ad X 129)), (6, .ref (g_ad X 130)), (7, .int (nI n)), (8, .int (9 * (nI n)))] [.int (s_431 (58 + 9 * n + 6)), .int ((9 * (nI n)) + 6), .ref (g_ad X 129)] := by
                refine r_iconst (x := 0) O dL_minute_460 rfl ?_
                exact J_461 0
              refine r_if_eq O 460 dL_minute_442 (by decide) (fun c_442 => ?_) (fun c_442 => ?_)
              · have e_442 : (t0_43).toInt = (0 : Int) := j_eqR c_442 rfl
                refine r_sub [0, 1, 2, 3, 4, 5, 6, 7, 8] rfl ?_
                exact J_460
              · have e_442 : (t0_43).toInt ≠ (0 : Int) := j_neR c_442 rfl
                refine r_aload O 5 dL_minute_445 rfl ?_
                refine r_iload O 8 dL_minute_447 rfl ?_
                refine r_bipush (x := 6) O dL_minute_449 rfl ?_
                refine r_iadd O dL_minute_451 ?_
                have ix_452 : ((9 * (nI n)) + 6).toInt = (((9 : Int) * (nI n).toInt) + (6 : Int)) := (j_addE (j_mulE rfl rfl (by with_reducible omega) (by with_reducible omega)) rfl (by with_reducible omega) (by with_reducible omega))
                have iy_452 := j_nat (x := ((9 * (nI n)) + 6)) (by with_reducible omega)
                refine r_ialn (b := 58) (loc := 58 + 9 * n + 6) O R_129 (show vp_in ((9 * (nI n)) + 6) 54 from g_vin (by with_reducible omega) (by with_reducible omega)) (by with_reducible omega) dL_minute_452 ?_
                refine r_if_le O 460 dL_minute_453 (by decide) (fun c_453 => ?_) (fun c_453 => ?_)
                · have e_453 : (s_431 (58 + 9 * n + 6)).toInt ≤ (0 : Int) := j_leR c_453 rfl
                  refine r_sub [0, 1, 2, 3, 4, 5, 6, 7, 8] rfl ?_
                  exact J_460
                · have e_453 : (0 : Int) < (s_431 (58 + 9 * n + 6)).toInt := j_nleR c_453 rfl
                  refine r_iconst (x := 1) O dL_minute_456 rfl ?_
                  refine r_goto O 461 dL_minute_457 (by decide) ?_
                  refine r_sub [0, 1, 2, 3, 4, 5, 6, 7, 8] rfl ?_
                  exact J_461 1
            refine r_if_le O 431 dL_minute_131 (by decide) (fun c_131 => ?_) (fun c_131 => ?_)
            · have e_131 : (s_124 (58 + 9 * n + 2)).toInt ≤ (0 : Int) := j_leR c_131 rfl
              exact J_431 s_124 (by repeat (first | with_reducible assumption | refine lfr_u ?_ (by with_reducible omega)))
            · have e_131 : (0 : Int) < (s_124 (58 + 9 * n + 2)).toInt := j_nleR c_131 rfl
              refine r_aload O 5 dL_minute_134 rfl ?_
              refine r_iload O 8 dL_minute_136 rfl ?_
              refine r_iconst (x := 4) O dL_minute_138 rfl ?_
              refine r_iadd O dL_minute_139 ?_
              refine r_dup2 O dL_minute_140 rfl rfl ?_
              have ix_141 : ((9 * (nI n)) + 4).toInt = (((9 : Int) * (nI n).toInt) + (4 : Int)) := (j_addE (j_mulE rfl rfl (by with_reducible omega) (by with_reducible omega)) rfl (by with_reducible omega) (by with_reducible omega))
              have iy_141 := j_nat (x := ((9 * (nI n)) + 4)) (by with_reducible omega)
              refine r_ialn (b := 58) (loc := 58 + 9 * n + 4) O R_129 (show vp_in ((9 * (nI n)) + 4) 54 from g_vin (by with_reducible omega) (by with_reducible omega)) (by with_reducible omega) dL_minute_141 ?_
              refine r_iconst (x := 1) O dL_minute_142 rfl ?_
              refine r_isub O dL_minute_143 ?_
              have ix_144 : ((9 * (nI n)) + 4).toInt = (((9 : Int) * (nI n).toInt) + (4 : Int)) := (j_addE (j_mulE rfl rfl (by with_reducible omega) (by with_reducible omega)) rfl (by with_reducible omega) (by with_reducible omega))
              have iy_144 := j_nat (x := ((9 * (nI n)) + 4)) (by with_reducible omega)
              refine r_iasn (b := 58) (loc := 58 + 9 * n + 4) O T_129 (show vp_in ((9 * (nI n)) + 4) 54 from g_vin (by with_reducible omega) (by with_reducible omega)) (by with_reducible omega) dL_minute_144 ?_
              refine r_aload O 5 dL_minute_145 rfl ?_
              refine r_iload O 8 dL_minute_147 rfl ?_
              refine r_bipush (x := 8) O dL_minute_149 rfl ?_
              refine r_iadd O dL_minute_151 ?_
              have ix_152 : ((9 * (nI n)) + 8).toInt = (((9 : Int) * (nI n).toInt) + (8 : Int)) := (j_addE (j_mulE rfl rfl (by with_reducible omega) (by with_reducible omega)) rfl (by with_reducible omega) (by with_reducible omega))
              have iy_152 := j_nat (x := ((9 * (nI n)) + 8)) (by with_reducible omega)
              refine r_ialv (b := 58) (loc := 58 + 9 * n + 8) (v := (s_124 (58 + 9 * n + 8))) O R_129 (show vp_in ((9 * (nI n)) + 8) 54 from g_vin (by with_reducible omega) (by with_reducible omega)) (by with_reducible omega) (by rw [g_upd_ne (by with_reducible omega)]) dL_minute_152 ?_
              refine r_iconst (x := 1) O dL_minute_153 rfl ?_
              have J_202 : ∀ (t0_202 : Int32), g_V X (fun r : Int32 × (Nat → Int32) => ((.inl (some (.int r.1)), (m, r.2, lm, pm)) : g_Res)) (R_L_minute_202 ((R_L_minute_3 s f_3)) n t0_43 s_124 t0_202) 0 0 m ((upd s_124 (58 + 9 * n + 4) ((s_124 (58 + 9 * n + 4)) - 1)), lm, pm) 202 [(0, .ref (g_ad X 124)), (1, .ref (g_ad X 125)), (2, .ref (g_ad X 126)), (3, .ref (g_ad X 127)), (4, .ref (g_ad X 128)), (5, .ref (g_ad X 129)), (6, .ref (g_ad X 130)), (7, .int (nI n)), (8, .int (9 * (nI n))), (9, .int t0_43)] [.int t0_202] := by
                intro t0_202
                refine r_istore (lc' := [(10, .int t0_202), (0, .ref (g_ad X 124)), (1, .ref (g_ad X 125)), (2, .ref (g_ad X 126)), (3, .ref (g_ad X 127)), (4, .ref (g_ad X 128)), (5, .ref (g_ad X 129)), (6, .ref (g_ad X 130)), (7, .int (nI n)), (8, .int (9 * (nI n))), (9, .int t0_43)]) O dL_minute_202 (hN 10 rfl) rfl ?_
                refine r_aload O 6 dL_minute_204 rfl ?_
                refine r_iload O 9 dL_minute_206 rfl ?_
                refine r_bipush (x := 6) O dL_minute_208 rfl ?_
                refine r_iadd O dL_minute_210 ?_
                refine r_dup2 O dL_minute_211 rfl rfl ?_
                have ix_212 : ((9 * (nI n)) + 6).toInt = (((9 : Int) * (nI n).toInt) + (6 : Int)) := (j_addE (j_mulE rfl rfl (by with_reducible omega) (by with_reducible omega)) rfl (by with_reducible omega) (by with_reducible omega))
                have iy_212 := j_nat (x := ((9 * (nI n)) + 6)) (by with_reducible omega)
                refine r_ialv (b := 58) (loc := 58 + 9 * n + 6) (v := (s_124 (58 + 9 * n + 6))) O R_129 (show vp_in ((9 * (nI n)) + 6) 54 from g_vin (by with_reducible omega) (by with_reducible omega)) (by with_reducible omega) (by rw [g_upd_ne (by with_reducible omega)]) dL_minute_212 ?_
                refine r_aload O 6 dL_minute_213 rfl ?_
                refine r_iload O 9 dL_minute_215 rfl ?_
                refine r_iconst (x := 2) O dL_minute_217 rfl ?_
                refine r_iadd O dL_minute_218 ?_
                have ix_219 : ((9 * (nI n)) + 2).toInt = (((9 : Int) * (nI n).toInt) + (2 : Int)) := (j_addE (j_mulE rfl rfl (by with_reducible omega) (by with_reducible omega)) rfl (by with_reducible omega) (by with_reducible omega))
                have iy_219 := j_nat (x := ((9 * (nI n)) + 2)) (by with_reducible omega)
                refine r_ialv (b := 58) (loc := 58 + 9 * n + 2) (v := (s_124 (58 + 9 * n + 2))) O R_129 (show vp_in ((9 * (nI n)) + 2) 54 from g_vin (by with_reducible omega) (by with_reducible omega)) (by with_reducible omega) (by rw [g_upd_ne (by with_reducible omega)]) dL_minute_219 ?_
                refine r_iconst (x := 2) O dL_minute_220 rfl ?_
                have J_238 : ∀ (t0_238 : Int32), g_V X (fun r : Int32 × (Nat → Int32) => ((.inl (some (.int r.1)), (m, r.2, lm, pm)) : g_Res)) (R_L_minute_238 ((R_L_minute_3 s f_3)) n t0_43 s_124 t0_238) 0 0 m ((upd s_124 (58 + 9 * n + 4) ((s_124 (58 + 9 * n + 4)) - 1)), lm, pm) 238 [(0, .ref (g_ad X 124)), (1, .ref (g_ad X 125)), (2, .ref (g_ad X 126)), (3, .ref (g_ad X 127)), (4, .ref (g_ad X 128)), (5, .ref (g_ad X 129)), (6, .ref (g_ad X 130)), (7, .int (nI n)), (8, .int (9 * (nI n))), (9, .int t0_43)] [.int t0_238, .int (s_124 (58 + 9 * n + 6)), .int ((9 * (nI n)) + 6), .ref (g_ad X 129)] := by
                  intro t0_238
                  refine r_iadd O dL_minute_238 ?_
                  have ix_239 : ((9 * (nI n)) + 6).toInt = (((9 : Int) * (nI n).toInt) + (6 : Int)) := (j_addE (j_mulE rfl rfl (by with_reducible omega) (by with_reducible omega)) rfl (by with_reducible omega) (by with_reducible omega))
                  have iy_239 := j_nat (x := ((9 * (nI n)) + 6)) (by with_reducible omega)
                  refine r_iasn (b := 58) (loc := 58 + 9 * n + 6) O T_129 (show vp_in ((9 * (nI n)) + 6) 54 from g_vin (by with_reducible omega) (by with_reducible omega)) (by with_reducible omega) dL_minute_239 ?_
                  refine r_aload O 5 dL_minute_240 rfl ?_
                  refine r_iload O 8 dL_minute_242 rfl ?_
                  refine r_iconst (x := 4) O dL_minute_244 rfl ?_
                  refine r_iadd O dL_minute_245 ?_
                  have ix_246 : ((9 * (nI n)) + 4).toInt = (((9 : Int) * (nI n).toInt) + (4 : Int)) := (j_addE (j_mulE rfl rfl (by with_reducible omega) (by with_reducible omega)) rfl (by with_reducible omega) (by with_reducible omega))
                  have iy_246 := j_nat (x := ((9 * (nI n)) + 4)) (by with_reducible omega)
                  refine r_ialv (b := 58) (loc := 58 + 9 * n + 4) (v := ((s_124 (58 + 9 * n + 4)) - 1)) O R_129 (show vp_in ((9 * (nI n)) + 4) 54 from g_vin (by with_reducible omega) (by with_reducible omega)) (by with_reducible omega) (by rw [g_upd_ne (by with_reducible omega), g_upd_eq]) dL_minute_246 ?_
                  have J_353 : ∀  (hj0 : ((s_124 (58 + 9 * n + 4)) - 1).toInt ≠ 0 ∨ (s_124 (58 + 9 * n + 2)).toInt ≠ 1), g_V X (fun r : Int32 × (Nat → Int32) => ((.inl (some (.int r.1)), (m, r.2, lm, pm)) : g_Res)) (R_L_minute_353 ((R_L_minute_3 s f_3)) n t0_43 s_124 t0_238 ) 0 0 m ((upd (upd s_124 (58 + 9 * n + 4) ((s_124 (58 + 9 * n + 4)) - 1)) (58 + 9 * n + 6) ((s_124 (58 + 9 * n + 6)) + t0_238)), lm, pm) 353 [(0, .ref (g_ad X 124)), (1, .ref (g_ad X 125)), (2, .ref (g_ad X 126)), (3, .ref (g_ad X 127)), (4, .ref (g_ad X 128)), (5, .ref (g_ad X 129)), (6, .ref (g_ad X 130)), (7, .int (nI n)), (8, .int (9 * (nI n))), (9, .int t0_43)] [] := by
                    intro  hj0
                    refine r_aload O 5 dL_minute_353 rfl ?_
                    refine r_iload O 8 dL_minute_355 rfl ?_
                    refine r_iconst (x := 4) O dL_minute_357 rfl ?_
                    refine r_iadd O dL_minute_358 ?_
                    have ix_359 : ((9 * (nI n)) + 4).toInt = (((9 : Int) * (nI n).toInt) + (4 : Int)) := (j_addE (j_mulE rfl rfl (by with_reducible omega) (by with_reducible omega)) rfl (by with_reducible omega) (by with_reducible omega))
                    have iy_359 := j_nat (x := ((9 * (nI n)) + 4)) (by with_reducible omega)
                    refine r_ialv (b := 58) (loc := 58 + 9 * n + 4) (v := ((s_124 (58 + 9 * n + 4)) - 1)) O R_129 (show vp_in ((9 * (nI n)) + 4) 54 from g_vin (by with_reducible omega) (by with_reducible omega)) (by with_reducible omega) (by rw [g_upd_ne (by with_reducible omega), g_upd_eq]) dL_minute_359 ?_
                    refine r_if_ne O 431 dL_minute_360 (by decide) (fun c_360 => ?_) (fun c_360 => ?_)
                    · have e_360 : ((s_124 (58 + 9 * n + 4)) - 1).toInt = (0 : Int) := j_eqR c_360 rfl
                      refine r_aload_n O 3 dL_minute_363 rfl rfl ?_
                      refine r_aload O 5 dL_minute_364 rfl ?_
                      refine r_iload O 8 dL_minute_366 rfl ?_
                      refine r_iconst (x := 1) O dL_minute_368 rfl ?_
                      refine r_iadd O dL_minute_369 ?_
                      have ix_370 : ((9 * (nI n)) + 1).toInt = (((9 : Int) * (nI n).toInt) + (1 : Int)) := (j_addE (j_mulE rfl rfl (by with_reducible omega) (by with_reducible omega)) rfl (by with_reducible omega) (by with_reducible omega))
                      have iy_370 := j_nat (x := ((9 * (nI n)) + 1)) (by with_reducible omega)
                      refine r_ialv (b := 58) (loc := 58 + 9 * n + 1) (v := (s_124 (58 + 9 * n + 1))) O R_129 (show vp_in ((9 * (nI n)) + 1) 54 from g_vin (by with_reducible omega) (by with_reducible omega)) (by with_reducible omega) (by rw [g_upd_ne (by with_reducible omega), g_upd_ne (by with_reducible omega)]) dL_minute_370 ?_
                      refine r_aload O 5 dL_minute_371 rfl ?_
                      refine r_iload O 8 dL_minute_373 rfl ?_
                      refine r_iconst (x := 5) O dL_minute_375 rfl ?_
                      refine r_iadd O dL_minute_376 ?_
                      have ix_377 : ((9 * (nI n)) + 5).toInt = (((9 : Int) * (nI n).toInt) + (5 : Int)) := (j_addE (j_mulE rfl rfl (by with_reducible omega) (by with_reducible omega)) rfl (by with_reducible omega) (by with_reducible omega))
                      have iy_377 := j_nat (x := ((9 * (nI n)) + 5)) (by with_reducible omega)
                      refine r_ialv (b := 58) (loc := 58 + 9 * n + 5) (v := (s_124 (58 + 9 * n + 5))) O R_129 (show vp_in ((9 * (nI n)) + 5) 54 from g_vin (by with_reducible omega) (by with_reducible omega)) (by with_reducible omega) (by rw [g_upd_ne (by with_reducible omega), g_upd_ne (by with_reducible omega)]) dL_minute_377 ?_
                      have ja_378_0 := j_nat (x := (s_124 (58 + 9 * n + 1))) (by with_reducible omega)
                      refine r_iasn (b := 27) (loc := 27 + (s_124 (58 + 9 * n + 1)).toNatClampNeg) O T_127 (show vp_in (s_124 (58 + 9 * n + 1)) 7 from g_vin (by with_reducible omega) (by with_reducible omega)) (by with_reducible omega) dL_minute_378 ?_
                      refine r_aload O 4 dL_minute_379 rfl ?_
                      refine r_iconst (x := 3) O dL_minute_381 rfl ?_
                      refine r_aload O 5 dL_minute_382 rfl ?_
                      refine r_iload O 8 dL_minute_384 rfl ?_
                      refine r_iconst (x := 5) O dL_minute_386 rfl ?_
                      refine r_iadd O dL_minute_387 ?_
                      have ix_388 : ((9 * (nI n)) + 5).toInt = (((9 : Int) * (nI n).toInt) + (5 : Int)) := (j_addE (j_mulE rfl rfl (by with_reducible omega) (by with_reducible omega)) rfl (by with_reducible omega) (by with_reducible omega))
                      have iy_388 := j_nat (x := ((9 * (nI n)) + 5)) (by with_reducible omega)
                      refine r_ialv (b := 58) (loc := 58 + 9 * n + 5) (v := (s_124 (58 + 9 * n + 5))) O R_129 (show vp_in ((9 * (nI n)) + 5) 54 from g_vin (by with_reducible omega) (by with_reducible omega)) (by with_reducible omega) (by rw [g_upd_ne (by with_reducible omega), g_upd_ne (by with_reducible omega), g_upd_ne (by with_reducible omega)]) dL_minute_388 ?_
                      refine r_imul O dL_minute_389 ?_
                      refine r_iconst (x := 1) O dL_minute_390 rfl ?_
                      refine r_iadd O dL_minute_391 ?_
                      refine r_iconst (x := 2) O dL_minute_392 rfl ?_
                      have ix_393 : ((3 * (s_124 (58 + 9 * n + 5))) + 1).toInt = (((3 : Int) * (s_124 (58 + 9 * n + 5)).toInt) + (1 : Int)) := (j_addE (j_mulE rfl rfl (by with_reducible omega) (by with_reducible omega)) rfl (by with_reducible omega) (by with_reducible omega))
                      have ja_393_0 := j_nat (x := (s_124 (58 + 9 * n + 5))) (by with_reducible omega)
                      have iy_393 := j_nat (x := ((3 * (s_124 (58 + 9 * n + 5))) + 1)) (by with_reducible omega)
                      refine r_iasn (b := 34) (loc := 35 + 3 * ((s_124 (58 + 9 * n + 5)).toNatClampNeg)) O T_128 (show vp_in ((3 * (s_124 (58 + 9 * n + 5))) + 1) 24 from g_vin (by with_reducible omega) (by with_reducible omega)) (by with_reducible omega) dL_minute_393 ?_
                      refine r_aload O 4 dL_minute_394 rfl ?_
                      refine r_iconst (x := 3) O dL_minute_396 rfl ?_
                      refine r_aload O 5 dL_minute_397 rfl ?_
                      refine r_iload O 8 dL_minute_399 rfl ?_
                      refine r_iconst (x := 5) O dL_minute_401 rfl ?_
                      refine r_iadd O dL_minute_402 ?_
                      have ix_403 : ((9 * (nI n)) + 5).toInt = (((9 : Int) * (nI n).toInt) + (5 : Int)) := (j_addE (j_mulE rfl rfl (by with_reducible omega) (by with_reducible omega)) rfl (by with_reducible omega) (by with_reducible omega))
                      have iy_403 := j_nat (x := ((9 * (nI n)) + 5)) (by with_reducible omega)
                      refine r_ialv (b := 58) (loc := 58 + 9 * n + 5) (v := (s_124 (58 + 9 * n + 5))) O R_129 (show vp_in ((9 * (nI n)) + 5) 54 from g_vin (by with_reducible omega) (by with_reducible omega)) (by with_reducible omega) (by rw [g_upd_ne (by with_reducible omega), g_upd_ne (by with_reducible omega), g_upd_ne (by with_reducible omega), g_upd_ne (by with_reducible omega)]) dL_minute_403 ?_
                      refine r_imul O dL_minute_404 ?_
                      refine r_iconst (x := 2) O dL_minute_405 rfl ?_
                      refine r_iadd O dL_minute_406 ?_
                      refine r_aload O 5 dL_minute_407 rfl ?_
                      refine r_iload O 8 dL_minute_409 rfl ?_
                      refine r_iconst (x := 1) O dL_minute_411 rfl ?_
                      refine r_iadd O dL_minute_412 ?_
                      have ix_413 : ((9 * (nI n)) + 1).toInt = (((9 : Int) * (nI n).toInt) + (1 : Int)) := (j_addE (j_mulE rfl rfl (by with_reducible omega) (by with_reducible omega)) rfl (by with_reducible omega) (by with_reducible omega))
                      have iy_413 := j_nat (x := ((9 * (nI n)) + 1)) (by with_reducible omega)
                      refine r_ialv (b := 58) (loc := 58 + 9 * n + 1) (v := (s_124 (58 + 9 * n + 1))) O R_129 (show vp_in ((9 * (nI n)) + 1) 54 from g_vin (by with_reducible omega) (by with_reducible omega)) (by with_reducible omega) (by rw [g_upd_ne (by with_reducible omega), g_upd_ne (by with_reducible omega), g_upd_ne (by with_reducible omega), g_upd_ne (by with_reducible omega)]) dL_minute_413 ?_
                      have ix_414 : ((3 * (s_124 (58 + 9 * n + 5))) + 2).toInt = (((3 : Int) * (s_124 (58 + 9 * n + 5)).toInt) + (2 : Int)) := (j_addE (j_mulE rfl rfl (by with_reducible omega) (by with_reducible omega)) rfl (by with_reducible omega) (by with_reducible omega))
                      have ja_414_0 := j_nat (x := (s_124 (58 + 9 * n + 5))) (by with_reducible omega)
                      have iy_414 := j_nat (x := ((3 * (s_124 (58 + 9 * n + 5))) + 2)) (by with_reducible omega)
                      refine r_iasn (b := 34) (loc := 36 + 3 * ((s_124 (58 + 9 * n + 5)).toNatClampNeg)) O T_128 (show vp_in ((3 * (s_124 (58 + 9 * n + 5))) + 2) 24 from g_vin (by with_reducible omega) (by with_reducible omega)) (by with_reducible omega) dL_minute_414 ?_
                      refine r_aload O 5 dL_minute_415 rfl ?_
                      refine r_iload O 8 dL_minute_417 rfl ?_
                      refine r_iconst (x := 5) O dL_minute_419 rfl ?_
                      refine r_iadd O dL_minute_420 ?_
                      refine r_iconst (x := (-1)) O dL_minute_421 rfl ?_
                      have ix_422 : ((9 * (nI n)) + 5).toInt = (((9 : Int) * (nI n).toInt) + (5 : Int)) := (j_addE (j_mulE rfl rfl (by with_reducible omega) (by with_reducible omega)) rfl (by with_reducible omega) (by with_reducible omega))
                      have iy_422 := j_nat (x := ((9 * (nI n)) + 5)) (by with_reducible omega)
                      refine r_iasn (b := 58) (loc := 58 + 9 * n + 5) O T_129 (show vp_in ((9 * (nI n)) + 5) 54 from g_vin (by with_reducible omega) (by with_reducible omega)) (by with_reducible omega) dL_minute_422 ?_
                      refine r_aload O 5 dL_minute_423 rfl ?_
                      refine r_iload O 8 dL_minute_425 rfl ?_
                      refine r_iconst (x := 2) O dL_minute_427 rfl ?_
                      refine r_iadd O dL_minute_428 ?_
                      refine r_iconst (x := 0) O dL_minute_429 rfl ?_
                      have ix_430 : ((9 * (nI n)) + 2).toInt = (((9 : Int) * (nI n).toInt) + (2 : Int)) := (j_addE (j_mulE rfl rfl (by with_reducible omega) (by with_reducible omega)) rfl (by with_reducible omega) (by with_reducible omega))
                      have iy_430 := j_nat (x := ((9 * (nI n)) + 2)) (by with_reducible omega)
                      refine r_iasn (b := 58) (loc := 58 + 9 * n + 2) O T_129 (show vp_in ((9 * (nI n)) + 2) 54 from g_vin (by with_reducible omega) (by with_reducible omega)) (by with_reducible omega) dL_minute_430 ?_
                      exact J_431 (upd (upd (upd (upd (upd (upd (upd s_124 (58 + 9 * n + 4) ((s_124 (58 + 9 * n + 4)) - 1)) (58 + 9 * n + 6) ((s_124 (58 + 9 * n + 6)) + t0_238)) (27 + (s_124 (58 + 9 * n + 1)).toNatClampNeg) (s_124 (58 + 9 * n + 5))) (35 + 3 * ((s_124 (58 + 9 * n + 5)).toNatClampNeg)) 2) (36 + 3 * ((s_124 (58 + 9 * n + 5)).toNatClampNeg)) (s_124 (58 + 9 * n + 1))) (58 + 9 * n + 5) (-1)) (58 + 9 * n + 2) 0) (by repeat (first | with_reducible assumption | refine lfr_u ?_ (by with_reducible omega)))
                    · have e_360 : ((s_124 (58 + 9 * n + 4)) - 1).toInt ≠ (0 : Int) := j_neR c_360 rfl
                      exact J_431 (upd (upd s_124 (58 + 9 * n + 4) ((s_124 (58 + 9 * n + 4)) - 1)) (58 + 9 * n + 6) ((s_124 (58 + 9 * n + 6)) + t0_238)) (by repeat (first | with_reducible assumption | refine lfr_u ?_ (by with_reducible omega)))
                  refine r_if_ne O 353 dL_minute_247 (by decide) (fun c_247 => ?_) (fun c_247 => ?_)
                  · have e_247 : ((s_124 (58 + 9 * n + 4)) - 1).toInt = (0 : Int) := j_eqR c_247 rfl
                    refine r_aload O 5 dL_minute_250 rfl ?_
                    refine r_iload O 8 dL_minute_252 rfl ?_
                    refine r_iconst (x := 2) O dL_minute_254 rfl ?_
                    refine r_iadd O dL_minute_255 ?_
                    have ix_256 : ((9 * (nI n)) + 2).toInt = (((9 : Int) * (nI n).toInt) + (2 : Int)) := (j_addE (j_mulE rfl rfl (by with_reducible omega) (by with_reducible omega)) rfl (by with_reducible omega) (by with_reducible omega))
                    have iy_256 := j_nat (x := ((9 * (nI n)) + 2)) (by with_reducible omega)
                    refine r_ialv (b := 58) (loc := 58 + 9 * n + 2) (v := (s_124 (58 + 9 * n + 2))) O R_129 (show vp_in ((9 * (nI n)) + 2) 54 from g_vin (by with_reducible omega) (by with_reducible omega)) (by with_reducible omega) (by rw [g_upd_ne (by with_reducible omega), g_upd_ne (by with_reducible omega)]) dL_minute_256 ?_
                    refine r_iconst (x := 1) O dL_minute_257 rfl ?_
                    refine r_icmp_ne O 353 dL_minute_258 (by decide) (fun c_258 => ?_) (fun c_258 => ?_)
                    · have e_258 : (s_124 (58 + 9 * n + 2)).toInt = (1 : Int) := j_eqR c_258 rfl
                      refine r_aload_n O 0 dL_minute_261 rfl rfl ?_
                      refine r_iconst (x := 4) O dL_minute_262 rfl ?_
                      refine r_aload O 5 dL_minute_263 rfl ?_
                      refine r_iload O 8 dL_minute_265 rfl ?_
                      refine r_bipush (x := 8) O dL_minute_267 rfl ?_
                      refine r_iadd O dL_minute_269 ?_
                      have ix_270 : ((9 * (nI n)) + 8).toInt = (((9 : Int) * (nI n).toInt) + (8 : Int)) := (j_addE (j_mulE rfl rfl (by with_reducible omega) (by with_reducible omega)) rfl (by with_reducible omega) (by with_reducible omega))
                      have iy_270 := j_nat (x := ((9 * (nI n)) + 8)) (by with_reducible omega)
                      refine r_ialv (b := 58) (loc := 58 + 9 * n + 8) (v := (s_124 (58 + 9 * n + 8))) O R_129 (show vp_in ((9 * (nI n)) + 8) 54 from g_vin (by with_reducible omega) (by with_reducible omega)) (by with_reducible omega) (by rw [g_upd_ne (by with_reducible omega), g_upd_ne (by with_reducible omega)]) dL_minute_270 ?_
                      refine r_iconst (x := 1) O dL_minute_271 rfl ?_
                      have J_288 : ∀ (t0_288 : Int32), g_V X (fun r : Int32 × (Nat → Int32) => ((.inl (some (.int r.1)), (m, r.2, lm, pm)) : g_Res)) (R_L_minute_288 ((R_L_minute_3 s f_3)) n t0_43 s_124 t0_238 t0_288) 0 0 m ((upd (upd s_124 (58 + 9 * n + 4) ((s_124 (58 + 9 * n + 4)) - 1)) (58 + 9 * n + 6) ((s_124 (58 + 9 * n + 6)) + t0_238)), lm, pm) 288 [(0, .ref (g_ad X 124)), (1, .ref (g_ad X 125)), (2, .ref (g_ad X 126)), (3, .ref (g_ad X 127)), (4, .ref (g_ad X 128)), (5, .ref (g_ad X 129)), (6, .ref (g_ad X 130)), (7, .int (nI n)), (8, .int (9 * (nI n))), (9, .int t0_43)] [.int t0_288, .int 4, .ref (g_ad X 124)] := by
                        intro t0_288
                        refine r_iasn (b := 0) (loc := 4) O T_124 (g_vin (by decide) (by decide)) rfl dL_minute_288 ?_
                        refine r_aload_n O 0 dL_minute_289 rfl rfl ?_
                        refine r_iconst (x := 5) O dL_minute_290 rfl ?_
                        refine r_aload O 5 dL_minute_291 rfl ?_
                        refine r_iload O 8 dL_minute_293 rfl ?_
                        refine r_bipush (x := 8) O dL_minute_295 rfl ?_
                        refine r_iadd O dL_minute_297 ?_
                        have ix_298 : ((9 * (nI n)) + 8).toInt = (((9 : Int) * (nI n).toInt) + (8 : Int)) := (j_addE (j_mulE rfl rfl (by with_reducible omega) (by with_reducible omega)) rfl (by with_reducible omega) (by with_reducible omega))
                        have iy_298 := j_nat (x := ((9 * (nI n)) + 8)) (by with_reducible omega)
                        refine r_ialv (b := 58) (loc := 58 + 9 * n + 8) (v := (s_124 (58 + 9 * n + 8))) O R_129 (show vp_in ((9 * (nI n)) + 8) 54 from g_vin (by with_reducible omega) (by with_reducible omega)) (by with_reducible omega) (by rw [g_upd_ne (by with_reducible omega), g_upd_ne (by with_reducible omega), g_upd_ne (by with_reducible omega)]) dL_minute_298 ?_
                        refine r_iconst (x := 1) O dL_minute_299 rfl ?_
                        have J_310 : ∀ (t0_310 : Int32), g_V X (fun r : Int32 × (Nat → Int32) => ((.inl (some (.int r.1)), (m, r.2, lm, pm)) : g_Res)) (R_L_minute_310 ((R_L_minute_3 s f_3)) n t0_43 s_124 t0_238 t0_288 t0_310) 0 0 m ((upd (upd (upd s_124 (58 + 9 * n + 4) ((s_124 (58 + 9 * n + 4)) - 1)) (58 + 9 * n + 6) ((s_124 (58 + 9 * n + 6)) + t0_238)) (4) t0_288), lm, pm) 310 [(0, .ref (g_ad X 124)), (1, .ref (g_ad X 125)), (2, .ref (g_ad X 126)), (3, .ref (g_ad X 127)), (4, .ref (g_ad X 128)), (5, .ref (g_ad X 129)), (6, .ref (g_ad X 130)), (7, .int (nI n)), (8, .int (9 * (nI n))), (9, .int t0_43)] [.int t0_310, .int 5, .ref (g_ad X 124)] := by
                          intro t0_310
                          refine r_iasn (b := 0) (loc := 5) O T_124 (g_vin (by decide) (by decide)) rfl dL_minute_310 ?_
                          refine r_aload O 5 dL_minute_311 rfl ?_
                          refine r_iload O 8 dL_minute_313 rfl ?_
                          refine r_iconst (x := 1) O dL_minute_315 rfl ?_
                          refine r_iadd O dL_minute_316 ?_
                          refine r_aload O 5 dL_minute_317 rfl ?_
                          refine r_iload O 8 dL_minute_319 rfl ?_
                          refine r_iconst (x := 3) O dL_minute_321 rfl ?_
                          refine r_iadd O dL_minute_322 ?_
                          have ix_323 : ((9 * (nI n)) + 3).toInt = (((9 : Int) * (nI n).toInt) + (3 : Int)) := (j_addE (j_mulE rfl rfl (by with_reducible omega) (by with_reducible omega)) rfl (by with_reducible omega) (by with_reducible omega))
                          have iy_323 := j_nat (x := ((9 * (nI n)) + 3)) (by with_reducible omega)
                          refine r_ialv (b := 58) (loc := 58 + 9 * n + 3) (v := (s_124 (58 + 9 * n + 3))) O R_129 (show vp_in ((9 * (nI n)) + 3) 54 from g_vin (by with_reducible omega) (by with_reducible omega)) (by with_reducible omega) (by rw [g_upd_ne (by with_reducible omega), g_upd_ne (by with_reducible omega), g_upd_ne (by with_reducible omega), g_upd_ne (by with_reducible omega)]) dL_minute_323 ?_
                          have ix_324 : ((9 * (nI n)) + 1).toInt = (((9 : Int) * (nI n).toInt) + (1 : Int)) := (j_addE (j_mulE rfl rfl (by with_reducible omega) (by with_reducible omega)) rfl (by with_reducible omega) (by with_reducible omega))
                          have iy_324 := j_nat (x := ((9 * (nI n)) + 1)) (by with_reducible omega)
                          refine r_iasn (b := 58) (loc := 58 + 9 * n + 1) O T_129 (show vp_in ((9 * (nI n)) + 1) 54 from g_vin (by with_reducible omega) (by with_reducible omega)) (by with_reducible omega) dL_minute_324 ?_
                          refine r_aload O 5 dL_minute_325 rfl ?_
                          refine r_iload O 8 dL_minute_327 rfl ?_
                          refine r_iconst (x := 2) O dL_minute_329 rfl ?_
                          refine r_iadd O dL_minute_330 ?_
                          refine r_iconst (x := 0) O dL_minute_331 rfl ?_
                          have ix_332 : ((9 * (nI n)) + 2).toInt = (((9 : Int) * (nI n).toInt) + (2 : Int)) := (j_addE (j_mulE rfl rfl (by with_reducible omega) (by with_reducible omega)) rfl (by with_reducible omega) (by with_reducible omega))
                          have iy_332 := j_nat (x := ((9 * (nI n)) + 2)) (by with_reducible omega)
                          refine r_iasn (b := 58) (loc := 58 + 9 * n + 2) O T_129 (show vp_in ((9 * (nI n)) + 2) 54 from g_vin (by with_reducible omega) (by with_reducible omega)) (by with_reducible omega) dL_minute_332 ?_
                          refine r_aload O 5 dL_minute_333 rfl ?_
                          refine r_iload O 8 dL_minute_335 rfl ?_
                          refine r_iconst (x := 3) O dL_minute_337 rfl ?_
                          refine r_iadd O dL_minute_338 ?_
                          refine r_iconst (x := (-1)) O dL_minute_339 rfl ?_
                          have ix_340 : ((9 * (nI n)) + 3).toInt = (((9 : Int) * (nI n).toInt) + (3 : Int)) := (j_addE (j_mulE rfl rfl (by with_reducible omega) (by with_reducible omega)) rfl (by with_reducible omega) (by with_reducible omega))
                          have iy_340 := j_nat (x := ((9 * (nI n)) + 3)) (by with_reducible omega)
                          refine r_iasn (b := 58) (loc := 58 + 9 * n + 3) O T_129 (show vp_in ((9 * (nI n)) + 3) 54 from g_vin (by with_reducible omega) (by with_reducible omega)) (by with_reducible omega) dL_minute_340 ?_
                          refine r_aload O 5 dL_minute_341 rfl ?_
                          refine r_iload O 8 dL_minute_343 rfl ?_
                          refine r_bipush (x := 8) O dL_minute_345 rfl ?_
                          refine r_iadd O dL_minute_347 ?_
                          refine r_iconst (x := 0) O dL_minute_348 rfl ?_
                          have ix_349 : ((9 * (nI n)) + 8).toInt = (((9 : Int) * (nI n).toInt) + (8 : Int)) := (j_addE (j_mulE rfl rfl (by with_reducible omega) (by with_reducible omega)) rfl (by with_reducible omega) (by with_reducible omega))
                          have iy_349 := j_nat (x := ((9 * (nI n)) + 8)) (by with_reducible omega)
                          refine r_iasn (b := 58) (loc := 58 + 9 * n + 8) O T_129 (show vp_in ((9 * (nI n)) + 8) 54 from g_vin (by with_reducible omega) (by with_reducible omega)) (by with_reducible omega) dL_minute_349 ?_
                          refine r_goto O 431 dL_minute_350 (by decide) ?_
                          exact J_431 (upd (upd (upd (upd (upd (upd (upd (upd s_124 (58 + 9 * n + 4) ((s_124 (58 + 9 * n + 4)) - 1)) (58 + 9 * n + 6) ((s_124 (58 + 9 * n + 6)) + t0_238)) (4) t0_288) (5) t0_310) (58 + 9 * n + 1) (s_124 (58 + 9 * n + 3))) (58 + 9 * n + 2) 0) (58 + 9 * n + 3) (-1)) (58 + 9 * n + 8) 0) (by repeat (first | with_reducible assumption | refine lfr_u ?_ (by with_reducible omega)))
                        refine r_icmp_ne O 307 dL_minute_300 (by decide) (fun c_300 => ?_) (fun c_300 => ?_)
                        · have e_300 : (s_124 (58 + 9 * n + 8)).toInt = (1 : Int) := j_eqR c_300 rfl
                          refine r_iconst (x := 0) O dL_minute_303 rfl ?_
                          refine r_goto O 310 dL_minute_304 (by decide) ?_
                          exact J_310 0
                        · have e_300 : (s_124 (58 + 9 * n + 8)).toInt ≠ (1 : Int) := j_neR c_300 rfl
                          refine r_aload_n O 0 dL_minute_307 rfl rfl ?_
                          refine r_iconst (x := 5) O dL_minute_308 rfl ?_
                          refine r_ialv (b := 0) (loc := 5) (v := (s_124 (5))) O R_124 (g_vin (by decide) (by decide)) rfl (by rw [g_upd_ne (by with_reducible omega), g_upd_ne (by with_reducible omega), g_upd_ne (by with_reducible omega)]) dL_minute_309 ?_
                          exact J_310 (s_124 (5))
                      refine r_icmp_ne O 285 dL_minute_272 (by decide) (fun c_272 => ?_) (fun c_272 => ?_)
                      · have e_272 : (s_124 (58 + 9 * n + 8)).toInt = (1 : Int) := j_eqR c_272 rfl
                        refine r_aload O 5 dL_minute_275 rfl ?_
                        refine r_iload O 8 dL_minute_277 rfl ?_
                        refine r_iconst (x := 3) O dL_minute_279 rfl ?_
                        refine r_iadd O dL_minute_280 ?_
                        have ix_281 : ((9 * (nI n)) + 3).toInt = (((9 : Int) * (nI n).toInt) + (3 : Int)) := (j_addE (j_mulE rfl rfl (by with_reducible omega) (by with_reducible omega)) rfl (by with_reducible omega) (by with_reducible omega))
                        have iy_281 := j_nat (x := ((9 * (nI n)) + 3)) (by with_reducible omega)
                        refine r_ialv (b := 58) (loc := 58 + 9 * n + 3) (v := (s_124 (58 + 9 * n + 3))) O R_129 (show vp_in ((9 * (nI n)) + 3) 54 from g_vin (by with_reducible omega) (by with_reducible omega)) (by with_reducible omega) (by rw [g_upd_ne (by with_reducible omega), g_upd_ne (by with_reducible omega)]) dL_minute_281 ?_
                        refine r_goto O 288 dL_minute_282 (by decide) ?_
                        exact J_288 (s_124 (58 + 9 * n + 3))
                      · have e_272 : (s_124 (58 + 9 * n + 8)).toInt ≠ (1 : Int) := j_neR c_272 rfl
                        refine r_aload_n O 0 dL_minute_285 rfl rfl ?_
                        refine r_iconst (x := 4) O dL_minute_286 rfl ?_
                        refine r_ialv (b := 0) (loc := 4) (v := (s_124 (4))) O R_124 (g_vin (by decide) (by decide)) rfl (by rw [g_upd_ne (by with_reducible omega), g_upd_ne (by with_reducible omega)]) dL_minute_287 ?_
                        exact J_288 (s_124 (4))
                    · have e_258 : (s_124 (58 + 9 * n + 2)).toInt ≠ (1 : Int) := j_neR c_258 rfl
                      exact J_353  (by first | decide | with_reducible assumption | with_reducible omega | (simp (disch := omega) only [g_upd_ne, g_upd_eq]; first | with_reducible assumption | with_reducible omega | decide) | exact Or.inl rfl | exact Or.inr rfl)
                  · have e_247 : ((s_124 (58 + 9 * n + 4)) - 1).toInt ≠ (0 : Int) := j_neR c_247 rfl
                    exact J_353  (by first | decide | with_reducible assumption | with_reducible omega | (simp (disch := omega) only [g_upd_ne, g_upd_eq]; first | with_reducible assumption | with_reducible omega | decide) | exact Or.inl rfl | exact Or.inr rfl)
                refine r_icmp_ne O 228 dL_minute_221 (by decide) (fun c_221 => ?_) (fun c_221 => ?_)
                · have e_221 : (s_124 (58 + 9 * n + 2)).toInt = (2 : Int) := j_eqR c_221 rfl
                  refine r_iconst (x := 0) O dL_minute_224 rfl ?_
                  refine r_goto O 238 dL_minute_225 (by decide) ?_
                  refine r_sub [1, 2, 3, 4, 5, 6, 7, 8, 9, 10] rfl ?_
                  exact J_238 0
                · have e_221 : (s_124 (58 + 9 * n + 2)).toInt ≠ (2 : Int) := j_neR c_221 rfl
                  refine r_iload O 0 dL_minute_228 rfl ?_
                  refine r_if_eq O 237 dL_minute_230 (by decide) (fun c_230 => ?_) (fun c_230 => ?_)
                  · have e_230 : (t0_202).toInt = (0 : Int) := j_eqR c_230 rfl
                    refine r_iconst (x := 1) O dL_minute_237 rfl ?_
                    refine r_sub [1, 2, 3, 4, 5, 6, 7, 8, 9, 10] rfl ?_
                    exact J_238 1
                  · have e_230 : (t0_202).toInt ≠ (0 : Int) := j_neR c_230 rfl
                    refine r_iconst (x := 2) O dL_minute_233 rfl ?_
                    refine r_goto O 238 dL_minute_234 (by decide) ?_
                    refine r_sub [1, 2, 3, 4, 5, 6, 7, 8, 9, 10] rfl ?_
                    exact J_238 2
              have J_197 : g_V X (fun r : Int32 × (Nat → Int32) => ((.inl (some (.int r.1)), (m, r.2, lm, pm)) : g_Res)) (R_L_minute_197 ((R_L_minute_3 s f_3)) n t0_43 s_124 ) 0 0 m ((upd s_124 (58 + 9 * n + 4) ((s_124 (58 + 9 * n + 4)) - 1)), lm, pm) 197 [(0, .ref (g_ad X 124)), (1, .ref (g_ad X 125)), (2, .ref (g_ad X 126)), (3, .ref (g_ad X 127)), (4, .ref (g_ad X 128)), (5, .ref (g_ad X 129)), (6, .ref (g_ad X 130)), (7, .int (nI n)), (8, .int (9 * (nI n))), (9, .int t0_43)] [] := by
                refine r_iconst (x := 1) O dL_minute_197 rfl ?_
                refine r_goto O 202 dL_minute_198 (by decide) ?_
                exact J_202 1
              refine r_icmp_eq O 197 dL_minute_154 (by decide) (fun c_154 => ?_) (fun c_154 => ?_)
              · have e_154 : (s_124 (58 + 9 * n + 8)).toInt = (1 : Int) := j_eqR c_154 rfl
                exact J_197
              · have e_154 : (s_124 (58 + 9 * n + 8)).toInt ≠ (1 : Int) := j_neR c_154 rfl
                refine r_aload O 5 dL_minute_157 rfl ?_
                refine r_iload O 8 dL_minute_159 rfl ?_
                refine r_iconst (x := 2) O dL_minute_161 rfl ?_
                refine r_iadd O dL_minute_162 ?_
                have ix_163 : ((9 * (nI n)) + 2).toInt = (((9 : Int) * (nI n).toInt) + (2 : Int)) := (j_addE (j_mulE rfl rfl (by with_reducible omega) (by with_reducible omega)) rfl (by with_reducible omega) (by with_reducible omega))
                have iy_163 := j_nat (x := ((9 * (nI n)) + 2)) (by with_reducible omega)
                refine r_ialv (b := 58) (loc := 58 + 9 * n + 2) (v := (s_124 (58 + 9 * n + 2))) O R_129 (show vp_in ((9 * (nI n)) + 2) 54 from g_vin (by with_reducible omega) (by with_reducible omega)) (by with_reducible omega) (by rw [g_upd_ne (by with_reducible omega)]) dL_minute_163 ?_
                refine r_iconst (x := 1) O dL_minute_164 rfl ?_
                have J_201 : g_V X (fun r : Int32 × (Nat → Int32) => ((.inl (some (.int r.1)), (m, r.2, lm, pm)) : g_Res)) (R_L_minute_201 ((R_L_minute_3 s f_3)) n t0_43 s_124 ) 0 0 m ((upd s_124 (58 + 9 * n + 4) ((s_124 (58 + 9 * n + 4)) - 1)), lm, pm) 201 [(0, .ref (g_ad X 124)), (1, .ref (g_ad X 125)), (2, .ref (g_ad X 126)), (3, .ref (g_ad X 127)), (4, .ref (g_ad X 128)), (5, .ref (g_ad X 129)), (6, .ref (g_ad X 130)), (7, .int (nI n)), (8, .int (9 * (nI n))), (9, .int t0_43)] [] := by
                  refine r_iconst (x := 0) O dL_minute_201 rfl ?_
                  exact J_202 0
                refine r_icmp_ne O 201 dL_minute_165 (by decide) (fun c_165 => ?_) (fun c_165 => ?_)
                · have e_165 : (s_124 (58 + 9 * n + 2)).toInt = (1 : Int) := j_eqR c_165 rfl
                  refine r_aload O 5 dL_minute_168 rfl ?_
                  refine r_iload O 8 dL_minute_170 rfl ?_
                  refine r_iconst (x := 3) O dL_minute_172 rfl ?_
                  refine r_iadd O dL_minute_173 ?_
                  have ix_174 : ((9 * (nI n)) + 3).toInt = (((9 : Int) * (nI n).toInt) + (3 : Int)) := (j_addE (j_mulE rfl rfl (by with_reducible omega) (by with_reducible omega)) rfl (by with_reducible omega) (by with_reducible omega))
                  have iy_174 := j_nat (x := ((9 * (nI n)) + 3)) (by with_reducible omega)
                  refine r_ialv (b := 58) (loc := 58 + 9 * n + 3) (v := (s_124 (58 + 9 * n + 3))) O R_129 (show vp_in ((9 * (nI n)) + 3) 54 from g_vin (by with_reducible omega) (by with_reducible omega)) (by with_reducible omega) (by rw [g_upd_ne (by with_reducible omega)]) dL_minute_174 ?_
                  refine r_aload O 5 dL_minute_175 rfl ?_
                  refine r_iload O 8 dL_minute_177 rfl ?_
                  refine r_iconst (x := 1) O dL_minute_179 rfl ?_
                  refine r_iadd O dL_minute_180 ?_
                  have ix_181 : ((9 * (nI n)) + 1).toInt = (((9 : Int) * (nI n).toInt) + (1 : Int)) := (j_addE (j_mulE rfl rfl (by with_reducible omega) (by with_reducible omega)) rfl (by with_reducible omega) (by with_reducible omega))
                  have iy_181 := j_nat (x := ((9 * (nI n)) + 1)) (by with_reducible omega)
                  refine r_ialv (b := 58) (loc := 58 + 9 * n + 1) (v := (s_124 (58 + 9 * n + 1))) O R_129 (show vp_in ((9 * (nI n)) + 1) 54 from g_vin (by with_reducible omega) (by with_reducible omega)) (by with_reducible omega) (by rw [g_upd_ne (by with_reducible omega)]) dL_minute_181 ?_
                  refine r_icmp_ge O 201 dL_minute_182 (by decide) (fun c_182 => ?_) (fun c_182 => ?_)
                  · have e_182 : (s_124 (58 + 9 * n + 1)).toInt ≤ (s_124 (58 + 9 * n + 3)).toInt := j_le c_182
                    exact J_201
                  · have e_182 : (s_124 (58 + 9 * n + 3)).toInt < (s_124 (58 + 9 * n + 1)).toInt := j_nle c_182
                    refine r_aload_n O 1 dL_minute_185 rfl rfl ?_
                    refine r_aload O 5 dL_minute_186 rfl ?_
                    refine r_iload O 8 dL_minute_188 rfl ?_
                    refine r_iconst (x := 3) O dL_minute_190 rfl ?_
                    refine r_iadd O dL_minute_191 ?_
                    have ix_192 : ((9 * (nI n)) + 3).toInt = (((9 : Int) * (nI n).toInt) + (3 : Int)) := (j_addE (j_mulE rfl rfl (by with_reducible omega) (by with_reducible omega)) rfl (by with_reducible omega) (by with_reducible omega))
                    have iy_192 := j_nat (x := ((9 * (nI n)) + 3)) (by with_reducible omega)
                    refine r_ialv (b := 58) (loc := 58 + 9 * n + 3) (v := (s_124 (58 + 9 * n + 3))) O R_129 (show vp_in ((9 * (nI n)) + 3) 54 from g_vin (by with_reducible omega) (by with_reducible omega)) (by with_reducible omega) (by rw [g_upd_ne (by with_reducible omega)]) dL_minute_192 ?_
                    have ja_193_0 := j_nat (x := (s_124 (58 + 9 * n + 3))) (by with_reducible omega)
                    refine r_ialv (b := 13) (loc := 13 + (s_124 (58 + 9 * n + 3)).toNatClampNeg) (v := (s_124 (13 + (s_124 (58 + 9 * n + 3)).toNatClampNeg))) O R_125 (show vp_in (s_124 (58 + 9 * n + 3)) 7 from g_vin (by with_reducible omega) (by with_reducible omega)) (by with_reducible omega) (by rw [g_upd_ne (by with_reducible omega)]) dL_minute_193 ?_
                    refine r_if_le O 201 dL_minute_194 (by decide) (fun c_194 => ?_) (fun c_194 => ?_)
                    · have e_194 : (s_124 (13 + (s_124 (58 + 9 * n + 3)).toNatClampNeg)).toInt ≤ (0 : Int) := j_leR c_194 rfl
                      exact J_201
                    · have e_194 : (0 : Int) < (s_124 (13 + (s_124 (58 + 9 * n + 3)).toNatClampNeg)).toInt := j_nleR c_194 rfl
                      exact J_197
                · have e_165 : (s_124 (58 + 9 * n + 2)).toInt ≠ (1 : Int) := j_neR c_165 rfl
                  exact J_201
          refine r_if_ne O 124 dL_minute_52 (by decide) (fun c_52 => ?_) (fun c_52 => ?_)
          · have e_52 : (s_3 (58 + 9 * n + 2)).toInt = (0 : Int) := j_eqR c_52 rfl
            refine r_aload O 6 dL_minute_55 rfl ?_
            refine r_iload O 9 dL_minute_57 rfl ?_
            refine r_iconst (x := 1) O dL_minute_59 rfl ?_
            refine r_iadd O dL_minute_60 ?_
            have ix_61 : ((9 * (nI n)) + 1).toInt = (((9 : Int) * (nI n).toInt) + (1 : Int)) := (j_addE (j_mulE rfl rfl (by with_reducible omega) (by with_reducible omega)) rfl (by with_reducible omega) (by with_reducible omega))
            have iy_61 := j_nat (x := ((9 * (nI n)) + 1)) (by with_reducible omega)
            refine r_ialn (b := 58) (loc := 58 + 9 * n + 1) O R_129 (show vp_in ((9 * (nI n)) + 1) 54 from g_vin (by with_reducible omega) (by with_reducible omega)) (by with_reducible omega) dL_minute_61 ?_
            refine r_if_le O 124 dL_minute_62 (by decide) (fun c_62 => ?_) (fun c_62 => ?_)
            · have e_62 : (s_3 (58 + 9 * n + 1)).toInt ≤ (0 : Int) := j_leR c_62 rfl
              refine r_sub [1, 2, 3, 4, 5, 6, 7, 8, 9, 0] rfl ?_
              exact J_124 s_3 (by first | exact hi3.up | exact lfr_sets hi3 (by omega) | rfl | (obtain ⟨u1, u2, u3, u5⟩ := u_121; first | exact u1 | exact u5 | (refine Or.inr ⟨u2, ?_⟩; rw [u3]; omega)) | exact Or.inl ⟨rfl, rfl⟩) (by first | exact hi3.up | exact lfr_sets hi3 (by omega) | rfl | (obtain ⟨u1, u2, u3, u5⟩ := u_121; first | exact u1 | exact u5 | (refine Or.inr ⟨u2, ?_⟩; rw [u3]; omega)) | exact Or.inl ⟨rfl, rfl⟩) (by first | exact hi3.up | exact lfr_sets hi3 (by omega) | rfl | (obtain ⟨u1, u2, u3, u5⟩ := u_121; first | exact u1 | exact u5 | (refine Or.inr ⟨u2, ?_⟩; rw [u3]; omega)) | exact Or.inl ⟨rfl, rfl⟩) (by first | exact hi3.up | exact lfr_sets hi3 (by omega) | rfl | (obtain ⟨u1, u2, u3, u5⟩ := u_121; first | exact u1 | exact u5 | (refine Or.inr ⟨u2, ?_⟩; rw [u3]; omega)) | exact Or.inl ⟨rfl, rfl⟩)
            · have e_62 : (0 : Int) < (s_3 (58 + 9 * n + 1)).toInt := j_nleR c_62 rfl
              refine r_aload_n O 3 dL_minute_65 rfl rfl ?_
              refine r_aload O 6 dL_minute_66 rfl ?_
              refine r_iload O 8 dL_minute_68 rfl ?_
              refine r_aload O 6 dL_minute_70 rfl ?_
              refine r_iload O 9 dL_minute_72 rfl ?_
              refine r_iconst (x := 1) O dL_minute_74 rfl ?_
              refine r_iadd O dL_minute_75 ?_
              have ix_76 : ((9 * (nI n)) + 1).toInt = (((9 : Int) * (nI n).toInt) + (1 : Int)) := (j_addE (j_mulE rfl rfl (by with_reducible omega) (by with_reducible omega)) rfl (by with_reducible omega) (by with_reducible omega))
              have iy_76 := j_nat (x := ((9 * (nI n)) + 1)) (by with_reducible omega)
              refine r_ialn (b := 58) (loc := 58 + 9 * n + 1) O R_129 (show vp_in ((9 * (nI n)) + 1) 54 from g_vin (by with_reducible omega) (by with_reducible omega)) (by with_reducible omega) dL_minute_76 ?_
              refine r_iconst (x := 1) O dL_minute_77 rfl ?_
              refine r_callSi O [.ref (g_ad X 126), .ref (g_ad X 129), .int (nI n), .int (s_3 (58 + 9 * n + 1)), .int 1] [] (met_L_inTime (g_xl X) hs lm pm m s_3 (nI n) (s_3 (58 + 9 * n + 1)) 1 (by first | decide | with_reducible assumption | with_reducible omega | (simp (disch := omega) only [g_upd_ne, g_upd_eq]; first | with_reducible assumption | with_reducible omega | decide) | exact Or.inl rfl | exact Or.inr rfl) (by first | decide | with_reducible assumption | with_reducible omega | (simp (disch := omega) only [g_upd_ne, g_upd_eq]; first | with_reducible assumption | with_reducible omega | decide) | exact Or.inl rfl | exact Or.inr rfl) (by first | decide | with_reducible assumption | with_reducible omega | (simp (disch := omega) only [g_upd_ne, g_upd_eq]; first | with_reducible assumption | with_reducible omega | decide) | exact Or.inl rfl | exact Or.inr rfl) (by first | decide | with_reducible assumption | with_reducible omega | (simp (disch := omega) only [g_upd_ne, g_upd_eq]; first | with_reducible assumption | with_reducible omega | decide) | exact Or.inl rfl | exact Or.inr rfl)) LL_18 rfl rfl rfl dL_minute_78 rfl rfl ?_
              refine r_if_ne O 124 dL_minute_81 (by decide) (fun c_81 => ?_) (fun c_81 => ?_)
              · have e_81 : (R_L_inTime s_3 (nI n) (s_3 (58 + 9 * n + 1)) 1).toInt = (0 : Int) := j_eqR c_81 rfl
                refine r_aload_n O 1 dL_minute_84 rfl rfl ?_
                refine r_aload_n O 2 dL_minute_85 rfl rfl ?_
                refine r_aload_n O 3 dL_minute_86 rfl rfl ?_
                refine r_aload_n O 4 dL_minute_87 rfl rfl ?_
                refine r_aload O 6 dL_minute_88 rfl ?_
                refine r_iload O 8 dL_minute_90 rfl ?_
                refine r_aload O 6 dL_minute_92 rfl ?_
                refine r_iload O 9 dL_minute_94 rfl ?_
                refine r_iconst (x := 1) O dL_minute_96 rfl ?_
                refine r_iadd O dL_minute_97 ?_
                have ix_98 : ((9 * (nI n)) + 1).toInt = (((9 : Int) * (nI n).toInt) + (1 : Int)) := (j_addE (j_mulE rfl rfl (by with_reducible omega) (by with_reducible omega)) rfl (by with_reducible omega) (by with_reducible omega))
                have iy_98 := j_nat (x := ((9 * (nI n)) + 1)) (by with_reducible omega)
                refine r_ialn (b := 58) (loc := 58 + 9 * n + 1) O R_129 (show vp_in ((9 * (nI n)) + 1) 54 from g_vin (by with_reducible omega) (by with_reducible omega)) (by with_reducible omega) dL_minute_98 ?_
                refine r_iconst (x := 1) O dL_minute_99 rfl ?_
                refine r_isub O dL_minute_100 ?_
                refine r_callSi O [.ref (g_ad X 124), .ref (g_ad X 125), .ref (g_ad X 126), .ref (g_ad X 127), .ref (g_ad X 129), .int (nI n), .int ((s_3 (58 + 9 * n + 1)) - 1)] [] (met_L_why (g_xl X) hs lm pm m s_3 (nI n) ((s_3 (58 + 9 * n + 1)) - 1) (by first | decide | with_reducible assumption | with_reducible omega | (simp (disch := omega) only [g_upd_ne, g_upd_eq]; first | with_reducible assumption | with_reducible omega | decide) | exact Or.inl rfl | exact Or.inr rfl) (by first | decide | with_reducible assumption | with_reducible omega | (simp (disch := omega) only [g_upd_ne, g_upd_eq]; first | with_reducible assumption | with_reducible omega | decide) | exact Or.inl rfl | exact Or.inr rfl) (by with_reducible omega) (by rw [nI_clamp (by omega)]; omega) (by rw [nI_clamp (by omega)]; omega)) LL_22 rfl rfl rfl dL_minute_101 rfl rfl ?_
                refine r_if_ne O 124 dL_minute_104 (by decide) (fun c_104 => ?_) (fun c_104 => ?_)
                · have e_104 : (R_L_why s_3 (nI n) ((s_3 (58 + 9 * n + 1)) - 1)).toInt = (0 : Int) := j_eqR c_104 rfl
                  refine r_aload_n O 3 dL_minute_107 rfl rfl ?_
                  refine r_aload O 6 dL_minute_108 rfl ?_
                  refine r_iload O 8 dL_minute_110 rfl ?_
                  refine r_aload O 6 dL_minute_112 rfl ?_
                  refine r_iload O 9 dL_minute_114 rfl ?_
                  refine r_iconst (x := 1) O dL_minute_116 rfl ?_
                  refine r_iadd O dL_minute_117 ?_
                  have ix_118 : ((9 * (nI n)) + 1).toInt = (((9 : Int) * (nI n).toInt) + (1 : Int)) := (j_addE (j_mulE rfl rfl (by with_reducible omega) (by with_reducible omega)) rfl (by with_reducible omega) (by with_reducible omega))
                  have iy_118 := j_nat (x := ((9 * (nI n)) + 1)) (by with_reducible omega)
                  refine r_ialn (b := 58) (loc := 58 + 9 * n + 1) O R_129 (show vp_in ((9 * (nI n)) + 1) 54 from g_vin (by with_reducible omega) (by with_reducible omega)) (by with_reducible omega) dL_minute_118 ?_
                  refine r_iconst (x := 1) O dL_minute_119 rfl ?_
                  refine r_isub O dL_minute_120 ?_
                  have ix_121x3 : ((s_3 (58 + 9 * n + 1)) - 1).toInt = ((s_3 (58 + 9 * n + 1)).toInt - (1 : Int)) := (j_subE rfl rfl (by with_reducible omega) (by with_reducible omega))
                  refine r_callSv O [.ref (g_ad X 126), .ref (g_ad X 129), .int (nI n), .int ((s_3 (58 + 9 * n + 1)) - 1)] [] (met_L_sets (g_xl X) hs lm pm m s_3 (nI n) ((s_3 (58 + 9 * n + 1)) - 1) (by first | decide | with_reducible assumption | with_reducible omega | (simp (disch := omega) only [g_upd_ne, g_upd_eq]; first | with_reducible assumption | with_reducible omega | decide) | exact Or.inl rfl | exact Or.inr rfl) (by first | decide | with_reducible assumption | with_reducible omega | (simp (disch := omega) only [g_upd_ne, g_upd_eq]; first | with_reducible assumption | with_reducible omega | decide) | exact Or.inl rfl | exact Or.inr rfl) (by first | decide | with_reducible assumption | with_reducible omega | (simp (disch := omega) only [g_upd_ne, g_upd_eq]; first | with_reducible assumption | with_reducible omega | decide) | exact Or.inl rfl | exact Or.inr rfl) (by first | decide | with_reducible assumption | with_reducible omega | (simp (disch := omega) only [g_upd_ne, g_upd_eq]; first | with_reducible assumption | with_reducible omega | decide) | exact Or.inl rfl | exact Or.inr rfl) (by rw [nI_clamp (by omega)]; omega) (by rw [nI_clamp (by omega)]; omega) (by rw [nI_clamp (by omega)]; omega)) LL_26 rfl rfl rfl dL_minute_121 rfl rfl ?_
                  have u_121 := ps_sets (s := s_3) (n := n) (t := ((s_3 (58 + 9 * n + 1)) - 1)) (by omega)
                  refine r_sub [1, 2, 3, 4, 5, 6, 7, 8, 9, 0] rfl ?_
                  exact J_124 (R_L_sets s_3 (nI n) ((s_3 (58 + 9 * n + 1)) - 1)) (by first | exact hi3.up | exact lfr_sets hi3 (by omega) | rfl | (obtain ⟨u1, u2, u3, u5⟩ := u_121; first | exact u1 | exact u5 | (refine Or.inr ⟨u2, ?_⟩; rw [u3]; omega)) | exact Or.inl ⟨rfl, rfl⟩) (by first | exact hi3.up | exact lfr_sets hi3 (by omega) | rfl | (obtain ⟨u1, u2, u3, u5⟩ := u_121; first | exact u1 | exact u5 | (refine Or.inr ⟨u2, ?_⟩; rw [u3]; omega)) | exact Or.inl ⟨rfl, rfl⟩) (by first | exact hi3.up | exact lfr_sets hi3 (by omega) | rfl | (obtain ⟨u1, u2, u3, u5⟩ := u_121; first | exact u1 | exact u5 | (refine Or.inr ⟨u2, ?_⟩; rw [u3]; omega)) | exact Or.inl ⟨rfl, rfl⟩) (by first | exact hi3.up | exact lfr_sets hi3 (by omega) | rfl | (obtain ⟨u1, u2, u3, u5⟩ := u_121; first | exact u1 | exact u5 | (refine Or.inr ⟨u2, ?_⟩; rw [u3]; omega)) | exact Or.inl ⟨rfl, rfl⟩)
                · have e_104 : (R_L_why s_3 (nI n) ((s_3 (58 + 9 * n + 1)) - 1)).toInt ≠ (0 : Int) := j_neR c_104 rfl
                  refine r_sub [1, 2, 3, 4, 5, 6, 7, 8, 9, 0] rfl ?_
                  exact J_124 s_3 (by first | exact hi3.up | exact lfr_sets hi3 (by omega) | rfl | (obtain ⟨u1, u2, u3, u5⟩ := u_121; first | exact u1 | exact u5 | (refine Or.inr ⟨u2, ?_⟩; rw [u3]; omega)) | exact Or.inl ⟨rfl, rfl⟩) (by first | exact hi3.up | exact lfr_sets hi3 (by omega) | rfl | (obtain ⟨u1, u2, u3, u5⟩ := u_121; first | exact u1 | exact u5 | (refine Or.inr ⟨u2, ?_⟩; rw [u3]; omega)) | exact Or.inl ⟨rfl, rfl⟩) (by first | exact hi3.up | exact lfr_sets hi3 (by omega) | rfl | (obtain ⟨u1, u2, u3, u5⟩ := u_121; first | exact u1 | exact u5 | (refine Or.inr ⟨u2, ?_⟩; rw [u3]; omega)) | exact Or.inl ⟨rfl, rfl⟩) (by first | exact hi3.up | exact lfr_sets hi3 (by omega) | rfl | (obtain ⟨u1, u2, u3, u5⟩ := u_121; first | exact u1 | exact u5 | (refine Or.inr ⟨u2, ?_⟩; rw [u3]; omega)) | exact Or.inl ⟨rfl, rfl⟩)
              · have e_81 : (R_L_inTime s_3 (nI n) (s_3 (58 + 9 * n + 1)) 1).toInt ≠ (0 : Int) := j_neR c_81 rfl
                refine r_sub [1, 2, 3, 4, 5, 6, 7, 8, 9, 0] rfl ?_
                exact J_124 s_3 (by first | exact hi3.up | exact lfr_sets hi3 (by omega) | rfl | (obtain ⟨u1, u2, u3, u5⟩ := u_121; first | exact u1 | exact u5 | (refine Or.inr ⟨u2, ?_⟩; rw [u3]; omega)) | exact Or.inl ⟨rfl, rfl⟩) (by first | exact hi3.up | exact lfr_sets hi3 (by omega) | rfl | (obtain ⟨u1, u2, u3, u5⟩ := u_121; first | exact u1 | exact u5 | (refine Or.inr ⟨u2, ?_⟩; rw [u3]; omega)) | exact Or.inl ⟨rfl, rfl⟩) (by first | exact hi3.up | exact lfr_sets hi3 (by omega) | rfl | (obtain ⟨u1, u2, u3, u5⟩ := u_121; first | exact u1 | exact u5 | (refine Or.inr ⟨u2, ?_⟩; rw [u3]; omega)) | exact Or.inl ⟨rfl, rfl⟩) (by first | exact hi3.up | exact lfr_sets hi3 (by omega) | rfl | (obtain ⟨u1, u2, u3, u5⟩ := u_121; first | exact u1 | exact u5 | (refine Or.inr ⟨u2, ?_⟩; rw [u3]; omega)) | exact Or.inl ⟨rfl, rfl⟩)
          · have e_52 : (s_3 (58 + 9 * n + 2)).toInt ≠ (0 : Int) := j_neR c_52 rfl
            refine r_sub [1, 2, 3, 4, 5, 6, 7, 8, 9, 0] rfl ?_
            exact J_124 s_3 (by first | exact hi3.up | exact lfr_sets hi3 (by omega) | rfl | (obtain ⟨u1, u2, u3, u5⟩ := u_121; first | exact u1 | exact u5 | (refine Or.inr ⟨u2, ?_⟩; rw [u3]; omega)) | exact Or.inl ⟨rfl, rfl⟩) (by first | exact hi3.up | exact lfr_sets hi3 (by omega) | rfl | (obtain ⟨u1, u2, u3, u5⟩ := u_121; first | exact u1 | exact u5 | (refine Or.inr ⟨u2, ?_⟩; rw [u3]; omega)) | exact Or.inl ⟨rfl, rfl⟩) (by first | exact hi3.up | exact lfr_sets hi3 (by omega) | rfl | (obtain ⟨u1, u2, u3, u5⟩ := u_121; first | exact u1 | exact u5 | (refine Or.inr ⟨u2, ?_⟩; rw [u3]; omega)) | exact Or.inl ⟨rfl, rfl⟩) (by first | exact hi3.up | exact lfr_sets hi3 (by omega) | rfl | (obtain ⟨u1, u2, u3, u5⟩ := u_121; first | exact u1 | exact u5 | (refine Or.inr ⟨u2, ?_⟩; rw [u3]; omega)) | exact Or.inl ⟨rfl, rfl⟩)
        have J_42 : g_V X (fun r : Int32 × (Nat → Int32) => ((.inl (some (.int r.1)), (m, r.2, lm, pm)) : g_Res)) (R_L_minute_42 ((R_L_minute_3 s f_3)) n s_3 ) 0 0 m (s_3, lm, pm) 42 [(0, .ref (g_ad X 124)), (1, .ref (g_ad X 125)), (2, .ref (g_ad X 126)), (3, .ref (g_ad X 127)), (4, .ref (g_ad X 128)), (5, .ref (g_ad X 129)), (6, .ref (g_ad X 130)), (7, .int (nI n)), (8, .int (9 * (nI n)))] [] := by
          refine r_iconst (x := 0) O dL_minute_42 rfl ?_
          exact J_43 0
        refine r_if_ne O 42 dL_minute_25 (by decide) (fun c_25 => ?_) (fun c_25 => ?_)
        · have e_25 : (s_3 (58 + 9 * n + 1)).toInt = (0 : Int) := j_eqR c_25 rfl
          refine r_aload O 6 dL_minute_28 rfl ?_
          refine r_iload O 0 dL_minute_30 rfl ?_
          refine r_iconst (x := 2) O dL_minute_32 rfl ?_
          refine r_iadd O dL_minute_33 ?_
          have ix_34 : ((9 * (nI n)) + 2).toInt = (((9 : Int) * (nI n).toInt) + (2 : Int)) := (j_addE (j_mulE rfl rfl (by with_reducible omega) (by with_reducible omega)) rfl (by with_reducible omega) (by with_reducible omega))
          have iy_34 := j_nat (x := ((9 * (nI n)) + 2)) (by with_reducible omega)
          refine r_ialn (b := 58) (loc := 58 + 9 * n + 2) O R_129 (show vp_in ((9 * (nI n)) + 2) 54 from g_vin (by with_reducible omega) (by with_reducible omega)) (by with_reducible omega) dL_minute_34 ?_
          refine r_if_ne O 42 dL_minute_35 (by decide) (fun c_35 => ?_) (fun c_35 => ?_)
          · have e_35 : (s_3 (58 + 9 * n + 2)).toInt = (0 : Int) := j_eqR c_35 rfl
            refine r_iconst (x := 1) O dL_minute_38 rfl ?_
            refine r_goto O 43 dL_minute_39 (by decide) ?_
            refine r_sub [1, 2, 3, 4, 5, 6, 7, 8, 0] rfl ?_
            exact J_43 1
          · have e_35 : (s_3 (58 + 9 * n + 2)).toInt ≠ (0 : Int) := j_neR c_35 rfl
            refine r_sub [1, 2, 3, 4, 5, 6, 7, 8, 0] rfl ?_
            exact J_42
        · have e_25 : (s_3 (58 + 9 * n + 1)).toInt ≠ (0 : Int) := j_neR c_25 rfl
          refine r_sub [1, 2, 3, 4, 5, 6, 7, 8, 0] rfl ?_
          exact J_42
  refine r_sub [1, 2, 3, 4, 5, 6, 7, 0] rfl ?_
  exact L_3 7 0 s ⟨(by with_reducible omega), (by with_reducible omega), fun _ _ => rfl⟩
theorem met_L_minute (l : Launch) (hs : l.stackTraces = false) (lm : Nat → Int64) (pm : Nat → Nat) (m : Nat → Int32) (s : Nat → Int32) (p0 : g_J s) : g_SM l yL_minute cL_minute 12 (some .int) ({ frames := 3, cells := 0, slots := 0, locals := 77 } : Room) (fun ad => [.ref (ad 124), .ref (ad 125), .ref (ad 126), .ref (ad 127), .ref (ad 128), .ref (ad 129), .ref (ad 130)]) m (s, lm, pm) ((fun r : Int32 × (Nat → Int32) => ((.inl (some (.int r.1)), (m, r.2, lm, pm)) : g_Res)) (R_L_minute s)) :=
  g_sm_of (by decide) (fun _ => Nat.le_of_ble_eq_true rfl) hs (fun X hl hn O => walk_L_minute O (by rw [hl]; exact hs) hn p0)
