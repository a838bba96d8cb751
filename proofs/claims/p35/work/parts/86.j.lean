/-! ===== CaveRelay(): five caves, the row of saved ones, the text ===== -/
theorem w_oiX7 : Cond.methodLink RX7 1 Lib.objectInit ∈ gW := gW_in (i := 32) (by decide +kernel) rfl
theorem FPFX7_10 (q : Nat) : g_FPF RX7 10 7 0 (.ref q) := ⟨RX7, TX7, 4, tyX7, rfl, by decide, uX7, w_fl_X7_10, tyX7_ok, nmX7, rfl, rfl, rfl, rfl⟩
theorem FPFX7_16 (q : Nat) : g_FPF RX7 16 7 1 (.ref q) := ⟨RX7, TX7, 4, tyX7, rfl, by decide, uX7, w_fl_X7_16, tyX7_ok, nmX7, rfl, rfl, rfl, rfl⟩
theorem FPFX7_27 (q : Nat) : g_FPF RX7 27 7 3 (.ref q) := ⟨RX7, TX7, 4, tyX7, rfl, by decide, uX7, w_fl_X7_27, tyX7_ok, nmX7, rfl, rfl, rfl, rfl⟩
/-- the class's own cells, at the places that the flat world gives them -/
def n_c7 (ad : Nat → Nat) (ca : Nat → ClassId) (μ : g_M) : va_W := (List.range 124).map (fun k => (ad k, g_ent ad ca μ k))
def n_q0 (i : Nat) : Nat := if i < 4 then i + 1 else 0
/-- both sides' numbers where the model isn't made yet -/
def n_μ0 : g_M := (g_m1, (fun _ => 0), (fun _ => 0), n_q0)
def n_ad7 (h : Nat) (f : Nat → Nat) (k : Nat) : Nat := if k = 122 then h else f k
theorem n_rf_ok : ∀ j0, j0 < 24 → ∀ j, j < 12 → (match g_oc j0 with | some q => decide (j < q.2) && !(g_va j0 j) | none => false) = true → g_rf j0 j < 24 := by decide +kernel
theorem n_oc_ok : ∀ j0, j0 < 24 → (match g_oc j0 with | some q => decide (q.2 ≤ 12) | none => true) = true := by decide +kernel
theorem n_m1_c {c n : Nat} (hc : c < 5) (hn : n < 178) : g_m1 (178 * c + n) = g_m1 n := by
  unfold g_m1
  rw [if_pos (by omega), if_pos (by omega), Nat.mul_add_mod]
theorem n_va_lt {j0 j : Nat} (h0 : j0 < 24) (hv : g_va j0 j = true) : g_nl j0 j < 178 := (g_ni_ok j0 h0 j (g_va_lt j0 h0 j hv) hv).2
theorem n_ce_sh {ad a : Nat → Nat} {ca : Nat → ClassId} {c j0 : Nat} (hc : c < 5) (h0 : j0 < 24) (ha : ∀ i, i < 24 → a i = ad (24 * c + i)) : g_ce a ca g_m1 0 j0 = g_ce ad ca g_m1 c j0 := by
  have hoc := n_oc_ok j0 h0
  have hrf := n_rf_ok j0 h0
  unfold g_ce
  cases ho : g_oc j0 with
  | some q =>
    rw [ho] at hoc hrf
    have h12 : q.2 ≤ 12 := by simpa using hoc
    show Sum.inr (q.1, _) = Sum.inr (q.1, _)
    rw [List.map_congr_left fun j hj => ?_]
    have hj : j < q.2 := List.mem_range.mp hj
    unfold g_sv
    cases hv : g_va j0 j with
    | true =>
      show Value.int (g_m1 (178 * 0 + g_nl j0 j)) = Value.int (g_m1 (178 * c + g_nl j0 j))
      rw [n_m1_c hc (n_va_lt h0 hv), n_m1_c (by omega) (n_va_lt h0 hv)]
    | false =>
      have hr : g_rf j0 j < 24 := hrf j (by omega) (by simp [hj, hv])
      show Value.ref (a (24 * 0 + g_rf j0 j)) = Value.ref (ad (24 * c + g_rf j0 j))
      rw [Nat.mul_zero, Nat.zero_add, ha _ hr]
  | none =>
    cases hi : g_ia j0 with
    | some n =>
      show Sum.inl (ca 0, n, Sum.inl _) = Sum.inl (ca 0, n, Sum.inl _)
      congr 4
      funext t
      unfold g_ar
      cases ht : Nat.blt t n with
      | false => rfl
      | true =>
        show g_m1 _ = g_m1 _
        have hn12 : ∀ j0, j0 < 24 → (match g_ia j0 with | some n => decide (n ≤ 12) | none => true) = true := by decide +kernel
        have h12 := hn12 j0 h0
        rw [hi] at h12
        have h12 : n ≤ 12 := by simpa using h12
        have h2 : t < n := g_blt.mp ht
        have h3 := (g_va_ia h0 (by omega) hi).symm.trans ht
        rw [n_m1_c hc (n_va_lt h0 h3), n_m1_c (by omega) (n_va_lt h0 h3)]
    | none =>
      show Sum.inl (ca 2, 6, _) = Sum.inl (ca 2, 6, _)
      congr 7
      funext t
      cases ht : Nat.blt t 6 with
      | false => rfl
      | true =>
        have h2 : t < 6 := g_blt.mp ht
        show some (a (24 * 0 + (10 + t))) = some (ad (24 * c + (10 + t)))
        rw [Nat.mul_zero, Nat.zero_add, ha _ (by omega)]
theorem n_ce_ent {ad a : Nat → Nat} {ca : Nat → ClassId} {μ : g_M} {c j0 : Nat} (hc : c < 5) (h0 : j0 < 24) (ha : ∀ i, i < 24 → a i = ad (24 * c + i)) (hm : μ.1 = g_m1) : n_eq (g_ce a ca g_m1 0 j0) (g_ent ad ca μ (24 * c + j0)) := n_eq_of (by
  rw [g_ent_c _ _ _ hc h0, hm]
  exact n_ce_sh hc h0 ha)
def n_p7 (k : Nat) : Nat := if k < 24 then k + 1 else if k < 120 then k + 4 else if k = 120 then 26 else if k = 121 then 27 else if k = 122 then 0 else 25
theorem n_p7_inj {i j : Nat} (hi : i < 124) (hj : j < 124) (h : n_p7 i = n_p7 j) : i = j := by
  unfold n_p7 at h
  repeat' split at h
  all_goals omega
/-- the addresses: the caves' blocks, then text, bytes, the row -/
def n_F7 (a0 a1 a2 a3 a4 : Nat → Nat) (t b r : Nat) (k : Nat) : Nat := if k < 24 then a0 k else if k < 48 then a1 (k - 24) else if k < 72 then a2 (k - 48) else if k < 96 then a3 (k - 72) else if k < 120 then a4 (k - 96) else if k = 120 then t else if k = 121 then b else r
theorem n_F7_c {h : Nat} {a0 a1 a2 a3 a4 : Nat → Nat} {t b r : Nat} : (∀ i, i < 24 → a0 i = n_ad7 h (n_F7 a0 a1 a2 a3 a4 t b r) (24 * 0 + i)) ∧ (∀ i, i < 24 → a1 i = n_ad7 h (n_F7 a0 a1 a2 a3 a4 t b r) (24 * 1 + i)) ∧ (∀ i, i < 24 → a2 i = n_ad7 h (n_F7 a0 a1 a2 a3 a4 t b r) (24 * 2 + i)) ∧ (∀ i, i < 24 → a3 i = n_ad7 h (n_F7 a0 a1 a2 a3 a4 t b r) (24 * 3 + i)) ∧ (∀ i, i < 24 → a4 i = n_ad7 h (n_F7 a0 a1 a2 a3 a4 t b r) (24 * 4 + i)) := by
  refine ⟨fun i hi => ?_, fun i hi => ?_, fun i hi => ?_, fun i hi => ?_, fun i hi => ?_⟩
  · unfold n_ad7 n_F7; rw [if_neg (by omega), if_pos (by omega)]; congr 1; omega
  · unfold n_ad7 n_F7; rw [if_neg (by omega), if_neg (by omega), if_pos (by omega)]; congr 1; omega
  · unfold n_ad7 n_F7; rw [if_neg (by omega), if_neg (by omega), if_neg (by omega), if_pos (by omega)]; congr 1; omega
  · unfold n_ad7 n_F7; rw [if_neg (by omega), if_neg (by omega), if_neg (by omega), if_neg (by omega), if_pos (by omega)]; congr 1; omega
  · unfold n_ad7 n_F7; rw [if_neg (by omega), if_neg (by omega), if_neg (by omega), if_neg (by omega), if_neg (by omega), if_pos (by omega)]; congr 1; omega
theorem n_cave_len {ca : Nat → ClassId} {a : Nat → Nat} : (n_cave ca a).length = 24 := by simp [n_cave]
theorem n_cave_at {ca : Nat → ClassId} {a : Nat → Nat} {j : Nat} (hj : j < 24) : (n_cave ca a)[j]? = some (a j, g_ce a ca g_m1 0 j) := by
  unfold n_cave
  rw [List.getElem?_map, List.getElem?_range hj]
  rfl
theorem n_in {α : Type} {A B : List α} {n i : Nat} (hA : A.length = n) (hi : i < n) : (A ++ B)[i]? = A[i]? := List.getElem?_append_left (by omega)
theorem n_out {α : Type} {A B : List α} {n i j : Nat} (hA : A.length = n) (hi : i = n + j) : (A ++ B)[i]? = B[j]? := by
  subst hi
  rw [List.getElem?_append_right (by omega), hA, Nat.add_sub_cancel_left]
abbrev n_f7 : List Value := [.null, .null, .int 0, .null]
/-- the world as the constructor leaves it -/
def n_w7 (ca : Nat → ClassId) (h : Nat) (a0 a1 a2 a3 a4 : Nat → Nat) (t b r : Nat) : va_W :=
  [(h, .inr (7, [.ref (a0 0), .ref r, .int 0, .ref t]))] ++ (n_cave ca a0 ++ ([(r, .inl (ca 1, 4, .inr (.inr (.inr (.inr (fun i => if i < 4 then some (n_ad7 h (n_F7 a0 a1 a2 a3 a4 t b r) (24 * (i + 1))) else none)))))), (t, .inr (6, [.ref b, .int 0])), (b, .inl (ca 0, 90, .inl (fun _ => 0)))] ++ (n_cave ca a1 ++ (n_cave ca a2 ++ (n_cave ca a3 ++ n_cave ca a4)))))
theorem n_w7_pm {ca : Nat → ClassId} {h : Nat} {a0 a1 a2 a3 a4 : Nat → Nat} {t b r : Nat} : (∀ (D : va_G) (cl : List vw_C) (H : Heap), va_P D cl (n_w7 ca h a0 a1 a2 a3 a4 t b r) H → va_P D cl (n_c7 (n_ad7 h (n_F7 a0 a1 a2 a3 a4 t b r)) ca n_μ0) H) ∧ ∀ A : Nat → Prop, va_D A (n_w7 ca h a0 a1 a2 a3 a4 t b r) → va_D A (n_c7 (n_ad7 h (n_F7 a0 a1 a2 a3 a4 t b r)) ca n_μ0) := by
  obtain ⟨e0, e1, e2, e3, e4⟩ := n_F7_c (h := h) (a0 := a0) (a1 := a1) (a2 := a2) (a3 := a3) (a4 := a4) (t := t) (b := b) (r := r)
  refine n_pm n_p7 (fun i j hi hj hh => n_p7_inj (by simpa [n_c7] using hi) (by simpa [n_c7] using hj) hh) (fun i q hq => ?_)
  obtain ⟨hi, rfl⟩ := n_rg hq
  have hs : (∃ j, j < 24 ∧ i = 24 * 0 + j) ∨ (∃ j, j < 24 ∧ i = 24 * 1 + j) ∨ (∃ j, j < 24 ∧ i = 24 * 2 + j) ∨ (∃ j, j < 24 ∧ i = 24 * 3 + j) ∨ (∃ j, j < 24 ∧ i = 24 * 4 + j) ∨ i = 120 ∨ i = 121 ∨ i = 122 ∨ i = 123 := by
    rcases (show i < 24 ∨ (24 ≤ i ∧ i < 48) ∨ (48 ≤ i ∧ i < 72) ∨ (72 ≤ i ∧ i < 96) ∨ (96 ≤ i ∧ i < 120) ∨ i = 120 ∨ i = 121 ∨ i = 122 ∨ i = 123 by omega) with z | z | z | z | z | z
    · exact Or.inl ⟨i, z, by omega⟩
    · exact Or.inr (Or.inl ⟨i - 24, by omega, by omega⟩)
    · exact Or.inr (Or.inr (Or.inl ⟨i - 48, by omega, by omega⟩))
    · exact Or.inr (Or.inr (Or.inr (Or.inl ⟨i - 72, by omega, by omega⟩)))
    · exact Or.inr (Or.inr (Or.inr (Or.inr (Or.inl ⟨i - 96, by omega, by omega⟩))))
    · exact Or.inr (Or.inr (Or.inr (Or.inr (Or.inr z))))
  rcases hs with ⟨j, hj, rfl⟩ | ⟨j, hj, rfl⟩ | ⟨j, hj, rfl⟩ | ⟨j, hj, rfl⟩ | ⟨j, hj, rfl⟩ | rfl | rfl | rfl | rfl
  · refine ⟨_, ?_, n_ce_ent (by omega) hj e0 rfl⟩
    rw [show n_p7 (24 * 0 + j) = 1 + j by unfold n_p7; rw [if_pos (by omega)]; omega]
    unfold n_w7
    rw [n_out (n := 1) (j := j) rfl (by omega), n_in n_cave_len hj, n_cave_at hj, ← e0 j hj]
  · refine ⟨_, ?_, n_ce_ent (by omega) hj e1 rfl⟩
    rw [show n_p7 (24 * 1 + j) = 28 + j by unfold n_p7; rw [if_neg (by omega), if_pos (by omega)]; omega]
    unfold n_w7
    rw [n_out (n := 1) (j := 27 + j) rfl (by omega), n_out (n := 24) (j := 3 + j) n_cave_len (by omega), n_out (n := 3) (j := 0 + j) rfl (by omega), n_in n_cave_len (by omega), show 0 + j = j by omega, n_cave_at hj, ← e1 j hj]
  · refine ⟨_, ?_, n_ce_ent (by omega) hj e2 rfl⟩
    rw [show n_p7 (24 * 2 + j) = 52 + j by unfold n_p7; rw [if_neg (by omega), if_pos (by omega)]; omega]
    unfold n_w7
    rw [n_out (n := 1) (j := 51 + j) rfl (by omega), n_out (n := 24) (j := 27 + j) n_cave_len (by omega), n_out (n := 3) (j := 24 + j) rfl (by omega), n_out (n := 24) (j := 0 + j) n_cave_len (by omega), n_in n_cave_len (by omega), show 0 + j = j by omega, n_cave_at hj, ← e2 j hj]
  · refine ⟨_, ?_, n_ce_ent (by omega) hj e3 rfl⟩
    rw [show n_p7 (24 * 3 + j) = 76 + j by unfold n_p7; rw [if_neg (by omega), if_pos (by omega)]; omega]
    unfold n_w7
    rw [n_out (n := 1) (j := 75 + j) rfl (by omega), n_out (n := 24) (j := 51 + j) n_cave_len (by omega), n_out (n := 3) (j := 48 + j) rfl (by omega), n_out (n := 24) (j := 24 + j) n_cave_len (by omega), n_out (n := 24) (j := 0 + j) n_cave_len (by omega), n_in n_cave_len (by omega), show 0 + j = j by omega, n_cave_at hj, ← e3 j hj]
  · refine ⟨_, ?_, n_ce_ent (by omega) hj e4 rfl⟩
    rw [show n_p7 (24 * 4 + j) = 100 + j by unfold n_p7; rw [if_neg (by omega), if_pos (by omega)]; omega]
    unfold n_w7
    rw [n_out (n := 1) (j := 99 + j) rfl (by omega), n_out (n := 24) (j := 75 + j) n_cave_len (by omega), n_out (n := 3) (j := 72 + j) rfl (by omega), n_out (n := 24) (j := 48 + j) n_cave_len (by omega), n_out (n := 24) (j := 24 + j) n_cave_len (by omega), n_out (n := 24) (j := 0 + j) n_cave_len (by omega), show 0 + j = j by omega, n_cave_at hj, ← e4 j hj]
  · refine ⟨_, rfl, n_eq_of rfl⟩
  · refine ⟨_, rfl, n_eq_i (show ∀ t, t < 90 → (fun _ => (0 : Int32)) t = g_rw g_m1 890 90 t from by decide +kernel)⟩
  · refine ⟨_, rfl, n_eq_of rfl⟩
  · refine ⟨_, rfl, n_eq_q (fun t ht => ?_)⟩
    show (if t < 4 then _ else _) = cond (Nat.blt t 4) (some (n_ad7 _ _ (24 * n_q0 t))) none
    rw [g_blt.mpr ht, if_pos ht]
    show _ = some (n_ad7 _ _ (24 * n_q0 t))
    unfold n_q0
    rw [if_pos ht]
theorem n_df_X7 : ∀ j, j < 4 → defaultValue (tyX7 j) = vp_V n_f7 j := fun j hj => by
  have h : j = 0 ∨ j = 1 ∨ j = 2 ∨ j = 3 := by omega
  rcases h with rfl | rfl | rfl | rfl <;> rfl
theorem n_set {α : Type} {A B : List α} {n i j : Nat} {x : α} (hA : A.length = n) (hi : i = n + j) : (A ++ B).set i x = A ++ B.set j x := by
  subst hi
  rw [List.set_append_right _ _ (by omega), hA, Nat.add_sub_cancel_left]
theorem n_cave0 {ca : Nat → ClassId} {h : Nat} {f : Nat → Nat} : (n_cave ca (n_ad0 h f))[0]? = some (h, .inr (0, [.ref (n_ad0 h f 1), .ref (n_ad0 h f 5), .ref (n_ad0 h f 9), .int 0, .ref (n_ad0 h f 16), .ref (n_ad0 h f 20), .int 0, .int 4, .int 0, .int 0, .int 0, .int 0])) := by
  rw [n_cave_at (by omega), gce_0]
  rfl
set_option maxRecDepth 100000 in
set_option maxHeartbeats 4000000 in
/-- CaveRelay() -/
theorem n_X7 (l : Launch) : n_CE l yX7_init cX7_init 2 ({ frames := 3, cells := 123, slots := 1101, locals := 57 } : Room) 7 n_f7 (fun ca h f => n_c7 (n_ad7 h f) ca n_μ0) := by
  refine n_ofE (by decide) (by decide) rfl (fun X a hl hn O E => ?_)
  refine n_aload O 0 dX7_init_0 rfl rfl ?_
  refine n_oi O w_oiX7 dX7_init_1 (by decide) (by decide) ?_
  refine n_aload O 0 dX7_init_4 rfl rfl ?_
  refine n_new O (ci := 0) (fs := n_fX0) tyX0 rfl uX0 tyX0_ok n_cl_70 n_in_0 w_ini_X0 n_df_X0 (by decide) (by decide) dX7_init_5 (fun h0 => ?_)
  refine n_dup O dX7_init_8 rfl ?_
  refine n_callE O E (n_X0 (g_xl X)) LBX7_9 w_i_X0_init rfl rfl dX7_init_9 rfl (fun f0 => ?_)
  refine n_same (ws' := [(a, .inr (7, [.null, .null, .int 0, .null]))] ++ n_cave (g_ca X) (n_ad0 h0 f0)) rfl ?_
  refine n_putF O 0 (FPFX7_10 h0) rfl (Nat.le_of_ble_eq_true rfl) dX7_init_12 ?_
  refine n_same (ws' := [(a, .inr (7, [.ref h0, .null, .int 0, .null]))] ++ n_cave (g_ca X) (n_ad0 h0 f0)) rfl ?_
  refine n_aload O 0 dX7_init_15 rfl rfl ?_
  refine n_iconst (x := 4) O dX7_init_16 rfl ?_
  refine n_anew O (N := 4) (t0 := 1) n_cl_70 E.2.2.2.1 rfl (by decide) rfl (by decide) (by decide) (by decide) dX7_init_17 (fun r => ?_)
  refine n_same (ws' := [(a, .inr (7, [.ref h0, .null, .int 0, .null]))] ++ (n_cave (g_ca X) (n_ad0 h0 f0) ++ [(r, .inl (g_ca X 1, 4, .inr (.inr (.inr (.inr (fun _ => none))))))])) (by simp only [List.append_assoc, List.cons_append, List.nil_append, List.set_cons_zero]) ?_
  refine n_putF O 0 (FPFX7_16 r) rfl (Nat.le_of_ble_eq_true rfl) dX7_init_20 ?_
  refine n_same (ws' := [(a, .inr (7, [.ref h0, .ref r, .int 0, .null]))] ++ (n_cave (g_ca X) (n_ad0 h0 f0) ++ [(r, .inl (g_ca X 1, 4, .inr (.inr (.inr (.inr (fun _ => none))))))])) rfl ?_
  refine n_aload O 0 dX7_init_23 rfl rfl ?_
  refine n_iconst (x := 0) O dX7_init_24 rfl ?_
  refine n_put O 0 (FPX7_20 0) rfl (Nat.le_of_ble_eq_true rfl) dX7_init_25 ?_
  refine n_same (ws' := [(a, .inr (7, [.ref h0, .ref r, .int 0, .null]))] ++ (n_cave (g_ca X) (n_ad0 h0 f0) ++ [(r, .inl (g_ca X 1, 4, .inr (.inr (.inr (.inr (fun _ => none))))))])) rfl ?_
  refine n_aload O 0 dX7_init_28 rfl rfl ?_
  refine n_new O (ci := 6) (fs := n_fX6) tyX6 rfl uX6 tyX6_ok n_cl_76 n_in_6 w_ini_X6 n_df_X6 (by decide) (by decide) dX7_init_29 (fun t => ?_)
  refine n_dup O dX7_init_32 rfl ?_
  refine n_callN O (host := "CaveRelay") (n_X6 (g_xl X)) E.2.1.2.2.2.2.2.2.2.2 w_ini_X6 n_wc_X6 n_wd_X6 n_wi_X6 rfl rfl dX7_init_33 rfl (fun f6 => ?_)
  refine n_same (ws' := [(a, .inr (7, [.ref h0, .ref r, .int 0, .null]))] ++ (n_cave (g_ca X) (n_ad0 h0 f0) ++ [(r, .inl (g_ca X 1, 4, .inr (.inr (.inr (.inr (fun _ => none)))))), (t, .inr (6, [.ref (f6 0), .int 0])), (f6 0, .inl (g_ca X 0, 90, .inl (fun _ => 0)))])) (by simp only [List.append_assoc, List.cons_append, List.nil_append, List.set_cons_zero]) ?_
  refine n_putF O 0 (FPFX7_27 t) rfl (Nat.le_of_ble_eq_true rfl) dX7_init_36 ?_
  refine n_same (ws' := [(a, .inr (7, [.ref h0, .ref r, .int 0, .ref t]))] ++ (n_cave (g_ca X) (n_ad0 h0 f0) ++ [(r, .inl (g_ca X 1, 4, .inr (.inr (.inr (.inr (fun _ => none)))))), (t, .inr (6, [.ref (f6 0), .int 0])), (f6 0, .inl (g_ca X 0, 90, .inl (fun _ => 0)))])) rfl ?_
  refine n_iconst (x := 0) O dX7_init_39 rfl ?_
  refine n_istore (lc' := [(1, .int 0), (0, .ref a)]) O dX7_init_40 rfl (by rw [hn]; decide) rfl ?_
  refine n_iload O 0 dX7_init_41 rfl rfl ?_
  refine n_iconst (x := 4) O dX7_init_42 rfl ?_
  refine n_icmp_ge O 65 dX7_init_43 (by decide) (fun c => absurd c (by decide)) (fun _ => ?_)
  refine n_aload O 1 dX7_init_46 rfl rfl ?_
  refine n_get (x := .ref r) O 0 FX7_16 rfl rfl dX7_init_47 ?_
  refine n_iload O 0 dX7_init_50 rfl rfl ?_
  refine n_new O (ci := 0) (fs := n_fX0) tyX0 rfl uX0 tyX0_ok n_cl_70 n_in_0 w_ini_X0 n_df_X0 (by decide) (by decide) dX7_init_51 (fun h1 => ?_)
  refine n_dup O dX7_init_54 rfl ?_
  refine n_callE O E (n_X0 (g_xl X)) LBX7_9 w_i_X0_init rfl rfl dX7_init_55 rfl (fun f1 => ?_)
  refine n_same (ws' := [(a, .inr (7, [.ref h0, .ref r, .int 0, .ref t]))] ++ (n_cave (g_ca X) (n_ad0 h0 f0) ++ ([(r, .inl (g_ca X 1, 4, .inr (.inr (.inr (.inr (fun _ => none)))))), (t, .inr (6, [.ref (f6 0), .int 0])), (f6 0, .inl (g_ca X 0, 90, .inl (fun _ => 0)))] ++ n_cave (g_ca X) (n_ad0 h1 f1)))) (by simp only [List.append_assoc, List.cons_append, List.nil_append, List.set_cons_zero]) ?_
  refine n_astq O 25 1 28 0 (by rw [n_out (n := 1) (j := 24) rfl rfl, n_out (n := 24) (j := 0) n_cave_len rfl]; rfl) rfl (by rw [n_out (n := 1) (j := 27) rfl rfl, n_out (n := 24) (j := 3) n_cave_len rfl, n_out (n := 3) (j := 0) rfl rfl, n_cave0]) rfl (g_vin (by decide) (by decide)) dX7_init_58 ?_
  refine n_same (ws' := [(a, .inr (7, [.ref h0, .ref r, .int 0, .ref t]))] ++ (n_cave (g_ca X) (n_ad0 h0 f0) ++ ([(r, .inl (g_ca X 1, 4, .inr (.inr (.inr (.inr (va_up (fun _ => none) (0 : Int32).toNatClampNeg (some h1))))))), (t, .inr (6, [.ref (f6 0), .int 0])), (f6 0, .inl (g_ca X 0, 90, .inl (fun _ => 0)))] ++ n_cave (g_ca X) (n_ad0 h1 f1)))) (by rw [n_set (n := 1) (j := 24) rfl rfl, n_set (n := 24) (j := 0) n_cave_len rfl]; rfl) ?_
  refine n_iinc (y := 1) (lc' := [(1, .int 1), (0, .ref a)]) O 0 dX7_init_59 rfl rfl (by rw [hn]; decide) rfl ?_
  refine n_goto O 41 dX7_init_62 (by decide) ?_
  refine n_iload O 0 dX7_init_41 rfl rfl ?_
  refine n_iconst (x := 4) O dX7_init_42 rfl ?_
  refine n_icmp_ge O 65 dX7_init_43 (by decide) (fun c => absurd c (by decide)) (fun _ => ?_)
  refine n_aload O 1 dX7_init_46 rfl rfl ?_
  refine n_get (x := .ref r) O 0 FX7_16 rfl rfl dX7_init_47 ?_
  refine n_iload O 0 dX7_init_50 rfl rfl ?_
  refine n_new O (ci := 0) (fs := n_fX0) tyX0 rfl uX0 tyX0_ok n_cl_70 n_in_0 w_ini_X0 n_df_X0 (by decide) (by decide) dX7_init_51 (fun h2 => ?_)
  refine n_dup O dX7_init_54 rfl ?_
  refine n_callE O E (n_X0 (g_xl X)) LBX7_9 w_i_X0_init rfl rfl dX7_init_55 rfl (fun f2 => ?_)
  refine n_same (ws' := [(a, .inr (7, [.ref h0, .ref r, .int 0, .ref t]))] ++ (n_cave (g_ca X) (n_ad0 h0 f0) ++ ([(r, .inl (g_ca X 1, 4, .inr (.inr (.inr (.inr (va_up (fun _ => none) (0 : Int32).toNatClampNeg (some h1))))))), (t, .inr (6, [.ref (f6 0), .int 0])), (f6 0, .inl (g_ca X 0, 90, .inl (fun _ => 0)))] ++ (n_cave (g_ca X) (n_ad0 h1 f1) ++ n_cave (g_ca X) (n_ad0 h2 f2))))) (by simp only [List.append_assoc, List.cons_append, List.nil_append, List.set_cons_zero]) ?_
  refine n_astq O 25 1 52 0 (by rw [n_out (n := 1) (j := 24) rfl rfl, n_out (n := 24) (j := 0) n_cave_len rfl]; rfl) rfl (by rw [n_out (n := 1) (j := 51) rfl rfl, n_out (n := 24) (j := 27) n_cave_len rfl, n_out (n := 3) (j := 24) rfl rfl, n_out (n := 24) (j := 0) n_cave_len rfl, n_cave0]) rfl (g_vin (by decide) (by decide)) dX7_init_58 ?_
  refine n_same (ws' := [(a, .inr (7, [.ref h0, .ref r, .int 0, .ref t]))] ++ (n_cave (g_ca X) (n_ad0 h0 f0) ++ ([(r, .inl (g_ca X 1, 4, .inr (.inr (.inr (.inr (va_up (va_up (fun _ => none) (0 : Int32).toNatClampNeg (some h1)) (1 : Int32).toNatClampNeg (some h2))))))), (t, .inr (6, [.ref (f6 0), .int 0])), (f6 0, .inl (g_ca X 0, 90, .inl (fun _ => 0)))] ++ (n_cave (g_ca X) (n_ad0 h1 f1) ++ n_cave (g_ca X) (n_ad0 h2 f2))))) (by rw [n_set (n := 1) (j := 24) rfl rfl, n_set (n := 24) (j := 0) n_cave_len rfl]; rfl) ?_
  refine n_iinc (y := 2) (lc' := [(1, .int 2), (0, .ref a)]) O 0 dX7_init_59 rfl rfl (by rw [hn]; decide) rfl ?_
  refine n_goto O 41 dX7_init_62 (by decide) ?_
  refine n_iload O 0 dX7_init_41 rfl rfl ?_
  refine n_iconst (x := 4) O dX7_init_42 rfl ?_
  refine n_icmp_ge O 65 dX7_init_43 (by decide) (fun c => absurd c (by decide)) (fun _ => ?_)
  refine n_aload O 1 dX7_init_46 rfl rfl ?_
  refine n_get (x := .ref r) O 0 FX7_16 rfl rfl dX7_init_47 ?_
  refine n_iload O 0 dX7_init_50 rfl rfl ?_
  refine n_new O (ci := 0) (fs := n_fX0) tyX0 rfl uX0 tyX0_ok n_cl_70 n_in_0 w_ini_X0 n_df_X0 (by decide) (by decide) dX7_init_51 (fun h3 => ?_)
  refine n_dup O dX7_init_54 rfl ?_
  refine n_callE O E (n_X0 (g_xl X)) LBX7_9 w_i_X0_init rfl rfl dX7_init_55 rfl (fun f3 => ?_)
  refine n_same (ws' := [(a, .inr (7, [.ref h0, .ref r, .int 0, .ref t]))] ++ (n_cave (g_ca X) (n_ad0 h0 f0) ++ ([(r, .inl (g_ca X 1, 4, .inr (.inr (.inr (.inr (va_up (va_up (fun _ => none) (0 : Int32).toNatClampNeg (some h1)) (1 : Int32).toNatClampNeg (some h2))))))), (t, .inr (6, [.ref (f6 0), .int 0])), (f6 0, .inl (g_ca X 0, 90, .inl (fun _ => 0)))] ++ (n_cave (g_ca X) (n_ad0 h1 f1) ++ (n_cave (g_ca X) (n_ad0 h2 f2) ++ n_cave (g_ca X) (n_ad0 h3 f3)))))) (by simp only [List.append_assoc, List.cons_append, List.nil_append, List.set_cons_zero]) ?_
  refine n_astq O 25 1 76 0 (by rw [n_out (n := 1) (j := 24) rfl rfl, n_out (n := 24) (j := 0) n_cave_len rfl]; rfl) rfl (by rw [n_out (n := 1) (j := 75) rfl rfl, n_out (n := 24) (j := 51) n_cave_len rfl, n_out (n := 3) (j := 48) rfl rfl, n_out (n := 24) (j := 24) n_cave_len rfl, n_out (n := 24) (j := 0) n_cave_len rfl, n_cave0]) rfl (g_vin (by decide) (by decide)) dX7_init_58 ?_
  refine n_same (ws' := [(a, .inr (7, [.ref h0, .ref r, .int 0, .ref t]))] ++ (n_cave (g_ca X) (n_ad0 h0 f0) ++ ([(r, .inl (g_ca X 1, 4, .inr (.inr (.inr (.inr (va_up (va_up (va_up (fun _ => none) (0 : Int32).toNatClampNeg (some h1)) (1 : Int32).toNatClampNeg (some h2)) (2 : Int32).toNatClampNeg (some h3))))))), (t, .inr (6, [.ref (f6 0), .int 0])), (f6 0, .inl (g_ca X 0, 90, .inl (fun _ => 0)))] ++ (n_cave (g_ca X) (n_ad0 h1 f1) ++ (n_cave (g_ca X) (n_ad0 h2 f2) ++ n_cave (g_ca X) (n_ad0 h3 f3)))))) (by rw [n_set (n := 1) (j := 24) rfl rfl, n_set (n := 24) (j := 0) n_cave_len rfl]; rfl) ?_
  refine n_iinc (y := 3) (lc' := [(1, .int 3), (0, .ref a)]) O 0 dX7_init_59 rfl rfl (by rw [hn]; decide) rfl ?_
  refine n_goto O 41 dX7_init_62 (by decide) ?_
  refine n_iload O 0 dX7_init_41 rfl rfl ?_
  refine n_iconst (x := 4) O dX7_init_42 rfl ?_
  refine n_icmp_ge O 65 dX7_init_43 (by decide) (fun c => absurd c (by decide)) (fun _ => ?_)
  refine n_aload O 1 dX7_init_46 rfl rfl ?_
  refine n_get (x := .ref r) O 0 FX7_16 rfl rfl dX7_init_47 ?_
  refine n_iload O 0 dX7_init_50 rfl rfl ?_
  refine n_new O (ci := 0) (fs := n_fX0) tyX0 rfl uX0 tyX0_ok n_cl_70 n_in_0 w_ini_X0 n_df_X0 (by decide) (by decide) dX7_init_51 (fun h4 => ?_)
  refine n_dup O dX7_init_54 rfl ?_
  refine n_callE O E (n_X0 (g_xl X)) LBX7_9 w_i_X0_init rfl rfl dX7_init_55 rfl (fun f4 => ?_)
  refine n_same (ws' := [(a, .inr (7, [.ref h0, .ref r, .int 0, .ref t]))] ++ (n_cave (g_ca X) (n_ad0 h0 f0) ++ ([(r, .inl (g_ca X 1, 4, .inr (.inr (.inr (.inr (va_up (va_up (va_up (fun _ => none) (0 : Int32).toNatClampNeg (some h1)) (1 : Int32).toNatClampNeg (some h2)) (2 : Int32).toNatClampNeg (some h3))))))), (t, .inr (6, [.ref (f6 0), .int 0])), (f6 0, .inl (g_ca X 0, 90, .inl (fun _ => 0)))] ++ (n_cave (g_ca X) (n_ad0 h1 f1) ++ (n_cave (g_ca X) (n_ad0 h2 f2) ++ (n_cave (g_ca X) (n_ad0 h3 f3) ++ n_cave (g_ca X) (n_ad0 h4 f4))))))) (by simp only [List.append_assoc, List.cons_append, List.nil_append, List.set_cons_zero]) ?_
  refine n_astq O 25 1 100 0 (by rw [n_out (n := 1) (j := 24) rfl rfl, n_out (n := 24) (j := 0) n_cave_len rfl]; rfl) rfl (by rw [n_out (n := 1) (j := 99) rfl rfl, n_out (n := 24) (j := 75) n_cave_len rfl, n_out (n := 3) (j := 72) rfl rfl, n_out (n := 24) (j := 48) n_cave_len rfl, n_out (n := 24) (j := 24) n_cave_len rfl, n_out (n := 24) (j := 0) n_cave_len rfl, n_cave0]) rfl (g_vin (by decide) (by decide)) dX7_init_58 ?_
  refine n_same (ws' := [(a, .inr (7, [.ref h0, .ref r, .int 0, .ref t]))] ++ (n_cave (g_ca X) (n_ad0 h0 f0) ++ ([(r, .inl (g_ca X 1, 4, .inr (.inr (.inr (.inr (va_up (va_up (va_up (va_up (fun _ => none) (0 : Int32).toNatClampNeg (some h1)) (1 : Int32).toNatClampNeg (some h2)) (2 : Int32).toNatClampNeg (some h3)) (3 : Int32).toNatClampNeg (some h4))))))), (t, .inr (6, [.ref (f6 0), .int 0])), (f6 0, .inl (g_ca X 0, 90, .inl (fun _ => 0)))] ++ (n_cave (g_ca X) (n_ad0 h1 f1) ++ (n_cave (g_ca X) (n_ad0 h2 f2) ++ (n_cave (g_ca X) (n_ad0 h3 f3) ++ n_cave (g_ca X) (n_ad0 h4 f4))))))) (by rw [n_set (n := 1) (j := 24) rfl rfl, n_set (n := 24) (j := 0) n_cave_len rfl]; rfl) ?_
  refine n_iinc (y := 4) (lc' := [(1, .int 4), (0, .ref a)]) O 0 dX7_init_59 rfl rfl (by rw [hn]; decide) rfl ?_
  refine n_goto O 41 dX7_init_62 (by decide) ?_
  refine n_iload O 0 dX7_init_41 rfl rfl ?_
  refine n_iconst (x := 4) O dX7_init_42 rfl ?_
  refine n_icmp_ge O 65 dX7_init_43 (by decide) (fun _ => ?_) (fun c => absurd (by decide) c)
  have hv : (va_up (va_up (va_up (va_up (fun _ => none) (0 : Int32).toNatClampNeg (some h1)) (1 : Int32).toNatClampNeg (some h2)) (2 : Int32).toNatClampNeg (some h3)) (3 : Int32).toNatClampNeg (some h4)) = (fun i => if i < 4 then some (n_ad7 a (n_F7 (n_ad0 h0 f0) (n_ad0 h1 f1) (n_ad0 h2 f2) (n_ad0 h3 f3) (n_ad0 h4 f4) t (f6 0) r) (24 * (i + 1))) else none) := by
    funext i
    by_cases hi : i < 4
    · rw [if_pos hi]
      have hi : i = 0 ∨ i = 1 ∨ i = 2 ∨ i = 3 := by omega
      rcases hi with rfl | rfl | rfl | rfl <;> rfl
    · rw [if_neg hi]
      have h0 : (0 : Int32).toNatClampNeg = 0 := rfl
      have h1 : (1 : Int32).toNatClampNeg = 1 := rfl
      have h2 : (2 : Int32).toNatClampNeg = 2 := rfl
      have h3 : (3 : Int32).toNatClampNeg = 3 := rfl
      unfold va_up
      rw [h0, h1, h2, h3, if_neg (by omega), if_neg (by omega), if_neg (by omega), if_neg (by omega)]
  rw [hv]
  refine n_same (ws' := n_w7 (g_ca X) a (n_ad0 h0 f0) (n_ad0 h1 f1) (n_ad0 h2 f2) (n_ad0 h3 f3) (n_ad0 h4 f4) t (f6 0) r) rfl ?_
  refine n_conv n_w7_pm ?_
  exact n_ret O (n_F7 (n_ad0 h0 f0) (n_ad0 h1 f1) (n_ad0 h2 f2) (n_ad0 h3 f3) (n_ad0 h4 f4) t (f6 0) r) rfl dX7_init_65 (by decide) (by decide)
