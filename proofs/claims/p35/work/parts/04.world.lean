/-! ===== the words that all methods share: the good ones of the tables ===== -/
def gW : List Cond := lw_tbl.filter goodWord
theorem gW_good : ∀ w ∈ gW, goodWord w = true := fun w h => (List.mem_filter.mp h).2
theorem gW_tbl : ∀ w ∈ gW, w ∈ lw_tbl := fun w h => (List.mem_filter.mp h).1
theorem gW_in {w : Cond} {i : Nat} (h : lw_tbl[i]? = some w) (hg : goodWord w = true) : w ∈ gW := List.mem_filter.mpr ⟨List.mem_of_getElem? h, hg⟩
theorem gW_self : GoodIn gW gW := fun w h => ⟨h, good_of_word (gW_good w h)⟩
theorem gW_cons {w : Cond} (h : w ∈ gW) : GoodIn gW (w :: gW) := fun v hv => (List.mem_cons.mp hv).elim (fun e => gW_self v (by rw [e]; exact h)) (gW_self v)
/-! ===== the flat world: numbers by their places; caves 0..4 with 24 cells and 178 numbers each, then the other cells ===== -/
/-- numbers of the class, numbers of the model, longs, which cave each place of 'saved' holds -/
abbrev g_M : Type := (Nat → Int32) × (Nat → Int32) × (Nat → Int64) × (Nat → Nat)
abbrev g_Res : Type := (Option Value ⊕ String) × g_M
/-- is slot j of a cave's cell j0 a number -/
def g_va (j0 j : Nat) : Bool := match j0 with
  | 0 => Nat.ble 3 j && Nat.ble j 11 && !(Nat.beq j 4) && !(Nat.beq j 5)
  | 1 => Nat.beq j 3
  | 2 => Nat.blt j 7
  | 3 => Nat.blt j 7
  | 4 => Nat.blt j 7
  | 5 => Nat.beq j 3
  | 6 => Nat.blt j 8
  | 7 => Nat.blt j 8
  | 8 => Nat.blt j 8
  | 10 => Nat.blt j 9
  | 11 => Nat.blt j 9
  | 12 => Nat.blt j 9
  | 13 => Nat.blt j 9
  | 14 => Nat.blt j 9
  | 15 => Nat.blt j 9
  | 16 => Nat.beq j 3 || Nat.beq j 4
  | 17 => Nat.blt j 10
  | 18 => Nat.blt j 10
  | 19 => Nat.blt j 10
  | 20 => Nat.beq j 3 || Nat.beq j 4
  | 21 => Nat.blt j 12
  | 22 => Nat.blt j 12
  | 23 => Nat.blt j 12
  | _ => false
/-- its place among the cave's 178 numbers -/
def g_nl (j0 j : Nat) : Nat := match j0 with
  | 0 => match j with
    | 3 => 2
    | 6 => 3
    | 7 => 4
    | 8 => 5
    | 9 => 9
    | 10 => 10
    | _ => 11
  | 1 => 0
  | 2 => 13 + j
  | 3 => 20 + j
  | 4 => 27 + j
  | 5 => 1
  | 6 => 34 + 3 * j
  | 7 => 35 + 3 * j
  | 8 => 36 + 3 * j
  | 10 => 58 + j
  | 11 => 67 + j
  | 12 => 76 + j
  | 13 => 85 + j
  | 14 => 94 + j
  | 15 => 103 + j
  | 16 => match j with
    | 3 => 6
    | _ => 7
  | 17 => 112 + 3 * j
  | 18 => 113 + 3 * j
  | 19 => 114 + 3 * j
  | 20 => match j with
    | 3 => 12
    | _ => 8
  | 21 => 142 + 3 * j
  | 22 => 143 + 3 * j
  | _ => 144 + 3 * j
/-- the cell of the cave that a slot refers to -/
def g_rf (j0 j : Nat) : Nat := match j0 with
  | 0 => match j with
    | 0 => 1
    | 1 => 5
    | 2 => 9
    | 4 => 16
    | _ => 20
  | 1 => 2 + j
  | 5 => 6 + j
  | 16 => 17 + j
  | _ => 21 + j
/-- the class and the number of fields of a cave's object -/
def g_oc (j0 : Nat) : Option (Nat × Nat) := match j0 with
  | 0 => some (0, 12)
  | 1 => some (4, 4)
  | 5 => some (5, 4)
  | 10 => some (1, 9)
  | 11 => some (1, 9)
  | 12 => some (1, 9)
  | 13 => some (1, 9)
  | 14 => some (1, 9)
  | 15 => some (1, 9)
  | 16 => some (3, 5)
  | 20 => some (2, 5)
  | _ => none
/-- the length of a cave's array of numbers -/
def g_ia (j0 : Nat) : Option Nat := match j0 with
  | 2 => some 7
  | 3 => some 7
  | 4 => some 7
  | 6 => some 8
  | 7 => some 8
  | 8 => some 8
  | 17 => some 10
  | 18 => some 10
  | 19 => some 10
  | 21 => some 12
  | 22 => some 12
  | 23 => some 12
  | _ => none
def g_sv (ad : Nat → Nat) (cm : Nat → Int32) (c j0 j : Nat) : Value := cond (g_va j0 j) (.int (cm (178 * c + g_nl j0 j))) (.ref (ad (24 * c + g_rf j0 j)))
def g_ar (cm : Nat → Int32) (c j0 n : Nat) : Nat → Int32 := fun t => cond (Nat.blt t n) (cm (178 * c + g_nl j0 t)) 0
def g_ce (ad : Nat → Nat) (ca : Nat → ClassId) (cm : Nat → Int32) (c j0 : Nat) : va_E := match g_oc j0 with
  | some q => .inr (q.1, (List.range q.2).map (g_sv ad cm c j0))
  | none => match g_ia j0 with
    | some n => .inl (ca 0, n, .inl (g_ar cm c j0 n))
    | none => .inl (ca 2, 6, .inr (.inr (.inr (.inr (fun t => cond (Nat.blt t 6) (some (ad (24 * c + (10 + t)))) none)))))
def g_rw (m : Nat → Int32) (o n : Nat) : Nat → Int32 := fun t => cond (Nat.blt t n) (m (o + t)) 0
def g_oe (ad : Nat → Nat) (ca : Nat → ClassId) (μ : g_M) (k : Nat) : va_E := match k with
  | 0 => .inr (6, [.ref (ad 121), .int (μ.1 980)])
  | 1 => .inl (ca 0, 90, .inl (g_rw μ.1 890 90))
  | 2 => .inr (7, [.ref (ad 0), .ref (ad 123), .int (μ.1 981), .ref (ad 120)])
  | 3 => .inl (ca 1, 4, .inr (.inr (.inr (.inr (fun t => cond (Nat.blt t 4) (some (ad (24 * μ.2.2.2 t))) none)))))
  | 4 => .inl (ca 0, 13, .inl (g_rw μ.2.1 0 13))
  | 5 => .inl (ca 0, 7, .inl (g_rw μ.2.1 13 7))
  | 6 => .inl (ca 0, 7, .inl (g_rw μ.2.1 20 7))
  | 7 => .inl (ca 0, 7, .inl (g_rw μ.2.1 27 7))
  | 8 => .inl (ca 0, 24, .inl (g_rw μ.2.1 34 24))
  | 9 => .inl (ca 0, 54, .inl (g_rw μ.2.1 58 54))
  | 10 => .inl (ca 0, 33, .inl (g_rw μ.2.1 112 30))
  | _ => .inl (ca 0, 36, .inl (g_rw μ.2.1 142 36))
def g_ent (ad : Nat → Nat) (ca : Nat → ClassId) (μ : g_M) (k : Nat) : va_E := cond (Nat.blt k 120) (g_ce ad ca μ.1 (k / 24) (k % 24)) (g_oe ad ca μ (k - 120))
/-- how many cells the world has -/
def g_wn (_ : g_M) : Nat := 132
def g_ws (ad : Nat → Nat) (ca : Nat → ClassId) (μ : g_M) : va_W := (List.range (g_wn μ)).map (fun k => (ad k, g_ent ad ca μ k))
theorem g_wn_le (μ : g_M) : 132 ≤ g_wn μ ∧ g_wn μ ≤ 132 := ⟨Nat.le_refl _, Nat.le_refl _⟩
theorem g_ws_at' (ad : Nat → Nat) (ca : Nat → ClassId) (μ : g_M) {k : Nat} (hk : k < g_wn μ) : (g_ws ad ca μ)[k]? = some (ad k, g_ent ad ca μ k) := by
  simp [g_ws, hk]
theorem g_ws_at (ad : Nat → Nat) (ca : Nat → ClassId) (μ : g_M) {k : Nat} (hk : k < 132) : (g_ws ad ca μ)[k]? = some (ad k, g_ent ad ca μ k) := g_ws_at' ad ca μ (Nat.lt_of_lt_of_le hk (g_wn_le μ).1)
theorem g_ws_of {ad : Nat → Nat} {ca : Nat → ClassId} {μ : g_M} {k : Nat} {q : Nat × va_E} (h : (g_ws ad ca μ)[k]? = some q) : k < 132 ∧ q = (ad k, g_ent ad ca μ k) := by
  have hk : k < g_wn μ := by
    have := (List.getElem?_eq_some_iff.mp h).1
    simpa [g_ws] using this
  rw [g_ws_at' ad ca μ hk] at h
  exact ⟨Nat.lt_of_lt_of_le hk (g_wn_le μ).2, (Option.some.inj h).symm⟩
theorem g_ws_set' {ad : Nat → Nat} {ca : Nat → ClassId} {μ μ' : g_M} {k : Nat} {e : va_E} (hk : k < g_wn μ) (h1 : ∀ i, i < 132 → i ≠ k → g_ent ad ca μ' i = g_ent ad ca μ i) (h2 : g_ent ad ca μ' k = e) (hN : g_wn μ' = g_wn μ) : (g_ws ad ca μ).set k (ad k, e) = g_ws ad ca μ' := by
  apply List.ext_getElem?
  intro i
  by_cases hi : i < g_wn μ
  · have hi2 : i < 132 := Nat.lt_of_lt_of_le hi (g_wn_le μ).2
    rw [g_ws_at' ad ca μ' (by rw [hN]; exact hi)]
    by_cases hik : i = k
    · subst hik
      rw [List.getElem?_set_self (by simpa [g_ws] using hi), h2]
    · rw [List.getElem?_set_ne (Ne.symm hik), g_ws_at' ad ca μ hi, h1 i hi2 hik]
  · rw [List.getElem?_eq_none (by simp [g_ws]; omega), List.getElem?_eq_none (by simp [g_ws]; omega)]
theorem g_ws_set {ad : Nat → Nat} {ca : Nat → ClassId} {μ μ' : g_M} {k : Nat} {e : va_E} (hk : k < 132) (h1 : ∀ i, i < 132 → i ≠ k → g_ent ad ca μ' i = g_ent ad ca μ i) (h2 : g_ent ad ca μ' k = e) (hN : g_wn μ' = g_wn μ := by rfl) : (g_ws ad ca μ).set k (ad k, e) = g_ws ad ca μ' := g_ws_set' (Nat.lt_of_lt_of_le hk (g_wn_le μ).1) h1 h2 hN
/-! which slot a number lies in -/
def g_ni (n : Nat) : Nat × Nat :=
  if n < 13 then (match n with
    | 0 => (1, 3)
    | 1 => (5, 3)
    | 2 => (0, 3)
    | 3 => (0, 6)
    | 4 => (0, 7)
    | 5 => (0, 8)
    | 6 => (16, 3)
    | 7 => (16, 4)
    | 8 => (20, 4)
    | 9 => (0, 9)
    | 10 => (0, 10)
    | 11 => (0, 11)
    | _ => (20, 3))
  else if n < 20 then (2, n - 13) else if n < 27 then (3, n - 20) else if n < 34 then (4, n - 27) else if n < 58 then (6 + (n - 34) % 3, (n - 34) / 3) else if n < 112 then (10 + (n - 58) / 9, (n - 58) % 9) else if n < 142 then (17 + (n - 112) % 3, (n - 112) / 3) else (21 + (n - 142) % 3, (n - 142) / 3)
theorem g_ni_ok : ∀ j0, j0 < 24 → ∀ j, j < 12 → g_va j0 j = true → g_ni (g_nl j0 j) = (j0, j) ∧ g_nl j0 j < 178 := by decide +kernel
theorem g_va_lt : ∀ j0, j0 < 24 → ∀ j, g_va j0 j = true → j < 12 := by
  intro j0 h0 j
  have : j0 = 0 ∨ j0 = 1 ∨ j0 = 2 ∨ j0 = 3 ∨ j0 = 4 ∨ j0 = 5 ∨ j0 = 6 ∨ j0 = 7 ∨ j0 = 8 ∨ j0 = 9 ∨ j0 = 10 ∨ j0 = 11 ∨ j0 = 12 ∨ j0 = 13 ∨ j0 = 14 ∨ j0 = 15 ∨ j0 = 16 ∨ j0 = 17 ∨ j0 = 18 ∨ j0 = 19 ∨ j0 = 20 ∨ j0 = 21 ∨ j0 = 22 ∨ j0 = 23 := by omega
  rcases this with rfl | rfl | rfl | rfl | rfl | rfl | rfl | rfl | rfl | rfl | rfl | rfl | rfl | rfl | rfl | rfl | rfl | rfl | rfl | rfl | rfl | rfl | rfl | rfl <;> simp [g_va, Nat.ble_eq, Nat.blt] <;> omega
theorem g_blt {t n : Nat} : Nat.blt t n = true ↔ t < n := by
  show Nat.ble (t + 1) n = true ↔ t + 1 ≤ n
  rw [Nat.ble_eq]
theorem g_va_ia0 : ∀ j0, j0 < 24 → ∀ t, t < 12 → (match g_ia j0 with | some n => Nat.blt t n == g_va j0 t | none => true) = true := by decide +kernel
theorem g_va_ia {j0 n t : Nat} (h0 : j0 < 24) (ht : t < 12) (ha : g_ia j0 = some n) : Nat.blt t n = g_va j0 t := by
  have h := g_va_ia0 j0 h0 t ht
  rw [ha] at h
  exact eq_of_beq h
theorem g_loc_ne {c j0 j c' j0' j' : Nat} (h0 : j0 < 24) (h0' : j0' < 24) (hv : g_va j0 j = true) (hv' : g_va j0' j' = true) (hne : ¬ (c = c' ∧ j0 = j0' ∧ j = j')) : 178 * c + g_nl j0 j ≠ 178 * c' + g_nl j0' j' := by
  have a := g_ni_ok j0 h0 j (g_va_lt j0 h0 j hv) hv
  have b := g_ni_ok j0' h0' j' (g_va_lt j0' h0' j' hv') hv'
  intro he
  have hc : c = c' := by omega
  subst hc
  have hn : g_nl j0 j = g_nl j0' j' := by omega
  rw [hn] at a
  have := a.1.symm.trans b.1
  exact hne ⟨rfl, (Prod.mk.inj this).1, (Prod.mk.inj this).2⟩
theorem g_loc_lt {c j0 j : Nat} (hc : c < 5) (h0 : j0 < 24) (hv : g_va j0 j = true) : 178 * c + g_nl j0 j < 890 := by
  have a := g_ni_ok j0 h0 j (g_va_lt j0 h0 j hv) hv
  omega
/-- a slot's value hangs on its own number alone -/
theorem g_sv_congr {ad : Nat → Nat} {m1 m2 : Nat → Int32} {c j0 j : Nat} (h : g_va j0 j = true → m1 (178 * c + g_nl j0 j) = m2 (178 * c + g_nl j0 j)) : g_sv ad m1 c j0 j = g_sv ad m2 c j0 j := by
  unfold g_sv
  cases hv : g_va j0 j with
  | false => rfl
  | true => show Value.int _ = Value.int _; rw [h hv]
theorem g_ar_congr {m1 m2 : Nat → Int32} {c j0 n : Nat} (h0 : j0 < 24) (hn : g_ia j0 = some n) (h : ∀ j, g_va j0 j = true → m1 (178 * c + g_nl j0 j) = m2 (178 * c + g_nl j0 j)) : g_ar m1 c j0 n = g_ar m2 c j0 n := by
  funext t
  unfold g_ar
  cases ht : Nat.blt t n with
  | false => rfl
  | true =>
    show m1 _ = m2 _
    have h12 : t < 12 := by
      have hn12 : ∀ j0, j0 < 24 → ∀ n, g_ia j0 = some n → n ≤ 12 := by
        intro j0 h0 n
        have : j0 = 0 ∨ j0 = 1 ∨ j0 = 2 ∨ j0 = 3 ∨ j0 = 4 ∨ j0 = 5 ∨ j0 = 6 ∨ j0 = 7 ∨ j0 = 8 ∨ j0 = 9 ∨ j0 = 10 ∨ j0 = 11 ∨ j0 = 12 ∨ j0 = 13 ∨ j0 = 14 ∨ j0 = 15 ∨ j0 = 16 ∨ j0 = 17 ∨ j0 = 18 ∨ j0 = 19 ∨ j0 = 20 ∨ j0 = 21 ∨ j0 = 22 ∨ j0 = 23 := by omega
        rcases this with rfl | rfl | rfl | rfl | rfl | rfl | rfl | rfl | rfl | rfl | rfl | rfl | rfl | rfl | rfl | rfl | rfl | rfl | rfl | rfl | rfl | rfl | rfl | rfl <;> simp [g_ia] <;> omega
      have := hn12 j0 h0 n hn
      have h2 : t < n := g_blt.mp ht
      omega
    have h3 := g_va_ia h0 h12 hn
    exact h t (h3.symm.trans ht)
theorem g_ce_congr {ad : Nat → Nat} {ca : Nat → ClassId} {m1 m2 : Nat → Int32} {c j0 : Nat} (h0 : j0 < 24) (h : ∀ j, g_va j0 j = true → m1 (178 * c + g_nl j0 j) = m2 (178 * c + g_nl j0 j)) : g_ce ad ca m1 c j0 = g_ce ad ca m2 c j0 := by
  unfold g_ce
  cases ho : g_oc j0 with
  | some q =>
    show Sum.inr (q.1, _) = Sum.inr (q.1, _)
    rw [List.map_congr_left fun j _ => g_sv_congr (h j)]
  | none =>
    cases hi : g_ia j0 with
    | some n => show Sum.inl (ca 0, n, Sum.inl _) = Sum.inl (ca 0, n, Sum.inl _); rw [g_ar_congr h0 hi h]
    | none => rfl
theorem g_ent_c (ad : Nat → Nat) (ca : Nat → ClassId) (μ : g_M) {c j0 : Nat} (hc : c < 5) (h0 : j0 < 24) : g_ent ad ca μ (24 * c + j0) = g_ce ad ca μ.1 c j0 := by
  unfold g_ent
  have h1 : Nat.blt (24 * c + j0) 120 = true := g_blt.mpr (by omega)
  rw [h1, show (24 * c + j0) / 24 = c by omega, show (24 * c + j0) % 24 = j0 by omega]
  rfl
theorem g_ent_o (ad : Nat → Nat) (ca : Nat → ClassId) (μ : g_M) {k : Nat} (hk : 120 ≤ k) : g_ent ad ca μ k = g_oe ad ca μ (k - 120) := by
  unfold g_ent
  have h1 : Nat.blt k 120 = false := by
    cases h : Nat.blt k 120 with
    | false => rfl
    | true => have := g_blt.mp h; omega
  rw [h1]
  rfl
theorem g_rw_congr {m1 m2 : Nat → Int32} {o n : Nat} (h : ∀ t, t < n → m1 (o + t) = m2 (o + t)) : g_rw m1 o n = g_rw m2 o n := by
  funext t
  unfold g_rw
  cases ht : Nat.blt t n with
  | false => rfl
  | true => exact h t (g_blt.mp ht)
/-- the other cells hang on the numbers behind the caves -/
theorem g_oe_congr {ad : Nat → Nat} {ca : Nat → ClassId} {μ μ' : g_M} (h : ∀ n, 890 ≤ n → μ.1 n = μ'.1 n) (h2 : μ.2 = μ'.2) (k : Nat) : g_oe ad ca μ k = g_oe ad ca μ' k := by
  have e1 := h 980 (by omega)
  have e2 := h 981 (by omega)
  have e3 : g_rw μ.1 890 90 = g_rw μ'.1 890 90 := g_rw_congr fun t _ => h _ (by omega)
  unfold g_oe
  rw [h2, e1, e2, e3]
theorem g_upd_ne {f : Nat → Int32} {a b : Nat} {x : Int32} (h : b ≠ a) : upd f a x b = f b := by simp [upd, h]
theorem g_upd_eq {f : Nat → Int32} {a : Nat} {x : Int32} : upd f a x a = x := by simp [upd]
/-- writing one number of a cave leaves the other cells -/
theorem g_ent_upd {ad : Nat → Nat} {ca : Nat → ClassId} {μ : g_M} {c j0 j : Nat} {x : Int32} (hc : c < 5) (h0 : j0 < 24) (hv : g_va j0 j = true) : ∀ i, i < 132 → i ≠ 24 * c + j0 → g_ent ad ca (upd μ.1 (178 * c + g_nl j0 j) x, μ.2) i = g_ent ad ca μ i := by
  intro i hi hne
  rcases Nat.lt_or_ge i 120 with h | h
  · have e : i = 24 * (i / 24) + i % 24 := by omega
    rw [e, g_ent_c ad ca _ (by omega) (by omega), g_ent_c ad ca _ (by omega) (by omega)]
    refine g_ce_congr (by omega) fun j' hv' => g_upd_ne (g_loc_ne (by omega) h0 hv' hv (fun q => ?_))
    omega
  · rw [g_ent_o ad ca _ h, g_ent_o ad ca _ h]
    have hl := g_loc_lt hc h0 hv
    exact g_oe_congr (μ := (upd μ.1 (178 * c + g_nl j0 j) x, μ.2)) (fun n hn => g_upd_ne (f := μ.1) (by omega)) rfl _
/-- writing a field of a cave's object -/
theorem g_set_obj {ad : Nat → Nat} {ca : Nat → ClassId} {μ : g_M} {c j0 j ci N : Nat} {x : Int32} (hc : c < 5) (h0 : j0 < 24) (hv : g_va j0 j = true) (ho : g_oc j0 = some (ci, N)) (hj : j < N) : (g_ws ad ca μ).set (24 * c + j0) (ad (24 * c + j0), .inr (ci, ((List.range N).map (g_sv ad μ.1 c j0)).set j (.int x))) = g_ws ad ca (upd μ.1 (178 * c + g_nl j0 j) x, μ.2) := by
  refine g_ws_set (by omega) (g_ent_upd hc h0 hv) ?_
  rw [g_ent_c ad ca _ hc h0]
  unfold g_ce
  rw [ho]
  show Sum.inr (ci, _) = Sum.inr (ci, _)
  congr 2
  apply List.ext_getElem?
  intro i
  by_cases hi : i < N
  · rw [List.getElem?_map, List.getElem?_range hi]
    by_cases hij : i = j
    · subst hij
      rw [List.getElem?_set_self (by simpa using hi)]
      show some (g_sv _ _ _ _ _) = _
      unfold g_sv
      rw [hv]
      show some (Value.int (upd μ.1 _ _ _)) = _
      rw [g_upd_eq]
    · rw [List.getElem?_set_ne (Ne.symm hij), List.getElem?_map, List.getElem?_range hi]
      show some (g_sv _ _ _ _ _) = some (g_sv _ _ _ _ _)
      rw [g_sv_congr fun hv' => g_upd_ne (g_loc_ne h0 h0 hv' hv (fun q => hij q.2.2))]
  · rw [List.getElem?_eq_none (by simp; omega), List.getElem?_eq_none (by simp; omega)]
/-- writing a place of a cave's array -/
theorem g_set_arr {ad : Nat → Nat} {ca : Nat → ClassId} {μ : g_M} {c j0 j n : Nat} {x : Int32} (hc : c < 5) (h0 : j0 < 24) (ho : g_oc j0 = none) (ha : g_ia j0 = some n) (hj : j < n) (hv : g_va j0 j = true) : (g_ws ad ca μ).set (24 * c + j0) (ad (24 * c + j0), .inl (ca 0, n, .inl (upd (g_ar μ.1 c j0 n) j x))) = g_ws ad ca (upd μ.1 (178 * c + g_nl j0 j) x, μ.2) := by
  refine g_ws_set (by omega) (g_ent_upd hc h0 hv) ?_
  rw [g_ent_c ad ca _ hc h0]
  unfold g_ce
  rw [ho, ha]
  show Sum.inl (ca 0, n, Sum.inl _) = Sum.inl (ca 0, n, Sum.inl _)
  congr 4
  funext t
  by_cases htj : t = j
  · subst htj
    rw [g_upd_eq]
    unfold g_ar
    rw [show Nat.blt t n = true from g_blt.mpr hj]
    exact g_upd_eq
  · rw [g_upd_ne htj]
    unfold g_ar
    cases ht : Nat.blt t n with
    | false => rfl
    | true =>
      show upd _ _ _ _ = _
      refine g_upd_ne ?_
      have h12 : t < 12 ∧ j < 12 := by
        have h2 : t < n := g_blt.mp ht
        have := g_va_lt j0 h0 j hv
        have hn : n ≤ 12 := by
          have : j0 = 0 ∨ j0 = 1 ∨ j0 = 2 ∨ j0 = 3 ∨ j0 = 4 ∨ j0 = 5 ∨ j0 = 6 ∨ j0 = 7 ∨ j0 = 8 ∨ j0 = 9 ∨ j0 = 10 ∨ j0 = 11 ∨ j0 = 12 ∨ j0 = 13 ∨ j0 = 14 ∨ j0 = 15 ∨ j0 = 16 ∨ j0 = 17 ∨ j0 = 18 ∨ j0 = 19 ∨ j0 = 20 ∨ j0 = 21 ∨ j0 = 22 ∨ j0 = 23 := by omega
          rcases this with rfl | rfl | rfl | rfl | rfl | rfl | rfl | rfl | rfl | rfl | rfl | rfl | rfl | rfl | rfl | rfl | rfl | rfl | rfl | rfl | rfl | rfl | rfl | rfl <;> simp [g_ia] at ha <;> omega
        omega
      have h3 := g_va_ia h0 h12.1 ha
      exact g_loc_ne h0 h0 (h3.symm.trans ht) hv (fun q => htj q.2.2)
/-! the class's other numbers: text, counts -/
theorem g_ent_hi {ad : Nat → Nat} {ca : Nat → ClassId} {μ : g_M} {n : Nat} {x : Int32} (hn : 890 ≤ n) {i : Nat} (hi : i < 120) : g_ent ad ca (upd μ.1 n x, μ.2) i = g_ent ad ca μ i := by
  have e : i = 24 * (i / 24) + i % 24 := by omega
  rw [e, g_ent_c ad ca _ (by omega) (by omega), g_ent_c ad ca _ (by omega) (by omega)]
  refine g_ce_congr (by omega) fun j' hv' => g_upd_ne ?_
  have := g_loc_lt (c := i / 24) (j0 := i % 24) (by omega) (by omega) hv'
  omega
