/-! ===== more rows, and comparisons read over the integers ===== -/
theorem j_le {x y : Int32} (h : x ≤ y) : x.toInt ≤ y.toInt := Int32.le_iff_toInt_le.mp h
theorem j_nle {x y : Int32} (h : ¬ x ≤ y) : y.toInt < x.toInt := by
  have := mt Int32.le_iff_toInt_le.mpr h
  omega
theorem j_lt {x y : Int32} (h : x < y) : x.toInt < y.toInt := Int32.lt_iff_toInt_lt.mp h
theorem j_nlt {x y : Int32} (h : ¬ x < y) : y.toInt ≤ x.toInt := by
  have := mt Int32.lt_iff_toInt_lt.mpr h
  omega
theorem j_eq {x y : Int32} (h : x = y) : x.toInt = y.toInt := by rw [h]
theorem j_ne {x y : Int32} (h : ¬ x = y) : x.toInt ≠ y.toInt := fun e => h (Int32.toInt_inj.mp e)
/-! the same, with a written number on one side -/
theorem j_leR {x y : Int32} {b : Int} (h : x ≤ y) (hb : y.toInt = b) : x.toInt ≤ b := hb ▸ j_le h
theorem j_leL {x y : Int32} {a : Int} (h : x ≤ y) (ha : x.toInt = a) : a ≤ y.toInt := ha ▸ j_le h
theorem j_nleR {x y : Int32} {b : Int} (h : ¬ x ≤ y) (hb : y.toInt = b) : b < x.toInt := hb ▸ j_nle h
theorem j_nleL {x y : Int32} {a : Int} (h : ¬ x ≤ y) (ha : x.toInt = a) : y.toInt < a := ha ▸ j_nle h
theorem j_ltR {x y : Int32} {b : Int} (h : x < y) (hb : y.toInt = b) : x.toInt < b := hb ▸ j_lt h
theorem j_ltL {x y : Int32} {a : Int} (h : x < y) (ha : x.toInt = a) : a < y.toInt := ha ▸ j_lt h
theorem j_nltR {x y : Int32} {b : Int} (h : ¬ x < y) (hb : y.toInt = b) : b ≤ x.toInt := hb ▸ j_nlt h
theorem j_nltL {x y : Int32} {a : Int} (h : ¬ x < y) (ha : x.toInt = a) : y.toInt ≤ a := ha ▸ j_nlt h
theorem j_eqR {x y : Int32} {b : Int} (h : x = y) (hb : y.toInt = b) : x.toInt = b := hb ▸ j_eq h
theorem j_eqL {x y : Int32} {a : Int} (h : x = y) (ha : x.toInt = a) : a = y.toInt := ha ▸ j_eq h
theorem j_neR {x y : Int32} {b : Int} (h : ¬ x = y) (hb : y.toInt = b) : x.toInt ≠ b := hb ▸ j_ne h
theorem j_neL {x y : Int32} {a : Int} (h : ¬ x = y) (ha : x.toInt = a) : a ≠ y.toInt := ha ▸ j_ne h
theorem g_vin {x : Int32} {n : Nat} (h0 : 0 ≤ x.toInt) (h1 : x.toInt < n) : vp_in x n := vp_in_iff.mpr ⟨h0, h1⟩
theorem g_cl {x : Int32} {n : Nat} (h : vp_in x n) : x.toNatClampNeg < n := Nat.not_le.mp fun z => h (Or.inr z)
theorem g_bool {c : Prop} (hc : Decidable c) : (if c then (1 : Int32) else 0) = 0 ∨ (if c then (1 : Int32) else 0) = 1 := by split <;> simp
section GR2
variable {α : Type} {X : g_X} {emb : α → g_Res} {r : α} {k n : Nat} {m : Nat → Int32} {q : g_q} {pc : Nat} {lc lc' : List (Nat × Value)} {st : List Value} {cc : ByteArray} {own : String} {ret : Option FieldType} {R : Room}
theorem r_iastc (O : g_ok X cc own ret R) {kc len : Nat} {w : Nat → Nat} {i x : Int32} (G : g_T (g_ad X) (g_ca X) (m, q) kc len (fun t x => (upd m (w t) x, q))) (hin : vp_in i len) (hd : decode cc pc = .ok (.iastore, 1)) (kk : g_V X emb r k n (upd m (w i.toNatClampNeg) x) q (pc + 1) lc st) : g_V X emb r k n m q pc lc (.int x :: .int i :: .ref (g_ad X kc) :: st) := r_iast O G hin hd kk
theorem r_iastM (O : g_ok X cc own ret R) {kc len : Nat} {w : Nat → Nat} {i x : Int32} {s : Nat → Int32} {lm : Nat → Int64} {pm : Nat → Nat} (G : g_T (g_ad X) (g_ca X) (m, s, lm, pm) kc len (fun t x => (m, upd s (w t) x, lm, pm))) (hin : vp_in i len) (hd : decode cc pc = .ok (.iastore, 1)) (kk : g_V X emb r k n m (upd s (w i.toNatClampNeg) x, lm, pm) (pc + 1) lc st) : g_V X emb r k n m (s, lm, pm) pc lc (.int x :: .int i :: .ref (g_ad X kc) :: st) := r_iast O G hin hd kk
theorem r_iushr (O : g_ok X cc own ret R) {x y : Int32} (hd : decode cc pc = .ok (.iushr, 1)) (kk : g_V X emb r k n m q (pc + 1) lc (.int ((x.toUInt32 >>> (y.toUInt32 &&& Int32.toUInt32 31)).toInt32) :: st)) : g_V X emb r k n m q pc lc (.int y :: .int x :: st) := fun H locs ls hP hS hh => lv_iushr O.exec O.code hd rfl (kk H locs ls hP hS hh)
theorem g_if {c : Prop} {hc : Decidable c} {A B : α} (ht : c → g_V X emb A k n m q pc lc st) (hf : ¬ c → g_V X emb B k n m q pc lc st) : g_V X emb (if c then A else B) k n m q pc lc st := by
  by_cases h : c
  · rw [if_pos h]; exact ht h
  · rw [if_neg h]; exact hf h
/-- a helper of cave c -/
theorem r_aaldc (O : g_ok X cc own ret R) {c : Nat} {i : Int32} (hc : c < 5) (hin : vp_in i 6) (hd : decode cc pc = .ok (.aaload, 1)) (kk : g_V X emb r k n m q (pc + 1) lc (.ref (g_ad X (24 * c + (10 + i.toNatClampNeg))) :: st)) : g_V X emb r k n m q pc lc (.int i :: .ref (g_ad X (24 * c + 9)) :: st) := by
  refine fun H locs ls hP hS hh => va_aldq O.exec O.code O.K hP (24 * c + 9) 2 (by rw [g_ws_at _ _ _ (by omega), g_ent_c _ _ _ hc (by omega)]; rfl) rfl hin hd ?_
  have h1 := g_cl hin
  rw [g_blt.mpr h1]
  exact kk H locs ls hP hS hh
theorem r_aald (O : g_ok X cc own ret R) {i : Int32} (hin : vp_in i 6) (hd : decode cc pc = .ok (.aaload, 1)) (kk : g_V X emb r k n m q (pc + 1) lc (.ref (g_ad X (10 + i.toNatClampNeg)) :: st)) : g_V X emb r k n m q pc lc (.int i :: .ref (g_ad X 9) :: st) := by
  have kk2 : g_V X emb r k n m q (pc + 1) lc (.ref (g_ad X (24 * 0 + (10 + i.toNatClampNeg))) :: st) := by
    rw [show 24 * 0 + (10 + i.toNatClampNeg) = 10 + i.toNatClampNeg by omega]
    exact kk
  exact r_aaldc (c := 0) O (by omega) hin hd kk2
end GR2
theorem j_add {x y : Int32} (h1 : -2147483648 ≤ x.toInt + y.toInt) (h2 : x.toInt + y.toInt ≤ 2147483647) : (x + y).toInt = x.toInt + y.toInt := by
  rw [Int32.toInt_add]
  exact Int.bmod_eq_of_le (by omega) (by omega)
theorem j_sub {x y : Int32} (h1 : -2147483648 ≤ x.toInt - y.toInt) (h2 : x.toInt - y.toInt ≤ 2147483647) : (x - y).toInt = x.toInt - y.toInt := by
  rw [Int32.toInt_sub]
  exact Int.bmod_eq_of_le (by omega) (by omega)
theorem j_mul {x y : Int32} (h1 : -2147483648 ≤ x.toInt * y.toInt) (h2 : x.toInt * y.toInt ≤ 2147483647) : (x * y).toInt = x.toInt * y.toInt := by
  rw [Int32.toInt_mul]
  exact Int.bmod_eq_of_le (by omega) (by omega)
theorem j_add1 {x : Int32} (h : x.toInt ≤ 2147483646) : (x + 1).toInt = x.toInt + 1 := by
  have h0 := Int32.minValue_le_toInt x
  rw [j_add]
  · rfl
  · show -2147483648 ≤ x.toInt + 1
    have : Int32.minValue.toInt = -2147483648 := rfl
    omega
  · show x.toInt + 1 ≤ 2147483647
    omega
theorem j_sub1 {x : Int32} (h : -2147483647 ≤ x.toInt) : (x - 1).toInt = x.toInt - 1 := by
  have h0 := Int32.toInt_le x
  rw [j_sub]
  · rfl
  · show -2147483648 ≤ x.toInt - 1
    omega
  · show x.toInt - 1 ≤ 2147483647
    have : Int32.maxValue.toInt = 2147483647 := rfl
    omega
theorem j_nat {x : Int32} (h : 0 ≤ x.toInt) : (x.toNatClampNeg : Int) = x.toInt := by
  show ((x.toInt).toNat : Int) = x.toInt
  omega
theorem j_nI {x : Int32} (h : 0 ≤ x.toInt) : x = nI x.toNatClampNeg := by
  apply Int32.toInt_inj.mp
  have h2 := Int32.toInt_le x
  have h3 : Int32.maxValue.toInt = 2147483647 := rfl
  have h4 := j_nat h
  rw [nI_toInt (by omega)]
  omega
theorem j_dec {n : Nat} (h : 0 < n) : nI n + Int32.ofInt (-1) = nI (n - 1) := by
  obtain ⟨a, rfl⟩ : ∃ a, n = a + 1 := ⟨n - 1, by omega⟩
  exact pk_m1 a
theorem j_addE {x y : Int32} {a b : Int} (ha : x.toInt = a) (hb : y.toInt = b) (h1 : -2147483648 ≤ a + b) (h2 : a + b ≤ 2147483647) : (x + y).toInt = a + b := by
  subst ha; subst hb; exact j_add h1 h2
theorem j_subE {x y : Int32} {a b : Int} (ha : x.toInt = a) (hb : y.toInt = b) (h1 : -2147483648 ≤ a - b) (h2 : a - b ≤ 2147483647) : (x - y).toInt = a - b := by
  subst ha; subst hb; exact j_sub h1 h2
theorem j_mulE {x y : Int32} {a b : Int} (ha : x.toInt = a) (hb : y.toInt = b) (h1 : -2147483648 ≤ a * b) (h2 : a * b ≤ 2147483647) : (x * y).toInt = a * b := by
  subst ha; subst hb; exact j_mul h1 h2
theorem narrow_b {x : Int32} (h : x = 0 ∨ x = 1) : narrow .boolean (.int x) = .int x := by
  rcases h with rfl | rfl <;> rfl
