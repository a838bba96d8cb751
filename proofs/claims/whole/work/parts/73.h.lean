/-! ===== the digest ===== -/
def g_mx (g : Nat → Int32) : Nat → Nat → Int64 → Int64
  | 0, _, v => v
  | f + 1, k, v => g_mx g f (k + 1) ((31 * v) + (g k).toInt64)
section SH
variable {m s : Nat → Int32} {pm : Nat → Nat}
theorem mx_congr {g h : Nat → Int32} : ∀ (f k : Nat) (v : Int64), (∀ j, k ≤ j → j < k + f → g j = h j) → g_mx g f k v = g_mx h f k v
  | 0, _, _, _ => rfl
  | f + 1, k, v, e => by
    unfold g_mx
    rw [e k (Nat.le_refl _) (by omega)]
    exact mx_congr f (k + 1) _ (fun j a b => e j (by omega) (by omega))
theorem mx_app {g : Nat → Int32} : ∀ (f f' k : Nat) (v : Int64), g_mx g (f + f') k v = g_mx g f' (k + f) (g_mx g f k v)
  | 0, f', k, v => by rw [Nat.zero_add]; rfl
  | f + 1, f', k, v => by
    rw [show f + 1 + f' = (f + f') + 1 by omega]
    show g_mx g (f + f') (k + 1) _ = g_mx g f' (k + (f + 1)) (g_mx g f (k + 1) _)
    rw [mx_app f f' (k + 1), show k + 1 + f = k + (f + 1) by omega]
theorem in_loop {β : Type} {I : Nat → Int64 → Nat → β} {K : Int64 → β} {q : Nat → Int32} {c : Nat} (hc : c < 50) {C : Int32} (hC : C.toInt + 1 = c) (hI : ∀ g v b, I (g + 1) v b = if C < nI b then K v else I g ((31 * v) + (q b).toInt64) (b + 1)) : ∀ (f b : Nat) (v : Int64), b ≤ c → c < f + b → I f v b = K (g_mx q (c - b) b v)
  | 0, b, v, h, h' => absurd h' (by omega)
  | f + 1, b, v, h, h' => by
    have hi : (nI b).toInt = (b : Int) := nI_toInt (by omega)
    rw [hI]
    by_cases e : b = c
    · subst e
      rw [if_pos (Int32.lt_iff_toInt_lt.mpr (by omega)), Nat.sub_self]
      rfl
    · rw [if_neg (fun z => by have := j_lt z; omega), in_loop hc hC hI f (b + 1) _ (by omega) (by omega), show c - b = (c - (b + 1)) + 1 by omega]
      rfl
theorem out_loop {β : Type} {O : Nat → Int64 → Nat → β} {I : Nat → Nat → Nat → Int64 → Nat → β} {E : Int64 → β} {q : Nat → Nat → Int32} {n c fc : Nat} (hc0 : 0 < c) (hc : c < 50) (hf : c < fc) (hn : n < 50) {C N : Int32} (hC : C.toInt + 1 = c) (hN : N.toInt = n)
    (hO : ∀ f v a, O (f + 1) v a = if N ≤ nI a then E v else I f a fc v 0) (hI : ∀ f a g v b, I f a (g + 1) v b = if C < nI b then O f v (a + 1) else I f a g ((31 * v) + (q a b).toInt64) (b + 1)) : ∀ (f a : Nat) (v : Int64), a ≤ n → n < f + a → O f v a = E (g_mx (fun j => q (j / c) (j % c)) (c * (n - a)) (c * a) v)
  | 0, a, v, h, h' => absurd h' (by omega)
  | f + 1, a, v, h, h' => by
    have hi : (nI a).toInt = (a : Int) := nI_toInt (by omega)
    rw [hO]
    by_cases e : a = n
    · subst e
      rw [if_pos (Int32.le_iff_toInt_le.mpr (by omega)), Nat.sub_self, Nat.mul_zero]
      rfl
    · rw [if_neg (fun z => by have := j_le z; omega), in_loop (I := fun g v b => I f a g v b) (K := fun v => O f v (a + 1)) (q := fun b => q a b) hc hC (fun g v b => hI f a g v b) fc 0 v (by omega) (by omega)]
      rw [out_loop hc0 hc hf hn hC hN hO hI f (a + 1) _ (by omega) (by omega)]
      refine congrArg E ?_
      have e1 : c * (n - a) = c + c * (n - (a + 1)) := by
        rw [show n - a = (n - (a + 1)) + 1 by omega, Nat.mul_succ]; omega
      rw [e1, mx_app, Nat.mul_succ, Nat.sub_zero]
      refine congrArg _ ?_
      have sh : ∀ (f k : Nat) (v : Int64), k + f ≤ c → g_mx (fun b => q a b) f k v = g_mx (fun j => q (j / c) (j % c)) f (c * a + k) v := by
        intro f
        induction f with
        | zero => intro k v _; rfl
        | succ f ih =>
          intro k v hk
          show g_mx _ f (k + 1) _ = g_mx _ f (c * a + k + 1) _
          have d1 : (c * a + k) / c = a := by rw [Nat.mul_add_div hc0, Nat.div_eq_of_lt (by omega), Nat.add_zero]
          have d2 : (c * a + k) % c = k := by rw [Nat.mul_add_mod, Nat.mod_eq_of_lt (by omega)]
          rw [ih (k + 1) _ (by omega)]
          dsimp only
          rw [d1, d2]
          rfl
      exact sh c 0 v (by omega)
theorem flat_loop {β : Type} {M : Nat → Nat → (Nat → Int64) → β} {E : (Nat → Int64) → β} {q : Nat → Int32} {T : Nat} (hT : T < 1000) {N : Int32} (hN : N.toInt = T) {s : Nat → Int32}
    (hM : ∀ f k lm, M (f + 1) k lm = if N ≤ nI k then E lm else M f (k + 1) (R_X8_mix s lm (q k))) : ∀ (f k : Nat) (lm : Nat → Int64), k ≤ T → T < f + k → ∃ lm', M f k lm = E lm' ∧ lm' 0 = g_mx q (T - k) k (lm 0)
  | 0, k, lm, h, h' => absurd h' (by omega)
  | f + 1, k, lm, h, h' => by
    have hi : (nI k).toInt = (k : Int) := nI_toInt (by omega)
    rw [hM]
    by_cases e : k = T
    · subst e
      rw [if_pos (Int32.le_iff_toInt_le.mpr (by omega)), Nat.sub_self]
      exact ⟨lm, rfl, rfl⟩
    · rw [if_neg (fun z => by have := j_le z; omega)]
      obtain ⟨lm', l1, l2⟩ := flat_loop hT hN hM f (k + 1) (R_X8_mix s lm (q k)) (by omega) (by omega)
      refine ⟨lm', l1, ?_⟩
      rw [l2, show T - k = (T - (k + 1)) + 1 by omega]
      rfl
theorem div5 : ∀ k < 36, nI k / 5 = nI (k / 5) ∧ nI k - nI k / 5 * 5 = nI (k % 5) := by decide +kernel
theorem val_eq (E : g_E m s) {w : Nat} (hw : w < 14) : R_X0_about m (nI w) = R_X8_valueOf s (nI w) := by
  unfold R_X0_about R_X8_valueOf
  have L := fun n (h : n < 34) => E.lo (n := n) h
  rw [L 0 (by omega), L 1 (by omega), L 2 (by omega), L 3 (by omega), L 4 (by omega), L 5 (by omega), L 6 (by omega), L 7 (by omega), L 8 (by omega), L 9 (by omega), L 10 (by omega), L 11 (by omega), E_below E, E_shut E, b01 E.J.1.2.2.2.2.2.1]
  have : w = 0 ∨ w = 1 ∨ w = 2 ∨ w = 3 ∨ w = 4 ∨ w = 5 ∨ w = 6 ∨ w = 7 ∨ w = 8 ∨ w = 9 ∨ w = 10 ∨ w = 11 ∨ w = 12 ∨ w = 13 := by omega
  rcases this with rfl | rfl | rfl | rfl | rfl | rfl | rfl | rfl | rfl | rfl | rfl | rfl | rfl | rfl <;> rfl
theorem pas_eq (E : g_E m s) {x y : Int32} (h0 : 0 ≤ x.toInt) (h1 : x.toInt < (s 0).toInt) : R_X0_aboutPassage m x y = R_X8_passageFact s x y := by
  have hj := E.J.n
  unfold R_X0_aboutPassage R_X8_passageFact
  rw [E_drop E h0 h1, E_min E h0 h1, E_rope E h0 h1, E_walkers E h0, E_rigger E, s13 h0 (by omega), s20 h0 (by omega), s27 h0 (by omega)]
theorem rop_eq (E : g_E m s) {a b : Nat} (ha : (a : Int) < (s 1).toInt) (hb : b < 3) : R_X5_about m (nI a) (nI b) = s (34 + 3 * a + b) := by
  have hj := E.J.n
  have hi : (nI a).toInt = (a : Int) := nI_toInt (by omega)
  unfold R_X5_about
  rw [if_neg (has5_1 E (by omega) (by omega)), nI_clamp (by omega), E.r0 ha, E.r1 ha, E.r2 ha]
  have : b = 0 ∨ b = 1 ∨ b = 2 := by omega
  rcases this with rfl | rfl | rfl
  · exact (if_pos (by decide)).trans (congrArg s (by omega))
  · exact ((if_neg (by decide)).trans (if_pos (by decide))).trans (congrArg s (by omega))
  · exact ((if_neg (by decide)).trans (if_neg (by decide))).trans (congrArg s (by omega))
theorem hlp_eq (E : g_E m s) {a b : Nat} (ha : (a : Int) < (s 2).toInt) (hb : b < 9) : R_X1_about m a (nI b) = s (58 + 9 * a + b) := by
  have h8 := (E.J.2.2.1 a ha).2.2.2.1
  unfold R_X1_about
  rw [E.hp (j := 0) ha (by omega), E.hp (j := 1) ha (by omega), E.hp (j := 2) ha (by omega), E.hp (j := 3) ha (by omega), E.hp (j := 4) ha (by omega), E.hp (j := 5) ha (by omega), E.hp (j := 6) ha (by omega), E.hp (j := 7) ha (by omega), E.hp (j := 8) ha (by omega), b01 h8]
  have : b = 0 ∨ b = 1 ∨ b = 2 ∨ b = 3 ∨ b = 4 ∨ b = 5 ∨ b = 6 ∨ b = 7 ∨ b = 8 := by omega
  rcases this with rfl | rfl | rfl | rfl | rfl | rfl | rfl | rfl | rfl <;> rfl
theorem msg_eq (E : g_E m s) {a b : Nat} (ha : (a : Int) < (s 6).toInt) (hb : b < 3) : R_X3_about m (nI a) (nI b) = s (112 + 3 * a + b) := by
  have hj := E.J.n
  have hi : (nI a).toInt = (a : Int) := nI_toInt (by omega)
  unfold R_X3_about
  rw [if_neg (fun z => by have := j_ltR z j_0; omega), E.lo (n := 6) (by omega), if_pos (Int32.lt_iff_toInt_lt.mpr (by omega)), nI_clamp (by omega)]
  have e0 := E.ms (i := a) (j := 0) ha (by omega)
  have e1 := E.ms (i := a) (j := 1) ha (by omega)
  have e2 := E.ms (i := a) (j := 2) ha (by omega)
  rw [show 112 + 3 * a = 112 + 0 + 3 * a by omega, show 113 + 3 * a = 112 + 1 + 3 * a by omega, show 114 + 3 * a = 112 + 2 + 3 * a by omega, e0, e1, e2]
  have : b = 0 ∨ b = 1 ∨ b = 2 := by omega
  rcases this with rfl | rfl | rfl
  · exact (if_pos (by decide)).trans (congrArg s (by omega))
  · exact ((if_neg (by decide)).trans (if_pos (by decide))).trans (congrArg s (by omega))
  · exact ((if_neg (by decide)).trans (if_neg (by decide))).trans (congrArg s (by omega))
theorem log_eq (E : g_E m s) {a b : Nat} (ha : (a : Int) < (s 12).toInt) (hb : b < 3) : R_X2_about m (nI a) (nI b) = s (142 + 3 * a + b) := by
  have hj := E.J.n
  have hi : (nI a).toInt = (a : Int) := nI_toInt (by omega)
  unfold R_X2_about
  rw [if_neg (fun z => by have := j_ltR z j_0; omega), E.lo (n := 12) (by omega), if_pos (Int32.lt_iff_toInt_lt.mpr (by omega)), nI_clamp (by omega)]
  have e0 := E.lg (i := a) (j := 0) ha (by omega)
  have e1 := E.lg (i := a) (j := 1) ha (by omega)
  have e2 := E.lg (i := a) (j := 2) ha (by omega)
  rw [show 142 + 3 * a = 142 + 0 + 3 * a by omega, show 143 + 3 * a = 142 + 1 + 3 * a by omega, show 144 + 3 * a = 142 + 2 + 3 * a by omega, e0, e1, e2]
  have : b = 0 ∨ b = 1 ∨ b = 2 := by omega
  rcases this with rfl | rfl | rfl
  · exact (if_pos (by decide)).trans (congrArg s (by omega))
  · exact ((if_neg (by decide)).trans (if_pos (by decide))).trans (congrArg s (by omega))
  · exact ((if_neg (by decide)).trans (if_neg (by decide))).trans (congrArg s (by omega))
theorem Ref_digest (R : g_Rel m s pm) (lm : Nat → Int64) : R_X7_digest m = (R_X8_digest s lm).1 ∧ g_Rel m (R_X8_digest s lm).2.1 pm := by
  have E : g_E m (upd s 1302 0) := R.E.hi (by omega)
  have hj := E.J.n
  obtain ⟨c, c1, c2, c3, c4⟩ := R.2.1
  obtain ⟨L, T⟩ := R.T.l
  have hs13 : upd s 1302 0 1301 = m 980 := by rw [g_upd_ne (by omega), T.2.1]; exact T.2.2.1
  have hs12 : upd s 1302 0 1300 = m 981 := by rw [g_upd_ne (by omega), c3]; exact c2
  have o : g_Rel m (upd s 1302 0) pm := R.over (fun n hn => g_upd_ne (by omega))
  unfold R_X7_digest R_X8_digest R_X0_hash
  generalize hs' : upd s 1302 0 = s' at *
  obtain ⟨n0, h0⟩ : ∃ n : Nat, (s' 0).toInt = n := ⟨(s' 0).toInt.toNat, by omega⟩
  obtain ⟨n1, h1⟩ : ∃ n : Nat, (s' 1).toInt = n := ⟨(s' 1).toInt.toNat, by omega⟩
  obtain ⟨n2, h2⟩ : ∃ n : Nat, (s' 2).toInt = n := ⟨(s' 2).toInt.toNat, by omega⟩
  obtain ⟨n6, h6⟩ : ∃ n : Nat, (s' 6).toInt = n := ⟨(s' 6).toInt.toNat, by omega⟩
  obtain ⟨n12, h12⟩ : ∃ n : Nat, (s' 12).toInt = n := ⟨(s' 12).toInt.toNat, by omega⟩
  have m0 := E.lo (n := 0) (by omega)
  have m1 := E.lo (n := 1) (by omega)
  have m2 := E.lo (n := 2) (by omega)
  have m6 := E.lo (n := 6) (by omega)
  have m12 := E.lo (n := 12) (by omega)
  -- the class
  rw [in_loop (I := R_X0_hash_2 m) (K := fun v => R_X0_hash_29 m 8 v 0) (q := fun w => R_X0_about m (nI w)) (c := 14) (C := 13) (by omega) rfl (fun g v b => rfl) 15 0 _ (by omega) (by omega)]
  rw [out_loop (O := R_X0_hash_29 m) (I := fun f a => R_X0_hash_43 m (R_X0_hash_29 m f) a) (E := fun v => R_X0_hash_78 m 9 v 0) (q := fun a b => R_X0_aboutPassage m (nI a) (nI b)) (n := n0) (c := 5) (fc := 6) (C := 4) (N := m 0) (by omega) (by omega) (by omega) (by omega) rfl (by rw [m0]; exact h0) (fun f v a => rfl) (fun f a g v b => rfl) 8 0 _ (by omega) (by omega)]
  rw [out_loop (O := R_X0_hash_78 m) (I := fun f a => R_X0_hash_92 m (R_X0_hash_78 m f) a) (E := fun v => R_X0_hash_130 m 7 v 0) (q := fun a b => R_X5_about m (nI a) (nI b)) (n := n1) (c := 3) (fc := 4) (C := 2) (N := m 1) (by omega) (by omega) (by omega) (by omega) rfl (by rw [m1]; exact h1) (fun f v a => rfl) (fun f a g v b => rfl) 9 0 _ (by omega) (by omega)]
  rw [out_loop (O := R_X0_hash_130 m) (I := fun f a => R_X0_hash_141 m (R_X0_hash_130 m f) a) (E := fun v => R_X0_hash_181 m 11 v 0) (q := fun a b => R_X1_about m (nI a).toNatClampNeg (nI b)) (n := n2) (c := 9) (fc := 10) (C := 8) (N := m 2) (by omega) (by omega) (by omega) (by omega) rfl (by rw [m2]; exact h2) (fun f v a => rfl) (fun f a g v b => rfl) 7 0 _ (by omega) (by omega)]
  rw [out_loop (O := R_X0_hash_181 m) (I := fun f a => R_X0_hash_195 m (R_X0_hash_181 m f) a) (E := fun v => R_X0_hash_233 m 13 v 0) (q := fun a b => R_X3_about m (nI a) (nI b)) (n := n6) (c := 3) (fc := 4) (C := 2) (N := m 6) (by omega) (by omega) (by omega) (by omega) rfl (by rw [m6]; exact h6) (fun f v a => rfl) (fun f a g v b => rfl) 11 0 _ (by omega) (by omega)]
  rw [out_loop (O := R_X0_hash_233 m) (I := fun f a => R_X0_hash_247 m (R_X0_hash_233 m f) a) (E := fun v => v) (q := fun a b => R_X2_about m (nI a) (nI b)) (n := n12) (c := 3) (fc := 4) (C := 2) (N := m 12) (by omega) (by omega) (by omega) (by omega) rfl (by rw [m12]; exact h12) (fun f v a => rfl) (fun f a g v b => rfl) 13 0 _ (by omega) (by omega)]
  -- the model
  obtain ⟨l1, M1, V1⟩ := flat_loop (M := R_X8_digest_22 s lm) (E := fun l => R_X8_digest_45 s lm 36 0 l) (q := fun k => R_X8_valueOf s' (nI k)) (T := 14) (s := s') (by omega) (N := 14) rfl (fun f k lm => by rw [← hs']; rfl) 15 0 (R_X8_mix s' (vp_updL lm 0 3613) (s' 1301)) (by omega) (by omega)
  rw [M1]
  obtain ⟨l2, M2, V2⟩ := flat_loop (M := R_X8_digest_45 s lm) (E := fun l => R_X8_digest_79 s lm 25 0 l) (q := fun k => R_X8_passageFact s' ((nI k) / 5) ((nI k) - (nI k) / 5 * 5)) (T := 5 * n0) (s := s') (by omega) (N := 5 * s' 0) (by rw [show ((5 : Int32) * s' 0).toInt = 5 * (n0 : Int) from j_mulE rfl h0 (by omega) (by omega)]; omega) (fun f k lm => by rw [← hs']; rfl) 36 0 l1 (by omega) (by omega)
  rw [M2]
  obtain ⟨l3, M3, V3⟩ := flat_loop (M := R_X8_digest_79 s lm) (E := fun l => R_X8_digest_112 s lm 55 0 l) (q := fun k => s' ((34 + nI k).toNatClampNeg)) (T := 3 * n1) (s := s') (by omega) (N := 3 * s' 1) (by rw [show ((3 : Int32) * s' 1).toInt = 3 * (n1 : Int) from j_mulE rfl h1 (by omega) (by omega)]; omega) (fun f k lm => by rw [← hs']; rfl) 25 0 l2 (by omega) (by omega)
  rw [M3]
  obtain ⟨l4, M4, V4⟩ := flat_loop (M := R_X8_digest_112 s lm) (E := fun l => R_X8_digest_146 s lm 31 0 l) (q := fun k => s' ((58 + nI k).toNatClampNeg)) (T := 9 * n2) (s := s') (by omega) (N := 9 * s' 2) (by rw [show ((9 : Int32) * s' 2).toInt = 9 * (n2 : Int) from j_mulE rfl h2 (by omega) (by omega)]; omega) (fun f k lm => by rw [← hs']; rfl) 55 0 l3 (by omega) (by omega)
  rw [M4]
  obtain ⟨l5, M5, V5⟩ := flat_loop (M := R_X8_digest_146 s lm) (E := fun l => R_X8_digest_180 s lm 37 0 l) (q := fun k => s' ((112 + nI k).toNatClampNeg)) (T := 3 * n6) (s := s') (by omega) (N := 3 * s' 6) (by rw [show ((3 : Int32) * s' 6).toInt = 3 * (n6 : Int) from j_mulE rfl h6 (by omega) (by omega)]; omega) (fun f k lm => by rw [← hs']; rfl) 31 0 l4 (by omega) (by omega)
  rw [M5]
  obtain ⟨l6, M6, V6⟩ := flat_loop (M := R_X8_digest_180 s lm) (E := fun l => ((R_X8_mix s' l (s' 1300)) 0, s', R_X8_mix s' l (s' 1300))) (q := fun k => s' ((142 + nI k).toNatClampNeg)) (T := 3 * n12) (s := s') (by omega) (N := 3 * s' 12) (by rw [show ((3 : Int32) * s' 12).toInt = 3 * (n12 : Int) from j_mulE rfl h12 (by omega) (by omega)]; omega) (fun f k lm => by rw [← hs']; rfl) 37 0 l5 (by omega) (by omega)
  rw [M6]
  refine ⟨?_, o⟩
  have hx : ∀ (b : Int32) (B k : Nat), b.toInt = B → B ≤ 200 → k ≤ 200 → (b + nI k).toNatClampNeg = B + k := fun b B k hb h1 h2 => by
    have e := j_addE hb (nI_toInt (n := k) (by omega)) (by omega) (by omega)
    have := j_nat (x := b + nI k) (by omega)
    omega
  have v0 : (R_X8_mix s' (vp_updL lm 0 3613) (s' 1301)) 0 = 112003 + (m 980).toInt64 := by rw [hs13]; rfl
  rw [v0] at V1
  have mixE : (R_X8_mix s' l6 (s' 1300)) 0 = 31 * l6 0 + (m 981).toInt64 := by rw [hs12]; rfl
  show _ = (R_X8_mix s' l6 (s' 1300)) 0
  rw [mixE, V6, V5, V4, V3, V2, V1]
  simp only [Nat.mul_zero, Nat.sub_zero]
  have a1 : g_mx (fun w => R_X0_about m (nI w)) 14 0 (112003 + (m 980).toInt64) = g_mx (fun k => R_X8_valueOf s' (nI k)) 14 0 (112003 + (m 980).toInt64) := mx_congr _ _ _ (fun j _ hj => val_eq E (by omega))
  have a2 : ∀ v, g_mx (fun j => R_X0_aboutPassage m (nI (j / 5)) (nI (j % 5))) (5 * n0) 0 v = g_mx (fun k => R_X8_passageFact s' ((nI k) / 5) ((nI k) - (nI k) / 5 * 5)) (5 * n0) 0 v := fun v => mx_congr _ _ _ (fun j _ hj => by
    obtain ⟨d1, d2⟩ := div5 j (by omega)
    rw [d2, d1]
    have hj5 : j / 5 < n0 := by omega
    have hq : (nI (j / 5)).toInt = ((j / 5 : Nat) : Int) := nI_toInt (by omega)
    exact pas_eq E (by omega) (by omega))
  have a3 : ∀ v, g_mx (fun j => R_X5_about m (nI (j / 3)) (nI (j % 3))) (3 * n1) 0 v = g_mx (fun k => s' ((34 + nI k).toNatClampNeg)) (3 * n1) 0 v := fun v => mx_congr _ _ _ (fun j _ hj => by
    rw [hx 34 34 j rfl (by omega) (by omega), rop_eq E (a := j / 3) (b := j % 3) (by omega) (by omega)]
    exact congrArg s' (by omega))
  have a4 : ∀ v, g_mx (fun j => R_X1_about m (nI (j / 9)).toNatClampNeg (nI (j % 9))) (9 * n2) 0 v = g_mx (fun k => s' ((58 + nI k).toNatClampNeg)) (9 * n2) 0 v := fun v => mx_congr _ _ _ (fun j _ hj => by
    rw [hx 58 58 j rfl (by omega) (by omega), nI_clamp (by omega), hlp_eq E (a := j / 9) (b := j % 9) (by omega) (by omega)]
    exact congrArg s' (by omega))
  have a5 : ∀ v, g_mx (fun j => R_X3_about m (nI (j / 3)) (nI (j % 3))) (3 * n6) 0 v = g_mx (fun k => s' ((112 + nI k).toNatClampNeg)) (3 * n6) 0 v := fun v => mx_congr _ _ _ (fun j _ hj => by
    rw [hx 112 112 j rfl (by omega) (by omega), msg_eq E (a := j / 3) (b := j % 3) (by omega) (by omega)]
    exact congrArg s' (by omega))
  have a6 : ∀ v, g_mx (fun j => R_X2_about m (nI (j / 3)) (nI (j % 3))) (3 * n12) 0 v = g_mx (fun k => s' ((142 + nI k).toNatClampNeg)) (3 * n12) 0 v := fun v => mx_congr _ _ _ (fun j _ hj => by
    rw [hx 142 142 j rfl (by omega) (by omega), log_eq E (a := j / 3) (b := j % 3) (by omega) (by omega)]
    exact congrArg s' (by omega))
  rw [a1, a2, a3, a4, a5, a6]
end SH
