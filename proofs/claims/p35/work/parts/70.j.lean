/-! ===== class beside model: who carries ===== -/
section PJ
def g_bt (x : Int32) (j : Nat) : Int32 := (x >>> ((nI j) &&& 31)) &&& 1
theorem sub_bits : ∀ v < 64, ∀ x < 64, ((nI v &&& nI x = nI x) ↔ ∀ j < 6, g_bt (nI x) j = 1 → g_bt (nI v) j = 1) := by decide +kernel
theorem or_bits : ∀ v < 64, ∀ n < 6, ∃ a < 64, (nI v ||| (1 <<< (nI n &&& 31))) = nI a ∧ ∀ j < 6, g_bt (nI a) j = if j = n then 1 else g_bt (nI v) j := by decide +kernel
theorem bt_01 : ∀ x < 64, ∀ j < 6, g_bt (nI x) j = 0 ∨ g_bt (nI x) j = 1 := by decide +kernel
theorem bt_hi : ∀ p < 7, ∀ x < 64, x < 2 ^ p → ∀ j < 6, p ≤ j → g_bt (nI x) j = 0 := by decide +kernel
theorem shl_p : ∀ p < 7, ((1 : Int32) <<< (nI p &&& 31)).toInt = 2 ^ p ∧ (((1 : Int32) <<< (nI p &&& 31)) - 1).toInt = 2 ^ p - 1 := by decide +kernel
theorem bc_all (m s : Nat → Int32) : ∀ x < 64, R_J6_bitCount_0f7a4 m (nI x) = R_X8_ones s (nI x) := by
  unfold R_J6_bitCount_0f7a4 R_X8_ones
  decide +kernel
theorem as_nI {x : Int32} {n : Nat} (h : x.toInt = n) (hn : n < 100) : x = nI n := Int32.toInt_inj.mp (by rw [nI_toInt (by omega)]; exact h)
variable {m s : Nat → Int32}
theorem E_can (E : g_E m s) (hc : 1 ≤ (s 4).toInt) {n : Nat} (hn : (n : Int) < (s 2).toInt) (v : Int32) (K : Int32 → Nat → Int32) :
    (if (m (58 + 9 * ((nI n).toNatClampNeg) + 2)) = 0 then (if (m (58 + 9 * ((nI n).toNatClampNeg) + 1)) = (m 4) then (if 100 < ((m (58 + 9 * ((nI n).toNatClampNeg) + 6)) + (2 * (3 * (R_X4_minutesOf m ((m 4) - 1))))) then (R_X0_fitCarriers_124 K n v) else (if (R_X0_isInTime m ((nI n).toNatClampNeg) ((m 4) - 1) (3 * (R_X4_minutesOf m ((m 4) - 1)))) = 0 then (R_X0_fitCarriers_124 K n v) else (R_X0_fitCarriers_124 K n (v ||| (1 <<< ((nI n) &&& 31)))))) else (R_X0_fitCarriers_124 K n v)) else (R_X0_fitCarriers_124 K n v)) = K (if R_X8_canCarry s (nI n) = 0 then v else v ||| (1 <<< ((nI n) &&& 31))) (n + 1) := by
  have hj := E.J.n
  have hb := E.J.1.2.2.2.2.1
  have hq := nI_clamp (n := n) (by omega)
  have hi : (nI n).toInt = (n : Int) := nI_toInt (by omega)
  have h4 : (s 4 - 1).toInt = (s 4).toInt - 1 := j_sub1 (by omega)
  have e20 : ((20 + (s 4)) - 1).toNatClampNeg = 20 + (s 4 - 1).toNatClampNeg := by
    have q1 : (20 + s 4).toInt = 20 + (s 4).toInt := j_addE rfl rfl (by omega) (by omega)
    have q2 : ((20 + s 4) - 1).toInt = 20 + (s 4).toInt - 1 := j_subE q1 rfl (by omega) (by omega)
    have := j_nat (x := (20 + s 4) - 1) (by omega)
    have := j_nat (x := s 4 - 1) (by omega)
    omega
  have eT := E_inTime E (x := nI n) (st := s 4 - 1) (mi := 3 * (s (20 + (s 4 - 1).toNatClampNeg))) (by omega) (by omega) (by omega)
  unfold R_X8_canCarry R_X8_stands R_X0_fitCarriers_124
  rw [E.lo (n := 4) (by omega), E_min E (x := s 4 - 1) (by omega) (by omega), eT, hq, E.hp (j := 2) hn (by omega), E.hp (j := 1) hn (by omega), E.hp (j := 6) hn (by omega), e20]
  by_cases a : s (58 + 9 * n + 2) = 0
  · simp only [if_pos a, i10]
    by_cases b : s (58 + 9 * n + 1) = s 4
    · simp only [if_pos b]
      by_cases c : 100 < s (58 + 9 * n + 6) + 2 * (3 * s (20 + (s 4 - 1).toNatClampNeg))
      · simp only [if_pos c, ↓reduceIte]
      · simp only [if_neg c]
        by_cases d : R_X8_isInTime s (nI n) (s 4 - 1) (3 * s (20 + (s 4 - 1).toNatClampNeg)) = 0
        · simp only [if_pos d, ↓reduceIte]
        · simp only [if_neg d, i10]
    · simp only [if_neg b, ↓reduceIte]
  · simp only [if_neg a, ↓reduceIte]
theorem fit_loop (E : g_E m s) (hc : 1 ≤ (s 4).toInt) : ∀ (f n v : Nat), v < 64 → n ≤ 6 → 6 < f + n →
    ∃ a, a < 64 ∧ R_X0_fitCarriers_52 m f (nI v) n = nI a ∧ ∀ j : Nat, j < 6 → (g_bt (nI a) j = 1 ↔ g_bt (nI v) j = 1 ∨ (n ≤ j ∧ (j : Int) < (s 2).toInt ∧ ¬ R_X8_canCarry s (nI j) = 0))
  | 0, n, v, _, h, h' => absurd h' (by omega)
  | f + 1, n, v, hv, h, h' => by
    have hj := E.J.n
    have hi : (nI n).toInt = (n : Int) := nI_toInt (by omega)
    unfold R_X0_fitCarriers_52
    by_cases a : s 2 ≤ nI n
    · have a' := j_le a
      rw [E.lo (n := 2) (by omega), if_pos a]
      exact ⟨v, hv, rfl, fun j _ => ⟨Or.inl, fun z => z.elim id (fun z => absurd z.2.1 (by omega))⟩⟩
    · have a' := j_nle a
      rw [E_can E hc (n := n) (by omega), E.lo (n := 2) (by omega), if_neg a]
      by_cases b : R_X8_canCarry s (nI n) = 0
      · rw [if_pos b]
        obtain ⟨a, h1, h2, h3⟩ := fit_loop E hc f (n + 1) v hv (by omega) (by omega)
        refine ⟨a, h1, h2, fun j hj => (h3 j hj).trans ⟨fun z => z.elim Or.inl (fun z => Or.inr ⟨by omega, z.2⟩), fun z => z.elim Or.inl (fun z => ?_)⟩⟩
        by_cases e : j = n
        · subst e; exact absurd b z.2.2
        · exact Or.inr ⟨by omega, z.2⟩
      · rw [if_neg b]
        obtain ⟨w, w1, w2, w3⟩ := or_bits v hv n (by omega)
        rw [w2]
        obtain ⟨a, h1, h2, h3⟩ := fit_loop E hc f (n + 1) w w1 (by omega) (by omega)
        refine ⟨a, h1, h2, fun j hj => (h3 j hj).trans ?_⟩
        rw [w3 j hj]
        by_cases e : j = n
        · subst e
          rw [if_pos rfl]
          exact ⟨fun _ => Or.inr ⟨Nat.le_refl _, by omega, b⟩, fun _ => Or.inl rfl⟩
        · rw [if_neg e]
          exact ⟨fun z => z.elim Or.inl (fun z => Or.inr ⟨by omega, z.2⟩), fun z => z.elim Or.inl (fun z => Or.inr ⟨by omega, z.2⟩)⟩
theorem zero_35 {x : Int32} (f h : Nat) : R_X8_carries_35 s x (f + 1) 0 h = (2, s) := by
  unfold R_X8_carries_35 R_X8_carries_77
  simp only [↓reduceIte, ite_self]
theorem one_35 {x : Int32} (h2 : (s 2).toInt ≤ 6) : ∀ (f h : Nat), h ≤ 6 → 6 < f + h →
    ((∀ k : Nat, h ≤ k → (k : Int) < (s 2).toInt → ¬ g_bt x k = 0 → ¬ R_X8_canCarry s (nI k) = 0) → R_X8_carries_35 s x f 1 h = R_X8_carries_105 s x 7 0 s) ∧
    ((∃ k : Nat, h ≤ k ∧ (k : Int) < (s 2).toInt ∧ ¬ g_bt x k = 0 ∧ R_X8_canCarry s (nI k) = 0) → R_X8_carries_35 s x f 1 h = (2, s))
  | 0, h, _, h' => absurd h' (by omega)
  | f + 1, h, h1, h' => by
    have hi : (nI h).toInt = (h : Int) := nI_toInt (by omega)
    unfold R_X8_carries_35
    by_cases a : s 2 ≤ nI h
    · have a' := j_le a
      rw [if_pos a]
      refine ⟨fun _ => ?_, fun ⟨k, k1, k2, _⟩ => absurd k2 (by omega)⟩
      unfold R_X8_carries_77
      rw [if_neg (by decide)]
    · have a' := j_nle a
      have ih := one_35 (x := x) h2 f (h + 1) (by omega) (by omega)
      rw [if_neg a, if_neg (by decide)]
      unfold R_X8_carries_65 R_X8_carries_70
      by_cases b : (x >>> ((nI h) &&& 31)) &&& 1 = 0
      · rw [if_pos b]
        refine ⟨fun z => ih.1 (fun k hk => z k (by omega)), fun ⟨k, k1, k2, k3, k4⟩ => ih.2 ⟨k, ?_, k2, k3, k4⟩⟩
        have : k ≠ h := fun e => by subst e; exact k3 b
        omega
      · rw [if_neg b]
        by_cases c : R_X8_canCarry s (nI h) = 0
        · rw [if_pos c]
          refine ⟨fun z => absurd c (z h (Nat.le_refl _) (by omega) b), fun _ => ?_⟩
          obtain ⟨f', rfl⟩ : ∃ f', f = f' + 1 := ⟨f - 1, by omega⟩
          exact zero_35 f' (h + 1)
        · rw [if_neg c]
          refine ⟨fun z => ih.1 (fun k hk => z k (by omega)), fun ⟨k, k1, k2, k3, k4⟩ => ih.2 ⟨k, ?_, k2, k3, k4⟩⟩
          have : k ≠ h := fun e => by subst e; exact c k4
          omega
theorem car_loop {x w : Int32} (hw : 3 * R_X4_minutesOf m (m 4 - 1) = w) (hw' : 3 * s (((20 + s 4) - 1).toNatClampNeg) = w) : ∀ (f i : Nat) (M t : Nat → Int32), g_L M t → g_N t → (0 ≤ (t 12).toInt ∧ (t 12).toInt ≤ 12) → (t 2).toInt ≤ 6 → (t 1).toInt ≤ 8 → (t 6).toInt ≤ 10 → i ≤ 6 → 6 < f + i → g_U m M →
    (R_X8_carries_105 s x f i t).1 = 0 ∧ g_L (R_X0_startCarry_18 m x f i M).2 (R_X8_carries_105 s x f i t).2 ∧ g_N (R_X8_carries_105 s x f i t).2 ∧ (R_X0_startCarry_18 m x f i M).1 = (R_X8_carries_105 s x f i t).2 1303 ∧ g_U m (R_X0_startCarry_18 m x f i M).2
  | 0, i, M, t, _, _, _, _, _, _, h, h', _ => absurd h' (by omega)
  | f + 1, i, M, t, L, N, h12, h2, h1, h6, h, h', u => by
    have hi : (nI i).toInt = (i : Int) := nI_toInt (by omega)
    unfold R_X0_startCarry_18 R_X8_carries_105
    rw [L 2 (Or.inl (by omega))]
    by_cases a : t 2 ≤ nI i
    · rw [if_pos a, if_pos a]
      have hL := log_L (x := x) (s := s) L h12 h2 h1 h6
      simp (disch := omega) only [g_upd_ne]
      refine ⟨?_, hL, ?_, ?_, ?_⟩
      · rw [lay_loop 34 177 t (by omega) (by omega) (by omega)]; rfl
      · rw [lay_loop 34 177 t (by omega) (by omega) (by omega)]
        unfold R_X8_carries_245
        refine fun k hk hd => ?_
        simp (disch := omega) only [g_upd_ne, sh_lo] at hk
        simp (disch := omega) only [g_upd_ne, sh_lo] at hd ⊢
        exact N k hk hd
      · rw [lay_loop 34 177 t (by omega) (by omega) (by omega)]
        unfold R_X8_carries_245
        dsimp only
        rw [g_upd_eq]
        exact hw.trans hw'.symm
      · unfold R_X2_add
        rw [add_loop 12 11 _ (by omega) (by omega)]
        intro k hk
        simp (disch := omega) only [g_upd_ne]
        unfold g_sh
        rw [if_neg (by omega), g_upd_ne (by omega)]
        exact u k hk
    · have a' := j_nle a
      rw [if_neg a, if_neg a]
      unfold R_X0_startCarry_61 R_X8_carries_142
      by_cases b : (x >>> ((nI i) &&& 31)) &&& 1 = 1
      · rw [if_pos b, if_pos b]
        unfold R_X1_walkTo R_X8_walks
        rw [hw, hw', L 4 (Or.inl (by omega)), nI_clamp (by omega)]
        refine car_loop hw hw' f (i + 1) _ _ ?_ (N.walk (by omega) (by omega)) ?_ ?_ ?_ ?_ (by omega) (by omega) ?_
        · exact ((((L.both (by omega) (by omega) (by omega) (by omega)).both (by omega) (by omega) (by omega) (by omega)).both (by omega) (by omega) (by omega) (by omega)).both (by omega) (by omega) (by omega) (by omega))
        · simp (disch := omega) only [g_upd_ne]; exact h12
        · simp (disch := omega) only [g_upd_ne]; exact h2
        · simp (disch := omega) only [g_upd_ne]; exact h1
        · simp (disch := omega) only [g_upd_ne]; exact h6
        · exact (((u.upd (by omega)).upd (by omega)).upd (by omega)).upd (by omega)
      · rw [if_neg b, if_neg b]
        exact car_loop hw hw' f (i + 1) M t L N h12 h2 h1 h6 (by omega) (by omega) u
theorem E_carries (E : g_E m s) (x : Int32) : g_Dd m s (R_X0_isTeam m x = 0) (R_X0_canCarry m x) (R_X0_startCarry m x) (R_X8_carries s x) := by
  have hj := E.J.n
  have hb := E.J.1.2.2.2.2.1
  have h12 := E.J.1.2.2.2.2.2.2.2.2
  have h2 := E.J.1.2.2.1
  have JG := J_carries (x1 := x) E.J
  obtain ⟨p, hp⟩ : ∃ p : Nat, (s 2).toInt = p := ⟨(s 2).toInt.toNat, by omega⟩
  have e2 : s 2 = nI p := as_nI hp (by omega)
  obtain ⟨q1, q2⟩ := shl_p p (by omega)
  have hp6 : (2 : Int) ^ p ≤ 64 := by
    have : (2 : Nat) ^ p ≤ 2 ^ 6 := Nat.pow_le_pow_right (by omega) (by omega)
    exact_mod_cast this
  unfold R_X8_carries at JG ⊢
  unfold R_X0_isTeam
  rw [E.lo (n := 2) (by omega)]
  by_cases a : R_X8_in s x 0 ((1 <<< ((s 2) &&& 31)) - 1) = 0
  · rw [if_pos a]
    refine Or.inl ⟨?_, rfl⟩
    rw [e2] at a ⊢
    rcases in_no a with z | z
    · rw [if_pos (Int32.lt_iff_toInt_lt.mpr z)]
    · rw [if_pos (show (1 : Int32) <<< (nI p &&& 31) ≤ x from Int32.le_iff_toInt_le.mpr (by omega)), ite_self]
  · rw [if_neg a] at JG ⊢
    obtain ⟨a0, a1⟩ := nz_X8_in a
    rw [e2, q2] at a1
    have a0' : 0 ≤ x.toInt := a0
    obtain ⟨v, hv⟩ : ∃ v : Nat, x.toInt = v := ⟨x.toInt.toNat, by omega⟩
    have hv6 : v < 64 := by omega
    have hvp : v < 2 ^ p := by
      have : (v : Int) < (2 : Int) ^ p := by omega
      exact_mod_cast this
    have ex : x = nI v := as_nI hv (by omega)
    have e1 : (if x < 0 then (0 : Int32) else (if (1 : Int32) <<< ((s 2) &&& 31) ≤ x then 0 else (if (R_J6_bitCount_0f7a4 m x) < 3 then 0 else 1))) = if 3 ≤ R_X8_ones s x then 1 else 0 := by
      rw [if_neg (fun z => by have := j_ltR z j_0; omega), e2, if_neg (fun z => by have := j_le z; omega), ex, bc_all m s v hv6]
      by_cases c : 3 ≤ R_X8_ones s (nI v)
      · rw [if_pos c, if_neg (Int32.not_lt.mpr c)]
      · rw [if_neg c, if_pos (Int32.not_le.mp c)]
    rw [e1]
    by_cases c : 3 ≤ R_X8_ones s x
    · rw [if_pos c] at JG
      rw [if_pos c, if_pos c]
      refine Or.inr ?_
      have nb : ¬ (1 : Int32) = 0 := by decide
      have bits : ∀ f : Nat, f < 64 → ((nI f &&& nI v = nI v) ↔ ∀ j < 6, g_bt (nI v) j = 1 → g_bt (nI f) j = 1) := fun f hf => sub_bits f hf v hv6
      have hv0 : ¬ v = 0 := fun z => by
        rw [ex, z] at c
        unfold R_X8_ones at c
        revert c
        decide +kernel
      have no0 : ¬ ((0 : Int32) &&& x) = x := by
        rw [ex]
        intro z
        rw [Int32.zero_and] at z
        have := congrArg Int32.toInt z
        rw [nI_toInt (by omega)] at this
        exact hv0 (by have e0 : (0 : Int32).toInt = 0 := rfl; omega)
      -- the fault lies below, the way is open
      by_cases d : s 5 = 0
      · by_cases e : (s 4).toInt = 0
        · have e4 : s 4 = 0 := Int32.toInt_inj.mp (by rw [j_0]; exact e)
          have ei : R_X8_isCarryable s = 0 := by
            unfold R_X8_isCarryable
            rw [if_pos d, if_pos (by rw [e4]; decide)]
          rw [ei, zero_35 6 0]
          refine Or.inl ⟨nb, ?_, rfl⟩
          unfold R_X0_canCarry R_X0_fitCarriers
          rw [E.lo (n := 5) (by omega), E.lo (n := 4) (by omega), if_pos d, if_pos e4, if_neg no0]
        · have e4 : ¬ s 4 = 0 := fun z => e (by rw [z]; rfl)
          have h4 : (s 4 - 1).toInt = (s 4).toInt - 1 := j_sub1 (by omega)
          have hO := E_open E (x := s 4 - 1) (by omega) (by omega)
          by_cases g : R_X8_isShut s (s 4 - 1) = 0
          · have ei : R_X8_isCarryable s = 1 := by
              unfold R_X8_isCarryable
              rw [if_pos d, if_neg (fun z => by have := j_leR z j_0; omega), if_pos g]
            rw [if_pos g] at hO
            obtain ⟨f, f1, f2, f3⟩ := fit_loop E (by omega) 7 0 0 (by omega) (by omega) (by omega)
            have f2' : R_X0_fitCarriers_52 m 7 0 0 = nI f := f2
            have ec : R_X0_canCarry m x = if nI f &&& x = x then 1 else 0 := by
              unfold R_X0_canCarry R_X0_fitCarriers
              rw [E.lo (n := 5) (by omega), E.lo (n := 4) (by omega), if_pos d, if_neg e4, hO, i10, f2']
            have z0 : ∀ j < 6, ¬ g_bt (nI 0) j = 1 := by decide +kernel
            have o := one_35 (x := x) h2.2 7 0 (by omega) (by omega)
            rw [ei] at JG ⊢
            by_cases fit : nI f &&& x = x
            · have hall := (bits f f1).mp (by rw [← ex]; exact fit)
              have oo := o.1 (fun k _ hk hb' => by
                have b1 : g_bt (nI v) k = 1 := (bt_01 v hv6 k (by omega)).resolve_left (by rw [← ex]; exact hb')
                exact (((f3 k (by omega)).mp (hall k (by omega) b1)).resolve_left (z0 k (by omega))).2.2)
              rw [oo] at JG ⊢
              have e20 : ((20 + (s 4)) - 1).toNatClampNeg = 20 + (s 4 - 1).toNatClampNeg := by
                have q1 : (20 + s 4).toInt = 20 + (s 4).toInt := j_addE rfl rfl (by omega) (by omega)
                have q2 : ((20 + s 4) - 1).toInt = 20 + (s 4).toInt - 1 := j_subE q1 rfl (by omega) (by omega)
                have := j_nat (x := (20 + s 4) - 1) (by omega)
                have := j_nat (x := s 4 - 1) (by omega)
                omega
              have hw : 3 * R_X4_minutesOf m (m 4 - 1) = 3 * s (((20 + s 4) - 1).toNatClampNeg) := by
                rw [E.lo (n := 4) (by omega), E_min E (x := s 4 - 1) (by omega) (by omega), e20]
              obtain ⟨r1, r2, r3, r4, r5⟩ := car_loop (x := x) hw rfl 7 0 m s E.L E.N h12 h2.2 (by omega) (by omega) (by omega) (by omega) g_U.refl
              exact Or.inr ⟨nb, by rw [ec, if_pos fit]; decide, r1, ⟨r2, JG, r3⟩, r4, r5⟩
            · refine Or.inl ⟨nb, by rw [ec, if_neg fit], o.2 ?_⟩
              apply Classical.byContradiction
              intro no
              refine fit ?_
              rw [ex]
              refine (bits f f1).mpr (fun j hj6 hb1 => (f3 j hj6).mpr (Or.inr ⟨Nat.zero_le _, ?_, ?_⟩))
              · apply Classical.byContradiction
                intro w
                have := bt_hi p (by omega) v hv6 hvp j hj6 (by omega)
                rw [this] at hb1
                exact absurd hb1 (by decide)
              · intro w
                have hjs : (j : Int) < (s 2).toInt := by
                  apply Classical.byContradiction
                  intro w
                  have := bt_hi p (by omega) v hv6 hvp j hj6 (by omega)
                  rw [this] at hb1
                  exact absurd hb1 (by decide)
                exact no ⟨j, Nat.zero_le _, hjs, by rw [ex, hb1]; decide, w⟩
          · have ei : R_X8_isCarryable s = 0 := by
              unfold R_X8_isCarryable
              rw [if_pos d, if_neg (fun z => by have := j_leR z j_0; omega), if_neg g]
            rw [if_neg g] at hO
            rw [ei, zero_35 6 0]
            refine Or.inl ⟨nb, ?_, rfl⟩
            unfold R_X0_canCarry R_X0_fitCarriers
            rw [E.lo (n := 5) (by omega), E.lo (n := 4) (by omega), if_pos d, if_neg e4, hO, if_pos rfl, if_neg no0]
      · have ei : R_X8_isCarryable s = 0 := by
          unfold R_X8_isCarryable
          rw [if_neg d]
        rw [ei, zero_35 6 0]
        refine Or.inl ⟨nb, ?_, rfl⟩
        unfold R_X0_canCarry R_X0_fitCarriers
        rw [E.lo (n := 5) (by omega), if_neg d, if_neg no0]
    · rw [if_neg c, if_neg c]
      exact Or.inl ⟨rfl, rfl⟩
end PJ
