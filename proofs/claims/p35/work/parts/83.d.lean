/-! ===== what the law does: carrying ===== -/
def pcn (a : Nat) : Nat := a % 2 + a / 2 % 2 + a / 4 % 2 + a / 8 % 2 + a / 16 % 2 + a / 32 % 2
theorem bit_or : ∀ j, j < 6 → ∀ a, a < 64 → a < 2 ^ j → nI a ||| (1 <<< (nI j &&& 31)) = nI (a + 2 ^ j) ∧ pcn (a + 2 ^ j) = pcn a + 1 := by decide +kernel
theorem bit_lo : ∀ j, j < 6 → ∀ a, a < 64 → a < 2 ^ j → ∀ i, i < 6 → i < j → (a + 2 ^ j) / 2 ^ i % 2 = a / 2 ^ i % 2 := by decide +kernel
theorem bit_hi : ∀ j, j < 6 → ∀ a, a < 64 → a < 2 ^ j → (a + 2 ^ j) / 2 ^ j % 2 = 1 ∧ a / 2 ^ j % 2 = 0 := by decide +kernel
theorem bit_at : ∀ h, h < 6 → ∀ a, a < 64 → (nI a >>> (nI h &&& 31)) &&& 1 = nI (a / 2 ^ h % 2) := by decide +kernel
theorem bit_top : ∀ k, k < 7 → (1 <<< (nI k &&& 31)) - 1 = nI (2 ^ k - 1) := by decide +kernel
theorem bit_ge : ∀ k, k < 7 → ∀ a, a < 64 → a < 2 ^ k → ∀ i, i < 6 → k ≤ i → a / 2 ^ i % 2 = 0 := by decide +kernel
theorem bit_cnt : ∀ a, a < 64 → R_X8_ones (fun _ => 0) (nI a) = nI (pcn a) ∧ pcn a ≤ 6 := by decide +kernel
theorem bit_any : ∀ a, a < 64 → 1 ≤ pcn a → ∃ i, i < 6 ∧ a / 2 ^ i % 2 = 1 := by decide +kernel
theorem bit_pow : ∀ k, k < 7 → 2 ^ k ≤ 64 := by decide
section VF
variable {m s t : Nat → Int32} {pm : Nat → Nat}
theorem ones_at {a : Nat} (ha : a < 64) : R_X8_ones s (nI a) = nI (pcn a) := by
  rw [← (bit_cnt a ha).1]
  rfl
/-- who could carry: the set and its number -/
theorem set_1381 {k : Nat} (hk : (s 2).toInt = k) (k6 : k ≤ 6) : ∀ (f j a : Nat), j ≤ k → k < f + j → a < 2 ^ j → (∀ i, i < j → (a / 2 ^ i % 2 = 1 ↔ ¬ R_L_could s (nI i) = 0)) →
    ∃ a', a' < 2 ^ k ∧ (∀ i, i < k → (a' / 2 ^ i % 2 = 1 ↔ ¬ R_L_could s (nI i) = 0)) ∧ R_L_acts_1381 m s pm f (nI a) (nI (pcn a)) j = (if 3 ≤ nI (pcn a') then R_L_acts_1479 m s pm (nI a') 7 0 s else (if g_wv (R_X7_carry m pm (nI a')) = -2000002 then (1, (R_X7_carry m pm (nI a')).2.1, s, (R_X7_carry m pm (nI a')).2.2) else (0, (R_X7_carry m pm (nI a')).2.1, s, (R_X7_carry m pm (nI a')).2.2)))
  | 0, j, a, h1, h2, _, _ => absurd h2 (by omega)
  | f + 1, j, a, h1, h2, ha, hc => by
    have hj : (nI j).toInt = (j : Int) := nI_toInt (by omega)
    unfold R_L_acts_1381
    by_cases c : j = k
    · subst c
      rw [if_pos (Int32.le_iff_toInt_le.mpr (by omega))]
      exact ⟨a, ha, hc, rfl⟩
    · have hj6 : j < 6 := by omega
      have h64 := bit_pow j (by omega)
      have ha64 : a < 64 := by omega
      have b1 := bit_or j hj6 a ha64 ha
      have b3 := bit_hi j hj6 a ha64 ha
      have hp : 2 ^ (j + 1) = 2 * 2 ^ j := by rw [Nat.pow_succ, Nat.mul_comm]
      rw [if_neg (fun z => by have := j_le z; omega)]
      unfold R_L_acts_1418 R_L_acts_1433
      by_cases d : R_L_could s (nI j) = 0
      · rw [if_pos d, if_pos d, Int32.or_zero, Int32.add_zero]
        refine set_1381 hk k6 f (j + 1) a (by omega) (by omega) (by omega) (fun i hi => ?_)
        by_cases e : i = j
        · subst e
          rw [b3.2]
          exact ⟨fun z => absurd z (by decide), fun z => absurd d z⟩
        · exact hc i (by omega)
      · rw [if_neg d, if_neg d, b1.1, show (1 : Int32) = nI 1 from rfl, nI_add, ← b1.2]
        refine set_1381 hk k6 f (j + 1) (a + 2 ^ j) (by omega) (by omega) (by omega) (fun i hi => ?_)
        by_cases e : i = j
        · subst e
          exact ⟨fun _ => d, fun _ => b3.1⟩
        · rw [bit_lo j hj6 a ha64 ha i (by omega) (by omega)]
          exact hc i (by omega)
/-- the same set, asked of the reference -/
theorem set_35 {a k : Nat} (hk : (s 2).toInt = k) (k6 : k ≤ 6) (ha : a < 2 ^ k) (hc : ∀ i, i < k → a / 2 ^ i % 2 = 1 → ¬ R_X8_canCarry s (nI i) = 0) : ∀ (f h : Nat), h ≤ k → k < f + h → R_X8_carries_35 s (nI a) f 1 h = R_X8_carries_77 s (nI a) 1
  | 0, h, _, h2 => absurd h2 (by omega)
  | f + 1, h, h1, h2 => by
    have hh : (nI h).toInt = (h : Int) := nI_toInt (by omega)
    have h64 := bit_pow k (by omega)
    unfold R_X8_carries_35 R_X8_carries_65 R_X8_carries_70
    by_cases c : h = k
    · subst c
      rw [if_pos (Int32.le_iff_toInt_le.mpr (by omega))]
    · rw [if_neg (fun z => by have := j_le z; omega), if_neg (by decide), bit_at h (by omega) a (by omega)]
      have ih := set_35 hk k6 ha hc f (h + 1) (by omega) (by omega)
      by_cases d : a / 2 ^ h % 2 = 1
      · rw [d, if_neg (by decide), if_neg (hc h (by omega) d)]
        exact ih
      · rw [show a / 2 ^ h % 2 = 0 by omega, if_pos (by decide)]
        exact ih
/-- who carries -/
theorem set_105 {x : Int32} (c1 : 1 ≤ (s 4).toInt) (c7 : (s 4).toInt ≤ 7) (h6 : (s 2).toInt ≤ 6) : ∀ (f i : Nat) (S : Nat → Int32), i ≤ 6 → 6 < f + i → S 2 = s 2 →
    ∃ S', R_L_acts_1479 m s pm x f i S = R_L_acts_1558 m s pm x 36 35 S' ∧ R_X8_carries_105 s x f i S = R_X8_carries_153 s x 34 177 S' ∧ ∀ n, n < 58 ∨ 112 ≤ n → S' n = S n
  | 0, i, S, _, h2, _ => absurd h2 (by omega)
  | f + 1, i, S, h1, h2, h3 => by
    have hi : (nI i).toInt = (i : Int) := nI_toInt (by omega)
    unfold R_L_acts_1479 R_X8_carries_105 R_L_acts_1548 R_X8_carries_142
    by_cases c : S 2 ≤ nI i
    · rw [if_pos c, if_pos c]
      exact ⟨S, rfl, rfl, fun _ _ => rfl⟩
    · have c' := j_nle c
      rw [h3] at c'
      rw [if_neg c, if_neg c]
      by_cases d : (x >>> (nI i &&& 31)) &&& 1 = 1
      · rw [if_pos d, if_pos d]
        unfold R_X8_walks
        rw [nI_clamp (by omega), p20_1 c1 c7]
        obtain ⟨S', l1, l2, l3⟩ := set_105 (x := x) c1 c7 h6 f (i + 1) (upd (upd (upd (upd S (58 + 9 * i + 2) 1) (58 + 9 * i + 3) (S 4 - 1)) (58 + 9 * i + 4) (3 * s (20 + ((s 4).toNatClampNeg - 1)))) (58 + 9 * i + 8) 1) (by omega) (by omega) (by simp (disch := omega) only [g_upd_ne]; exact h3)
        refine ⟨S', l1, l2, fun n hn => ?_⟩
        rw [l3 n hn]
        simp (disch := omega) only [g_upd_ne]
      · rw [if_neg d, if_neg d]
        exact set_105 c1 c7 h6 f (i + 1) S (by omega) (by omega) h3
/-- the log -/
theorem set_153 {x : Int32} : ∀ (f g e : Nat) (S : Nat → Int32), 2 ≤ e → e ≤ 35 → e < f + 2 → e < g + 2 →
    ∃ S', R_L_acts_1558 m s pm x f e S = (if 12 ≤ S' 12 then R_L_acts_1621 m s pm x S' 0 else R_L_acts_1621 m s pm x S' 1) ∧ R_X8_carries_153 s x g (142 + e) S = (if 12 ≤ S' 12 then R_X8_carries_245 s x S' 0 else R_X8_carries_245 s x S' 1) ∧ ∀ n, n < 142 ∨ 178 ≤ n → S' n = S n
  | 0, g, e, S, h1, _, h3, _ => absurd h3 (by omega)
  | f + 1, 0, e, S, h1, _, _, h4 => absurd h4 (by omega)
  | f + 1, g + 1, e, S, h1, h2, h3, h4 => by
    have he : (nI e).toInt = (e : Int) := nI_toInt (by omega)
    have hd : (nI (142 + e)).toInt = ((142 + e : Nat) : Int) := nI_toInt (by omega)
    have c2 : (2 : Int32).toInt = 2 := rfl
    have c145 : (145 : Int32).toInt = 145 := rfl
    unfold R_L_acts_1558 R_X8_carries_153
    by_cases c : e = 2
    · subst c
      refine ⟨S, ?_, ?_, fun _ _ => rfl⟩
      · rw [if_pos (by decide)]
      · rw [if_pos (by decide)]
        simp (disch := omega) only [g_upd_ne]
    · rw [if_neg (fun z => by have := j_leR z c2; omega), if_neg (fun z => by have := j_ltR z c145; omega), nI_clamp (by omega), show (nI (142 + e) - 3).toNatClampNeg = 142 + (e - 3) by
        rw [show (3 : Int32) = nI 3 from rfl, pk_sub (by omega), nI_clamp (by omega)]; omega, show 142 + e - 1 = 142 + (e - 1) by omega]
      obtain ⟨S', l1, l2, l3⟩ := set_153 (x := x) f g (e - 1) (upd S (142 + e) (S (142 + (e - 3)))) (by omega) (by omega) (by omega) (by omega)
      refine ⟨S', l1, l2, fun n hn => ?_⟩
      rw [l3 n hn, g_upd_ne (by omega)]
theorem A_carry {T : Int} (A : lA m s pm) (hT : (s 3).toInt ≤ T) : lO (R_L_acts_1381 m s pm 7 0 0 0) T := by
  have J := A.1.J
  obtain ⟨h0, h6⟩ := J.1.2.2.1
  have h07 := J.1.1.2
  obtain ⟨q0, q1⟩ := J.1.2.2.2.2.1
  obtain ⟨k, hk⟩ : ∃ k : Nat, (s 2).toInt = k := ⟨(s 2).toInt.toNat, by omega⟩
  have k6 : k ≤ 6 := by omega
  have p64 := bit_pow k (by omega)
  obtain ⟨a, a1, a2, a3⟩ := set_1381 (m := m) (s := s) (pm := pm) hk k6 7 0 0 (by omega) (by omega) (by decide) (fun i hi => absurd hi (by omega))
  have a3' : R_L_acts_1381 m s pm 7 0 0 0 = _ := a3
  rw [a3']
  have a64 : a < 64 := by omega
  obtain ⟨-, cnt6⟩ := bit_cnt a a64
  have hcnt : (nI (pcn a)).toInt = (pcn a : Int) := nI_toInt (by omega)
  have ha : (nI a).toInt = (a : Int) := nI_toInt (by omega)
  have e : R_X8_carry s (nI a) = R_X8_done (R_X8_carries s (nI a)).2 (R_X8_carries s (nI a)).1 := by unfold R_X8_carry; rw [A.2.1]
  have s2 : s 2 = nI k := Int32.toInt_inj.mp (by rw [hk, nI_toInt (by omega)])
  have hin : R_X8_in s (nI a) 0 ((1 <<< (s 2 &&& 31)) - 1) = 1 := by
    rw [s2, bit_top k (by omega)]
    exact in_ok (by rw [j_0]; omega) (by rw [ha, nI_toInt (by omega)]; omega)
  have e1 : R_X8_carries s (nI a) = if 3 ≤ nI (pcn a) then R_X8_carries_35 s (nI a) 7 (R_X8_isCarryable s) 0 else (1, s) := by
    unfold R_X8_carries
    rw [hin, i10, ones_at a64]
  by_cases c : 3 ≤ nI (pcn a)
  · have c' := j_leL c (show (3 : Int32).toInt = 3 from rfl)
    rw [if_pos c]
    rw [if_pos c] at e1
    obtain ⟨i, i6, ib⟩ := bit_any a a64 (by omega)
    have ik : i < k := Nat.lt_of_not_le fun z => by
      have := bit_ge k (by omega) a a64 a1 i i6 z
      omega
    have could : ∀ j, j < k → a / 2 ^ j % 2 = 1 → ¬ R_X8_isCarryable s = 0 ∧ ¬ R_X8_canCarry s (nI j) = 0 := fun j hj hb => by
      have hq : (nI j).toInt = (j : Int) := nI_toInt (by omega)
      have := (a2 j hj).mp hb
      rw [Lx_could J (by omega) (by omega)] at this
      by_cases z : R_X8_isCarryable s = 0
      · rw [if_pos z] at this; exact absurd rfl this
      · rw [if_neg z] at this; exact ⟨z, this⟩
    have ic1 : R_X8_isCarryable s = 1 := by
      have := (could i ik ib).1
      unfold R_X8_isCarryable at this ⊢
      repeat' split at this
      all_goals first | exact absurd rfl this | skip
      all_goals (repeat' split); all_goals first | rfl | contradiction
    have c1 : 1 ≤ (s 4).toInt := by
      have := (could i ik ib).1
      unfold R_X8_isCarryable at this
      by_cases z : s 5 = 0
      · rw [if_pos z] at this
        by_cases w : s 4 ≤ 0
        · rw [if_pos w] at this; exact absurd rfl this
        · have := j_nleR w j_0; omega
      · rw [if_neg z] at this; exact absurd rfl this
    rw [ic1, set_35 hk k6 a1 (fun j hj hb => (could j hj hb).2) 7 0 (by omega) (by omega)] at e1
    unfold R_X8_carries_77 at e1
    rw [i10] at e1
    obtain ⟨S1, l1, l2, l3⟩ := set_105 (m := m) (s := s) (pm := pm) (x := nI a) c1 (by omega) h6 7 0 s (by omega) (by omega) rfl
    obtain ⟨S2, k1, k2, k3⟩ := set_153 (m := m) (s := s) (pm := pm) (x := nI a) 36 34 35 S1 (by omega) (by omega) (by omega) (by omega)
    have lo : ∀ n, n < 58 → S2 n = s n := fun n hn => (k3 n (Or.inl (by omega))).trans (l3 n (Or.inl hn))
    rw [l2, show (177 : Nat) = 142 + 35 from rfl, k2] at e1
    rw [l1, k1]
    have key : ∀ u : Int32, R_X8_carries s (nI a) = R_X8_carries_245 s (nI a) S2 u → lO (R_L_acts_1621 m s pm (nI a) S2 u) T := by
      intro u hu
      rw [hu] at e
      unfold R_X8_carries_245 at e
      simp (disch := omega) only [g_upd_ne] at e
      rw [p20_1 c1 (by omega)] at e
      unfold R_L_acts_1621
      refine o_ok (Ref_carry A.1 (nI a)) (dn_ok ?_ e) iaE ?_ ?_
      · simp (disch := omega) only [g_upd_ne]
        have : S2 1300 = s 1300 := (k3 1300 (Or.inr (by omega))).trans (l3 _ (Or.inr (by omega)))
        rw [this]; exact A.c
      · simp (disch := omega) only [g_upd_ne]
        rw [lo 3 (by omega)]; exact hT
      · have h : lR S2 := fun i hi => by rw [lo _ (by omega)]; exact A.2.2 i hi
        exact (((((h.u1 (by omega)).u1 (by omega)).u1 (by omega)).u1 (by omega)).u1 (by omega)).u1 (by omega)
    by_cases d : 12 ≤ S2 12
    · rw [if_pos d] at e1 ⊢
      exact key 0 e1
    · rw [if_neg d] at e1 ⊢
      exact key 1 e1
  · rw [if_neg c]
    rw [if_neg c] at e1
    rw [e1] at e
    have d := dn_bad (s := s) (k := 1) (by decide) e
    exact o_bad (Ref_carry A.1 (nI a)) d.1 d.2 (by decide) iaE1 hT A.2.2
end VF
