/-! ===== constructors: the world at other addresses ===== -/
theorem g_ent_adr {ad1 ad2 : Nat → Nat} {ca : Nat → ClassId} {μ : g_M} (h : ∀ k, k < 124 → ad1 k = ad2 k) (hpm : ∀ t, t < 4 → μ.2.2.2 t < 5) {k : Nat} (hk : k < 124) : g_ent ad1 ca μ k = g_ent ad2 ca μ k := by
  rcases Nat.lt_or_ge k 120 with hk2 | hk2
  · have e : k = 24 * (k / 24) + k % 24 := by omega
    have hc : k / 24 < 5 := by omega
    have h0 : k % 24 < 24 := by omega
    rw [e, g_ent_c _ _ _ hc h0, g_ent_c _ _ _ hc h0]
    generalize k / 24 = c at hc
    generalize k % 24 = j0 at h0
    have hoc := n_oc_ok j0 h0
    have hrf := n_rf_ok j0 h0
    unfold g_ce
    cases ho : g_oc j0 with
    | some q =>
      rw [ho] at hoc hrf
      have h12 : q.2 ≤ 12 := by simpa using hoc
      show Sum.inr (q.1, _) = Sum.inr (q.1, _)
      rw [List.map_congr_left fun j hj => ?_]
      have hj : j < q.2 := List.mem_range.mp hj
      unfold g_sv
      cases hv : g_va j0 j with
      | true => rfl
      | false =>
        have hr : g_rf j0 j < 24 := hrf j (by omega) (by simp [hj, hv])
        show Value.ref (ad1 (24 * c + g_rf j0 j)) = Value.ref (ad2 (24 * c + g_rf j0 j))
        rw [h _ (by omega)]
    | none =>
      cases hi : g_ia j0 with
      | some n => rfl
      | none =>
        show Sum.inl (ca 2, 6, _) = Sum.inl (ca 2, 6, _)
        congr 7
        funext t
        cases ht : Nat.blt t 6 with
        | false => rfl
        | true =>
          have h2 : t < 6 := g_blt.mp ht
          show some (ad1 (24 * c + (10 + t))) = some (ad2 (24 * c + (10 + t)))
          rw [h _ (by omega)]
  · rw [g_ent_o _ _ _ hk2, g_ent_o _ _ _ hk2]
    have hc : k - 120 = 0 ∨ k - 120 = 1 ∨ k - 120 = 2 ∨ k - 120 = 3 := by omega
    rcases hc with e | e | e | e <;> rw [e] <;> unfold g_oe
    · show Sum.inr (6, [Value.ref (ad1 121), _]) = Sum.inr (6, [Value.ref (ad2 121), _])
      rw [h 121 (by omega)]
    · rfl
    · show Sum.inr (7, [Value.ref (ad1 0), Value.ref (ad1 123), _, Value.ref (ad1 120)]) = Sum.inr (7, [Value.ref (ad2 0), Value.ref (ad2 123), _, Value.ref (ad2 120)])
      rw [h 0 (by omega), h 123 (by omega), h 120 (by omega)]
    · show Sum.inl (ca 1, 4, _) = Sum.inl (ca 1, 4, _)
      congr 7
      funext t
      cases ht : Nat.blt t 4 with
      | false => rfl
      | true =>
        have h2 : t < 4 := g_blt.mp ht
        have := hpm t h2
        show some (ad1 (24 * μ.2.2.2 t)) = some (ad2 (24 * μ.2.2.2 t))
        rw [h _ (by omega)]
theorem n_E.cong {ad1 ad2 : Nat → Nat} {A : Nat → Prop} {U : State} (h0 : ad1 132 = ad2 132) (h1 : ad1 133 = ad2 133) (h : n_E ad1 A U) : n_E ad2 A U := by
  unfold n_E g_Z n_Zc at h ⊢
  rw [h0, h1] at h
  exact h
theorem n_q0_lt (t : Nat) (h : t < 4) : n_q0 t < 5 := by unfold n_q0; rw [if_pos h]; omega
