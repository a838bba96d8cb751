/-! ===== where both sides begin ===== -/
def g_ini (n : Nat) : Int32 := if 58 ≤ n ∧ n < 112 then (if (n - 58) % 9 = 3 ∨ (n - 58) % 9 = 5 then -1 else 0) else g_new 4 n
def g_m1 (n : Nat) : Int32 := if n < 890 then g_ini (n % 178) else 0
def g_s1 : Nat → Int32 := R_X8_begins (fun _ => 0) 4
def g_p1 (i : Nat) : Nat := if i < 4 then i + 1 else 1
theorem start_rel : g_Rel g_m1 g_s1 g_p1 := by
  obtain ⟨a, b, c, d, e, f, g⟩ := g_new_lo (x := 4)
  have c4 : (4 : Int32).toInt = 4 := rfl
  have hs : ∀ n, g_s1 n = if n < 178 then g_new 4 n else 0 := fun n => begins_at n
  have lo : ∀ n, n < 178 → g_s1 n = g_new 4 n := fun n h => by rw [hs, if_pos h]
  have hi : ∀ n, 178 ≤ n → g_s1 n = 0 := fun n h => by rw [hs, if_neg (by omega)]
  have z : ∀ n, n < 13 → n ≠ 0 → n ≠ 4 → g_s1 n = 0 := fun n h1 h2 h3 => (lo n (by omega)).trans (c n h1 h2 h3)
  have hm : ∀ k n, k < 5 → n < 178 → g_m1 (178 * k + n) = g_ini n := fun k n h1 h2 => by
    unfold g_m1
    rw [if_pos (by omega), Nat.mul_add_mod, Nat.mod_eq_of_lt h2]
  have hm0 : ∀ n, n < 178 → g_m1 n = g_ini n := fun n h => by
    have := hm 0 n (by omega) h
    rwa [Nat.mul_zero, Nat.zero_add] at this
  have J : g_J g_s1 := J_new (x := 4) (by rw [c4]; omega) (by rw [c4]; omega) lo
  have E : g_E g_m1 g_s1 := by
    refine ⟨fun n hn => ?_, J, fun k hk hd => ?_⟩
    · unfold g_Lv at hn
      rw [z 1 (by omega) (by omega) (by omega), z 2 (by omega) (by omega) (by omega), z 6 (by omega) (by omega) (by omega), z 12 (by omega) (by omega) (by omega), j_0] at hn
      have h34 : n < 34 := by omega
      rw [hm0 n (by omega), lo n (by omega)]
      unfold g_ini
      rw [if_neg (by omega)]
    · rw [z 2 (by omega) (by omega) (by omega), j_0] at hk; omega
  have B : g_Bo g_m1 := fun k hk => by
    refine ⟨Or.inl ?_, fun h hh => Or.inl ?_⟩
    · rw [hm k 5 hk (by omega)]; rfl
    · rw [hm k _ hk (by omega)]
      unfold g_ini
      rw [if_pos (by omega), if_neg (by omega)]
  have e981 : g_m1 981 = nI 0 := by
    unfold g_m1
    rw [if_neg (by omega)]; rfl
  have e980 : g_m1 980 = 0 := by
    unfold g_m1
    rw [if_neg (by omega)]
  have P : ∀ i, i < 4 → g_p1 i = i + 1 := fun i hi => if_pos hi
  refine ⟨E, ⟨0, by omega, ?_, e981, fun i hi => absurd hi (by omega)⟩, ⟨?_, ?_, fun k hk => ?_⟩, B, fun i hi => ?_, fun i j hi hj h => ?_, rfl⟩
  · rw [hi 1300 (by omega)]; rfl
  · rw [e980, hi 1301 (by omega)]
  · rw [hi 1301 (by omega), j_0]; omega
  · rw [hi 1301 (by omega), j_0] at hk; omega
  · rw [P i hi]; omega
  · rw [P i hi, P j hj] at h; omega
