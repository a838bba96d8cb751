/-! ===== the static arrays; a saved cave is a copy ===== -/
section GR6
variable {α : Type} {X : g_X} {emb : α → g_Res} {r : α} {k n : Nat} {m : Nat → Int32} {q : g_q} {pc : Nat} {lc : List (Nat × Value)} {st : List Value} {cc : ByteArray} {ret : Option FieldType} {R : Room}
theorem r_gets9 (O : g_ok X cc RX4 ret R) (Y : g_Y (g_xs X)) (hd : decode cc pc = .ok (.getstatic 9, 3)) (kk : g_V X emb r k n m q (pc + 3) lc (.ref (g_ad X 132) :: st)) : g_V X emb r k n m q pc lc st := fun H locs ls hP hS hh => va_getsN (host := "CaveRelay") O.exec O.code O.Z.1.1 hS O.host (va_Nw.use rfl Y.2.2.2.1.1) (fun _ h => h) hd (kk H locs ls hP hS hh)
theorem r_gets23 (O : g_ok X cc RX4 ret R) (Y : g_Y (g_xs X)) (hd : decode cc pc = .ok (.getstatic 23, 3)) (kk : g_V X emb r k n m q (pc + 3) lc (.ref (g_ad X 133) :: st)) : g_V X emb r k n m q pc lc st := fun H locs ls hP hS hh => va_getsN (host := "CaveRelay") O.exec O.code O.Z.1.2 hS O.host (va_Nw.use rfl Y.2.2.2.1.2.1) (fun _ h => h) hd (kk H locs ls hP hS hh)
variable {own : String}
theorem r_sld132 (O : g_ok X cc own ret R) {i : Int32} (hin : vp_in i 7) (hd : decode cc pc = .ok (.iaload, 1)) (kk : g_V X emb r k n m q (pc + 1) lc (.int (g_d0 i.toNatClampNeg) :: st)) : g_V X emb r k n m q pc lc (.int i :: .ref (g_ad X 132) :: st) := fun H locs ls hP hS hh => va_sld O.exec O.code O.Z.2.1.1 O.Z.2.2.1.1.1 O.Z.2.2.1.1.2 hS hin hd (kk H locs ls hP hS hh)
theorem r_sld133 (O : g_ok X cc own ret R) {i : Int32} (hin : vp_in i 7) (hd : decode cc pc = .ok (.iaload, 1)) (kk : g_V X emb r k n m q (pc + 1) lc (.int (g_m0 i.toNatClampNeg) :: st)) : g_V X emb r k n m q pc lc (.int i :: .ref (g_ad X 133) :: st) := fun H locs ls hP hS hh => va_sld O.exec O.code O.Z.2.1.2 O.Z.2.2.1.2.1 O.Z.2.2.1.2.2 hS hin hd (kk H locs ls hP hS hh)
end GR6
theorem cp_X0_24 {m : Nat → Int32} {c d : Nat} (hcd : c ≠ d) {m0 : Nat → Int32} : ∀ (f i : Nat) (t : Nat → Int32), i ≤ 6 → 6 < f + i → g_Cp c d (fun k => (k = 0 ∨ (13 ≤ k ∧ k < 34)) ∨ (k = 1 ∨ (34 ≤ k ∧ k < 58)) ∨ (58 ≤ k ∧ k < 58 + 9 * i)) m0 t → g_Cp c d (fun _ => True) m0 (R_X0_copyFrom_24 m c d f i t)
  | 0, i, t, h1, h2, _ => absurd h2 (by omega)
  | f + 1, i, t, h1, h2, h => by
    unfold R_X0_copyFrom_24
    have hi : (nI i).toInt = (i : Int) := nI_toInt (by omega)
    split
    · rename_i q
      have q : (6 : Int) ≤ (nI i).toInt := j_leL q rfl
      have e : i = 6 := by omega
      subst e
      have h3 := ((h.step hcd (k := 2) (by omega)).trans (cp_X3 hcd) hcd).trans (cp_X2 hcd) hcd
      have h4 := (((((h3.step hcd (k := 3) (by omega)).step hcd (k := 4) (by omega)).step hcd (k := 5) (by omega)).step hcd (k := 9) (by omega)).step hcd (k := 10) (by omega)).step hcd (k := 11) (by omega)
      exact h4.iff (fun k hk => by first | (simp only [iff_true]; omega) | (dsimp only; omega))
    · rename_i q
      have q : (nI i).toInt < (6 : Int) := j_nleL q rfl
      rw [nI_clamp (by omega)]
      exact cp_X0_24 hcd f (i + 1) _ (by omega) (by omega) ((h.trans (cp_X1 hcd (by omega)) hcd).iff (fun k hk => by first | (dsimp only; omega) | omega))
/-- a copy of a whole cave -/
theorem cp_X0 {m : Nat → Int32} {c d : Nat} (hcd : c ≠ d) : g_Cp c d (fun _ => True) m (R_X0_copyFrom m c d) := cp_X0_24 hcd _ _ _ (by omega) (by omega) (((cp_X4 hcd).trans (cp_X5 hcd) hcd).iff (fun k hk => by first | (dsimp only; omega) | omega))
theorem cp_at {m : Nat → Int32} {c d k : Nat} (hcd : c ≠ d) (hk : k < 178) : R_X0_copyFrom m c d (178 * c + k) = m (178 * d + k) := (cp_X0 hcd).1 k hk trivial
theorem cp_ne {m : Nat → Int32} {c d n : Nat} (hcd : c ≠ d) (hn : n < 178 * c ∨ 178 * c + 178 ≤ n) : R_X0_copyFrom m c d n = m n := (cp_X0 hcd).2 n (fun k hk _ => by omega)
/-- what every method of the face begins with -/
def g_I (m : Nat → Int32) (pm : Nat → Nat) : Prop := ((0 ≤ (m 0).toInt ∧ (m 0).toInt ≤ 7) ∧ (0 ≤ (m 1).toInt ∧ (m 1).toInt ≤ 8) ∧ (0 ≤ (m 2).toInt ∧ (m 2).toInt ≤ 6) ∧ (0 ≤ (m 6).toInt ∧ (m 6).toInt ≤ 10) ∧ (0 ≤ (m 12).toInt ∧ (m 12).toInt ≤ 12) ∧ (0 ≤ (m 980).toInt ∧ (m 980).toInt ≤ 90) ∧ 0 ≤ (m 981).toInt ∧ (m 981).toInt ≤ 4) ∧ g_Bo m ∧ g_Pm pm
theorem g_I.all {m : Nat → Int32} {pm : Nat → Nat} (h : g_I m pm) : ((0 ≤ (m 0).toInt ∧ (m 0).toInt ≤ 7) ∧ (0 ≤ (m 1).toInt ∧ (m 1).toInt ≤ 8) ∧ (0 ≤ (m 2).toInt ∧ (m 2).toInt ≤ 6) ∧ (0 ≤ (m 6).toInt ∧ (m 6).toInt ≤ 10) ∧ (0 ≤ (m 12).toInt ∧ (m 12).toInt ≤ 12) ∧ (0 ≤ (m 980).toInt ∧ (m 980).toInt ≤ 90) ∧ 0 ≤ (m 981).toInt ∧ (m 981).toInt ≤ 4) ∧ g_Bo m ∧ g_Pm pm := h
theorem fr_save {m : Nat → Int32} {pm : Nat → Nat} {n : Nat} (h : g_I m pm) (hn : n < 178 ∨ (890 ≤ n ∧ n ≠ 981)) : (R_X7_save m pm).1 n = m n := by
  obtain ⟨⟨-, -, -, -, -, -, h0, h4⟩, -, hp⟩ := h
  have k : ∀ (m : Nat → Int32) (pm : Nat → Nat), g_Pm pm → 0 ≤ (m 981).toInt → (m 981).toInt < 4 → (R_X7_save_12 m pm).1 n = m n := by
    intro m pm hp h0 h4
    have hj := j_nat h0
    have hq := hp (m 981).toNatClampNeg (by omega)
    unfold R_X7_save_12
    show upd _ _ _ n = _
    rw [g_upd_ne (by omega), cp_ne (by omega) (by omega)]
  unfold R_X7_save
  split
  · rename_i c
    exact k m pm hp h0 (j_ltR c rfl)
  · rw [k _ _ hp.drop (by rw [g_upd_eq]; decide) (by rw [g_upd_eq]; decide), g_upd_ne (by omega)]
theorem fr_X0_takeRope {m : Nat → Int32} {a b : Int32} {n : Nat} (h : n < 34) : R_X0_takeRope m a b n = m n := by
  unfold R_X0_takeRope
  rw [fr_X5_put h, g_upd_ne (by omega)]
