/-! ===== constructors: those that make arrays alone ===== -/
def g_FPF (own : String) (idx ci j : Nat) (v : Value) : Prop := ∃ (C : String) (T : u_T) (N : Nat) (ty0 : Nat → FieldType), vwCl[ci]? = some (C, T, N) ∧ j < N ∧ (∀ w ∈ u_ws C T N, w ∈ gW) ∧ Cond.fieldLink own idx (T j).1 (T j).2.1 (T j).2.2.1 ∈ gW ∧ (∀ k, k < N → parseFieldDescriptor (T k).2.2.1 = some (ty0 k)) ∧ (∀ a, a < N → ∀ b, b < N → a ≠ b → (T a).2.1 ≠ (T b).2.1) ∧ (T j).2.2.2 = true ∧ (T j).1 = own ∧ narrow (ty0 j) v = v ∧ fits (ty0 j) v = true
section NW
variable {X : g_X} {A : Nat → Prop} {Q : State → Prop} {k n : Nat} {ws : va_W} {pc : Nat} {lc : List (Nat × Value)} {st : List Value} {cc : ByteArray} {own : String} {R : Room}
/-- a final field of the cell q0 written -/
theorem n_putF (O : n_ok X A cc own R) {idx ci j a : Nat} {x : Value} {fs : List Value} (q0 : Nat) (F : g_FPF own idx ci j x) (he : ws[q0]? = some (a, .inr (ci, fs))) (hj : j < fs.length) (hd : decode cc pc = .ok (.putfield idx, 3)) (kk : n_V X A Q k n (ws.set q0 (a, .inr (ci, fs.set j x))) (pc + 3) lc st) (ho : own ≠ RL := by decide +kernel) : n_V X A Q k n ws pc lc (x :: .ref a :: st) := by
  obtain ⟨C, T, N, ty0, hc, hjN, hin, hl, hty, hnm, hfin, hdc, hn, hf⟩ := F
  exact fun H locs ls hP hD hS hh => va_putF O.exec O.code (Ts := gW) (fun w hw => O.word hw) hin ty0 hty hnm O.host O.K hP hD hS q0 he hc j hjN (O.word hl) (fun _ h => h) hfin (O.nm ho) hdc (hty j hjN) hn hf hj hd (fun H1 locs1 hP1 hD1 hS1 => kk H1 locs1 ls hP1 hD1 hS1 hh)
end NW
theorem FPFX5_9 (q : Nat) : g_FPF RX5 9 5 0 (.ref q) := ⟨RX5, TX5, 4, tyX5, rfl, by decide, uX5, w_fl_X5_9, tyX5_ok, nmX5, rfl, rfl, rfl, rfl⟩
theorem FPFX5_15 (q : Nat) : g_FPF RX5 15 5 1 (.ref q) := ⟨RX5, TX5, 4, tyX5, rfl, by decide, uX5, w_fl_X5_15, tyX5_ok, nmX5, rfl, rfl, rfl, rfl⟩
theorem FPFX5_18 (q : Nat) : g_FPF RX5 18 5 2 (.ref q) := ⟨RX5, TX5, 4, tyX5, rfl, by decide, uX5, w_fl_X5_18, tyX5_ok, nmX5, rfl, rfl, rfl, rfl⟩
theorem w_oiX5 : Cond.methodLink RX5 3 Lib.objectInit ∈ gW := gW_in (i := 79) (by decide +kernel) rfl
/-- Ropes() -/
theorem n_X5 (l : Launch) : n_C l yX5_init cX5_init 1 ({ frames := 1, cells := 3, slots := 24, locals := 12 } : Room) 5 [.null, .null, .null, .int 0] (fun ca h f => [(h, .inr (5, [.ref (f 0), .ref (f 1), .ref (f 2), .int 0])), (f 0, .inl (ca 0, 8, .inl (fun _ => 0))), (f 1, .inl (ca 0, 8, .inl (fun _ => 0))), (f 2, .inl (ca 0, 8, .inl (fun _ => 0)))]) := by
  refine n_of (by decide) (by decide) rfl (fun X a hl hn O => ?_)
  refine n_aload O 0 dX5_init_0 rfl rfl ?_
  refine n_oi O w_oiX5 dX5_init_1 (by decide) (by decide) ?_
  refine n_aload O 0 dX5_init_4 rfl rfl ?_
  refine n_bipush (x := 8) O dX5_init_5 rfl ?_
  refine n_newa O (N := 8) (by decide) rfl (by decide) (by decide) (by decide) dX5_init_7 (fun q0 => ?_)
  refine n_putF O 0 (FPFX5_9 q0) rfl (Nat.le_of_ble_eq_true rfl) dX5_init_9 ?_
  refine n_aload O 0 dX5_init_12 rfl rfl ?_
  refine n_bipush (x := 8) O dX5_init_13 rfl ?_
  refine n_newa O (N := 8) (by decide) rfl (by decide) (by decide) (by decide) dX5_init_15 (fun q1 => ?_)
  refine n_putF O 0 (FPFX5_15 q1) rfl (Nat.le_of_ble_eq_true rfl) dX5_init_17 ?_
  refine n_aload O 0 dX5_init_20 rfl rfl ?_
  refine n_bipush (x := 8) O dX5_init_21 rfl ?_
  refine n_newa O (N := 8) (by decide) rfl (by decide) (by decide) (by decide) dX5_init_23 (fun q2 => ?_)
  refine n_putF O 0 (FPFX5_18 q2) rfl (Nat.le_of_ble_eq_true rfl) dX5_init_25 ?_
  refine n_aload O 0 dX5_init_28 rfl rfl ?_
  refine n_iconst (x := 0) O dX5_init_29 rfl ?_
  refine n_put O 0 (FPX5_21 0) rfl (Nat.le_of_ble_eq_true rfl) dX5_init_30 ?_
  exact n_ret O (fun i => if i = 0 then q0 else if i = 1 then q1 else q2) rfl dX5_init_33 (by decide) (by decide)
theorem FPFX3_9 (q : Nat) : g_FPF RX3 9 3 0 (.ref q) := ⟨RX3, TX3, 5, tyX3, rfl, by decide, uX3, w_fl_X3_9, tyX3_ok, nmX3, rfl, rfl, rfl, rfl⟩
theorem FPFX3_15 (q : Nat) : g_FPF RX3 15 3 1 (.ref q) := ⟨RX3, TX3, 5, tyX3, rfl, by decide, uX3, w_fl_X3_15, tyX3_ok, nmX3, rfl, rfl, rfl, rfl⟩
theorem FPFX3_18 (q : Nat) : g_FPF RX3 18 3 2 (.ref q) := ⟨RX3, TX3, 5, tyX3, rfl, by decide, uX3, w_fl_X3_18, tyX3_ok, nmX3, rfl, rfl, rfl, rfl⟩
theorem w_oiX3 : Cond.methodLink RX3 3 Lib.objectInit ∈ gW := gW_in (i := 102) (by decide +kernel) rfl
/-- Messages() -/
theorem n_X3 (l : Launch) : n_C l yX3_init cX3_init 1 ({ frames := 1, cells := 3, slots := 30, locals := 12 } : Room) 3 [.null, .null, .null, .int 0, .int 0] (fun ca h f => [(h, .inr (3, [.ref (f 0), .ref (f 1), .ref (f 2), .int 0, .int 0])), (f 0, .inl (ca 0, 10, .inl (fun _ => 0))), (f 1, .inl (ca 0, 10, .inl (fun _ => 0))), (f 2, .inl (ca 0, 10, .inl (fun _ => 0)))]) := by
  refine n_of (by decide) (by decide) rfl (fun X a hl hn O => ?_)
  refine n_aload O 0 dX3_init_0 rfl rfl ?_
  refine n_oi O w_oiX3 dX3_init_1 (by decide) (by decide) ?_
  refine n_aload O 0 dX3_init_4 rfl rfl ?_
  refine n_bipush (x := 10) O dX3_init_5 rfl ?_
  refine n_newa O (N := 10) (by decide) rfl (by decide) (by decide) (by decide) dX3_init_7 (fun q0 => ?_)
  refine n_putF O 0 (FPFX3_9 q0) rfl (Nat.le_of_ble_eq_true rfl) dX3_init_9 ?_
  refine n_aload O 0 dX3_init_12 rfl rfl ?_
  refine n_bipush (x := 10) O dX3_init_13 rfl ?_
  refine n_newa O (N := 10) (by decide) rfl (by decide) (by decide) (by decide) dX3_init_15 (fun q1 => ?_)
  refine n_putF O 0 (FPFX3_15 q1) rfl (Nat.le_of_ble_eq_true rfl) dX3_init_17 ?_
  refine n_aload O 0 dX3_init_20 rfl rfl ?_
  refine n_bipush (x := 10) O dX3_init_21 rfl ?_
  refine n_newa O (N := 10) (by decide) rfl (by decide) (by decide) (by decide) dX3_init_23 (fun q2 => ?_)
  refine n_putF O 0 (FPFX3_18 q2) rfl (Nat.le_of_ble_eq_true rfl) dX3_init_25 ?_
  refine n_aload O 0 dX3_init_28 rfl rfl ?_
  refine n_iconst (x := 0) O dX3_init_29 rfl ?_
  refine n_put O 0 (FPX3_21 0) rfl (Nat.le_of_ble_eq_true rfl) dX3_init_30 ?_
  refine n_aload O 0 dX3_init_33 rfl rfl ?_
  refine n_iconst (x := 0) O dX3_init_34 rfl ?_
  refine n_put O 0 (FPX3_25 0) rfl (Nat.le_of_ble_eq_true rfl) dX3_init_35 ?_
  exact n_ret O (fun i => if i = 0 then q0 else if i = 1 then q1 else q2) rfl dX3_init_38 (by decide) (by decide)
theorem FPFX2_9 (q : Nat) : g_FPF RX2 9 2 0 (.ref q) := ⟨RX2, TX2, 5, tyX2, rfl, by decide, uX2, w_fl_X2_9, tyX2_ok, nmX2, rfl, rfl, rfl, rfl⟩
theorem FPFX2_15 (q : Nat) : g_FPF RX2 15 2 1 (.ref q) := ⟨RX2, TX2, 5, tyX2, rfl, by decide, uX2, w_fl_X2_15, tyX2_ok, nmX2, rfl, rfl, rfl, rfl⟩
theorem FPFX2_18 (q : Nat) : g_FPF RX2 18 2 2 (.ref q) := ⟨RX2, TX2, 5, tyX2, rfl, by decide, uX2, w_fl_X2_18, tyX2_ok, nmX2, rfl, rfl, rfl, rfl⟩
theorem w_oiX2 : Cond.methodLink RX2 3 Lib.objectInit ∈ gW := gW_in (i := 127) (by decide +kernel) rfl
/-- Log() -/
theorem n_X2 (l : Launch) : n_C l yX2_init cX2_init 1 ({ frames := 1, cells := 3, slots := 36, locals := 12 } : Room) 2 [.null, .null, .null, .int 0, .int 0] (fun ca h f => [(h, .inr (2, [.ref (f 0), .ref (f 1), .ref (f 2), .int 0, .int 0])), (f 0, .inl (ca 0, 12, .inl (fun _ => 0))), (f 1, .inl (ca 0, 12, .inl (fun _ => 0))), (f 2, .inl (ca 0, 12, .inl (fun _ => 0)))]) := by
  refine n_of (by decide) (by decide) rfl (fun X a hl hn O => ?_)
  refine n_aload O 0 dX2_init_0 rfl rfl ?_
  refine n_oi O w_oiX2 dX2_init_1 (by decide) (by decide) ?_
  refine n_aload O 0 dX2_init_4 rfl rfl ?_
  refine n_bipush (x := 12) O dX2_init_5 rfl ?_
  refine n_newa O (N := 12) (by decide) rfl (by decide) (by decide) (by decide) dX2_init_7 (fun q0 => ?_)
  refine n_putF O 0 (FPFX2_9 q0) rfl (Nat.le_of_ble_eq_true rfl) dX2_init_9 ?_
  refine n_aload O 0 dX2_init_12 rfl rfl ?_
  refine n_bipush (x := 12) O dX2_init_13 rfl ?_
  refine n_newa O (N := 12) (by decide) rfl (by decide) (by decide) (by decide) dX2_init_15 (fun q1 => ?_)
  refine n_putF O 0 (FPFX2_15 q1) rfl (Nat.le_of_ble_eq_true rfl) dX2_init_17 ?_
  refine n_aload O 0 dX2_init_20 rfl rfl ?_
  refine n_bipush (x := 12) O dX2_init_21 rfl ?_
  refine n_newa O (N := 12) (by decide) rfl (by decide) (by decide) (by decide) dX2_init_23 (fun q2 => ?_)
  refine n_putF O 0 (FPFX2_18 q2) rfl (Nat.le_of_ble_eq_true rfl) dX2_init_25 ?_
  refine n_aload O 0 dX2_init_28 rfl rfl ?_
  refine n_iconst (x := 0) O dX2_init_29 rfl ?_
  refine n_put O 0 (FPX2_21 0) rfl (Nat.le_of_ble_eq_true rfl) dX2_init_30 ?_
  refine n_aload O 0 dX2_init_33 rfl rfl ?_
  refine n_iconst (x := 0) O dX2_init_34 rfl ?_
  refine n_put O 0 (FPX2_25 0) rfl (Nat.le_of_ble_eq_true rfl) dX2_init_35 ?_
  exact n_ret O (fun i => if i = 0 then q0 else if i = 1 then q1 else q2) rfl dX2_init_38 (by decide) (by decide)
theorem FPFX6_9 (q : Nat) : g_FPF RX6 9 6 0 (.ref q) := ⟨RX6, TX6, 2, tyX6, rfl, by decide, uX6, w_fl_X6_9, tyX6_ok, nmX6, rfl, rfl, rfl, rfl⟩
theorem w_oiX6 : Cond.methodLink RX6 3 Lib.objectInit ∈ gW := gW_in (i := 241) (by decide +kernel) rfl
/-- Text() -/
theorem n_X6 (l : Launch) : n_C l yX6_init cX6_init 1 ({ frames := 1, cells := 1, slots := 90, locals := 12 } : Room) 6 [.null, .int 0] (fun ca h f => [(h, .inr (6, [.ref (f 0), .int 0])), (f 0, .inl (ca 0, 90, .inl (fun _ => 0)))]) := by
  refine n_of (by decide) (by decide) rfl (fun X a hl hn O => ?_)
  refine n_aload O 0 dX6_init_0 rfl rfl ?_
  refine n_oi O w_oiX6 dX6_init_1 (by decide) (by decide) ?_
  refine n_aload O 0 dX6_init_4 rfl rfl ?_
  refine n_bipush (x := 90) O dX6_init_5 rfl ?_
  refine n_newa O (N := 90) (by decide) rfl (by decide) (by decide) (by decide) dX6_init_7 (fun q0 => ?_)
  refine n_putF O 0 (FPFX6_9 q0) rfl (Nat.le_of_ble_eq_true rfl) dX6_init_9 ?_
  refine n_aload O 0 dX6_init_12 rfl rfl ?_
  refine n_iconst (x := 0) O dX6_init_13 rfl ?_
  refine n_put O 0 (FPX6_15 0) rfl (Nat.le_of_ble_eq_true rfl) dX6_init_14 ?_
  exact n_ret O (fun i => q0) rfl dX6_init_17 (by decide) (by decide)
