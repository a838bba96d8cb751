/-! ===== Passages(): two clones and a loop ===== -/
theorem FPFX4_18 (q : Nat) : g_FPF RX4 18 4 0 (.ref q) := ⟨RX4, TX4, 4, tyX4, rfl, by decide, uX4, w_fl_X4_18, tyX4_ok, nmX4, rfl, rfl, rfl, rfl⟩
theorem FPFX4_26 (q : Nat) : g_FPF RX4 26 4 1 (.ref q) := ⟨RX4, TX4, 4, tyX4, rfl, by decide, uX4, w_fl_X4_26, tyX4_ok, nmX4, rfl, rfl, rfl, rfl⟩
theorem FPFX4_29 (q : Nat) : g_FPF RX4 29 4 2 (.ref q) := ⟨RX4, TX4, 4, tyX4, rfl, by decide, uX4, w_fl_X4_29, tyX4_ok, nmX4, rfl, rfl, rfl, rfl⟩
theorem w_oiX4 : Cond.methodLink RX4 3 Lib.objectInit ∈ gW := gW_in (i := 46) (by decide +kernel) rfl
def n_r0 (i : Nat) : Nat → Int32 := fun t => if t < i then -1 else 0
theorem n_r0_s {i : Nat} (hi : i < 7) : upd (n_r0 i) (nI i).toNatClampNeg (-1) = n_r0 (i + 1) := by
  rw [nI_clamp (by omega)]
  funext t
  unfold n_r0 upd
  by_cases h : t = i
  · subst h; rw [if_pos rfl, if_pos (by omega)]
  · rw [if_neg h]
    by_cases h2 : t < i
    · show (if t < i then (-1 : Int32) else 0) = _
      rw [if_pos h2, if_pos (by omega)]
    · show (if t < i then (-1 : Int32) else 0) = _
      rw [if_neg h2, if_neg (by omega)]
/-- Passages() -/
theorem n_X4 (l : Launch) : n_CE l yX4_init cX4_init 2 ({ frames := 1, cells := 3, slots := 21, locals := 15 } : Room) 4 [.null, .null, .null, .int 0] (fun ca h f => [(h, .inr (4, [.ref (f 0), .ref (f 1), .ref (f 2), .int 4])), (f 0, .inl (ca 0, 7, .inl g_d0)), (f 1, .inl (ca 0, 7, .inl g_m0)), (f 2, .inl (ca 0, 7, .inl (n_r0 7)))]) := by
  refine n_ofE (by decide) (by decide) rfl (fun X a hl hn O E => ?_)
  refine n_aload O 0 dX4_init_0 rfl rfl ?_
  refine n_oi O w_oiX4 dX4_init_1 (by decide) (by decide) ?_
  refine n_aload O 0 dX4_init_4 rfl rfl ?_
  refine n_gets9 O E dX4_init_5 ?_
  refine n_clone O E E.1.2.1.1 E.1.2.2.1.1 E.2.2.1.1 dX4_init_8 (by decide) (by decide) (by decide) (Nat.le_of_ble_eq_true rfl) (fun q0 => ?_)
  refine n_castA O 1 rfl dX4_init_11 ?_
  refine n_putF O 0 (FPFX4_18 q0) rfl (Nat.le_of_ble_eq_true rfl) dX4_init_14 ?_
  refine n_aload O 0 dX4_init_17 rfl rfl ?_
  refine n_gets23 O E dX4_init_18 ?_
  refine n_clone O E E.1.2.1.2 E.1.2.2.1.2 E.2.2.1.2 dX4_init_21 (by decide) (by decide) (by decide) (Nat.le_of_ble_eq_true rfl) (fun q1 => ?_)
  refine n_castA O 2 rfl dX4_init_24 ?_
  refine n_putF O 0 (FPFX4_26 q1) rfl (Nat.le_of_ble_eq_true rfl) dX4_init_27 ?_
  refine n_aload O 0 dX4_init_30 rfl rfl ?_
  refine n_bipush (x := 7) O dX4_init_31 rfl ?_
  refine n_newa O (N := 7) (by decide) rfl (by decide) (by decide) (by decide) dX4_init_33 (fun q2 => ?_)
  refine n_putF O 0 (FPFX4_29 q2) rfl (Nat.le_of_ble_eq_true rfl) dX4_init_35 ?_
  refine n_aload O 0 dX4_init_38 rfl rfl ?_
  refine n_iconst (x := 4) O dX4_init_39 rfl ?_
  refine n_put O 0 (FPX4_32 4) rfl (Nat.le_of_ble_eq_true rfl) dX4_init_40 ?_
  refine n_iconst (x := 0) O dX4_init_43 rfl ?_
  refine n_istore (lc' := [(1, .int 0), (0, .ref a)]) O dX4_init_44 rfl (by rw [hn]; decide) rfl ?_
  have L : ∀ d i, i + d = 7 → n_V X (n_A a 4 [.null, .null, .null, .int 0] (g_xs X).heap.size) (n_Q X (n_A a 4 [.null, .null, .null, .int 0] (g_xs X).heap.size) ((fun ca h f => [(h, .inr (4, [.ref (f 0), .ref (f 1), .ref (f 2), .int 4])), (f 0, .inl (ca 0, 7, .inl g_d0)), (f 1, .inl (ca 0, 7, .inl g_m0)), (f 2, .inl (ca 0, 7, .inl (n_r0 7)))]) (g_ca X) a)) 3 21 [(a, .inr (4, [.ref q0, .ref q1, .ref q2, .int 4])), (q0, .inl (g_ca X 0, 7, .inl g_d0)), (q1, .inl (g_ca X 0, 7, .inl g_m0)), (q2, .inl (g_ca X 0, 7, .inl (n_r0 i)))] 45 [(1, .int (nI i)), (0, .ref a)] [] := by
    intro d
    induction d with
    | zero =>
      intro i hi
      have hi : i = 7 := by omega
      subst hi
      refine n_iload O 0 dX4_init_45 rfl rfl ?_
      refine n_bipush (x := 7) O dX4_init_46 rfl ?_
      refine n_icmp_ge O 64 dX4_init_48 (by decide) (fun _ => ?_) (fun c => absurd (by decide) c)
      exact n_ret O (fun i => if i = 0 then q0 else if i = 1 then q1 else q2) rfl dX4_init_64 (by decide) (by decide)
    | succ d ih =>
      intro i hi
      have hc : (nI i).toInt = (i : Int) := nI_toInt (by omega)
      refine n_iload O 0 dX4_init_45 rfl rfl ?_
      refine n_bipush (x := 7) O dX4_init_46 rfl ?_
      refine n_icmp_ge O 64 dX4_init_48 (by decide) (fun c => ?_) (fun _ => ?_)
      · have e : (7 : Int) ≤ (nI i).toInt := j_leL c rfl
        omega
      refine n_aload O 1 dX4_init_51 rfl rfl ?_
      refine n_get (x := .ref q2) O 0 FX4_29 rfl rfl dX4_init_52 ?_
      refine n_iload O 0 dX4_init_55 rfl rfl ?_
      refine n_iconst (x := -1) O dX4_init_56 rfl ?_
      refine n_iast O 3 rfl (show vp_in (nI i) 7 from g_vin (by omega) (by omega)) dX4_init_57 ?_
      rw [n_r0_s (by omega)]
      refine n_iinc (y := nI (i + 1)) (lc' := [(1, .int (nI (i + 1))), (0, .ref a)]) O 0 dX4_init_58 rfl (nI_1 i) (by rw [hn]; decide) rfl ?_
      refine n_goto O 45 dX4_init_61 (by decide) ?_
      exact ih (i + 1) (by omega)
  have e0 : n_r0 0 = (fun _ => 0 : Nat → Int32) := by
    funext t
    unfold n_r0
    rw [if_neg (by omega)]
  have L0 := L 7 0 rfl
  rw [e0] at L0
  exact L0
