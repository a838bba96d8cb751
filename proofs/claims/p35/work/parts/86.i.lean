/-! ===== Cave(): 24 cells ===== -/
theorem w_oiX0 : Cond.methodLink RX0 3 Lib.objectInit ∈ gW := gW_in (i := 40) (by decide +kernel) rfl
theorem FPFX0_12 (q : Nat) : g_FPF RX0 12 0 0 (.ref q) := ⟨RX0, TX0, 12, tyX0, rfl, by decide, uX0, w_fl_X0_12, tyX0_ok, nmX0, rfl, rfl, rfl, rfl⟩
theorem FPFX0_21 (q : Nat) : g_FPF RX0 21 0 1 (.ref q) := ⟨RX0, TX0, 12, tyX0, rfl, by decide, uX0, w_fl_X0_21, tyX0_ok, nmX0, rfl, rfl, rfl, rfl⟩
theorem FPFX0_27 (q : Nat) : g_FPF RX0 27 0 2 (.ref q) := ⟨RX0, TX0, 12, tyX0, rfl, by decide, uX0, w_fl_X0_27, tyX0_ok, nmX0, rfl, rfl, rfl, rfl⟩
theorem FPFX0_38 (q : Nat) : g_FPF RX0 38 0 4 (.ref q) := ⟨RX0, TX0, 12, tyX0, rfl, by decide, uX0, w_fl_X0_38, tyX0_ok, nmX0, rfl, rfl, rfl, rfl⟩
theorem FPFX0_45 (q : Nat) : g_FPF RX0 45 0 5 (.ref q) := ⟨RX0, TX0, 12, tyX0, rfl, by decide, uX0, w_fl_X0_45, tyX0_ok, nmX0, rfl, rfl, rfl, rfl⟩
theorem n_wi_X5 : Cond.instanceMethod yX5_init ∈ gW := gW_in (i := 77) (by decide +kernel) rfl
theorem n_wc_X5 : Cond.code yX5_init cX5_init 1 none ∈ gW := gW_in (i := 78) (by decide +kernel) rfl
theorem n_wd_X5 : yX5_init.cls ≠ "java/lang/invoke/MethodHandle" ∧ yX5_init.cls ≠ "java/lang/invoke/VarHandle" ∧ (parseMethodDescriptor yX5_init.desc).map (fun d => d.parameters.length) = some 0 := by decide +kernel
theorem n_wi_X3 : Cond.instanceMethod yX3_init ∈ gW := gW_in (i := 100) (by decide +kernel) rfl
theorem n_wc_X3 : Cond.code yX3_init cX3_init 1 none ∈ gW := gW_in (i := 101) (by decide +kernel) rfl
theorem n_wd_X3 : yX3_init.cls ≠ "java/lang/invoke/MethodHandle" ∧ yX3_init.cls ≠ "java/lang/invoke/VarHandle" ∧ (parseMethodDescriptor yX3_init.desc).map (fun d => d.parameters.length) = some 0 := by decide +kernel
theorem n_wi_X2 : Cond.instanceMethod yX2_init ∈ gW := gW_in (i := 125) (by decide +kernel) rfl
theorem n_wc_X2 : Cond.code yX2_init cX2_init 1 none ∈ gW := gW_in (i := 126) (by decide +kernel) rfl
theorem n_wd_X2 : yX2_init.cls ≠ "java/lang/invoke/MethodHandle" ∧ yX2_init.cls ≠ "java/lang/invoke/VarHandle" ∧ (parseMethodDescriptor yX2_init.desc).map (fun d => d.parameters.length) = some 0 := by decide +kernel
theorem n_wi_X1 : Cond.instanceMethod yX1_init ∈ gW := gW_in (i := 149) (by decide +kernel) rfl
theorem n_wc_X1 : Cond.code yX1_init cX1_init 1 none ∈ gW := gW_in (i := 150) (by decide +kernel) rfl
theorem n_wd_X1 : yX1_init.cls ≠ "java/lang/invoke/MethodHandle" ∧ yX1_init.cls ≠ "java/lang/invoke/VarHandle" ∧ (parseMethodDescriptor yX1_init.desc).map (fun d => d.parameters.length) = some 0 := by decide +kernel
theorem n_wi_X6 : Cond.instanceMethod yX6_init ∈ gW := gW_in (i := 239) (by decide +kernel) rfl
theorem n_wc_X6 : Cond.code yX6_init cX6_init 1 none ∈ gW := gW_in (i := 240) (by decide +kernel) rfl
theorem n_wd_X6 : yX6_init.cls ≠ "java/lang/invoke/MethodHandle" ∧ yX6_init.cls ≠ "java/lang/invoke/VarHandle" ∧ (parseMethodDescriptor yX6_init.desc).map (fun d => d.parameters.length) = some 0 := by decide +kernel
theorem n_cl_04 : Cond.classLink RX0 9 RX4 ∈ gW := gW_in (i := 41) (by decide +kernel) rfl
theorem n_in_4 : Cond.instantiable RX4 4 ∈ gW := gW_in (i := 42) (by decide +kernel) rfl
theorem n_cl_05 : Cond.classLink RX0 18 RX5 ∈ gW := gW_in (i := 74) (by decide +kernel) rfl
theorem n_in_5 : Cond.instantiable RX5 4 ∈ gW := gW_in (i := 75) (by decide +kernel) rfl
theorem n_cl_01 : Cond.classLink RX0 25 RX1 ∈ gW := gW_in (i := 95) (by decide +kernel) rfl
theorem n_in_1 : Cond.instantiable RX1 9 ∈ gW := gW_in (i := 147) (by decide +kernel) rfl
theorem n_cl_03 : Cond.classLink RX0 35 RX3 ∈ gW := gW_in (i := 97) (by decide +kernel) rfl
theorem n_in_3 : Cond.instantiable RX3 5 ∈ gW := gW_in (i := 98) (by decide +kernel) rfl
theorem n_cl_02 : Cond.classLink RX0 42 RX2 ∈ gW := gW_in (i := 122) (by decide +kernel) rfl
theorem n_in_2 : Cond.instantiable RX2 5 ∈ gW := gW_in (i := 123) (by decide +kernel) rfl
theorem n_cl_70 : Cond.classLink RX7 7 RX0 ∈ gW := gW_in (i := 35) (by decide +kernel) rfl
theorem n_in_0 : Cond.instantiable RX0 12 ∈ gW := gW_in (i := 36) (by decide +kernel) rfl
theorem n_cl_76 : Cond.classLink RX7 24 RX6 ∈ gW := gW_in (i := 236) (by decide +kernel) rfl
theorem n_in_6 : Cond.instantiable RX6 2 ∈ gW := gW_in (i := 237) (by decide +kernel) rfl
abbrev n_fX4 : List Value := [.null, .null, .null, .int 0]
theorem n_df_X4 : ∀ j, j < 4 → defaultValue (tyX4 j) = vp_V n_fX4 j := fun j hj => by
  have h : j = 0 ∨ j = 1 ∨ j = 2 ∨ j = 3 := by omega
  rcases h with rfl | rfl | rfl | rfl <;> rfl
abbrev n_fX5 : List Value := [.null, .null, .null, .int 0]
theorem n_df_X5 : ∀ j, j < 4 → defaultValue (tyX5 j) = vp_V n_fX5 j := fun j hj => by
  have h : j = 0 ∨ j = 1 ∨ j = 2 ∨ j = 3 := by omega
  rcases h with rfl | rfl | rfl | rfl <;> rfl
abbrev n_fX3 : List Value := [.null, .null, .null, .int 0, .int 0]
theorem n_df_X3 : ∀ j, j < 5 → defaultValue (tyX3 j) = vp_V n_fX3 j := fun j hj => by
  have h : j = 0 ∨ j = 1 ∨ j = 2 ∨ j = 3 ∨ j = 4 := by omega
  rcases h with rfl | rfl | rfl | rfl | rfl <;> rfl
abbrev n_fX2 : List Value := [.null, .null, .null, .int 0, .int 0]
theorem n_df_X2 : ∀ j, j < 5 → defaultValue (tyX2 j) = vp_V n_fX2 j := fun j hj => by
  have h : j = 0 ∨ j = 1 ∨ j = 2 ∨ j = 3 ∨ j = 4 := by omega
  rcases h with rfl | rfl | rfl | rfl | rfl <;> rfl
abbrev n_fX1 : List Value := [.int 0, .int 0, .int 0, .int 0, .int 0, .int 0, .int 0, .int 0, .int 0]
theorem n_df_X1 : ∀ j, j < 9 → defaultValue (tyX1 j) = vp_V n_fX1 j := fun j hj => by
  have h : j = 0 ∨ j = 1 ∨ j = 2 ∨ j = 3 ∨ j = 4 ∨ j = 5 ∨ j = 6 ∨ j = 7 ∨ j = 8 := by omega
  rcases h with rfl | rfl | rfl | rfl | rfl | rfl | rfl | rfl | rfl <;> rfl
abbrev n_fX6 : List Value := [.null, .int 0]
theorem n_df_X6 : ∀ j, j < 2 → defaultValue (tyX6 j) = vp_V n_fX6 j := fun j hj => by
  have h : j = 0 ∨ j = 1 := by omega
  rcases h with rfl | rfl <;> rfl
abbrev n_fX0 : List Value := [.null, .null, .null, .int 0, .null, .null, .int 0, .int 0, .int 0, .int 0, .int 0, .int 0]
theorem n_df_X0 : ∀ j, j < 12 → defaultValue (tyX0 j) = vp_V n_fX0 j := fun j hj => by
  have h : j = 0 ∨ j = 1 ∨ j = 2 ∨ j = 3 ∨ j = 4 ∨ j = 5 ∨ j = 6 ∨ j = 7 ∨ j = 8 ∨ j = 9 ∨ j = 10 ∨ j = 11 := by omega
  rcases h with rfl | rfl | rfl | rfl | rfl | rfl | rfl | rfl | rfl | rfl | rfl | rfl <;> rfl
/-- the addresses of a cave, its own first -/
def n_ad0 (h : Nat) (f : Nat → Nat) (j : Nat) : Nat := match j with
  | 0 => h
  | j + 1 => f (j + 1)
def n_cave (ca : Nat → ClassId) (a : Nat → Nat) : va_W := (List.range 24).map (fun j => (a j, g_ce a ca g_m1 0 j))
def n_p0 (j : Nat) : Nat := if j < 10 then j else if j < 16 then j + 8 else j - 6
theorem n_p0_inj : ∀ i, i < 24 → ∀ j, j < 24 → n_p0 i = n_p0 j → i = j := by decide +kernel
theorem n_rg {β : Type} {N : Nat} {g : Nat → β} {i : Nat} {q : β} (h : ((List.range N).map g)[i]? = some q) : i < N ∧ q = g i := by
  have hi : i < N := by
    have := (List.getElem?_eq_some_iff.mp h).1
    simpa using this
  rw [List.getElem?_map, List.getElem?_range hi] at h
  exact ⟨hi, (Option.some.inj h).symm⟩
theorem m1_0 : g_m1 0 = 4 := by decide +kernel
theorem m1_1 : g_m1 1 = 0 := by decide +kernel
theorem m1_2 : g_m1 2 = 0 := by decide +kernel
theorem m1_3 : g_m1 3 = 0 := by decide +kernel
theorem m1_4 : g_m1 4 = 4 := by decide +kernel
theorem m1_5 : g_m1 5 = 0 := by decide +kernel
theorem m1_6 : g_m1 6 = 0 := by decide +kernel
theorem m1_7 : g_m1 7 = 0 := by decide +kernel
theorem m1_8 : g_m1 8 = 0 := by decide +kernel
theorem m1_9 : g_m1 9 = 0 := by decide +kernel
theorem m1_10 : g_m1 10 = 0 := by decide +kernel
theorem m1_11 : g_m1 11 = 0 := by decide +kernel
theorem m1_12 : g_m1 12 = 0 := by decide +kernel
theorem m1_58 : g_m1 58 = 0 := by decide +kernel
theorem m1_59 : g_m1 59 = 0 := by decide +kernel
theorem m1_60 : g_m1 60 = 0 := by decide +kernel
theorem m1_61 : g_m1 61 = -1 := by decide +kernel
theorem m1_62 : g_m1 62 = 0 := by decide +kernel
theorem m1_63 : g_m1 63 = -1 := by decide +kernel
theorem m1_64 : g_m1 64 = 0 := by decide +kernel
theorem m1_65 : g_m1 65 = 0 := by decide +kernel
theorem m1_66 : g_m1 66 = 0 := by decide +kernel
theorem m1_67 : g_m1 67 = 0 := by decide +kernel
theorem m1_68 : g_m1 68 = 0 := by decide +kernel
theorem m1_69 : g_m1 69 = 0 := by decide +kernel
theorem m1_70 : g_m1 70 = -1 := by decide +kernel
theorem m1_71 : g_m1 71 = 0 := by decide +kernel
theorem m1_72 : g_m1 72 = -1 := by decide +kernel
theorem m1_73 : g_m1 73 = 0 := by decide +kernel
theorem m1_74 : g_m1 74 = 0 := by decide +kernel
theorem m1_75 : g_m1 75 = 0 := by decide +kernel
theorem m1_76 : g_m1 76 = 0 := by decide +kernel
theorem m1_77 : g_m1 77 = 0 := by decide +kernel
theorem m1_78 : g_m1 78 = 0 := by decide +kernel
theorem m1_79 : g_m1 79 = -1 := by decide +kernel
theorem m1_80 : g_m1 80 = 0 := by decide +kernel
theorem m1_81 : g_m1 81 = -1 := by decide +kernel
theorem m1_82 : g_m1 82 = 0 := by decide +kernel
theorem m1_83 : g_m1 83 = 0 := by decide +kernel
theorem m1_84 : g_m1 84 = 0 := by decide +kernel
theorem m1_85 : g_m1 85 = 0 := by decide +kernel
theorem m1_86 : g_m1 86 = 0 := by decide +kernel
theorem m1_87 : g_m1 87 = 0 := by decide +kernel
theorem m1_88 : g_m1 88 = -1 := by decide +kernel
theorem m1_89 : g_m1 89 = 0 := by decide +kernel
theorem m1_90 : g_m1 90 = -1 := by decide +kernel
theorem m1_91 : g_m1 91 = 0 := by decide +kernel
theorem m1_92 : g_m1 92 = 0 := by decide +kernel
theorem m1_93 : g_m1 93 = 0 := by decide +kernel
theorem m1_94 : g_m1 94 = 0 := by decide +kernel
theorem m1_95 : g_m1 95 = 0 := by decide +kernel
theorem m1_96 : g_m1 96 = 0 := by decide +kernel
theorem m1_97 : g_m1 97 = -1 := by decide +kernel
theorem m1_98 : g_m1 98 = 0 := by decide +kernel
theorem m1_99 : g_m1 99 = -1 := by decide +kernel
theorem m1_100 : g_m1 100 = 0 := by decide +kernel
theorem m1_101 : g_m1 101 = 0 := by decide +kernel
theorem m1_102 : g_m1 102 = 0 := by decide +kernel
theorem m1_103 : g_m1 103 = 0 := by decide +kernel
theorem m1_104 : g_m1 104 = 0 := by decide +kernel
theorem m1_105 : g_m1 105 = 0 := by decide +kernel
theorem m1_106 : g_m1 106 = -1 := by decide +kernel
theorem m1_107 : g_m1 107 = 0 := by decide +kernel
theorem m1_108 : g_m1 108 = -1 := by decide +kernel
theorem m1_109 : g_m1 109 = 0 := by decide +kernel
theorem m1_110 : g_m1 110 = 0 := by decide +kernel
theorem m1_111 : g_m1 111 = 0 := by decide +kernel
theorem gce_0 {a : Nat → Nat} {ca : Nat → ClassId} : g_ce a ca g_m1 0 0 = .inr (0, [.ref (a 1), .ref (a 5), .ref (a 9), .int (0), .ref (a 16), .ref (a 20), .int (0), .int (4), .int (0), .int (0), .int (0), .int (0)]) := by
  show (Sum.inr (0, [.ref (a 1), .ref (a 5), .ref (a 9), .int (g_m1 2), .ref (a 16), .ref (a 20), .int (g_m1 3), .int (g_m1 4), .int (g_m1 5), .int (g_m1 9), .int (g_m1 10), .int (g_m1 11)]) : va_E) = _
  rw [m1_2, m1_3, m1_4, m1_5, m1_9, m1_10, m1_11]
theorem gce_1 {a : Nat → Nat} {ca : Nat → ClassId} : g_ce a ca g_m1 0 1 = .inr (4, [.ref (a 2), .ref (a 3), .ref (a 4), .int (4)]) := by
  show (Sum.inr (4, [.ref (a 2), .ref (a 3), .ref (a 4), .int (g_m1 0)]) : va_E) = _
  rw [m1_0]
theorem gce_5 {a : Nat → Nat} {ca : Nat → ClassId} : g_ce a ca g_m1 0 5 = .inr (5, [.ref (a 6), .ref (a 7), .ref (a 8), .int (0)]) := by
  show (Sum.inr (5, [.ref (a 6), .ref (a 7), .ref (a 8), .int (g_m1 1)]) : va_E) = _
  rw [m1_1]
theorem gce_10 {a : Nat → Nat} {ca : Nat → ClassId} : g_ce a ca g_m1 0 10 = .inr (1, [.int (0), .int (0), .int (0), .int (-1), .int (0), .int (-1), .int (0), .int (0), .int (0)]) := by
  show (Sum.inr (1, [.int (g_m1 58), .int (g_m1 59), .int (g_m1 60), .int (g_m1 61), .int (g_m1 62), .int (g_m1 63), .int (g_m1 64), .int (g_m1 65), .int (g_m1 66)]) : va_E) = _
  rw [m1_58, m1_59, m1_60, m1_61, m1_62, m1_63, m1_64, m1_65, m1_66]
theorem gce_11 {a : Nat → Nat} {ca : Nat → ClassId} : g_ce a ca g_m1 0 11 = .inr (1, [.int (0), .int (0), .int (0), .int (-1), .int (0), .int (-1), .int (0), .int (0), .int (0)]) := by
  show (Sum.inr (1, [.int (g_m1 67), .int (g_m1 68), .int (g_m1 69), .int (g_m1 70), .int (g_m1 71), .int (g_m1 72), .int (g_m1 73), .int (g_m1 74), .int (g_m1 75)]) : va_E) = _
  rw [m1_67, m1_68, m1_69, m1_70, m1_71, m1_72, m1_73, m1_74, m1_75]
theorem gce_12 {a : Nat → Nat} {ca : Nat → ClassId} : g_ce a ca g_m1 0 12 = .inr (1, [.int (0), .int (0), .int (0), .int (-1), .int (0), .int (-1), .int (0), .int (0), .int (0)]) := by
  show (Sum.inr (1, [.int (g_m1 76), .int (g_m1 77), .int (g_m1 78), .int (g_m1 79), .int (g_m1 80), .int (g_m1 81), .int (g_m1 82), .int (g_m1 83), .int (g_m1 84)]) : va_E) = _
  rw [m1_76, m1_77, m1_78, m1_79, m1_80, m1_81, m1_82, m1_83, m1_84]
theorem gce_13 {a : Nat → Nat} {ca : Nat → ClassId} : g_ce a ca g_m1 0 13 = .inr (1, [.int (0), .int (0), .int (0), .int (-1), .int (0), .int (-1), .int (0), .int (0), .int (0)]) := by
  show (Sum.inr (1, [.int (g_m1 85), .int (g_m1 86), .int (g_m1 87), .int (g_m1 88), .int (g_m1 89), .int (g_m1 90), .int (g_m1 91), .int (g_m1 92), .int (g_m1 93)]) : va_E) = _
  rw [m1_85, m1_86, m1_87, m1_88, m1_89, m1_90, m1_91, m1_92, m1_93]
theorem gce_14 {a : Nat → Nat} {ca : Nat → ClassId} : g_ce a ca g_m1 0 14 = .inr (1, [.int (0), .int (0), .int (0), .int (-1), .int (0), .int (-1), .int (0), .int (0), .int (0)]) := by
  show (Sum.inr (1, [.int (g_m1 94), .int (g_m1 95), .int (g_m1 96), .int (g_m1 97), .int (g_m1 98), .int (g_m1 99), .int (g_m1 100), .int (g_m1 101), .int (g_m1 102)]) : va_E) = _
  rw [m1_94, m1_95, m1_96, m1_97, m1_98, m1_99, m1_100, m1_101, m1_102]
theorem gce_15 {a : Nat → Nat} {ca : Nat → ClassId} : g_ce a ca g_m1 0 15 = .inr (1, [.int (0), .int (0), .int (0), .int (-1), .int (0), .int (-1), .int (0), .int (0), .int (0)]) := by
  show (Sum.inr (1, [.int (g_m1 103), .int (g_m1 104), .int (g_m1 105), .int (g_m1 106), .int (g_m1 107), .int (g_m1 108), .int (g_m1 109), .int (g_m1 110), .int (g_m1 111)]) : va_E) = _
  rw [m1_103, m1_104, m1_105, m1_106, m1_107, m1_108, m1_109, m1_110, m1_111]
theorem gce_16 {a : Nat → Nat} {ca : Nat → ClassId} : g_ce a ca g_m1 0 16 = .inr (3, [.ref (a 17), .ref (a 18), .ref (a 19), .int (0), .int (0)]) := by
  show (Sum.inr (3, [.ref (a 17), .ref (a 18), .ref (a 19), .int (g_m1 6), .int (g_m1 7)]) : va_E) = _
  rw [m1_6, m1_7]
theorem gce_20 {a : Nat → Nat} {ca : Nat → ClassId} : g_ce a ca g_m1 0 20 = .inr (2, [.ref (a 21), .ref (a 22), .ref (a 23), .int (0), .int (0)]) := by
  show (Sum.inr (2, [.ref (a 21), .ref (a 22), .ref (a 23), .int (g_m1 12), .int (g_m1 8)]) : va_E) = _
  rw [m1_12, m1_8]
set_option maxRecDepth 100000 in
set_option maxHeartbeats 4000000 in
/-- Cave() -/
theorem n_X0 (l : Launch) : n_CE l yX0_init cX0_init 2 ({ frames := 2, cells := 23, slots := 189, locals := 36 } : Room) 0 n_fX0 (fun ca h f => n_cave ca (n_ad0 h f)) := by
  refine n_ofE (by decide) (by decide) rfl (fun X a hl hn O E => ?_)
  refine n_aload O 0 dX0_init_0 rfl rfl ?_
  refine n_oi O w_oiX0 dX0_init_1 (by decide) (by decide) ?_
  refine n_aload O 0 dX0_init_4 rfl rfl ?_
  refine n_new O (ci := 4) (fs := n_fX4) tyX4 rfl uX4 tyX4_ok n_cl_04 n_in_4 w_ini_X4 n_df_X4 (by decide) (by decide) dX0_init_5 (fun h4 => ?_)
  refine n_dup O dX0_init_8 rfl ?_
  refine n_callE O E (n_X4 (g_xl X)) LBX0_11 w_i_X4_init rfl rfl dX0_init_9 rfl (fun f4 => ?_)
  refine n_same (ws' := [(a, .inr (0, [.null, .null, .null, .int 0, .null, .null, .int 0, .int 0, .int 0, .int 0, .int 0, .int 0])), (h4, .inr (4, [.ref (f4 0), .ref (f4 1), .ref (f4 2), .int 4])), (f4 0, .inl (g_ca X 0, 7, .inl g_d0)), (f4 1, .inl (g_ca X 0, 7, .inl g_m0)), (f4 2, .inl (g_ca X 0, 7, .inl (n_r0 7)))]) rfl ?_
  refine n_putF O 0 (FPFX0_12 h4) rfl (Nat.le_of_ble_eq_true rfl) dX0_init_12 ?_
  refine n_same (ws' := [(a, .inr (0, [.ref h4, .null, .null, .int 0, .null, .null, .int 0, .int 0, .int 0, .int 0, .int 0, .int 0])), (h4, .inr (4, [.ref (f4 0), .ref (f4 1), .ref (f4 2), .int 4])), (f4 0, .inl (g_ca X 0, 7, .inl g_d0)), (f4 1, .inl (g_ca X 0, 7, .inl g_m0)), (f4 2, .inl (g_ca X 0, 7, .inl (n_r0 7)))]) rfl ?_
  refine n_aload O 0 dX0_init_15 rfl rfl ?_
  refine n_new O (ci := 5) (fs := n_fX5) tyX5 rfl uX5 tyX5_ok n_cl_05 n_in_5 w_ini_X5 n_df_X5 (by decide) (by decide) dX0_init_16 (fun h5 => ?_)
  refine n_dup O dX0_init_19 rfl ?_
  refine n_callN O (host := "CaveRelay") (n_X5 (g_xl X)) E.2.1.2.2.2.2.1 w_ini_X5 n_wc_X5 n_wd_X5 n_wi_X5 rfl rfl dX0_init_20 rfl (fun f5 => ?_)
  refine n_same (ws' := [(a, .inr (0, [.ref h4, .null, .null, .int 0, .null, .null, .int 0, .int 0, .int 0, .int 0, .int 0, .int 0])), (h4, .inr (4, [.ref (f4 0), .ref (f4 1), .ref (f4 2), .int 4])), (f4 0, .inl (g_ca X 0, 7, .inl g_d0)), (f4 1, .inl (g_ca X 0, 7, .inl g_m0)), (f4 2, .inl (g_ca X 0, 7, .inl (n_r0 7))), (h5, .inr (5, [.ref (f5 0), .ref (f5 1), .ref (f5 2), .int 0])), (f5 0, .inl (g_ca X 0, 8, .inl (fun _ => 0))), (f5 1, .inl (g_ca X 0, 8, .inl (fun _ => 0))), (f5 2, .inl (g_ca X 0, 8, .inl (fun _ => 0)))]) rfl ?_
  refine n_putF O 0 (FPFX0_21 h5) rfl (Nat.le_of_ble_eq_true rfl) dX0_init_23 ?_
  refine n_same (ws' := [(a, .inr (0, [.ref h4, .ref h5, .null, .int 0, .null, .null, .int 0, .int 0, .int 0, .int 0, .int 0, .int 0])), (h4, .inr (4, [.ref (f4 0), .ref (f4 1), .ref (f4 2), .int 4])), (f4 0, .inl (g_ca X 0, 7, .inl g_d0)), (f4 1, .inl (g_ca X 0, 7, .inl g_m0)), (f4 2, .inl (g_ca X 0, 7, .inl (n_r0 7))), (h5, .inr (5, [.ref (f5 0), .ref (f5 1), .ref (f5 2), .int 0])), (f5 0, .inl (g_ca X 0, 8, .inl (fun _ => 0))), (f5 1, .inl (g_ca X 0, 8, .inl (fun _ => 0))), (f5 2, .inl (g_ca X 0, 8, .inl (fun _ => 0)))]) rfl ?_
  refine n_aload O 0 dX0_init_26 rfl rfl ?_
  refine n_bipush (x := 6) O dX0_init_27 rfl ?_
  refine n_anew O (t0 := 2) n_cl_01 E.2.2.2.2 rfl (by decide) rfl (by decide) (by decide) (by decide) dX0_init_29 (fun q9 => ?_)
  refine n_same (ws' := [(a, .inr (0, [.ref h4, .ref h5, .null, .int 0, .null, .null, .int 0, .int 0, .int 0, .int 0, .int 0, .int 0])), (h4, .inr (4, [.ref (f4 0), .ref (f4 1), .ref (f4 2), .int 4])), (f4 0, .inl (g_ca X 0, 7, .inl g_d0)), (f4 1, .inl (g_ca X 0, 7, .inl g_m0)), (f4 2, .inl (g_ca X 0, 7, .inl (n_r0 7))), (h5, .inr (5, [.ref (f5 0), .ref (f5 1), .ref (f5 2), .int 0])), (f5 0, .inl (g_ca X 0, 8, .inl (fun _ => 0))), (f5 1, .inl (g_ca X 0, 8, .inl (fun _ => 0))), (f5 2, .inl (g_ca X 0, 8, .inl (fun _ => 0))), (q9, .inl (g_ca X 2, 6, .inr (.inr (.inr (.inr (fun _ => none))))))]) rfl ?_
  refine n_putF O 0 (FPFX0_27 q9) rfl (Nat.le_of_ble_eq_true rfl) dX0_init_32 ?_
  refine n_same (ws' := [(a, .inr (0, [.ref h4, .ref h5, .ref q9, .int 0, .null, .null, .int 0, .int 0, .int 0, .int 0, .int 0, .int 0])), (h4, .inr (4, [.ref (f4 0), .ref (f4 1), .ref (f4 2), .int 4])), (f4 0, .inl (g_ca X 0, 7, .inl g_d0)), (f4 1, .inl (g_ca X 0, 7, .inl g_m0)), (f4 2, .inl (g_ca X 0, 7, .inl (n_r0 7))), (h5, .inr (5, [.ref (f5 0), .ref (f5 1), .ref (f5 2), .int 0])), (f5 0, .inl (g_ca X 0, 8, .inl (fun _ => 0))), (f5 1, .inl (g_ca X 0, 8, .inl (fun _ => 0))), (f5 2, .inl (g_ca X 0, 8, .inl (fun _ => 0))), (q9, .inl (g_ca X 2, 6, .inr (.inr (.inr (.inr (fun _ => none))))))]) rfl ?_
  refine n_aload O 0 dX0_init_35 rfl rfl ?_
  refine n_iconst (x := 0) O dX0_init_36 rfl ?_
  refine n_put O 0 (FPX0_31 0) rfl (Nat.le_of_ble_eq_true rfl) dX0_init_37 ?_
  refine n_same (ws' := [(a, .inr (0, [.ref h4, .ref h5, .ref q9, .int 0, .null, .null, .int 0, .int 0, .int 0, .int 0, .int 0, .int 0])), (h4, .inr (4, [.ref (f4 0), .ref (f4 1), .ref (f4 2), .int 4])), (f4 0, .inl (g_ca X 0, 7, .inl g_d0)), (f4 1, .inl (g_ca X 0, 7, .inl g_m0)), (f4 2, .inl (g_ca X 0, 7, .inl (n_r0 7))), (h5, .inr (5, [.ref (f5 0), .ref (f5 1), .ref (f5 2), .int 0])), (f5 0, .inl (g_ca X 0, 8, .inl (fun _ => 0))), (f5 1, .inl (g_ca X 0, 8, .inl (fun _ => 0))), (f5 2, .inl (g_ca X 0, 8, .inl (fun _ => 0))), (q9, .inl (g_ca X 2, 6, .inr (.inr (.inr (.inr (fun _ => none))))))]) rfl ?_
  refine n_aload O 0 dX0_init_40 rfl rfl ?_
  refine n_new O (ci := 3) (fs := n_fX3) tyX3 rfl uX3 tyX3_ok n_cl_03 n_in_3 w_ini_X3 n_df_X3 (by decide) (by decide) dX0_init_41 (fun h3 => ?_)
  refine n_dup O dX0_init_44 rfl ?_
  refine n_callN O (host := "CaveRelay") (n_X3 (g_xl X)) E.2.1.2.2.2.2.2.1 w_ini_X3 n_wc_X3 n_wd_X3 n_wi_X3 rfl rfl dX0_init_45 rfl (fun f3 => ?_)
  refine n_same (ws' := [(a, .inr (0, [.ref h4, .ref h5, .ref q9, .int 0, .null, .null, .int 0, .int 0, .int 0, .int 0, .int 0, .int 0])), (h4, .inr (4, [.ref (f4 0), .ref (f4 1), .ref (f4 2), .int 4])), (f4 0, .inl (g_ca X 0, 7, .inl g_d0)), (f4 1, .inl (g_ca X 0, 7, .inl g_m0)), (f4 2, .inl (g_ca X 0, 7, .inl (n_r0 7))), (h5, .inr (5, [.ref (f5 0), .ref (f5 1), .ref (f5 2), .int 0])), (f5 0, .inl (g_ca X 0, 8, .inl (fun _ => 0))), (f5 1, .inl (g_ca X 0, 8, .inl (fun _ => 0))), (f5 2, .inl (g_ca X 0, 8, .inl (fun _ => 0))), (q9, .inl (g_ca X 2, 6, .inr (.inr (.inr (.inr (fun _ => none)))))), (h3, .inr (3, [.ref (f3 0), .ref (f3 1), .ref (f3 2), .int 0, .int 0])), (f3 0, .inl (g_ca X 0, 10, .inl (fun _ => 0))), (f3 1, .inl (g_ca X 0, 10, .inl (fun _ => 0))), (f3 2, .inl (g_ca X 0, 10, .inl (fun _ => 0)))]) rfl ?_
  refine n_putF O 0 (FPFX0_38 h3) rfl (Nat.le_of_ble_eq_true rfl) dX0_init_48 ?_
  refine n_same (ws' := [(a, .inr (0, [.ref h4, .ref h5, .ref q9, .int 0, .ref h3, .null, .int 0, .int 0, .int 0, .int 0, .int 0, .int 0])), (h4, .inr (4, [.ref (f4 0), .ref (f4 1), .ref (f4 2), .int 4])), (f4 0, .inl (g_ca X 0, 7, .inl g_d0)), (f4 1, .inl (g_ca X 0, 7, .inl g_m0)), (f4 2, .inl (g_ca X 0, 7, .inl (n_r0 7))), (h5, .inr (5, [.ref (f5 0), .ref (f5 1), .ref (f5 2), .int 0])), (f5 0, .inl (g_ca X 0, 8, .inl (fun _ => 0))), (f5 1, .inl (g_ca X 0, 8, .inl (fun _ => 0))), (f5 2, .inl (g_ca X 0, 8, .inl (fun _ => 0))), (q9, .inl (g_ca X 2, 6, .inr (.inr (.inr (.inr (fun _ => none)))))), (h3, .inr (3, [.ref (f3 0), .ref (f3 1), .ref (f3 2), .int 0, .int 0])), (f3 0, .inl (g_ca X 0, 10, .inl (fun _ => 0))), (f3 1, .inl (g_ca X 0, 10, .inl (fun _ => 0))), (f3 2, .inl (g_ca X 0, 10, .inl (fun _ => 0)))]) rfl ?_
  refine n_aload O 0 dX0_init_51 rfl rfl ?_
  refine n_new O (ci := 2) (fs := n_fX2) tyX2 rfl uX2 tyX2_ok n_cl_02 n_in_2 w_ini_X2 n_df_X2 (by decide) (by decide) dX0_init_52 (fun h2 => ?_)
  refine n_dup O dX0_init_55 rfl ?_
  refine n_callN O (host := "CaveRelay") (n_X2 (g_xl X)) E.2.1.2.2.2.2.2.2.1 w_ini_X2 n_wc_X2 n_wd_X2 n_wi_X2 rfl rfl dX0_init_56 rfl (fun f2 => ?_)
  refine n_same (ws' := [(a, .inr (0, [.ref h4, .ref h5, .ref q9, .int 0, .ref h3, .null, .int 0, .int 0, .int 0, .int 0, .int 0, .int 0])), (h4, .inr (4, [.ref (f4 0), .ref (f4 1), .ref (f4 2), .int 4])), (f4 0, .inl (g_ca X 0, 7, .inl g_d0)), (f4 1, .inl (g_ca X 0, 7, .inl g_m0)), (f4 2, .inl (g_ca X 0, 7, .inl (n_r0 7))), (h5, .inr (5, [.ref (f5 0), .ref (f5 1), .ref (f5 2), .int 0])), (f5 0, .inl (g_ca X 0, 8, .inl (fun _ => 0))), (f5 1, .inl (g_ca X 0, 8, .inl (fun _ => 0))), (f5 2, .inl (g_ca X 0, 8, .inl (fun _ => 0))), (q9, .inl (g_ca X 2, 6, .inr (.inr (.inr (.inr (fun _ => none)))))), (h3, .inr (3, [.ref (f3 0), .ref (f3 1), .ref (f3 2), .int 0, .int 0])), (f3 0, .inl (g_ca X 0, 10, .inl (fun _ => 0))), (f3 1, .inl (g_ca X 0, 10, .inl (fun _ => 0))), (f3 2, .inl (g_ca X 0, 10, .inl (fun _ => 0))), (h2, .inr (2, [.ref (f2 0), .ref (f2 1), .ref (f2 2), .int 0, .int 0])), (f2 0, .inl (g_ca X 0, 12, .inl (fun _ => 0))), (f2 1, .inl (g_ca X 0, 12, .inl (fun _ => 0))), (f2 2, .inl (g_ca X 0, 12, .inl (fun _ => 0)))]) rfl ?_
  refine n_putF O 0 (FPFX0_45 h2) rfl (Nat.le_of_ble_eq_true rfl) dX0_init_59 ?_
  refine n_same (ws' := [(a, .inr (0, [.ref h4, .ref h5, .ref q9, .int 0, .ref h3, .ref h2, .int 0, .int 0, .int 0, .int 0, .int 0, .int 0])), (h4, .inr (4, [.ref (f4 0), .ref (f4 1), .ref (f4 2), .int 4])), (f4 0, .inl (g_ca X 0, 7, .inl g_d0)), (f4 1, .inl (g_ca X 0, 7, .inl g_m0)), (f4 2, .inl (g_ca X 0, 7, .inl (n_r0 7))), (h5, .inr (5, [.ref (f5 0), .ref (f5 1), .ref (f5 2), .int 0])), (f5 0, .inl (g_ca X 0, 8, .inl (fun _ => 0))), (f5 1, .inl (g_ca X 0, 8, .inl (fun _ => 0))), (f5 2, .inl (g_ca X 0, 8, .inl (fun _ => 0))), (q9, .inl (g_ca X 2, 6, .inr (.inr (.inr (.inr (fun _ => none)))))), (h3, .inr (3, [.ref (f3 0), .ref (f3 1), .ref (f3 2), .int 0, .int 0])), (f3 0, .inl (g_ca X 0, 10, .inl (fun _ => 0))), (f3 1, .inl (g_ca X 0, 10, .inl (fun _ => 0))), (f3 2, .inl (g_ca X 0, 10, .inl (fun _ => 0))), (h2, .inr (2, [.ref (f2 0), .ref (f2 1), .ref (f2 2), .int 0, .int 0])), (f2 0, .inl (g_ca X 0, 12, .inl (fun _ => 0))), (f2 1, .inl (g_ca X 0, 12, .inl (fun _ => 0))), (f2 2, .inl (g_ca X 0, 12, .inl (fun _ => 0)))]) rfl ?_
  refine n_aload O 0 dX0_init_62 rfl rfl ?_
  refine n_iconst (x := 0) O dX0_init_63 rfl ?_
  refine n_put O 0 (FPX0_49 0) rfl (Nat.le_of_ble_eq_true rfl) dX0_init_64 ?_
  refine n_same (ws' := [(a, .inr (0, [.ref h4, .ref h5, .ref q9, .int 0, .ref h3, .ref h2, .int 0, .int 0, .int 0, .int 0, .int 0, .int 0])), (h4, .inr (4, [.ref (f4 0), .ref (f4 1), .ref (f4 2), .int 4])), (f4 0, .inl (g_ca X 0, 7, .inl g_d0)), (f4 1, .inl (g_ca X 0, 7, .inl g_m0)), (f4 2, .inl (g_ca X 0, 7, .inl (n_r0 7))), (h5, .inr (5, [.ref (f5 0), .ref (f5 1), .ref (f5 2), .int 0])), (f5 0, .inl (g_ca X 0, 8, .inl (fun _ => 0))), (f5 1, .inl (g_ca X 0, 8, .inl (fun _ => 0))), (f5 2, .inl (g_ca X 0, 8, .inl (fun _ => 0))), (q9, .inl (g_ca X 2, 6, .inr (.inr (.inr (.inr (fun _ => none)))))), (h3, .inr (3, [.ref (f3 0), .ref (f3 1), .ref (f3 2), .int 0, .int 0])), (f3 0, .inl (g_ca X 0, 10, .inl (fun _ => 0))), (f3 1, .inl (g_ca X 0, 10, .inl (fun _ => 0))), (f3 2, .inl (g_ca X 0, 10, .inl (fun _ => 0))), (h2, .inr (2, [.ref (f2 0), .ref (f2 1), .ref (f2 2), .int 0, .int 0])), (f2 0, .inl (g_ca X 0, 12, .inl (fun _ => 0))), (f2 1, .inl (g_ca X 0, 12, .inl (fun _ => 0))), (f2 2, .inl (g_ca X 0, 12, .inl (fun _ => 0)))]) rfl ?_
  refine n_aload O 0 dX0_init_67 rfl rfl ?_
  refine n_iconst (x := 4) O dX0_init_68 rfl ?_
  refine n_put O 0 (FPX0_52 4) rfl (Nat.le_of_ble_eq_true rfl) dX0_init_69 ?_
  refine n_same (ws' := [(a, .inr (0, [.ref h4, .ref h5, .ref q9, .int 0, .ref h3, .ref h2, .int 0, .int 4, .int 0, .int 0, .int 0, .int 0])), (h4, .inr (4, [.ref (f4 0), .ref (f4 1), .ref (f4 2), .int 4])), (f4 0, .inl (g_ca X 0, 7, .inl g_d0)), (f4 1, .inl (g_ca X 0, 7, .inl g_m0)), (f4 2, .inl (g_ca X 0, 7, .inl (n_r0 7))), (h5, .inr (5, [.ref (f5 0), .ref (f5 1), .ref (f5 2), .int 0])), (f5 0, .inl (g_ca X 0, 8, .inl (fun _ => 0))), (f5 1, .inl (g_ca X 0, 8, .inl (fun _ => 0))), (f5 2, .inl (g_ca X 0, 8, .inl (fun _ => 0))), (q9, .inl (g_ca X 2, 6, .inr (.inr (.inr (.inr (fun _ => none)))))), (h3, .inr (3, [.ref (f3 0), .ref (f3 1), .ref (f3 2), .int 0, .int 0])), (f3 0, .inl (g_ca X 0, 10, .inl (fun _ => 0))), (f3 1, .inl (g_ca X 0, 10, .inl (fun _ => 0))), (f3 2, .inl (g_ca X 0, 10, .inl (fun _ => 0))), (h2, .inr (2, [.ref (f2 0), .ref (f2 1), .ref (f2 2), .int 0, .int 0])), (f2 0, .inl (g_ca X 0, 12, .inl (fun _ => 0))), (f2 1, .inl (g_ca X 0, 12, .inl (fun _ => 0))), (f2 2, .inl (g_ca X 0, 12, .inl (fun _ => 0)))]) rfl ?_
  refine n_aload O 0 dX0_init_72 rfl rfl ?_
  refine n_iconst (x := 0) O dX0_init_73 rfl ?_
  refine n_put O 0 (FPX0_55 (Or.inl rfl)) rfl (Nat.le_of_ble_eq_true rfl) dX0_init_74 ?_
  refine n_same (ws' := [(a, .inr (0, [.ref h4, .ref h5, .ref q9, .int 0, .ref h3, .ref h2, .int 0, .int 4, .int 0, .int 0, .int 0, .int 0])), (h4, .inr (4, [.ref (f4 0), .ref (f4 1), .ref (f4 2), .int 4])), (f4 0, .inl (g_ca X 0, 7, .inl g_d0)), (f4 1, .inl (g_ca X 0, 7, .inl g_m0)), (f4 2, .inl (g_ca X 0, 7, .inl (n_r0 7))), (h5, .inr (5, [.ref (f5 0), .ref (f5 1), .ref (f5 2), .int 0])), (f5 0, .inl (g_ca X 0, 8, .inl (fun _ => 0))), (f5 1, .inl (g_ca X 0, 8, .inl (fun _ => 0))), (f5 2, .inl (g_ca X 0, 8, .inl (fun _ => 0))), (q9, .inl (g_ca X 2, 6, .inr (.inr (.inr (.inr (fun _ => none)))))), (h3, .inr (3, [.ref (f3 0), .ref (f3 1), .ref (f3 2), .int 0, .int 0])), (f3 0, .inl (g_ca X 0, 10, .inl (fun _ => 0))), (f3 1, .inl (g_ca X 0, 10, .inl (fun _ => 0))), (f3 2, .inl (g_ca X 0, 10, .inl (fun _ => 0))), (h2, .inr (2, [.ref (f2 0), .ref (f2 1), .ref (f2 2), .int 0, .int 0])), (f2 0, .inl (g_ca X 0, 12, .inl (fun _ => 0))), (f2 1, .inl (g_ca X 0, 12, .inl (fun _ => 0))), (f2 2, .inl (g_ca X 0, 12, .inl (fun _ => 0)))]) rfl ?_
  refine n_aload O 0 dX0_init_77 rfl rfl ?_
  refine n_iconst (x := 0) O dX0_init_78 rfl ?_
  refine n_put O 0 (FPX0_59 0) rfl (Nat.le_of_ble_eq_true rfl) dX0_init_79 ?_
  refine n_same (ws' := [(a, .inr (0, [.ref h4, .ref h5, .ref q9, .int 0, .ref h3, .ref h2, .int 0, .int 4, .int 0, .int 0, .int 0, .int 0])), (h4, .inr (4, [.ref (f4 0), .ref (f4 1), .ref (f4 2), .int 4])), (f4 0, .inl (g_ca X 0, 7, .inl g_d0)), (f4 1, .inl (g_ca X 0, 7, .inl g_m0)), (f4 2, .inl (g_ca X 0, 7, .inl (n_r0 7))), (h5, .inr (5, [.ref (f5 0), .ref (f5 1), .ref (f5 2), .int 0])), (f5 0, .inl (g_ca X 0, 8, .inl (fun _ => 0))), (f5 1, .inl (g_ca X 0, 8, .inl (fun _ => 0))), (f5 2, .inl (g_ca X 0, 8, .inl (fun _ => 0))), (q9, .inl (g_ca X 2, 6, .inr (.inr (.inr (.inr (fun _ => none)))))), (h3, .inr (3, [.ref (f3 0), .ref (f3 1), .ref (f3 2), .int 0, .int 0])), (f3 0, .inl (g_ca X 0, 10, .inl (fun _ => 0))), (f3 1, .inl (g_ca X 0, 10, .inl (fun _ => 0))), (f3 2, .inl (g_ca X 0, 10, .inl (fun _ => 0))), (h2, .inr (2, [.ref (f2 0), .ref (f2 1), .ref (f2 2), .int 0, .int 0])), (f2 0, .inl (g_ca X 0, 12, .inl (fun _ => 0))), (f2 1, .inl (g_ca X 0, 12, .inl (fun _ => 0))), (f2 2, .inl (g_ca X 0, 12, .inl (fun _ => 0)))]) rfl ?_
  refine n_aload O 0 dX0_init_82 rfl rfl ?_
  refine n_iconst (x := 0) O dX0_init_83 rfl ?_
  refine n_put O 0 (FPX0_62 0) rfl (Nat.le_of_ble_eq_true rfl) dX0_init_84 ?_
  refine n_same (ws' := [(a, .inr (0, [.ref h4, .ref h5, .ref q9, .int 0, .ref h3, .ref h2, .int 0, .int 4, .int 0, .int 0, .int 0, .int 0])), (h4, .inr (4, [.ref (f4 0), .ref (f4 1), .ref (f4 2), .int 4])), (f4 0, .inl (g_ca X 0, 7, .inl g_d0)), (f4 1, .inl (g_ca X 0, 7, .inl g_m0)), (f4 2, .inl (g_ca X 0, 7, .inl (n_r0 7))), (h5, .inr (5, [.ref (f5 0), .ref (f5 1), .ref (f5 2), .int 0])), (f5 0, .inl (g_ca X 0, 8, .inl (fun _ => 0))), (f5 1, .inl (g_ca X 0, 8, .inl (fun _ => 0))), (f5 2, .inl (g_ca X 0, 8, .inl (fun _ => 0))), (q9, .inl (g_ca X 2, 6, .inr (.inr (.inr (.inr (fun _ => none)))))), (h3, .inr (3, [.ref (f3 0), .ref (f3 1), .ref (f3 2), .int 0, .int 0])), (f3 0, .inl (g_ca X 0, 10, .inl (fun _ => 0))), (f3 1, .inl (g_ca X 0, 10, .inl (fun _ => 0))), (f3 2, .inl (g_ca X 0, 10, .inl (fun _ => 0))), (h2, .inr (2, [.ref (f2 0), .ref (f2 1), .ref (f2 2), .int 0, .int 0])), (f2 0, .inl (g_ca X 0, 12, .inl (fun _ => 0))), (f2 1, .inl (g_ca X 0, 12, .inl (fun _ => 0))), (f2 2, .inl (g_ca X 0, 12, .inl (fun _ => 0)))]) rfl ?_
  refine n_aload O 0 dX0_init_87 rfl rfl ?_
  refine n_iconst (x := 0) O dX0_init_88 rfl ?_
  refine n_put O 0 (FPX0_65 0) rfl (Nat.le_of_ble_eq_true rfl) dX0_init_89 ?_
  refine n_same (ws' := [(a, .inr (0, [.ref h4, .ref h5, .ref q9, .int 0, .ref h3, .ref h2, .int 0, .int 4, .int 0, .int 0, .int 0, .int 0])), (h4, .inr (4, [.ref (f4 0), .ref (f4 1), .ref (f4 2), .int 4])), (f4 0, .inl (g_ca X 0, 7, .inl g_d0)), (f4 1, .inl (g_ca X 0, 7, .inl g_m0)), (f4 2, .inl (g_ca X 0, 7, .inl (n_r0 7))), (h5, .inr (5, [.ref (f5 0), .ref (f5 1), .ref (f5 2), .int 0])), (f5 0, .inl (g_ca X 0, 8, .inl (fun _ => 0))), (f5 1, .inl (g_ca X 0, 8, .inl (fun _ => 0))), (f5 2, .inl (g_ca X 0, 8, .inl (fun _ => 0))), (q9, .inl (g_ca X 2, 6, .inr (.inr (.inr (.inr (fun _ => none)))))), (h3, .inr (3, [.ref (f3 0), .ref (f3 1), .ref (f3 2), .int 0, .int 0])), (f3 0, .inl (g_ca X 0, 10, .inl (fun _ => 0))), (f3 1, .inl (g_ca X 0, 10, .inl (fun _ => 0))), (f3 2, .inl (g_ca X 0, 10, .inl (fun _ => 0))), (h2, .inr (2, [.ref (f2 0), .ref (f2 1), .ref (f2 2), .int 0, .int 0])), (f2 0, .inl (g_ca X 0, 12, .inl (fun _ => 0))), (f2 1, .inl (g_ca X 0, 12, .inl (fun _ => 0))), (f2 2, .inl (g_ca X 0, 12, .inl (fun _ => 0)))]) rfl ?_
  refine n_iconst (x := 0) O dX0_init_92 rfl ?_
  refine n_istore (lc' := [(1, .int 0), (0, .ref a)]) O dX0_init_93 rfl (by rw [hn]; decide) rfl ?_
  refine n_iload O 0 dX0_init_94 rfl rfl ?_
  refine n_bipush (x := 6) O dX0_init_95 rfl ?_
  refine n_icmp_ge O 119 dX0_init_97 (by decide) (fun c => absurd c (by decide)) (fun _ => ?_)
  refine n_aload O 1 dX0_init_100 rfl rfl ?_
  refine n_get (x := .ref q9) O 0 FX0_27 rfl rfl dX0_init_101 ?_
  refine n_iload O 0 dX0_init_104 rfl rfl ?_
  refine n_new O (ci := 1) (fs := n_fX1) tyX1 rfl uX1 tyX1_ok n_cl_01 n_in_1 w_ini_X1 n_df_X1 (by decide) (by decide) dX0_init_105 (fun v0 => ?_)
  refine n_dup O dX0_init_108 rfl ?_
  refine n_callN O (host := "CaveRelay") (n_X1 (g_xl X)) E.2.1.2.2.2.2.2.2.2.1 w_ini_X1 n_wc_X1 n_wd_X1 n_wi_X1 rfl rfl dX0_init_109 rfl (fun g0 => ?_)
  refine n_same (ws' := [(a, .inr (0, [.ref h4, .ref h5, .ref q9, .int 0, .ref h3, .ref h2, .int 0, .int 4, .int 0, .int 0, .int 0, .int 0])), (h4, .inr (4, [.ref (f4 0), .ref (f4 1), .ref (f4 2), .int 4])), (f4 0, .inl (g_ca X 0, 7, .inl g_d0)), (f4 1, .inl (g_ca X 0, 7, .inl g_m0)), (f4 2, .inl (g_ca X 0, 7, .inl (n_r0 7))), (h5, .inr (5, [.ref (f5 0), .ref (f5 1), .ref (f5 2), .int 0])), (f5 0, .inl (g_ca X 0, 8, .inl (fun _ => 0))), (f5 1, .inl (g_ca X 0, 8, .inl (fun _ => 0))), (f5 2, .inl (g_ca X 0, 8, .inl (fun _ => 0))), (q9, .inl (g_ca X 2, 6, .inr (.inr (.inr (.inr (fun _ => none)))))), (h3, .inr (3, [.ref (f3 0), .ref (f3 1), .ref (f3 2), .int 0, .int 0])), (f3 0, .inl (g_ca X 0, 10, .inl (fun _ => 0))), (f3 1, .inl (g_ca X 0, 10, .inl (fun _ => 0))), (f3 2, .inl (g_ca X 0, 10, .inl (fun _ => 0))), (h2, .inr (2, [.ref (f2 0), .ref (f2 1), .ref (f2 2), .int 0, .int 0])), (f2 0, .inl (g_ca X 0, 12, .inl (fun _ => 0))), (f2 1, .inl (g_ca X 0, 12, .inl (fun _ => 0))), (f2 2, .inl (g_ca X 0, 12, .inl (fun _ => 0))), (v0, .inr (1, [.int 0, .int 0, .int 0, .int (-1), .int 0, .int (-1), .int 0, .int 0, .int 0]))]) rfl ?_
  refine n_astq O 9 2 18 1 rfl rfl rfl rfl (g_vin (by decide) (by decide)) dX0_init_112 ?_
  refine n_same (ws' := [(a, .inr (0, [.ref h4, .ref h5, .ref q9, .int 0, .ref h3, .ref h2, .int 0, .int 4, .int 0, .int 0, .int 0, .int 0])), (h4, .inr (4, [.ref (f4 0), .ref (f4 1), .ref (f4 2), .int 4])), (f4 0, .inl (g_ca X 0, 7, .inl g_d0)), (f4 1, .inl (g_ca X 0, 7, .inl g_m0)), (f4 2, .inl (g_ca X 0, 7, .inl (n_r0 7))), (h5, .inr (5, [.ref (f5 0), .ref (f5 1), .ref (f5 2), .int 0])), (f5 0, .inl (g_ca X 0, 8, .inl (fun _ => 0))), (f5 1, .inl (g_ca X 0, 8, .inl (fun _ => 0))), (f5 2, .inl (g_ca X 0, 8, .inl (fun _ => 0))), (q9, .inl (g_ca X 2, 6, .inr (.inr (.inr (.inr (va_up (fun _ => none) (0 : Int32).toNatClampNeg (some v0))))))), (h3, .inr (3, [.ref (f3 0), .ref (f3 1), .ref (f3 2), .int 0, .int 0])), (f3 0, .inl (g_ca X 0, 10, .inl (fun _ => 0))), (f3 1, .inl (g_ca X 0, 10, .inl (fun _ => 0))), (f3 2, .inl (g_ca X 0, 10, .inl (fun _ => 0))), (h2, .inr (2, [.ref (f2 0), .ref (f2 1), .ref (f2 2), .int 0, .int 0])), (f2 0, .inl (g_ca X 0, 12, .inl (fun _ => 0))), (f2 1, .inl (g_ca X 0, 12, .inl (fun _ => 0))), (f2 2, .inl (g_ca X 0, 12, .inl (fun _ => 0))), (v0, .inr (1, [.int 0, .int 0, .int 0, .int (-1), .int 0, .int (-1), .int 0, .int 0, .int 0]))]) rfl ?_
  refine n_iinc (y := 1) (lc' := [(1, .int 1), (0, .ref a)]) O 0 dX0_init_113 rfl rfl (by rw [hn]; decide) rfl ?_
  refine n_goto O 94 dX0_init_116 (by decide) ?_
  refine n_iload O 0 dX0_init_94 rfl rfl ?_
  refine n_bipush (x := 6) O dX0_init_95 rfl ?_
  refine n_icmp_ge O 119 dX0_init_97 (by decide) (fun c => absurd c (by decide)) (fun _ => ?_)
  refine n_aload O 1 dX0_init_100 rfl rfl ?_
  refine n_get (x := .ref q9) O 0 FX0_27 rfl rfl dX0_init_101 ?_
  refine n_iload O 0 dX0_init_104 rfl rfl ?_
  refine n_new O (ci := 1) (fs := n_fX1) tyX1 rfl uX1 tyX1_ok n_cl_01 n_in_1 w_ini_X1 n_df_X1 (by decide) (by decide) dX0_init_105 (fun v1 => ?_)
  refine n_dup O dX0_init_108 rfl ?_
  refine n_callN O (host := "CaveRelay") (n_X1 (g_xl X)) E.2.1.2.2.2.2.2.2.2.1 w_ini_X1 n_wc_X1 n_wd_X1 n_wi_X1 rfl rfl dX0_init_109 rfl (fun g1 => ?_)
  refine n_same (ws' := [(a, .inr (0, [.ref h4, .ref h5, .ref q9, .int 0, .ref h3, .ref h2, .int 0, .int 4, .int 0, .int 0, .int 0, .int 0])), (h4, .inr (4, [.ref (f4 0), .ref (f4 1), .ref (f4 2), .int 4])), (f4 0, .inl (g_ca X 0, 7, .inl g_d0)), (f4 1, .inl (g_ca X 0, 7, .inl g_m0)), (f4 2, .inl (g_ca X 0, 7, .inl (n_r0 7))), (h5, .inr (5, [.ref (f5 0), .ref (f5 1), .ref (f5 2), .int 0])), (f5 0, .inl (g_ca X 0, 8, .inl (fun _ => 0))), (f5 1, .inl (g_ca X 0, 8, .inl (fun _ => 0))), (f5 2, .inl (g_ca X 0, 8, .inl (fun _ => 0))), (q9, .inl (g_ca X 2, 6, .inr (.inr (.inr (.inr (va_up (fun _ => none) (0 : Int32).toNatClampNeg (some v0))))))), (h3, .inr (3, [.ref (f3 0), .ref (f3 1), .ref (f3 2), .int 0, .int 0])), (f3 0, .inl (g_ca X 0, 10, .inl (fun _ => 0))), (f3 1, .inl (g_ca X 0, 10, .inl (fun _ => 0))), (f3 2, .inl (g_ca X 0, 10, .inl (fun _ => 0))), (h2, .inr (2, [.ref (f2 0), .ref (f2 1), .ref (f2 2), .int 0, .int 0])), (f2 0, .inl (g_ca X 0, 12, .inl (fun _ => 0))), (f2 1, .inl (g_ca X 0, 12, .inl (fun _ => 0))), (f2 2, .inl (g_ca X 0, 12, .inl (fun _ => 0))), (v0, .inr (1, [.int 0, .int 0, .int 0, .int (-1), .int 0, .int (-1), .int 0, .int 0, .int 0])), (v1, .inr (1, [.int 0, .int 0, .int 0, .int (-1), .int 0, .int (-1), .int 0, .int 0, .int 0]))]) rfl ?_
  refine n_astq O 9 2 19 1 rfl rfl rfl rfl (g_vin (by decide) (by decide)) dX0_init_112 ?_
  refine n_same (ws' := [(a, .inr (0, [.ref h4, .ref h5, .ref q9, .int 0, .ref h3, .ref h2, .int 0, .int 4, .int 0, .int 0, .int 0, .int 0])), (h4, .inr (4, [.ref (f4 0), .ref (f4 1), .ref (f4 2), .int 4])), (f4 0, .inl (g_ca X 0, 7, .inl g_d0)), (f4 1, .inl (g_ca X 0, 7, .inl g_m0)), (f4 2, .inl (g_ca X 0, 7, .inl (n_r0 7))), (h5, .inr (5, [.ref (f5 0), .ref (f5 1), .ref (f5 2), .int 0])), (f5 0, .inl (g_ca X 0, 8, .inl (fun _ => 0))), (f5 1, .inl (g_ca X 0, 8, .inl (fun _ => 0))), (f5 2, .inl (g_ca X 0, 8, .inl (fun _ => 0))), (q9, .inl (g_ca X 2, 6, .inr (.inr (.inr (.inr (va_up (va_up (fun _ => none) (0 : Int32).toNatClampNeg (some v0)) (1 : Int32).toNatClampNeg (some v1))))))), (h3, .inr (3, [.ref (f3 0), .ref (f3 1), .ref (f3 2), .int 0, .int 0])), (f3 0, .inl (g_ca X 0, 10, .inl (fun _ => 0))), (f3 1, .inl (g_ca X 0, 10, .inl (fun _ => 0))), (f3 2, .inl (g_ca X 0, 10, .inl (fun _ => 0))), (h2, .inr (2, [.ref (f2 0), .ref (f2 1), .ref (f2 2), .int 0, .int 0])), (f2 0, .inl (g_ca X 0, 12, .inl (fun _ => 0))), (f2 1, .inl (g_ca X 0, 12, .inl (fun _ => 0))), (f2 2, .inl (g_ca X 0, 12, .inl (fun _ => 0))), (v0, .inr (1, [.int 0, .int 0, .int 0, .int (-1), .int 0, .int (-1), .int 0, .int 0, .int 0])), (v1, .inr (1, [.int 0, .int 0, .int 0, .int (-1), .int 0, .int (-1), .int 0, .int 0, .int 0]))]) rfl ?_
  refine n_iinc (y := 2) (lc' := [(1, .int 2), (0, .ref a)]) O 0 dX0_init_113 rfl rfl (by rw [hn]; decide) rfl ?_
  refine n_goto O 94 dX0_init_116 (by decide) ?_
  refine n_iload O 0 dX0_init_94 rfl rfl ?_
  refine n_bipush (x := 6) O dX0_init_95 rfl ?_
  refine n_icmp_ge O 119 dX0_init_97 (by decide) (fun c => absurd c (by decide)) (fun _ => ?_)
  refine n_aload O 1 dX0_init_100 rfl rfl ?_
  refine n_get (x := .ref q9) O 0 FX0_27 rfl rfl dX0_init_101 ?_
  refine n_iload O 0 dX0_init_104 rfl rfl ?_
  refine n_new O (ci := 1) (fs := n_fX1) tyX1 rfl uX1 tyX1_ok n_cl_01 n_in_1 w_ini_X1 n_df_X1 (by decide) (by decide) dX0_init_105 (fun v2 => ?_)
  refine n_dup O dX0_init_108 rfl ?_
  refine n_callN O (host := "CaveRelay") (n_X1 (g_xl X)) E.2.1.2.2.2.2.2.2.2.1 w_ini_X1 n_wc_X1 n_wd_X1 n_wi_X1 rfl rfl dX0_init_109 rfl (fun g2 => ?_)
  refine n_same (ws' := [(a, .inr (0, [.ref h4, .ref h5, .ref q9, .int 0, .ref h3, .ref h2, .int 0, .int 4, .int 0, .int 0, .int 0, .int 0])), (h4, .inr (4, [.ref (f4 0), .ref (f4 1), .ref (f4 2), .int 4])), (f4 0, .inl (g_ca X 0, 7, .inl g_d0)), (f4 1, .inl (g_ca X 0, 7, .inl g_m0)), (f4 2, .inl (g_ca X 0, 7, .inl (n_r0 7))), (h5, .inr (5, [.ref (f5 0), .ref (f5 1), .ref (f5 2), .int 0])), (f5 0, .inl (g_ca X 0, 8, .inl (fun _ => 0))), (f5 1, .inl (g_ca X 0, 8, .inl (fun _ => 0))), (f5 2, .inl (g_ca X 0, 8, .inl (fun _ => 0))), (q9, .inl (g_ca X 2, 6, .inr (.inr (.inr (.inr (va_up (va_up (fun _ => none) (0 : Int32).toNatClampNeg (some v0)) (1 : Int32).toNatClampNeg (some v1))))))), (h3, .inr (3, [.ref (f3 0), .ref (f3 1), .ref (f3 2), .int 0, .int 0])), (f3 0, .inl (g_ca X 0, 10, .inl (fun _ => 0))), (f3 1, .inl (g_ca X 0, 10, .inl (fun _ => 0))), (f3 2, .inl (g_ca X 0, 10, .inl (fun _ => 0))), (h2, .inr (2, [.ref (f2 0), .ref (f2 1), .ref (f2 2), .int 0, .int 0])), (f2 0, .inl (g_ca X 0, 12, .inl (fun _ => 0))), (f2 1, .inl (g_ca X 0, 12, .inl (fun _ => 0))), (f2 2, .inl (g_ca X 0, 12, .inl (fun _ => 0))), (v0, .inr (1, [.int 0, .int 0, .int 0, .int (-1), .int 0, .int (-1), .int 0, .int 0, .int 0])), (v1, .inr (1, [.int 0, .int 0, .int 0, .int (-1), .int 0, .int (-1), .int 0, .int 0, .int 0])), (v2, .inr (1, [.int 0, .int 0, .int 0, .int (-1), .int 0, .int (-1), .int 0, .int 0, .int 0]))]) rfl ?_
  refine n_astq O 9 2 20 1 rfl rfl rfl rfl (g_vin (by decide) (by decide)) dX0_init_112 ?_
  refine n_same (ws' := [(a, .inr (0, [.ref h4, .ref h5, .ref q9, .int 0, .ref h3, .ref h2, .int 0, .int 4, .int 0, .int 0, .int 0, .int 0])), (h4, .inr (4, [.ref (f4 0), .ref (f4 1), .ref (f4 2), .int 4])), (f4 0, .inl (g_ca X 0, 7, .inl g_d0)), (f4 1, .inl (g_ca X 0, 7, .inl g_m0)), (f4 2, .inl (g_ca X 0, 7, .inl (n_r0 7))), (h5, .inr (5, [.ref (f5 0), .ref (f5 1), .ref (f5 2), .int 0])), (f5 0, .inl (g_ca X 0, 8, .inl (fun _ => 0))), (f5 1, .inl (g_ca X 0, 8, .inl (fun _ => 0))), (f5 2, .inl (g_ca X 0, 8, .inl (fun _ => 0))), (q9, .inl (g_ca X 2, 6, .inr (.inr (.inr (.inr (va_up (va_up (va_up (fun _ => none) (0 : Int32).toNatClampNeg (some v0)) (1 : Int32).toNatClampNeg (some v1)) (2 : Int32).toNatClampNeg (some v2))))))), (h3, .inr (3, [.ref (f3 0), .ref (f3 1), .ref (f3 2), .int 0, .int 0])), (f3 0, .inl (g_ca X 0, 10, .inl (fun _ => 0))), (f3 1, .inl (g_ca X 0, 10, .inl (fun _ => 0))), (f3 2, .inl (g_ca X 0, 10, .inl (fun _ => 0))), (h2, .inr (2, [.ref (f2 0), .ref (f2 1), .ref (f2 2), .int 0, .int 0])), (f2 0, .inl (g_ca X 0, 12, .inl (fun _ => 0))), (f2 1, .inl (g_ca X 0, 12, .inl (fun _ => 0))), (f2 2, .inl (g_ca X 0, 12, .inl (fun _ => 0))), (v0, .inr (1, [.int 0, .int 0, .int 0, .int (-1), .int 0, .int (-1), .int 0, .int 0, .int 0])), (v1, .inr (1, [.int 0, .int 0, .int 0, .int (-1), .int 0, .int (-1), .int 0, .int 0, .int 0])), (v2, .inr (1, [.int 0, .int 0, .int 0, .int (-1), .int 0, .int (-1), .int 0, .int 0, .int 0]))]) rfl ?_
  refine n_iinc (y := 3) (lc' := [(1, .int 3), (0, .ref a)]) O 0 dX0_init_113 rfl rfl (by rw [hn]; decide) rfl ?_
  refine n_goto O 94 dX0_init_116 (by decide) ?_
  refine n_iload O 0 dX0_init_94 rfl rfl ?_
  refine n_bipush (x := 6) O dX0_init_95 rfl ?_
  refine n_icmp_ge O 119 dX0_init_97 (by decide) (fun c => absurd c (by decide)) (fun _ => ?_)
  refine n_aload O 1 dX0_init_100 rfl rfl ?_
  refine n_get (x := .ref q9) O 0 FX0_27 rfl rfl dX0_init_101 ?_
  refine n_iload O 0 dX0_init_104 rfl rfl ?_
  refine n_new O (ci := 1) (fs := n_fX1) tyX1 rfl uX1 tyX1_ok n_cl_01 n_in_1 w_ini_X1 n_df_X1 (by decide) (by decide) dX0_init_105 (fun v3 => ?_)
  refine n_dup O dX0_init_108 rfl ?_
  refine n_callN O (host := "CaveRelay") (n_X1 (g_xl X)) E.2.1.2.2.2.2.2.2.2.1 w_ini_X1 n_wc_X1 n_wd_X1 n_wi_X1 rfl rfl dX0_init_109 rfl (fun g3 => ?_)
  refine n_same (ws' := [(a, .inr (0, [.ref h4, .ref h5, .ref q9, .int 0, .ref h3, .ref h2, .int 0, .int 4, .int 0, .int 0, .int 0, .int 0])), (h4, .inr (4, [.ref (f4 0), .ref (f4 1), .ref (f4 2), .int 4])), (f4 0, .inl (g_ca X 0, 7, .inl g_d0)), (f4 1, .inl (g_ca X 0, 7, .inl g_m0)), (f4 2, .inl (g_ca X 0, 7, .inl (n_r0 7))), (h5, .inr (5, [.ref (f5 0), .ref (f5 1), .ref (f5 2), .int 0])), (f5 0, .inl (g_ca X 0, 8, .inl (fun _ => 0))), (f5 1, .inl (g_ca X 0, 8, .inl (fun _ => 0))), (f5 2, .inl (g_ca X 0, 8, .inl (fun _ => 0))), (q9, .inl (g_ca X 2, 6, .inr (.inr (.inr (.inr (va_up (va_up (va_up (fun _ => none) (0 : Int32).toNatClampNeg (some v0)) (1 : Int32).toNatClampNeg (some v1)) (2 : Int32).toNatClampNeg (some v2))))))), (h3, .inr (3, [.ref (f3 0), .ref (f3 1), .ref (f3 2), .int 0, .int 0])), (f3 0, .inl (g_ca X 0, 10, .inl (fun _ => 0))), (f3 1, .inl (g_ca X 0, 10, .inl (fun _ => 0))), (f3 2, .inl (g_ca X 0, 10, .inl (fun _ => 0))), (h2, .inr (2, [.ref (f2 0), .ref (f2 1), .ref (f2 2), .int 0, .int 0])), (f2 0, .inl (g_ca X 0, 12, .inl (fun _ => 0))), (f2 1, .inl (g_ca X 0, 12, .inl (fun _ => 0))), (f2 2, .inl (g_ca X 0, 12, .inl (fun _ => 0))), (v0, .inr (1, [.int 0, .int 0, .int 0, .int (-1), .int 0, .int (-1), .int 0, .int 0, .int 0])), (v1, .inr (1, [.int 0, .int 0, .int 0, .int (-1), .int 0, .int (-1), .int 0, .int 0, .int 0])), (v2, .inr (1, [.int 0, .int 0, .int 0, .int (-1), .int 0, .int (-1), .int 0, .int 0, .int 0])), (v3, .inr (1, [.int 0, .int 0, .int 0, .int (-1), .int 0, .int (-1), .int 0, .int 0, .int 0]))]) rfl ?_
  refine n_astq O 9 2 21 1 rfl rfl rfl rfl (g_vin (by decide) (by decide)) dX0_init_112 ?_
  refine n_same (ws' := [(a, .inr (0, [.ref h4, .ref h5, .ref q9, .int 0, .ref h3, .ref h2, .int 0, .int 4, .int 0, .int 0, .int 0, .int 0])), (h4, .inr (4, [.ref (f4 0), .ref (f4 1), .ref (f4 2), .int 4])), (f4 0, .inl (g_ca X 0, 7, .inl g_d0)), (f4 1, .inl (g_ca X 0, 7, .inl g_m0)), (f4 2, .inl (g_ca X 0, 7, .inl (n_r0 7))), (h5, .inr (5, [.ref (f5 0), .ref (f5 1), .ref (f5 2), .int 0])), (f5 0, .inl (g_ca X 0, 8, .inl (fun _ => 0))), (f5 1, .inl (g_ca X 0, 8, .inl (fun _ => 0))), (f5 2, .inl (g_ca X 0, 8, .inl (fun _ => 0))), (q9, .inl (g_ca X 2, 6, .inr (.inr (.inr (.inr (va_up (va_up (va_up (va_up (fun _ => none) (0 : Int32).toNatClampNeg (some v0)) (1 : Int32).toNatClampNeg (some v1)) (2 : Int32).toNatClampNeg (some v2)) (3 : Int32).toNatClampNeg (some v3))))))), (h3, .inr (3, [.ref (f3 0), .ref (f3 1), .ref (f3 2), .int 0, .int 0])), (f3 0, .inl (g_ca X 0, 10, .inl (fun _ => 0))), (f3 1, .inl (g_ca X 0, 10, .inl (fun _ => 0))), (f3 2, .inl (g_ca X 0, 10, .inl (fun _ => 0))), (h2, .inr (2, [.ref (f2 0), .ref (f2 1), .ref (f2 2), .int 0, .int 0])), (f2 0, .inl (g_ca X 0, 12, .inl (fun _ => 0))), (f2 1, .inl (g_ca X 0, 12, .inl (fun _ => 0))), (f2 2, .inl (g_ca X 0, 12, .inl (fun _ => 0))), (v0, .inr (1, [.int 0, .int 0, .int 0, .int (-1), .int 0, .int (-1), .int 0, .int 0, .int 0])), (v1, .inr (1, [.int 0, .int 0, .int 0, .int (-1), .int 0, .int (-1), .int 0, .int 0, .int 0])), (v2, .inr (1, [.int 0, .int 0, .int 0, .int (-1), .int 0, .int (-1), .int 0, .int 0, .int 0])), (v3, .inr (1, [.int 0, .int 0, .int 0, .int (-1), .int 0, .int (-1), .int 0, .int 0, .int 0]))]) rfl ?_
  refine n_iinc (y := 4) (lc' := [(1, .int 4), (0, .ref a)]) O 0 dX0_init_113 rfl rfl (by rw [hn]; decide) rfl ?_
  refine n_goto O 94 dX0_init_116 (by decide) ?_
  refine n_iload O 0 dX0_init_94 rfl rfl ?_
  refine n_bipush (x := 6) O dX0_init_95 rfl ?_
  refine n_icmp_ge O 119 dX0_init_97 (by decide) (fun c => absurd c (by decide)) (fun _ => ?_)
  refine n_aload O 1 dX0_init_100 rfl rfl ?_
  refine n_get (x := .ref q9) O 0 FX0_27 rfl rfl dX0_init_101 ?_
  refine n_iload O 0 dX0_init_104 rfl rfl ?_
  refine n_new O (ci := 1) (fs := n_fX1) tyX1 rfl uX1 tyX1_ok n_cl_01 n_in_1 w_ini_X1 n_df_X1 (by decide) (by decide) dX0_init_105 (fun v4 => ?_)
  refine n_dup O dX0_init_108 rfl ?_
  refine n_callN O (host := "CaveRelay") (n_X1 (g_xl X)) E.2.1.2.2.2.2.2.2.2.1 w_ini_X1 n_wc_X1 n_wd_X1 n_wi_X1 rfl rfl dX0_init_109 rfl (fun g4 => ?_)
  refine n_same (ws' := [(a, .inr (0, [.ref h4, .ref h5, .ref q9, .int 0, .ref h3, .ref h2, .int 0, .int 4, .int 0, .int 0, .int 0, .int 0])), (h4, .inr (4, [.ref (f4 0), .ref (f4 1), .ref (f4 2), .int 4])), (f4 0, .inl (g_ca X 0, 7, .inl g_d0)), (f4 1, .inl (g_ca X 0, 7, .inl g_m0)), (f4 2, .inl (g_ca X 0, 7, .inl (n_r0 7))), (h5, .inr (5, [.ref (f5 0), .ref (f5 1), .ref (f5 2), .int 0])), (f5 0, .inl (g_ca X 0, 8, .inl (fun _ => 0))), (f5 1, .inl (g_ca X 0, 8, .inl (fun _ => 0))), (f5 2, .inl (g_ca X 0, 8, .inl (fun _ => 0))), (q9, .inl (g_ca X 2, 6, .inr (.inr (.inr (.inr (va_up (va_up (va_up (va_up (fun _ => none) (0 : Int32).toNatClampNeg (some v0)) (1 : Int32).toNatClampNeg (some v1)) (2 : Int32).toNatClampNeg (some v2)) (3 : Int32).toNatClampNeg (some v3))))))), (h3, .inr (3, [.ref (f3 0), .ref (f3 1), .ref (f3 2), .int 0, .int 0])), (f3 0, .inl (g_ca X 0, 10, .inl (fun _ => 0))), (f3 1, .inl (g_ca X 0, 10, .inl (fun _ => 0))), (f3 2, .inl (g_ca X 0, 10, .inl (fun _ => 0))), (h2, .inr (2, [.ref (f2 0), .ref (f2 1), .ref (f2 2), .int 0, .int 0])), (f2 0, .inl (g_ca X 0, 12, .inl (fun _ => 0))), (f2 1, .inl (g_ca X 0, 12, .inl (fun _ => 0))), (f2 2, .inl (g_ca X 0, 12, .inl (fun _ => 0))), (v0, .inr (1, [.int 0, .int 0, .int 0, .int (-1), .int 0, .int (-1), .int 0, .int 0, .int 0])), (v1, .inr (1, [.int 0, .int 0, .int 0, .int (-1), .int 0, .int (-1), .int 0, .int 0, .int 0])), (v2, .inr (1, [.int 0, .int 0, .int 0, .int (-1), .int 0, .int (-1), .int 0, .int 0, .int 0])), (v3, .inr (1, [.int 0, .int 0, .int 0, .int (-1), .int 0, .int (-1), .int 0, .int 0, .int 0])), (v4, .inr (1, [.int 0, .int 0, .int 0, .int (-1), .int 0, .int (-1), .int 0, .int 0, .int 0]))]) rfl ?_
  refine n_astq O 9 2 22 1 rfl rfl rfl rfl (g_vin (by decide) (by decide)) dX0_init_112 ?_
  refine n_same (ws' := [(a, .inr (0, [.ref h4, .ref h5, .ref q9, .int 0, .ref h3, .ref h2, .int 0, .int 4, .int 0, .int 0, .int 0, .int 0])), (h4, .inr (4, [.ref (f4 0), .ref (f4 1), .ref (f4 2), .int 4])), (f4 0, .inl (g_ca X 0, 7, .inl g_d0)), (f4 1, .inl (g_ca X 0, 7, .inl g_m0)), (f4 2, .inl (g_ca X 0, 7, .inl (n_r0 7))), (h5, .inr (5, [.ref (f5 0), .ref (f5 1), .ref (f5 2), .int 0])), (f5 0, .inl (g_ca X 0, 8, .inl (fun _ => 0))), (f5 1, .inl (g_ca X 0, 8, .inl (fun _ => 0))), (f5 2, .inl (g_ca X 0, 8, .inl (fun _ => 0))), (q9, .inl (g_ca X 2, 6, .inr (.inr (.inr (.inr (va_up (va_up (va_up (va_up (va_up (fun _ => none) (0 : Int32).toNatClampNeg (some v0)) (1 : Int32).toNatClampNeg (some v1)) (2 : Int32).toNatClampNeg (some v2)) (3 : Int32).toNatClampNeg (some v3)) (4 : Int32).toNatClampNeg (some v4))))))), (h3, .inr (3, [.ref (f3 0), .ref (f3 1), .ref (f3 2), .int 0, .int 0])), (f3 0, .inl (g_ca X 0, 10, .inl (fun _ => 0))), (f3 1, .inl (g_ca X 0, 10, .inl (fun _ => 0))), (f3 2, .inl (g_ca X 0, 10, .inl (fun _ => 0))), (h2, .inr (2, [.ref (f2 0), .ref (f2 1), .ref (f2 2), .int 0, .int 0])), (f2 0, .inl (g_ca X 0, 12, .inl (fun _ => 0))), (f2 1, .inl (g_ca X 0, 12, .inl (fun _ => 0))), (f2 2, .inl (g_ca X 0, 12, .inl (fun _ => 0))), (v0, .inr (1, [.int 0, .int 0, .int 0, .int (-1), .int 0, .int (-1), .int 0, .int 0, .int 0])), (v1, .inr (1, [.int 0, .int 0, .int 0, .int (-1), .int 0, .int (-1), .int 0, .int 0, .int 0])), (v2, .inr (1, [.int 0, .int 0, .int 0, .int (-1), .int 0, .int (-1), .int 0, .int 0, .int 0])), (v3, .inr (1, [.int 0, .int 0, .int 0, .int (-1), .int 0, .int (-1), .int 0, .int 0, .int 0])), (v4, .inr (1, [.int 0, .int 0, .int 0, .int (-1), .int 0, .int (-1), .int 0, .int 0, .int 0]))]) rfl ?_
  refine n_iinc (y := 5) (lc' := [(1, .int 5), (0, .ref a)]) O 0 dX0_init_113 rfl rfl (by rw [hn]; decide) rfl ?_
  refine n_goto O 94 dX0_init_116 (by decide) ?_
  refine n_iload O 0 dX0_init_94 rfl rfl ?_
  refine n_bipush (x := 6) O dX0_init_95 rfl ?_
  refine n_icmp_ge O 119 dX0_init_97 (by decide) (fun c => absurd c (by decide)) (fun _ => ?_)
  refine n_aload O 1 dX0_init_100 rfl rfl ?_
  refine n_get (x := .ref q9) O 0 FX0_27 rfl rfl dX0_init_101 ?_
  refine n_iload O 0 dX0_init_104 rfl rfl ?_
  refine n_new O (ci := 1) (fs := n_fX1) tyX1 rfl uX1 tyX1_ok n_cl_01 n_in_1 w_ini_X1 n_df_X1 (by decide) (by decide) dX0_init_105 (fun v5 => ?_)
  refine n_dup O dX0_init_108 rfl ?_
  refine n_callN O (host := "CaveRelay") (n_X1 (g_xl X)) E.2.1.2.2.2.2.2.2.2.1 w_ini_X1 n_wc_X1 n_wd_X1 n_wi_X1 rfl rfl dX0_init_109 rfl (fun g5 => ?_)
  refine n_same (ws' := [(a, .inr (0, [.ref h4, .ref h5, .ref q9, .int 0, .ref h3, .ref h2, .int 0, .int 4, .int 0, .int 0, .int 0, .int 0])), (h4, .inr (4, [.ref (f4 0), .ref (f4 1), .ref (f4 2), .int 4])), (f4 0, .inl (g_ca X 0, 7, .inl g_d0)), (f4 1, .inl (g_ca X 0, 7, .inl g_m0)), (f4 2, .inl (g_ca X 0, 7, .inl (n_r0 7))), (h5, .inr (5, [.ref (f5 0), .ref (f5 1), .ref (f5 2), .int 0])), (f5 0, .inl (g_ca X 0, 8, .inl (fun _ => 0))), (f5 1, .inl (g_ca X 0, 8, .inl (fun _ => 0))), (f5 2, .inl (g_ca X 0, 8, .inl (fun _ => 0))), (q9, .inl (g_ca X 2, 6, .inr (.inr (.inr (.inr (va_up (va_up (va_up (va_up (va_up (fun _ => none) (0 : Int32).toNatClampNeg (some v0)) (1 : Int32).toNatClampNeg (some v1)) (2 : Int32).toNatClampNeg (some v2)) (3 : Int32).toNatClampNeg (some v3)) (4 : Int32).toNatClampNeg (some v4))))))), (h3, .inr (3, [.ref (f3 0), .ref (f3 1), .ref (f3 2), .int 0, .int 0])), (f3 0, .inl (g_ca X 0, 10, .inl (fun _ => 0))), (f3 1, .inl (g_ca X 0, 10, .inl (fun _ => 0))), (f3 2, .inl (g_ca X 0, 10, .inl (fun _ => 0))), (h2, .inr (2, [.ref (f2 0), .ref (f2 1), .ref (f2 2), .int 0, .int 0])), (f2 0, .inl (g_ca X 0, 12, .inl (fun _ => 0))), (f2 1, .inl (g_ca X 0, 12, .inl (fun _ => 0))), (f2 2, .inl (g_ca X 0, 12, .inl (fun _ => 0))), (v0, .inr (1, [.int 0, .int 0, .int 0, .int (-1), .int 0, .int (-1), .int 0, .int 0, .int 0])), (v1, .inr (1, [.int 0, .int 0, .int 0, .int (-1), .int 0, .int (-1), .int 0, .int 0, .int 0])), (v2, .inr (1, [.int 0, .int 0, .int 0, .int (-1), .int 0, .int (-1), .int 0, .int 0, .int 0])), (v3, .inr (1, [.int 0, .int 0, .int 0, .int (-1), .int 0, .int (-1), .int 0, .int 0, .int 0])), (v4, .inr (1, [.int 0, .int 0, .int 0, .int (-1), .int 0, .int (-1), .int 0, .int 0, .int 0])), (v5, .inr (1, [.int 0, .int 0, .int 0, .int (-1), .int 0, .int (-1), .int 0, .int 0, .int 0]))]) rfl ?_
  refine n_astq O 9 2 23 1 rfl rfl rfl rfl (g_vin (by decide) (by decide)) dX0_init_112 ?_
  refine n_same (ws' := [(a, .inr (0, [.ref h4, .ref h5, .ref q9, .int 0, .ref h3, .ref h2, .int 0, .int 4, .int 0, .int 0, .int 0, .int 0])), (h4, .inr (4, [.ref (f4 0), .ref (f4 1), .ref (f4 2), .int 4])), (f4 0, .inl (g_ca X 0, 7, .inl g_d0)), (f4 1, .inl (g_ca X 0, 7, .inl g_m0)), (f4 2, .inl (g_ca X 0, 7, .inl (n_r0 7))), (h5, .inr (5, [.ref (f5 0), .ref (f5 1), .ref (f5 2), .int 0])), (f5 0, .inl (g_ca X 0, 8, .inl (fun _ => 0))), (f5 1, .inl (g_ca X 0, 8, .inl (fun _ => 0))), (f5 2, .inl (g_ca X 0, 8, .inl (fun _ => 0))), (q9, .inl (g_ca X 2, 6, .inr (.inr (.inr (.inr (va_up (va_up (va_up (va_up (va_up (va_up (fun _ => none) (0 : Int32).toNatClampNeg (some v0)) (1 : Int32).toNatClampNeg (some v1)) (2 : Int32).toNatClampNeg (some v2)) (3 : Int32).toNatClampNeg (some v3)) (4 : Int32).toNatClampNeg (some v4)) (5 : Int32).toNatClampNeg (some v5))))))), (h3, .inr (3, [.ref (f3 0), .ref (f3 1), .ref (f3 2), .int 0, .int 0])), (f3 0, .inl (g_ca X 0, 10, .inl (fun _ => 0))), (f3 1, .inl (g_ca X 0, 10, .inl (fun _ => 0))), (f3 2, .inl (g_ca X 0, 10, .inl (fun _ => 0))), (h2, .inr (2, [.ref (f2 0), .ref (f2 1), .ref (f2 2), .int 0, .int 0])), (f2 0, .inl (g_ca X 0, 12, .inl (fun _ => 0))), (f2 1, .inl (g_ca X 0, 12, .inl (fun _ => 0))), (f2 2, .inl (g_ca X 0, 12, .inl (fun _ => 0))), (v0, .inr (1, [.int 0, .int 0, .int 0, .int (-1), .int 0, .int (-1), .int 0, .int 0, .int 0])), (v1, .inr (1, [.int 0, .int 0, .int 0, .int (-1), .int 0, .int (-1), .int 0, .int 0, .int 0])), (v2, .inr (1, [.int 0, .int 0, .int 0, .int (-1), .int 0, .int (-1), .int 0, .int 0, .int 0])), (v3, .inr (1, [.int 0, .int 0, .int 0, .int (-1), .int 0, .int (-1), .int 0, .int 0, .int 0])), (v4, .inr (1, [.int 0, .int 0, .int 0, .int (-1), .int 0, .int (-1), .int 0, .int 0, .int 0])), (v5, .inr (1, [.int 0, .int 0, .int 0, .int (-1), .int 0, .int (-1), .int 0, .int 0, .int 0]))]) rfl ?_
  refine n_iinc (y := 6) (lc' := [(1, .int 6), (0, .ref a)]) O 0 dX0_init_113 rfl rfl (by rw [hn]; decide) rfl ?_
  refine n_goto O 94 dX0_init_116 (by decide) ?_
  refine n_iload O 0 dX0_init_94 rfl rfl ?_
  refine n_bipush (x := 6) O dX0_init_95 rfl ?_
  refine n_icmp_ge O 119 dX0_init_97 (by decide) (fun _ => ?_) (fun c => absurd (by decide) c)
  obtain ⟨F, hF⟩ : ∃ F : Nat → Nat, F = (fun j => match j with | 1 => h4 | 2 => f4 0 | 3 => f4 1 | 4 => f4 2 | 5 => h5 | 6 => f5 0 | 7 => f5 1 | 8 => f5 2 | 9 => q9 | 10 => v0 | 11 => v1 | 12 => v2 | 13 => v3 | 14 => v4 | 15 => v5 | 16 => h3 | 17 => f3 0 | 18 => f3 1 | 19 => f3 2 | 20 => h2 | 21 => f2 0 | 22 => f2 1 | 23 => f2 2 | _ => a) := ⟨_, rfl⟩
  have e1 : n_ad0 a F 1 = h4 := by rw [hF]; rfl
  have e2 : n_ad0 a F 2 = f4 0 := by rw [hF]; rfl
  have e3 : n_ad0 a F 3 = f4 1 := by rw [hF]; rfl
  have e4 : n_ad0 a F 4 = f4 2 := by rw [hF]; rfl
  have e5 : n_ad0 a F 5 = h5 := by rw [hF]; rfl
  have e6 : n_ad0 a F 6 = f5 0 := by rw [hF]; rfl
  have e7 : n_ad0 a F 7 = f5 1 := by rw [hF]; rfl
  have e8 : n_ad0 a F 8 = f5 2 := by rw [hF]; rfl
  have e9 : n_ad0 a F 9 = q9 := by rw [hF]; rfl
  have e10 : n_ad0 a F 10 = v0 := by rw [hF]; rfl
  have e11 : n_ad0 a F 11 = v1 := by rw [hF]; rfl
  have e12 : n_ad0 a F 12 = v2 := by rw [hF]; rfl
  have e13 : n_ad0 a F 13 = v3 := by rw [hF]; rfl
  have e14 : n_ad0 a F 14 = v4 := by rw [hF]; rfl
  have e15 : n_ad0 a F 15 = v5 := by rw [hF]; rfl
  have e16 : n_ad0 a F 16 = h3 := by rw [hF]; rfl
  have e17 : n_ad0 a F 17 = f3 0 := by rw [hF]; rfl
  have e18 : n_ad0 a F 18 = f3 1 := by rw [hF]; rfl
  have e19 : n_ad0 a F 19 = f3 2 := by rw [hF]; rfl
  have e20 : n_ad0 a F 20 = h2 := by rw [hF]; rfl
  have e21 : n_ad0 a F 21 = f2 0 := by rw [hF]; rfl
  have e22 : n_ad0 a F 22 = f2 1 := by rw [hF]; rfl
  have e23 : n_ad0 a F 23 = f2 2 := by rw [hF]; rfl
  have e0 : n_ad0 a F 0 = a := rfl
  refine n_conv (ws' := n_cave (g_ca X) (n_ad0 a F)) (n_pm n_p0 (fun i j hi hj h => n_p0_inj i (by simpa [n_cave] using hi) j (by simpa [n_cave] using hj) h) (fun i q hq => ?_)) ?_
  · obtain ⟨hi, rfl⟩ := n_rg hq
    have hc : i = 0 ∨ i = 1 ∨ i = 2 ∨ i = 3 ∨ i = 4 ∨ i = 5 ∨ i = 6 ∨ i = 7 ∨ i = 8 ∨ i = 9 ∨ i = 10 ∨ i = 11 ∨ i = 12 ∨ i = 13 ∨ i = 14 ∨ i = 15 ∨ i = 16 ∨ i = 17 ∨ i = 18 ∨ i = 19 ∨ i = 20 ∨ i = 21 ∨ i = 22 ∨ i = 23 := by omega
    rcases hc with rfl | rfl | rfl | rfl | rfl | rfl | rfl | rfl | rfl | rfl | rfl | rfl | rfl | rfl | rfl | rfl | rfl | rfl | rfl | rfl | rfl | rfl | rfl | rfl
    · refine ⟨.inr (0, [.ref h4, .ref h5, .ref q9, .int 0, .ref h3, .ref h2, .int 0, .int 4, .int 0, .int 0, .int 0, .int 0]), by dsimp only; rw [e0]; rfl, n_eq_of ?_⟩
      rw [gce_0, e1, e5, e9, e16, e20]
    · refine ⟨.inr (4, [.ref (f4 0), .ref (f4 1), .ref (f4 2), .int 4]), by dsimp only; rw [e1]; rfl, n_eq_of ?_⟩
      rw [gce_1, e2, e3, e4]
    · exact ⟨.inl (g_ca X 0, 7, .inl g_d0), by dsimp only; rw [e2]; rfl, n_eq_i (show ∀ t, t < 7 → g_d0 t = g_ar g_m1 0 2 7 t from by decide +kernel)⟩
    · exact ⟨.inl (g_ca X 0, 7, .inl g_m0), by dsimp only; rw [e3]; rfl, n_eq_i (show ∀ t, t < 7 → g_m0 t = g_ar g_m1 0 3 7 t from by decide +kernel)⟩
    · exact ⟨.inl (g_ca X 0, 7, .inl (n_r0 7)), by dsimp only; rw [e4]; rfl, n_eq_i (show ∀ t, t < 7 → n_r0 7 t = g_ar g_m1 0 4 7 t from by decide +kernel)⟩
    · refine ⟨.inr (5, [.ref (f5 0), .ref (f5 1), .ref (f5 2), .int 0]), by dsimp only; rw [e5]; rfl, n_eq_of ?_⟩
      rw [gce_5, e6, e7, e8]
    · exact ⟨.inl (g_ca X 0, 8, .inl (fun _ => 0)), by dsimp only; rw [e6]; rfl, n_eq_i (show ∀ t, t < 8 → (fun _ => (0 : Int32)) t = g_ar g_m1 0 6 8 t from by decide +kernel)⟩
    · exact ⟨.inl (g_ca X 0, 8, .inl (fun _ => 0)), by dsimp only; rw [e7]; rfl, n_eq_i (show ∀ t, t < 8 → (fun _ => (0 : Int32)) t = g_ar g_m1 0 7 8 t from by decide +kernel)⟩
    · exact ⟨.inl (g_ca X 0, 8, .inl (fun _ => 0)), by dsimp only; rw [e8]; rfl, n_eq_i (show ∀ t, t < 8 → (fun _ => (0 : Int32)) t = g_ar g_m1 0 8 8 t from by decide +kernel)⟩
    · refine ⟨.inl (g_ca X 2, 6, .inr (.inr (.inr (.inr (va_up (va_up (va_up (va_up (va_up (va_up (fun _ => none) (0 : Int32).toNatClampNeg (some v0)) (1 : Int32).toNatClampNeg (some v1)) (2 : Int32).toNatClampNeg (some v2)) (3 : Int32).toNatClampNeg (some v3)) (4 : Int32).toNatClampNeg (some v4)) (5 : Int32).toNatClampNeg (some v5)))))), by dsimp only; rw [e9]; rfl, ?_⟩
      refine n_eq_q (g := fun t => cond (Nat.blt t 6) (some (n_ad0 a F (24 * 0 + (10 + t)))) none) (fun t ht => ?_)
      have ht : t = 0 ∨ t = 1 ∨ t = 2 ∨ t = 3 ∨ t = 4 ∨ t = 5 := by omega
      rcases ht with rfl | rfl | rfl | rfl | rfl | rfl
      · show _ = some (n_ad0 a F 10)
        rw [e10]; rfl
      · show _ = some (n_ad0 a F 11)
        rw [e11]; rfl
      · show _ = some (n_ad0 a F 12)
        rw [e12]; rfl
      · show _ = some (n_ad0 a F 13)
        rw [e13]; rfl
      · show _ = some (n_ad0 a F 14)
        rw [e14]; rfl
      · show _ = some (n_ad0 a F 15)
        rw [e15]; rfl
    · refine ⟨.inr (1, [.int 0, .int 0, .int 0, .int (-1), .int 0, .int (-1), .int 0, .int 0, .int 0]), by dsimp only; rw [e10]; rfl, n_eq_of ?_⟩
      rw [gce_10]
    · refine ⟨.inr (1, [.int 0, .int 0, .int 0, .int (-1), .int 0, .int (-1), .int 0, .int 0, .int 0]), by dsimp only; rw [e11]; rfl, n_eq_of ?_⟩
      rw [gce_11]
    · refine ⟨.inr (1, [.int 0, .int 0, .int 0, .int (-1), .int 0, .int (-1), .int 0, .int 0, .int 0]), by dsimp only; rw [e12]; rfl, n_eq_of ?_⟩
      rw [gce_12]
    · refine ⟨.inr (1, [.int 0, .int 0, .int 0, .int (-1), .int 0, .int (-1), .int 0, .int 0, .int 0]), by dsimp only; rw [e13]; rfl, n_eq_of ?_⟩
      rw [gce_13]
    · refine ⟨.inr (1, [.int 0, .int 0, .int 0, .int (-1), .int 0, .int (-1), .int 0, .int 0, .int 0]), by dsimp only; rw [e14]; rfl, n_eq_of ?_⟩
      rw [gce_14]
    · refine ⟨.inr (1, [.int 0, .int 0, .int 0, .int (-1), .int 0, .int (-1), .int 0, .int 0, .int 0]), by dsimp only; rw [e15]; rfl, n_eq_of ?_⟩
      rw [gce_15]
    · refine ⟨.inr (3, [.ref (f3 0), .ref (f3 1), .ref (f3 2), .int 0, .int 0]), by dsimp only; rw [e16]; rfl, n_eq_of ?_⟩
      rw [gce_16, e17, e18, e19]
    · exact ⟨.inl (g_ca X 0, 10, .inl (fun _ => 0)), by dsimp only; rw [e17]; rfl, n_eq_i (show ∀ t, t < 10 → (fun _ => (0 : Int32)) t = g_ar g_m1 0 17 10 t from by decide +kernel)⟩
    · exact ⟨.inl (g_ca X 0, 10, .inl (fun _ => 0)), by dsimp only; rw [e18]; rfl, n_eq_i (show ∀ t, t < 10 → (fun _ => (0 : Int32)) t = g_ar g_m1 0 18 10 t from by decide +kernel)⟩
    · exact ⟨.inl (g_ca X 0, 10, .inl (fun _ => 0)), by dsimp only; rw [e19]; rfl, n_eq_i (show ∀ t, t < 10 → (fun _ => (0 : Int32)) t = g_ar g_m1 0 19 10 t from by decide +kernel)⟩
    · refine ⟨.inr (2, [.ref (f2 0), .ref (f2 1), .ref (f2 2), .int 0, .int 0]), by dsimp only; rw [e20]; rfl, n_eq_of ?_⟩
      rw [gce_20, e21, e22, e23]
    · exact ⟨.inl (g_ca X 0, 12, .inl (fun _ => 0)), by dsimp only; rw [e21]; rfl, n_eq_i (show ∀ t, t < 12 → (fun _ => (0 : Int32)) t = g_ar g_m1 0 21 12 t from by decide +kernel)⟩
    · exact ⟨.inl (g_ca X 0, 12, .inl (fun _ => 0)), by dsimp only; rw [e22]; rfl, n_eq_i (show ∀ t, t < 12 → (fun _ => (0 : Int32)) t = g_ar g_m1 0 22 12 t from by decide +kernel)⟩
    · exact ⟨.inl (g_ca X 0, 12, .inl (fun _ => 0)), by dsimp only; rw [e23]; rfl, n_eq_i (show ∀ t, t < 12 → (fun _ => (0 : Int32)) t = g_ar g_m1 0 23 12 t from by decide +kernel)⟩
  · exact n_ret O F rfl dX0_init_119 (by decide) (by decide)
