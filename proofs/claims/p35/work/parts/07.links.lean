/-! ===== links: what the constant pools name ===== -/
theorem uX0_0 : u_lay RX0 TX0 0 ∈ gW := gW_in (i := 210) (by decide +kernel) rfl
theorem uX0_1 : u_lay RX0 TX0 1 ∈ gW := gW_in (i := 212) (by decide +kernel) rfl
theorem uX0_2 : u_lay RX0 TX0 2 ∈ gW := gW_in (i := 214) (by decide +kernel) rfl
theorem uX0_3 : u_lay RX0 TX0 3 ∈ gW := gW_in (i := 216) (by decide +kernel) rfl
theorem uX0_4 : u_lay RX0 TX0 4 ∈ gW := gW_in (i := 218) (by decide +kernel) rfl
theorem uX0_5 : u_lay RX0 TX0 5 ∈ gW := gW_in (i := 220) (by decide +kernel) rfl
theorem uX0_6 : u_lay RX0 TX0 6 ∈ gW := gW_in (i := 222) (by decide +kernel) rfl
theorem uX0_7 : u_lay RX0 TX0 7 ∈ gW := gW_in (i := 224) (by decide +kernel) rfl
theorem uX0_8 : u_lay RX0 TX0 8 ∈ gW := gW_in (i := 226) (by decide +kernel) rfl
theorem uX0_9 : u_lay RX0 TX0 9 ∈ gW := gW_in (i := 228) (by decide +kernel) rfl
theorem uX0_10 : u_lay RX0 TX0 10 ∈ gW := gW_in (i := 230) (by decide +kernel) rfl
theorem uX0_11 : u_lay RX0 TX0 11 ∈ gW := gW_in (i := 232) (by decide +kernel) rfl
theorem uX0 : ∀ w ∈ u_ws RX0 TX0 12, w ∈ gW := by
  intro w hw
  obtain ⟨k, hk, rfl⟩ := List.mem_map.mp hw
  have hk := List.mem_range.mp hk
  match k, hk with
  | 0, _ => exact uX0_0
  | 1, _ => exact uX0_1
  | 2, _ => exact uX0_2
  | 3, _ => exact uX0_3
  | 4, _ => exact uX0_4
  | 5, _ => exact uX0_5
  | 6, _ => exact uX0_6
  | 7, _ => exact uX0_7
  | 8, _ => exact uX0_8
  | 9, _ => exact uX0_9
  | 10, _ => exact uX0_10
  | 11, _ => exact uX0_11
  | k + 12, h => exact absurd h (by omega)
theorem uX1_0 : u_lay RX1 TX1 0 ∈ gW := gW_in (i := 170) (by decide +kernel) rfl
theorem uX1_1 : u_lay RX1 TX1 1 ∈ gW := gW_in (i := 172) (by decide +kernel) rfl
theorem uX1_2 : u_lay RX1 TX1 2 ∈ gW := gW_in (i := 174) (by decide +kernel) rfl
theorem uX1_3 : u_lay RX1 TX1 3 ∈ gW := gW_in (i := 176) (by decide +kernel) rfl
theorem uX1_4 : u_lay RX1 TX1 4 ∈ gW := gW_in (i := 178) (by decide +kernel) rfl
theorem uX1_5 : u_lay RX1 TX1 5 ∈ gW := gW_in (i := 180) (by decide +kernel) rfl
theorem uX1_6 : u_lay RX1 TX1 6 ∈ gW := gW_in (i := 182) (by decide +kernel) rfl
theorem uX1_7 : u_lay RX1 TX1 7 ∈ gW := gW_in (i := 184) (by decide +kernel) rfl
theorem uX1_8 : u_lay RX1 TX1 8 ∈ gW := gW_in (i := 186) (by decide +kernel) rfl
theorem uX1 : ∀ w ∈ u_ws RX1 TX1 9, w ∈ gW := by
  intro w hw
  obtain ⟨k, hk, rfl⟩ := List.mem_map.mp hw
  have hk := List.mem_range.mp hk
  match k, hk with
  | 0, _ => exact uX1_0
  | 1, _ => exact uX1_1
  | 2, _ => exact uX1_2
  | 3, _ => exact uX1_3
  | 4, _ => exact uX1_4
  | 5, _ => exact uX1_5
  | 6, _ => exact uX1_6
  | 7, _ => exact uX1_7
  | 8, _ => exact uX1_8
  | k + 9, h => exact absurd h (by omega)
theorem uX2_0 : u_lay RX2 TX2 0 ∈ gW := gW_in (i := 136) (by decide +kernel) rfl
theorem uX2_1 : u_lay RX2 TX2 1 ∈ gW := gW_in (i := 138) (by decide +kernel) rfl
theorem uX2_2 : u_lay RX2 TX2 2 ∈ gW := gW_in (i := 140) (by decide +kernel) rfl
theorem uX2_3 : u_lay RX2 TX2 3 ∈ gW := gW_in (i := 142) (by decide +kernel) rfl
theorem uX2_4 : u_lay RX2 TX2 4 ∈ gW := gW_in (i := 144) (by decide +kernel) rfl
theorem uX2 : ∀ w ∈ u_ws RX2 TX2 5, w ∈ gW := by
  intro w hw
  obtain ⟨k, hk, rfl⟩ := List.mem_map.mp hw
  have hk := List.mem_range.mp hk
  match k, hk with
  | 0, _ => exact uX2_0
  | 1, _ => exact uX2_1
  | 2, _ => exact uX2_2
  | 3, _ => exact uX2_3
  | 4, _ => exact uX2_4
  | k + 5, h => exact absurd h (by omega)
theorem uX3_0 : u_lay RX3 TX3 0 ∈ gW := gW_in (i := 111) (by decide +kernel) rfl
theorem uX3_1 : u_lay RX3 TX3 1 ∈ gW := gW_in (i := 113) (by decide +kernel) rfl
theorem uX3_2 : u_lay RX3 TX3 2 ∈ gW := gW_in (i := 115) (by decide +kernel) rfl
theorem uX3_3 : u_lay RX3 TX3 3 ∈ gW := gW_in (i := 117) (by decide +kernel) rfl
theorem uX3_4 : u_lay RX3 TX3 4 ∈ gW := gW_in (i := 119) (by decide +kernel) rfl
theorem uX3 : ∀ w ∈ u_ws RX3 TX3 5, w ∈ gW := by
  intro w hw
  obtain ⟨k, hk, rfl⟩ := List.mem_map.mp hw
  have hk := List.mem_range.mp hk
  match k, hk with
  | 0, _ => exact uX3_0
  | 1, _ => exact uX3_1
  | 2, _ => exact uX3_2
  | 3, _ => exact uX3_3
  | 4, _ => exact uX3_4
  | k + 5, h => exact absurd h (by omega)
theorem uX4_0 : u_lay RX4 TX4 0 ∈ gW := gW_in (i := 64) (by decide +kernel) rfl
theorem uX4_1 : u_lay RX4 TX4 1 ∈ gW := gW_in (i := 66) (by decide +kernel) rfl
theorem uX4_2 : u_lay RX4 TX4 2 ∈ gW := gW_in (i := 68) (by decide +kernel) rfl
theorem uX4_3 : u_lay RX4 TX4 3 ∈ gW := gW_in (i := 70) (by decide +kernel) rfl
theorem uX4 : ∀ w ∈ u_ws RX4 TX4 4, w ∈ gW := by
  intro w hw
  obtain ⟨k, hk, rfl⟩ := List.mem_map.mp hw
  have hk := List.mem_range.mp hk
  match k, hk with
  | 0, _ => exact uX4_0
  | 1, _ => exact uX4_1
  | 2, _ => exact uX4_2
  | 3, _ => exact uX4_3
  | k + 4, h => exact absurd h (by omega)
theorem uX5_0 : u_lay RX5 TX5 0 ∈ gW := gW_in (i := 86) (by decide +kernel) rfl
theorem uX5_1 : u_lay RX5 TX5 1 ∈ gW := gW_in (i := 88) (by decide +kernel) rfl
theorem uX5_2 : u_lay RX5 TX5 2 ∈ gW := gW_in (i := 90) (by decide +kernel) rfl
theorem uX5_3 : u_lay RX5 TX5 3 ∈ gW := gW_in (i := 92) (by decide +kernel) rfl
theorem uX5 : ∀ w ∈ u_ws RX5 TX5 4, w ∈ gW := by
  intro w hw
  obtain ⟨k, hk, rfl⟩ := List.mem_map.mp hw
  have hk := List.mem_range.mp hk
  match k, hk with
  | 0, _ => exact uX5_0
  | 1, _ => exact uX5_1
  | 2, _ => exact uX5_2
  | 3, _ => exact uX5_3
  | k + 4, h => exact absurd h (by omega)
theorem uX6_0 : u_lay RX6 TX6 0 ∈ gW := gW_in (i := 244) (by decide +kernel) rfl
theorem uX6_1 : u_lay RX6 TX6 1 ∈ gW := gW_in (i := 246) (by decide +kernel) rfl
theorem uX6 : ∀ w ∈ u_ws RX6 TX6 2, w ∈ gW := by
  intro w hw
  obtain ⟨k, hk, rfl⟩ := List.mem_map.mp hw
  have hk := List.mem_range.mp hk
  match k, hk with
  | 0, _ => exact uX6_0
  | 1, _ => exact uX6_1
  | k + 2, h => exact absurd h (by omega)
theorem uX7_0 : u_lay RX7 TX7 0 ∈ gW := gW_in (i := 253) (by decide +kernel) rfl
theorem uX7_1 : u_lay RX7 TX7 1 ∈ gW := gW_in (i := 255) (by decide +kernel) rfl
theorem uX7_2 : u_lay RX7 TX7 2 ∈ gW := gW_in (i := 257) (by decide +kernel) rfl
theorem uX7_3 : u_lay RX7 TX7 3 ∈ gW := gW_in (i := 259) (by decide +kernel) rfl
theorem uX7 : ∀ w ∈ u_ws RX7 TX7 4, w ∈ gW := by
  intro w hw
  obtain ⟨k, hk, rfl⟩ := List.mem_map.mp hw
  have hk := List.mem_range.mp hk
  match k, hk with
  | 0, _ => exact uX7_0
  | 1, _ => exact uX7_1
  | 2, _ => exact uX7_2
  | 3, _ => exact uX7_3
  | k + 4, h => exact absurd h (by omega)
theorem w_ini_X0 : Cond.initialized RX0 ∈ gW := gW_in (i := 12) (by decide +kernel) rfl
theorem w_ini_X1 : Cond.initialized RX1 ∈ gW := gW_in (i := 17) (by decide +kernel) rfl
theorem w_ini_X2 : Cond.initialized RX2 ∈ gW := gW_in (i := 16) (by decide +kernel) rfl
theorem w_ini_X3 : Cond.initialized RX3 ∈ gW := gW_in (i := 15) (by decide +kernel) rfl
theorem w_ini_X4 : Cond.initialized RX4 ∈ gW := gW_in (i := 13) (by decide +kernel) rfl
theorem w_ini_X5 : Cond.initialized RX5 ∈ gW := gW_in (i := 14) (by decide +kernel) rfl
theorem w_ini_X6 : Cond.initialized RX6 ∈ gW := gW_in (i := 18) (by decide +kernel) rfl
theorem w_ini_X7 : Cond.initialized RX7 ∈ gW := gW_in (i := 11) (by decide +kernel) rfl
theorem w_ini_J6 : Cond.initialized RJ6 ∈ gW := gW_in (i := 26) (by decide +kernel) rfl
theorem w_ini_J9 : Cond.initialized RJ9 ∈ gW := gW_in (i := 24) (by decide +kernel) rfl
theorem w_ini_L : Cond.initialized RL ∈ gW := gW_in (i := 10) (by decide +kernel) rfl
theorem w_fl_X0_103 : Cond.fieldLink RX0 103 (TX1 2).1 (TX1 2).2.1 (TX1 2).2.2.1 ∈ gW := gW_in (i := 157) (by decide +kernel) rfl
theorem FX0_103 : g_FL RX0 103 1 2 := ⟨RX1, TX1, 9, rfl, by decide, uX1, w_fl_X0_103⟩
theorem FPX0_103 (x : Int32) : g_FP RX0 103 1 2 (.int x) := ⟨RX1, TX1, 9, tyX1, rfl, by decide, uX1, w_fl_X0_103, tyX1_ok, nmX1, rfl, rfl, rfl⟩
theorem w_fl_X0_110 : Cond.fieldLink RX0 110 (TX1 1).1 (TX1 1).2.1 (TX1 1).2.2.1 ∈ gW := gW_in (i := 155) (by decide +kernel) rfl
theorem FX0_110 : g_FL RX0 110 1 1 := ⟨RX1, TX1, 9, rfl, by decide, uX1, w_fl_X0_110⟩
theorem FPX0_110 (x : Int32) : g_FP RX0 110 1 1 (.int x) := ⟨RX1, TX1, 9, tyX1, rfl, by decide, uX1, w_fl_X0_110, tyX1_ok, nmX1, rfl, rfl, rfl⟩
theorem w_fl_X0_12 : Cond.fieldLink RX0 12 (TX0 0).1 (TX0 0).2.1 (TX0 0).2.2.1 ∈ gW := gW_in (i := 189) (by decide +kernel) rfl
theorem FX0_12 : g_FL RX0 12 0 0 := ⟨RX0, TX0, 12, rfl, by decide, uX0, w_fl_X0_12⟩
theorem w_fl_X0_123 : Cond.fieldLink RX0 123 (TX1 7).1 (TX1 7).2.1 (TX1 7).2.2.1 ∈ gW := gW_in (i := 167) (by decide +kernel) rfl
theorem FX0_123 : g_FL RX0 123 1 7 := ⟨RX1, TX1, 9, rfl, by decide, uX1, w_fl_X0_123⟩
theorem FPX0_123 (x : Int32) : g_FP RX0 123 1 7 (.int x) := ⟨RX1, TX1, 9, tyX1, rfl, by decide, uX1, w_fl_X0_123, tyX1_ok, nmX1, rfl, rfl, rfl⟩
theorem w_fl_X0_129 : Cond.fieldLink RX0 129 (TX1 0).1 (TX1 0).2.1 (TX1 0).2.2.1 ∈ gW := gW_in (i := 153) (by decide +kernel) rfl
theorem FX0_129 : g_FL RX0 129 1 0 := ⟨RX1, TX1, 9, rfl, by decide, uX1, w_fl_X0_129⟩
theorem FPX0_129 (x : Int32) : g_FP RX0 129 1 0 (.int x) := ⟨RX1, TX1, 9, tyX1, rfl, by decide, uX1, w_fl_X0_129, tyX1_ok, nmX1, rfl, rfl, rfl⟩
theorem w_fl_X0_132 : Cond.fieldLink RX0 132 (TX4 3).1 (TX4 3).2.1 (TX4 3).2.2.1 ∈ gW := gW_in (i := 63) (by decide +kernel) rfl
theorem FX0_132 : g_FL RX0 132 4 3 := ⟨RX4, TX4, 4, rfl, by decide, uX4, w_fl_X0_132⟩
theorem FPX0_132 (x : Int32) : g_FP RX0 132 4 3 (.int x) := ⟨RX4, TX4, 4, tyX4, rfl, by decide, uX4, w_fl_X0_132, tyX4_ok, nmX4, rfl, rfl, rfl⟩
theorem w_fl_X0_142 : Cond.fieldLink RX0 142 (TX1 6).1 (TX1 6).2.1 (TX1 6).2.2.1 ∈ gW := gW_in (i := 165) (by decide +kernel) rfl
theorem FX0_142 : g_FL RX0 142 1 6 := ⟨RX1, TX1, 9, rfl, by decide, uX1, w_fl_X0_142⟩
theorem FPX0_142 (x : Int32) : g_FP RX0 142 1 6 (.int x) := ⟨RX1, TX1, 9, tyX1, rfl, by decide, uX1, w_fl_X0_142, tyX1_ok, nmX1, rfl, rfl, rfl⟩
theorem w_fl_X0_166 : Cond.fieldLink RX0 166 (TX1 5).1 (TX1 5).2.1 (TX1 5).2.2.1 ∈ gW := gW_in (i := 163) (by decide +kernel) rfl
theorem FX0_166 : g_FL RX0 166 1 5 := ⟨RX1, TX1, 9, rfl, by decide, uX1, w_fl_X0_166⟩
theorem FPX0_166 (x : Int32) : g_FP RX0 166 1 5 (.int x) := ⟨RX1, TX1, 9, tyX1, rfl, by decide, uX1, w_fl_X0_166, tyX1_ok, nmX1, rfl, rfl, rfl⟩
theorem w_fl_X0_186 : Cond.fieldLink RX0 186 (TX1 4).1 (TX1 4).2.1 (TX1 4).2.2.1 ∈ gW := gW_in (i := 161) (by decide +kernel) rfl
theorem FX0_186 : g_FL RX0 186 1 4 := ⟨RX1, TX1, 9, rfl, by decide, uX1, w_fl_X0_186⟩
theorem FPX0_186 (x : Int32) : g_FP RX0 186 1 4 (.int x) := ⟨RX1, TX1, 9, tyX1, rfl, by decide, uX1, w_fl_X0_186, tyX1_ok, nmX1, rfl, rfl, rfl⟩
theorem w_fl_X0_204 : Cond.fieldLink RX0 204 (TX1 8).1 (TX1 8).2.1 (TX1 8).2.2.1 ∈ gW := gW_in (i := 169) (by decide +kernel) rfl
theorem FX0_204 : g_FL RX0 204 1 8 := ⟨RX1, TX1, 9, rfl, by decide, uX1, w_fl_X0_204⟩
theorem FPX0_204 {x : Int32} (h : x = 0 ∨ x = 1) : g_FP RX0 204 1 8 (.int x) := by
  rcases h with rfl | rfl <;> exact ⟨RX1, TX1, 9, tyX1, rfl, by decide, uX1, w_fl_X0_204, tyX1_ok, nmX1, rfl, rfl, rfl⟩
theorem w_fl_X0_21 : Cond.fieldLink RX0 21 (TX0 1).1 (TX0 1).2.1 (TX0 1).2.2.1 ∈ gW := gW_in (i := 191) (by decide +kernel) rfl
theorem FX0_21 : g_FL RX0 21 0 1 := ⟨RX0, TX0, 12, rfl, by decide, uX0, w_fl_X0_21⟩
theorem w_fl_X0_231 : Cond.fieldLink RX0 231 (TX1 3).1 (TX1 3).2.1 (TX1 3).2.2.1 ∈ gW := gW_in (i := 159) (by decide +kernel) rfl
theorem FX0_231 : g_FL RX0 231 1 3 := ⟨RX1, TX1, 9, rfl, by decide, uX1, w_fl_X0_231⟩
theorem FPX0_231 (x : Int32) : g_FP RX0 231 1 3 (.int x) := ⟨RX1, TX1, 9, tyX1, rfl, by decide, uX1, w_fl_X0_231, tyX1_ok, nmX1, rfl, rfl, rfl⟩
theorem w_fl_X0_27 : Cond.fieldLink RX0 27 (TX0 2).1 (TX0 2).2.1 (TX0 2).2.2.1 ∈ gW := gW_in (i := 193) (by decide +kernel) rfl
theorem FX0_27 : g_FL RX0 27 0 2 := ⟨RX0, TX0, 12, rfl, by decide, uX0, w_fl_X0_27⟩
theorem w_fl_X0_31 : Cond.fieldLink RX0 31 (TX0 3).1 (TX0 3).2.1 (TX0 3).2.2.1 ∈ gW := gW_in (i := 195) (by decide +kernel) rfl
theorem FX0_31 : g_FL RX0 31 0 3 := ⟨RX0, TX0, 12, rfl, by decide, uX0, w_fl_X0_31⟩
theorem FPX0_31 (x : Int32) : g_FP RX0 31 0 3 (.int x) := ⟨RX0, TX0, 12, tyX0, rfl, by decide, uX0, w_fl_X0_31, tyX0_ok, nmX0, rfl, rfl, rfl⟩
theorem w_fl_X0_38 : Cond.fieldLink RX0 38 (TX0 4).1 (TX0 4).2.1 (TX0 4).2.2.1 ∈ gW := gW_in (i := 197) (by decide +kernel) rfl
theorem FX0_38 : g_FL RX0 38 0 4 := ⟨RX0, TX0, 12, rfl, by decide, uX0, w_fl_X0_38⟩
theorem w_fl_X0_45 : Cond.fieldLink RX0 45 (TX0 5).1 (TX0 5).2.1 (TX0 5).2.2.1 ∈ gW := gW_in (i := 199) (by decide +kernel) rfl
theorem FX0_45 : g_FL RX0 45 0 5 := ⟨RX0, TX0, 12, rfl, by decide, uX0, w_fl_X0_45⟩
theorem w_fl_X0_49 : Cond.fieldLink RX0 49 (TX0 6).1 (TX0 6).2.1 (TX0 6).2.2.1 ∈ gW := gW_in (i := 201) (by decide +kernel) rfl
theorem FX0_49 : g_FL RX0 49 0 6 := ⟨RX0, TX0, 12, rfl, by decide, uX0, w_fl_X0_49⟩
theorem FPX0_49 (x : Int32) : g_FP RX0 49 0 6 (.int x) := ⟨RX0, TX0, 12, tyX0, rfl, by decide, uX0, w_fl_X0_49, tyX0_ok, nmX0, rfl, rfl, rfl⟩
theorem w_fl_X0_52 : Cond.fieldLink RX0 52 (TX0 7).1 (TX0 7).2.1 (TX0 7).2.2.1 ∈ gW := gW_in (i := 203) (by decide +kernel) rfl
theorem FX0_52 : g_FL RX0 52 0 7 := ⟨RX0, TX0, 12, rfl, by decide, uX0, w_fl_X0_52⟩
theorem FPX0_52 (x : Int32) : g_FP RX0 52 0 7 (.int x) := ⟨RX0, TX0, 12, tyX0, rfl, by decide, uX0, w_fl_X0_52, tyX0_ok, nmX0, rfl, rfl, rfl⟩
theorem w_fl_X0_55 : Cond.fieldLink RX0 55 (TX0 8).1 (TX0 8).2.1 (TX0 8).2.2.1 ∈ gW := gW_in (i := 204) (by decide +kernel) rfl
theorem FX0_55 : g_FL RX0 55 0 8 := ⟨RX0, TX0, 12, rfl, by decide, uX0, w_fl_X0_55⟩
theorem FPX0_55 {x : Int32} (h : x = 0 ∨ x = 1) : g_FP RX0 55 0 8 (.int x) := by
  rcases h with rfl | rfl <;> exact ⟨RX0, TX0, 12, tyX0, rfl, by decide, uX0, w_fl_X0_55, tyX0_ok, nmX0, rfl, rfl, rfl⟩
theorem w_fl_X0_59 : Cond.fieldLink RX0 59 (TX0 9).1 (TX0 9).2.1 (TX0 9).2.2.1 ∈ gW := gW_in (i := 205) (by decide +kernel) rfl
theorem FX0_59 : g_FL RX0 59 0 9 := ⟨RX0, TX0, 12, rfl, by decide, uX0, w_fl_X0_59⟩
theorem FPX0_59 (x : Int32) : g_FP RX0 59 0 9 (.int x) := ⟨RX0, TX0, 12, tyX0, rfl, by decide, uX0, w_fl_X0_59, tyX0_ok, nmX0, rfl, rfl, rfl⟩
theorem w_fl_X0_62 : Cond.fieldLink RX0 62 (TX0 10).1 (TX0 10).2.1 (TX0 10).2.2.1 ∈ gW := gW_in (i := 207) (by decide +kernel) rfl
theorem FX0_62 : g_FL RX0 62 0 10 := ⟨RX0, TX0, 12, rfl, by decide, uX0, w_fl_X0_62⟩
theorem FPX0_62 (x : Int32) : g_FP RX0 62 0 10 (.int x) := ⟨RX0, TX0, 12, tyX0, rfl, by decide, uX0, w_fl_X0_62, tyX0_ok, nmX0, rfl, rfl, rfl⟩
theorem w_fl_X0_65 : Cond.fieldLink RX0 65 (TX0 11).1 (TX0 11).2.1 (TX0 11).2.2.1 ∈ gW := gW_in (i := 209) (by decide +kernel) rfl
theorem FX0_65 : g_FL RX0 65 0 11 := ⟨RX0, TX0, 12, rfl, by decide, uX0, w_fl_X0_65⟩
theorem FPX0_65 (x : Int32) : g_FP RX0 65 0 11 (.int x) := ⟨RX0, TX0, 12, tyX0, rfl, by decide, uX0, w_fl_X0_65, tyX0_ok, nmX0, rfl, rfl, rfl⟩
theorem w_fl_X0_73 : Cond.fieldLink RX0 73 (TX5 3).1 (TX5 3).2.1 (TX5 3).2.2.1 ∈ gW := gW_in (i := 84) (by decide +kernel) rfl
theorem FX0_73 : g_FL RX0 73 5 3 := ⟨RX5, TX5, 4, rfl, by decide, uX5, w_fl_X0_73⟩
theorem FPX0_73 (x : Int32) : g_FP RX0 73 5 3 (.int x) := ⟨RX5, TX5, 4, tyX5, rfl, by decide, uX5, w_fl_X0_73, tyX5_ok, nmX5, rfl, rfl, rfl⟩
theorem w_fl_X0_76 : Cond.fieldLink RX0 76 (TX3 3).1 (TX3 3).2.1 (TX3 3).2.2.1 ∈ gW := gW_in (i := 107) (by decide +kernel) rfl
theorem FX0_76 : g_FL RX0 76 3 3 := ⟨RX3, TX3, 5, rfl, by decide, uX3, w_fl_X0_76⟩
theorem FPX0_76 (x : Int32) : g_FP RX0 76 3 3 (.int x) := ⟨RX3, TX3, 5, tyX3, rfl, by decide, uX3, w_fl_X0_76, tyX3_ok, nmX3, rfl, rfl, rfl⟩
theorem w_fl_X0_77 : Cond.fieldLink RX0 77 (TX3 4).1 (TX3 4).2.1 (TX3 4).2.2.1 ∈ gW := gW_in (i := 110) (by decide +kernel) rfl
theorem FX0_77 : g_FL RX0 77 3 4 := ⟨RX3, TX3, 5, rfl, by decide, uX3, w_fl_X0_77⟩
theorem FPX0_77 (x : Int32) : g_FP RX0 77 3 4 (.int x) := ⟨RX3, TX3, 5, tyX3, rfl, by decide, uX3, w_fl_X0_77, tyX3_ok, nmX3, rfl, rfl, rfl⟩
theorem w_fl_X0_80 : Cond.fieldLink RX0 80 (TX2 3).1 (TX2 3).2.1 (TX2 3).2.2.1 ∈ gW := gW_in (i := 132) (by decide +kernel) rfl
theorem FX0_80 : g_FL RX0 80 2 3 := ⟨RX2, TX2, 5, rfl, by decide, uX2, w_fl_X0_80⟩
theorem FPX0_80 (x : Int32) : g_FP RX0 80 2 3 (.int x) := ⟨RX2, TX2, 5, tyX2, rfl, by decide, uX2, w_fl_X0_80, tyX2_ok, nmX2, rfl, rfl, rfl⟩
theorem w_fl_X0_83 : Cond.fieldLink RX0 83 (TX2 4).1 (TX2 4).2.1 (TX2 4).2.2.1 ∈ gW := gW_in (i := 135) (by decide +kernel) rfl
theorem FX0_83 : g_FL RX0 83 2 4 := ⟨RX2, TX2, 5, rfl, by decide, uX2, w_fl_X0_83⟩
theorem FPX0_83 (x : Int32) : g_FP RX0 83 2 4 (.int x) := ⟨RX2, TX2, 5, tyX2, rfl, by decide, uX2, w_fl_X0_83, tyX2_ok, nmX2, rfl, rfl, rfl⟩
theorem w_fl_X1_15 : Cond.fieldLink RX1 15 (TX1 1).1 (TX1 1).2.1 (TX1 1).2.2.1 ∈ gW := gW_in (i := 154) (by decide +kernel) rfl
theorem FX1_15 : g_FL RX1 15 1 1 := ⟨RX1, TX1, 9, rfl, by decide, uX1, w_fl_X1_15⟩
theorem FPX1_15 (x : Int32) : g_FP RX1 15 1 1 (.int x) := ⟨RX1, TX1, 9, tyX1, rfl, by decide, uX1, w_fl_X1_15, tyX1_ok, nmX1, rfl, rfl, rfl⟩
theorem w_fl_X1_18 : Cond.fieldLink RX1 18 (TX1 2).1 (TX1 2).2.1 (TX1 2).2.2.1 ∈ gW := gW_in (i := 156) (by decide +kernel) rfl
theorem FX1_18 : g_FL RX1 18 1 2 := ⟨RX1, TX1, 9, rfl, by decide, uX1, w_fl_X1_18⟩
theorem FPX1_18 (x : Int32) : g_FP RX1 18 1 2 (.int x) := ⟨RX1, TX1, 9, tyX1, rfl, by decide, uX1, w_fl_X1_18, tyX1_ok, nmX1, rfl, rfl, rfl⟩
theorem w_fl_X1_21 : Cond.fieldLink RX1 21 (TX1 3).1 (TX1 3).2.1 (TX1 3).2.2.1 ∈ gW := gW_in (i := 158) (by decide +kernel) rfl
theorem FX1_21 : g_FL RX1 21 1 3 := ⟨RX1, TX1, 9, rfl, by decide, uX1, w_fl_X1_21⟩
theorem FPX1_21 (x : Int32) : g_FP RX1 21 1 3 (.int x) := ⟨RX1, TX1, 9, tyX1, rfl, by decide, uX1, w_fl_X1_21, tyX1_ok, nmX1, rfl, rfl, rfl⟩
theorem w_fl_X1_24 : Cond.fieldLink RX1 24 (TX1 4).1 (TX1 4).2.1 (TX1 4).2.2.1 ∈ gW := gW_in (i := 160) (by decide +kernel) rfl
theorem FX1_24 : g_FL RX1 24 1 4 := ⟨RX1, TX1, 9, rfl, by decide, uX1, w_fl_X1_24⟩
theorem FPX1_24 (x : Int32) : g_FP RX1 24 1 4 (.int x) := ⟨RX1, TX1, 9, tyX1, rfl, by decide, uX1, w_fl_X1_24, tyX1_ok, nmX1, rfl, rfl, rfl⟩
theorem w_fl_X1_27 : Cond.fieldLink RX1 27 (TX1 5).1 (TX1 5).2.1 (TX1 5).2.2.1 ∈ gW := gW_in (i := 162) (by decide +kernel) rfl
theorem FX1_27 : g_FL RX1 27 1 5 := ⟨RX1, TX1, 9, rfl, by decide, uX1, w_fl_X1_27⟩
theorem FPX1_27 (x : Int32) : g_FP RX1 27 1 5 (.int x) := ⟨RX1, TX1, 9, tyX1, rfl, by decide, uX1, w_fl_X1_27, tyX1_ok, nmX1, rfl, rfl, rfl⟩
theorem w_fl_X1_30 : Cond.fieldLink RX1 30 (TX1 6).1 (TX1 6).2.1 (TX1 6).2.2.1 ∈ gW := gW_in (i := 164) (by decide +kernel) rfl
theorem FX1_30 : g_FL RX1 30 1 6 := ⟨RX1, TX1, 9, rfl, by decide, uX1, w_fl_X1_30⟩
theorem FPX1_30 (x : Int32) : g_FP RX1 30 1 6 (.int x) := ⟨RX1, TX1, 9, tyX1, rfl, by decide, uX1, w_fl_X1_30, tyX1_ok, nmX1, rfl, rfl, rfl⟩
theorem w_fl_X1_33 : Cond.fieldLink RX1 33 (TX1 7).1 (TX1 7).2.1 (TX1 7).2.2.1 ∈ gW := gW_in (i := 166) (by decide +kernel) rfl
theorem FX1_33 : g_FL RX1 33 1 7 := ⟨RX1, TX1, 9, rfl, by decide, uX1, w_fl_X1_33⟩
theorem FPX1_33 (x : Int32) : g_FP RX1 33 1 7 (.int x) := ⟨RX1, TX1, 9, tyX1, rfl, by decide, uX1, w_fl_X1_33, tyX1_ok, nmX1, rfl, rfl, rfl⟩
theorem w_fl_X1_36 : Cond.fieldLink RX1 36 (TX1 8).1 (TX1 8).2.1 (TX1 8).2.2.1 ∈ gW := gW_in (i := 168) (by decide +kernel) rfl
theorem FX1_36 : g_FL RX1 36 1 8 := ⟨RX1, TX1, 9, rfl, by decide, uX1, w_fl_X1_36⟩
theorem FPX1_36 {x : Int32} (h : x = 0 ∨ x = 1) : g_FP RX1 36 1 8 (.int x) := by
  rcases h with rfl | rfl <;> exact ⟨RX1, TX1, 9, tyX1, rfl, by decide, uX1, w_fl_X1_36, tyX1_ok, nmX1, rfl, rfl, rfl⟩
theorem w_fl_X1_9 : Cond.fieldLink RX1 9 (TX1 0).1 (TX1 0).2.1 (TX1 0).2.2.1 ∈ gW := gW_in (i := 152) (by decide +kernel) rfl
theorem FX1_9 : g_FL RX1 9 1 0 := ⟨RX1, TX1, 9, rfl, by decide, uX1, w_fl_X1_9⟩
theorem FPX1_9 (x : Int32) : g_FP RX1 9 1 0 (.int x) := ⟨RX1, TX1, 9, tyX1, rfl, by decide, uX1, w_fl_X1_9, tyX1_ok, nmX1, rfl, rfl, rfl⟩
theorem w_fl_X2_15 : Cond.fieldLink RX2 15 (TX2 1).1 (TX2 1).2.1 (TX2 1).2.2.1 ∈ gW := gW_in (i := 129) (by decide +kernel) rfl
theorem FX2_15 : g_FL RX2 15 2 1 := ⟨RX2, TX2, 5, rfl, by decide, uX2, w_fl_X2_15⟩
theorem w_fl_X2_18 : Cond.fieldLink RX2 18 (TX2 2).1 (TX2 2).2.1 (TX2 2).2.2.1 ∈ gW := gW_in (i := 130) (by decide +kernel) rfl
theorem FX2_18 : g_FL RX2 18 2 2 := ⟨RX2, TX2, 5, rfl, by decide, uX2, w_fl_X2_18⟩
theorem w_fl_X2_21 : Cond.fieldLink RX2 21 (TX2 3).1 (TX2 3).2.1 (TX2 3).2.2.1 ∈ gW := gW_in (i := 131) (by decide +kernel) rfl
theorem FX2_21 : g_FL RX2 21 2 3 := ⟨RX2, TX2, 5, rfl, by decide, uX2, w_fl_X2_21⟩
theorem FPX2_21 (x : Int32) : g_FP RX2 21 2 3 (.int x) := ⟨RX2, TX2, 5, tyX2, rfl, by decide, uX2, w_fl_X2_21, tyX2_ok, nmX2, rfl, rfl, rfl⟩
theorem w_fl_X2_25 : Cond.fieldLink RX2 25 (TX2 4).1 (TX2 4).2.1 (TX2 4).2.2.1 ∈ gW := gW_in (i := 134) (by decide +kernel) rfl
theorem FX2_25 : g_FL RX2 25 2 4 := ⟨RX2, TX2, 5, rfl, by decide, uX2, w_fl_X2_25⟩
theorem FPX2_25 (x : Int32) : g_FP RX2 25 2 4 (.int x) := ⟨RX2, TX2, 5, tyX2, rfl, by decide, uX2, w_fl_X2_25, tyX2_ok, nmX2, rfl, rfl, rfl⟩
theorem w_fl_X2_9 : Cond.fieldLink RX2 9 (TX2 0).1 (TX2 0).2.1 (TX2 0).2.2.1 ∈ gW := gW_in (i := 128) (by decide +kernel) rfl
theorem FX2_9 : g_FL RX2 9 2 0 := ⟨RX2, TX2, 5, rfl, by decide, uX2, w_fl_X2_9⟩
theorem w_fl_X3_15 : Cond.fieldLink RX3 15 (TX3 1).1 (TX3 1).2.1 (TX3 1).2.2.1 ∈ gW := gW_in (i := 104) (by decide +kernel) rfl
theorem FX3_15 : g_FL RX3 15 3 1 := ⟨RX3, TX3, 5, rfl, by decide, uX3, w_fl_X3_15⟩
theorem w_fl_X3_18 : Cond.fieldLink RX3 18 (TX3 2).1 (TX3 2).2.1 (TX3 2).2.2.1 ∈ gW := gW_in (i := 105) (by decide +kernel) rfl
theorem FX3_18 : g_FL RX3 18 3 2 := ⟨RX3, TX3, 5, rfl, by decide, uX3, w_fl_X3_18⟩
theorem w_fl_X3_21 : Cond.fieldLink RX3 21 (TX3 3).1 (TX3 3).2.1 (TX3 3).2.2.1 ∈ gW := gW_in (i := 106) (by decide +kernel) rfl
theorem FX3_21 : g_FL RX3 21 3 3 := ⟨RX3, TX3, 5, rfl, by decide, uX3, w_fl_X3_21⟩
theorem FPX3_21 (x : Int32) : g_FP RX3 21 3 3 (.int x) := ⟨RX3, TX3, 5, tyX3, rfl, by decide, uX3, w_fl_X3_21, tyX3_ok, nmX3, rfl, rfl, rfl⟩
theorem w_fl_X3_25 : Cond.fieldLink RX3 25 (TX3 4).1 (TX3 4).2.1 (TX3 4).2.2.1 ∈ gW := gW_in (i := 109) (by decide +kernel) rfl
theorem FX3_25 : g_FL RX3 25 3 4 := ⟨RX3, TX3, 5, rfl, by decide, uX3, w_fl_X3_25⟩
theorem FPX3_25 (x : Int32) : g_FP RX3 25 3 4 (.int x) := ⟨RX3, TX3, 5, tyX3, rfl, by decide, uX3, w_fl_X3_25, tyX3_ok, nmX3, rfl, rfl, rfl⟩
theorem w_fl_X3_9 : Cond.fieldLink RX3 9 (TX3 0).1 (TX3 0).2.1 (TX3 0).2.2.1 ∈ gW := gW_in (i := 103) (by decide +kernel) rfl
theorem FX3_9 : g_FL RX3 9 3 0 := ⟨RX3, TX3, 5, rfl, by decide, uX3, w_fl_X3_9⟩
theorem w_fl_X4_18 : Cond.fieldLink RX4 18 (TX4 0).1 (TX4 0).2.1 (TX4 0).2.2.1 ∈ gW := gW_in (i := 58) (by decide +kernel) rfl
theorem FX4_18 : g_FL RX4 18 4 0 := ⟨RX4, TX4, 4, rfl, by decide, uX4, w_fl_X4_18⟩
theorem w_fl_X4_26 : Cond.fieldLink RX4 26 (TX4 1).1 (TX4 1).2.1 (TX4 1).2.2.1 ∈ gW := gW_in (i := 59) (by decide +kernel) rfl
theorem FX4_26 : g_FL RX4 26 4 1 := ⟨RX4, TX4, 4, rfl, by decide, uX4, w_fl_X4_26⟩
theorem w_fl_X4_29 : Cond.fieldLink RX4 29 (TX4 2).1 (TX4 2).2.1 (TX4 2).2.2.1 ∈ gW := gW_in (i := 60) (by decide +kernel) rfl
theorem FX4_29 : g_FL RX4 29 4 2 := ⟨RX4, TX4, 4, rfl, by decide, uX4, w_fl_X4_29⟩
theorem w_fl_X4_32 : Cond.fieldLink RX4 32 (TX4 3).1 (TX4 3).2.1 (TX4 3).2.2.1 ∈ gW := gW_in (i := 61) (by decide +kernel) rfl
theorem FX4_32 : g_FL RX4 32 4 3 := ⟨RX4, TX4, 4, rfl, by decide, uX4, w_fl_X4_32⟩
theorem FPX4_32 (x : Int32) : g_FP RX4 32 4 3 (.int x) := ⟨RX4, TX4, 4, tyX4, rfl, by decide, uX4, w_fl_X4_32, tyX4_ok, nmX4, rfl, rfl, rfl⟩
theorem w_fl_X5_15 : Cond.fieldLink RX5 15 (TX5 1).1 (TX5 1).2.1 (TX5 1).2.2.1 ∈ gW := gW_in (i := 81) (by decide +kernel) rfl
theorem FX5_15 : g_FL RX5 15 5 1 := ⟨RX5, TX5, 4, rfl, by decide, uX5, w_fl_X5_15⟩
theorem w_fl_X5_18 : Cond.fieldLink RX5 18 (TX5 2).1 (TX5 2).2.1 (TX5 2).2.2.1 ∈ gW := gW_in (i := 82) (by decide +kernel) rfl
theorem FX5_18 : g_FL RX5 18 5 2 := ⟨RX5, TX5, 4, rfl, by decide, uX5, w_fl_X5_18⟩
theorem w_fl_X5_21 : Cond.fieldLink RX5 21 (TX5 3).1 (TX5 3).2.1 (TX5 3).2.2.1 ∈ gW := gW_in (i := 83) (by decide +kernel) rfl
theorem FX5_21 : g_FL RX5 21 5 3 := ⟨RX5, TX5, 4, rfl, by decide, uX5, w_fl_X5_21⟩
theorem FPX5_21 (x : Int32) : g_FP RX5 21 5 3 (.int x) := ⟨RX5, TX5, 4, tyX5, rfl, by decide, uX5, w_fl_X5_21, tyX5_ok, nmX5, rfl, rfl, rfl⟩
theorem w_fl_X5_9 : Cond.fieldLink RX5 9 (TX5 0).1 (TX5 0).2.1 (TX5 0).2.2.1 ∈ gW := gW_in (i := 80) (by decide +kernel) rfl
theorem FX5_9 : g_FL RX5 9 5 0 := ⟨RX5, TX5, 4, rfl, by decide, uX5, w_fl_X5_9⟩
theorem w_fl_X6_15 : Cond.fieldLink RX6 15 (TX6 1).1 (TX6 1).2.1 (TX6 1).2.2.1 ∈ gW := gW_in (i := 243) (by decide +kernel) rfl
theorem FX6_15 : g_FL RX6 15 6 1 := ⟨RX6, TX6, 2, rfl, by decide, uX6, w_fl_X6_15⟩
theorem FPX6_15 (x : Int32) : g_FP RX6 15 6 1 (.int x) := ⟨RX6, TX6, 2, tyX6, rfl, by decide, uX6, w_fl_X6_15, tyX6_ok, nmX6, rfl, rfl, rfl⟩
theorem w_fl_X6_9 : Cond.fieldLink RX6 9 (TX6 0).1 (TX6 0).2.1 (TX6 0).2.2.1 ∈ gW := gW_in (i := 242) (by decide +kernel) rfl
theorem FX6_9 : g_FL RX6 9 6 0 := ⟨RX6, TX6, 2, rfl, by decide, uX6, w_fl_X6_9⟩
theorem w_fl_X7_10 : Cond.fieldLink RX7 10 (TX7 0).1 (TX7 0).2.1 (TX7 0).2.2.1 ∈ gW := gW_in (i := 249) (by decide +kernel) rfl
theorem FX7_10 : g_FL RX7 10 7 0 := ⟨RX7, TX7, 4, rfl, by decide, uX7, w_fl_X7_10⟩
theorem w_fl_X7_147 : Cond.fieldLink RX7 147 (TX0 4).1 (TX0 4).2.1 (TX0 4).2.2.1 ∈ gW := gW_in (i := 198) (by decide +kernel) rfl
theorem FX7_147 : g_FL RX7 147 0 4 := ⟨RX0, TX0, 12, rfl, by decide, uX0, w_fl_X7_147⟩
theorem w_fl_X7_151 : Cond.fieldLink RX7 151 (TX3 3).1 (TX3 3).2.1 (TX3 3).2.2.1 ∈ gW := gW_in (i := 108) (by decide +kernel) rfl
theorem FX7_151 : g_FL RX7 151 3 3 := ⟨RX3, TX3, 5, rfl, by decide, uX3, w_fl_X7_151⟩
theorem FPX7_151 (x : Int32) : g_FP RX7 151 3 3 (.int x) := ⟨RX3, TX3, 5, tyX3, rfl, by decide, uX3, w_fl_X7_151, tyX3_ok, nmX3, rfl, rfl, rfl⟩
theorem w_fl_X7_16 : Cond.fieldLink RX7 16 (TX7 1).1 (TX7 1).2.1 (TX7 1).2.2.1 ∈ gW := gW_in (i := 250) (by decide +kernel) rfl
theorem FX7_16 : g_FL RX7 16 7 1 := ⟨RX7, TX7, 4, rfl, by decide, uX7, w_fl_X7_16⟩
theorem w_fl_X7_166 : Cond.fieldLink RX7 166 (TX0 2).1 (TX0 2).2.1 (TX0 2).2.2.1 ∈ gW := gW_in (i := 194) (by decide +kernel) rfl
theorem FX7_166 : g_FL RX7 166 0 2 := ⟨RX0, TX0, 12, rfl, by decide, uX0, w_fl_X7_166⟩
theorem w_fl_X7_176 : Cond.fieldLink RX7 176 (TX0 5).1 (TX0 5).2.1 (TX0 5).2.2.1 ∈ gW := gW_in (i := 200) (by decide +kernel) rfl
theorem FX7_176 : g_FL RX7 176 0 5 := ⟨RX0, TX0, 12, rfl, by decide, uX0, w_fl_X7_176⟩
theorem w_fl_X7_180 : Cond.fieldLink RX7 180 (TX2 3).1 (TX2 3).2.1 (TX2 3).2.2.1 ∈ gW := gW_in (i := 133) (by decide +kernel) rfl
theorem FX7_180 : g_FL RX7 180 2 3 := ⟨RX2, TX2, 5, rfl, by decide, uX2, w_fl_X7_180⟩
theorem FPX7_180 (x : Int32) : g_FP RX7 180 2 3 (.int x) := ⟨RX2, TX2, 5, tyX2, rfl, by decide, uX2, w_fl_X7_180, tyX2_ok, nmX2, rfl, rfl, rfl⟩
theorem w_fl_X7_20 : Cond.fieldLink RX7 20 (TX7 2).1 (TX7 2).2.1 (TX7 2).2.2.1 ∈ gW := gW_in (i := 251) (by decide +kernel) rfl
theorem FX7_20 : g_FL RX7 20 7 2 := ⟨RX7, TX7, 4, rfl, by decide, uX7, w_fl_X7_20⟩
theorem FPX7_20 (x : Int32) : g_FP RX7 20 7 2 (.int x) := ⟨RX7, TX7, 4, tyX7, rfl, by decide, uX7, w_fl_X7_20, tyX7_ok, nmX7, rfl, rfl, rfl⟩
theorem w_fl_X7_27 : Cond.fieldLink RX7 27 (TX7 3).1 (TX7 3).2.1 (TX7 3).2.2.1 ∈ gW := gW_in (i := 252) (by decide +kernel) rfl
theorem FX7_27 : g_FL RX7 27 7 3 := ⟨RX7, TX7, 4, rfl, by decide, uX7, w_fl_X7_27⟩
theorem w_fl_X7_35 : Cond.fieldLink RX7 35 (TX0 6).1 (TX0 6).2.1 (TX0 6).2.2.1 ∈ gW := gW_in (i := 202) (by decide +kernel) rfl
theorem FX7_35 : g_FL RX7 35 0 6 := ⟨RX0, TX0, 12, rfl, by decide, uX0, w_fl_X7_35⟩
theorem FPX7_35 (x : Int32) : g_FP RX7 35 0 6 (.int x) := ⟨RX0, TX0, 12, tyX0, rfl, by decide, uX0, w_fl_X7_35, tyX0_ok, nmX0, rfl, rfl, rfl⟩
theorem w_fl_X7_45 : Cond.fieldLink RX7 45 (TX0 0).1 (TX0 0).2.1 (TX0 0).2.2.1 ∈ gW := gW_in (i := 190) (by decide +kernel) rfl
theorem FX7_45 : g_FL RX7 45 0 0 := ⟨RX0, TX0, 12, rfl, by decide, uX0, w_fl_X7_45⟩
theorem w_fl_X7_49 : Cond.fieldLink RX7 49 (TX4 3).1 (TX4 3).2.1 (TX4 3).2.2.1 ∈ gW := gW_in (i := 62) (by decide +kernel) rfl
theorem FX7_49 : g_FL RX7 49 4 3 := ⟨RX4, TX4, 4, rfl, by decide, uX4, w_fl_X7_49⟩
theorem FPX7_49 (x : Int32) : g_FP RX7 49 4 3 (.int x) := ⟨RX4, TX4, 4, tyX4, rfl, by decide, uX4, w_fl_X7_49, tyX4_ok, nmX4, rfl, rfl, rfl⟩
theorem w_fl_X7_73 : Cond.fieldLink RX7 73 (TX0 1).1 (TX0 1).2.1 (TX0 1).2.2.1 ∈ gW := gW_in (i := 192) (by decide +kernel) rfl
theorem FX7_73 : g_FL RX7 73 0 1 := ⟨RX0, TX0, 12, rfl, by decide, uX0, w_fl_X7_73⟩
theorem w_fl_X7_77 : Cond.fieldLink RX7 77 (TX5 3).1 (TX5 3).2.1 (TX5 3).2.2.1 ∈ gW := gW_in (i := 85) (by decide +kernel) rfl
theorem FX7_77 : g_FL RX7 77 5 3 := ⟨RX5, TX5, 4, rfl, by decide, uX5, w_fl_X7_77⟩
theorem FPX7_77 (x : Int32) : g_FP RX7 77 5 3 (.int x) := ⟨RX5, TX5, 4, tyX5, rfl, by decide, uX5, w_fl_X7_77, tyX5_ok, nmX5, rfl, rfl, rfl⟩
theorem w_fl_X7_83 : Cond.fieldLink RX7 83 (TX0 3).1 (TX0 3).2.1 (TX0 3).2.2.1 ∈ gW := gW_in (i := 196) (by decide +kernel) rfl
theorem FX7_83 : g_FL RX7 83 0 3 := ⟨RX0, TX0, 12, rfl, by decide, uX0, w_fl_X7_83⟩
theorem FPX7_83 (x : Int32) : g_FP RX7 83 0 3 (.int x) := ⟨RX0, TX0, 12, tyX0, rfl, by decide, uX0, w_fl_X7_83, tyX0_ok, nmX0, rfl, rfl, rfl⟩
theorem w_fl_X7_88 : Cond.fieldLink RX7 88 (TX0 10).1 (TX0 10).2.1 (TX0 10).2.2.1 ∈ gW := gW_in (i := 208) (by decide +kernel) rfl
theorem FX7_88 : g_FL RX7 88 0 10 := ⟨RX0, TX0, 12, rfl, by decide, uX0, w_fl_X7_88⟩
theorem FPX7_88 (x : Int32) : g_FP RX7 88 0 10 (.int x) := ⟨RX0, TX0, 12, tyX0, rfl, by decide, uX0, w_fl_X7_88, tyX0_ok, nmX0, rfl, rfl, rfl⟩
theorem w_fl_X7_91 : Cond.fieldLink RX7 91 (TX0 9).1 (TX0 9).2.1 (TX0 9).2.2.1 ∈ gW := gW_in (i := 206) (by decide +kernel) rfl
theorem FX7_91 : g_FL RX7 91 0 9 := ⟨RX0, TX0, 12, rfl, by decide, uX0, w_fl_X7_91⟩
theorem FPX7_91 (x : Int32) : g_FP RX7 91 0 9 (.int x) := ⟨RX0, TX0, 12, tyX0, rfl, by decide, uX0, w_fl_X7_91, tyX0_ok, nmX0, rfl, rfl, rfl⟩
theorem w_c_X1_startAnew : Cond.code yX1_startAnew cX1_startAnew 2 none ∈ gW := gW_in (i := 523) (by decide +kernel) rfl
theorem w_i_X1_startAnew : Cond.instanceMethod yX1_startAnew ∈ gW := gW_in (i := 521) (by decide +kernel) rfl
theorem w_s_X1_startAnew : Cond.selects yX1_startAnew.cls yX1_startAnew yX1_startAnew ∈ gW := gW_in (i := 522) (by decide +kernel) rfl
theorem w_d_X1_startAnew : yX1_startAnew.cls ≠ "java/lang/invoke/MethodHandle" ∧ yX1_startAnew.cls ≠ "java/lang/invoke/VarHandle" ∧ (parseMethodDescriptor yX1_startAnew.desc).map (fun d => d.parameters.length) = some 1 := by decide +kernel
theorem LBX0_102 : g_LB RX0 102 yX1_startAnew cX1_startAnew 2 none 1 := ⟨gW_in (i := 520) (by decide +kernel) rfl, w_ini_X1, w_c_X1_startAnew, w_d_X1_startAnew⟩
theorem LX0_102 : g_LV RX0 102 yX1_startAnew cX1_startAnew 2 none 1 1 := ⟨LBX0_102, w_i_X1_startAnew, w_s_X1_startAnew, _, _, rfl⟩
theorem w_c_X1_walksThrough : Cond.code yX1_walksThrough cX1_walksThrough 2 (some .boolean) ∈ gW := gW_in (i := 457) (by decide +kernel) rfl
theorem w_i_X1_walksThrough : Cond.instanceMethod yX1_walksThrough ∈ gW := gW_in (i := 455) (by decide +kernel) rfl
theorem w_s_X1_walksThrough : Cond.selects yX1_walksThrough.cls yX1_walksThrough yX1_walksThrough ∈ gW := gW_in (i := 456) (by decide +kernel) rfl
theorem w_d_X1_walksThrough : yX1_walksThrough.cls ≠ "java/lang/invoke/MethodHandle" ∧ yX1_walksThrough.cls ≠ "java/lang/invoke/VarHandle" ∧ (parseMethodDescriptor yX1_walksThrough.desc).map (fun d => d.parameters.length) = some 1 := by decide +kernel
theorem LBX0_106 : g_LB RX0 106 yX1_walksThrough cX1_walksThrough 2 (some .boolean) 1 := ⟨gW_in (i := 454) (by decide +kernel) rfl, w_ini_X1, w_c_X1_walksThrough, w_d_X1_walksThrough⟩
theorem LX0_106 : g_LV RX0 106 yX1_walksThrough cX1_walksThrough 2 (some .boolean) 1 1 := ⟨LBX0_106, w_i_X1_walksThrough, w_s_X1_walksThrough, _, _, rfl⟩
theorem w_c_X4_init : Cond.code yX4_init cX4_init 2 none ∈ gW := gW_in (i := 45) (by decide +kernel) rfl
theorem w_i_X4_init : Cond.instanceMethod yX4_init ∈ gW := gW_in (i := 44) (by decide +kernel) rfl
theorem w_d_X4_init : yX4_init.cls ≠ "java/lang/invoke/MethodHandle" ∧ yX4_init.cls ≠ "java/lang/invoke/VarHandle" ∧ (parseMethodDescriptor yX4_init.desc).map (fun d => d.parameters.length) = some 0 := by decide +kernel
theorem LBX0_11 : g_LB RX0 11 yX4_init cX4_init 2 none 0 := ⟨gW_in (i := 43) (by decide +kernel) rfl, w_ini_X4, w_c_X4_init, w_d_X4_init⟩
theorem w_c_X4_ropeOf : Cond.code yX4_ropeOf cX4_ropeOf 2 (some .int) ∈ gW := gW_in (i := 441) (by decide +kernel) rfl
theorem w_i_X4_ropeOf : Cond.instanceMethod yX4_ropeOf ∈ gW := gW_in (i := 439) (by decide +kernel) rfl
theorem w_s_X4_ropeOf : Cond.selects yX4_ropeOf.cls yX4_ropeOf yX4_ropeOf ∈ gW := gW_in (i := 440) (by decide +kernel) rfl
theorem w_d_X4_ropeOf : yX4_ropeOf.cls ≠ "java/lang/invoke/MethodHandle" ∧ yX4_ropeOf.cls ≠ "java/lang/invoke/VarHandle" ∧ (parseMethodDescriptor yX4_ropeOf.desc).map (fun d => d.parameters.length) = some 1 := by decide +kernel
theorem LBX0_113 : g_LB RX0 113 yX4_ropeOf cX4_ropeOf 2 (some .int) 1 := ⟨gW_in (i := 438) (by decide +kernel) rfl, w_ini_X4, w_c_X4_ropeOf, w_d_X4_ropeOf⟩
theorem LX0_113 : g_LV RX0 113 yX4_ropeOf cX4_ropeOf 2 (some .int) 1 4 := ⟨LBX0_113, w_i_X4_ropeOf, w_s_X4_ropeOf, _, _, rfl⟩
theorem w_c_X0_riggerOf : Cond.code yX0_riggerOf cX0_riggerOf 3 (some .int) ∈ gW := gW_in (i := 449) (by decide +kernel) rfl
theorem w_i_X0_riggerOf : Cond.instanceMethod yX0_riggerOf ∈ gW := gW_in (i := 447) (by decide +kernel) rfl
theorem w_s_X0_riggerOf : Cond.selects yX0_riggerOf.cls yX0_riggerOf yX0_riggerOf ∈ gW := gW_in (i := 448) (by decide +kernel) rfl
theorem w_d_X0_riggerOf : yX0_riggerOf.cls ≠ "java/lang/invoke/MethodHandle" ∧ yX0_riggerOf.cls ≠ "java/lang/invoke/VarHandle" ∧ (parseMethodDescriptor yX0_riggerOf.desc).map (fun d => d.parameters.length) = some 1 := by decide +kernel
theorem LBX0_117 : g_LB RX0 117 yX0_riggerOf cX0_riggerOf 3 (some .int) 1 := ⟨gW_in (i := 446) (by decide +kernel) rfl, w_ini_X0, w_c_X0_riggerOf, w_d_X0_riggerOf⟩
theorem LX0_117 : g_LV RX0 117 yX0_riggerOf cX0_riggerOf 3 (some .int) 1 0 := ⟨LBX0_117, w_i_X0_riggerOf, w_s_X0_riggerOf, _, _, rfl⟩
theorem w_c_X0_walkersThrough : Cond.code yX0_walkersThrough cX0_walkersThrough 4 (some .int) ∈ gW := gW_in (i := 453) (by decide +kernel) rfl
theorem w_i_X0_walkersThrough : Cond.instanceMethod yX0_walkersThrough ∈ gW := gW_in (i := 451) (by decide +kernel) rfl
theorem w_s_X0_walkersThrough : Cond.selects yX0_walkersThrough.cls yX0_walkersThrough yX0_walkersThrough ∈ gW := gW_in (i := 452) (by decide +kernel) rfl
theorem w_d_X0_walkersThrough : yX0_walkersThrough.cls ≠ "java/lang/invoke/MethodHandle" ∧ yX0_walkersThrough.cls ≠ "java/lang/invoke/VarHandle" ∧ (parseMethodDescriptor yX0_walkersThrough.desc).map (fun d => d.parameters.length) = some 1 := by decide +kernel
theorem LBX0_120 : g_LB RX0 120 yX0_walkersThrough cX0_walkersThrough 4 (some .int) 1 := ⟨gW_in (i := 450) (by decide +kernel) rfl, w_ini_X0, w_c_X0_walkersThrough, w_d_X0_walkersThrough⟩
theorem LX0_120 : g_LV RX0 120 yX0_walkersThrough cX0_walkersThrough 4 (some .int) 1 0 := ⟨LBX0_120, w_i_X0_walkersThrough, w_s_X0_walkersThrough, _, _, rfl⟩
theorem w_c_X4_wayUp : Cond.code yX4_wayUp cX4_wayUp 4 (some .int) ∈ gW := gW_in (i := 579) (by decide +kernel) rfl
theorem w_i_X4_wayUp : Cond.instanceMethod yX4_wayUp ∈ gW := gW_in (i := 577) (by decide +kernel) rfl
theorem w_s_X4_wayUp : Cond.selects yX4_wayUp.cls yX4_wayUp yX4_wayUp ∈ gW := gW_in (i := 578) (by decide +kernel) rfl
theorem w_d_X4_wayUp : yX4_wayUp.cls ≠ "java/lang/invoke/MethodHandle" ∧ yX4_wayUp.cls ≠ "java/lang/invoke/VarHandle" ∧ (parseMethodDescriptor yX4_wayUp.desc).map (fun d => d.parameters.length) = some 1 := by decide +kernel
theorem LBX0_126 : g_LB RX0 126 yX4_wayUp cX4_wayUp 4 (some .int) 1 := ⟨gW_in (i := 576) (by decide +kernel) rfl, w_ini_X4, w_c_X4_wayUp, w_d_X4_wayUp⟩
theorem LX0_126 : g_LV RX0 126 yX4_wayUp cX4_wayUp 4 (some .int) 1 4 := ⟨LBX0_126, w_i_X4_wayUp, w_s_X4_wayUp, _, _, rfl⟩
theorem w_c_X4_isOpen : Cond.code yX4_isOpen cX4_isOpen 2 (some .boolean) ∈ gW := gW_in (i := 563) (by decide +kernel) rfl
theorem w_i_X4_isOpen : Cond.instanceMethod yX4_isOpen ∈ gW := gW_in (i := 561) (by decide +kernel) rfl
theorem w_s_X4_isOpen : Cond.selects yX4_isOpen.cls yX4_isOpen yX4_isOpen ∈ gW := gW_in (i := 562) (by decide +kernel) rfl
theorem w_d_X4_isOpen : yX4_isOpen.cls ≠ "java/lang/invoke/MethodHandle" ∧ yX4_isOpen.cls ≠ "java/lang/invoke/VarHandle" ∧ (parseMethodDescriptor yX4_isOpen.desc).map (fun d => d.parameters.length) = some 1 := by decide +kernel
theorem LBX0_133 : g_LB RX0 133 yX4_isOpen cX4_isOpen 2 (some .boolean) 1 := ⟨gW_in (i := 560) (by decide +kernel) rfl, w_ini_X4, w_c_X4_isOpen, w_d_X4_isOpen⟩
theorem LX0_133 : g_LV RX0 133 yX4_isOpen cX4_isOpen 2 (some .boolean) 1 4 := ⟨LBX0_133, w_i_X4_isOpen, w_s_X4_isOpen, _, _, rfl⟩
theorem w_c_X4_minutesOf : Cond.code yX4_minutesOf cX4_minutesOf 2 (some .int) ∈ gW := gW_in (i := 567) (by decide +kernel) rfl
theorem w_i_X4_minutesOf : Cond.instanceMethod yX4_minutesOf ∈ gW := gW_in (i := 565) (by decide +kernel) rfl
theorem w_s_X4_minutesOf : Cond.selects yX4_minutesOf.cls yX4_minutesOf yX4_minutesOf ∈ gW := gW_in (i := 566) (by decide +kernel) rfl
theorem w_d_X4_minutesOf : yX4_minutesOf.cls ≠ "java/lang/invoke/MethodHandle" ∧ yX4_minutesOf.cls ≠ "java/lang/invoke/VarHandle" ∧ (parseMethodDescriptor yX4_minutesOf.desc).map (fun d => d.parameters.length) = some 1 := by decide +kernel
theorem LBX0_136 : g_LB RX0 136 yX4_minutesOf cX4_minutesOf 2 (some .int) 1 := ⟨gW_in (i := 564) (by decide +kernel) rfl, w_ini_X4, w_c_X4_minutesOf, w_d_X4_minutesOf⟩
theorem LX0_136 : g_LV RX0 136 yX4_minutesOf cX4_minutesOf 2 (some .int) 1 4 := ⟨LBX0_136, w_i_X4_minutesOf, w_s_X4_minutesOf, _, _, rfl⟩
theorem w_c_X4_isPitch : Cond.code yX4_isPitch cX4_isPitch 2 (some .boolean) ∈ gW := gW_in (i := 571) (by decide +kernel) rfl
theorem w_i_X4_isPitch : Cond.instanceMethod yX4_isPitch ∈ gW := gW_in (i := 569) (by decide +kernel) rfl
theorem w_s_X4_isPitch : Cond.selects yX4_isPitch.cls yX4_isPitch yX4_isPitch ∈ gW := gW_in (i := 570) (by decide +kernel) rfl
theorem w_d_X4_isPitch : yX4_isPitch.cls ≠ "java/lang/invoke/MethodHandle" ∧ yX4_isPitch.cls ≠ "java/lang/invoke/VarHandle" ∧ (parseMethodDescriptor yX4_isPitch.desc).map (fun d => d.parameters.length) = some 1 := by decide +kernel
theorem LBX0_139 : g_LB RX0 139 yX4_isPitch cX4_isPitch 2 (some .boolean) 1 := ⟨gW_in (i := 568) (by decide +kernel) rfl, w_ini_X4, w_c_X4_isPitch, w_d_X4_isPitch⟩
theorem LX0_139 : g_LV RX0 139 yX4_isPitch cX4_isPitch 2 (some .boolean) 1 4 := ⟨LBX0_139, w_i_X4_isPitch, w_s_X4_isPitch, _, _, rfl⟩
theorem w_c_X0_isInTime : Cond.code yX0_isInTime cX0_isInTime 4 (some .boolean) ∈ gW := gW_in (i := 575) (by decide +kernel) rfl
theorem w_i_X0_isInTime : Cond.instanceMethod yX0_isInTime ∈ gW := gW_in (i := 573) (by decide +kernel) rfl
theorem w_s_X0_isInTime : Cond.selects yX0_isInTime.cls yX0_isInTime yX0_isInTime ∈ gW := gW_in (i := 574) (by decide +kernel) rfl
theorem w_d_X0_isInTime : yX0_isInTime.cls ≠ "java/lang/invoke/MethodHandle" ∧ yX0_isInTime.cls ≠ "java/lang/invoke/VarHandle" ∧ (parseMethodDescriptor yX0_isInTime.desc).map (fun d => d.parameters.length) = some 3 := by decide +kernel
theorem LBX0_145 : g_LB RX0 145 yX0_isInTime cX0_isInTime 4 (some .boolean) 3 := ⟨gW_in (i := 572) (by decide +kernel) rfl, w_ini_X0, w_c_X0_isInTime, w_d_X0_isInTime⟩
theorem LX0_145 : g_LV RX0 145 yX0_isInTime cX0_isInTime 4 (some .boolean) 3 0 := ⟨LBX0_145, w_i_X0_isInTime, w_s_X0_isInTime, _, _, rfl⟩
theorem w_c_X0_isStanding : Cond.code yX0_isStanding cX0_isStanding 2 (some .boolean) ∈ gW := gW_in (i := 555) (by decide +kernel) rfl
theorem w_i_X0_isStanding : Cond.instanceMethod yX0_isStanding ∈ gW := gW_in (i := 553) (by decide +kernel) rfl
theorem w_s_X0_isStanding : Cond.selects yX0_isStanding.cls yX0_isStanding yX0_isStanding ∈ gW := gW_in (i := 554) (by decide +kernel) rfl
theorem w_d_X0_isStanding : yX0_isStanding.cls ≠ "java/lang/invoke/MethodHandle" ∧ yX0_isStanding.cls ≠ "java/lang/invoke/VarHandle" ∧ (parseMethodDescriptor yX0_isStanding.desc).map (fun d => d.parameters.length) = some 1 := by decide +kernel
theorem LBX0_149 : g_LB RX0 149 yX0_isStanding cX0_isStanding 2 (some .boolean) 1 := ⟨gW_in (i := 552) (by decide +kernel) rfl, w_ini_X0, w_c_X0_isStanding, w_d_X0_isStanding⟩
theorem LX0_149 : g_LV RX0 149 yX0_isStanding cX0_isStanding 2 (some .boolean) 1 0 := ⟨LBX0_149, w_i_X0_isStanding, w_s_X0_isStanding, _, _, rfl⟩
theorem w_c_X0_refusal : Cond.code yX0_refusal cX0_refusal 8 (some .int) ∈ gW := gW_in (i := 559) (by decide +kernel) rfl
theorem w_i_X0_refusal : Cond.instanceMethod yX0_refusal ∈ gW := gW_in (i := 557) (by decide +kernel) rfl
theorem w_s_X0_refusal : Cond.selects yX0_refusal.cls yX0_refusal yX0_refusal ∈ gW := gW_in (i := 558) (by decide +kernel) rfl
theorem w_d_X0_refusal : yX0_refusal.cls ≠ "java/lang/invoke/MethodHandle" ∧ yX0_refusal.cls ≠ "java/lang/invoke/VarHandle" ∧ (parseMethodDescriptor yX0_refusal.desc).map (fun d => d.parameters.length) = some 2 := by decide +kernel
theorem LBX0_152 : g_LB RX0 152 yX0_refusal cX0_refusal 8 (some .int) 2 := ⟨gW_in (i := 556) (by decide +kernel) rfl, w_ini_X0, w_c_X0_refusal, w_d_X0_refusal⟩
theorem LX0_152 : g_LV RX0 152 yX0_refusal cX0_refusal 8 (some .int) 2 0 := ⟨LBX0_152, w_i_X0_refusal, w_s_X0_refusal, _, _, rfl⟩
theorem w_c_J9_min_7cf53 : Cond.code yJ9_min_7cf53 cJ9_min_7cf53 2 (some .int) ∈ gW := gW_in (i := 460) (by decide +kernel) rfl
theorem w_t_J9_min_7cf53 : Cond.static yJ9_min_7cf53 ∈ gW := gW_in (i := 459) (by decide +kernel) rfl
theorem w_d_J9_min_7cf53 : yJ9_min_7cf53.cls ≠ "java/lang/invoke/MethodHandle" ∧ yJ9_min_7cf53.cls ≠ "java/lang/invoke/VarHandle" ∧ (parseMethodDescriptor yJ9_min_7cf53.desc).map (fun d => d.parameters.length) = some 2 := by decide +kernel
theorem LBX0_156 : g_LB RX0 156 yJ9_min_7cf53 cJ9_min_7cf53 2 (some .int) 2 := ⟨gW_in (i := 584) (by decide +kernel) rfl, w_ini_J9, w_c_J9_min_7cf53, w_d_J9_min_7cf53⟩
theorem LX0_156 : g_LS RX0 156 yJ9_min_7cf53 cJ9_min_7cf53 2 (some .int) 2 := ⟨LBX0_156, w_t_J9_min_7cf53⟩
theorem w_c_X1_walkTo : Cond.code yX1_walkTo cX1_walkTo 3 none ∈ gW := gW_in (i := 588) (by decide +kernel) rfl
theorem w_i_X1_walkTo : Cond.instanceMethod yX1_walkTo ∈ gW := gW_in (i := 586) (by decide +kernel) rfl
theorem w_s_X1_walkTo : Cond.selects yX1_walkTo.cls yX1_walkTo yX1_walkTo ∈ gW := gW_in (i := 587) (by decide +kernel) rfl
theorem w_d_X1_walkTo : yX1_walkTo.cls ≠ "java/lang/invoke/MethodHandle" ∧ yX1_walkTo.cls ≠ "java/lang/invoke/VarHandle" ∧ (parseMethodDescriptor yX1_walkTo.desc).map (fun d => d.parameters.length) = some 2 := by decide +kernel
theorem LBX0_162 : g_LB RX0 162 yX1_walkTo cX1_walkTo 3 none 2 := ⟨gW_in (i := 585) (by decide +kernel) rfl, w_ini_X1, w_c_X1_walkTo, w_d_X1_walkTo⟩
theorem LX0_162 : g_LV RX0 162 yX1_walkTo cX1_walkTo 3 none 2 1 := ⟨LBX0_162, w_i_X1_walkTo, w_s_X1_walkTo, _, _, rfl⟩
theorem w_c_X5_liesAt : Cond.code yX5_liesAt cX5_liesAt 3 (some .boolean) ∈ gW := gW_in (i := 606) (by decide +kernel) rfl
theorem w_i_X5_liesAt : Cond.instanceMethod yX5_liesAt ∈ gW := gW_in (i := 604) (by decide +kernel) rfl
theorem w_s_X5_liesAt : Cond.selects yX5_liesAt.cls yX5_liesAt yX5_liesAt ∈ gW := gW_in (i := 605) (by decide +kernel) rfl
theorem w_d_X5_liesAt : yX5_liesAt.cls ≠ "java/lang/invoke/MethodHandle" ∧ yX5_liesAt.cls ≠ "java/lang/invoke/VarHandle" ∧ (parseMethodDescriptor yX5_liesAt.desc).map (fun d => d.parameters.length) = some 2 := by decide +kernel
theorem LBX0_169 : g_LB RX0 169 yX5_liesAt cX5_liesAt 3 (some .boolean) 2 := ⟨gW_in (i := 603) (by decide +kernel) rfl, w_ini_X5, w_c_X5_liesAt, w_d_X5_liesAt⟩
theorem LX0_169 : g_LV RX0 169 yX5_liesAt cX5_liesAt 3 (some .boolean) 2 5 := ⟨LBX0_169, w_i_X5_liesAt, w_s_X5_liesAt, _, _, rfl⟩
theorem w_c_X5_put : Cond.code yX5_put cX5_put 4 none ∈ gW := gW_in (i := 504) (by decide +kernel) rfl
theorem w_i_X5_put : Cond.instanceMethod yX5_put ∈ gW := gW_in (i := 502) (by decide +kernel) rfl
theorem w_s_X5_put : Cond.selects yX5_put.cls yX5_put yX5_put ∈ gW := gW_in (i := 503) (by decide +kernel) rfl
theorem w_d_X5_put : yX5_put.cls ≠ "java/lang/invoke/MethodHandle" ∧ yX5_put.cls ≠ "java/lang/invoke/VarHandle" ∧ (parseMethodDescriptor yX5_put.desc).map (fun d => d.parameters.length) = some 3 := by decide +kernel
theorem LBX0_173 : g_LB RX0 173 yX5_put cX5_put 4 none 3 := ⟨gW_in (i := 611) (by decide +kernel) rfl, w_ini_X5, w_c_X5_put, w_d_X5_put⟩
theorem LX0_173 : g_LV RX0 173 yX5_put cX5_put 4 none 3 5 := ⟨LBX0_173, w_i_X5_put, w_s_X5_put, _, _, rfl⟩
theorem w_c_X0_canLay : Cond.code yX0_canLay cX0_canLay 2 (some .boolean) ∈ gW := gW_in (i := 626) (by decide +kernel) rfl
theorem w_i_X0_canLay : Cond.instanceMethod yX0_canLay ∈ gW := gW_in (i := 624) (by decide +kernel) rfl
theorem w_s_X0_canLay : Cond.selects yX0_canLay.cls yX0_canLay yX0_canLay ∈ gW := gW_in (i := 625) (by decide +kernel) rfl
theorem w_d_X0_canLay : yX0_canLay.cls ≠ "java/lang/invoke/MethodHandle" ∧ yX0_canLay.cls ≠ "java/lang/invoke/VarHandle" ∧ (parseMethodDescriptor yX0_canLay.desc).map (fun d => d.parameters.length) = some 1 := by decide +kernel
theorem LBX0_177 : g_LB RX0 177 yX0_canLay cX0_canLay 2 (some .boolean) 1 := ⟨gW_in (i := 642) (by decide +kernel) rfl, w_ini_X0, w_c_X0_canLay, w_d_X0_canLay⟩
theorem LX0_177 : g_LV RX0 177 yX0_canLay cX0_canLay 2 (some .boolean) 1 0 := ⟨LBX0_177, w_i_X0_canLay, w_s_X0_canLay, _, _, rfl⟩
theorem w_c_X4_dropOf : Cond.code yX4_dropOf cX4_dropOf 2 (some .int) ∈ gW := gW_in (i := 483) (by decide +kernel) rfl
theorem w_i_X4_dropOf : Cond.instanceMethod yX4_dropOf ∈ gW := gW_in (i := 481) (by decide +kernel) rfl
theorem w_s_X4_dropOf : Cond.selects yX4_dropOf.cls yX4_dropOf yX4_dropOf ∈ gW := gW_in (i := 482) (by decide +kernel) rfl
theorem w_d_X4_dropOf : yX4_dropOf.cls ≠ "java/lang/invoke/MethodHandle" ∧ yX4_dropOf.cls ≠ "java/lang/invoke/VarHandle" ∧ (parseMethodDescriptor yX4_dropOf.desc).map (fun d => d.parameters.length) = some 1 := by decide +kernel
theorem LBX0_180 : g_LB RX0 180 yX4_dropOf cX4_dropOf 2 (some .int) 1 := ⟨gW_in (i := 643) (by decide +kernel) rfl, w_ini_X4, w_c_X4_dropOf, w_d_X4_dropOf⟩
theorem LX0_180 : g_LV RX0 180 yX4_dropOf cX4_dropOf 2 (some .int) 1 4 := ⟨LBX0_180, w_i_X4_dropOf, w_s_X4_dropOf, _, _, rfl⟩
theorem w_c_X5_holds : Cond.code yX5_holds cX5_holds 3 (some .boolean) ∈ gW := gW_in (i := 647) (by decide +kernel) rfl
theorem w_i_X5_holds : Cond.instanceMethod yX5_holds ∈ gW := gW_in (i := 645) (by decide +kernel) rfl
theorem w_s_X5_holds : Cond.selects yX5_holds.cls yX5_holds yX5_holds ∈ gW := gW_in (i := 646) (by decide +kernel) rfl
theorem w_d_X5_holds : yX5_holds.cls ≠ "java/lang/invoke/MethodHandle" ∧ yX5_holds.cls ≠ "java/lang/invoke/VarHandle" ∧ (parseMethodDescriptor yX5_holds.desc).map (fun d => d.parameters.length) = some 2 := by decide +kernel
theorem LBX0_183 : g_LB RX0 183 yX5_holds cX5_holds 3 (some .boolean) 2 := ⟨gW_in (i := 644) (by decide +kernel) rfl, w_ini_X5, w_c_X5_holds, w_d_X5_holds⟩
theorem LX0_183 : g_LV RX0 183 yX5_holds cX5_holds 3 (some .boolean) 2 5 := ⟨LBX0_183, w_i_X5_holds, w_s_X5_holds, _, _, rfl⟩
theorem w_c_X4_fix : Cond.code yX4_fix cX4_fix 3 none ∈ gW := gW_in (i := 670) (by decide +kernel) rfl
theorem w_i_X4_fix : Cond.instanceMethod yX4_fix ∈ gW := gW_in (i := 668) (by decide +kernel) rfl
theorem w_s_X4_fix : Cond.selects yX4_fix.cls yX4_fix yX4_fix ∈ gW := gW_in (i := 669) (by decide +kernel) rfl
theorem w_d_X4_fix : yX4_fix.cls ≠ "java/lang/invoke/MethodHandle" ∧ yX4_fix.cls ≠ "java/lang/invoke/VarHandle" ∧ (parseMethodDescriptor yX4_fix.desc).map (fun d => d.parameters.length) = some 2 := by decide +kernel
theorem LBX0_189 : g_LB RX0 189 yX4_fix cX4_fix 3 none 2 := ⟨gW_in (i := 667) (by decide +kernel) rfl, w_ini_X4, w_c_X4_fix, w_d_X4_fix⟩
theorem LX0_189 : g_LV RX0 189 yX4_fix cX4_fix 3 none 2 4 := ⟨LBX0_189, w_i_X4_fix, w_s_X4_fix, _, _, rfl⟩
theorem w_c_X0_takeRope : Cond.code yX0_takeRope cX0_takeRope 3 none ∈ gW := gW_in (i := 610) (by decide +kernel) rfl
theorem w_i_X0_takeRope : Cond.instanceMethod yX0_takeRope ∈ gW := gW_in (i := 608) (by decide +kernel) rfl
theorem w_s_X0_takeRope : Cond.selects yX0_takeRope.cls yX0_takeRope yX0_takeRope ∈ gW := gW_in (i := 609) (by decide +kernel) rfl
theorem w_d_X0_takeRope : yX0_takeRope.cls ≠ "java/lang/invoke/MethodHandle" ∧ yX0_takeRope.cls ≠ "java/lang/invoke/VarHandle" ∧ (parseMethodDescriptor yX0_takeRope.desc).map (fun d => d.parameters.length) = some 2 := by decide +kernel
theorem LBX0_192 : g_LB RX0 192 yX0_takeRope cX0_takeRope 3 none 2 := ⟨gW_in (i := 671) (by decide +kernel) rfl, w_ini_X0, w_c_X0_takeRope, w_d_X0_takeRope⟩
theorem LX0_192 : g_LV RX0 192 yX0_takeRope cX0_takeRope 3 none 2 0 := ⟨LBX0_192, w_i_X0_takeRope, w_s_X0_takeRope, _, _, rfl⟩
theorem w_c_J6_bitCount_0f7a4 : Cond.code yJ6_bitCount_0f7a4 cJ6_bitCount_0f7a4 1 (some .int) ∈ gW := gW_in (i := 688) (by decide +kernel) rfl
theorem w_t_J6_bitCount_0f7a4 : Cond.static yJ6_bitCount_0f7a4 ∈ gW := gW_in (i := 687) (by decide +kernel) rfl
theorem w_d_J6_bitCount_0f7a4 : yJ6_bitCount_0f7a4.cls ≠ "java/lang/invoke/MethodHandle" ∧ yJ6_bitCount_0f7a4.cls ≠ "java/lang/invoke/VarHandle" ∧ (parseMethodDescriptor yJ6_bitCount_0f7a4.desc).map (fun d => d.parameters.length) = some 1 := by decide +kernel
theorem LBX0_195 : g_LB RX0 195 yJ6_bitCount_0f7a4 cJ6_bitCount_0f7a4 1 (some .int) 1 := ⟨gW_in (i := 686) (by decide +kernel) rfl, w_ini_J6, w_c_J6_bitCount_0f7a4, w_d_J6_bitCount_0f7a4⟩
theorem LX0_195 : g_LS RX0 195 yJ6_bitCount_0f7a4 cJ6_bitCount_0f7a4 1 (some .int) 1 := ⟨LBX0_195, w_t_J6_bitCount_0f7a4⟩
theorem w_c_X0_fitCarriers : Cond.code yX0_fitCarriers cX0_fitCarriers 5 (some .int) ∈ gW := gW_in (i := 699) (by decide +kernel) rfl
theorem w_i_X0_fitCarriers : Cond.instanceMethod yX0_fitCarriers ∈ gW := gW_in (i := 697) (by decide +kernel) rfl
theorem w_s_X0_fitCarriers : Cond.selects yX0_fitCarriers.cls yX0_fitCarriers yX0_fitCarriers ∈ gW := gW_in (i := 698) (by decide +kernel) rfl
theorem w_d_X0_fitCarriers : yX0_fitCarriers.cls ≠ "java/lang/invoke/MethodHandle" ∧ yX0_fitCarriers.cls ≠ "java/lang/invoke/VarHandle" ∧ (parseMethodDescriptor yX0_fitCarriers.desc).map (fun d => d.parameters.length) = some 0 := by decide +kernel
theorem LBX0_200 : g_LB RX0 200 yX0_fitCarriers cX0_fitCarriers 5 (some .int) 0 := ⟨gW_in (i := 696) (by decide +kernel) rfl, w_ini_X0, w_c_X0_fitCarriers, w_d_X0_fitCarriers⟩
theorem LX0_200 : g_LV RX0 200 yX0_fitCarriers cX0_fitCarriers 5 (some .int) 0 0 := ⟨LBX0_200, w_i_X0_fitCarriers, w_s_X0_fitCarriers, _, _, rfl⟩
theorem w_c_X2_add : Cond.code yX2_add cX2_add 5 none ∈ gW := gW_in (i := 707) (by decide +kernel) rfl
theorem w_i_X2_add : Cond.instanceMethod yX2_add ∈ gW := gW_in (i := 705) (by decide +kernel) rfl
theorem w_s_X2_add : Cond.selects yX2_add.cls yX2_add yX2_add ∈ gW := gW_in (i := 706) (by decide +kernel) rfl
theorem w_d_X2_add : yX2_add.cls ≠ "java/lang/invoke/MethodHandle" ∧ yX2_add.cls ≠ "java/lang/invoke/VarHandle" ∧ (parseMethodDescriptor yX2_add.desc).map (fun d => d.parameters.length) = some 3 := by decide +kernel
theorem LBX0_207 : g_LB RX0 207 yX2_add cX2_add 5 none 3 := ⟨gW_in (i := 704) (by decide +kernel) rfl, w_ini_X2, w_c_X2_add, w_d_X2_add⟩
theorem LX0_207 : g_LV RX0 207 yX2_add cX2_add 5 none 3 2 := ⟨LBX0_207, w_i_X2_add, w_s_X2_add, _, _, rfl⟩
theorem w_c_X3_add : Cond.code yX3_add cX3_add 4 none ∈ gW := gW_in (i := 727) (by decide +kernel) rfl
theorem w_i_X3_add : Cond.instanceMethod yX3_add ∈ gW := gW_in (i := 725) (by decide +kernel) rfl
theorem w_s_X3_add : Cond.selects yX3_add.cls yX3_add yX3_add ∈ gW := gW_in (i := 726) (by decide +kernel) rfl
theorem w_d_X3_add : yX3_add.cls ≠ "java/lang/invoke/MethodHandle" ∧ yX3_add.cls ≠ "java/lang/invoke/VarHandle" ∧ (parseMethodDescriptor yX3_add.desc).map (fun d => d.parameters.length) = some 3 := by decide +kernel
theorem LBX0_210 : g_LB RX0 210 yX3_add cX3_add 4 none 3 := ⟨gW_in (i := 724) (by decide +kernel) rfl, w_ini_X3, w_c_X3_add, w_d_X3_add⟩
theorem LX0_210 : g_LV RX0 210 yX3_add cX3_add 4 none 3 3 := ⟨LBX0_210, w_i_X3_add, w_s_X3_add, _, _, rfl⟩
theorem w_c_X0_letMinutePass : Cond.code yX0_letMinutePass cX0_letMinutePass 4 none ∈ gW := gW_in (i := 754) (by decide +kernel) rfl
theorem w_i_X0_letMinutePass : Cond.instanceMethod yX0_letMinutePass ∈ gW := gW_in (i := 753) (by decide +kernel) rfl
theorem w_s_X0_letMinutePass : Cond.selects yX0_letMinutePass.cls yX0_letMinutePass yX0_letMinutePass ∈ gW := gW_in (i := 6) (by decide +kernel) rfl
theorem w_d_X0_letMinutePass : yX0_letMinutePass.cls ≠ "java/lang/invoke/MethodHandle" ∧ yX0_letMinutePass.cls ≠ "java/lang/invoke/VarHandle" ∧ (parseMethodDescriptor yX0_letMinutePass.desc).map (fun d => d.parameters.length) = some 1 := by decide +kernel
theorem LBX0_212 : g_LB RX0 212 yX0_letMinutePass cX0_letMinutePass 4 none 1 := ⟨gW_in (i := 751) (by decide +kernel) rfl, w_ini_X0, w_c_X0_letMinutePass, w_d_X0_letMinutePass⟩
theorem LX0_212 : g_LV RX0 212 yX0_letMinutePass cX0_letMinutePass 4 none 1 0 := ⟨LBX0_212, w_i_X0_letMinutePass, w_s_X0_letMinutePass, _, _, rfl⟩
theorem w_c_X3_goUp : Cond.code yX3_goUp cX3_goUp 4 none ∈ gW := gW_in (i := 779) (by decide +kernel) rfl
theorem w_i_X3_goUp : Cond.instanceMethod yX3_goUp ∈ gW := gW_in (i := 777) (by decide +kernel) rfl
theorem w_s_X3_goUp : Cond.selects yX3_goUp.cls yX3_goUp yX3_goUp ∈ gW := gW_in (i := 778) (by decide +kernel) rfl
theorem w_d_X3_goUp : yX3_goUp.cls ≠ "java/lang/invoke/MethodHandle" ∧ yX3_goUp.cls ≠ "java/lang/invoke/VarHandle" ∧ (parseMethodDescriptor yX3_goUp.desc).map (fun d => d.parameters.length) = some 0 := by decide +kernel
theorem LBX0_215 : g_LB RX0 215 yX3_goUp cX3_goUp 4 none 0 := ⟨gW_in (i := 776) (by decide +kernel) rfl, w_ini_X3, w_c_X3_goUp, w_d_X3_goUp⟩
theorem LX0_215 : g_LV RX0 215 yX3_goUp cX3_goUp 4 none 0 3 := ⟨LBX0_215, w_i_X3_goUp, w_s_X3_goUp, _, _, rfl⟩
theorem w_c_X0_startWalk : Cond.code yX0_startWalk cX0_startWalk 5 (some .int) ∈ gW := gW_in (i := 583) (by decide +kernel) rfl
theorem w_i_X0_startWalk : Cond.instanceMethod yX0_startWalk ∈ gW := gW_in (i := 581) (by decide +kernel) rfl
theorem w_s_X0_startWalk : Cond.selects yX0_startWalk.cls yX0_startWalk yX0_startWalk ∈ gW := gW_in (i := 582) (by decide +kernel) rfl
theorem w_d_X0_startWalk : yX0_startWalk.cls ≠ "java/lang/invoke/MethodHandle" ∧ yX0_startWalk.cls ≠ "java/lang/invoke/VarHandle" ∧ (parseMethodDescriptor yX0_startWalk.desc).map (fun d => d.parameters.length) = some 2 := by decide +kernel
theorem LBX0_218 : g_LB RX0 218 yX0_startWalk cX0_startWalk 5 (some .int) 2 := ⟨gW_in (i := 755) (by decide +kernel) rfl, w_ini_X0, w_c_X0_startWalk, w_d_X0_startWalk⟩
theorem LX0_218 : g_LV RX0 218 yX0_startWalk cX0_startWalk 5 (some .int) 2 0 := ⟨LBX0_218, w_i_X0_startWalk, w_s_X0_startWalk, _, _, rfl⟩
theorem w_c_X0_walkOn : Cond.code yX0_walkOn cX0_walkOn 3 none ∈ gW := gW_in (i := 759) (by decide +kernel) rfl
theorem w_i_X0_walkOn : Cond.instanceMethod yX0_walkOn ∈ gW := gW_in (i := 758) (by decide +kernel) rfl
theorem w_s_X0_walkOn : Cond.selects yX0_walkOn.cls yX0_walkOn yX0_walkOn ∈ gW := gW_in (i := 7) (by decide +kernel) rfl
theorem w_d_X0_walkOn : yX0_walkOn.cls ≠ "java/lang/invoke/MethodHandle" ∧ yX0_walkOn.cls ≠ "java/lang/invoke/VarHandle" ∧ (parseMethodDescriptor yX0_walkOn.desc).map (fun d => d.parameters.length) = some 1 := by decide +kernel
theorem LBX0_221 : g_LB RX0 221 yX0_walkOn cX0_walkOn 3 none 1 := ⟨gW_in (i := 756) (by decide +kernel) rfl, w_ini_X0, w_c_X0_walkOn, w_d_X0_walkOn⟩
theorem LX0_221 : g_LV RX0 221 yX0_walkOn cX0_walkOn 3 none 1 0 := ⟨LBX0_221, w_i_X0_walkOn, w_s_X0_walkOn, _, _, rfl⟩
theorem w_c_X0_rigOn : Cond.code yX0_rigOn cX0_rigOn 2 none ∈ gW := gW_in (i := 767) (by decide +kernel) rfl
theorem w_i_X0_rigOn : Cond.instanceMethod yX0_rigOn ∈ gW := gW_in (i := 766) (by decide +kernel) rfl
theorem w_s_X0_rigOn : Cond.selects yX0_rigOn.cls yX0_rigOn yX0_rigOn ∈ gW := gW_in (i := 8) (by decide +kernel) rfl
theorem w_d_X0_rigOn : yX0_rigOn.cls ≠ "java/lang/invoke/MethodHandle" ∧ yX0_rigOn.cls ≠ "java/lang/invoke/VarHandle" ∧ (parseMethodDescriptor yX0_rigOn.desc).map (fun d => d.parameters.length) = some 1 := by decide +kernel
theorem LBX0_224 : g_LB RX0 224 yX0_rigOn cX0_rigOn 2 none 1 := ⟨gW_in (i := 764) (by decide +kernel) rfl, w_ini_X0, w_c_X0_rigOn, w_d_X0_rigOn⟩
theorem LX0_224 : g_LV RX0 224 yX0_rigOn cX0_rigOn 2 none 1 0 := ⟨LBX0_224, w_i_X0_rigOn, w_s_X0_rigOn, _, _, rfl⟩
theorem w_c_X1_countBelow : Cond.code yX1_countBelow cX1_countBelow 1 (some .boolean) ∈ gW := gW_in (i := 771) (by decide +kernel) rfl
theorem w_i_X1_countBelow : Cond.instanceMethod yX1_countBelow ∈ gW := gW_in (i := 769) (by decide +kernel) rfl
theorem w_s_X1_countBelow : Cond.selects yX1_countBelow.cls yX1_countBelow yX1_countBelow ∈ gW := gW_in (i := 770) (by decide +kernel) rfl
theorem w_d_X1_countBelow : yX1_countBelow.cls ≠ "java/lang/invoke/MethodHandle" ∧ yX1_countBelow.cls ≠ "java/lang/invoke/VarHandle" ∧ (parseMethodDescriptor yX1_countBelow.desc).map (fun d => d.parameters.length) = some 0 := by decide +kernel
theorem LBX0_227 : g_LB RX0 227 yX1_countBelow cX1_countBelow 1 (some .boolean) 0 := ⟨gW_in (i := 768) (by decide +kernel) rfl, w_ini_X1, w_c_X1_countBelow, w_d_X1_countBelow⟩
theorem LX0_227 : g_LV RX0 227 yX1_countBelow cX1_countBelow 1 (some .boolean) 0 1 := ⟨LBX0_227, w_i_X1_countBelow, w_s_X1_countBelow, _, _, rfl⟩
theorem w_c_X1_arrive : Cond.code yX1_arrive cX1_arrive 1 none ∈ gW := gW_in (i := 763) (by decide +kernel) rfl
theorem w_i_X1_arrive : Cond.instanceMethod yX1_arrive ∈ gW := gW_in (i := 761) (by decide +kernel) rfl
theorem w_s_X1_arrive : Cond.selects yX1_arrive.cls yX1_arrive yX1_arrive ∈ gW := gW_in (i := 762) (by decide +kernel) rfl
theorem w_d_X1_arrive : yX1_arrive.cls ≠ "java/lang/invoke/MethodHandle" ∧ yX1_arrive.cls ≠ "java/lang/invoke/VarHandle" ∧ (parseMethodDescriptor yX1_arrive.desc).map (fun d => d.parameters.length) = some 0 := by decide +kernel
theorem LBX0_234 : g_LB RX0 234 yX1_arrive cX1_arrive 1 none 0 := ⟨gW_in (i := 760) (by decide +kernel) rfl, w_ini_X1, w_c_X1_arrive, w_d_X1_arrive⟩
theorem LX0_234 : g_LV RX0 234 yX1_arrive cX1_arrive 1 none 0 1 := ⟨LBX0_234, w_i_X1_arrive, w_s_X1_arrive, _, _, rfl⟩
theorem w_c_X1_isBelow : Cond.code yX1_isBelow cX1_isBelow 1 (some .boolean) ∈ gW := gW_in (i := 775) (by decide +kernel) rfl
theorem w_i_X1_isBelow : Cond.instanceMethod yX1_isBelow ∈ gW := gW_in (i := 773) (by decide +kernel) rfl
theorem w_s_X1_isBelow : Cond.selects yX1_isBelow.cls yX1_isBelow yX1_isBelow ∈ gW := gW_in (i := 774) (by decide +kernel) rfl
theorem w_d_X1_isBelow : yX1_isBelow.cls ≠ "java/lang/invoke/MethodHandle" ∧ yX1_isBelow.cls ≠ "java/lang/invoke/VarHandle" ∧ (parseMethodDescriptor yX1_isBelow.desc).map (fun d => d.parameters.length) = some 0 := by decide +kernel
theorem LBX0_247 : g_LB RX0 247 yX1_isBelow cX1_isBelow 1 (some .boolean) 0 := ⟨gW_in (i := 795) (by decide +kernel) rfl, w_ini_X1, w_c_X1_isBelow, w_d_X1_isBelow⟩
theorem LX0_247 : g_LV RX0 247 yX1_isBelow cX1_isBelow 1 (some .boolean) 0 1 := ⟨LBX0_247, w_i_X1_isBelow, w_s_X1_isBelow, _, _, rfl⟩
theorem w_c_X0_countOfBelow : Cond.code yX0_countOfBelow cX0_countOfBelow 3 (some .int) ∈ gW := gW_in (i := 794) (by decide +kernel) rfl
theorem w_i_X0_countOfBelow : Cond.instanceMethod yX0_countOfBelow ∈ gW := gW_in (i := 793) (by decide +kernel) rfl
theorem w_s_X0_countOfBelow : Cond.selects yX0_countOfBelow.cls yX0_countOfBelow yX0_countOfBelow ∈ gW := gW_in (i := 9) (by decide +kernel) rfl
theorem w_d_X0_countOfBelow : yX0_countOfBelow.cls ≠ "java/lang/invoke/MethodHandle" ∧ yX0_countOfBelow.cls ≠ "java/lang/invoke/VarHandle" ∧ (parseMethodDescriptor yX0_countOfBelow.desc).map (fun d => d.parameters.length) = some 0 := by decide +kernel
theorem LBX0_250 : g_LB RX0 250 yX0_countOfBelow cX0_countOfBelow 3 (some .int) 0 := ⟨gW_in (i := 791) (by decide +kernel) rfl, w_ini_X0, w_c_X0_countOfBelow, w_d_X0_countOfBelow⟩
theorem LX0_250 : g_LV RX0 250 yX0_countOfBelow cX0_countOfBelow 3 (some .int) 0 0 := ⟨LBX0_250, w_i_X0_countOfBelow, w_s_X0_countOfBelow, _, _, rfl⟩
theorem w_c_X4_countOfClosed : Cond.code yX4_countOfClosed cX4_countOfClosed 3 (some .int) ∈ gW := gW_in (i := 799) (by decide +kernel) rfl
theorem w_i_X4_countOfClosed : Cond.instanceMethod yX4_countOfClosed ∈ gW := gW_in (i := 797) (by decide +kernel) rfl
theorem w_s_X4_countOfClosed : Cond.selects yX4_countOfClosed.cls yX4_countOfClosed yX4_countOfClosed ∈ gW := gW_in (i := 798) (by decide +kernel) rfl
theorem w_d_X4_countOfClosed : yX4_countOfClosed.cls ≠ "java/lang/invoke/MethodHandle" ∧ yX4_countOfClosed.cls ≠ "java/lang/invoke/VarHandle" ∧ (parseMethodDescriptor yX4_countOfClosed.desc).map (fun d => d.parameters.length) = some 0 := by decide +kernel
theorem LBX0_253 : g_LB RX0 253 yX4_countOfClosed cX4_countOfClosed 3 (some .int) 0 := ⟨gW_in (i := 796) (by decide +kernel) rfl, w_ini_X4, w_c_X4_countOfClosed, w_d_X4_countOfClosed⟩
theorem LX0_253 : g_LV RX0 253 yX4_countOfClosed cX4_countOfClosed 3 (some .int) 0 4 := ⟨LBX0_253, w_i_X4_countOfClosed, w_s_X4_countOfClosed, _, _, rfl⟩
theorem w_c_X4_startAnew : Cond.code yX4_startAnew cX4_startAnew 3 none ∈ gW := gW_in (i := 395) (by decide +kernel) rfl
theorem w_i_X4_startAnew : Cond.instanceMethod yX4_startAnew ∈ gW := gW_in (i := 393) (by decide +kernel) rfl
theorem w_s_X4_startAnew : Cond.selects yX4_startAnew.cls yX4_startAnew yX4_startAnew ∈ gW := gW_in (i := 394) (by decide +kernel) rfl
theorem w_d_X4_startAnew : yX4_startAnew.cls ≠ "java/lang/invoke/MethodHandle" ∧ yX4_startAnew.cls ≠ "java/lang/invoke/VarHandle" ∧ (parseMethodDescriptor yX4_startAnew.desc).map (fun d => d.parameters.length) = some 1 := by decide +kernel
theorem LBX0_69 : g_LB RX0 69 yX4_startAnew cX4_startAnew 3 none 1 := ⟨gW_in (i := 392) (by decide +kernel) rfl, w_ini_X4, w_c_X4_startAnew, w_d_X4_startAnew⟩
theorem LX0_69 : g_LV RX0 69 yX4_startAnew cX4_startAnew 3 none 1 4 := ⟨LBX0_69, w_i_X4_startAnew, w_s_X4_startAnew, _, _, rfl⟩
theorem w_c_X4_copyFrom : Cond.code yX4_copyFrom cX4_copyFrom 3 none ∈ gW := gW_in (i := 371) (by decide +kernel) rfl
theorem w_i_X4_copyFrom : Cond.instanceMethod yX4_copyFrom ∈ gW := gW_in (i := 369) (by decide +kernel) rfl
theorem w_s_X4_copyFrom : Cond.selects yX4_copyFrom.cls yX4_copyFrom yX4_copyFrom ∈ gW := gW_in (i := 370) (by decide +kernel) rfl
theorem w_d_X4_copyFrom : yX4_copyFrom.cls ≠ "java/lang/invoke/MethodHandle" ∧ yX4_copyFrom.cls ≠ "java/lang/invoke/VarHandle" ∧ (parseMethodDescriptor yX4_copyFrom.desc).map (fun d => d.parameters.length) = some 1 := by decide +kernel
theorem LBX0_86 : g_LB RX0 86 yX4_copyFrom cX4_copyFrom 3 none 1 := ⟨gW_in (i := 368) (by decide +kernel) rfl, w_ini_X4, w_c_X4_copyFrom, w_d_X4_copyFrom⟩
theorem LX0_86 : g_LV RX0 86 yX4_copyFrom cX4_copyFrom 3 none 1 4 := ⟨LBX0_86, w_i_X4_copyFrom, w_s_X4_copyFrom, _, _, rfl⟩
theorem w_c_X5_copyFrom : Cond.code yX5_copyFrom cX5_copyFrom 3 none ∈ gW := gW_in (i := 375) (by decide +kernel) rfl
theorem w_i_X5_copyFrom : Cond.instanceMethod yX5_copyFrom ∈ gW := gW_in (i := 373) (by decide +kernel) rfl
theorem w_s_X5_copyFrom : Cond.selects yX5_copyFrom.cls yX5_copyFrom yX5_copyFrom ∈ gW := gW_in (i := 374) (by decide +kernel) rfl
theorem w_d_X5_copyFrom : yX5_copyFrom.cls ≠ "java/lang/invoke/MethodHandle" ∧ yX5_copyFrom.cls ≠ "java/lang/invoke/VarHandle" ∧ (parseMethodDescriptor yX5_copyFrom.desc).map (fun d => d.parameters.length) = some 1 := by decide +kernel
theorem LBX0_90 : g_LB RX0 90 yX5_copyFrom cX5_copyFrom 3 none 1 := ⟨gW_in (i := 372) (by decide +kernel) rfl, w_ini_X5, w_c_X5_copyFrom, w_d_X5_copyFrom⟩
theorem LX0_90 : g_LV RX0 90 yX5_copyFrom cX5_copyFrom 3 none 1 5 := ⟨LBX0_90, w_i_X5_copyFrom, w_s_X5_copyFrom, _, _, rfl⟩
theorem w_c_X1_copyFrom : Cond.code yX1_copyFrom cX1_copyFrom 2 none ∈ gW := gW_in (i := 379) (by decide +kernel) rfl
theorem w_i_X1_copyFrom : Cond.instanceMethod yX1_copyFrom ∈ gW := gW_in (i := 377) (by decide +kernel) rfl
theorem w_s_X1_copyFrom : Cond.selects yX1_copyFrom.cls yX1_copyFrom yX1_copyFrom ∈ gW := gW_in (i := 378) (by decide +kernel) rfl
theorem w_d_X1_copyFrom : yX1_copyFrom.cls ≠ "java/lang/invoke/MethodHandle" ∧ yX1_copyFrom.cls ≠ "java/lang/invoke/VarHandle" ∧ (parseMethodDescriptor yX1_copyFrom.desc).map (fun d => d.parameters.length) = some 1 := by decide +kernel
theorem LBX0_93 : g_LB RX0 93 yX1_copyFrom cX1_copyFrom 2 none 1 := ⟨gW_in (i := 376) (by decide +kernel) rfl, w_ini_X1, w_c_X1_copyFrom, w_d_X1_copyFrom⟩
theorem LX0_93 : g_LV RX0 93 yX1_copyFrom cX1_copyFrom 2 none 1 1 := ⟨LBX0_93, w_i_X1_copyFrom, w_s_X1_copyFrom, _, _, rfl⟩
theorem w_c_X3_copyFrom : Cond.code yX3_copyFrom cX3_copyFrom 3 none ∈ gW := gW_in (i := 383) (by decide +kernel) rfl
theorem w_i_X3_copyFrom : Cond.instanceMethod yX3_copyFrom ∈ gW := gW_in (i := 381) (by decide +kernel) rfl
theorem w_s_X3_copyFrom : Cond.selects yX3_copyFrom.cls yX3_copyFrom yX3_copyFrom ∈ gW := gW_in (i := 382) (by decide +kernel) rfl
theorem w_d_X3_copyFrom : yX3_copyFrom.cls ≠ "java/lang/invoke/MethodHandle" ∧ yX3_copyFrom.cls ≠ "java/lang/invoke/VarHandle" ∧ (parseMethodDescriptor yX3_copyFrom.desc).map (fun d => d.parameters.length) = some 1 := by decide +kernel
theorem LBX0_96 : g_LB RX0 96 yX3_copyFrom cX3_copyFrom 3 none 1 := ⟨gW_in (i := 380) (by decide +kernel) rfl, w_ini_X3, w_c_X3_copyFrom, w_d_X3_copyFrom⟩
theorem LX0_96 : g_LV RX0 96 yX3_copyFrom cX3_copyFrom 3 none 1 3 := ⟨LBX0_96, w_i_X3_copyFrom, w_s_X3_copyFrom, _, _, rfl⟩
theorem w_c_X2_copyFrom : Cond.code yX2_copyFrom cX2_copyFrom 3 none ∈ gW := gW_in (i := 387) (by decide +kernel) rfl
theorem w_i_X2_copyFrom : Cond.instanceMethod yX2_copyFrom ∈ gW := gW_in (i := 385) (by decide +kernel) rfl
theorem w_s_X2_copyFrom : Cond.selects yX2_copyFrom.cls yX2_copyFrom yX2_copyFrom ∈ gW := gW_in (i := 386) (by decide +kernel) rfl
theorem w_d_X2_copyFrom : yX2_copyFrom.cls ≠ "java/lang/invoke/MethodHandle" ∧ yX2_copyFrom.cls ≠ "java/lang/invoke/VarHandle" ∧ (parseMethodDescriptor yX2_copyFrom.desc).map (fun d => d.parameters.length) = some 1 := by decide +kernel
theorem LBX0_99 : g_LB RX0 99 yX2_copyFrom cX2_copyFrom 3 none 1 := ⟨gW_in (i := 384) (by decide +kernel) rfl, w_ini_X2, w_c_X2_copyFrom, w_d_X2_copyFrom⟩
theorem LX0_99 : g_LV RX0 99 yX2_copyFrom cX2_copyFrom 3 none 1 2 := ⟨LBX0_99, w_i_X2_copyFrom, w_s_X2_copyFrom, _, _, rfl⟩
theorem LBX1_40 : g_LB RX1 40 yJ9_min_7cf53 cJ9_min_7cf53 2 (some .int) 2 := ⟨gW_in (i := 458) (by decide +kernel) rfl, w_ini_J9, w_c_J9_min_7cf53, w_d_J9_min_7cf53⟩
theorem LX1_40 : g_LS RX1 40 yJ9_min_7cf53 cJ9_min_7cf53 2 (some .int) 2 := ⟨LBX1_40, w_t_J9_min_7cf53⟩
theorem LBX1_46 : g_LB RX1 46 yX1_isBelow cX1_isBelow 1 (some .boolean) 0 := ⟨gW_in (i := 772) (by decide +kernel) rfl, w_ini_X1, w_c_X1_isBelow, w_d_X1_isBelow⟩
theorem LX1_46 : g_LV RX1 46 yX1_isBelow cX1_isBelow 1 (some .boolean) 0 1 := ⟨LBX1_46, w_i_X1_isBelow, w_s_X1_isBelow, _, _, rfl⟩
theorem LBX2_28 : g_LB RX2 28 yJ9_min_7cf53 cJ9_min_7cf53 2 (some .int) 2 := ⟨gW_in (i := 708) (by decide +kernel) rfl, w_ini_J9, w_c_J9_min_7cf53, w_d_J9_min_7cf53⟩
theorem LX2_28 : g_LS RX2 28 yJ9_min_7cf53 cJ9_min_7cf53 2 (some .int) 2 := ⟨LBX2_28, w_t_J9_min_7cf53⟩
theorem w_c_X3_set : Cond.code yX3_set cX3_set 5 none ∈ gW := gW_in (i := 731) (by decide +kernel) rfl
theorem w_i_X3_set : Cond.instanceMethod yX3_set ∈ gW := gW_in (i := 730) (by decide +kernel) rfl
theorem w_s_X3_set : Cond.selects yX3_set.cls yX3_set yX3_set ∈ gW := gW_in (i := 5) (by decide +kernel) rfl
theorem w_d_X3_set : yX3_set.cls ≠ "java/lang/invoke/MethodHandle" ∧ yX3_set.cls ≠ "java/lang/invoke/VarHandle" ∧ (parseMethodDescriptor yX3_set.desc).map (fun d => d.parameters.length) = some 4 := by decide +kernel
theorem LBX3_28 : g_LB RX3 28 yX3_set cX3_set 5 none 4 := ⟨gW_in (i := 728) (by decide +kernel) rfl, w_ini_X3, w_c_X3_set, w_d_X3_set⟩
theorem LX3_28 : g_LV RX3 28 yX3_set cX3_set 5 none 4 3 := ⟨LBX3_28, w_i_X3_set, w_s_X3_set, _, _, rfl⟩
theorem w_c_X4_has : Cond.code yX4_has cX4_has 2 (some .boolean) ∈ gW := gW_in (i := 445) (by decide +kernel) rfl
theorem w_i_X4_has : Cond.instanceMethod yX4_has ∈ gW := gW_in (i := 444) (by decide +kernel) rfl
theorem w_s_X4_has : Cond.selects yX4_has.cls yX4_has yX4_has ∈ gW := gW_in (i := 3) (by decide +kernel) rfl
theorem w_d_X4_has : yX4_has.cls ≠ "java/lang/invoke/MethodHandle" ∧ yX4_has.cls ≠ "java/lang/invoke/VarHandle" ∧ (parseMethodDescriptor yX4_has.desc).map (fun d => d.parameters.length) = some 1 := by decide +kernel
theorem LBX4_36 : g_LB RX4 36 yX4_has cX4_has 2 (some .boolean) 1 := ⟨gW_in (i := 442) (by decide +kernel) rfl, w_ini_X4, w_c_X4_has, w_d_X4_has⟩
theorem LX4_36 : g_LV RX4 36 yX4_has cX4_has 2 (some .boolean) 1 4 := ⟨LBX4_36, w_i_X4_has, w_s_X4_has, _, _, rfl⟩
theorem LBX4_40 : g_LB RX4 40 yX4_isOpen cX4_isOpen 2 (some .boolean) 1 := ⟨gW_in (i := 800) (by decide +kernel) rfl, w_ini_X4, w_c_X4_isOpen, w_d_X4_isOpen⟩
theorem LX4_40 : g_LV RX4 40 yX4_isOpen cX4_isOpen 2 (some .boolean) 1 4 := ⟨LBX4_40, w_i_X4_isOpen, w_s_X4_isOpen, _, _, rfl⟩
theorem LBX5_25 : g_LB RX5 25 yX5_put cX5_put 4 none 3 := ⟨gW_in (i := 501) (by decide +kernel) rfl, w_ini_X5, w_c_X5_put, w_d_X5_put⟩
theorem LX5_25 : g_LV RX5 25 yX5_put cX5_put 4 none 3 5 := ⟨LBX5_25, w_i_X5_put, w_s_X5_put, _, _, rfl⟩
theorem w_c_X5_has : Cond.code yX5_has cX5_has 2 (some .boolean) ∈ gW := gW_in (i := 508) (by decide +kernel) rfl
theorem w_i_X5_has : Cond.instanceMethod yX5_has ∈ gW := gW_in (i := 507) (by decide +kernel) rfl
theorem w_s_X5_has : Cond.selects yX5_has.cls yX5_has yX5_has ∈ gW := gW_in (i := 4) (by decide +kernel) rfl
theorem w_d_X5_has : yX5_has.cls ≠ "java/lang/invoke/MethodHandle" ∧ yX5_has.cls ≠ "java/lang/invoke/VarHandle" ∧ (parseMethodDescriptor yX5_has.desc).map (fun d => d.parameters.length) = some 1 := by decide +kernel
theorem LBX5_29 : g_LB RX5 29 yX5_has cX5_has 2 (some .boolean) 1 := ⟨gW_in (i := 505) (by decide +kernel) rfl, w_ini_X5, w_c_X5_has, w_d_X5_has⟩
theorem LX5_29 : g_LV RX5 29 yX5_has cX5_has 2 (some .boolean) 1 5 := ⟨LBX5_29, w_i_X5_has, w_s_X5_has, _, _, rfl⟩
theorem w_c_X0_canTake : Cond.code yX0_canTake cX0_canTake 3 (some .boolean) ∈ gW := gW_in (i := 602) (by decide +kernel) rfl
theorem w_i_X0_canTake : Cond.instanceMethod yX0_canTake ∈ gW := gW_in (i := 600) (by decide +kernel) rfl
theorem w_s_X0_canTake : Cond.selects yX0_canTake.cls yX0_canTake yX0_canTake ∈ gW := gW_in (i := 601) (by decide +kernel) rfl
theorem w_d_X0_canTake : yX0_canTake.cls ≠ "java/lang/invoke/MethodHandle" ∧ yX0_canTake.cls ≠ "java/lang/invoke/VarHandle" ∧ (parseMethodDescriptor yX0_canTake.desc).map (fun d => d.parameters.length) = some 2 := by decide +kernel
theorem LBX7_102 : g_LB RX7 102 yX0_canTake cX0_canTake 3 (some .boolean) 2 := ⟨gW_in (i := 599) (by decide +kernel) rfl, w_ini_X0, w_c_X0_canTake, w_d_X0_canTake⟩
theorem LX7_102 : g_LV RX7 102 yX0_canTake cX0_canTake 3 (some .boolean) 2 0 := ⟨LBX7_102, w_i_X0_canTake, w_s_X0_canTake, _, _, rfl⟩
theorem LBX7_105 : g_LB RX7 105 yX0_takeRope cX0_takeRope 3 none 2 := ⟨gW_in (i := 607) (by decide +kernel) rfl, w_ini_X0, w_c_X0_takeRope, w_d_X0_takeRope⟩
theorem LX7_105 : g_LV RX7 105 yX0_takeRope cX0_takeRope 3 none 2 0 := ⟨LBX7_105, w_i_X0_takeRope, w_s_X0_takeRope, _, _, rfl⟩
theorem w_c_X5_lengthOf : Cond.code yX5_lengthOf cX5_lengthOf 2 (some .int) ∈ gW := gW_in (i := 615) (by decide +kernel) rfl
theorem w_i_X5_lengthOf : Cond.instanceMethod yX5_lengthOf ∈ gW := gW_in (i := 613) (by decide +kernel) rfl
theorem w_s_X5_lengthOf : Cond.selects yX5_lengthOf.cls yX5_lengthOf yX5_lengthOf ∈ gW := gW_in (i := 614) (by decide +kernel) rfl
theorem w_d_X5_lengthOf : yX5_lengthOf.cls ≠ "java/lang/invoke/MethodHandle" ∧ yX5_lengthOf.cls ≠ "java/lang/invoke/VarHandle" ∧ (parseMethodDescriptor yX5_lengthOf.desc).map (fun d => d.parameters.length) = some 1 := by decide +kernel
theorem LBX7_108 : g_LB RX7 108 yX5_lengthOf cX5_lengthOf 2 (some .int) 1 := ⟨gW_in (i := 612) (by decide +kernel) rfl, w_ini_X5, w_c_X5_lengthOf, w_d_X5_lengthOf⟩
theorem LX7_108 : g_LV RX7 108 yX5_lengthOf cX5_lengthOf 2 (some .int) 1 5 := ⟨LBX7_108, w_i_X5_lengthOf, w_s_X5_lengthOf, _, _, rfl⟩
theorem LBX7_111 : g_LB RX7 111 yX0_canLay cX0_canLay 2 (some .boolean) 1 := ⟨gW_in (i := 623) (by decide +kernel) rfl, w_ini_X0, w_c_X0_canLay, w_d_X0_canLay⟩
theorem LX7_111 : g_LV RX7 111 yX0_canLay cX0_canLay 2 (some .boolean) 1 0 := ⟨LBX7_111, w_i_X0_canLay, w_s_X0_canLay, _, _, rfl⟩
theorem w_c_X0_layRope : Cond.code yX0_layRope cX0_layRope 4 (some .int) ∈ gW := gW_in (i := 630) (by decide +kernel) rfl
theorem w_i_X0_layRope : Cond.instanceMethod yX0_layRope ∈ gW := gW_in (i := 628) (by decide +kernel) rfl
theorem w_s_X0_layRope : Cond.selects yX0_layRope.cls yX0_layRope yX0_layRope ∈ gW := gW_in (i := 629) (by decide +kernel) rfl
theorem w_d_X0_layRope : yX0_layRope.cls ≠ "java/lang/invoke/MethodHandle" ∧ yX0_layRope.cls ≠ "java/lang/invoke/VarHandle" ∧ (parseMethodDescriptor yX0_layRope.desc).map (fun d => d.parameters.length) = some 1 := by decide +kernel
theorem LBX7_114 : g_LB RX7 114 yX0_layRope cX0_layRope 4 (some .int) 1 := ⟨gW_in (i := 627) (by decide +kernel) rfl, w_ini_X0, w_c_X0_layRope, w_d_X0_layRope⟩
theorem LX7_114 : g_LV RX7 114 yX0_layRope cX0_layRope 4 (some .int) 1 0 := ⟨LBX7_114, w_i_X0_layRope, w_s_X0_layRope, _, _, rfl⟩
theorem w_c_X0_canRig : Cond.code yX0_canRig cX0_canRig 4 (some .boolean) ∈ gW := gW_in (i := 641) (by decide +kernel) rfl
theorem w_i_X0_canRig : Cond.instanceMethod yX0_canRig ∈ gW := gW_in (i := 639) (by decide +kernel) rfl
theorem w_s_X0_canRig : Cond.selects yX0_canRig.cls yX0_canRig yX0_canRig ∈ gW := gW_in (i := 640) (by decide +kernel) rfl
theorem w_d_X0_canRig : yX0_canRig.cls ≠ "java/lang/invoke/MethodHandle" ∧ yX0_canRig.cls ≠ "java/lang/invoke/VarHandle" ∧ (parseMethodDescriptor yX0_canRig.desc).map (fun d => d.parameters.length) = some 1 := by decide +kernel
theorem LBX7_117 : g_LB RX7 117 yX0_canRig cX0_canRig 4 (some .boolean) 1 := ⟨gW_in (i := 638) (by decide +kernel) rfl, w_ini_X0, w_c_X0_canRig, w_d_X0_canRig⟩
theorem LX7_117 : g_LV RX7 117 yX0_canRig cX0_canRig 4 (some .boolean) 1 0 := ⟨LBX7_117, w_i_X0_canRig, w_s_X0_canRig, _, _, rfl⟩
theorem w_c_X0_startRig : Cond.code yX0_startRig cX0_startRig 3 (some .int) ∈ gW := gW_in (i := 651) (by decide +kernel) rfl
theorem w_i_X0_startRig : Cond.instanceMethod yX0_startRig ∈ gW := gW_in (i := 649) (by decide +kernel) rfl
theorem w_s_X0_startRig : Cond.selects yX0_startRig.cls yX0_startRig yX0_startRig ∈ gW := gW_in (i := 650) (by decide +kernel) rfl
theorem w_d_X0_startRig : yX0_startRig.cls ≠ "java/lang/invoke/MethodHandle" ∧ yX0_startRig.cls ≠ "java/lang/invoke/VarHandle" ∧ (parseMethodDescriptor yX0_startRig.desc).map (fun d => d.parameters.length) = some 1 := by decide +kernel
theorem LBX7_120 : g_LB RX7 120 yX0_startRig cX0_startRig 3 (some .int) 1 := ⟨gW_in (i := 648) (by decide +kernel) rfl, w_ini_X0, w_c_X0_startRig, w_d_X0_startRig⟩
theorem LX7_120 : g_LV RX7 120 yX0_startRig cX0_startRig 3 (some .int) 1 0 := ⟨LBX7_120, w_i_X0_startRig, w_s_X0_startRig, _, _, rfl⟩
theorem w_c_X0_canUnrig : Cond.code yX0_canUnrig cX0_canUnrig 3 (some .boolean) ∈ gW := gW_in (i := 662) (by decide +kernel) rfl
theorem w_i_X0_canUnrig : Cond.instanceMethod yX0_canUnrig ∈ gW := gW_in (i := 660) (by decide +kernel) rfl
theorem w_s_X0_canUnrig : Cond.selects yX0_canUnrig.cls yX0_canUnrig yX0_canUnrig ∈ gW := gW_in (i := 661) (by decide +kernel) rfl
theorem w_d_X0_canUnrig : yX0_canUnrig.cls ≠ "java/lang/invoke/MethodHandle" ∧ yX0_canUnrig.cls ≠ "java/lang/invoke/VarHandle" ∧ (parseMethodDescriptor yX0_canUnrig.desc).map (fun d => d.parameters.length) = some 1 := by decide +kernel
theorem LBX7_123 : g_LB RX7 123 yX0_canUnrig cX0_canUnrig 3 (some .boolean) 1 := ⟨gW_in (i := 659) (by decide +kernel) rfl, w_ini_X0, w_c_X0_canUnrig, w_d_X0_canUnrig⟩
theorem LX7_123 : g_LV RX7 123 yX0_canUnrig cX0_canUnrig 3 (some .boolean) 1 0 := ⟨LBX7_123, w_i_X0_canUnrig, w_s_X0_canUnrig, _, _, rfl⟩
theorem w_c_X0_unrig : Cond.code yX0_unrig cX0_unrig 4 (some .int) ∈ gW := gW_in (i := 666) (by decide +kernel) rfl
theorem w_i_X0_unrig : Cond.instanceMethod yX0_unrig ∈ gW := gW_in (i := 664) (by decide +kernel) rfl
theorem w_s_X0_unrig : Cond.selects yX0_unrig.cls yX0_unrig yX0_unrig ∈ gW := gW_in (i := 665) (by decide +kernel) rfl
theorem w_d_X0_unrig : yX0_unrig.cls ≠ "java/lang/invoke/MethodHandle" ∧ yX0_unrig.cls ≠ "java/lang/invoke/VarHandle" ∧ (parseMethodDescriptor yX0_unrig.desc).map (fun d => d.parameters.length) = some 1 := by decide +kernel
theorem LBX7_126 : g_LB RX7 126 yX0_unrig cX0_unrig 4 (some .int) 1 := ⟨gW_in (i := 663) (by decide +kernel) rfl, w_ini_X0, w_c_X0_unrig, w_d_X0_unrig⟩
theorem LX7_126 : g_LV RX7 126 yX0_unrig cX0_unrig 4 (some .int) 1 0 := ⟨LBX7_126, w_i_X0_unrig, w_s_X0_unrig, _, _, rfl⟩
theorem w_c_X0_isTeam : Cond.code yX0_isTeam cX0_isTeam 2 (some .boolean) ∈ gW := gW_in (i := 685) (by decide +kernel) rfl
theorem w_i_X0_isTeam : Cond.instanceMethod yX0_isTeam ∈ gW := gW_in (i := 683) (by decide +kernel) rfl
theorem w_s_X0_isTeam : Cond.selects yX0_isTeam.cls yX0_isTeam yX0_isTeam ∈ gW := gW_in (i := 684) (by decide +kernel) rfl
theorem w_d_X0_isTeam : yX0_isTeam.cls ≠ "java/lang/invoke/MethodHandle" ∧ yX0_isTeam.cls ≠ "java/lang/invoke/VarHandle" ∧ (parseMethodDescriptor yX0_isTeam.desc).map (fun d => d.parameters.length) = some 1 := by decide +kernel
theorem LBX7_129 : g_LB RX7 129 yX0_isTeam cX0_isTeam 2 (some .boolean) 1 := ⟨gW_in (i := 682) (by decide +kernel) rfl, w_ini_X0, w_c_X0_isTeam, w_d_X0_isTeam⟩
theorem LX7_129 : g_LV RX7 129 yX0_isTeam cX0_isTeam 2 (some .boolean) 1 0 := ⟨LBX7_129, w_i_X0_isTeam, w_s_X0_isTeam, _, _, rfl⟩
theorem w_c_X7_requireArgument : Cond.code yX7_requireArgument cX7_requireArgument 1 none ∈ gW := gW_in (i := 287) (by decide +kernel) rfl
theorem w_t_X7_requireArgument : Cond.static yX7_requireArgument ∈ gW := gW_in (i := 286) (by decide +kernel) rfl
theorem w_d_X7_requireArgument : yX7_requireArgument.cls ≠ "java/lang/invoke/MethodHandle" ∧ yX7_requireArgument.cls ≠ "java/lang/invoke/VarHandle" ∧ (parseMethodDescriptor yX7_requireArgument.desc).map (fun d => d.parameters.length) = some 1 := by decide +kernel
theorem LBX7_132 : g_LB RX7 132 yX7_requireArgument cX7_requireArgument 1 none 1 := ⟨gW_in (i := 285) (by decide +kernel) rfl, w_ini_X7, w_c_X7_requireArgument, w_d_X7_requireArgument⟩
theorem LX7_132 : g_LS RX7 132 yX7_requireArgument cX7_requireArgument 1 none 1 := ⟨LBX7_132, w_t_X7_requireArgument⟩
theorem w_c_X0_canCarry : Cond.code yX0_canCarry cX0_canCarry 2 (some .boolean) ∈ gW := gW_in (i := 695) (by decide +kernel) rfl
theorem w_i_X0_canCarry : Cond.instanceMethod yX0_canCarry ∈ gW := gW_in (i := 693) (by decide +kernel) rfl
theorem w_s_X0_canCarry : Cond.selects yX0_canCarry.cls yX0_canCarry yX0_canCarry ∈ gW := gW_in (i := 694) (by decide +kernel) rfl
theorem w_d_X0_canCarry : yX0_canCarry.cls ≠ "java/lang/invoke/MethodHandle" ∧ yX0_canCarry.cls ≠ "java/lang/invoke/VarHandle" ∧ (parseMethodDescriptor yX0_canCarry.desc).map (fun d => d.parameters.length) = some 1 := by decide +kernel
theorem LBX7_135 : g_LB RX7 135 yX0_canCarry cX0_canCarry 2 (some .boolean) 1 := ⟨gW_in (i := 692) (by decide +kernel) rfl, w_ini_X0, w_c_X0_canCarry, w_d_X0_canCarry⟩
theorem LX7_135 : g_LV RX7 135 yX0_canCarry cX0_canCarry 2 (some .boolean) 1 0 := ⟨LBX7_135, w_i_X0_canCarry, w_s_X0_canCarry, _, _, rfl⟩
theorem w_c_X0_startCarry : Cond.code yX0_startCarry cX0_startCarry 4 (some .int) ∈ gW := gW_in (i := 703) (by decide +kernel) rfl
theorem w_i_X0_startCarry : Cond.instanceMethod yX0_startCarry ∈ gW := gW_in (i := 701) (by decide +kernel) rfl
theorem w_s_X0_startCarry : Cond.selects yX0_startCarry.cls yX0_startCarry yX0_startCarry ∈ gW := gW_in (i := 702) (by decide +kernel) rfl
theorem w_d_X0_startCarry : yX0_startCarry.cls ≠ "java/lang/invoke/MethodHandle" ∧ yX0_startCarry.cls ≠ "java/lang/invoke/VarHandle" ∧ (parseMethodDescriptor yX0_startCarry.desc).map (fun d => d.parameters.length) = some 1 := by decide +kernel
theorem LBX7_138 : g_LB RX7 138 yX0_startCarry cX0_startCarry 4 (some .int) 1 := ⟨gW_in (i := 700) (by decide +kernel) rfl, w_ini_X0, w_c_X0_startCarry, w_d_X0_startCarry⟩
theorem LX7_138 : g_LV RX7 138 yX0_startCarry cX0_startCarry 4 (some .int) 1 0 := ⟨LBX7_138, w_i_X0_startCarry, w_s_X0_startCarry, _, _, rfl⟩
theorem w_c_X0_canSend : Cond.code yX0_canSend cX0_canSend 2 (some .boolean) ∈ gW := gW_in (i := 719) (by decide +kernel) rfl
theorem w_i_X0_canSend : Cond.instanceMethod yX0_canSend ∈ gW := gW_in (i := 717) (by decide +kernel) rfl
theorem w_s_X0_canSend : Cond.selects yX0_canSend.cls yX0_canSend yX0_canSend ∈ gW := gW_in (i := 718) (by decide +kernel) rfl
theorem w_d_X0_canSend : yX0_canSend.cls ≠ "java/lang/invoke/MethodHandle" ∧ yX0_canSend.cls ≠ "java/lang/invoke/VarHandle" ∧ (parseMethodDescriptor yX0_canSend.desc).map (fun d => d.parameters.length) = some 1 := by decide +kernel
theorem LBX7_141 : g_LB RX7 141 yX0_canSend cX0_canSend 2 (some .boolean) 1 := ⟨gW_in (i := 716) (by decide +kernel) rfl, w_ini_X0, w_c_X0_canSend, w_d_X0_canSend⟩
theorem LX7_141 : g_LV RX7 141 yX0_canSend cX0_canSend 2 (some .boolean) 1 0 := ⟨LBX7_141, w_i_X0_canSend, w_s_X0_canSend, _, _, rfl⟩
theorem w_c_X0_sendFrom : Cond.code yX0_sendFrom cX0_sendFrom 3 none ∈ gW := gW_in (i := 723) (by decide +kernel) rfl
theorem w_i_X0_sendFrom : Cond.instanceMethod yX0_sendFrom ∈ gW := gW_in (i := 721) (by decide +kernel) rfl
theorem w_s_X0_sendFrom : Cond.selects yX0_sendFrom.cls yX0_sendFrom yX0_sendFrom ∈ gW := gW_in (i := 722) (by decide +kernel) rfl
theorem w_d_X0_sendFrom : yX0_sendFrom.cls ≠ "java/lang/invoke/MethodHandle" ∧ yX0_sendFrom.cls ≠ "java/lang/invoke/VarHandle" ∧ (parseMethodDescriptor yX0_sendFrom.desc).map (fun d => d.parameters.length) = some 1 := by decide +kernel
theorem LBX7_144 : g_LB RX7 144 yX0_sendFrom cX0_sendFrom 3 none 1 := ⟨gW_in (i := 720) (by decide +kernel) rfl, w_ini_X0, w_c_X0_sendFrom, w_d_X0_sendFrom⟩
theorem LX7_144 : g_LV RX7 144 yX0_sendFrom cX0_sendFrom 3 none 1 0 := ⟨LBX7_144, w_i_X0_sendFrom, w_s_X0_sendFrom, _, _, rfl⟩
theorem w_c_X0_canPass : Cond.code yX0_canPass cX0_canPass 2 (some .boolean) ∈ gW := gW_in (i := 745) (by decide +kernel) rfl
theorem w_i_X0_canPass : Cond.instanceMethod yX0_canPass ∈ gW := gW_in (i := 743) (by decide +kernel) rfl
theorem w_s_X0_canPass : Cond.selects yX0_canPass.cls yX0_canPass yX0_canPass ∈ gW := gW_in (i := 744) (by decide +kernel) rfl
theorem w_d_X0_canPass : yX0_canPass.cls ≠ "java/lang/invoke/MethodHandle" ∧ yX0_canPass.cls ≠ "java/lang/invoke/VarHandle" ∧ (parseMethodDescriptor yX0_canPass.desc).map (fun d => d.parameters.length) = some 1 := by decide +kernel
theorem LBX7_154 : g_LB RX7 154 yX0_canPass cX0_canPass 2 (some .boolean) 1 := ⟨gW_in (i := 742) (by decide +kernel) rfl, w_ini_X0, w_c_X0_canPass, w_d_X0_canPass⟩
theorem LX7_154 : g_LV RX7 154 yX0_canPass cX0_canPass 2 (some .boolean) 1 0 := ⟨LBX7_154, w_i_X0_canPass, w_s_X0_canPass, _, _, rfl⟩
theorem w_c_X0_letPass : Cond.code yX0_letPass cX0_letPass 5 (some .int) ∈ gW := gW_in (i := 750) (by decide +kernel) rfl
theorem w_i_X0_letPass : Cond.instanceMethod yX0_letPass ∈ gW := gW_in (i := 748) (by decide +kernel) rfl
theorem w_s_X0_letPass : Cond.selects yX0_letPass.cls yX0_letPass yX0_letPass ∈ gW := gW_in (i := 749) (by decide +kernel) rfl
theorem w_d_X0_letPass : yX0_letPass.cls ≠ "java/lang/invoke/MethodHandle" ∧ yX0_letPass.cls ≠ "java/lang/invoke/VarHandle" ∧ (parseMethodDescriptor yX0_letPass.desc).map (fun d => d.parameters.length) = some 1 := by decide +kernel
theorem LBX7_157 : g_LB RX7 157 yX0_letPass cX0_letPass 5 (some .int) 1 := ⟨gW_in (i := 747) (by decide +kernel) rfl, w_ini_X0, w_c_X0_letPass, w_d_X0_letPass⟩
theorem LX7_157 : g_LV RX7 157 yX0_letPass cX0_letPass 5 (some .int) 1 0 := ⟨LBX7_157, w_i_X0_letPass, w_s_X0_letPass, _, _, rfl⟩
theorem w_c_X0_aboutPassage : Cond.code yX0_aboutPassage cX0_aboutPassage 3 (some .int) ∈ gW := gW_in (i := 814) (by decide +kernel) rfl
theorem w_i_X0_aboutPassage : Cond.instanceMethod yX0_aboutPassage ∈ gW := gW_in (i := 812) (by decide +kernel) rfl
theorem w_s_X0_aboutPassage : Cond.selects yX0_aboutPassage.cls yX0_aboutPassage yX0_aboutPassage ∈ gW := gW_in (i := 813) (by decide +kernel) rfl
theorem w_d_X0_aboutPassage : yX0_aboutPassage.cls ≠ "java/lang/invoke/MethodHandle" ∧ yX0_aboutPassage.cls ≠ "java/lang/invoke/VarHandle" ∧ (parseMethodDescriptor yX0_aboutPassage.desc).map (fun d => d.parameters.length) = some 2 := by decide +kernel
theorem LBX7_160 : g_LB RX7 160 yX0_aboutPassage cX0_aboutPassage 3 (some .int) 2 := ⟨gW_in (i := 811) (by decide +kernel) rfl, w_ini_X0, w_c_X0_aboutPassage, w_d_X0_aboutPassage⟩
theorem LX7_160 : g_LV RX7 160 yX0_aboutPassage cX0_aboutPassage 3 (some .int) 2 0 := ⟨LBX7_160, w_i_X0_aboutPassage, w_s_X0_aboutPassage, _, _, rfl⟩
theorem w_c_X5_about : Cond.code yX5_about cX5_about 3 (some .int) ∈ gW := gW_in (i := 825) (by decide +kernel) rfl
theorem w_i_X5_about : Cond.instanceMethod yX5_about ∈ gW := gW_in (i := 823) (by decide +kernel) rfl
theorem w_s_X5_about : Cond.selects yX5_about.cls yX5_about yX5_about ∈ gW := gW_in (i := 824) (by decide +kernel) rfl
theorem w_d_X5_about : yX5_about.cls ≠ "java/lang/invoke/MethodHandle" ∧ yX5_about.cls ≠ "java/lang/invoke/VarHandle" ∧ (parseMethodDescriptor yX5_about.desc).map (fun d => d.parameters.length) = some 2 := by decide +kernel
theorem LBX7_163 : g_LB RX7 163 yX5_about cX5_about 3 (some .int) 2 := ⟨gW_in (i := 822) (by decide +kernel) rfl, w_ini_X5, w_c_X5_about, w_d_X5_about⟩
theorem LX7_163 : g_LV RX7 163 yX5_about cX5_about 3 (some .int) 2 5 := ⟨LBX7_163, w_i_X5_about, w_s_X5_about, _, _, rfl⟩
theorem w_c_X1_about : Cond.code yX1_about cX1_about 2 (some .int) ∈ gW := gW_in (i := 836) (by decide +kernel) rfl
theorem w_i_X1_about : Cond.instanceMethod yX1_about ∈ gW := gW_in (i := 834) (by decide +kernel) rfl
theorem w_s_X1_about : Cond.selects yX1_about.cls yX1_about yX1_about ∈ gW := gW_in (i := 835) (by decide +kernel) rfl
theorem w_d_X1_about : yX1_about.cls ≠ "java/lang/invoke/MethodHandle" ∧ yX1_about.cls ≠ "java/lang/invoke/VarHandle" ∧ (parseMethodDescriptor yX1_about.desc).map (fun d => d.parameters.length) = some 1 := by decide +kernel
theorem LBX7_170 : g_LB RX7 170 yX1_about cX1_about 2 (some .int) 1 := ⟨gW_in (i := 833) (by decide +kernel) rfl, w_ini_X1, w_c_X1_about, w_d_X1_about⟩
theorem LX7_170 : g_LV RX7 170 yX1_about cX1_about 2 (some .int) 1 1 := ⟨LBX7_170, w_i_X1_about, w_s_X1_about, _, _, rfl⟩
theorem w_c_X0_about : Cond.code yX0_about cX0_about 2 (some .int) ∈ gW := gW_in (i := 790) (by decide +kernel) rfl
theorem w_i_X0_about : Cond.instanceMethod yX0_about ∈ gW := gW_in (i := 788) (by decide +kernel) rfl
theorem w_s_X0_about : Cond.selects yX0_about.cls yX0_about yX0_about ∈ gW := gW_in (i := 789) (by decide +kernel) rfl
theorem w_d_X0_about : yX0_about.cls ≠ "java/lang/invoke/MethodHandle" ∧ yX0_about.cls ≠ "java/lang/invoke/VarHandle" ∧ (parseMethodDescriptor yX0_about.desc).map (fun d => d.parameters.length) = some 1 := by decide +kernel
theorem LBX7_174 : g_LB RX7 174 yX0_about cX0_about 2 (some .int) 1 := ⟨gW_in (i := 787) (by decide +kernel) rfl, w_ini_X0, w_c_X0_about, w_d_X0_about⟩
theorem LX7_174 : g_LV RX7 174 yX0_about cX0_about 2 (some .int) 1 0 := ⟨LBX7_174, w_i_X0_about, w_s_X0_about, _, _, rfl⟩
theorem w_c_X3_about : Cond.code yX3_about cX3_about 3 (some .int) ∈ gW := gW_in (i := 847) (by decide +kernel) rfl
theorem w_i_X3_about : Cond.instanceMethod yX3_about ∈ gW := gW_in (i := 845) (by decide +kernel) rfl
theorem w_s_X3_about : Cond.selects yX3_about.cls yX3_about yX3_about ∈ gW := gW_in (i := 846) (by decide +kernel) rfl
theorem w_d_X3_about : yX3_about.cls ≠ "java/lang/invoke/MethodHandle" ∧ yX3_about.cls ≠ "java/lang/invoke/VarHandle" ∧ (parseMethodDescriptor yX3_about.desc).map (fun d => d.parameters.length) = some 2 := by decide +kernel
theorem LBX7_175 : g_LB RX7 175 yX3_about cX3_about 3 (some .int) 2 := ⟨gW_in (i := 844) (by decide +kernel) rfl, w_ini_X3, w_c_X3_about, w_d_X3_about⟩
theorem LX7_175 : g_LV RX7 175 yX3_about cX3_about 3 (some .int) 2 3 := ⟨LBX7_175, w_i_X3_about, w_s_X3_about, _, _, rfl⟩
theorem w_c_X2_about : Cond.code yX2_about cX2_about 3 (some .int) ∈ gW := gW_in (i := 858) (by decide +kernel) rfl
theorem w_i_X2_about : Cond.instanceMethod yX2_about ∈ gW := gW_in (i := 856) (by decide +kernel) rfl
theorem w_s_X2_about : Cond.selects yX2_about.cls yX2_about yX2_about ∈ gW := gW_in (i := 857) (by decide +kernel) rfl
theorem w_d_X2_about : yX2_about.cls ≠ "java/lang/invoke/MethodHandle" ∧ yX2_about.cls ≠ "java/lang/invoke/VarHandle" ∧ (parseMethodDescriptor yX2_about.desc).map (fun d => d.parameters.length) = some 2 := by decide +kernel
theorem LBX7_185 : g_LB RX7 185 yX2_about cX2_about 3 (some .int) 2 := ⟨gW_in (i := 855) (by decide +kernel) rfl, w_ini_X2, w_c_X2_about, w_d_X2_about⟩
theorem LX7_185 : g_LV RX7 185 yX2_about cX2_about 3 (some .int) 2 2 := ⟨LBX7_185, w_i_X2_about, w_s_X2_about, _, _, rfl⟩
theorem w_c_X0_copyFrom : Cond.code yX0_copyFrom cX0_copyFrom 3 none ∈ gW := gW_in (i := 367) (by decide +kernel) rfl
theorem w_i_X0_copyFrom : Cond.instanceMethod yX0_copyFrom ∈ gW := gW_in (i := 365) (by decide +kernel) rfl
theorem w_s_X0_copyFrom : Cond.selects yX0_copyFrom.cls yX0_copyFrom yX0_copyFrom ∈ gW := gW_in (i := 366) (by decide +kernel) rfl
theorem w_d_X0_copyFrom : yX0_copyFrom.cls ≠ "java/lang/invoke/MethodHandle" ∧ yX0_copyFrom.cls ≠ "java/lang/invoke/VarHandle" ∧ (parseMethodDescriptor yX0_copyFrom.desc).map (fun d => d.parameters.length) = some 1 := by decide +kernel
theorem LBX7_244 : g_LB RX7 244 yX0_copyFrom cX0_copyFrom 3 none 1 := ⟨gW_in (i := 364) (by decide +kernel) rfl, w_ini_X0, w_c_X0_copyFrom, w_d_X0_copyFrom⟩
theorem LX7_244 : g_LV RX7 244 yX0_copyFrom cX0_copyFrom 3 none 1 0 := ⟨LBX7_244, w_i_X0_copyFrom, w_s_X0_copyFrom, _, _, rfl⟩
theorem w_c_X7_dropOldest : Cond.code yX7_dropOldest cX7_dropOldest 3 none ∈ gW := gW_in (i := 363) (by decide +kernel) rfl
theorem w_i_X7_dropOldest : Cond.instanceMethod yX7_dropOldest ∈ gW := gW_in (i := 362) (by decide +kernel) rfl
theorem w_s_X7_dropOldest : Cond.selects yX7_dropOldest.cls yX7_dropOldest yX7_dropOldest ∈ gW := gW_in (i := 2) (by decide +kernel) rfl
theorem w_d_X7_dropOldest : yX7_dropOldest.cls ≠ "java/lang/invoke/MethodHandle" ∧ yX7_dropOldest.cls ≠ "java/lang/invoke/VarHandle" ∧ (parseMethodDescriptor yX7_dropOldest.desc).map (fun d => d.parameters.length) = some 0 := by decide +kernel
theorem LBX7_273 : g_LB RX7 273 yX7_dropOldest cX7_dropOldest 3 none 0 := ⟨gW_in (i := 360) (by decide +kernel) rfl, w_ini_X7, w_c_X7_dropOldest, w_d_X7_dropOldest⟩
theorem LX7_273 : g_LV RX7 273 yX7_dropOldest cX7_dropOldest 3 none 0 7 := ⟨LBX7_273, w_i_X7_dropOldest, w_s_X7_dropOldest, _, _, rfl⟩
theorem w_c_X7_requireRange : Cond.code yX7_requireRange cX7_requireRange 3 none ∈ gW := gW_in (i := 284) (by decide +kernel) rfl
theorem w_t_X7_requireRange : Cond.static yX7_requireRange ∈ gW := gW_in (i := 283) (by decide +kernel) rfl
theorem w_d_X7_requireRange : yX7_requireRange.cls ≠ "java/lang/invoke/MethodHandle" ∧ yX7_requireRange.cls ≠ "java/lang/invoke/VarHandle" ∧ (parseMethodDescriptor yX7_requireRange.desc).map (fun d => d.parameters.length) = some 3 := by decide +kernel
theorem LBX7_31 : g_LB RX7 31 yX7_requireRange cX7_requireRange 3 none 3 := ⟨gW_in (i := 282) (by decide +kernel) rfl, w_ini_X7, w_c_X7_requireRange, w_d_X7_requireRange⟩
theorem LX7_31 : g_LS RX7 31 yX7_requireRange cX7_requireRange 3 none 3 := ⟨LBX7_31, w_t_X7_requireRange⟩
theorem w_c_X7_save : Cond.code yX7_save cX7_save 1 none ∈ gW := gW_in (i := 359) (by decide +kernel) rfl
theorem w_i_X7_save : Cond.instanceMethod yX7_save ∈ gW := gW_in (i := 358) (by decide +kernel) rfl
theorem w_s_X7_save : Cond.selects yX7_save.cls yX7_save yX7_save ∈ gW := gW_in (i := 1) (by decide +kernel) rfl
theorem w_d_X7_save : yX7_save.cls ≠ "java/lang/invoke/MethodHandle" ∧ yX7_save.cls ≠ "java/lang/invoke/VarHandle" ∧ (parseMethodDescriptor yX7_save.desc).map (fun d => d.parameters.length) = some 0 := by decide +kernel
theorem LBX7_38 : g_LB RX7 38 yX7_save cX7_save 1 none 0 := ⟨gW_in (i := 356) (by decide +kernel) rfl, w_ini_X7, w_c_X7_save, w_d_X7_save⟩
theorem LX7_38 : g_LV RX7 38 yX7_save cX7_save 1 none 0 7 := ⟨LBX7_38, w_i_X7_save, w_s_X7_save, _, _, rfl⟩
theorem w_c_X0_startAnew : Cond.code yX0_startAnew cX0_startAnew 2 none ∈ gW := gW_in (i := 391) (by decide +kernel) rfl
theorem w_i_X0_startAnew : Cond.instanceMethod yX0_startAnew ∈ gW := gW_in (i := 389) (by decide +kernel) rfl
theorem w_s_X0_startAnew : Cond.selects yX0_startAnew.cls yX0_startAnew yX0_startAnew ∈ gW := gW_in (i := 390) (by decide +kernel) rfl
theorem w_d_X0_startAnew : yX0_startAnew.cls ≠ "java/lang/invoke/MethodHandle" ∧ yX0_startAnew.cls ≠ "java/lang/invoke/VarHandle" ∧ (parseMethodDescriptor yX0_startAnew.desc).map (fun d => d.parameters.length) = some 1 := by decide +kernel
theorem LBX7_41 : g_LB RX7 41 yX0_startAnew cX0_startAnew 2 none 1 := ⟨gW_in (i := 388) (by decide +kernel) rfl, w_ini_X0, w_c_X0_startAnew, w_d_X0_startAnew⟩
theorem LX7_41 : g_LV RX7 41 yX0_startAnew cX0_startAnew 2 none 1 0 := ⟨LBX7_41, w_i_X0_startAnew, w_s_X0_startAnew, _, _, rfl⟩
theorem w_c_X7_requireIndex : Cond.code yX7_requireIndex cX7_requireIndex 2 none ∈ gW := gW_in (i := 417) (by decide +kernel) rfl
theorem w_t_X7_requireIndex : Cond.static yX7_requireIndex ∈ gW := gW_in (i := 416) (by decide +kernel) rfl
theorem w_d_X7_requireIndex : yX7_requireIndex.cls ≠ "java/lang/invoke/MethodHandle" ∧ yX7_requireIndex.cls ≠ "java/lang/invoke/VarHandle" ∧ (parseMethodDescriptor yX7_requireIndex.desc).map (fun d => d.parameters.length) = some 2 := by decide +kernel
theorem LBX7_54 : g_LB RX7 54 yX7_requireIndex cX7_requireIndex 2 none 2 := ⟨gW_in (i := 415) (by decide +kernel) rfl, w_ini_X7, w_c_X7_requireIndex, w_d_X7_requireIndex⟩
theorem LX7_54 : g_LS RX7 54 yX7_requireIndex cX7_requireIndex 2 none 2 := ⟨LBX7_54, w_t_X7_requireIndex⟩
theorem w_c_X0_isInUse : Cond.code yX0_isInUse cX0_isInUse 2 (some .boolean) ∈ gW := gW_in (i := 437) (by decide +kernel) rfl
theorem w_i_X0_isInUse : Cond.instanceMethod yX0_isInUse ∈ gW := gW_in (i := 435) (by decide +kernel) rfl
theorem w_s_X0_isInUse : Cond.selects yX0_isInUse.cls yX0_isInUse yX0_isInUse ∈ gW := gW_in (i := 436) (by decide +kernel) rfl
theorem w_d_X0_isInUse : yX0_isInUse.cls ≠ "java/lang/invoke/MethodHandle" ∧ yX0_isInUse.cls ≠ "java/lang/invoke/VarHandle" ∧ (parseMethodDescriptor yX0_isInUse.desc).map (fun d => d.parameters.length) = some 1 := by decide +kernel
theorem LBX7_58 : g_LB RX7 58 yX0_isInUse cX0_isInUse 2 (some .boolean) 1 := ⟨gW_in (i := 434) (by decide +kernel) rfl, w_ini_X0, w_c_X0_isInUse, w_d_X0_isInUse⟩
theorem LX7_58 : g_LV RX7 58 yX0_isInUse cX0_isInUse 2 (some .boolean) 1 0 := ⟨LBX7_58, w_i_X0_isInUse, w_s_X0_isInUse, _, _, rfl⟩
theorem w_c_X7_requirePossible : Cond.code yX7_requirePossible cX7_requirePossible 1 none ∈ gW := gW_in (i := 463) (by decide +kernel) rfl
theorem w_t_X7_requirePossible : Cond.static yX7_requirePossible ∈ gW := gW_in (i := 462) (by decide +kernel) rfl
theorem w_d_X7_requirePossible : yX7_requirePossible.cls ≠ "java/lang/invoke/MethodHandle" ∧ yX7_requirePossible.cls ≠ "java/lang/invoke/VarHandle" ∧ (parseMethodDescriptor yX7_requirePossible.desc).map (fun d => d.parameters.length) = some 1 := by decide +kernel
theorem LBX7_62 : g_LB RX7 62 yX7_requirePossible cX7_requirePossible 1 none 1 := ⟨gW_in (i := 461) (by decide +kernel) rfl, w_ini_X7, w_c_X7_requirePossible, w_d_X7_requirePossible⟩
theorem LX7_62 : g_LS RX7 62 yX7_requirePossible cX7_requirePossible 1 none 1 := ⟨LBX7_62, w_t_X7_requirePossible⟩
theorem LBX7_66 : g_LB RX7 66 yX4_dropOf cX4_dropOf 2 (some .int) 1 := ⟨gW_in (i := 480) (by decide +kernel) rfl, w_ini_X4, w_c_X4_dropOf, w_d_X4_dropOf⟩
theorem LX7_66 : g_LV RX7 66 yX4_dropOf cX4_dropOf 2 (some .int) 1 4 := ⟨LBX7_66, w_i_X4_dropOf, w_s_X4_dropOf, _, _, rfl⟩
theorem w_c_X4_change : Cond.code yX4_change cX4_change 4 none ∈ gW := gW_in (i := 487) (by decide +kernel) rfl
theorem w_i_X4_change : Cond.instanceMethod yX4_change ∈ gW := gW_in (i := 485) (by decide +kernel) rfl
theorem w_s_X4_change : Cond.selects yX4_change.cls yX4_change yX4_change ∈ gW := gW_in (i := 486) (by decide +kernel) rfl
theorem w_d_X4_change : yX4_change.cls ≠ "java/lang/invoke/MethodHandle" ∧ yX4_change.cls ≠ "java/lang/invoke/VarHandle" ∧ (parseMethodDescriptor yX4_change.desc).map (fun d => d.parameters.length) = some 3 := by decide +kernel
theorem LBX7_70 : g_LB RX7 70 yX4_change cX4_change 4 none 3 := ⟨gW_in (i := 484) (by decide +kernel) rfl, w_ini_X4, w_c_X4_change, w_d_X4_change⟩
theorem LX7_70 : g_LV RX7 70 yX4_change cX4_change 4 none 3 4 := ⟨LBX7_70, w_i_X4_change, w_s_X4_change, _, _, rfl⟩
theorem w_c_X5_addOne : Cond.code yX5_addOne cX5_addOne 3 (some .int) ∈ gW := gW_in (i := 500) (by decide +kernel) rfl
theorem w_i_X5_addOne : Cond.instanceMethod yX5_addOne ∈ gW := gW_in (i := 498) (by decide +kernel) rfl
theorem w_s_X5_addOne : Cond.selects yX5_addOne.cls yX5_addOne yX5_addOne ∈ gW := gW_in (i := 499) (by decide +kernel) rfl
theorem w_d_X5_addOne : yX5_addOne.cls ≠ "java/lang/invoke/MethodHandle" ∧ yX5_addOne.cls ≠ "java/lang/invoke/VarHandle" ∧ (parseMethodDescriptor yX5_addOne.desc).map (fun d => d.parameters.length) = some 1 := by decide +kernel
theorem LBX7_80 : g_LB RX7 80 yX5_addOne cX5_addOne 3 (some .int) 1 := ⟨gW_in (i := 497) (by decide +kernel) rfl, w_ini_X5, w_c_X5_addOne, w_d_X5_addOne⟩
theorem LX7_80 : g_LV RX7 80 yX5_addOne cX5_addOne 3 (some .int) 1 5 := ⟨LBX7_80, w_i_X5_addOne, w_s_X5_addOne, _, _, rfl⟩
theorem w_c_X0_addOne : Cond.code yX0_addOne cX0_addOne 3 (some .int) ∈ gW := gW_in (i := 519) (by decide +kernel) rfl
theorem w_i_X0_addOne : Cond.instanceMethod yX0_addOne ∈ gW := gW_in (i := 517) (by decide +kernel) rfl
theorem w_s_X0_addOne : Cond.selects yX0_addOne.cls yX0_addOne yX0_addOne ∈ gW := gW_in (i := 518) (by decide +kernel) rfl
theorem w_d_X0_addOne : yX0_addOne.cls ≠ "java/lang/invoke/MethodHandle" ∧ yX0_addOne.cls ≠ "java/lang/invoke/VarHandle" ∧ (parseMethodDescriptor yX0_addOne.desc).map (fun d => d.parameters.length) = some 1 := by decide +kernel
theorem LBX7_86 : g_LB RX7 86 yX0_addOne cX0_addOne 3 (some .int) 1 := ⟨gW_in (i := 516) (by decide +kernel) rfl, w_ini_X0, w_c_X0_addOne, w_d_X0_addOne⟩
theorem LX7_86 : g_LV RX7 86 yX0_addOne cX0_addOne 3 (some .int) 1 0 := ⟨LBX7_86, w_i_X0_addOne, w_s_X0_addOne, _, _, rfl⟩
theorem w_c_X0_init : Cond.code yX0_init cX0_init 2 none ∈ gW := gW_in (i := 39) (by decide +kernel) rfl
theorem w_i_X0_init : Cond.instanceMethod yX0_init ∈ gW := gW_in (i := 38) (by decide +kernel) rfl
theorem w_d_X0_init : yX0_init.cls ≠ "java/lang/invoke/MethodHandle" ∧ yX0_init.cls ≠ "java/lang/invoke/VarHandle" ∧ (parseMethodDescriptor yX0_init.desc).map (fun d => d.parameters.length) = some 0 := by decide +kernel
theorem LBX7_9 : g_LB RX7 9 yX0_init cX0_init 2 none 0 := ⟨gW_in (i := 37) (by decide +kernel) rfl, w_ini_X0, w_c_X0_init, w_d_X0_init⟩
theorem w_c_X0_canWalk : Cond.code yX0_canWalk cX0_canWalk 3 (some .boolean) ∈ gW := gW_in (i := 551) (by decide +kernel) rfl
theorem w_i_X0_canWalk : Cond.instanceMethod yX0_canWalk ∈ gW := gW_in (i := 549) (by decide +kernel) rfl
theorem w_s_X0_canWalk : Cond.selects yX0_canWalk.cls yX0_canWalk yX0_canWalk ∈ gW := gW_in (i := 550) (by decide +kernel) rfl
theorem w_d_X0_canWalk : yX0_canWalk.cls ≠ "java/lang/invoke/MethodHandle" ∧ yX0_canWalk.cls ≠ "java/lang/invoke/VarHandle" ∧ (parseMethodDescriptor yX0_canWalk.desc).map (fun d => d.parameters.length) = some 2 := by decide +kernel
theorem LBX7_94 : g_LB RX7 94 yX0_canWalk cX0_canWalk 3 (some .boolean) 2 := ⟨gW_in (i := 548) (by decide +kernel) rfl, w_ini_X0, w_c_X0_canWalk, w_d_X0_canWalk⟩
theorem LX7_94 : g_LV RX7 94 yX0_canWalk cX0_canWalk 3 (some .boolean) 2 0 := ⟨LBX7_94, w_i_X0_canWalk, w_s_X0_canWalk, _, _, rfl⟩
theorem LBX7_98 : g_LB RX7 98 yX0_startWalk cX0_startWalk 5 (some .int) 2 := ⟨gW_in (i := 580) (by decide +kernel) rfl, w_ini_X0, w_c_X0_startWalk, w_d_X0_startWalk⟩
theorem LX7_98 : g_LV RX7 98 yX0_startWalk cX0_startWalk 5 (some .int) 2 0 := ⟨LBX7_98, w_i_X0_startWalk, w_s_X0_startWalk, _, _, rfl⟩
theorem w_c_X7_setPassage : Cond.code yX7_setPassage cX7_setPassage 5 (some .int) ∈ gW := gW_in (i := 414) (by decide +kernel) rfl
theorem w_i_X7_setPassage : Cond.instanceMethod yX7_setPassage ∈ gW := gW_in (i := 412) (by decide +kernel) rfl
theorem w_s_X7_setPassage : Cond.selects yX7_setPassage.cls yX7_setPassage yX7_setPassage ∈ gW := gW_in (i := 413) (by decide +kernel) rfl
theorem w_d_X7_setPassage : yX7_setPassage.cls ≠ "java/lang/invoke/MethodHandle" ∧ yX7_setPassage.cls ≠ "java/lang/invoke/VarHandle" ∧ (parseMethodDescriptor yX7_setPassage.desc).map (fun d => d.parameters.length) = some 3 := by decide +kernel
theorem LBL_103 : g_LB RL 103 yX7_setPassage cX7_setPassage 5 (some .int) 3 := ⟨gW_in (i := 411) (by decide +kernel) rfl, w_ini_X7, w_c_X7_setPassage, w_d_X7_setPassage⟩
theorem LL_103 : g_LV RL 103 yX7_setPassage cX7_setPassage 5 (some .int) 3 7 := ⟨LBL_103, w_i_X7_setPassage, w_s_X7_setPassage, _, _, rfl⟩
theorem w_c_X7_addRope : Cond.code yX7_addRope cX7_addRope 2 (some .int) ∈ gW := gW_in (i := 496) (by decide +kernel) rfl
theorem w_i_X7_addRope : Cond.instanceMethod yX7_addRope ∈ gW := gW_in (i := 494) (by decide +kernel) rfl
theorem w_s_X7_addRope : Cond.selects yX7_addRope.cls yX7_addRope yX7_addRope ∈ gW := gW_in (i := 495) (by decide +kernel) rfl
theorem w_d_X7_addRope : yX7_addRope.cls ≠ "java/lang/invoke/MethodHandle" ∧ yX7_addRope.cls ≠ "java/lang/invoke/VarHandle" ∧ (parseMethodDescriptor yX7_addRope.desc).map (fun d => d.parameters.length) = some 1 := by decide +kernel
theorem LBL_111 : g_LB RL 111 yX7_addRope cX7_addRope 2 (some .int) 1 := ⟨gW_in (i := 493) (by decide +kernel) rfl, w_ini_X7, w_c_X7_addRope, w_d_X7_addRope⟩
theorem LL_111 : g_LV RL 111 yX7_addRope cX7_addRope 2 (some .int) 1 7 := ⟨LBL_111, w_i_X7_addRope, w_s_X7_addRope, _, _, rfl⟩
theorem w_c_X7_addHelper : Cond.code yX7_addHelper cX7_addHelper 2 (some .int) ∈ gW := gW_in (i := 515) (by decide +kernel) rfl
theorem w_i_X7_addHelper : Cond.instanceMethod yX7_addHelper ∈ gW := gW_in (i := 513) (by decide +kernel) rfl
theorem w_s_X7_addHelper : Cond.selects yX7_addHelper.cls yX7_addHelper yX7_addHelper ∈ gW := gW_in (i := 514) (by decide +kernel) rfl
theorem w_d_X7_addHelper : yX7_addHelper.cls ≠ "java/lang/invoke/MethodHandle" ∧ yX7_addHelper.cls ≠ "java/lang/invoke/VarHandle" ∧ (parseMethodDescriptor yX7_addHelper.desc).map (fun d => d.parameters.length) = some 1 := by decide +kernel
theorem LBL_114 : g_LB RL 114 yX7_addHelper cX7_addHelper 2 (some .int) 1 := ⟨gW_in (i := 512) (by decide +kernel) rfl, w_ini_X7, w_c_X7_addHelper, w_d_X7_addHelper⟩
theorem LL_114 : g_LV RL 114 yX7_addHelper cX7_addHelper 2 (some .int) 1 7 := ⟨LBL_114, w_i_X7_addHelper, w_s_X7_addHelper, _, _, rfl⟩
theorem w_c_X7_setSilence : Cond.code yX7_setSilence cX7_setSilence 4 (some .int) ∈ gW := gW_in (i := 530) (by decide +kernel) rfl
theorem w_i_X7_setSilence : Cond.instanceMethod yX7_setSilence ∈ gW := gW_in (i := 528) (by decide +kernel) rfl
theorem w_s_X7_setSilence : Cond.selects yX7_setSilence.cls yX7_setSilence yX7_setSilence ∈ gW := gW_in (i := 529) (by decide +kernel) rfl
theorem w_d_X7_setSilence : yX7_setSilence.cls ≠ "java/lang/invoke/MethodHandle" ∧ yX7_setSilence.cls ≠ "java/lang/invoke/VarHandle" ∧ (parseMethodDescriptor yX7_setSilence.desc).map (fun d => d.parameters.length) = some 2 := by decide +kernel
theorem LBL_117 : g_LB RL 117 yX7_setSilence cX7_setSilence 4 (some .int) 2 := ⟨gW_in (i := 527) (by decide +kernel) rfl, w_ini_X7, w_c_X7_setSilence, w_d_X7_setSilence⟩
theorem LL_117 : g_LV RL 117 yX7_setSilence cX7_setSilence 4 (some .int) 2 7 := ⟨LBL_117, w_i_X7_setSilence, w_s_X7_setSilence, _, _, rfl⟩
theorem w_c_X7_go : Cond.code yX7_go cX7_go 3 (some .int) ∈ gW := gW_in (i := 547) (by decide +kernel) rfl
theorem w_i_X7_go : Cond.instanceMethod yX7_go ∈ gW := gW_in (i := 545) (by decide +kernel) rfl
theorem w_s_X7_go : Cond.selects yX7_go.cls yX7_go yX7_go ∈ gW := gW_in (i := 546) (by decide +kernel) rfl
theorem w_d_X7_go : yX7_go.cls ≠ "java/lang/invoke/MethodHandle" ∧ yX7_go.cls ≠ "java/lang/invoke/VarHandle" ∧ (parseMethodDescriptor yX7_go.desc).map (fun d => d.parameters.length) = some 2 := by decide +kernel
theorem LBL_120 : g_LB RL 120 yX7_go cX7_go 3 (some .int) 2 := ⟨gW_in (i := 544) (by decide +kernel) rfl, w_ini_X7, w_c_X7_go, w_d_X7_go⟩
theorem LL_120 : g_LV RL 120 yX7_go cX7_go 3 (some .int) 2 7 := ⟨LBL_120, w_i_X7_go, w_s_X7_go, _, _, rfl⟩
theorem w_c_X7_take : Cond.code yX7_take cX7_take 3 (some .int) ∈ gW := gW_in (i := 598) (by decide +kernel) rfl
theorem w_i_X7_take : Cond.instanceMethod yX7_take ∈ gW := gW_in (i := 596) (by decide +kernel) rfl
theorem w_s_X7_take : Cond.selects yX7_take.cls yX7_take yX7_take ∈ gW := gW_in (i := 597) (by decide +kernel) rfl
theorem w_d_X7_take : yX7_take.cls ≠ "java/lang/invoke/MethodHandle" ∧ yX7_take.cls ≠ "java/lang/invoke/VarHandle" ∧ (parseMethodDescriptor yX7_take.desc).map (fun d => d.parameters.length) = some 2 := by decide +kernel
theorem LBL_123 : g_LB RL 123 yX7_take cX7_take 3 (some .int) 2 := ⟨gW_in (i := 595) (by decide +kernel) rfl, w_ini_X7, w_c_X7_take, w_d_X7_take⟩
theorem LL_123 : g_LV RL 123 yX7_take cX7_take 3 (some .int) 2 7 := ⟨LBL_123, w_i_X7_take, w_s_X7_take, _, _, rfl⟩
theorem w_c_X7_lay : Cond.code yX7_lay cX7_lay 2 (some .int) ∈ gW := gW_in (i := 622) (by decide +kernel) rfl
theorem w_i_X7_lay : Cond.instanceMethod yX7_lay ∈ gW := gW_in (i := 620) (by decide +kernel) rfl
theorem w_s_X7_lay : Cond.selects yX7_lay.cls yX7_lay yX7_lay ∈ gW := gW_in (i := 621) (by decide +kernel) rfl
theorem w_d_X7_lay : yX7_lay.cls ≠ "java/lang/invoke/MethodHandle" ∧ yX7_lay.cls ≠ "java/lang/invoke/VarHandle" ∧ (parseMethodDescriptor yX7_lay.desc).map (fun d => d.parameters.length) = some 1 := by decide +kernel
theorem LBL_126 : g_LB RL 126 yX7_lay cX7_lay 2 (some .int) 1 := ⟨gW_in (i := 619) (by decide +kernel) rfl, w_ini_X7, w_c_X7_lay, w_d_X7_lay⟩
theorem LL_126 : g_LV RL 126 yX7_lay cX7_lay 2 (some .int) 1 7 := ⟨LBL_126, w_i_X7_lay, w_s_X7_lay, _, _, rfl⟩
theorem w_c_X7_rig : Cond.code yX7_rig cX7_rig 2 (some .int) ∈ gW := gW_in (i := 637) (by decide +kernel) rfl
theorem w_i_X7_rig : Cond.instanceMethod yX7_rig ∈ gW := gW_in (i := 635) (by decide +kernel) rfl
theorem w_s_X7_rig : Cond.selects yX7_rig.cls yX7_rig yX7_rig ∈ gW := gW_in (i := 636) (by decide +kernel) rfl
theorem w_d_X7_rig : yX7_rig.cls ≠ "java/lang/invoke/MethodHandle" ∧ yX7_rig.cls ≠ "java/lang/invoke/VarHandle" ∧ (parseMethodDescriptor yX7_rig.desc).map (fun d => d.parameters.length) = some 1 := by decide +kernel
theorem LBL_129 : g_LB RL 129 yX7_rig cX7_rig 2 (some .int) 1 := ⟨gW_in (i := 634) (by decide +kernel) rfl, w_ini_X7, w_c_X7_rig, w_d_X7_rig⟩
theorem LL_129 : g_LV RL 129 yX7_rig cX7_rig 2 (some .int) 1 7 := ⟨LBL_129, w_i_X7_rig, w_s_X7_rig, _, _, rfl⟩
theorem w_c_X7_takeOff : Cond.code yX7_takeOff cX7_takeOff 2 (some .int) ∈ gW := gW_in (i := 658) (by decide +kernel) rfl
theorem w_i_X7_takeOff : Cond.instanceMethod yX7_takeOff ∈ gW := gW_in (i := 656) (by decide +kernel) rfl
theorem w_s_X7_takeOff : Cond.selects yX7_takeOff.cls yX7_takeOff yX7_takeOff ∈ gW := gW_in (i := 657) (by decide +kernel) rfl
theorem w_d_X7_takeOff : yX7_takeOff.cls ≠ "java/lang/invoke/MethodHandle" ∧ yX7_takeOff.cls ≠ "java/lang/invoke/VarHandle" ∧ (parseMethodDescriptor yX7_takeOff.desc).map (fun d => d.parameters.length) = some 1 := by decide +kernel
theorem LBL_132 : g_LB RL 132 yX7_takeOff cX7_takeOff 2 (some .int) 1 := ⟨gW_in (i := 655) (by decide +kernel) rfl, w_ini_X7, w_c_X7_takeOff, w_d_X7_takeOff⟩
theorem LL_132 : g_LV RL 132 yX7_takeOff cX7_takeOff 2 (some .int) 1 7 := ⟨LBL_132, w_i_X7_takeOff, w_s_X7_takeOff, _, _, rfl⟩
theorem w_c_X7_carry : Cond.code yX7_carry cX7_carry 2 (some .int) ∈ gW := gW_in (i := 681) (by decide +kernel) rfl
theorem w_i_X7_carry : Cond.instanceMethod yX7_carry ∈ gW := gW_in (i := 679) (by decide +kernel) rfl
theorem w_s_X7_carry : Cond.selects yX7_carry.cls yX7_carry yX7_carry ∈ gW := gW_in (i := 680) (by decide +kernel) rfl
theorem w_d_X7_carry : yX7_carry.cls ≠ "java/lang/invoke/MethodHandle" ∧ yX7_carry.cls ≠ "java/lang/invoke/VarHandle" ∧ (parseMethodDescriptor yX7_carry.desc).map (fun d => d.parameters.length) = some 1 := by decide +kernel
theorem LBL_135 : g_LB RL 135 yX7_carry cX7_carry 2 (some .int) 1 := ⟨gW_in (i := 678) (by decide +kernel) rfl, w_ini_X7, w_c_X7_carry, w_d_X7_carry⟩
theorem LL_135 : g_LV RL 135 yX7_carry cX7_carry 2 (some .int) 1 7 := ⟨LBL_135, w_i_X7_carry, w_s_X7_carry, _, _, rfl⟩
theorem w_c_X7_send : Cond.code yX7_send cX7_send 2 (some .int) ∈ gW := gW_in (i := 715) (by decide +kernel) rfl
theorem w_i_X7_send : Cond.instanceMethod yX7_send ∈ gW := gW_in (i := 713) (by decide +kernel) rfl
theorem w_s_X7_send : Cond.selects yX7_send.cls yX7_send yX7_send ∈ gW := gW_in (i := 714) (by decide +kernel) rfl
theorem w_d_X7_send : yX7_send.cls ≠ "java/lang/invoke/MethodHandle" ∧ yX7_send.cls ≠ "java/lang/invoke/VarHandle" ∧ (parseMethodDescriptor yX7_send.desc).map (fun d => d.parameters.length) = some 1 := by decide +kernel
theorem LBL_138 : g_LB RL 138 yX7_send cX7_send 2 (some .int) 1 := ⟨gW_in (i := 712) (by decide +kernel) rfl, w_ini_X7, w_c_X7_send, w_d_X7_send⟩
theorem LL_138 : g_LV RL 138 yX7_send cX7_send 2 (some .int) 1 7 := ⟨LBL_138, w_i_X7_send, w_s_X7_send, _, _, rfl⟩
theorem w_c_X7_pass : Cond.code yX7_pass cX7_pass 2 (some .int) ∈ gW := gW_in (i := 741) (by decide +kernel) rfl
theorem w_i_X7_pass : Cond.instanceMethod yX7_pass ∈ gW := gW_in (i := 739) (by decide +kernel) rfl
theorem w_s_X7_pass : Cond.selects yX7_pass.cls yX7_pass yX7_pass ∈ gW := gW_in (i := 740) (by decide +kernel) rfl
theorem w_d_X7_pass : yX7_pass.cls ≠ "java/lang/invoke/MethodHandle" ∧ yX7_pass.cls ≠ "java/lang/invoke/VarHandle" ∧ (parseMethodDescriptor yX7_pass.desc).map (fun d => d.parameters.length) = some 1 := by decide +kernel
theorem LBL_141 : g_LB RL 141 yX7_pass cX7_pass 2 (some .int) 1 := ⟨gW_in (i := 738) (by decide +kernel) rfl, w_ini_X7, w_c_X7_pass, w_d_X7_pass⟩
theorem LL_141 : g_LV RL 141 yX7_pass cX7_pass 2 (some .int) 1 7 := ⟨LBL_141, w_i_X7_pass, w_s_X7_pass, _, _, rfl⟩
theorem w_c_X7_passage : Cond.code yX7_passage cX7_passage 3 (some .int) ∈ gW := gW_in (i := 810) (by decide +kernel) rfl
theorem w_i_X7_passage : Cond.instanceMethod yX7_passage ∈ gW := gW_in (i := 808) (by decide +kernel) rfl
theorem w_s_X7_passage : Cond.selects yX7_passage.cls yX7_passage yX7_passage ∈ gW := gW_in (i := 809) (by decide +kernel) rfl
theorem w_d_X7_passage : yX7_passage.cls ≠ "java/lang/invoke/MethodHandle" ∧ yX7_passage.cls ≠ "java/lang/invoke/VarHandle" ∧ (parseMethodDescriptor yX7_passage.desc).map (fun d => d.parameters.length) = some 2 := by decide +kernel
theorem LBL_144 : g_LB RL 144 yX7_passage cX7_passage 3 (some .int) 2 := ⟨gW_in (i := 807) (by decide +kernel) rfl, w_ini_X7, w_c_X7_passage, w_d_X7_passage⟩
theorem LL_144 : g_LV RL 144 yX7_passage cX7_passage 3 (some .int) 2 7 := ⟨LBL_144, w_i_X7_passage, w_s_X7_passage, _, _, rfl⟩
theorem w_c_X7_rope : Cond.code yX7_rope cX7_rope 3 (some .int) ∈ gW := gW_in (i := 821) (by decide +kernel) rfl
theorem w_i_X7_rope : Cond.instanceMethod yX7_rope ∈ gW := gW_in (i := 819) (by decide +kernel) rfl
theorem w_s_X7_rope : Cond.selects yX7_rope.cls yX7_rope yX7_rope ∈ gW := gW_in (i := 820) (by decide +kernel) rfl
theorem w_d_X7_rope : yX7_rope.cls ≠ "java/lang/invoke/MethodHandle" ∧ yX7_rope.cls ≠ "java/lang/invoke/VarHandle" ∧ (parseMethodDescriptor yX7_rope.desc).map (fun d => d.parameters.length) = some 2 := by decide +kernel
theorem LBL_147 : g_LB RL 147 yX7_rope cX7_rope 3 (some .int) 2 := ⟨gW_in (i := 818) (by decide +kernel) rfl, w_ini_X7, w_c_X7_rope, w_d_X7_rope⟩
theorem LL_147 : g_LV RL 147 yX7_rope cX7_rope 3 (some .int) 2 7 := ⟨LBL_147, w_i_X7_rope, w_s_X7_rope, _, _, rfl⟩
theorem w_c_L_through : Cond.code yL_through cL_through 4 (some .int) ∈ gW := gW_in (i := 405) (by decide +kernel) rfl
theorem w_t_L_through : Cond.static yL_through ∈ gW := gW_in (i := 404) (by decide +kernel) rfl
theorem w_d_L_through : yL_through.cls ≠ "java/lang/invoke/MethodHandle" ∧ yL_through.cls ≠ "java/lang/invoke/VarHandle" ∧ (parseMethodDescriptor yL_through.desc).map (fun d => d.parameters.length) = some 2 := by decide +kernel
theorem LBL_15 : g_LB RL 15 yL_through cL_through 4 (some .int) 2 := ⟨gW_in (i := 403) (by decide +kernel) rfl, w_ini_L, w_c_L_through, w_d_L_through⟩
theorem LL_15 : g_LS RL 15 yL_through cL_through 4 (some .int) 2 := ⟨LBL_15, w_t_L_through⟩
theorem w_c_X7_helper : Cond.code yX7_helper cX7_helper 3 (some .int) ∈ gW := gW_in (i := 832) (by decide +kernel) rfl
theorem w_i_X7_helper : Cond.instanceMethod yX7_helper ∈ gW := gW_in (i := 830) (by decide +kernel) rfl
theorem w_s_X7_helper : Cond.selects yX7_helper.cls yX7_helper yX7_helper ∈ gW := gW_in (i := 831) (by decide +kernel) rfl
theorem w_d_X7_helper : yX7_helper.cls ≠ "java/lang/invoke/MethodHandle" ∧ yX7_helper.cls ≠ "java/lang/invoke/VarHandle" ∧ (parseMethodDescriptor yX7_helper.desc).map (fun d => d.parameters.length) = some 2 := by decide +kernel
theorem LBL_150 : g_LB RL 150 yX7_helper cX7_helper 3 (some .int) 2 := ⟨gW_in (i := 829) (by decide +kernel) rfl, w_ini_X7, w_c_X7_helper, w_d_X7_helper⟩
theorem LL_150 : g_LV RL 150 yX7_helper cX7_helper 3 (some .int) 2 7 := ⟨LBL_150, w_i_X7_helper, w_s_X7_helper, _, _, rfl⟩
theorem w_c_X7_value : Cond.code yX7_value cX7_value 2 (some .int) ∈ gW := gW_in (i := 786) (by decide +kernel) rfl
theorem w_i_X7_value : Cond.instanceMethod yX7_value ∈ gW := gW_in (i := 784) (by decide +kernel) rfl
theorem w_s_X7_value : Cond.selects yX7_value.cls yX7_value yX7_value ∈ gW := gW_in (i := 785) (by decide +kernel) rfl
theorem w_d_X7_value : yX7_value.cls ≠ "java/lang/invoke/MethodHandle" ∧ yX7_value.cls ≠ "java/lang/invoke/VarHandle" ∧ (parseMethodDescriptor yX7_value.desc).map (fun d => d.parameters.length) = some 1 := by decide +kernel
theorem LBL_153 : g_LB RL 153 yX7_value cX7_value 2 (some .int) 1 := ⟨gW_in (i := 783) (by decide +kernel) rfl, w_ini_X7, w_c_X7_value, w_d_X7_value⟩
theorem LL_153 : g_LV RL 153 yX7_value cX7_value 2 (some .int) 1 7 := ⟨LBL_153, w_i_X7_value, w_s_X7_value, _, _, rfl⟩
theorem w_c_X7_message : Cond.code yX7_message cX7_message 3 (some .int) ∈ gW := gW_in (i := 843) (by decide +kernel) rfl
theorem w_i_X7_message : Cond.instanceMethod yX7_message ∈ gW := gW_in (i := 841) (by decide +kernel) rfl
theorem w_s_X7_message : Cond.selects yX7_message.cls yX7_message yX7_message ∈ gW := gW_in (i := 842) (by decide +kernel) rfl
theorem w_d_X7_message : yX7_message.cls ≠ "java/lang/invoke/MethodHandle" ∧ yX7_message.cls ≠ "java/lang/invoke/VarHandle" ∧ (parseMethodDescriptor yX7_message.desc).map (fun d => d.parameters.length) = some 2 := by decide +kernel
theorem LBL_156 : g_LB RL 156 yX7_message cX7_message 3 (some .int) 2 := ⟨gW_in (i := 840) (by decide +kernel) rfl, w_ini_X7, w_c_X7_message, w_d_X7_message⟩
theorem LL_156 : g_LV RL 156 yX7_message cX7_message 3 (some .int) 2 7 := ⟨LBL_156, w_i_X7_message, w_s_X7_message, _, _, rfl⟩
theorem w_c_X7_carried : Cond.code yX7_carried cX7_carried 3 (some .int) ∈ gW := gW_in (i := 854) (by decide +kernel) rfl
theorem w_i_X7_carried : Cond.instanceMethod yX7_carried ∈ gW := gW_in (i := 852) (by decide +kernel) rfl
theorem w_s_X7_carried : Cond.selects yX7_carried.cls yX7_carried yX7_carried ∈ gW := gW_in (i := 853) (by decide +kernel) rfl
theorem w_d_X7_carried : yX7_carried.cls ≠ "java/lang/invoke/MethodHandle" ∧ yX7_carried.cls ≠ "java/lang/invoke/VarHandle" ∧ (parseMethodDescriptor yX7_carried.desc).map (fun d => d.parameters.length) = some 2 := by decide +kernel
theorem LBL_159 : g_LB RL 159 yX7_carried cX7_carried 3 (some .int) 2 := ⟨gW_in (i := 851) (by decide +kernel) rfl, w_ini_X7, w_c_X7_carried, w_d_X7_carried⟩
theorem LL_159 : g_LV RL 159 yX7_carried cX7_carried 3 (some .int) 2 7 := ⟨LBL_159, w_i_X7_carried, w_s_X7_carried, _, _, rfl⟩
theorem w_c_L_inTime : Cond.code yL_inTime cL_inTime 6 (some .boolean) ∈ gW := gW_in (i := 537) (by decide +kernel) rfl
theorem w_t_L_inTime : Cond.static yL_inTime ∈ gW := gW_in (i := 536) (by decide +kernel) rfl
theorem w_d_L_inTime : yL_inTime.cls ≠ "java/lang/invoke/MethodHandle" ∧ yL_inTime.cls ≠ "java/lang/invoke/VarHandle" ∧ (parseMethodDescriptor yL_inTime.desc).map (fun d => d.parameters.length) = some 5 := by decide +kernel
theorem LBL_18 : g_LB RL 18 yL_inTime cL_inTime 6 (some .boolean) 5 := ⟨gW_in (i := 535) (by decide +kernel) rfl, w_ini_L, w_c_L_inTime, w_d_L_inTime⟩
theorem LL_18 : g_LS RL 18 yL_inTime cL_inTime 6 (some .boolean) 5 := ⟨LBL_18, w_t_L_inTime⟩
theorem w_c_X7_init : Cond.code yX7_init cX7_init 2 none ∈ gW := gW_in (i := 31) (by decide +kernel) rfl
theorem w_i_X7_init : Cond.instanceMethod yX7_init ∈ gW := gW_in (i := 30) (by decide +kernel) rfl
theorem w_d_X7_init : yX7_init.cls ≠ "java/lang/invoke/MethodHandle" ∧ yX7_init.cls ≠ "java/lang/invoke/VarHandle" ∧ (parseMethodDescriptor yX7_init.desc).map (fun d => d.parameters.length) = some 0 := by decide +kernel
theorem LBL_180 : g_LB RL 180 yX7_init cX7_init 2 none 0 := ⟨gW_in (i := 29) (by decide +kernel) rfl, w_ini_X7, w_c_X7_init, w_d_X7_init⟩
set_option maxRecDepth 100000 in
theorem w_c_L_isSo : Cond.code yL_isSo cL_isSo 13 (some .boolean) ∈ gW := gW_in (i := 803) rfl rfl
theorem w_t_L_isSo : Cond.static yL_isSo ∈ gW := gW_in (i := 802) (by decide +kernel) rfl
theorem w_d_L_isSo : yL_isSo.cls ≠ "java/lang/invoke/MethodHandle" ∧ yL_isSo.cls ≠ "java/lang/invoke/VarHandle" ∧ (parseMethodDescriptor yL_isSo.desc).map (fun d => d.parameters.length) = some 9 := by decide +kernel
theorem LBL_181 : g_LB RL 181 yL_isSo cL_isSo 13 (some .boolean) 9 := ⟨gW_in (i := 801) (by decide +kernel) rfl, w_ini_L, w_c_L_isSo, w_d_L_isSo⟩
theorem LL_181 : g_LS RL 181 yL_isSo cL_isSo 13 (some .boolean) 9 := ⟨LBL_181, w_t_L_isSo⟩
theorem w_c_L_cell : Cond.code yL_cell cL_cell 2 (some .int) ∈ gW := gW_in (i := 264) (by decide +kernel) rfl
theorem w_t_L_cell : Cond.static yL_cell ∈ gW := gW_in (i := 263) (by decide +kernel) rfl
theorem w_d_L_cell : yL_cell.cls ≠ "java/lang/invoke/MethodHandle" ∧ yL_cell.cls ≠ "java/lang/invoke/VarHandle" ∧ (parseMethodDescriptor yL_cell.desc).map (fun d => d.parameters.length) = some 2 := by decide +kernel
theorem LBL_185 : g_LB RL 185 yL_cell cL_cell 2 (some .int) 2 := ⟨gW_in (i := 262) (by decide +kernel) rfl, w_ini_L, w_c_L_cell, w_d_L_cell⟩
theorem LL_185 : g_LS RL 185 yL_cell cL_cell 2 (some .int) 2 := ⟨LBL_185, w_t_L_cell⟩
set_option maxRecDepth 100000 in
theorem w_c_L_acts : Cond.code yL_acts cL_acts 19 (some .boolean) ∈ gW := gW_in (i := 272) rfl rfl
theorem w_t_L_acts : Cond.static yL_acts ∈ gW := gW_in (i := 271) (by decide +kernel) rfl
theorem w_d_L_acts : yL_acts.cls ≠ "java/lang/invoke/MethodHandle" ∧ yL_acts.cls ≠ "java/lang/invoke/VarHandle" ∧ (parseMethodDescriptor yL_acts.desc).map (fun d => d.parameters.length) = some 10 := by decide +kernel
theorem LBL_188 : g_LB RL 188 yL_acts cL_acts 19 (some .boolean) 10 := ⟨gW_in (i := 270) (by decide +kernel) rfl, w_ini_L, w_c_L_acts, w_d_L_acts⟩
theorem LL_188 : g_LS RL 188 yL_acts cL_acts 19 (some .boolean) 10 := ⟨LBL_188, w_t_L_acts⟩
theorem w_c_L_why : Cond.code yL_why cL_why 10 (some .int) ∈ gW := gW_in (i := 534) (by decide +kernel) rfl
theorem w_t_L_why : Cond.static yL_why ∈ gW := gW_in (i := 533) (by decide +kernel) rfl
theorem w_d_L_why : yL_why.cls ≠ "java/lang/invoke/MethodHandle" ∧ yL_why.cls ≠ "java/lang/invoke/VarHandle" ∧ (parseMethodDescriptor yL_why.desc).map (fun d => d.parameters.length) = some 7 := by decide +kernel
theorem LBL_22 : g_LB RL 22 yL_why cL_why 10 (some .int) 7 := ⟨gW_in (i := 532) (by decide +kernel) rfl, w_ini_L, w_c_L_why, w_d_L_why⟩
theorem LL_22 : g_LS RL 22 yL_why cL_why 10 (some .int) 7 := ⟨LBL_22, w_t_L_why⟩
theorem w_c_L_sets : Cond.code yL_sets cL_sets 4 none ∈ gW := gW_in (i := 591) (by decide +kernel) rfl
theorem w_t_L_sets : Cond.static yL_sets ∈ gW := gW_in (i := 590) (by decide +kernel) rfl
theorem w_d_L_sets : yL_sets.cls ≠ "java/lang/invoke/MethodHandle" ∧ yL_sets.cls ≠ "java/lang/invoke/VarHandle" ∧ (parseMethodDescriptor yL_sets.desc).map (fun d => d.parameters.length) = some 4 := by decide +kernel
theorem LBL_26 : g_LB RL 26 yL_sets cL_sets 4 none 4 := ⟨gW_in (i := 589) (by decide +kernel) rfl, w_ini_L, w_c_L_sets, w_d_L_sets⟩
theorem LL_26 : g_LS RL 26 yL_sets cL_sets 4 none 4 := ⟨LBL_26, w_t_L_sets⟩
theorem w_c_L_low : Cond.code yL_low cL_low 2 (some .int) ∈ gW := gW_in (i := 268) (by decide +kernel) rfl
theorem w_t_L_low : Cond.static yL_low ∈ gW := gW_in (i := 267) (by decide +kernel) rfl
theorem w_d_L_low : yL_low.cls ≠ "java/lang/invoke/MethodHandle" ∧ yL_low.cls ≠ "java/lang/invoke/VarHandle" ∧ (parseMethodDescriptor yL_low.desc).map (fun d => d.parameters.length) = some 2 := by decide +kernel
theorem LBL_31 : g_LB RL 31 yL_low cL_low 2 (some .int) 2 := ⟨gW_in (i := 266) (by decide +kernel) rfl, w_ini_L, w_c_L_low, w_d_L_low⟩
theorem LL_31 : g_LS RL 31 yL_low cL_low 2 (some .int) 2 := ⟨LBL_31, w_t_L_low⟩
theorem w_c_L_rigger : Cond.code yL_rigger cL_rigger 5 (some .int) ∈ gW := gW_in (i := 399) (by decide +kernel) rfl
theorem w_t_L_rigger : Cond.static yL_rigger ∈ gW := gW_in (i := 398) (by decide +kernel) rfl
theorem w_d_L_rigger : yL_rigger.cls ≠ "java/lang/invoke/MethodHandle" ∧ yL_rigger.cls ≠ "java/lang/invoke/VarHandle" ∧ (parseMethodDescriptor yL_rigger.desc).map (fun d => d.parameters.length) = some 3 := by decide +kernel
theorem LBL_39 : g_LB RL 39 yL_rigger cL_rigger 5 (some .int) 3 := ⟨gW_in (i := 397) (by decide +kernel) rfl, w_ini_L, w_c_L_rigger, w_d_L_rigger⟩
theorem LL_39 : g_LS RL 39 yL_rigger cL_rigger 5 (some .int) 3 := ⟨LBL_39, w_t_L_rigger⟩
theorem w_c_L_many : Cond.code yL_many cL_many 5 (some .int) ∈ gW := gW_in (i := 402) (by decide +kernel) rfl
theorem w_t_L_many : Cond.static yL_many ∈ gW := gW_in (i := 401) (by decide +kernel) rfl
theorem w_d_L_many : yL_many.cls ≠ "java/lang/invoke/MethodHandle" ∧ yL_many.cls ≠ "java/lang/invoke/VarHandle" ∧ (parseMethodDescriptor yL_many.desc).map (fun d => d.parameters.length) = some 3 := by decide +kernel
theorem LBL_43 : g_LB RL 43 yL_many cL_many 5 (some .int) 3 := ⟨gW_in (i := 400) (by decide +kernel) rfl, w_ini_L, w_c_L_many, w_d_L_many⟩
theorem LL_43 : g_LS RL 43 yL_many cL_many 5 (some .int) 3 := ⟨LBL_43, w_t_L_many⟩
theorem w_c_L_could : Cond.code yL_could cL_could 7 (some .boolean) ∈ gW := gW_in (i := 674) (by decide +kernel) rfl
theorem w_t_L_could : Cond.static yL_could ∈ gW := gW_in (i := 673) (by decide +kernel) rfl
theorem w_d_L_could : yL_could.cls ≠ "java/lang/invoke/MethodHandle" ∧ yL_could.cls ≠ "java/lang/invoke/VarHandle" ∧ (parseMethodDescriptor yL_could.desc).map (fun d => d.parameters.length) = some 6 := by decide +kernel
theorem LBL_78 : g_LB RL 78 yL_could cL_could 7 (some .boolean) 6 := ⟨gW_in (i := 672) (by decide +kernel) rfl, w_ini_L, w_c_L_could, w_d_L_could⟩
theorem LL_78 : g_LS RL 78 yL_could cL_could 7 (some .boolean) 6 := ⟨LBL_78, w_t_L_could⟩
set_option maxRecDepth 100000 in
theorem w_c_L_minute : Cond.code yL_minute cL_minute 12 (some .int) ∈ gW := gW_in (i := 734) rfl rfl
theorem w_t_L_minute : Cond.static yL_minute ∈ gW := gW_in (i := 733) (by decide +kernel) rfl
theorem w_d_L_minute : yL_minute.cls ≠ "java/lang/invoke/MethodHandle" ∧ yL_minute.cls ≠ "java/lang/invoke/VarHandle" ∧ (parseMethodDescriptor yL_minute.desc).map (fun d => d.parameters.length) = some 7 := by decide +kernel
theorem LBL_88 : g_LB RL 88 yL_minute cL_minute 12 (some .int) 7 := ⟨gW_in (i := 732) (by decide +kernel) rfl, w_ini_L, w_c_L_minute, w_d_L_minute⟩
theorem LL_88 : g_LS RL 88 yL_minute cL_minute 12 (some .int) 7 := ⟨LBL_88, w_t_L_minute⟩
theorem w_c_L_upFrom : Cond.code yL_upFrom cL_upFrom 4 (some .int) ∈ gW := gW_in (i := 540) (by decide +kernel) rfl
theorem w_t_L_upFrom : Cond.static yL_upFrom ∈ gW := gW_in (i := 539) (by decide +kernel) rfl
theorem w_d_L_upFrom : yL_upFrom.cls ≠ "java/lang/invoke/MethodHandle" ∧ yL_upFrom.cls ≠ "java/lang/invoke/VarHandle" ∧ (parseMethodDescriptor yL_upFrom.desc).map (fun d => d.parameters.length) = some 2 := by decide +kernel
theorem LBL_9 : g_LB RL 9 yL_upFrom cL_upFrom 4 (some .int) 2 := ⟨gW_in (i := 538) (by decide +kernel) rfl, w_ini_L, w_c_L_upFrom, w_d_L_upFrom⟩
theorem LL_9 : g_LS RL 9 yL_upFrom cL_upFrom 4 (some .int) 2 := ⟨LBL_9, w_t_L_upFrom⟩
theorem w_c_X7_begin : Cond.code yX7_begin cX7_begin 3 (some .int) ∈ gW := gW_in (i := 281) (by decide +kernel) rfl
theorem w_i_X7_begin : Cond.instanceMethod yX7_begin ∈ gW := gW_in (i := 279) (by decide +kernel) rfl
theorem w_s_X7_begin : Cond.selects yX7_begin.cls yX7_begin yX7_begin ∈ gW := gW_in (i := 280) (by decide +kernel) rfl
theorem w_d_X7_begin : yX7_begin.cls ≠ "java/lang/invoke/MethodHandle" ∧ yX7_begin.cls ≠ "java/lang/invoke/VarHandle" ∧ (parseMethodDescriptor yX7_begin.desc).map (fun d => d.parameters.length) = some 1 := by decide +kernel
theorem LBL_95 : g_LB RL 95 yX7_begin cX7_begin 3 (some .int) 1 := ⟨gW_in (i := 278) (by decide +kernel) rfl, w_ini_X7, w_c_X7_begin, w_d_X7_begin⟩
theorem LL_95 : g_LV RL 95 yX7_begin cX7_begin 3 (some .int) 1 7 := ⟨LBL_95, w_i_X7_begin, w_s_X7_begin, _, _, rfl⟩
theorem w_con_X0_211 : Cond.constant RX0 211 (100000 : Int32) ∈ gW := gW_in (i := 746) (by decide +kernel) rfl
theorem w_con_X7_87 : Cond.constant RX7 87 (100000 : Int32) ∈ gW := gW_in (i := 531) (by decide +kernel) rfl
theorem w_con_L_30 : Cond.constant RL 30 (10000000 : Int32) ∈ gW := gW_in (i := 273) (by decide +kernel) rfl
theorem w_con_L_50 : Cond.constant RL 50 (-2000003 : Int32) ∈ gW := gW_in (i := 489) (by decide +kernel) rfl
theorem w_con_L_51 : Cond.constant RL 51 (-2000002 : Int32) ∈ gW := gW_in (i := 396) (by decide +kernel) rfl
theorem w_con_L_68 : Cond.constant RL 68 (-2000001 : Int32) ∈ gW := gW_in (i := 488) (by decide +kernel) rfl
theorem w_con_L_7 : Cond.constant RL 7 (40503 : Int32) ∈ gW := gW_in (i := 265) (by decide +kernel) rfl
theorem w_con_L_8 : Cond.constant RL 8 (2147483647 : Int32) ∈ gW := gW_in (i := 269) (by decide +kernel) rfl
theorem w_con_J6_265 : Cond.constant RJ6 265 (1431655765 : Int32) ∈ gW := gW_in (i := 689) (by decide +kernel) rfl
theorem w_con_J6_266 : Cond.constant RJ6 266 (858993459 : Int32) ∈ gW := gW_in (i := 690) (by decide +kernel) rfl
theorem w_con_J6_267 : Cond.constant RJ6 267 (252645135 : Int32) ∈ gW := gW_in (i := 691) (by decide +kernel) rfl
