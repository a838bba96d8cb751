/-! ===== links: what the constant pools name ===== -/
theorem uX0_0 : u_lay RX0 TX0 0 ∈ gW := gW_in (i := 275) (by decide +kernel) rfl
theorem uX0_1 : u_lay RX0 TX0 1 ∈ gW := gW_in (i := 277) (by decide +kernel) rfl
theorem uX0_2 : u_lay RX0 TX0 2 ∈ gW := gW_in (i := 279) (by decide +kernel) rfl
theorem uX0_3 : u_lay RX0 TX0 3 ∈ gW := gW_in (i := 281) (by decide +kernel) rfl
theorem uX0_4 : u_lay RX0 TX0 4 ∈ gW := gW_in (i := 283) (by decide +kernel) rfl
theorem uX0_5 : u_lay RX0 TX0 5 ∈ gW := gW_in (i := 285) (by decide +kernel) rfl
theorem uX0_6 : u_lay RX0 TX0 6 ∈ gW := gW_in (i := 287) (by decide +kernel) rfl
theorem uX0_7 : u_lay RX0 TX0 7 ∈ gW := gW_in (i := 289) (by decide +kernel) rfl
theorem uX0_8 : u_lay RX0 TX0 8 ∈ gW := gW_in (i := 291) (by decide +kernel) rfl
theorem uX0_9 : u_lay RX0 TX0 9 ∈ gW := gW_in (i := 293) (by decide +kernel) rfl
theorem uX0_10 : u_lay RX0 TX0 10 ∈ gW := gW_in (i := 295) (by decide +kernel) rfl
theorem uX0_11 : u_lay RX0 TX0 11 ∈ gW := gW_in (i := 297) (by decide +kernel) rfl
theorem uX0 : ∀ w ∈ u_ws RX0 TX0 12, w ∈ gW := by
  intro w hw
  obtain ⟨k, hk, rfl⟩ := List.mem_map.mp hw
  have hk := List.mem_range.mp hk
  match k, hk with
  | 0, _ => exact uX0_0
  | 1, _ => exact uX0_1
  | 2, _ => exact uX0_2
  | 3, _ => exact uX0_3
  | 4, _ => exact uX0_4
  | 5, _ => exact uX0_5
  | 6, _ => exact uX0_6
  | 7, _ => exact uX0_7
  | 8, _ => exact uX0_8
  | 9, _ => exact uX0_9
  | 10, _ => exact uX0_10
  | 11, _ => exact uX0_11
  | k + 12, h => exact absurd h (by omega)
theorem uX1_0 : u_lay RX1 TX1 0 ∈ gW := gW_in (i := 233) (by decide +kernel) rfl
theorem uX1_1 : u_lay RX1 TX1 1 ∈ gW := gW_in (i := 235) (by decide +kernel) rfl
theorem uX1_2 : u_lay RX1 TX1 2 ∈ gW := gW_in (i := 237) (by decide +kernel) rfl
theorem uX1_3 : u_lay RX1 TX1 3 ∈ gW := gW_in (i := 239) (by decide +kernel) rfl
theorem uX1_4 : u_lay RX1 TX1 4 ∈ gW := gW_in (i := 241) (by decide +kernel) rfl
theorem uX1_5 : u_lay RX1 TX1 5 ∈ gW := gW_in (i := 243) (by decide +kernel) rfl
theorem uX1_6 : u_lay RX1 TX1 6 ∈ gW := gW_in (i := 245) (by decide +kernel) rfl
theorem uX1_7 : u_lay RX1 TX1 7 ∈ gW := gW_in (i := 247) (by decide +kernel) rfl
theorem uX1_8 : u_lay RX1 TX1 8 ∈ gW := gW_in (i := 249) (by decide +kernel) rfl
theorem uX1 : ∀ w ∈ u_ws RX1 TX1 9, w ∈ gW := by
  intro w hw
  obtain ⟨k, hk, rfl⟩ := List.mem_map.mp hw
  have hk := List.mem_range.mp hk
  match k, hk with
  | 0, _ => exact uX1_0
  | 1, _ => exact uX1_1
  | 2, _ => exact uX1_2
  | 3, _ => exact uX1_3
  | 4, _ => exact uX1_4
  | 5, _ => exact uX1_5
  | 6, _ => exact uX1_6
  | 7, _ => exact uX1_7
  | 8, _ => exact uX1_8
  | k + 9, h => exact absurd h (by omega)
theorem uX2_0 : u_lay RX2 TX2 0 ∈ gW := gW_in (i := 199) (by decide +kernel) rfl
theorem uX2_1 : u_lay RX2 TX2 1 ∈ gW := gW_in (i := 201) (by decide +kernel) rfl
theorem uX2_2 : u_lay RX2 TX2 2 ∈ gW := gW_in (i := 203) (by decide +kernel) rfl
theorem uX2_3 : u_lay RX2 TX2 3 ∈ gW := gW_in (i := 205) (by decide +kernel) rfl
theorem uX2_4 : u_lay RX2 TX2 4 ∈ gW := gW_in (i := 207) (by decide +kernel) rfl
theorem uX2 : ∀ w ∈ u_ws RX2 TX2 5, w ∈ gW := by
  intro w hw
  obtain ⟨k, hk, rfl⟩ := List.mem_map.mp hw
  have hk := List.mem_range.mp hk
  match k, hk with
  | 0, _ => exact uX2_0
  | 1, _ => exact uX2_1
  | 2, _ => exact uX2_2
  | 3, _ => exact uX2_3
  | 4, _ => exact uX2_4
  | k + 5, h => exact absurd h (by omega)
theorem uX3_0 : u_lay RX3 TX3 0 ∈ gW := gW_in (i := 174) (by decide +kernel) rfl
theorem uX3_1 : u_lay RX3 TX3 1 ∈ gW := gW_in (i := 176) (by decide +kernel) rfl
theorem uX3_2 : u_lay RX3 TX3 2 ∈ gW := gW_in (i := 178) (by decide +kernel) rfl
theorem uX3_3 : u_lay RX3 TX3 3 ∈ gW := gW_in (i := 180) (by decide +kernel) rfl
theorem uX3_4 : u_lay RX3 TX3 4 ∈ gW := gW_in (i := 182) (by decide +kernel) rfl
theorem uX3 : ∀ w ∈ u_ws RX3 TX3 5, w ∈ gW := by
  intro w hw
  obtain ⟨k, hk, rfl⟩ := List.mem_map.mp hw
  have hk := List.mem_range.mp hk
  match k, hk with
  | 0, _ => exact uX3_0
  | 1, _ => exact uX3_1
  | 2, _ => exact uX3_2
  | 3, _ => exact uX3_3
  | 4, _ => exact uX3_4
  | k + 5, h => exact absurd h (by omega)
theorem uX4_0 : u_lay RX4 TX4 0 ∈ gW := gW_in (i := 127) (by decide +kernel) rfl
theorem uX4_1 : u_lay RX4 TX4 1 ∈ gW := gW_in (i := 129) (by decide +kernel) rfl
theorem uX4_2 : u_lay RX4 TX4 2 ∈ gW := gW_in (i := 131) (by decide +kernel) rfl
theorem uX4_3 : u_lay RX4 TX4 3 ∈ gW := gW_in (i := 133) (by decide +kernel) rfl
theorem uX4 : ∀ w ∈ u_ws RX4 TX4 4, w ∈ gW := by
  intro w hw
  obtain ⟨k, hk, rfl⟩ := List.mem_map.mp hw
  have hk := List.mem_range.mp hk
  match k, hk with
  | 0, _ => exact uX4_0
  | 1, _ => exact uX4_1
  | 2, _ => exact uX4_2
  | 3, _ => exact uX4_3
  | k + 4, h => exact absurd h (by omega)
theorem uX5_0 : u_lay RX5 TX5 0 ∈ gW := gW_in (i := 149) (by decide +kernel) rfl
theorem uX5_1 : u_lay RX5 TX5 1 ∈ gW := gW_in (i := 151) (by decide +kernel) rfl
theorem uX5_2 : u_lay RX5 TX5 2 ∈ gW := gW_in (i := 153) (by decide +kernel) rfl
theorem uX5_3 : u_lay RX5 TX5 3 ∈ gW := gW_in (i := 155) (by decide +kernel) rfl
theorem uX5 : ∀ w ∈ u_ws RX5 TX5 4, w ∈ gW := by
  intro w hw
  obtain ⟨k, hk, rfl⟩ := List.mem_map.mp hw
  have hk := List.mem_range.mp hk
  match k, hk with
  | 0, _ => exact uX5_0
  | 1, _ => exact uX5_1
  | 2, _ => exact uX5_2
  | 3, _ => exact uX5_3
  | k + 4, h => exact absurd h (by omega)
theorem uX6_0 : u_lay RX6 TX6 0 ∈ gW := gW_in (i := 310) (by decide +kernel) rfl
theorem uX6_1 : u_lay RX6 TX6 1 ∈ gW := gW_in (i := 312) (by decide +kernel) rfl
theorem uX6 : ∀ w ∈ u_ws RX6 TX6 2, w ∈ gW := by
  intro w hw
  obtain ⟨k, hk, rfl⟩ := List.mem_map.mp hw
  have hk := List.mem_range.mp hk
  match k, hk with
  | 0, _ => exact uX6_0
  | 1, _ => exact uX6_1
  | k + 2, h => exact absurd h (by omega)
theorem uX7_0 : u_lay RX7 TX7 0 ∈ gW := gW_in (i := 319) (by decide +kernel) rfl
theorem uX7_1 : u_lay RX7 TX7 1 ∈ gW := gW_in (i := 321) (by decide +kernel) rfl
theorem uX7_2 : u_lay RX7 TX7 2 ∈ gW := gW_in (i := 323) (by decide +kernel) rfl
theorem uX7_3 : u_lay RX7 TX7 3 ∈ gW := gW_in (i := 325) (by decide +kernel) rfl
theorem uX7 : ∀ w ∈ u_ws RX7 TX7 4, w ∈ gW := by
  intro w hw
  obtain ⟨k, hk, rfl⟩ := List.mem_map.mp hw
  have hk := List.mem_range.mp hk
  match k, hk with
  | 0, _ => exact uX7_0
  | 1, _ => exact uX7_1
  | 2, _ => exact uX7_2
  | 3, _ => exact uX7_3
  | k + 4, h => exact absurd h (by omega)
theorem uX8_0 : u_lay RX8 TX8 0 ∈ gW := gW_in (i := 1098) (by decide +kernel) rfl
theorem uX8_1 : u_lay RX8 TX8 1 ∈ gW := gW_in (i := 1100) (by decide +kernel) rfl
theorem uX8_2 : u_lay RX8 TX8 2 ∈ gW := gW_in (i := 1102) (by decide +kernel) rfl
theorem uX8_3 : u_lay RX8 TX8 3 ∈ gW := gW_in (i := 1104) (by decide +kernel) rfl
theorem uX8_4 : u_lay RX8 TX8 4 ∈ gW := gW_in (i := 1106) (by decide +kernel) rfl
theorem uX8_5 : u_lay RX8 TX8 5 ∈ gW := gW_in (i := 1108) (by decide +kernel) rfl
theorem uX8_6 : u_lay RX8 TX8 6 ∈ gW := gW_in (i := 1110) (by decide +kernel) rfl
theorem uX8_7 : u_lay RX8 TX8 7 ∈ gW := gW_in (i := 1112) (by decide +kernel) rfl
theorem uX8_8 : u_lay RX8 TX8 8 ∈ gW := gW_in (i := 1114) (by decide +kernel) rfl
theorem uX8_9 : u_lay RX8 TX8 9 ∈ gW := gW_in (i := 1116) (by decide +kernel) rfl
theorem uX8_10 : u_lay RX8 TX8 10 ∈ gW := gW_in (i := 1118) (by decide +kernel) rfl
theorem uX8_11 : u_lay RX8 TX8 11 ∈ gW := gW_in (i := 1120) (by decide +kernel) rfl
theorem uX8_12 : u_lay RX8 TX8 12 ∈ gW := gW_in (i := 1122) (by decide +kernel) rfl
theorem uX8 : ∀ w ∈ u_ws RX8 TX8 13, w ∈ gW := by
  intro w hw
  obtain ⟨k, hk, rfl⟩ := List.mem_map.mp hw
  have hk := List.mem_range.mp hk
  match k, hk with
  | 0, _ => exact uX8_0
  | 1, _ => exact uX8_1
  | 2, _ => exact uX8_2
  | 3, _ => exact uX8_3
  | 4, _ => exact uX8_4
  | 5, _ => exact uX8_5
  | 6, _ => exact uX8_6
  | 7, _ => exact uX8_7
  | 8, _ => exact uX8_8
  | 9, _ => exact uX8_9
  | 10, _ => exact uX8_10
  | 11, _ => exact uX8_11
  | 12, _ => exact uX8_12
  | k + 13, h => exact absurd h (by omega)
theorem w_ini_X0 : Cond.initialized RX0 ∈ gW := gW_in (i := 74) (by decide +kernel) rfl
theorem w_ini_X1 : Cond.initialized RX1 ∈ gW := gW_in (i := 79) (by decide +kernel) rfl
theorem w_ini_X2 : Cond.initialized RX2 ∈ gW := gW_in (i := 78) (by decide +kernel) rfl
theorem w_ini_X3 : Cond.initialized RX3 ∈ gW := gW_in (i := 77) (by decide +kernel) rfl
theorem w_ini_X4 : Cond.initialized RX4 ∈ gW := gW_in (i := 75) (by decide +kernel) rfl
theorem w_ini_X5 : Cond.initialized RX5 ∈ gW := gW_in (i := 76) (by decide +kernel) rfl
theorem w_ini_X6 : Cond.initialized RX6 ∈ gW := gW_in (i := 80) (by decide +kernel) rfl
theorem w_ini_X7 : Cond.initialized RX7 ∈ gW := gW_in (i := 73) (by decide +kernel) rfl
theorem w_ini_X8 : Cond.initialized RX8 ∈ gW := gW_in (i := 81) (by decide +kernel) rfl
theorem w_ini_J6 : Cond.initialized RJ6 ∈ gW := gW_in (i := 89) (by decide +kernel) rfl
theorem w_ini_J9 : Cond.initialized RJ9 ∈ gW := gW_in (i := 87) (by decide +kernel) rfl
theorem w_ini_L : Cond.initialized RL ∈ gW := gW_in (i := 72) (by decide +kernel) rfl
theorem w_fl_X0_103 : Cond.fieldLink RX0 103 (TX1 2).1 (TX1 2).2.1 (TX1 2).2.2.1 ∈ gW := gW_in (i := 220) (by decide +kernel) rfl
theorem FX0_103 : g_FL RX0 103 1 2 := ⟨RX1, TX1, 9, rfl, by decide, uX1, w_fl_X0_103⟩
theorem FPX0_103 (x : Int32) : g_FP RX0 103 1 2 (.int x) := ⟨RX1, TX1, 9, tyX1, rfl, by decide, uX1, w_fl_X0_103, tyX1_ok, nmX1, rfl, rfl, rfl⟩
theorem w_fl_X0_110 : Cond.fieldLink RX0 110 (TX1 1).1 (TX1 1).2.1 (TX1 1).2.2.1 ∈ gW := gW_in (i := 218) (by decide +kernel) rfl
theorem FX0_110 : g_FL RX0 110 1 1 := ⟨RX1, TX1, 9, rfl, by decide, uX1, w_fl_X0_110⟩
theorem FPX0_110 (x : Int32) : g_FP RX0 110 1 1 (.int x) := ⟨RX1, TX1, 9, tyX1, rfl, by decide, uX1, w_fl_X0_110, tyX1_ok, nmX1, rfl, rfl, rfl⟩
theorem w_fl_X0_12 : Cond.fieldLink RX0 12 (TX0 0).1 (TX0 0).2.1 (TX0 0).2.2.1 ∈ gW := gW_in (i := 252) (by decide +kernel) rfl
theorem FX0_12 : g_FL RX0 12 0 0 := ⟨RX0, TX0, 12, rfl, by decide, uX0, w_fl_X0_12⟩
theorem w_fl_X0_123 : Cond.fieldLink RX0 123 (TX1 7).1 (TX1 7).2.1 (TX1 7).2.2.1 ∈ gW := gW_in (i := 230) (by decide +kernel) rfl
theorem FX0_123 : g_FL RX0 123 1 7 := ⟨RX1, TX1, 9, rfl, by decide, uX1, w_fl_X0_123⟩
theorem FPX0_123 (x : Int32) : g_FP RX0 123 1 7 (.int x) := ⟨RX1, TX1, 9, tyX1, rfl, by decide, uX1, w_fl_X0_123, tyX1_ok, nmX1, rfl, rfl, rfl⟩
theorem w_fl_X0_129 : Cond.fieldLink RX0 129 (TX1 0).1 (TX1 0).2.1 (TX1 0).2.2.1 ∈ gW := gW_in (i := 216) (by decide +kernel) rfl
theorem FX0_129 : g_FL RX0 129 1 0 := ⟨RX1, TX1, 9, rfl, by decide, uX1, w_fl_X0_129⟩
theorem FPX0_129 (x : Int32) : g_FP RX0 129 1 0 (.int x) := ⟨RX1, TX1, 9, tyX1, rfl, by decide, uX1, w_fl_X0_129, tyX1_ok, nmX1, rfl, rfl, rfl⟩
theorem w_fl_X0_132 : Cond.fieldLink RX0 132 (TX4 3).1 (TX4 3).2.1 (TX4 3).2.2.1 ∈ gW := gW_in (i := 126) (by decide +kernel) rfl
theorem FX0_132 : g_FL RX0 132 4 3 := ⟨RX4, TX4, 4, rfl, by decide, uX4, w_fl_X0_132⟩
theorem FPX0_132 (x : Int32) : g_FP RX0 132 4 3 (.int x) := ⟨RX4, TX4, 4, tyX4, rfl, by decide, uX4, w_fl_X0_132, tyX4_ok, nmX4, rfl, rfl, rfl⟩
theorem w_fl_X0_142 : Cond.fieldLink RX0 142 (TX1 6).1 (TX1 6).2.1 (TX1 6).2.2.1 ∈ gW := gW_in (i := 228) (by decide +kernel) rfl
theorem FX0_142 : g_FL RX0 142 1 6 := ⟨RX1, TX1, 9, rfl, by decide, uX1, w_fl_X0_142⟩
theorem FPX0_142 (x : Int32) : g_FP RX0 142 1 6 (.int x) := ⟨RX1, TX1, 9, tyX1, rfl, by decide, uX1, w_fl_X0_142, tyX1_ok, nmX1, rfl, rfl, rfl⟩
theorem w_fl_X0_166 : Cond.fieldLink RX0 166 (TX1 5).1 (TX1 5).2.1 (TX1 5).2.2.1 ∈ gW := gW_in (i := 226) (by decide +kernel) rfl
theorem FX0_166 : g_FL RX0 166 1 5 := ⟨RX1, TX1, 9, rfl, by decide, uX1, w_fl_X0_166⟩
theorem FPX0_166 (x : Int32) : g_FP RX0 166 1 5 (.int x) := ⟨RX1, TX1, 9, tyX1, rfl, by decide, uX1, w_fl_X0_166, tyX1_ok, nmX1, rfl, rfl, rfl⟩
theorem w_fl_X0_186 : Cond.fieldLink RX0 186 (TX1 4).1 (TX1 4).2.1 (TX1 4).2.2.1 ∈ gW := gW_in (i := 224) (by decide +kernel) rfl
theorem FX0_186 : g_FL RX0 186 1 4 := ⟨RX1, TX1, 9, rfl, by decide, uX1, w_fl_X0_186⟩
theorem FPX0_186 (x : Int32) : g_FP RX0 186 1 4 (.int x) := ⟨RX1, TX1, 9, tyX1, rfl, by decide, uX1, w_fl_X0_186, tyX1_ok, nmX1, rfl, rfl, rfl⟩
theorem w_fl_X0_204 : Cond.fieldLink RX0 204 (TX1 8).1 (TX1 8).2.1 (TX1 8).2.2.1 ∈ gW := gW_in (i := 232) (by decide +kernel) rfl
theorem FX0_204 : g_FL RX0 204 1 8 := ⟨RX1, TX1, 9, rfl, by decide, uX1, w_fl_X0_204⟩
theorem FPX0_204 {x : Int32} (h : x = 0 ∨ x = 1) : g_FP RX0 204 1 8 (.int x) := by
  rcases h with rfl | rfl <;> exact ⟨RX1, TX1, 9, tyX1, rfl, by decide, uX1, w_fl_X0_204, tyX1_ok, nmX1, rfl, rfl, rfl⟩
theorem w_fl_X0_21 : Cond.fieldLink RX0 21 (TX0 1).1 (TX0 1).2.1 (TX0 1).2.2.1 ∈ gW := gW_in (i := 254) (by decide +kernel) rfl
theorem FX0_21 : g_FL RX0 21 0 1 := ⟨RX0, TX0, 12, rfl, by decide, uX0, w_fl_X0_21⟩
theorem w_fl_X0_231 : Cond.fieldLink RX0 231 (TX1 3).1 (TX1 3).2.1 (TX1 3).2.2.1 ∈ gW := gW_in (i := 222) (by decide +kernel) rfl
theorem FX0_231 : g_FL RX0 231 1 3 := ⟨RX1, TX1, 9, rfl, by decide, uX1, w_fl_X0_231⟩
theorem FPX0_231 (x : Int32) : g_FP RX0 231 1 3 (.int x) := ⟨RX1, TX1, 9, tyX1, rfl, by decide, uX1, w_fl_X0_231, tyX1_ok, nmX1, rfl, rfl, rfl⟩
theorem w_fl_X0_27 : Cond.fieldLink RX0 27 (TX0 2).1 (TX0 2).2.1 (TX0 2).2.2.1 ∈ gW := gW_in (i := 256) (by decide +kernel) rfl
theorem FX0_27 : g_FL RX0 27 0 2 := ⟨RX0, TX0, 12, rfl, by decide, uX0, w_fl_X0_27⟩
theorem w_fl_X0_31 : Cond.fieldLink RX0 31 (TX0 3).1 (TX0 3).2.1 (TX0 3).2.2.1 ∈ gW := gW_in (i := 258) (by decide +kernel) rfl
theorem FX0_31 : g_FL RX0 31 0 3 := ⟨RX0, TX0, 12, rfl, by decide, uX0, w_fl_X0_31⟩
theorem FPX0_31 (x : Int32) : g_FP RX0 31 0 3 (.int x) := ⟨RX0, TX0, 12, tyX0, rfl, by decide, uX0, w_fl_X0_31, tyX0_ok, nmX0, rfl, rfl, rfl⟩
theorem w_fl_X0_38 : Cond.fieldLink RX0 38 (TX0 4).1 (TX0 4).2.1 (TX0 4).2.2.1 ∈ gW := gW_in (i := 260) (by decide +kernel) rfl
theorem FX0_38 : g_FL RX0 38 0 4 := ⟨RX0, TX0, 12, rfl, by decide, uX0, w_fl_X0_38⟩
theorem w_fl_X0_45 : Cond.fieldLink RX0 45 (TX0 5).1 (TX0 5).2.1 (TX0 5).2.2.1 ∈ gW := gW_in (i := 262) (by decide +kernel) rfl
theorem FX0_45 : g_FL RX0 45 0 5 := ⟨RX0, TX0, 12, rfl, by decide, uX0, w_fl_X0_45⟩
theorem w_fl_X0_49 : Cond.fieldLink RX0 49 (TX0 6).1 (TX0 6).2.1 (TX0 6).2.2.1 ∈ gW := gW_in (i := 264) (by decide +kernel) rfl
theorem FX0_49 : g_FL RX0 49 0 6 := ⟨RX0, TX0, 12, rfl, by decide, uX0, w_fl_X0_49⟩
theorem FPX0_49 (x : Int32) : g_FP RX0 49 0 6 (.int x) := ⟨RX0, TX0, 12, tyX0, rfl, by decide, uX0, w_fl_X0_49, tyX0_ok, nmX0, rfl, rfl, rfl⟩
theorem w_fl_X0_52 : Cond.fieldLink RX0 52 (TX0 7).1 (TX0 7).2.1 (TX0 7).2.2.1 ∈ gW := gW_in (i := 266) (by decide +kernel) rfl
theorem FX0_52 : g_FL RX0 52 0 7 := ⟨RX0, TX0, 12, rfl, by decide, uX0, w_fl_X0_52⟩
theorem FPX0_52 (x : Int32) : g_FP RX0 52 0 7 (.int x) := ⟨RX0, TX0, 12, tyX0, rfl, by decide, uX0, w_fl_X0_52, tyX0_ok, nmX0, rfl, rfl, rfl⟩
theorem w_fl_X0_55 : Cond.fieldLink RX0 55 (TX0 8).1 (TX0 8).2.1 (TX0 8).2.2.1 ∈ gW := gW_in (i := 268) (by decide +kernel) rfl
theorem FX0_55 : g_FL RX0 55 0 8 := ⟨RX0, TX0, 12, rfl, by decide, uX0, w_fl_X0_55⟩
theorem FPX0_55 {x : Int32} (h : x = 0 ∨ x = 1) : g_FP RX0 55 0 8 (.int x) := by
  rcases h with rfl | rfl <;> exact ⟨RX0, TX0, 12, tyX0, rfl, by decide, uX0, w_fl_X0_55, tyX0_ok, nmX0, rfl, rfl, rfl⟩
theorem w_fl_X0_59 : Cond.fieldLink RX0 59 (TX0 9).1 (TX0 9).2.1 (TX0 9).2.2.1 ∈ gW := gW_in (i := 270) (by decide +kernel) rfl
theorem FX0_59 : g_FL RX0 59 0 9 := ⟨RX0, TX0, 12, rfl, by decide, uX0, w_fl_X0_59⟩
theorem FPX0_59 (x : Int32) : g_FP RX0 59 0 9 (.int x) := ⟨RX0, TX0, 12, tyX0, rfl, by decide, uX0, w_fl_X0_59, tyX0_ok, nmX0, rfl, rfl, rfl⟩
theorem w_fl_X0_62 : Cond.fieldLink RX0 62 (TX0 10).1 (TX0 10).2.1 (TX0 10).2.2.1 ∈ gW := gW_in (i := 272) (by decide +kernel) rfl
theorem FX0_62 : g_FL RX0 62 0 10 := ⟨RX0, TX0, 12, rfl, by decide, uX0, w_fl_X0_62⟩
theorem FPX0_62 (x : Int32) : g_FP RX0 62 0 10 (.int x) := ⟨RX0, TX0, 12, tyX0, rfl, by decide, uX0, w_fl_X0_62, tyX0_ok, nmX0, rfl, rfl, rfl⟩
theorem w_fl_X0_65 : Cond.fieldLink RX0 65 (TX0 11).1 (TX0 11).2.1 (TX0 11).2.2.1 ∈ gW := gW_in (i := 274) (by decide +kernel) rfl
theorem FX0_65 : g_FL RX0 65 0 11 := ⟨RX0, TX0, 12, rfl, by decide, uX0, w_fl_X0_65⟩
theorem FPX0_65 (x : Int32) : g_FP RX0 65 0 11 (.int x) := ⟨RX0, TX0, 12, tyX0, rfl, by decide, uX0, w_fl_X0_65, tyX0_ok, nmX0, rfl, rfl, rfl⟩
theorem w_fl_X0_73 : Cond.fieldLink RX0 73 (TX5 3).1 (TX5 3).2.1 (TX5 3).2.2.1 ∈ gW := gW_in (i := 147) (by decide +kernel) rfl
theorem FX0_73 : g_FL RX0 73 5 3 := ⟨RX5, TX5, 4, rfl, by decide, uX5, w_fl_X0_73⟩
theorem FPX0_73 (x : Int32) : g_FP RX0 73 5 3 (.int x) := ⟨RX5, TX5, 4, tyX5, rfl, by decide, uX5, w_fl_X0_73, tyX5_ok, nmX5, rfl, rfl, rfl⟩
theorem w_fl_X0_76 : Cond.fieldLink RX0 76 (TX3 3).1 (TX3 3).2.1 (TX3 3).2.2.1 ∈ gW := gW_in (i := 170) (by decide +kernel) rfl
theorem FX0_76 : g_FL RX0 76 3 3 := ⟨RX3, TX3, 5, rfl, by decide, uX3, w_fl_X0_76⟩
theorem FPX0_76 (x : Int32) : g_FP RX0 76 3 3 (.int x) := ⟨RX3, TX3, 5, tyX3, rfl, by decide, uX3, w_fl_X0_76, tyX3_ok, nmX3, rfl, rfl, rfl⟩
theorem w_fl_X0_77 : Cond.fieldLink RX0 77 (TX3 4).1 (TX3 4).2.1 (TX3 4).2.2.1 ∈ gW := gW_in (i := 173) (by decide +kernel) rfl
theorem FX0_77 : g_FL RX0 77 3 4 := ⟨RX3, TX3, 5, rfl, by decide, uX3, w_fl_X0_77⟩
theorem FPX0_77 (x : Int32) : g_FP RX0 77 3 4 (.int x) := ⟨RX3, TX3, 5, tyX3, rfl, by decide, uX3, w_fl_X0_77, tyX3_ok, nmX3, rfl, rfl, rfl⟩
theorem w_fl_X0_80 : Cond.fieldLink RX0 80 (TX2 3).1 (TX2 3).2.1 (TX2 3).2.2.1 ∈ gW := gW_in (i := 195) (by decide +kernel) rfl
theorem FX0_80 : g_FL RX0 80 2 3 := ⟨RX2, TX2, 5, rfl, by decide, uX2, w_fl_X0_80⟩
theorem FPX0_80 (x : Int32) : g_FP RX0 80 2 3 (.int x) := ⟨RX2, TX2, 5, tyX2, rfl, by decide, uX2, w_fl_X0_80, tyX2_ok, nmX2, rfl, rfl, rfl⟩
theorem w_fl_X0_83 : Cond.fieldLink RX0 83 (TX2 4).1 (TX2 4).2.1 (TX2 4).2.2.1 ∈ gW := gW_in (i := 198) (by decide +kernel) rfl
theorem FX0_83 : g_FL RX0 83 2 4 := ⟨RX2, TX2, 5, rfl, by decide, uX2, w_fl_X0_83⟩
theorem FPX0_83 (x : Int32) : g_FP RX0 83 2 4 (.int x) := ⟨RX2, TX2, 5, tyX2, rfl, by decide, uX2, w_fl_X0_83, tyX2_ok, nmX2, rfl, rfl, rfl⟩
theorem w_fl_X1_15 : Cond.fieldLink RX1 15 (TX1 1).1 (TX1 1).2.1 (TX1 1).2.2.1 ∈ gW := gW_in (i := 217) (by decide +kernel) rfl
theorem FX1_15 : g_FL RX1 15 1 1 := ⟨RX1, TX1, 9, rfl, by decide, uX1, w_fl_X1_15⟩
theorem FPX1_15 (x : Int32) : g_FP RX1 15 1 1 (.int x) := ⟨RX1, TX1, 9, tyX1, rfl, by decide, uX1, w_fl_X1_15, tyX1_ok, nmX1, rfl, rfl, rfl⟩
theorem w_fl_X1_18 : Cond.fieldLink RX1 18 (TX1 2).1 (TX1 2).2.1 (TX1 2).2.2.1 ∈ gW := gW_in (i := 219) (by decide +kernel) rfl
theorem FX1_18 : g_FL RX1 18 1 2 := ⟨RX1, TX1, 9, rfl, by decide, uX1, w_fl_X1_18⟩
theorem FPX1_18 (x : Int32) : g_FP RX1 18 1 2 (.int x) := ⟨RX1, TX1, 9, tyX1, rfl, by decide, uX1, w_fl_X1_18, tyX1_ok, nmX1, rfl, rfl, rfl⟩
theorem w_fl_X1_21 : Cond.fieldLink RX1 21 (TX1 3).1 (TX1 3).2.1 (TX1 3).2.2.1 ∈ gW := gW_in (i := 221) (by decide +kernel) rfl
theorem FX1_21 : g_FL RX1 21 1 3 := ⟨RX1, TX1, 9, rfl, by decide, uX1, w_fl_X1_21⟩
theorem FPX1_21 (x : Int32) : g_FP RX1 21 1 3 (.int x) := ⟨RX1, TX1, 9, tyX1, rfl, by decide, uX1, w_fl_X1_21, tyX1_ok, nmX1, rfl, rfl, rfl⟩
theorem w_fl_X1_24 : Cond.fieldLink RX1 24 (TX1 4).1 (TX1 4).2.1 (TX1 4).2.2.1 ∈ gW := gW_in (i := 223) (by decide +kernel) rfl
theorem FX1_24 : g_FL RX1 24 1 4 := ⟨RX1, TX1, 9, rfl, by decide, uX1, w_fl_X1_24⟩
theorem FPX1_24 (x : Int32) : g_FP RX1 24 1 4 (.int x) := ⟨RX1, TX1, 9, tyX1, rfl, by decide, uX1, w_fl_X1_24, tyX1_ok, nmX1, rfl, rfl, rfl⟩
theorem w_fl_X1_27 : Cond.fieldLink RX1 27 (TX1 5).1 (TX1 5).2.1 (TX1 5).2.2.1 ∈ gW := gW_in (i := 225) (by decide +kernel) rfl
theorem FX1_27 : g_FL RX1 27 1 5 := ⟨RX1, TX1, 9, rfl, by decide, uX1, w_fl_X1_27⟩
theorem FPX1_27 (x : Int32) : g_FP RX1 27 1 5 (.int x) := ⟨RX1, TX1, 9, tyX1, rfl, by decide, uX1, w_fl_X1_27, tyX1_ok, nmX1, rfl, rfl, rfl⟩
theorem w_fl_X1_30 : Cond.fieldLink RX1 30 (TX1 6).1 (TX1 6).2.1 (TX1 6).2.2.1 ∈ gW := gW_in (i := 227) (by decide +kernel) rfl
theorem FX1_30 : g_FL RX1 30 1 6 := ⟨RX1, TX1, 9, rfl, by decide, uX1, w_fl_X1_30⟩
theorem FPX1_30 (x : Int32) : g_FP RX1 30 1 6 (.int x) := ⟨RX1, TX1, 9, tyX1, rfl, by decide, uX1, w_fl_X1_30, tyX1_ok, nmX1, rfl, rfl, rfl⟩
theorem w_fl_X1_33 : Cond.fieldLink RX1 33 (TX1 7).1 (TX1 7).2.1 (TX1 7).2.2.1 ∈ gW := gW_in (i := 229) (by decide +kernel) rfl
theorem FX1_33 : g_FL RX1 33 1 7 := ⟨RX1, TX1, 9, rfl, by decide, uX1, w_fl_X1_33⟩
theorem FPX1_33 (x : Int32) : g_FP RX1 33 1 7 (.int x) := ⟨RX1, TX1, 9, tyX1, rfl, by decide, uX1, w_fl_X1_33, tyX1_ok, nmX1, rfl, rfl, rfl⟩
theorem w_fl_X1_36 : Cond.fieldLink RX1 36 (TX1 8).1 (TX1 8).2.1 (TX1 8).2.2.1 ∈ gW := gW_in (i := 231) (by decide +kernel) rfl
theorem FX1_36 : g_FL RX1 36 1 8 := ⟨RX1, TX1, 9, rfl, by decide, uX1, w_fl_X1_36⟩
theorem FPX1_36 {x : Int32} (h : x = 0 ∨ x = 1) : g_FP RX1 36 1 8 (.int x) := by
  rcases h with rfl | rfl <;> exact ⟨RX1, TX1, 9, tyX1, rfl, by decide, uX1, w_fl_X1_36, tyX1_ok, nmX1, rfl, rfl, rfl⟩
theorem w_fl_X1_9 : Cond.fieldLink RX1 9 (TX1 0).1 (TX1 0).2.1 (TX1 0).2.2.1 ∈ gW := gW_in (i := 215) (by decide +kernel) rfl
theorem FX1_9 : g_FL RX1 9 1 0 := ⟨RX1, TX1, 9, rfl, by decide, uX1, w_fl_X1_9⟩
theorem FPX1_9 (x : Int32) : g_FP RX1 9 1 0 (.int x) := ⟨RX1, TX1, 9, tyX1, rfl, by decide, uX1, w_fl_X1_9, tyX1_ok, nmX1, rfl, rfl, rfl⟩
theorem w_fl_X2_15 : Cond.fieldLink RX2 15 (TX2 1).1 (TX2 1).2.1 (TX2 1).2.2.1 ∈ gW := gW_in (i := 192) (by decide +kernel) rfl
theorem FX2_15 : g_FL RX2 15 2 1 := ⟨RX2, TX2, 5, rfl, by decide, uX2, w_fl_X2_15⟩
theorem w_fl_X2_18 : Cond.fieldLink RX2 18 (TX2 2).1 (TX2 2).2.1 (TX2 2).2.2.1 ∈ gW := gW_in (i := 193) (by decide +kernel) rfl
theorem FX2_18 : g_FL RX2 18 2 2 := ⟨RX2, TX2, 5, rfl, by decide, uX2, w_fl_X2_18⟩
theorem w_fl_X2_21 : Cond.fieldLink RX2 21 (TX2 3).1 (TX2 3).2.1 (TX2 3).2.2.1 ∈ gW := gW_in (i := 194) (by decide +kernel) rfl
theorem FX2_21 : g_FL RX2 21 2 3 := ⟨RX2, TX2, 5, rfl, by decide, uX2, w_fl_X2_21⟩
theorem FPX2_21 (x : Int32) : g_FP RX2 21 2 3 (.int x) := ⟨RX2, TX2, 5, tyX2, rfl, by decide, uX2, w_fl_X2_21, tyX2_ok, nmX2, rfl, rfl, rfl⟩
theorem w_fl_X2_25 : Cond.fieldLink RX2 25 (TX2 4).1 (TX2 4).2.1 (TX2 4).2.2.1 ∈ gW := gW_in (i := 197) (by decide +kernel) rfl
theorem FX2_25 : g_FL RX2 25 2 4 := ⟨RX2, TX2, 5, rfl, by decide, uX2, w_fl_X2_25⟩
theorem FPX2_25 (x : Int32) : g_FP RX2 25 2 4 (.int x) := ⟨RX2, TX2, 5, tyX2, rfl, by decide, uX2, w_fl_X2_25, tyX2_ok, nmX2, rfl, rfl, rfl⟩
theorem w_fl_X2_9 : Cond.fieldLink RX2 9 (TX2 0).1 (TX2 0).2.1 (TX2 0).2.2.1 ∈ gW := gW_in (i := 191) (by decide +kernel) rfl
theorem FX2_9 : g_FL RX2 9 2 0 := ⟨RX2, TX2, 5, rfl, by decide, uX2, w_fl_X2_9⟩
theorem w_fl_X3_15 : Cond.fieldLink RX3 15 (TX3 1).1 (TX3 1).2.1 (TX3 1).2.2.1 ∈ gW := gW_in (i := 167) (by decide +kernel) rfl
theorem FX3_15 : g_FL RX3 15 3 1 := ⟨RX3, TX3, 5, rfl, by decide, uX3, w_fl_X3_15⟩
theorem w_fl_X3_18 : Cond.fieldLink RX3 18 (TX3 2).1 (TX3 2).2.1 (TX3 2).2.2.1 ∈ gW := gW_in (i := 168) (by decide +kernel) rfl
theorem FX3_18 : g_FL RX3 18 3 2 := ⟨RX3, TX3, 5, rfl, by decide, uX3, w_fl_X3_18⟩
theorem w_fl_X3_21 : Cond.fieldLink RX3 21 (TX3 3).1 (TX3 3).2.1 (TX3 3).2.2.1 ∈ gW := gW_in (i := 169) (by decide +kernel) rfl
theorem FX3_21 : g_FL RX3 21 3 3 := ⟨RX3, TX3, 5, rfl, by decide, uX3, w_fl_X3_21⟩
theorem FPX3_21 (x : Int32) : g_FP RX3 21 3 3 (.int x) := ⟨RX3, TX3, 5, tyX3, rfl, by decide, uX3, w_fl_X3_21, tyX3_ok, nmX3, rfl, rfl, rfl⟩
theorem w_fl_X3_25 : Cond.fieldLink RX3 25 (TX3 4).1 (TX3 4).2.1 (TX3 4).2.2.1 ∈ gW := gW_in (i := 172) (by decide +kernel) rfl
theorem FX3_25 : g_FL RX3 25 3 4 := ⟨RX3, TX3, 5, rfl, by decide, uX3, w_fl_X3_25⟩
theorem FPX3_25 (x : Int32) : g_FP RX3 25 3 4 (.int x) := ⟨RX3, TX3, 5, tyX3, rfl, by decide, uX3, w_fl_X3_25, tyX3_ok, nmX3, rfl, rfl, rfl⟩
theorem w_fl_X3_9 : Cond.fieldLink RX3 9 (TX3 0).1 (TX3 0).2.1 (TX3 0).2.2.1 ∈ gW := gW_in (i := 166) (by decide +kernel) rfl
theorem FX3_9 : g_FL RX3 9 3 0 := ⟨RX3, TX3, 5, rfl, by decide, uX3, w_fl_X3_9⟩
theorem w_fl_X4_18 : Cond.fieldLink RX4 18 (TX4 0).1 (TX4 0).2.1 (TX4 0).2.2.1 ∈ gW := gW_in (i := 121) (by decide +kernel) rfl
theorem FX4_18 : g_FL RX4 18 4 0 := ⟨RX4, TX4, 4, rfl, by decide, uX4, w_fl_X4_18⟩
theorem w_fl_X4_26 : Cond.fieldLink RX4 26 (TX4 1).1 (TX4 1).2.1 (TX4 1).2.2.1 ∈ gW := gW_in (i := 122) (by decide +kernel) rfl
theorem FX4_26 : g_FL RX4 26 4 1 := ⟨RX4, TX4, 4, rfl, by decide, uX4, w_fl_X4_26⟩
theorem w_fl_X4_29 : Cond.fieldLink RX4 29 (TX4 2).1 (TX4 2).2.1 (TX4 2).2.2.1 ∈ gW := gW_in (i := 123) (by decide +kernel) rfl
theorem FX4_29 : g_FL RX4 29 4 2 := ⟨RX4, TX4, 4, rfl, by decide, uX4, w_fl_X4_29⟩
theorem w_fl_X4_32 : Cond.fieldLink RX4 32 (TX4 3).1 (TX4 3).2.1 (TX4 3).2.2.1 ∈ gW := gW_in (i := 124) (by decide +kernel) rfl
theorem FX4_32 : g_FL RX4 32 4 3 := ⟨RX4, TX4, 4, rfl, by decide, uX4, w_fl_X4_32⟩
theorem FPX4_32 (x : Int32) : g_FP RX4 32 4 3 (.int x) := ⟨RX4, TX4, 4, tyX4, rfl, by decide, uX4, w_fl_X4_32, tyX4_ok, nmX4, rfl, rfl, rfl⟩
theorem w_fl_X5_15 : Cond.fieldLink RX5 15 (TX5 1).1 (TX5 1).2.1 (TX5 1).2.2.1 ∈ gW := gW_in (i := 144) (by decide +kernel) rfl
theorem FX5_15 : g_FL RX5 15 5 1 := ⟨RX5, TX5, 4, rfl, by decide, uX5, w_fl_X5_15⟩
theorem w_fl_X5_18 : Cond.fieldLink RX5 18 (TX5 2).1 (TX5 2).2.1 (TX5 2).2.2.1 ∈ gW := gW_in (i := 145) (by decide +kernel) rfl
theorem FX5_18 : g_FL RX5 18 5 2 := ⟨RX5, TX5, 4, rfl, by decide, uX5, w_fl_X5_18⟩
theorem w_fl_X5_21 : Cond.fieldLink RX5 21 (TX5 3).1 (TX5 3).2.1 (TX5 3).2.2.1 ∈ gW := gW_in (i := 146) (by decide +kernel) rfl
theorem FX5_21 : g_FL RX5 21 5 3 := ⟨RX5, TX5, 4, rfl, by decide, uX5, w_fl_X5_21⟩
theorem FPX5_21 (x : Int32) : g_FP RX5 21 5 3 (.int x) := ⟨RX5, TX5, 4, tyX5, rfl, by decide, uX5, w_fl_X5_21, tyX5_ok, nmX5, rfl, rfl, rfl⟩
theorem w_fl_X5_9 : Cond.fieldLink RX5 9 (TX5 0).1 (TX5 0).2.1 (TX5 0).2.2.1 ∈ gW := gW_in (i := 143) (by decide +kernel) rfl
theorem FX5_9 : g_FL RX5 9 5 0 := ⟨RX5, TX5, 4, rfl, by decide, uX5, w_fl_X5_9⟩
theorem w_fl_X6_15 : Cond.fieldLink RX6 15 (TX6 1).1 (TX6 1).2.1 (TX6 1).2.2.1 ∈ gW := gW_in (i := 308) (by decide +kernel) rfl
theorem FX6_15 : g_FL RX6 15 6 1 := ⟨RX6, TX6, 2, rfl, by decide, uX6, w_fl_X6_15⟩
theorem FPX6_15 (x : Int32) : g_FP RX6 15 6 1 (.int x) := ⟨RX6, TX6, 2, tyX6, rfl, by decide, uX6, w_fl_X6_15, tyX6_ok, nmX6, rfl, rfl, rfl⟩
theorem w_fl_X6_9 : Cond.fieldLink RX6 9 (TX6 0).1 (TX6 0).2.1 (TX6 0).2.2.1 ∈ gW := gW_in (i := 307) (by decide +kernel) rfl
theorem FX6_9 : g_FL RX6 9 6 0 := ⟨RX6, TX6, 2, rfl, by decide, uX6, w_fl_X6_9⟩
theorem w_fl_X7_10 : Cond.fieldLink RX7 10 (TX7 0).1 (TX7 0).2.1 (TX7 0).2.2.1 ∈ gW := gW_in (i := 315) (by decide +kernel) rfl
theorem FX7_10 : g_FL RX7 10 7 0 := ⟨RX7, TX7, 4, rfl, by decide, uX7, w_fl_X7_10⟩
theorem w_fl_X7_147 : Cond.fieldLink RX7 147 (TX0 4).1 (TX0 4).2.1 (TX0 4).2.2.1 ∈ gW := gW_in (i := 261) (by decide +kernel) rfl
theorem FX7_147 : g_FL RX7 147 0 4 := ⟨RX0, TX0, 12, rfl, by decide, uX0, w_fl_X7_147⟩
theorem w_fl_X7_151 : Cond.fieldLink RX7 151 (TX3 3).1 (TX3 3).2.1 (TX3 3).2.2.1 ∈ gW := gW_in (i := 171) (by decide +kernel) rfl
theorem FX7_151 : g_FL RX7 151 3 3 := ⟨RX3, TX3, 5, rfl, by decide, uX3, w_fl_X7_151⟩
theorem FPX7_151 (x : Int32) : g_FP RX7 151 3 3 (.int x) := ⟨RX3, TX3, 5, tyX3, rfl, by decide, uX3, w_fl_X7_151, tyX3_ok, nmX3, rfl, rfl, rfl⟩
theorem w_fl_X7_16 : Cond.fieldLink RX7 16 (TX7 1).1 (TX7 1).2.1 (TX7 1).2.2.1 ∈ gW := gW_in (i := 316) (by decide +kernel) rfl
theorem FX7_16 : g_FL RX7 16 7 1 := ⟨RX7, TX7, 4, rfl, by decide, uX7, w_fl_X7_16⟩
theorem w_fl_X7_166 : Cond.fieldLink RX7 166 (TX0 2).1 (TX0 2).2.1 (TX0 2).2.2.1 ∈ gW := gW_in (i := 257) (by decide +kernel) rfl
theorem FX7_166 : g_FL RX7 166 0 2 := ⟨RX0, TX0, 12, rfl, by decide, uX0, w_fl_X7_166⟩
theorem w_fl_X7_176 : Cond.fieldLink RX7 176 (TX0 5).1 (TX0 5).2.1 (TX0 5).2.2.1 ∈ gW := gW_in (i := 263) (by decide +kernel) rfl
theorem FX7_176 : g_FL RX7 176 0 5 := ⟨RX0, TX0, 12, rfl, by decide, uX0, w_fl_X7_176⟩
theorem w_fl_X7_180 : Cond.fieldLink RX7 180 (TX2 3).1 (TX2 3).2.1 (TX2 3).2.2.1 ∈ gW := gW_in (i := 196) (by decide +kernel) rfl
theorem FX7_180 : g_FL RX7 180 2 3 := ⟨RX2, TX2, 5, rfl, by decide, uX2, w_fl_X7_180⟩
theorem FPX7_180 (x : Int32) : g_FP RX7 180 2 3 (.int x) := ⟨RX2, TX2, 5, tyX2, rfl, by decide, uX2, w_fl_X7_180, tyX2_ok, nmX2, rfl, rfl, rfl⟩
theorem w_fl_X7_20 : Cond.fieldLink RX7 20 (TX7 2).1 (TX7 2).2.1 (TX7 2).2.2.1 ∈ gW := gW_in (i := 317) (by decide +kernel) rfl
theorem FX7_20 : g_FL RX7 20 7 2 := ⟨RX7, TX7, 4, rfl, by decide, uX7, w_fl_X7_20⟩
theorem FPX7_20 (x : Int32) : g_FP RX7 20 7 2 (.int x) := ⟨RX7, TX7, 4, tyX7, rfl, by decide, uX7, w_fl_X7_20, tyX7_ok, nmX7, rfl, rfl, rfl⟩
theorem w_fl_X7_203 : Cond.fieldLink RX7 203 (TX0 8).1 (TX0 8).2.1 (TX0 8).2.2.1 ∈ gW := gW_in (i := 269) (by decide +kernel) rfl
theorem FX7_203 : g_FL RX7 203 0 8 := ⟨RX0, TX0, 12, rfl, by decide, uX0, w_fl_X7_203⟩
theorem FPX7_203 {x : Int32} (h : x = 0 ∨ x = 1) : g_FP RX7 203 0 8 (.int x) := by
  rcases h with rfl | rfl <;> exact ⟨RX0, TX0, 12, tyX0, rfl, by decide, uX0, w_fl_X7_203, tyX0_ok, nmX0, rfl, rfl, rfl⟩
theorem w_fl_X7_207 : Cond.fieldLink RX7 207 (TX0 7).1 (TX0 7).2.1 (TX0 7).2.2.1 ∈ gW := gW_in (i := 267) (by decide +kernel) rfl
theorem FX7_207 : g_FL RX7 207 0 7 := ⟨RX0, TX0, 12, rfl, by decide, uX0, w_fl_X7_207⟩
theorem FPX7_207 (x : Int32) : g_FP RX7 207 0 7 (.int x) := ⟨RX0, TX0, 12, tyX0, rfl, by decide, uX0, w_fl_X7_207, tyX0_ok, nmX0, rfl, rfl, rfl⟩
theorem w_fl_X7_226 : Cond.fieldLink RX7 226 (TX6 1).1 (TX6 1).2.1 (TX6 1).2.2.1 ∈ gW := gW_in (i := 309) (by decide +kernel) rfl
theorem FX7_226 : g_FL RX7 226 6 1 := ⟨RX6, TX6, 2, rfl, by decide, uX6, w_fl_X7_226⟩
theorem FPX7_226 (x : Int32) : g_FP RX7 226 6 1 (.int x) := ⟨RX6, TX6, 2, tyX6, rfl, by decide, uX6, w_fl_X7_226, tyX6_ok, nmX6, rfl, rfl, rfl⟩
theorem w_fl_X7_27 : Cond.fieldLink RX7 27 (TX7 3).1 (TX7 3).2.1 (TX7 3).2.2.1 ∈ gW := gW_in (i := 318) (by decide +kernel) rfl
theorem FX7_27 : g_FL RX7 27 7 3 := ⟨RX7, TX7, 4, rfl, by decide, uX7, w_fl_X7_27⟩
theorem w_fl_X7_35 : Cond.fieldLink RX7 35 (TX0 6).1 (TX0 6).2.1 (TX0 6).2.2.1 ∈ gW := gW_in (i := 265) (by decide +kernel) rfl
theorem FX7_35 : g_FL RX7 35 0 6 := ⟨RX0, TX0, 12, rfl, by decide, uX0, w_fl_X7_35⟩
theorem FPX7_35 (x : Int32) : g_FP RX7 35 0 6 (.int x) := ⟨RX0, TX0, 12, tyX0, rfl, by decide, uX0, w_fl_X7_35, tyX0_ok, nmX0, rfl, rfl, rfl⟩
theorem w_fl_X7_45 : Cond.fieldLink RX7 45 (TX0 0).1 (TX0 0).2.1 (TX0 0).2.2.1 ∈ gW := gW_in (i := 253) (by decide +kernel) rfl
theorem FX7_45 : g_FL RX7 45 0 0 := ⟨RX0, TX0, 12, rfl, by decide, uX0, w_fl_X7_45⟩
theorem w_fl_X7_49 : Cond.fieldLink RX7 49 (TX4 3).1 (TX4 3).2.1 (TX4 3).2.2.1 ∈ gW := gW_in (i := 125) (by decide +kernel) rfl
theorem FX7_49 : g_FL RX7 49 4 3 := ⟨RX4, TX4, 4, rfl, by decide, uX4, w_fl_X7_49⟩
theorem FPX7_49 (x : Int32) : g_FP RX7 49 4 3 (.int x) := ⟨RX4, TX4, 4, tyX4, rfl, by decide, uX4, w_fl_X7_49, tyX4_ok, nmX4, rfl, rfl, rfl⟩
theorem w_fl_X7_73 : Cond.fieldLink RX7 73 (TX0 1).1 (TX0 1).2.1 (TX0 1).2.2.1 ∈ gW := gW_in (i := 255) (by decide +kernel) rfl
theorem FX7_73 : g_FL RX7 73 0 1 := ⟨RX0, TX0, 12, rfl, by decide, uX0, w_fl_X7_73⟩
theorem w_fl_X7_77 : Cond.fieldLink RX7 77 (TX5 3).1 (TX5 3).2.1 (TX5 3).2.2.1 ∈ gW := gW_in (i := 148) (by decide +kernel) rfl
theorem FX7_77 : g_FL RX7 77 5 3 := ⟨RX5, TX5, 4, rfl, by decide, uX5, w_fl_X7_77⟩
theorem FPX7_77 (x : Int32) : g_FP RX7 77 5 3 (.int x) := ⟨RX5, TX5, 4, tyX5, rfl, by decide, uX5, w_fl_X7_77, tyX5_ok, nmX5, rfl, rfl, rfl⟩
theorem w_fl_X7_83 : Cond.fieldLink RX7 83 (TX0 3).1 (TX0 3).2.1 (TX0 3).2.2.1 ∈ gW := gW_in (i := 259) (by decide +kernel) rfl
theorem FX7_83 : g_FL RX7 83 0 3 := ⟨RX0, TX0, 12, rfl, by decide, uX0, w_fl_X7_83⟩
theorem FPX7_83 (x : Int32) : g_FP RX7 83 0 3 (.int x) := ⟨RX0, TX0, 12, tyX0, rfl, by decide, uX0, w_fl_X7_83, tyX0_ok, nmX0, rfl, rfl, rfl⟩
theorem w_fl_X7_88 : Cond.fieldLink RX7 88 (TX0 10).1 (TX0 10).2.1 (TX0 10).2.2.1 ∈ gW := gW_in (i := 273) (by decide +kernel) rfl
theorem FX7_88 : g_FL RX7 88 0 10 := ⟨RX0, TX0, 12, rfl, by decide, uX0, w_fl_X7_88⟩
theorem FPX7_88 (x : Int32) : g_FP RX7 88 0 10 (.int x) := ⟨RX0, TX0, 12, tyX0, rfl, by decide, uX0, w_fl_X7_88, tyX0_ok, nmX0, rfl, rfl, rfl⟩
theorem w_fl_X7_91 : Cond.fieldLink RX7 91 (TX0 9).1 (TX0 9).2.1 (TX0 9).2.2.1 ∈ gW := gW_in (i := 271) (by decide +kernel) rfl
theorem FX7_91 : g_FL RX7 91 0 9 := ⟨RX0, TX0, 12, rfl, by decide, uX0, w_fl_X7_91⟩
theorem FPX7_91 (x : Int32) : g_FP RX7 91 0 9 (.int x) := ⟨RX0, TX0, 12, tyX0, rfl, by decide, uX0, w_fl_X7_91, tyX0_ok, nmX0, rfl, rfl, rfl⟩
theorem w_fl_X8_105 : Cond.fieldLink RX8 105 (TX8 7).1 (TX8 7).2.1 (TX8 7).2.2.1 ∈ gW := gW_in (i := 1092) (by decide +kernel) rfl
theorem FX8_105 : g_FL RX8 105 8 7 := ⟨RX8, TX8, 13, rfl, by decide, uX8, w_fl_X8_105⟩
theorem FPX8_105 (x : Int32) : g_FP RX8 105 8 7 (.int x) := ⟨RX8, TX8, 13, tyX8, rfl, by decide, uX8, w_fl_X8_105, tyX8_ok, nmX8, rfl, rfl, rfl⟩
theorem w_fl_X8_13 : Cond.fieldLink RX8 13 (TX8 1).1 (TX8 1).2.1 (TX8 1).2.2.1 ∈ gW := gW_in (i := 1086) (by decide +kernel) rfl
theorem FX8_13 : g_FL RX8 13 8 1 := ⟨RX8, TX8, 13, rfl, by decide, uX8, w_fl_X8_13⟩
theorem w_fl_X8_16 : Cond.fieldLink RX8 16 (TX8 2).1 (TX8 2).2.1 (TX8 2).2.2.1 ∈ gW := gW_in (i := 1087) (by decide +kernel) rfl
theorem FX8_16 : g_FL RX8 16 8 2 := ⟨RX8, TX8, 13, rfl, by decide, uX8, w_fl_X8_16⟩
theorem w_fl_X8_183 : Cond.fieldLink RX8 183 (TX8 5).1 (TX8 5).2.1 (TX8 5).2.2.1 ∈ gW := gW_in (i := 1090) (by decide +kernel) rfl
theorem FX8_183 : g_FL RX8 183 8 5 := ⟨RX8, TX8, 13, rfl, by decide, uX8, w_fl_X8_183⟩
theorem FPX8_183 (x : Int32) : g_FP RX8 183 8 5 (.int x) := ⟨RX8, TX8, 13, tyX8, rfl, by decide, uX8, w_fl_X8_183, tyX8_ok, nmX8, rfl, rfl, rfl⟩
theorem w_fl_X8_186 : Cond.fieldLink RX8 186 (TX8 8).1 (TX8 8).2.1 (TX8 8).2.2.1 ∈ gW := gW_in (i := 1093) (by decide +kernel) rfl
theorem FX8_186 : g_FL RX8 186 8 8 := ⟨RX8, TX8, 13, rfl, by decide, uX8, w_fl_X8_186⟩
theorem FPX8_186 (x : Int32) : g_FP RX8 186 8 8 (.int x) := ⟨RX8, TX8, 13, tyX8, rfl, by decide, uX8, w_fl_X8_186, tyX8_ok, nmX8, rfl, rfl, rfl⟩
theorem w_fl_X8_189 : Cond.fieldLink RX8 189 (TX8 10).1 (TX8 10).2.1 (TX8 10).2.2.1 ∈ gW := gW_in (i := 1095) (by decide +kernel) rfl
theorem FX8_189 : g_FL RX8 189 8 10 := ⟨RX8, TX8, 13, rfl, by decide, uX8, w_fl_X8_189⟩
theorem FPX8_189 (x : Int32) : g_FP RX8 189 8 10 (.int x) := ⟨RX8, TX8, 13, tyX8, rfl, by decide, uX8, w_fl_X8_189, tyX8_ok, nmX8, rfl, rfl, rfl⟩
theorem w_fl_X8_19 : Cond.fieldLink RX8 19 (TX8 4).1 (TX8 4).2.1 (TX8 4).2.2.1 ∈ gW := gW_in (i := 1089) (by decide +kernel) rfl
theorem FX8_19 : g_FL RX8 19 8 4 := ⟨RX8, TX8, 13, rfl, by decide, uX8, w_fl_X8_19⟩
theorem w_fl_X8_195 : Cond.fieldLink RX8 195 (TX8 9).1 (TX8 9).2.1 (TX8 9).2.2.1 ∈ gW := gW_in (i := 1094) (by decide +kernel) rfl
theorem FX8_195 : g_FL RX8 195 8 9 := ⟨RX8, TX8, 13, rfl, by decide, uX8, w_fl_X8_195⟩
theorem FPX8_195 (x : Int32) : g_FP RX8 195 8 9 (.int x) := ⟨RX8, TX8, 13, tyX8, rfl, by decide, uX8, w_fl_X8_195, tyX8_ok, nmX8, rfl, rfl, rfl⟩
theorem w_fl_X8_204 : Cond.fieldLink RX8 204 (TX8 11).1 (TX8 11).2.1 (TX8 11).2.2.1 ∈ gW := gW_in (i := 1096) (by decide +kernel) rfl
theorem FX8_204 : g_FL RX8 204 8 11 := ⟨RX8, TX8, 13, rfl, by decide, uX8, w_fl_X8_204⟩
theorem FPX8_204 (x : Int32) : g_FP RX8 204 8 11 (.int x) := ⟨RX8, TX8, 13, tyX8, rfl, by decide, uX8, w_fl_X8_204, tyX8_ok, nmX8, rfl, rfl, rfl⟩
theorem w_fl_X8_221 : Cond.fieldLink RX8 221 (TX8 12).1 (TX8 12).2.1 (TX8 12).2.2.1 ∈ gW := gW_in (i := 1097) (by decide +kernel) rfl
theorem FX8_221 : g_FL RX8 221 8 12 := ⟨RX8, TX8, 13, rfl, by decide, uX8, w_fl_X8_221⟩
theorem FPX8_221 (x : Int64) : g_FP RX8 221 8 12 (.long x) := ⟨RX8, TX8, 13, tyX8, rfl, by decide, uX8, w_fl_X8_221, tyX8_ok, nmX8, rfl, rfl, rfl⟩
theorem w_fl_X8_26 : Cond.fieldLink RX8 26 (TX8 6).1 (TX8 6).2.1 (TX8 6).2.2.1 ∈ gW := gW_in (i := 1091) (by decide +kernel) rfl
theorem FX8_26 : g_FL RX8 26 8 6 := ⟨RX8, TX8, 13, rfl, by decide, uX8, w_fl_X8_26⟩
theorem FPX8_26 (x : Int32) : g_FP RX8 26 8 6 (.int x) := ⟨RX8, TX8, 13, tyX8, rfl, by decide, uX8, w_fl_X8_26, tyX8_ok, nmX8, rfl, rfl, rfl⟩
theorem w_fl_X8_30 : Cond.fieldLink RX8 30 (TX8 3).1 (TX8 3).2.1 (TX8 3).2.2.1 ∈ gW := gW_in (i := 1088) (by decide +kernel) rfl
theorem FX8_30 : g_FL RX8 30 8 3 := ⟨RX8, TX8, 13, rfl, by decide, uX8, w_fl_X8_30⟩
theorem FPX8_30 (x : Int32) : g_FP RX8 30 8 3 (.int x) := ⟨RX8, TX8, 13, tyX8, rfl, by decide, uX8, w_fl_X8_30, tyX8_ok, nmX8, rfl, rfl, rfl⟩
theorem w_fl_X8_7 : Cond.fieldLink RX8 7 (TX8 0).1 (TX8 0).2.1 (TX8 0).2.2.1 ∈ gW := gW_in (i := 1085) (by decide +kernel) rfl
theorem FX8_7 : g_FL RX8 7 8 0 := ⟨RX8, TX8, 13, rfl, by decide, uX8, w_fl_X8_7⟩
theorem w_c_X1_startAnew : Cond.code yX1_startAnew cX1_startAnew 2 none ∈ gW := gW_in (i := 866) (by decide +kernel) rfl
theorem w_i_X1_startAnew : Cond.instanceMethod yX1_startAnew ∈ gW := gW_in (i := 864) (by decide +kernel) rfl
theorem w_s_X1_startAnew : Cond.selects yX1_startAnew.cls yX1_startAnew yX1_startAnew ∈ gW := gW_in (i := 865) (by decide +kernel) rfl
theorem w_d_X1_startAnew : yX1_startAnew.cls ≠ "java/lang/invoke/MethodHandle" ∧ yX1_startAnew.cls ≠ "java/lang/invoke/VarHandle" ∧ (parseMethodDescriptor yX1_startAnew.desc).map (fun d => d.parameters.length) = some 1 := by decide +kernel
theorem LBX0_102 : g_LB RX0 102 yX1_startAnew cX1_startAnew 2 none 1 := ⟨gW_in (i := 863) (by decide +kernel) rfl, w_ini_X1, w_c_X1_startAnew, w_d_X1_startAnew⟩
theorem LX0_102 : g_LV RX0 102 yX1_startAnew cX1_startAnew 2 none 1 1 := ⟨LBX0_102, w_i_X1_startAnew, w_s_X1_startAnew, _, _, rfl⟩
theorem w_c_X1_walksThrough : Cond.code yX1_walksThrough cX1_walksThrough 2 (some .boolean) ∈ gW := gW_in (i := 675) (by decide +kernel) rfl
theorem w_i_X1_walksThrough : Cond.instanceMethod yX1_walksThrough ∈ gW := gW_in (i := 673) (by decide +kernel) rfl
theorem w_s_X1_walksThrough : Cond.selects yX1_walksThrough.cls yX1_walksThrough yX1_walksThrough ∈ gW := gW_in (i := 674) (by decide +kernel) rfl
theorem w_d_X1_walksThrough : yX1_walksThrough.cls ≠ "java/lang/invoke/MethodHandle" ∧ yX1_walksThrough.cls ≠ "java/lang/invoke/VarHandle" ∧ (parseMethodDescriptor yX1_walksThrough.desc).map (fun d => d.parameters.length) = some 1 := by decide +kernel
theorem LBX0_106 : g_LB RX0 106 yX1_walksThrough cX1_walksThrough 2 (some .boolean) 1 := ⟨gW_in (i := 672) (by decide +kernel) rfl, w_ini_X1, w_c_X1_walksThrough, w_d_X1_walksThrough⟩
theorem LX0_106 : g_LV RX0 106 yX1_walksThrough cX1_walksThrough 2 (some .boolean) 1 1 := ⟨LBX0_106, w_i_X1_walksThrough, w_s_X1_walksThrough, _, _, rfl⟩
theorem w_c_X4_init : Cond.code yX4_init cX4_init 2 none ∈ gW := gW_in (i := 108) (by decide +kernel) rfl
theorem w_i_X4_init : Cond.instanceMethod yX4_init ∈ gW := gW_in (i := 107) (by decide +kernel) rfl
theorem w_d_X4_init : yX4_init.cls ≠ "java/lang/invoke/MethodHandle" ∧ yX4_init.cls ≠ "java/lang/invoke/VarHandle" ∧ (parseMethodDescriptor yX4_init.desc).map (fun d => d.parameters.length) = some 0 := by decide +kernel
theorem LBX0_11 : g_LB RX0 11 yX4_init cX4_init 2 none 0 := ⟨gW_in (i := 106) (by decide +kernel) rfl, w_ini_X4, w_c_X4_init, w_d_X4_init⟩
theorem w_c_X4_ropeOf : Cond.code yX4_ropeOf cX4_ropeOf 2 (some .int) ∈ gW := gW_in (i := 510) (by decide +kernel) rfl
theorem w_i_X4_ropeOf : Cond.instanceMethod yX4_ropeOf ∈ gW := gW_in (i := 508) (by decide +kernel) rfl
theorem w_s_X4_ropeOf : Cond.selects yX4_ropeOf.cls yX4_ropeOf yX4_ropeOf ∈ gW := gW_in (i := 509) (by decide +kernel) rfl
theorem w_d_X4_ropeOf : yX4_ropeOf.cls ≠ "java/lang/invoke/MethodHandle" ∧ yX4_ropeOf.cls ≠ "java/lang/invoke/VarHandle" ∧ (parseMethodDescriptor yX4_ropeOf.desc).map (fun d => d.parameters.length) = some 1 := by decide +kernel
theorem LBX0_113 : g_LB RX0 113 yX4_ropeOf cX4_ropeOf 2 (some .int) 1 := ⟨gW_in (i := 507) (by decide +kernel) rfl, w_ini_X4, w_c_X4_ropeOf, w_d_X4_ropeOf⟩
theorem LX0_113 : g_LV RX0 113 yX4_ropeOf cX4_ropeOf 2 (some .int) 1 4 := ⟨LBX0_113, w_i_X4_ropeOf, w_s_X4_ropeOf, _, _, rfl⟩
theorem w_c_X0_riggerOf : Cond.code yX0_riggerOf cX0_riggerOf 3 (some .int) ∈ gW := gW_in (i := 514) (by decide +kernel) rfl
theorem w_i_X0_riggerOf : Cond.instanceMethod yX0_riggerOf ∈ gW := gW_in (i := 512) (by decide +kernel) rfl
theorem w_s_X0_riggerOf : Cond.selects yX0_riggerOf.cls yX0_riggerOf yX0_riggerOf ∈ gW := gW_in (i := 513) (by decide +kernel) rfl
theorem w_d_X0_riggerOf : yX0_riggerOf.cls ≠ "java/lang/invoke/MethodHandle" ∧ yX0_riggerOf.cls ≠ "java/lang/invoke/VarHandle" ∧ (parseMethodDescriptor yX0_riggerOf.desc).map (fun d => d.parameters.length) = some 1 := by decide +kernel
theorem LBX0_117 : g_LB RX0 117 yX0_riggerOf cX0_riggerOf 3 (some .int) 1 := ⟨gW_in (i := 511) (by decide +kernel) rfl, w_ini_X0, w_c_X0_riggerOf, w_d_X0_riggerOf⟩
theorem LX0_117 : g_LV RX0 117 yX0_riggerOf cX0_riggerOf 3 (some .int) 1 0 := ⟨LBX0_117, w_i_X0_riggerOf, w_s_X0_riggerOf, _, _, rfl⟩
theorem w_c_X0_walkersThrough : Cond.code yX0_walkersThrough cX0_walkersThrough 4 (some .int) ∈ gW := gW_in (i := 671) (by decide +kernel) rfl
theorem w_i_X0_walkersThrough : Cond.instanceMethod yX0_walkersThrough ∈ gW := gW_in (i := 669) (by decide +kernel) rfl
theorem w_s_X0_walkersThrough : Cond.selects yX0_walkersThrough.cls yX0_walkersThrough yX0_walkersThrough ∈ gW := gW_in (i := 670) (by decide +kernel) rfl
theorem w_d_X0_walkersThrough : yX0_walkersThrough.cls ≠ "java/lang/invoke/MethodHandle" ∧ yX0_walkersThrough.cls ≠ "java/lang/invoke/VarHandle" ∧ (parseMethodDescriptor yX0_walkersThrough.desc).map (fun d => d.parameters.length) = some 1 := by decide +kernel
theorem LBX0_120 : g_LB RX0 120 yX0_walkersThrough cX0_walkersThrough 4 (some .int) 1 := ⟨gW_in (i := 668) (by decide +kernel) rfl, w_ini_X0, w_c_X0_walkersThrough, w_d_X0_walkersThrough⟩
theorem LX0_120 : g_LV RX0 120 yX0_walkersThrough cX0_walkersThrough 4 (some .int) 1 0 := ⟨LBX0_120, w_i_X0_walkersThrough, w_s_X0_walkersThrough, _, _, rfl⟩
theorem w_c_X4_wayUp : Cond.code yX4_wayUp cX4_wayUp 4 (some .int) ∈ gW := gW_in (i := 347) (by decide +kernel) rfl
theorem w_i_X4_wayUp : Cond.instanceMethod yX4_wayUp ∈ gW := gW_in (i := 345) (by decide +kernel) rfl
theorem w_s_X4_wayUp : Cond.selects yX4_wayUp.cls yX4_wayUp yX4_wayUp ∈ gW := gW_in (i := 346) (by decide +kernel) rfl
theorem w_d_X4_wayUp : yX4_wayUp.cls ≠ "java/lang/invoke/MethodHandle" ∧ yX4_wayUp.cls ≠ "java/lang/invoke/VarHandle" ∧ (parseMethodDescriptor yX4_wayUp.desc).map (fun d => d.parameters.length) = some 1 := by decide +kernel
theorem LBX0_126 : g_LB RX0 126 yX4_wayUp cX4_wayUp 4 (some .int) 1 := ⟨gW_in (i := 365) (by decide +kernel) rfl, w_ini_X4, w_c_X4_wayUp, w_d_X4_wayUp⟩
theorem LX0_126 : g_LV RX0 126 yX4_wayUp cX4_wayUp 4 (some .int) 1 4 := ⟨LBX0_126, w_i_X4_wayUp, w_s_X4_wayUp, _, _, rfl⟩
theorem w_c_X4_isOpen : Cond.code yX4_isOpen cX4_isOpen 2 (some .boolean) ∈ gW := gW_in (i := 339) (by decide +kernel) rfl
theorem w_i_X4_isOpen : Cond.instanceMethod yX4_isOpen ∈ gW := gW_in (i := 337) (by decide +kernel) rfl
theorem w_s_X4_isOpen : Cond.selects yX4_isOpen.cls yX4_isOpen yX4_isOpen ∈ gW := gW_in (i := 338) (by decide +kernel) rfl
theorem w_d_X4_isOpen : yX4_isOpen.cls ≠ "java/lang/invoke/MethodHandle" ∧ yX4_isOpen.cls ≠ "java/lang/invoke/VarHandle" ∧ (parseMethodDescriptor yX4_isOpen.desc).map (fun d => d.parameters.length) = some 1 := by decide +kernel
theorem LBX0_133 : g_LB RX0 133 yX4_isOpen cX4_isOpen 2 (some .boolean) 1 := ⟨gW_in (i := 356) (by decide +kernel) rfl, w_ini_X4, w_c_X4_isOpen, w_d_X4_isOpen⟩
theorem LX0_133 : g_LV RX0 133 yX4_isOpen cX4_isOpen 2 (some .boolean) 1 4 := ⟨LBX0_133, w_i_X4_isOpen, w_s_X4_isOpen, _, _, rfl⟩
theorem w_c_X4_minutesOf : Cond.code yX4_minutesOf cX4_minutesOf 2 (some .int) ∈ gW := gW_in (i := 360) (by decide +kernel) rfl
theorem w_i_X4_minutesOf : Cond.instanceMethod yX4_minutesOf ∈ gW := gW_in (i := 358) (by decide +kernel) rfl
theorem w_s_X4_minutesOf : Cond.selects yX4_minutesOf.cls yX4_minutesOf yX4_minutesOf ∈ gW := gW_in (i := 359) (by decide +kernel) rfl
theorem w_d_X4_minutesOf : yX4_minutesOf.cls ≠ "java/lang/invoke/MethodHandle" ∧ yX4_minutesOf.cls ≠ "java/lang/invoke/VarHandle" ∧ (parseMethodDescriptor yX4_minutesOf.desc).map (fun d => d.parameters.length) = some 1 := by decide +kernel
theorem LBX0_136 : g_LB RX0 136 yX4_minutesOf cX4_minutesOf 2 (some .int) 1 := ⟨gW_in (i := 357) (by decide +kernel) rfl, w_ini_X4, w_c_X4_minutesOf, w_d_X4_minutesOf⟩
theorem LX0_136 : g_LV RX0 136 yX4_minutesOf cX4_minutesOf 2 (some .int) 1 4 := ⟨LBX0_136, w_i_X4_minutesOf, w_s_X4_minutesOf, _, _, rfl⟩
theorem w_c_X4_isPitch : Cond.code yX4_isPitch cX4_isPitch 2 (some .boolean) ∈ gW := gW_in (i := 486) (by decide +kernel) rfl
theorem w_i_X4_isPitch : Cond.instanceMethod yX4_isPitch ∈ gW := gW_in (i := 484) (by decide +kernel) rfl
theorem w_s_X4_isPitch : Cond.selects yX4_isPitch.cls yX4_isPitch yX4_isPitch ∈ gW := gW_in (i := 485) (by decide +kernel) rfl
theorem w_d_X4_isPitch : yX4_isPitch.cls ≠ "java/lang/invoke/MethodHandle" ∧ yX4_isPitch.cls ≠ "java/lang/invoke/VarHandle" ∧ (parseMethodDescriptor yX4_isPitch.desc).map (fun d => d.parameters.length) = some 1 := by decide +kernel
theorem LBX0_139 : g_LB RX0 139 yX4_isPitch cX4_isPitch 2 (some .boolean) 1 := ⟨gW_in (i := 483) (by decide +kernel) rfl, w_ini_X4, w_c_X4_isPitch, w_d_X4_isPitch⟩
theorem LX0_139 : g_LV RX0 139 yX4_isPitch cX4_isPitch 2 (some .boolean) 1 4 := ⟨LBX0_139, w_i_X4_isPitch, w_s_X4_isPitch, _, _, rfl⟩
theorem w_c_X0_isInTime : Cond.code yX0_isInTime cX0_isInTime 4 (some .boolean) ∈ gW := gW_in (i := 364) (by decide +kernel) rfl
theorem w_i_X0_isInTime : Cond.instanceMethod yX0_isInTime ∈ gW := gW_in (i := 362) (by decide +kernel) rfl
theorem w_s_X0_isInTime : Cond.selects yX0_isInTime.cls yX0_isInTime yX0_isInTime ∈ gW := gW_in (i := 363) (by decide +kernel) rfl
theorem w_d_X0_isInTime : yX0_isInTime.cls ≠ "java/lang/invoke/MethodHandle" ∧ yX0_isInTime.cls ≠ "java/lang/invoke/VarHandle" ∧ (parseMethodDescriptor yX0_isInTime.desc).map (fun d => d.parameters.length) = some 3 := by decide +kernel
theorem LBX0_145 : g_LB RX0 145 yX0_isInTime cX0_isInTime 4 (some .boolean) 3 := ⟨gW_in (i := 361) (by decide +kernel) rfl, w_ini_X0, w_c_X0_isInTime, w_d_X0_isInTime⟩
theorem LX0_145 : g_LV RX0 145 yX0_isInTime cX0_isInTime 4 (some .boolean) 3 0 := ⟨LBX0_145, w_i_X0_isInTime, w_s_X0_isInTime, _, _, rfl⟩
theorem w_c_X0_isStanding : Cond.code yX0_isStanding cX0_isStanding 2 (some .boolean) ∈ gW := gW_in (i := 478) (by decide +kernel) rfl
theorem w_i_X0_isStanding : Cond.instanceMethod yX0_isStanding ∈ gW := gW_in (i := 476) (by decide +kernel) rfl
theorem w_s_X0_isStanding : Cond.selects yX0_isStanding.cls yX0_isStanding yX0_isStanding ∈ gW := gW_in (i := 477) (by decide +kernel) rfl
theorem w_d_X0_isStanding : yX0_isStanding.cls ≠ "java/lang/invoke/MethodHandle" ∧ yX0_isStanding.cls ≠ "java/lang/invoke/VarHandle" ∧ (parseMethodDescriptor yX0_isStanding.desc).map (fun d => d.parameters.length) = some 1 := by decide +kernel
theorem LBX0_149 : g_LB RX0 149 yX0_isStanding cX0_isStanding 2 (some .boolean) 1 := ⟨gW_in (i := 475) (by decide +kernel) rfl, w_ini_X0, w_c_X0_isStanding, w_d_X0_isStanding⟩
theorem LX0_149 : g_LV RX0 149 yX0_isStanding cX0_isStanding 2 (some .boolean) 1 0 := ⟨LBX0_149, w_i_X0_isStanding, w_s_X0_isStanding, _, _, rfl⟩
theorem w_c_X0_refusal : Cond.code yX0_refusal cX0_refusal 8 (some .int) ∈ gW := gW_in (i := 482) (by decide +kernel) rfl
theorem w_i_X0_refusal : Cond.instanceMethod yX0_refusal ∈ gW := gW_in (i := 480) (by decide +kernel) rfl
theorem w_s_X0_refusal : Cond.selects yX0_refusal.cls yX0_refusal yX0_refusal ∈ gW := gW_in (i := 481) (by decide +kernel) rfl
theorem w_d_X0_refusal : yX0_refusal.cls ≠ "java/lang/invoke/MethodHandle" ∧ yX0_refusal.cls ≠ "java/lang/invoke/VarHandle" ∧ (parseMethodDescriptor yX0_refusal.desc).map (fun d => d.parameters.length) = some 2 := by decide +kernel
theorem LBX0_152 : g_LB RX0 152 yX0_refusal cX0_refusal 8 (some .int) 2 := ⟨gW_in (i := 479) (by decide +kernel) rfl, w_ini_X0, w_c_X0_refusal, w_d_X0_refusal⟩
theorem LX0_152 : g_LV RX0 152 yX0_refusal cX0_refusal 8 (some .int) 2 0 := ⟨LBX0_152, w_i_X0_refusal, w_s_X0_refusal, _, _, rfl⟩
theorem w_c_J9_min_7cf53 : Cond.code yJ9_min_7cf53 cJ9_min_7cf53 2 (some .int) ∈ gW := gW_in (i := 565) (by decide +kernel) rfl
theorem w_t_J9_min_7cf53 : Cond.static yJ9_min_7cf53 ∈ gW := gW_in (i := 564) (by decide +kernel) rfl
theorem w_d_J9_min_7cf53 : yJ9_min_7cf53.cls ≠ "java/lang/invoke/MethodHandle" ∧ yJ9_min_7cf53.cls ≠ "java/lang/invoke/VarHandle" ∧ (parseMethodDescriptor yJ9_min_7cf53.desc).map (fun d => d.parameters.length) = some 2 := by decide +kernel
theorem LBX0_156 : g_LB RX0 156 yJ9_min_7cf53 cJ9_min_7cf53 2 (some .int) 2 := ⟨gW_in (i := 563) (by decide +kernel) rfl, w_ini_J9, w_c_J9_min_7cf53, w_d_J9_min_7cf53⟩
theorem LX0_156 : g_LS RX0 156 yJ9_min_7cf53 cJ9_min_7cf53 2 (some .int) 2 := ⟨LBX0_156, w_t_J9_min_7cf53⟩
theorem w_c_X1_walkTo : Cond.code yX1_walkTo cX1_walkTo 3 none ∈ gW := gW_in (i := 569) (by decide +kernel) rfl
theorem w_i_X1_walkTo : Cond.instanceMethod yX1_walkTo ∈ gW := gW_in (i := 567) (by decide +kernel) rfl
theorem w_s_X1_walkTo : Cond.selects yX1_walkTo.cls yX1_walkTo yX1_walkTo ∈ gW := gW_in (i := 568) (by decide +kernel) rfl
theorem w_d_X1_walkTo : yX1_walkTo.cls ≠ "java/lang/invoke/MethodHandle" ∧ yX1_walkTo.cls ≠ "java/lang/invoke/VarHandle" ∧ (parseMethodDescriptor yX1_walkTo.desc).map (fun d => d.parameters.length) = some 2 := by decide +kernel
theorem LBX0_162 : g_LB RX0 162 yX1_walkTo cX1_walkTo 3 none 2 := ⟨gW_in (i := 566) (by decide +kernel) rfl, w_ini_X1, w_c_X1_walkTo, w_d_X1_walkTo⟩
theorem LX0_162 : g_LV RX0 162 yX1_walkTo cX1_walkTo 3 none 2 1 := ⟨LBX0_162, w_i_X1_walkTo, w_s_X1_walkTo, _, _, rfl⟩
theorem w_c_X5_liesAt : Cond.code yX5_liesAt cX5_liesAt 3 (some .boolean) ∈ gW := gW_in (i := 494) (by decide +kernel) rfl
theorem w_i_X5_liesAt : Cond.instanceMethod yX5_liesAt ∈ gW := gW_in (i := 492) (by decide +kernel) rfl
theorem w_s_X5_liesAt : Cond.selects yX5_liesAt.cls yX5_liesAt yX5_liesAt ∈ gW := gW_in (i := 493) (by decide +kernel) rfl
theorem w_d_X5_liesAt : yX5_liesAt.cls ≠ "java/lang/invoke/MethodHandle" ∧ yX5_liesAt.cls ≠ "java/lang/invoke/VarHandle" ∧ (parseMethodDescriptor yX5_liesAt.desc).map (fun d => d.parameters.length) = some 2 := by decide +kernel
theorem LBX0_169 : g_LB RX0 169 yX5_liesAt cX5_liesAt 3 (some .boolean) 2 := ⟨gW_in (i := 491) (by decide +kernel) rfl, w_ini_X5, w_c_X5_liesAt, w_d_X5_liesAt⟩
theorem LX0_169 : g_LV RX0 169 yX5_liesAt cX5_liesAt 3 (some .boolean) 2 5 := ⟨LBX0_169, w_i_X5_liesAt, w_s_X5_liesAt, _, _, rfl⟩
theorem w_c_X5_put : Cond.code yX5_put cX5_put 4 none ∈ gW := gW_in (i := 577) (by decide +kernel) rfl
theorem w_i_X5_put : Cond.instanceMethod yX5_put ∈ gW := gW_in (i := 575) (by decide +kernel) rfl
theorem w_s_X5_put : Cond.selects yX5_put.cls yX5_put yX5_put ∈ gW := gW_in (i := 576) (by decide +kernel) rfl
theorem w_d_X5_put : yX5_put.cls ≠ "java/lang/invoke/MethodHandle" ∧ yX5_put.cls ≠ "java/lang/invoke/VarHandle" ∧ (parseMethodDescriptor yX5_put.desc).map (fun d => d.parameters.length) = some 3 := by decide +kernel
theorem LBX0_173 : g_LB RX0 173 yX5_put cX5_put 4 none 3 := ⟨gW_in (i := 574) (by decide +kernel) rfl, w_ini_X5, w_c_X5_put, w_d_X5_put⟩
theorem LX0_173 : g_LV RX0 173 yX5_put cX5_put 4 none 3 5 := ⟨LBX0_173, w_i_X5_put, w_s_X5_put, _, _, rfl⟩
theorem w_c_X0_canLay : Cond.code yX0_canLay cX0_canLay 2 (some .boolean) ∈ gW := gW_in (i := 506) (by decide +kernel) rfl
theorem w_i_X0_canLay : Cond.instanceMethod yX0_canLay ∈ gW := gW_in (i := 504) (by decide +kernel) rfl
theorem w_s_X0_canLay : Cond.selects yX0_canLay.cls yX0_canLay yX0_canLay ∈ gW := gW_in (i := 505) (by decide +kernel) rfl
theorem w_d_X0_canLay : yX0_canLay.cls ≠ "java/lang/invoke/MethodHandle" ∧ yX0_canLay.cls ≠ "java/lang/invoke/VarHandle" ∧ (parseMethodDescriptor yX0_canLay.desc).map (fun d => d.parameters.length) = some 1 := by decide +kernel
theorem LBX0_177 : g_LB RX0 177 yX0_canLay cX0_canLay 2 (some .boolean) 1 := ⟨gW_in (i := 503) (by decide +kernel) rfl, w_ini_X0, w_c_X0_canLay, w_d_X0_canLay⟩
theorem LX0_177 : g_LV RX0 177 yX0_canLay cX0_canLay 2 (some .boolean) 1 0 := ⟨LBX0_177, w_i_X0_canLay, w_s_X0_canLay, _, _, rfl⟩
theorem w_c_X4_dropOf : Cond.code yX4_dropOf cX4_dropOf 2 (some .int) ∈ gW := gW_in (i := 518) (by decide +kernel) rfl
theorem w_i_X4_dropOf : Cond.instanceMethod yX4_dropOf ∈ gW := gW_in (i := 516) (by decide +kernel) rfl
theorem w_s_X4_dropOf : Cond.selects yX4_dropOf.cls yX4_dropOf yX4_dropOf ∈ gW := gW_in (i := 517) (by decide +kernel) rfl
theorem w_d_X4_dropOf : yX4_dropOf.cls ≠ "java/lang/invoke/MethodHandle" ∧ yX4_dropOf.cls ≠ "java/lang/invoke/VarHandle" ∧ (parseMethodDescriptor yX4_dropOf.desc).map (fun d => d.parameters.length) = some 1 := by decide +kernel
theorem LBX0_180 : g_LB RX0 180 yX4_dropOf cX4_dropOf 2 (some .int) 1 := ⟨gW_in (i := 515) (by decide +kernel) rfl, w_ini_X4, w_c_X4_dropOf, w_d_X4_dropOf⟩
theorem LX0_180 : g_LV RX0 180 yX4_dropOf cX4_dropOf 2 (some .int) 1 4 := ⟨LBX0_180, w_i_X4_dropOf, w_s_X4_dropOf, _, _, rfl⟩
theorem w_c_X5_holds : Cond.code yX5_holds cX5_holds 3 (some .boolean) ∈ gW := gW_in (i := 522) (by decide +kernel) rfl
theorem w_i_X5_holds : Cond.instanceMethod yX5_holds ∈ gW := gW_in (i := 520) (by decide +kernel) rfl
theorem w_s_X5_holds : Cond.selects yX5_holds.cls yX5_holds yX5_holds ∈ gW := gW_in (i := 521) (by decide +kernel) rfl
theorem w_d_X5_holds : yX5_holds.cls ≠ "java/lang/invoke/MethodHandle" ∧ yX5_holds.cls ≠ "java/lang/invoke/VarHandle" ∧ (parseMethodDescriptor yX5_holds.desc).map (fun d => d.parameters.length) = some 2 := by decide +kernel
theorem LBX0_183 : g_LB RX0 183 yX5_holds cX5_holds 3 (some .boolean) 2 := ⟨gW_in (i := 519) (by decide +kernel) rfl, w_ini_X5, w_c_X5_holds, w_d_X5_holds⟩
theorem LX0_183 : g_LV RX0 183 yX5_holds cX5_holds 3 (some .boolean) 2 5 := ⟨LBX0_183, w_i_X5_holds, w_s_X5_holds, _, _, rfl⟩
theorem w_c_X4_fix : Cond.code yX4_fix cX4_fix 3 none ∈ gW := gW_in (i := 627) (by decide +kernel) rfl
theorem w_i_X4_fix : Cond.instanceMethod yX4_fix ∈ gW := gW_in (i := 625) (by decide +kernel) rfl
theorem w_s_X4_fix : Cond.selects yX4_fix.cls yX4_fix yX4_fix ∈ gW := gW_in (i := 626) (by decide +kernel) rfl
theorem w_d_X4_fix : yX4_fix.cls ≠ "java/lang/invoke/MethodHandle" ∧ yX4_fix.cls ≠ "java/lang/invoke/VarHandle" ∧ (parseMethodDescriptor yX4_fix.desc).map (fun d => d.parameters.length) = some 2 := by decide +kernel
theorem LBX0_189 : g_LB RX0 189 yX4_fix cX4_fix 3 none 2 := ⟨gW_in (i := 624) (by decide +kernel) rfl, w_ini_X4, w_c_X4_fix, w_d_X4_fix⟩
theorem LX0_189 : g_LV RX0 189 yX4_fix cX4_fix 3 none 2 4 := ⟨LBX0_189, w_i_X4_fix, w_s_X4_fix, _, _, rfl⟩
theorem w_c_X0_takeRope : Cond.code yX0_takeRope cX0_takeRope 3 none ∈ gW := gW_in (i := 573) (by decide +kernel) rfl
theorem w_i_X0_takeRope : Cond.instanceMethod yX0_takeRope ∈ gW := gW_in (i := 571) (by decide +kernel) rfl
theorem w_s_X0_takeRope : Cond.selects yX0_takeRope.cls yX0_takeRope yX0_takeRope ∈ gW := gW_in (i := 572) (by decide +kernel) rfl
theorem w_d_X0_takeRope : yX0_takeRope.cls ≠ "java/lang/invoke/MethodHandle" ∧ yX0_takeRope.cls ≠ "java/lang/invoke/VarHandle" ∧ (parseMethodDescriptor yX0_takeRope.desc).map (fun d => d.parameters.length) = some 2 := by decide +kernel
theorem LBX0_192 : g_LB RX0 192 yX0_takeRope cX0_takeRope 3 none 2 := ⟨gW_in (i := 927) (by decide +kernel) rfl, w_ini_X0, w_c_X0_takeRope, w_d_X0_takeRope⟩
theorem LX0_192 : g_LV RX0 192 yX0_takeRope cX0_takeRope 3 none 2 0 := ⟨LBX0_192, w_i_X0_takeRope, w_s_X0_takeRope, _, _, rfl⟩
theorem w_c_J6_bitCount_0f7a4 : Cond.code yJ6_bitCount_0f7a4 cJ6_bitCount_0f7a4 1 (some .int) ∈ gW := gW_in (i := 537) (by decide +kernel) rfl
theorem w_t_J6_bitCount_0f7a4 : Cond.static yJ6_bitCount_0f7a4 ∈ gW := gW_in (i := 536) (by decide +kernel) rfl
theorem w_d_J6_bitCount_0f7a4 : yJ6_bitCount_0f7a4.cls ≠ "java/lang/invoke/MethodHandle" ∧ yJ6_bitCount_0f7a4.cls ≠ "java/lang/invoke/VarHandle" ∧ (parseMethodDescriptor yJ6_bitCount_0f7a4.desc).map (fun d => d.parameters.length) = some 1 := by decide +kernel
theorem LBX0_195 : g_LB RX0 195 yJ6_bitCount_0f7a4 cJ6_bitCount_0f7a4 1 (some .int) 1 := ⟨gW_in (i := 535) (by decide +kernel) rfl, w_ini_J6, w_c_J6_bitCount_0f7a4, w_d_J6_bitCount_0f7a4⟩
theorem LX0_195 : g_LS RX0 195 yJ6_bitCount_0f7a4 cJ6_bitCount_0f7a4 1 (some .int) 1 := ⟨LBX0_195, w_t_J6_bitCount_0f7a4⟩
theorem w_c_X0_fitCarriers : Cond.code yX0_fitCarriers cX0_fitCarriers 5 (some .int) ∈ gW := gW_in (i := 355) (by decide +kernel) rfl
theorem w_i_X0_fitCarriers : Cond.instanceMethod yX0_fitCarriers ∈ gW := gW_in (i := 353) (by decide +kernel) rfl
theorem w_s_X0_fitCarriers : Cond.selects yX0_fitCarriers.cls yX0_fitCarriers yX0_fitCarriers ∈ gW := gW_in (i := 354) (by decide +kernel) rfl
theorem w_d_X0_fitCarriers : yX0_fitCarriers.cls ≠ "java/lang/invoke/MethodHandle" ∧ yX0_fitCarriers.cls ≠ "java/lang/invoke/VarHandle" ∧ (parseMethodDescriptor yX0_fitCarriers.desc).map (fun d => d.parameters.length) = some 0 := by decide +kernel
theorem LBX0_200 : g_LB RX0 200 yX0_fitCarriers cX0_fitCarriers 5 (some .int) 0 := ⟨gW_in (i := 545) (by decide +kernel) rfl, w_ini_X0, w_c_X0_fitCarriers, w_d_X0_fitCarriers⟩
theorem LX0_200 : g_LV RX0 200 yX0_fitCarriers cX0_fitCarriers 5 (some .int) 0 0 := ⟨LBX0_200, w_i_X0_fitCarriers, w_s_X0_fitCarriers, _, _, rfl⟩
theorem w_c_X2_add : Cond.code yX2_add cX2_add 5 none ∈ gW := gW_in (i := 601) (by decide +kernel) rfl
theorem w_i_X2_add : Cond.instanceMethod yX2_add ∈ gW := gW_in (i := 599) (by decide +kernel) rfl
theorem w_s_X2_add : Cond.selects yX2_add.cls yX2_add yX2_add ∈ gW := gW_in (i := 600) (by decide +kernel) rfl
theorem w_d_X2_add : yX2_add.cls ≠ "java/lang/invoke/MethodHandle" ∧ yX2_add.cls ≠ "java/lang/invoke/VarHandle" ∧ (parseMethodDescriptor yX2_add.desc).map (fun d => d.parameters.length) = some 3 := by decide +kernel
theorem LBX0_207 : g_LB RX0 207 yX2_add cX2_add 5 none 3 := ⟨gW_in (i := 598) (by decide +kernel) rfl, w_ini_X2, w_c_X2_add, w_d_X2_add⟩
theorem LX0_207 : g_LV RX0 207 yX2_add cX2_add 5 none 3 2 := ⟨LBX0_207, w_i_X2_add, w_s_X2_add, _, _, rfl⟩
theorem w_c_X3_add : Cond.code yX3_add cX3_add 4 none ∈ gW := gW_in (i := 589) (by decide +kernel) rfl
theorem w_i_X3_add : Cond.instanceMethod yX3_add ∈ gW := gW_in (i := 587) (by decide +kernel) rfl
theorem w_s_X3_add : Cond.selects yX3_add.cls yX3_add yX3_add ∈ gW := gW_in (i := 588) (by decide +kernel) rfl
theorem w_d_X3_add : yX3_add.cls ≠ "java/lang/invoke/MethodHandle" ∧ yX3_add.cls ≠ "java/lang/invoke/VarHandle" ∧ (parseMethodDescriptor yX3_add.desc).map (fun d => d.parameters.length) = some 3 := by decide +kernel
theorem LBX0_210 : g_LB RX0 210 yX3_add cX3_add 4 none 3 := ⟨gW_in (i := 586) (by decide +kernel) rfl, w_ini_X3, w_c_X3_add, w_d_X3_add⟩
theorem LX0_210 : g_LV RX0 210 yX3_add cX3_add 4 none 3 3 := ⟨LBX0_210, w_i_X3_add, w_s_X3_add, _, _, rfl⟩
theorem w_c_X0_letMinutePass : Cond.code yX0_letMinutePass cX0_letMinutePass 4 none ∈ gW := gW_in (i := 610) (by decide +kernel) rfl
theorem w_i_X0_letMinutePass : Cond.instanceMethod yX0_letMinutePass ∈ gW := gW_in (i := 609) (by decide +kernel) rfl
theorem w_s_X0_letMinutePass : Cond.selects yX0_letMinutePass.cls yX0_letMinutePass yX0_letMinutePass ∈ gW := gW_in (i := 15) (by decide +kernel) rfl
theorem w_d_X0_letMinutePass : yX0_letMinutePass.cls ≠ "java/lang/invoke/MethodHandle" ∧ yX0_letMinutePass.cls ≠ "java/lang/invoke/VarHandle" ∧ (parseMethodDescriptor yX0_letMinutePass.desc).map (fun d => d.parameters.length) = some 1 := by decide +kernel
theorem LBX0_212 : g_LB RX0 212 yX0_letMinutePass cX0_letMinutePass 4 none 1 := ⟨gW_in (i := 607) (by decide +kernel) rfl, w_ini_X0, w_c_X0_letMinutePass, w_d_X0_letMinutePass⟩
theorem LX0_212 : g_LV RX0 212 yX0_letMinutePass cX0_letMinutePass 4 none 1 0 := ⟨LBX0_212, w_i_X0_letMinutePass, w_s_X0_letMinutePass, _, _, rfl⟩
theorem w_c_X3_goUp : Cond.code yX3_goUp cX3_goUp 4 none ∈ gW := gW_in (i := 639) (by decide +kernel) rfl
theorem w_i_X3_goUp : Cond.instanceMethod yX3_goUp ∈ gW := gW_in (i := 637) (by decide +kernel) rfl
theorem w_s_X3_goUp : Cond.selects yX3_goUp.cls yX3_goUp yX3_goUp ∈ gW := gW_in (i := 638) (by decide +kernel) rfl
theorem w_d_X3_goUp : yX3_goUp.cls ≠ "java/lang/invoke/MethodHandle" ∧ yX3_goUp.cls ≠ "java/lang/invoke/VarHandle" ∧ (parseMethodDescriptor yX3_goUp.desc).map (fun d => d.parameters.length) = some 0 := by decide +kernel
theorem LBX0_215 : g_LB RX0 215 yX3_goUp cX3_goUp 4 none 0 := ⟨gW_in (i := 636) (by decide +kernel) rfl, w_ini_X3, w_c_X3_goUp, w_d_X3_goUp⟩
theorem LX0_215 : g_LV RX0 215 yX3_goUp cX3_goUp 4 none 0 3 := ⟨LBX0_215, w_i_X3_goUp, w_s_X3_goUp, _, _, rfl⟩
theorem w_c_X0_startWalk : Cond.code yX0_startWalk cX0_startWalk 5 (some .int) ∈ gW := gW_in (i := 562) (by decide +kernel) rfl
theorem w_i_X0_startWalk : Cond.instanceMethod yX0_startWalk ∈ gW := gW_in (i := 560) (by decide +kernel) rfl
theorem w_s_X0_startWalk : Cond.selects yX0_startWalk.cls yX0_startWalk yX0_startWalk ∈ gW := gW_in (i := 561) (by decide +kernel) rfl
theorem w_d_X0_startWalk : yX0_startWalk.cls ≠ "java/lang/invoke/MethodHandle" ∧ yX0_startWalk.cls ≠ "java/lang/invoke/VarHandle" ∧ (parseMethodDescriptor yX0_startWalk.desc).map (fun d => d.parameters.length) = some 2 := by decide +kernel
theorem LBX0_218 : g_LB RX0 218 yX0_startWalk cX0_startWalk 5 (some .int) 2 := ⟨gW_in (i := 611) (by decide +kernel) rfl, w_ini_X0, w_c_X0_startWalk, w_d_X0_startWalk⟩
theorem LX0_218 : g_LV RX0 218 yX0_startWalk cX0_startWalk 5 (some .int) 2 0 := ⟨LBX0_218, w_i_X0_startWalk, w_s_X0_startWalk, _, _, rfl⟩
theorem w_c_X0_walkOn : Cond.code yX0_walkOn cX0_walkOn 3 none ∈ gW := gW_in (i := 615) (by decide +kernel) rfl
theorem w_i_X0_walkOn : Cond.instanceMethod yX0_walkOn ∈ gW := gW_in (i := 614) (by decide +kernel) rfl
theorem w_s_X0_walkOn : Cond.selects yX0_walkOn.cls yX0_walkOn yX0_walkOn ∈ gW := gW_in (i := 16) (by decide +kernel) rfl
theorem w_d_X0_walkOn : yX0_walkOn.cls ≠ "java/lang/invoke/MethodHandle" ∧ yX0_walkOn.cls ≠ "java/lang/invoke/VarHandle" ∧ (parseMethodDescriptor yX0_walkOn.desc).map (fun d => d.parameters.length) = some 1 := by decide +kernel
theorem LBX0_221 : g_LB RX0 221 yX0_walkOn cX0_walkOn 3 none 1 := ⟨gW_in (i := 612) (by decide +kernel) rfl, w_ini_X0, w_c_X0_walkOn, w_d_X0_walkOn⟩
theorem LX0_221 : g_LV RX0 221 yX0_walkOn cX0_walkOn 3 none 1 0 := ⟨LBX0_221, w_i_X0_walkOn, w_s_X0_walkOn, _, _, rfl⟩
theorem w_c_X0_rigOn : Cond.code yX0_rigOn cX0_rigOn 2 none ∈ gW := gW_in (i := 623) (by decide +kernel) rfl
theorem w_i_X0_rigOn : Cond.instanceMethod yX0_rigOn ∈ gW := gW_in (i := 622) (by decide +kernel) rfl
theorem w_s_X0_rigOn : Cond.selects yX0_rigOn.cls yX0_rigOn yX0_rigOn ∈ gW := gW_in (i := 17) (by decide +kernel) rfl
theorem w_d_X0_rigOn : yX0_rigOn.cls ≠ "java/lang/invoke/MethodHandle" ∧ yX0_rigOn.cls ≠ "java/lang/invoke/VarHandle" ∧ (parseMethodDescriptor yX0_rigOn.desc).map (fun d => d.parameters.length) = some 1 := by decide +kernel
theorem LBX0_224 : g_LB RX0 224 yX0_rigOn cX0_rigOn 2 none 1 := ⟨gW_in (i := 620) (by decide +kernel) rfl, w_ini_X0, w_c_X0_rigOn, w_d_X0_rigOn⟩
theorem LX0_224 : g_LV RX0 224 yX0_rigOn cX0_rigOn 2 none 1 0 := ⟨LBX0_224, w_i_X0_rigOn, w_s_X0_rigOn, _, _, rfl⟩
theorem w_c_X1_countBelow : Cond.code yX1_countBelow cX1_countBelow 1 (some .boolean) ∈ gW := gW_in (i := 631) (by decide +kernel) rfl
theorem w_i_X1_countBelow : Cond.instanceMethod yX1_countBelow ∈ gW := gW_in (i := 629) (by decide +kernel) rfl
theorem w_s_X1_countBelow : Cond.selects yX1_countBelow.cls yX1_countBelow yX1_countBelow ∈ gW := gW_in (i := 630) (by decide +kernel) rfl
theorem w_d_X1_countBelow : yX1_countBelow.cls ≠ "java/lang/invoke/MethodHandle" ∧ yX1_countBelow.cls ≠ "java/lang/invoke/VarHandle" ∧ (parseMethodDescriptor yX1_countBelow.desc).map (fun d => d.parameters.length) = some 0 := by decide +kernel
theorem LBX0_227 : g_LB RX0 227 yX1_countBelow cX1_countBelow 1 (some .boolean) 0 := ⟨gW_in (i := 628) (by decide +kernel) rfl, w_ini_X1, w_c_X1_countBelow, w_d_X1_countBelow⟩
theorem LX0_227 : g_LV RX0 227 yX1_countBelow cX1_countBelow 1 (some .boolean) 0 1 := ⟨LBX0_227, w_i_X1_countBelow, w_s_X1_countBelow, _, _, rfl⟩
theorem w_c_X1_arrive : Cond.code yX1_arrive cX1_arrive 1 none ∈ gW := gW_in (i := 619) (by decide +kernel) rfl
theorem w_i_X1_arrive : Cond.instanceMethod yX1_arrive ∈ gW := gW_in (i := 617) (by decide +kernel) rfl
theorem w_s_X1_arrive : Cond.selects yX1_arrive.cls yX1_arrive yX1_arrive ∈ gW := gW_in (i := 618) (by decide +kernel) rfl
theorem w_d_X1_arrive : yX1_arrive.cls ≠ "java/lang/invoke/MethodHandle" ∧ yX1_arrive.cls ≠ "java/lang/invoke/VarHandle" ∧ (parseMethodDescriptor yX1_arrive.desc).map (fun d => d.parameters.length) = some 0 := by decide +kernel
theorem LBX0_234 : g_LB RX0 234 yX1_arrive cX1_arrive 1 none 0 := ⟨gW_in (i := 616) (by decide +kernel) rfl, w_ini_X1, w_c_X1_arrive, w_d_X1_arrive⟩
theorem LX0_234 : g_LV RX0 234 yX1_arrive cX1_arrive 1 none 0 1 := ⟨LBX0_234, w_i_X1_arrive, w_s_X1_arrive, _, _, rfl⟩
theorem w_c_X4_isOpenUp : Cond.code yX4_isOpenUp cX4_isOpenUp 3 (some .boolean) ∈ gW := gW_in (i := 335) (by decide +kernel) rfl
theorem w_i_X4_isOpenUp : Cond.instanceMethod yX4_isOpenUp ∈ gW := gW_in (i := 333) (by decide +kernel) rfl
theorem w_s_X4_isOpenUp : Cond.selects yX4_isOpenUp.cls yX4_isOpenUp yX4_isOpenUp ∈ gW := gW_in (i := 334) (by decide +kernel) rfl
theorem w_d_X4_isOpenUp : yX4_isOpenUp.cls ≠ "java/lang/invoke/MethodHandle" ∧ yX4_isOpenUp.cls ≠ "java/lang/invoke/VarHandle" ∧ (parseMethodDescriptor yX4_isOpenUp.desc).map (fun d => d.parameters.length) = some 1 := by decide +kernel
theorem LBX0_237 : g_LB RX0 237 yX4_isOpenUp cX4_isOpenUp 3 (some .boolean) 1 := ⟨gW_in (i := 1016) (by decide +kernel) rfl, w_ini_X4, w_c_X4_isOpenUp, w_d_X4_isOpenUp⟩
theorem LX0_237 : g_LV RX0 237 yX4_isOpenUp cX4_isOpenUp 3 (some .boolean) 1 4 := ⟨LBX0_237, w_i_X4_isOpenUp, w_s_X4_isOpenUp, _, _, rfl⟩
theorem w_c_X0_wayUpOf : Cond.code yX0_wayUpOf cX0_wayUpOf 2 (some .int) ∈ gW := gW_in (i := 1015) (by decide +kernel) rfl
theorem w_i_X0_wayUpOf : Cond.instanceMethod yX0_wayUpOf ∈ gW := gW_in (i := 1013) (by decide +kernel) rfl
theorem w_s_X0_wayUpOf : Cond.selects yX0_wayUpOf.cls yX0_wayUpOf yX0_wayUpOf ∈ gW := gW_in (i := 1014) (by decide +kernel) rfl
theorem w_d_X0_wayUpOf : yX0_wayUpOf.cls ≠ "java/lang/invoke/MethodHandle" ∧ yX0_wayUpOf.cls ≠ "java/lang/invoke/VarHandle" ∧ (parseMethodDescriptor yX0_wayUpOf.desc).map (fun d => d.parameters.length) = some 1 := by decide +kernel
theorem LBX0_240 : g_LB RX0 240 yX0_wayUpOf cX0_wayUpOf 2 (some .int) 1 := ⟨gW_in (i := 1028) (by decide +kernel) rfl, w_ini_X0, w_c_X0_wayUpOf, w_d_X0_wayUpOf⟩
theorem LX0_240 : g_LV RX0 240 yX0_wayUpOf cX0_wayUpOf 2 (some .int) 1 0 := ⟨LBX0_240, w_i_X0_wayUpOf, w_s_X0_wayUpOf, _, _, rfl⟩
theorem w_c_J9_max_7cf53 : Cond.code yJ9_max_7cf53 cJ9_max_7cf53 2 (some .int) ∈ gW := gW_in (i := 1031) (by decide +kernel) rfl
theorem w_t_J9_max_7cf53 : Cond.static yJ9_max_7cf53 ∈ gW := gW_in (i := 1030) (by decide +kernel) rfl
theorem w_d_J9_max_7cf53 : yJ9_max_7cf53.cls ≠ "java/lang/invoke/MethodHandle" ∧ yJ9_max_7cf53.cls ≠ "java/lang/invoke/VarHandle" ∧ (parseMethodDescriptor yJ9_max_7cf53.desc).map (fun d => d.parameters.length) = some 2 := by decide +kernel
theorem LBX0_244 : g_LB RX0 244 yJ9_max_7cf53 cJ9_max_7cf53 2 (some .int) 2 := ⟨gW_in (i := 1029) (by decide +kernel) rfl, w_ini_J9, w_c_J9_max_7cf53, w_d_J9_max_7cf53⟩
theorem LX0_244 : g_LS RX0 244 yJ9_max_7cf53 cJ9_max_7cf53 2 (some .int) 2 := ⟨LBX0_244, w_t_J9_max_7cf53⟩
theorem w_c_X1_isBelow : Cond.code yX1_isBelow cX1_isBelow 1 (some .boolean) ∈ gW := gW_in (i := 635) (by decide +kernel) rfl
theorem w_i_X1_isBelow : Cond.instanceMethod yX1_isBelow ∈ gW := gW_in (i := 633) (by decide +kernel) rfl
theorem w_s_X1_isBelow : Cond.selects yX1_isBelow.cls yX1_isBelow yX1_isBelow ∈ gW := gW_in (i := 634) (by decide +kernel) rfl
theorem w_d_X1_isBelow : yX1_isBelow.cls ≠ "java/lang/invoke/MethodHandle" ∧ yX1_isBelow.cls ≠ "java/lang/invoke/VarHandle" ∧ (parseMethodDescriptor yX1_isBelow.desc).map (fun d => d.parameters.length) = some 0 := by decide +kernel
theorem LBX0_247 : g_LB RX0 247 yX1_isBelow cX1_isBelow 1 (some .boolean) 0 := ⟨gW_in (i := 659) (by decide +kernel) rfl, w_ini_X1, w_c_X1_isBelow, w_d_X1_isBelow⟩
theorem LX0_247 : g_LV RX0 247 yX1_isBelow cX1_isBelow 1 (some .boolean) 0 1 := ⟨LBX0_247, w_i_X1_isBelow, w_s_X1_isBelow, _, _, rfl⟩
theorem w_c_X0_countOfBelow : Cond.code yX0_countOfBelow cX0_countOfBelow 3 (some .int) ∈ gW := gW_in (i := 658) (by decide +kernel) rfl
theorem w_i_X0_countOfBelow : Cond.instanceMethod yX0_countOfBelow ∈ gW := gW_in (i := 657) (by decide +kernel) rfl
theorem w_s_X0_countOfBelow : Cond.selects yX0_countOfBelow.cls yX0_countOfBelow yX0_countOfBelow ∈ gW := gW_in (i := 18) (by decide +kernel) rfl
theorem w_d_X0_countOfBelow : yX0_countOfBelow.cls ≠ "java/lang/invoke/MethodHandle" ∧ yX0_countOfBelow.cls ≠ "java/lang/invoke/VarHandle" ∧ (parseMethodDescriptor yX0_countOfBelow.desc).map (fun d => d.parameters.length) = some 0 := by decide +kernel
theorem LBX0_250 : g_LB RX0 250 yX0_countOfBelow cX0_countOfBelow 3 (some .int) 0 := ⟨gW_in (i := 655) (by decide +kernel) rfl, w_ini_X0, w_c_X0_countOfBelow, w_d_X0_countOfBelow⟩
theorem LX0_250 : g_LV RX0 250 yX0_countOfBelow cX0_countOfBelow 3 (some .int) 0 0 := ⟨LBX0_250, w_i_X0_countOfBelow, w_s_X0_countOfBelow, _, _, rfl⟩
theorem w_c_X4_countOfClosed : Cond.code yX4_countOfClosed cX4_countOfClosed 3 (some .int) ∈ gW := gW_in (i := 663) (by decide +kernel) rfl
theorem w_i_X4_countOfClosed : Cond.instanceMethod yX4_countOfClosed ∈ gW := gW_in (i := 661) (by decide +kernel) rfl
theorem w_s_X4_countOfClosed : Cond.selects yX4_countOfClosed.cls yX4_countOfClosed yX4_countOfClosed ∈ gW := gW_in (i := 662) (by decide +kernel) rfl
theorem w_d_X4_countOfClosed : yX4_countOfClosed.cls ≠ "java/lang/invoke/MethodHandle" ∧ yX4_countOfClosed.cls ≠ "java/lang/invoke/VarHandle" ∧ (parseMethodDescriptor yX4_countOfClosed.desc).map (fun d => d.parameters.length) = some 0 := by decide +kernel
theorem LBX0_253 : g_LB RX0 253 yX4_countOfClosed cX4_countOfClosed 3 (some .int) 0 := ⟨gW_in (i := 660) (by decide +kernel) rfl, w_ini_X4, w_c_X4_countOfClosed, w_d_X4_countOfClosed⟩
theorem LX0_253 : g_LV RX0 253 yX4_countOfClosed cX4_countOfClosed 3 (some .int) 0 4 := ⟨LBX0_253, w_i_X4_countOfClosed, w_s_X4_countOfClosed, _, _, rfl⟩
theorem w_c_X0_about : Cond.code yX0_about cX0_about 2 (some .int) ∈ gW := gW_in (i := 654) (by decide +kernel) rfl
theorem w_i_X0_about : Cond.instanceMethod yX0_about ∈ gW := gW_in (i := 652) (by decide +kernel) rfl
theorem w_s_X0_about : Cond.selects yX0_about.cls yX0_about yX0_about ∈ gW := gW_in (i := 653) (by decide +kernel) rfl
theorem w_d_X0_about : yX0_about.cls ≠ "java/lang/invoke/MethodHandle" ∧ yX0_about.cls ≠ "java/lang/invoke/VarHandle" ∧ (parseMethodDescriptor yX0_about.desc).map (fun d => d.parameters.length) = some 1 := by decide +kernel
theorem LBX0_258 : g_LB RX0 258 yX0_about cX0_about 2 (some .int) 1 := ⟨gW_in (i := 651) (by decide +kernel) rfl, w_ini_X0, w_c_X0_about, w_d_X0_about⟩
theorem LX0_258 : g_LV RX0 258 yX0_about cX0_about 2 (some .int) 1 0 := ⟨LBX0_258, w_i_X0_about, w_s_X0_about, _, _, rfl⟩
theorem w_c_X0_aboutPassage : Cond.code yX0_aboutPassage cX0_aboutPassage 3 (some .int) ∈ gW := gW_in (i := 667) (by decide +kernel) rfl
theorem w_i_X0_aboutPassage : Cond.instanceMethod yX0_aboutPassage ∈ gW := gW_in (i := 665) (by decide +kernel) rfl
theorem w_s_X0_aboutPassage : Cond.selects yX0_aboutPassage.cls yX0_aboutPassage yX0_aboutPassage ∈ gW := gW_in (i := 666) (by decide +kernel) rfl
theorem w_d_X0_aboutPassage : yX0_aboutPassage.cls ≠ "java/lang/invoke/MethodHandle" ∧ yX0_aboutPassage.cls ≠ "java/lang/invoke/VarHandle" ∧ (parseMethodDescriptor yX0_aboutPassage.desc).map (fun d => d.parameters.length) = some 2 := by decide +kernel
theorem LBX0_261 : g_LB RX0 261 yX0_aboutPassage cX0_aboutPassage 3 (some .int) 2 := ⟨gW_in (i := 664) (by decide +kernel) rfl, w_ini_X0, w_c_X0_aboutPassage, w_d_X0_aboutPassage⟩
theorem LX0_261 : g_LV RX0 261 yX0_aboutPassage cX0_aboutPassage 3 (some .int) 2 0 := ⟨LBX0_261, w_i_X0_aboutPassage, w_s_X0_aboutPassage, _, _, rfl⟩
theorem w_c_X5_about : Cond.code yX5_about cX5_about 3 (some .int) ∈ gW := gW_in (i := 680) (by decide +kernel) rfl
theorem w_i_X5_about : Cond.instanceMethod yX5_about ∈ gW := gW_in (i := 678) (by decide +kernel) rfl
theorem w_s_X5_about : Cond.selects yX5_about.cls yX5_about yX5_about ∈ gW := gW_in (i := 679) (by decide +kernel) rfl
theorem w_d_X5_about : yX5_about.cls ≠ "java/lang/invoke/MethodHandle" ∧ yX5_about.cls ≠ "java/lang/invoke/VarHandle" ∧ (parseMethodDescriptor yX5_about.desc).map (fun d => d.parameters.length) = some 2 := by decide +kernel
theorem LBX0_264 : g_LB RX0 264 yX5_about cX5_about 3 (some .int) 2 := ⟨gW_in (i := 677) (by decide +kernel) rfl, w_ini_X5, w_c_X5_about, w_d_X5_about⟩
theorem LX0_264 : g_LV RX0 264 yX5_about cX5_about 3 (some .int) 2 5 := ⟨LBX0_264, w_i_X5_about, w_s_X5_about, _, _, rfl⟩
theorem w_c_X1_about : Cond.code yX1_about cX1_about 2 (some .int) ∈ gW := gW_in (i := 684) (by decide +kernel) rfl
theorem w_i_X1_about : Cond.instanceMethod yX1_about ∈ gW := gW_in (i := 682) (by decide +kernel) rfl
theorem w_s_X1_about : Cond.selects yX1_about.cls yX1_about yX1_about ∈ gW := gW_in (i := 683) (by decide +kernel) rfl
theorem w_d_X1_about : yX1_about.cls ≠ "java/lang/invoke/MethodHandle" ∧ yX1_about.cls ≠ "java/lang/invoke/VarHandle" ∧ (parseMethodDescriptor yX1_about.desc).map (fun d => d.parameters.length) = some 1 := by decide +kernel
theorem LBX0_266 : g_LB RX0 266 yX1_about cX1_about 2 (some .int) 1 := ⟨gW_in (i := 681) (by decide +kernel) rfl, w_ini_X1, w_c_X1_about, w_d_X1_about⟩
theorem LX0_266 : g_LV RX0 266 yX1_about cX1_about 2 (some .int) 1 1 := ⟨LBX0_266, w_i_X1_about, w_s_X1_about, _, _, rfl⟩
theorem w_c_X3_about : Cond.code yX3_about cX3_about 3 (some .int) ∈ gW := gW_in (i := 688) (by decide +kernel) rfl
theorem w_i_X3_about : Cond.instanceMethod yX3_about ∈ gW := gW_in (i := 686) (by decide +kernel) rfl
theorem w_s_X3_about : Cond.selects yX3_about.cls yX3_about yX3_about ∈ gW := gW_in (i := 687) (by decide +kernel) rfl
theorem w_d_X3_about : yX3_about.cls ≠ "java/lang/invoke/MethodHandle" ∧ yX3_about.cls ≠ "java/lang/invoke/VarHandle" ∧ (parseMethodDescriptor yX3_about.desc).map (fun d => d.parameters.length) = some 2 := by decide +kernel
theorem LBX0_267 : g_LB RX0 267 yX3_about cX3_about 3 (some .int) 2 := ⟨gW_in (i := 685) (by decide +kernel) rfl, w_ini_X3, w_c_X3_about, w_d_X3_about⟩
theorem LX0_267 : g_LV RX0 267 yX3_about cX3_about 3 (some .int) 2 3 := ⟨LBX0_267, w_i_X3_about, w_s_X3_about, _, _, rfl⟩
theorem w_c_X2_about : Cond.code yX2_about cX2_about 3 (some .int) ∈ gW := gW_in (i := 692) (by decide +kernel) rfl
theorem w_i_X2_about : Cond.instanceMethod yX2_about ∈ gW := gW_in (i := 690) (by decide +kernel) rfl
theorem w_s_X2_about : Cond.selects yX2_about.cls yX2_about yX2_about ∈ gW := gW_in (i := 691) (by decide +kernel) rfl
theorem w_d_X2_about : yX2_about.cls ≠ "java/lang/invoke/MethodHandle" ∧ yX2_about.cls ≠ "java/lang/invoke/VarHandle" ∧ (parseMethodDescriptor yX2_about.desc).map (fun d => d.parameters.length) = some 2 := by decide +kernel
theorem LBX0_268 : g_LB RX0 268 yX2_about cX2_about 3 (some .int) 2 := ⟨gW_in (i := 689) (by decide +kernel) rfl, w_ini_X2, w_c_X2_about, w_d_X2_about⟩
theorem LX0_268 : g_LV RX0 268 yX2_about cX2_about 3 (some .int) 2 2 := ⟨LBX0_268, w_i_X2_about, w_s_X2_about, _, _, rfl⟩
theorem w_c_X4_startAnew : Cond.code yX4_startAnew cX4_startAnew 3 none ∈ gW := gW_in (i := 783) (by decide +kernel) rfl
theorem w_i_X4_startAnew : Cond.instanceMethod yX4_startAnew ∈ gW := gW_in (i := 781) (by decide +kernel) rfl
theorem w_s_X4_startAnew : Cond.selects yX4_startAnew.cls yX4_startAnew yX4_startAnew ∈ gW := gW_in (i := 782) (by decide +kernel) rfl
theorem w_d_X4_startAnew : yX4_startAnew.cls ≠ "java/lang/invoke/MethodHandle" ∧ yX4_startAnew.cls ≠ "java/lang/invoke/VarHandle" ∧ (parseMethodDescriptor yX4_startAnew.desc).map (fun d => d.parameters.length) = some 1 := by decide +kernel
theorem LBX0_69 : g_LB RX0 69 yX4_startAnew cX4_startAnew 3 none 1 := ⟨gW_in (i := 780) (by decide +kernel) rfl, w_ini_X4, w_c_X4_startAnew, w_d_X4_startAnew⟩
theorem LX0_69 : g_LV RX0 69 yX4_startAnew cX4_startAnew 3 none 1 4 := ⟨LBX0_69, w_i_X4_startAnew, w_s_X4_startAnew, _, _, rfl⟩
theorem w_c_X4_copyFrom : Cond.code yX4_copyFrom cX4_copyFrom 3 none ∈ gW := gW_in (i := 448) (by decide +kernel) rfl
theorem w_i_X4_copyFrom : Cond.instanceMethod yX4_copyFrom ∈ gW := gW_in (i := 446) (by decide +kernel) rfl
theorem w_s_X4_copyFrom : Cond.selects yX4_copyFrom.cls yX4_copyFrom yX4_copyFrom ∈ gW := gW_in (i := 447) (by decide +kernel) rfl
theorem w_d_X4_copyFrom : yX4_copyFrom.cls ≠ "java/lang/invoke/MethodHandle" ∧ yX4_copyFrom.cls ≠ "java/lang/invoke/VarHandle" ∧ (parseMethodDescriptor yX4_copyFrom.desc).map (fun d => d.parameters.length) = some 1 := by decide +kernel
theorem LBX0_86 : g_LB RX0 86 yX4_copyFrom cX4_copyFrom 3 none 1 := ⟨gW_in (i := 445) (by decide +kernel) rfl, w_ini_X4, w_c_X4_copyFrom, w_d_X4_copyFrom⟩
theorem LX0_86 : g_LV RX0 86 yX4_copyFrom cX4_copyFrom 3 none 1 4 := ⟨LBX0_86, w_i_X4_copyFrom, w_s_X4_copyFrom, _, _, rfl⟩
theorem w_c_X5_copyFrom : Cond.code yX5_copyFrom cX5_copyFrom 3 none ∈ gW := gW_in (i := 452) (by decide +kernel) rfl
theorem w_i_X5_copyFrom : Cond.instanceMethod yX5_copyFrom ∈ gW := gW_in (i := 450) (by decide +kernel) rfl
theorem w_s_X5_copyFrom : Cond.selects yX5_copyFrom.cls yX5_copyFrom yX5_copyFrom ∈ gW := gW_in (i := 451) (by decide +kernel) rfl
theorem w_d_X5_copyFrom : yX5_copyFrom.cls ≠ "java/lang/invoke/MethodHandle" ∧ yX5_copyFrom.cls ≠ "java/lang/invoke/VarHandle" ∧ (parseMethodDescriptor yX5_copyFrom.desc).map (fun d => d.parameters.length) = some 1 := by decide +kernel
theorem LBX0_90 : g_LB RX0 90 yX5_copyFrom cX5_copyFrom 3 none 1 := ⟨gW_in (i := 449) (by decide +kernel) rfl, w_ini_X5, w_c_X5_copyFrom, w_d_X5_copyFrom⟩
theorem LX0_90 : g_LV RX0 90 yX5_copyFrom cX5_copyFrom 3 none 1 5 := ⟨LBX0_90, w_i_X5_copyFrom, w_s_X5_copyFrom, _, _, rfl⟩
theorem w_c_X1_copyFrom : Cond.code yX1_copyFrom cX1_copyFrom 2 none ∈ gW := gW_in (i := 456) (by decide +kernel) rfl
theorem w_i_X1_copyFrom : Cond.instanceMethod yX1_copyFrom ∈ gW := gW_in (i := 454) (by decide +kernel) rfl
theorem w_s_X1_copyFrom : Cond.selects yX1_copyFrom.cls yX1_copyFrom yX1_copyFrom ∈ gW := gW_in (i := 455) (by decide +kernel) rfl
theorem w_d_X1_copyFrom : yX1_copyFrom.cls ≠ "java/lang/invoke/MethodHandle" ∧ yX1_copyFrom.cls ≠ "java/lang/invoke/VarHandle" ∧ (parseMethodDescriptor yX1_copyFrom.desc).map (fun d => d.parameters.length) = some 1 := by decide +kernel
theorem LBX0_93 : g_LB RX0 93 yX1_copyFrom cX1_copyFrom 2 none 1 := ⟨gW_in (i := 453) (by decide +kernel) rfl, w_ini_X1, w_c_X1_copyFrom, w_d_X1_copyFrom⟩
theorem LX0_93 : g_LV RX0 93 yX1_copyFrom cX1_copyFrom 2 none 1 1 := ⟨LBX0_93, w_i_X1_copyFrom, w_s_X1_copyFrom, _, _, rfl⟩
theorem w_c_X3_copyFrom : Cond.code yX3_copyFrom cX3_copyFrom 3 none ∈ gW := gW_in (i := 460) (by decide +kernel) rfl
theorem w_i_X3_copyFrom : Cond.instanceMethod yX3_copyFrom ∈ gW := gW_in (i := 458) (by decide +kernel) rfl
theorem w_s_X3_copyFrom : Cond.selects yX3_copyFrom.cls yX3_copyFrom yX3_copyFrom ∈ gW := gW_in (i := 459) (by decide +kernel) rfl
theorem w_d_X3_copyFrom : yX3_copyFrom.cls ≠ "java/lang/invoke/MethodHandle" ∧ yX3_copyFrom.cls ≠ "java/lang/invoke/VarHandle" ∧ (parseMethodDescriptor yX3_copyFrom.desc).map (fun d => d.parameters.length) = some 1 := by decide +kernel
theorem LBX0_96 : g_LB RX0 96 yX3_copyFrom cX3_copyFrom 3 none 1 := ⟨gW_in (i := 457) (by decide +kernel) rfl, w_ini_X3, w_c_X3_copyFrom, w_d_X3_copyFrom⟩
theorem LX0_96 : g_LV RX0 96 yX3_copyFrom cX3_copyFrom 3 none 1 3 := ⟨LBX0_96, w_i_X3_copyFrom, w_s_X3_copyFrom, _, _, rfl⟩
theorem w_c_X2_copyFrom : Cond.code yX2_copyFrom cX2_copyFrom 3 none ∈ gW := gW_in (i := 464) (by decide +kernel) rfl
theorem w_i_X2_copyFrom : Cond.instanceMethod yX2_copyFrom ∈ gW := gW_in (i := 462) (by decide +kernel) rfl
theorem w_s_X2_copyFrom : Cond.selects yX2_copyFrom.cls yX2_copyFrom yX2_copyFrom ∈ gW := gW_in (i := 463) (by decide +kernel) rfl
theorem w_d_X2_copyFrom : yX2_copyFrom.cls ≠ "java/lang/invoke/MethodHandle" ∧ yX2_copyFrom.cls ≠ "java/lang/invoke/VarHandle" ∧ (parseMethodDescriptor yX2_copyFrom.desc).map (fun d => d.parameters.length) = some 1 := by decide +kernel
theorem LBX0_99 : g_LB RX0 99 yX2_copyFrom cX2_copyFrom 3 none 1 := ⟨gW_in (i := 461) (by decide +kernel) rfl, w_ini_X2, w_c_X2_copyFrom, w_d_X2_copyFrom⟩
theorem LX0_99 : g_LV RX0 99 yX2_copyFrom cX2_copyFrom 3 none 1 2 := ⟨LBX0_99, w_i_X2_copyFrom, w_s_X2_copyFrom, _, _, rfl⟩
theorem LBX1_40 : g_LB RX1 40 yJ9_min_7cf53 cJ9_min_7cf53 2 (some .int) 2 := ⟨gW_in (i := 676) (by decide +kernel) rfl, w_ini_J9, w_c_J9_min_7cf53, w_d_J9_min_7cf53⟩
theorem LX1_40 : g_LS RX1 40 yJ9_min_7cf53 cJ9_min_7cf53 2 (some .int) 2 := ⟨LBX1_40, w_t_J9_min_7cf53⟩
theorem LBX1_46 : g_LB RX1 46 yX1_isBelow cX1_isBelow 1 (some .boolean) 0 := ⟨gW_in (i := 632) (by decide +kernel) rfl, w_ini_X1, w_c_X1_isBelow, w_d_X1_isBelow⟩
theorem LX1_46 : g_LV RX1 46 yX1_isBelow cX1_isBelow 1 (some .boolean) 0 1 := ⟨LBX1_46, w_i_X1_isBelow, w_s_X1_isBelow, _, _, rfl⟩
theorem LBX2_28 : g_LB RX2 28 yJ9_min_7cf53 cJ9_min_7cf53 2 (some .int) 2 := ⟨gW_in (i := 602) (by decide +kernel) rfl, w_ini_J9, w_c_J9_min_7cf53, w_d_J9_min_7cf53⟩
theorem LX2_28 : g_LS RX2 28 yJ9_min_7cf53 cJ9_min_7cf53 2 (some .int) 2 := ⟨LBX2_28, w_t_J9_min_7cf53⟩
theorem w_c_X3_set : Cond.code yX3_set cX3_set 5 none ∈ gW := gW_in (i := 593) (by decide +kernel) rfl
theorem w_i_X3_set : Cond.instanceMethod yX3_set ∈ gW := gW_in (i := 592) (by decide +kernel) rfl
theorem w_s_X3_set : Cond.selects yX3_set.cls yX3_set yX3_set ∈ gW := gW_in (i := 14) (by decide +kernel) rfl
theorem w_d_X3_set : yX3_set.cls ≠ "java/lang/invoke/MethodHandle" ∧ yX3_set.cls ≠ "java/lang/invoke/VarHandle" ∧ (parseMethodDescriptor yX3_set.desc).map (fun d => d.parameters.length) = some 4 := by decide +kernel
theorem LBX3_28 : g_LB RX3 28 yX3_set cX3_set 5 none 4 := ⟨gW_in (i := 590) (by decide +kernel) rfl, w_ini_X3, w_c_X3_set, w_d_X3_set⟩
theorem LX3_28 : g_LV RX3 28 yX3_set cX3_set 5 none 4 3 := ⟨LBX3_28, w_i_X3_set, w_s_X3_set, _, _, rfl⟩
theorem w_c_X4_has : Cond.code yX4_has cX4_has 2 (some .boolean) ∈ gW := gW_in (i := 343) (by decide +kernel) rfl
theorem w_i_X4_has : Cond.instanceMethod yX4_has ∈ gW := gW_in (i := 342) (by decide +kernel) rfl
theorem w_s_X4_has : Cond.selects yX4_has.cls yX4_has yX4_has ∈ gW := gW_in (i := 0) (by decide +kernel) rfl
theorem w_d_X4_has : yX4_has.cls ≠ "java/lang/invoke/MethodHandle" ∧ yX4_has.cls ≠ "java/lang/invoke/VarHandle" ∧ (parseMethodDescriptor yX4_has.desc).map (fun d => d.parameters.length) = some 1 := by decide +kernel
theorem LBX4_36 : g_LB RX4 36 yX4_has cX4_has 2 (some .boolean) 1 := ⟨gW_in (i := 340) (by decide +kernel) rfl, w_ini_X4, w_c_X4_has, w_d_X4_has⟩
theorem LX4_36 : g_LV RX4 36 yX4_has cX4_has 2 (some .boolean) 1 4 := ⟨LBX4_36, w_i_X4_has, w_s_X4_has, _, _, rfl⟩
theorem LBX4_40 : g_LB RX4 40 yX4_isOpen cX4_isOpen 2 (some .boolean) 1 := ⟨gW_in (i := 336) (by decide +kernel) rfl, w_ini_X4, w_c_X4_isOpen, w_d_X4_isOpen⟩
theorem LX4_40 : g_LV RX4 40 yX4_isOpen cX4_isOpen 2 (some .boolean) 1 4 := ⟨LBX4_40, w_i_X4_isOpen, w_s_X4_isOpen, _, _, rfl⟩
theorem LBX5_25 : g_LB RX5 25 yX5_put cX5_put 4 none 3 := ⟨gW_in (i := 851) (by decide +kernel) rfl, w_ini_X5, w_c_X5_put, w_d_X5_put⟩
theorem LX5_25 : g_LV RX5 25 yX5_put cX5_put 4 none 3 5 := ⟨LBX5_25, w_i_X5_put, w_s_X5_put, _, _, rfl⟩
theorem w_c_X5_has : Cond.code yX5_has cX5_has 2 (some .boolean) ∈ gW := gW_in (i := 498) (by decide +kernel) rfl
theorem w_i_X5_has : Cond.instanceMethod yX5_has ∈ gW := gW_in (i := 497) (by decide +kernel) rfl
theorem w_s_X5_has : Cond.selects yX5_has.cls yX5_has yX5_has ∈ gW := gW_in (i := 12) (by decide +kernel) rfl
theorem w_d_X5_has : yX5_has.cls ≠ "java/lang/invoke/MethodHandle" ∧ yX5_has.cls ≠ "java/lang/invoke/VarHandle" ∧ (parseMethodDescriptor yX5_has.desc).map (fun d => d.parameters.length) = some 1 := by decide +kernel
theorem LBX5_29 : g_LB RX5 29 yX5_has cX5_has 2 (some .boolean) 1 := ⟨gW_in (i := 495) (by decide +kernel) rfl, w_ini_X5, w_c_X5_has, w_d_X5_has⟩
theorem LX5_29 : g_LV RX5 29 yX5_has cX5_has 2 (some .boolean) 1 5 := ⟨LBX5_29, w_i_X5_has, w_s_X5_has, _, _, rfl⟩
theorem w_c_X5_lengthOf : Cond.code yX5_lengthOf cX5_lengthOf 2 (some .int) ∈ gW := gW_in (i := 892) (by decide +kernel) rfl
theorem w_i_X5_lengthOf : Cond.instanceMethod yX5_lengthOf ∈ gW := gW_in (i := 890) (by decide +kernel) rfl
theorem w_s_X5_lengthOf : Cond.selects yX5_lengthOf.cls yX5_lengthOf yX5_lengthOf ∈ gW := gW_in (i := 891) (by decide +kernel) rfl
theorem w_d_X5_lengthOf : yX5_lengthOf.cls ≠ "java/lang/invoke/MethodHandle" ∧ yX5_lengthOf.cls ≠ "java/lang/invoke/VarHandle" ∧ (parseMethodDescriptor yX5_lengthOf.desc).map (fun d => d.parameters.length) = some 1 := by decide +kernel
theorem LBX5_33 : g_LB RX5 33 yX5_lengthOf cX5_lengthOf 2 (some .int) 1 := ⟨gW_in (i := 1044) (by decide +kernel) rfl, w_ini_X5, w_c_X5_lengthOf, w_d_X5_lengthOf⟩
theorem LX5_33 : g_LV RX5 33 yX5_lengthOf cX5_lengthOf 2 (some .int) 1 5 := ⟨LBX5_33, w_i_X5_lengthOf, w_s_X5_lengthOf, _, _, rfl⟩
theorem LBX5_37 : g_LB RX5 37 yX5_holds cX5_holds 3 (some .boolean) 2 := ⟨gW_in (i := 1045) (by decide +kernel) rfl, w_ini_X5, w_c_X5_holds, w_d_X5_holds⟩
theorem LX5_37 : g_LV RX5 37 yX5_holds cX5_holds 3 (some .boolean) 2 5 := ⟨LBX5_37, w_i_X5_holds, w_s_X5_holds, _, _, rfl⟩
theorem w_c_X6_byteAt : Cond.code yX6_byteAt cX6_byteAt 2 (some .int) ∈ gW := gW_in (i := 393) (by decide +kernel) rfl
theorem w_i_X6_byteAt : Cond.instanceMethod yX6_byteAt ∈ gW := gW_in (i := 391) (by decide +kernel) rfl
theorem w_s_X6_byteAt : Cond.selects yX6_byteAt.cls yX6_byteAt yX6_byteAt ∈ gW := gW_in (i := 392) (by decide +kernel) rfl
theorem w_d_X6_byteAt : yX6_byteAt.cls ≠ "java/lang/invoke/MethodHandle" ∧ yX6_byteAt.cls ≠ "java/lang/invoke/VarHandle" ∧ (parseMethodDescriptor yX6_byteAt.desc).map (fun d => d.parameters.length) = some 1 := by decide +kernel
theorem LBX6_19 : g_LB RX6 19 yX6_byteAt cX6_byteAt 2 (some .int) 1 := ⟨gW_in (i := 390) (by decide +kernel) rfl, w_ini_X6, w_c_X6_byteAt, w_d_X6_byteAt⟩
theorem LX6_19 : g_LV RX6 19 yX6_byteAt cX6_byteAt 2 (some .int) 1 6 := ⟨LBX6_19, w_i_X6_byteAt, w_s_X6_byteAt, _, _, rfl⟩
theorem w_c_X6_behindOrder : Cond.code yX6_behindOrder cX6_behindOrder 2 (some .int) ∈ gW := gW_in (i := 389) (by decide +kernel) rfl
theorem w_i_X6_behindOrder : Cond.instanceMethod yX6_behindOrder ∈ gW := gW_in (i := 387) (by decide +kernel) rfl
theorem w_s_X6_behindOrder : Cond.selects yX6_behindOrder.cls yX6_behindOrder yX6_behindOrder ∈ gW := gW_in (i := 388) (by decide +kernel) rfl
theorem w_d_X6_behindOrder : yX6_behindOrder.cls ≠ "java/lang/invoke/MethodHandle" ∧ yX6_behindOrder.cls ≠ "java/lang/invoke/VarHandle" ∧ (parseMethodDescriptor yX6_behindOrder.desc).map (fun d => d.parameters.length) = some 1 := by decide +kernel
theorem LBX6_23 : g_LB RX6 23 yX6_behindOrder cX6_behindOrder 2 (some .int) 1 := ⟨gW_in (i := 386) (by decide +kernel) rfl, w_ini_X6, w_c_X6_behindOrder, w_d_X6_behindOrder⟩
theorem LX6_23 : g_LV RX6 23 yX6_behindOrder cX6_behindOrder 2 (some .int) 1 6 := ⟨LBX6_23, w_i_X6_behindOrder, w_s_X6_behindOrder, _, _, rfl⟩
theorem w_c_X6_wrongAt : Cond.code yX6_wrongAt cX6_wrongAt 1 (some .int) ∈ gW := gW_in (i := 408) (by decide +kernel) rfl
theorem w_t_X6_wrongAt : Cond.static yX6_wrongAt ∈ gW := gW_in (i := 407) (by decide +kernel) rfl
theorem w_d_X6_wrongAt : yX6_wrongAt.cls ≠ "java/lang/invoke/MethodHandle" ∧ yX6_wrongAt.cls ≠ "java/lang/invoke/VarHandle" ∧ (parseMethodDescriptor yX6_wrongAt.desc).map (fun d => d.parameters.length) = some 1 := by decide +kernel
theorem LBX6_26 : g_LB RX6 26 yX6_wrongAt cX6_wrongAt 1 (some .int) 1 := ⟨gW_in (i := 406) (by decide +kernel) rfl, w_ini_X6, w_c_X6_wrongAt, w_d_X6_wrongAt⟩
theorem LX6_26 : g_LS RX6 26 yX6_wrongAt cX6_wrongAt 1 (some .int) 1 := ⟨LBX6_26, w_t_X6_wrongAt⟩
theorem w_c_X6_behindTwoDigits : Cond.code yX6_behindTwoDigits cX6_behindTwoDigits 2 (some .int) ∈ gW := gW_in (i := 397) (by decide +kernel) rfl
theorem w_i_X6_behindTwoDigits : Cond.instanceMethod yX6_behindTwoDigits ∈ gW := gW_in (i := 396) (by decide +kernel) rfl
theorem w_s_X6_behindTwoDigits : Cond.selects yX6_behindTwoDigits.cls yX6_behindTwoDigits yX6_behindTwoDigits ∈ gW := gW_in (i := 1) (by decide +kernel) rfl
theorem w_d_X6_behindTwoDigits : yX6_behindTwoDigits.cls ≠ "java/lang/invoke/MethodHandle" ∧ yX6_behindTwoDigits.cls ≠ "java/lang/invoke/VarHandle" ∧ (parseMethodDescriptor yX6_behindTwoDigits.desc).map (fun d => d.parameters.length) = some 1 := by decide +kernel
theorem LBX6_29 : g_LB RX6 29 yX6_behindTwoDigits cX6_behindTwoDigits 2 (some .int) 1 := ⟨gW_in (i := 394) (by decide +kernel) rfl, w_ini_X6, w_c_X6_behindTwoDigits, w_d_X6_behindTwoDigits⟩
theorem LX6_29 : g_LV RX6 29 yX6_behindTwoDigits cX6_behindTwoDigits 2 (some .int) 1 6 := ⟨LBX6_29, w_i_X6_behindTwoDigits, w_s_X6_behindTwoDigits, _, _, rfl⟩
theorem w_c_X6_isUpTo : Cond.code yX6_isUpTo cX6_isUpTo 4 (some .boolean) ∈ gW := gW_in (i := 401) (by decide +kernel) rfl
theorem w_i_X6_isUpTo : Cond.instanceMethod yX6_isUpTo ∈ gW := gW_in (i := 400) (by decide +kernel) rfl
theorem w_s_X6_isUpTo : Cond.selects yX6_isUpTo.cls yX6_isUpTo yX6_isUpTo ∈ gW := gW_in (i := 2) (by decide +kernel) rfl
theorem w_d_X6_isUpTo : yX6_isUpTo.cls ≠ "java/lang/invoke/MethodHandle" ∧ yX6_isUpTo.cls ≠ "java/lang/invoke/VarHandle" ∧ (parseMethodDescriptor yX6_isUpTo.desc).map (fun d => d.parameters.length) = some 2 := by decide +kernel
theorem LBX6_32 : g_LB RX6 32 yX6_isUpTo cX6_isUpTo 4 (some .boolean) 2 := ⟨gW_in (i := 398) (by decide +kernel) rfl, w_ini_X6, w_c_X6_isUpTo, w_d_X6_isUpTo⟩
theorem LX6_32 : g_LV RX6 32 yX6_isUpTo cX6_isUpTo 4 (some .boolean) 2 6 := ⟨LBX6_32, w_i_X6_isUpTo, w_s_X6_isUpTo, _, _, rfl⟩
theorem w_c_X6_behindEnd : Cond.code yX6_behindEnd cX6_behindEnd 2 (some .int) ∈ gW := gW_in (i := 412) (by decide +kernel) rfl
theorem w_i_X6_behindEnd : Cond.instanceMethod yX6_behindEnd ∈ gW := gW_in (i := 411) (by decide +kernel) rfl
theorem w_s_X6_behindEnd : Cond.selects yX6_behindEnd.cls yX6_behindEnd yX6_behindEnd ∈ gW := gW_in (i := 3) (by decide +kernel) rfl
theorem w_d_X6_behindEnd : yX6_behindEnd.cls ≠ "java/lang/invoke/MethodHandle" ∧ yX6_behindEnd.cls ≠ "java/lang/invoke/VarHandle" ∧ (parseMethodDescriptor yX6_behindEnd.desc).map (fun d => d.parameters.length) = some 1 := by decide +kernel
theorem LBX6_36 : g_LB RX6 36 yX6_behindEnd cX6_behindEnd 2 (some .int) 1 := ⟨gW_in (i := 409) (by decide +kernel) rfl, w_ini_X6, w_c_X6_behindEnd, w_d_X6_behindEnd⟩
theorem LX6_36 : g_LV RX6 36 yX6_behindEnd cX6_behindEnd 2 (some .int) 1 6 := ⟨LBX6_36, w_i_X6_behindEnd, w_s_X6_behindEnd, _, _, rfl⟩
theorem w_c_X6_behindSet : Cond.code yX6_behindSet cX6_behindSet 3 (some .int) ∈ gW := gW_in (i := 416) (by decide +kernel) rfl
theorem w_i_X6_behindSet : Cond.instanceMethod yX6_behindSet ∈ gW := gW_in (i := 415) (by decide +kernel) rfl
theorem w_s_X6_behindSet : Cond.selects yX6_behindSet.cls yX6_behindSet yX6_behindSet ∈ gW := gW_in (i := 4) (by decide +kernel) rfl
theorem w_d_X6_behindSet : yX6_behindSet.cls ≠ "java/lang/invoke/MethodHandle" ∧ yX6_behindSet.cls ≠ "java/lang/invoke/VarHandle" ∧ (parseMethodDescriptor yX6_behindSet.desc).map (fun d => d.parameters.length) = some 1 := by decide +kernel
theorem LBX6_39 : g_LB RX6 39 yX6_behindSet cX6_behindSet 3 (some .int) 1 := ⟨gW_in (i := 413) (by decide +kernel) rfl, w_ini_X6, w_c_X6_behindSet, w_d_X6_behindSet⟩
theorem LX6_39 : g_LV RX6 39 yX6_behindSet cX6_behindSet 3 (some .int) 1 6 := ⟨LBX6_39, w_i_X6_behindSet, w_s_X6_behindSet, _, _, rfl⟩
theorem w_c_X6_behindNumber : Cond.code yX6_behindNumber cX6_behindNumber 4 (some .int) ∈ gW := gW_in (i := 424) (by decide +kernel) rfl
theorem w_i_X6_behindNumber : Cond.instanceMethod yX6_behindNumber ∈ gW := gW_in (i := 423) (by decide +kernel) rfl
theorem w_s_X6_behindNumber : Cond.selects yX6_behindNumber.cls yX6_behindNumber yX6_behindNumber ∈ gW := gW_in (i := 6) (by decide +kernel) rfl
theorem w_d_X6_behindNumber : yX6_behindNumber.cls ≠ "java/lang/invoke/MethodHandle" ∧ yX6_behindNumber.cls ≠ "java/lang/invoke/VarHandle" ∧ (parseMethodDescriptor yX6_behindNumber.desc).map (fun d => d.parameters.length) = some 1 := by decide +kernel
theorem LBX6_42 : g_LB RX6 42 yX6_behindNumber cX6_behindNumber 4 (some .int) 1 := ⟨gW_in (i := 421) (by decide +kernel) rfl, w_ini_X6, w_c_X6_behindNumber, w_d_X6_behindNumber⟩
theorem LX6_42 : g_LV RX6 42 yX6_behindNumber cX6_behindNumber 4 (some .int) 1 6 := ⟨LBX6_42, w_i_X6_behindNumber, w_s_X6_behindNumber, _, _, rfl⟩
theorem w_c_X6_digitAt : Cond.code yX6_digitAt cX6_digitAt 3 (some .int) ∈ gW := gW_in (i := 405) (by decide +kernel) rfl
theorem w_i_X6_digitAt : Cond.instanceMethod yX6_digitAt ∈ gW := gW_in (i := 403) (by decide +kernel) rfl
theorem w_s_X6_digitAt : Cond.selects yX6_digitAt.cls yX6_digitAt yX6_digitAt ∈ gW := gW_in (i := 404) (by decide +kernel) rfl
theorem w_d_X6_digitAt : yX6_digitAt.cls ≠ "java/lang/invoke/MethodHandle" ∧ yX6_digitAt.cls ≠ "java/lang/invoke/VarHandle" ∧ (parseMethodDescriptor yX6_digitAt.desc).map (fun d => d.parameters.length) = some 1 := by decide +kernel
theorem LBX6_45 : g_LB RX6 45 yX6_digitAt cX6_digitAt 3 (some .int) 1 := ⟨gW_in (i := 402) (by decide +kernel) rfl, w_ini_X6, w_c_X6_digitAt, w_d_X6_digitAt⟩
theorem LX6_45 : g_LV RX6 45 yX6_digitAt cX6_digitAt 3 (some .int) 1 6 := ⟨LBX6_45, w_i_X6_digitAt, w_s_X6_digitAt, _, _, rfl⟩
theorem w_c_X6_digitsOfSet : Cond.code yX6_digitsOfSet cX6_digitsOfSet 5 (some .int) ∈ gW := gW_in (i := 420) (by decide +kernel) rfl
theorem w_i_X6_digitsOfSet : Cond.instanceMethod yX6_digitsOfSet ∈ gW := gW_in (i := 419) (by decide +kernel) rfl
theorem w_s_X6_digitsOfSet : Cond.selects yX6_digitsOfSet.cls yX6_digitsOfSet yX6_digitsOfSet ∈ gW := gW_in (i := 5) (by decide +kernel) rfl
theorem w_d_X6_digitsOfSet : yX6_digitsOfSet.cls ≠ "java/lang/invoke/MethodHandle" ∧ yX6_digitsOfSet.cls ≠ "java/lang/invoke/VarHandle" ∧ (parseMethodDescriptor yX6_digitsOfSet.desc).map (fun d => d.parameters.length) = some 1 := by decide +kernel
theorem LBX6_48 : g_LB RX6 48 yX6_digitsOfSet cX6_digitsOfSet 5 (some .int) 1 := ⟨gW_in (i := 417) (by decide +kernel) rfl, w_ini_X6, w_c_X6_digitsOfSet, w_d_X6_digitsOfSet⟩
theorem LX6_48 : g_LV RX6 48 yX6_digitsOfSet cX6_digitsOfSet 5 (some .int) 1 6 := ⟨LBX6_48, w_i_X6_digitsOfSet, w_s_X6_digitsOfSet, _, _, rfl⟩
theorem w_c_X6_digitsOfNumber : Cond.code yX6_digitsOfNumber cX6_digitsOfNumber 3 (some .int) ∈ gW := gW_in (i := 428) (by decide +kernel) rfl
theorem w_i_X6_digitsOfNumber : Cond.instanceMethod yX6_digitsOfNumber ∈ gW := gW_in (i := 427) (by decide +kernel) rfl
theorem w_s_X6_digitsOfNumber : Cond.selects yX6_digitsOfNumber.cls yX6_digitsOfNumber yX6_digitsOfNumber ∈ gW := gW_in (i := 7) (by decide +kernel) rfl
theorem w_d_X6_digitsOfNumber : yX6_digitsOfNumber.cls ≠ "java/lang/invoke/MethodHandle" ∧ yX6_digitsOfNumber.cls ≠ "java/lang/invoke/VarHandle" ∧ (parseMethodDescriptor yX6_digitsOfNumber.desc).map (fun d => d.parameters.length) = some 1 := by decide +kernel
theorem LBX6_51 : g_LB RX6 51 yX6_digitsOfNumber cX6_digitsOfNumber 3 (some .int) 1 := ⟨gW_in (i := 425) (by decide +kernel) rfl, w_ini_X6, w_c_X6_digitsOfNumber, w_d_X6_digitsOfNumber⟩
theorem LX6_51 : g_LV RX6 51 yX6_digitsOfNumber cX6_digitsOfNumber 3 (some .int) 1 6 := ⟨LBX6_51, w_i_X6_digitsOfNumber, w_s_X6_digitsOfNumber, _, _, rfl⟩
theorem w_c_X6_numberOf : Cond.code yX6_numberOf cX6_numberOf 5 (some .int) ∈ gW := gW_in (i := 432) (by decide +kernel) rfl
theorem w_i_X6_numberOf : Cond.instanceMethod yX6_numberOf ∈ gW := gW_in (i := 431) (by decide +kernel) rfl
theorem w_s_X6_numberOf : Cond.selects yX6_numberOf.cls yX6_numberOf yX6_numberOf ∈ gW := gW_in (i := 8) (by decide +kernel) rfl
theorem w_d_X6_numberOf : yX6_numberOf.cls ≠ "java/lang/invoke/MethodHandle" ∧ yX6_numberOf.cls ≠ "java/lang/invoke/VarHandle" ∧ (parseMethodDescriptor yX6_numberOf.desc).map (fun d => d.parameters.length) = some 2 := by decide +kernel
theorem LBX6_54 : g_LB RX6 54 yX6_numberOf cX6_numberOf 5 (some .int) 2 := ⟨gW_in (i := 429) (by decide +kernel) rfl, w_ini_X6, w_c_X6_numberOf, w_d_X6_numberOf⟩
theorem LX6_54 : g_LV RX6 54 yX6_numberOf cX6_numberOf 5 (some .int) 2 6 := ⟨LBX6_54, w_i_X6_numberOf, w_s_X6_numberOf, _, _, rfl⟩
theorem w_c_X0_canTake : Cond.code yX0_canTake cX0_canTake 3 (some .boolean) ∈ gW := gW_in (i := 490) (by decide +kernel) rfl
theorem w_i_X0_canTake : Cond.instanceMethod yX0_canTake ∈ gW := gW_in (i := 488) (by decide +kernel) rfl
theorem w_s_X0_canTake : Cond.selects yX0_canTake.cls yX0_canTake yX0_canTake ∈ gW := gW_in (i := 489) (by decide +kernel) rfl
theorem w_d_X0_canTake : yX0_canTake.cls ≠ "java/lang/invoke/MethodHandle" ∧ yX0_canTake.cls ≠ "java/lang/invoke/VarHandle" ∧ (parseMethodDescriptor yX0_canTake.desc).map (fun d => d.parameters.length) = some 2 := by decide +kernel
theorem LBX7_102 : g_LB RX7 102 yX0_canTake cX0_canTake 3 (some .boolean) 2 := ⟨gW_in (i := 487) (by decide +kernel) rfl, w_ini_X0, w_c_X0_canTake, w_d_X0_canTake⟩
theorem LX7_102 : g_LV RX7 102 yX0_canTake cX0_canTake 3 (some .boolean) 2 0 := ⟨LBX7_102, w_i_X0_canTake, w_s_X0_canTake, _, _, rfl⟩
theorem LBX7_105 : g_LB RX7 105 yX0_takeRope cX0_takeRope 3 none 2 := ⟨gW_in (i := 570) (by decide +kernel) rfl, w_ini_X0, w_c_X0_takeRope, w_d_X0_takeRope⟩
theorem LX7_105 : g_LV RX7 105 yX0_takeRope cX0_takeRope 3 none 2 0 := ⟨LBX7_105, w_i_X0_takeRope, w_s_X0_takeRope, _, _, rfl⟩
theorem LBX7_108 : g_LB RX7 108 yX5_lengthOf cX5_lengthOf 2 (some .int) 1 := ⟨gW_in (i := 889) (by decide +kernel) rfl, w_ini_X5, w_c_X5_lengthOf, w_d_X5_lengthOf⟩
theorem LX7_108 : g_LV RX7 108 yX5_lengthOf cX5_lengthOf 2 (some .int) 1 5 := ⟨LBX7_108, w_i_X5_lengthOf, w_s_X5_lengthOf, _, _, rfl⟩
theorem LBX7_111 : g_LB RX7 111 yX0_canLay cX0_canLay 2 (some .boolean) 1 := ⟨gW_in (i := 900) (by decide +kernel) rfl, w_ini_X0, w_c_X0_canLay, w_d_X0_canLay⟩
theorem LX7_111 : g_LV RX7 111 yX0_canLay cX0_canLay 2 (some .boolean) 1 0 := ⟨LBX7_111, w_i_X0_canLay, w_s_X0_canLay, _, _, rfl⟩
theorem w_c_X0_layRope : Cond.code yX0_layRope cX0_layRope 4 (some .int) ∈ gW := gW_in (i := 904) (by decide +kernel) rfl
theorem w_i_X0_layRope : Cond.instanceMethod yX0_layRope ∈ gW := gW_in (i := 902) (by decide +kernel) rfl
theorem w_s_X0_layRope : Cond.selects yX0_layRope.cls yX0_layRope yX0_layRope ∈ gW := gW_in (i := 903) (by decide +kernel) rfl
theorem w_d_X0_layRope : yX0_layRope.cls ≠ "java/lang/invoke/MethodHandle" ∧ yX0_layRope.cls ≠ "java/lang/invoke/VarHandle" ∧ (parseMethodDescriptor yX0_layRope.desc).map (fun d => d.parameters.length) = some 1 := by decide +kernel
theorem LBX7_114 : g_LB RX7 114 yX0_layRope cX0_layRope 4 (some .int) 1 := ⟨gW_in (i := 901) (by decide +kernel) rfl, w_ini_X0, w_c_X0_layRope, w_d_X0_layRope⟩
theorem LX7_114 : g_LV RX7 114 yX0_layRope cX0_layRope 4 (some .int) 1 0 := ⟨LBX7_114, w_i_X0_layRope, w_s_X0_layRope, _, _, rfl⟩
theorem w_c_X0_canRig : Cond.code yX0_canRig cX0_canRig 4 (some .boolean) ∈ gW := gW_in (i := 502) (by decide +kernel) rfl
theorem w_i_X0_canRig : Cond.instanceMethod yX0_canRig ∈ gW := gW_in (i := 500) (by decide +kernel) rfl
theorem w_s_X0_canRig : Cond.selects yX0_canRig.cls yX0_canRig yX0_canRig ∈ gW := gW_in (i := 501) (by decide +kernel) rfl
theorem w_d_X0_canRig : yX0_canRig.cls ≠ "java/lang/invoke/MethodHandle" ∧ yX0_canRig.cls ≠ "java/lang/invoke/VarHandle" ∧ (parseMethodDescriptor yX0_canRig.desc).map (fun d => d.parameters.length) = some 1 := by decide +kernel
theorem LBX7_117 : g_LB RX7 117 yX0_canRig cX0_canRig 4 (some .boolean) 1 := ⟨gW_in (i := 499) (by decide +kernel) rfl, w_ini_X0, w_c_X0_canRig, w_d_X0_canRig⟩
theorem LX7_117 : g_LV RX7 117 yX0_canRig cX0_canRig 4 (some .boolean) 1 0 := ⟨LBX7_117, w_i_X0_canRig, w_s_X0_canRig, _, _, rfl⟩
theorem w_c_X0_startRig : Cond.code yX0_startRig cX0_startRig 3 (some .int) ∈ gW := gW_in (i := 581) (by decide +kernel) rfl
theorem w_i_X0_startRig : Cond.instanceMethod yX0_startRig ∈ gW := gW_in (i := 579) (by decide +kernel) rfl
theorem w_s_X0_startRig : Cond.selects yX0_startRig.cls yX0_startRig yX0_startRig ∈ gW := gW_in (i := 580) (by decide +kernel) rfl
theorem w_d_X0_startRig : yX0_startRig.cls ≠ "java/lang/invoke/MethodHandle" ∧ yX0_startRig.cls ≠ "java/lang/invoke/VarHandle" ∧ (parseMethodDescriptor yX0_startRig.desc).map (fun d => d.parameters.length) = some 1 := by decide +kernel
theorem LBX7_120 : g_LB RX7 120 yX0_startRig cX0_startRig 3 (some .int) 1 := ⟨gW_in (i := 578) (by decide +kernel) rfl, w_ini_X0, w_c_X0_startRig, w_d_X0_startRig⟩
theorem LX7_120 : g_LV RX7 120 yX0_startRig cX0_startRig 3 (some .int) 1 0 := ⟨LBX7_120, w_i_X0_startRig, w_s_X0_startRig, _, _, rfl⟩
theorem w_c_X0_canUnrig : Cond.code yX0_canUnrig cX0_canUnrig 3 (some .boolean) ∈ gW := gW_in (i := 922) (by decide +kernel) rfl
theorem w_i_X0_canUnrig : Cond.instanceMethod yX0_canUnrig ∈ gW := gW_in (i := 920) (by decide +kernel) rfl
theorem w_s_X0_canUnrig : Cond.selects yX0_canUnrig.cls yX0_canUnrig yX0_canUnrig ∈ gW := gW_in (i := 921) (by decide +kernel) rfl
theorem w_d_X0_canUnrig : yX0_canUnrig.cls ≠ "java/lang/invoke/MethodHandle" ∧ yX0_canUnrig.cls ≠ "java/lang/invoke/VarHandle" ∧ (parseMethodDescriptor yX0_canUnrig.desc).map (fun d => d.parameters.length) = some 1 := by decide +kernel
theorem LBX7_123 : g_LB RX7 123 yX0_canUnrig cX0_canUnrig 3 (some .boolean) 1 := ⟨gW_in (i := 919) (by decide +kernel) rfl, w_ini_X0, w_c_X0_canUnrig, w_d_X0_canUnrig⟩
theorem LX7_123 : g_LV RX7 123 yX0_canUnrig cX0_canUnrig 3 (some .boolean) 1 0 := ⟨LBX7_123, w_i_X0_canUnrig, w_s_X0_canUnrig, _, _, rfl⟩
theorem w_c_X0_unrig : Cond.code yX0_unrig cX0_unrig 4 (some .int) ∈ gW := gW_in (i := 926) (by decide +kernel) rfl
theorem w_i_X0_unrig : Cond.instanceMethod yX0_unrig ∈ gW := gW_in (i := 924) (by decide +kernel) rfl
theorem w_s_X0_unrig : Cond.selects yX0_unrig.cls yX0_unrig yX0_unrig ∈ gW := gW_in (i := 925) (by decide +kernel) rfl
theorem w_d_X0_unrig : yX0_unrig.cls ≠ "java/lang/invoke/MethodHandle" ∧ yX0_unrig.cls ≠ "java/lang/invoke/VarHandle" ∧ (parseMethodDescriptor yX0_unrig.desc).map (fun d => d.parameters.length) = some 1 := by decide +kernel
theorem LBX7_126 : g_LB RX7 126 yX0_unrig cX0_unrig 4 (some .int) 1 := ⟨gW_in (i := 923) (by decide +kernel) rfl, w_ini_X0, w_c_X0_unrig, w_d_X0_unrig⟩
theorem LX7_126 : g_LV RX7 126 yX0_unrig cX0_unrig 4 (some .int) 1 0 := ⟨LBX7_126, w_i_X0_unrig, w_s_X0_unrig, _, _, rfl⟩
theorem w_c_X0_isTeam : Cond.code yX0_isTeam cX0_isTeam 2 (some .boolean) ∈ gW := gW_in (i := 534) (by decide +kernel) rfl
theorem w_i_X0_isTeam : Cond.instanceMethod yX0_isTeam ∈ gW := gW_in (i := 532) (by decide +kernel) rfl
theorem w_s_X0_isTeam : Cond.selects yX0_isTeam.cls yX0_isTeam yX0_isTeam ∈ gW := gW_in (i := 533) (by decide +kernel) rfl
theorem w_d_X0_isTeam : yX0_isTeam.cls ≠ "java/lang/invoke/MethodHandle" ∧ yX0_isTeam.cls ≠ "java/lang/invoke/VarHandle" ∧ (parseMethodDescriptor yX0_isTeam.desc).map (fun d => d.parameters.length) = some 1 := by decide +kernel
theorem LBX7_129 : g_LB RX7 129 yX0_isTeam cX0_isTeam 2 (some .boolean) 1 := ⟨gW_in (i := 531) (by decide +kernel) rfl, w_ini_X0, w_c_X0_isTeam, w_d_X0_isTeam⟩
theorem LX7_129 : g_LV RX7 129 yX0_isTeam cX0_isTeam 2 (some .boolean) 1 0 := ⟨LBX7_129, w_i_X0_isTeam, w_s_X0_isTeam, _, _, rfl⟩
theorem w_c_X7_requireArgument : Cond.code yX7_requireArgument cX7_requireArgument 1 none ∈ gW := gW_in (i := 707) (by decide +kernel) rfl
theorem w_t_X7_requireArgument : Cond.static yX7_requireArgument ∈ gW := gW_in (i := 706) (by decide +kernel) rfl
theorem w_d_X7_requireArgument : yX7_requireArgument.cls ≠ "java/lang/invoke/MethodHandle" ∧ yX7_requireArgument.cls ≠ "java/lang/invoke/VarHandle" ∧ (parseMethodDescriptor yX7_requireArgument.desc).map (fun d => d.parameters.length) = some 1 := by decide +kernel
theorem LBX7_132 : g_LB RX7 132 yX7_requireArgument cX7_requireArgument 1 none 1 := ⟨gW_in (i := 705) (by decide +kernel) rfl, w_ini_X7, w_c_X7_requireArgument, w_d_X7_requireArgument⟩
theorem LX7_132 : g_LS RX7 132 yX7_requireArgument cX7_requireArgument 1 none 1 := ⟨LBX7_132, w_t_X7_requireArgument⟩
theorem w_c_X0_canCarry : Cond.code yX0_canCarry cX0_canCarry 2 (some .boolean) ∈ gW := gW_in (i := 544) (by decide +kernel) rfl
theorem w_i_X0_canCarry : Cond.instanceMethod yX0_canCarry ∈ gW := gW_in (i := 542) (by decide +kernel) rfl
theorem w_s_X0_canCarry : Cond.selects yX0_canCarry.cls yX0_canCarry yX0_canCarry ∈ gW := gW_in (i := 543) (by decide +kernel) rfl
theorem w_d_X0_canCarry : yX0_canCarry.cls ≠ "java/lang/invoke/MethodHandle" ∧ yX0_canCarry.cls ≠ "java/lang/invoke/VarHandle" ∧ (parseMethodDescriptor yX0_canCarry.desc).map (fun d => d.parameters.length) = some 1 := by decide +kernel
theorem LBX7_135 : g_LB RX7 135 yX0_canCarry cX0_canCarry 2 (some .boolean) 1 := ⟨gW_in (i := 541) (by decide +kernel) rfl, w_ini_X0, w_c_X0_canCarry, w_d_X0_canCarry⟩
theorem LX7_135 : g_LV RX7 135 yX0_canCarry cX0_canCarry 2 (some .boolean) 1 0 := ⟨LBX7_135, w_i_X0_canCarry, w_s_X0_canCarry, _, _, rfl⟩
theorem w_c_X0_startCarry : Cond.code yX0_startCarry cX0_startCarry 4 (some .int) ∈ gW := gW_in (i := 597) (by decide +kernel) rfl
theorem w_i_X0_startCarry : Cond.instanceMethod yX0_startCarry ∈ gW := gW_in (i := 595) (by decide +kernel) rfl
theorem w_s_X0_startCarry : Cond.selects yX0_startCarry.cls yX0_startCarry yX0_startCarry ∈ gW := gW_in (i := 596) (by decide +kernel) rfl
theorem w_d_X0_startCarry : yX0_startCarry.cls ≠ "java/lang/invoke/MethodHandle" ∧ yX0_startCarry.cls ≠ "java/lang/invoke/VarHandle" ∧ (parseMethodDescriptor yX0_startCarry.desc).map (fun d => d.parameters.length) = some 1 := by decide +kernel
theorem LBX7_138 : g_LB RX7 138 yX0_startCarry cX0_startCarry 4 (some .int) 1 := ⟨gW_in (i := 594) (by decide +kernel) rfl, w_ini_X0, w_c_X0_startCarry, w_d_X0_startCarry⟩
theorem LX7_138 : g_LV RX7 138 yX0_startCarry cX0_startCarry 4 (some .int) 1 0 := ⟨LBX7_138, w_i_X0_startCarry, w_s_X0_startCarry, _, _, rfl⟩
theorem w_c_X0_canSend : Cond.code yX0_canSend cX0_canSend 2 (some .boolean) ∈ gW := gW_in (i := 526) (by decide +kernel) rfl
theorem w_i_X0_canSend : Cond.instanceMethod yX0_canSend ∈ gW := gW_in (i := 524) (by decide +kernel) rfl
theorem w_s_X0_canSend : Cond.selects yX0_canSend.cls yX0_canSend yX0_canSend ∈ gW := gW_in (i := 525) (by decide +kernel) rfl
theorem w_d_X0_canSend : yX0_canSend.cls ≠ "java/lang/invoke/MethodHandle" ∧ yX0_canSend.cls ≠ "java/lang/invoke/VarHandle" ∧ (parseMethodDescriptor yX0_canSend.desc).map (fun d => d.parameters.length) = some 1 := by decide +kernel
theorem LBX7_141 : g_LB RX7 141 yX0_canSend cX0_canSend 2 (some .boolean) 1 := ⟨gW_in (i := 523) (by decide +kernel) rfl, w_ini_X0, w_c_X0_canSend, w_d_X0_canSend⟩
theorem LX7_141 : g_LV RX7 141 yX0_canSend cX0_canSend 2 (some .boolean) 1 0 := ⟨LBX7_141, w_i_X0_canSend, w_s_X0_canSend, _, _, rfl⟩
theorem w_c_X0_sendFrom : Cond.code yX0_sendFrom cX0_sendFrom 3 none ∈ gW := gW_in (i := 585) (by decide +kernel) rfl
theorem w_i_X0_sendFrom : Cond.instanceMethod yX0_sendFrom ∈ gW := gW_in (i := 583) (by decide +kernel) rfl
theorem w_s_X0_sendFrom : Cond.selects yX0_sendFrom.cls yX0_sendFrom yX0_sendFrom ∈ gW := gW_in (i := 584) (by decide +kernel) rfl
theorem w_d_X0_sendFrom : yX0_sendFrom.cls ≠ "java/lang/invoke/MethodHandle" ∧ yX0_sendFrom.cls ≠ "java/lang/invoke/VarHandle" ∧ (parseMethodDescriptor yX0_sendFrom.desc).map (fun d => d.parameters.length) = some 1 := by decide +kernel
theorem LBX7_144 : g_LB RX7 144 yX0_sendFrom cX0_sendFrom 3 none 1 := ⟨gW_in (i := 582) (by decide +kernel) rfl, w_ini_X0, w_c_X0_sendFrom, w_d_X0_sendFrom⟩
theorem LX7_144 : g_LV RX7 144 yX0_sendFrom cX0_sendFrom 3 none 1 0 := ⟨LBX7_144, w_i_X0_sendFrom, w_s_X0_sendFrom, _, _, rfl⟩
theorem w_c_X0_canPass : Cond.code yX0_canPass cX0_canPass 2 (some .boolean) ∈ gW := gW_in (i := 553) (by decide +kernel) rfl
theorem w_i_X0_canPass : Cond.instanceMethod yX0_canPass ∈ gW := gW_in (i := 551) (by decide +kernel) rfl
theorem w_s_X0_canPass : Cond.selects yX0_canPass.cls yX0_canPass yX0_canPass ∈ gW := gW_in (i := 552) (by decide +kernel) rfl
theorem w_d_X0_canPass : yX0_canPass.cls ≠ "java/lang/invoke/MethodHandle" ∧ yX0_canPass.cls ≠ "java/lang/invoke/VarHandle" ∧ (parseMethodDescriptor yX0_canPass.desc).map (fun d => d.parameters.length) = some 1 := by decide +kernel
theorem LBX7_154 : g_LB RX7 154 yX0_canPass cX0_canPass 2 (some .boolean) 1 := ⟨gW_in (i := 550) (by decide +kernel) rfl, w_ini_X0, w_c_X0_canPass, w_d_X0_canPass⟩
theorem LX7_154 : g_LV RX7 154 yX0_canPass cX0_canPass 2 (some .boolean) 1 0 := ⟨LBX7_154, w_i_X0_canPass, w_s_X0_canPass, _, _, rfl⟩
theorem w_c_X0_letPass : Cond.code yX0_letPass cX0_letPass 5 (some .int) ∈ gW := gW_in (i := 606) (by decide +kernel) rfl
theorem w_i_X0_letPass : Cond.instanceMethod yX0_letPass ∈ gW := gW_in (i := 604) (by decide +kernel) rfl
theorem w_s_X0_letPass : Cond.selects yX0_letPass.cls yX0_letPass yX0_letPass ∈ gW := gW_in (i := 605) (by decide +kernel) rfl
theorem w_d_X0_letPass : yX0_letPass.cls ≠ "java/lang/invoke/MethodHandle" ∧ yX0_letPass.cls ≠ "java/lang/invoke/VarHandle" ∧ (parseMethodDescriptor yX0_letPass.desc).map (fun d => d.parameters.length) = some 1 := by decide +kernel
theorem LBX7_157 : g_LB RX7 157 yX0_letPass cX0_letPass 5 (some .int) 1 := ⟨gW_in (i := 603) (by decide +kernel) rfl, w_ini_X0, w_c_X0_letPass, w_d_X0_letPass⟩
theorem LX7_157 : g_LV RX7 157 yX0_letPass cX0_letPass 5 (some .int) 1 0 := ⟨LBX7_157, w_i_X0_letPass, w_s_X0_letPass, _, _, rfl⟩
theorem LBX7_160 : g_LB RX7 160 yX0_aboutPassage cX0_aboutPassage 3 (some .int) 2 := ⟨gW_in (i := 956) (by decide +kernel) rfl, w_ini_X0, w_c_X0_aboutPassage, w_d_X0_aboutPassage⟩
theorem LX7_160 : g_LV RX7 160 yX0_aboutPassage cX0_aboutPassage 3 (some .int) 2 0 := ⟨LBX7_160, w_i_X0_aboutPassage, w_s_X0_aboutPassage, _, _, rfl⟩
theorem LBX7_163 : g_LB RX7 163 yX5_about cX5_about 3 (some .int) 2 := ⟨gW_in (i := 964) (by decide +kernel) rfl, w_ini_X5, w_c_X5_about, w_d_X5_about⟩
theorem LX7_163 : g_LV RX7 163 yX5_about cX5_about 3 (some .int) 2 5 := ⟨LBX7_163, w_i_X5_about, w_s_X5_about, _, _, rfl⟩
theorem LBX7_170 : g_LB RX7 170 yX1_about cX1_about 2 (some .int) 1 := ⟨gW_in (i := 972) (by decide +kernel) rfl, w_ini_X1, w_c_X1_about, w_d_X1_about⟩
theorem LX7_170 : g_LV RX7 170 yX1_about cX1_about 2 (some .int) 1 1 := ⟨LBX7_170, w_i_X1_about, w_s_X1_about, _, _, rfl⟩
theorem LBX7_174 : g_LB RX7 174 yX0_about cX0_about 2 (some .int) 1 := ⟨gW_in (i := 980) (by decide +kernel) rfl, w_ini_X0, w_c_X0_about, w_d_X0_about⟩
theorem LX7_174 : g_LV RX7 174 yX0_about cX0_about 2 (some .int) 1 0 := ⟨LBX7_174, w_i_X0_about, w_s_X0_about, _, _, rfl⟩
theorem LBX7_175 : g_LB RX7 175 yX3_about cX3_about 3 (some .int) 2 := ⟨gW_in (i := 988) (by decide +kernel) rfl, w_ini_X3, w_c_X3_about, w_d_X3_about⟩
theorem LX7_175 : g_LV RX7 175 yX3_about cX3_about 3 (some .int) 2 3 := ⟨LBX7_175, w_i_X3_about, w_s_X3_about, _, _, rfl⟩
theorem LBX7_185 : g_LB RX7 185 yX2_about cX2_about 3 (some .int) 2 := ⟨gW_in (i := 996) (by decide +kernel) rfl, w_ini_X2, w_c_X2_about, w_d_X2_about⟩
theorem LX7_185 : g_LV RX7 185 yX2_about cX2_about 3 (some .int) 2 2 := ⟨LBX7_185, w_i_X2_about, w_s_X2_about, _, _, rfl⟩
theorem LBX7_186 : g_LB RX7 186 yX0_refusal cX0_refusal 8 (some .int) 2 := ⟨gW_in (i := 1004) (by decide +kernel) rfl, w_ini_X0, w_c_X0_refusal, w_d_X0_refusal⟩
theorem LX7_186 : g_LV RX7 186 yX0_refusal cX0_refusal 8 (some .int) 2 0 := ⟨LBX7_186, w_i_X0_refusal, w_s_X0_refusal, _, _, rfl⟩
theorem LBX7_190 : g_LB RX7 190 yX0_wayUpOf cX0_wayUpOf 2 (some .int) 1 := ⟨gW_in (i := 1012) (by decide +kernel) rfl, w_ini_X0, w_c_X0_wayUpOf, w_d_X0_wayUpOf⟩
theorem LX7_190 : g_LV RX7 190 yX0_wayUpOf cX0_wayUpOf 2 (some .int) 1 0 := ⟨LBX7_190, w_i_X0_wayUpOf, w_s_X0_wayUpOf, _, _, rfl⟩
theorem w_c_X0_spareOf : Cond.code yX0_spareOf cX0_spareOf 3 (some .int) ∈ gW := gW_in (i := 1027) (by decide +kernel) rfl
theorem w_i_X0_spareOf : Cond.instanceMethod yX0_spareOf ∈ gW := gW_in (i := 1025) (by decide +kernel) rfl
theorem w_s_X0_spareOf : Cond.selects yX0_spareOf.cls yX0_spareOf yX0_spareOf ∈ gW := gW_in (i := 1026) (by decide +kernel) rfl
theorem w_d_X0_spareOf : yX0_spareOf.cls ≠ "java/lang/invoke/MethodHandle" ∧ yX0_spareOf.cls ≠ "java/lang/invoke/VarHandle" ∧ (parseMethodDescriptor yX0_spareOf.desc).map (fun d => d.parameters.length) = some 1 := by decide +kernel
theorem LBX7_194 : g_LB RX7 194 yX0_spareOf cX0_spareOf 3 (some .int) 1 := ⟨gW_in (i := 1024) (by decide +kernel) rfl, w_ini_X0, w_c_X0_spareOf, w_d_X0_spareOf⟩
theorem LX7_194 : g_LV RX7 194 yX0_spareOf cX0_spareOf 3 (some .int) 1 0 := ⟨LBX7_194, w_i_X0_spareOf, w_s_X0_spareOf, _, _, rfl⟩
theorem LBX7_197 : g_LB RX7 197 yX4_isPitch cX4_isPitch 2 (some .boolean) 1 := ⟨gW_in (i := 1039) (by decide +kernel) rfl, w_ini_X4, w_c_X4_isPitch, w_d_X4_isPitch⟩
theorem LX7_197 : g_LV RX7 197 yX4_isPitch cX4_isPitch 2 (some .boolean) 1 4 := ⟨LBX7_197, w_i_X4_isPitch, w_s_X4_isPitch, _, _, rfl⟩
theorem w_c_X5_shortestFree : Cond.code yX5_shortestFree cX5_shortestFree 5 (some .int) ∈ gW := gW_in (i := 1043) (by decide +kernel) rfl
theorem w_i_X5_shortestFree : Cond.instanceMethod yX5_shortestFree ∈ gW := gW_in (i := 1041) (by decide +kernel) rfl
theorem w_s_X5_shortestFree : Cond.selects yX5_shortestFree.cls yX5_shortestFree yX5_shortestFree ∈ gW := gW_in (i := 1042) (by decide +kernel) rfl
theorem w_d_X5_shortestFree : yX5_shortestFree.cls ≠ "java/lang/invoke/MethodHandle" ∧ yX5_shortestFree.cls ≠ "java/lang/invoke/VarHandle" ∧ (parseMethodDescriptor yX5_shortestFree.desc).map (fun d => d.parameters.length) = some 1 := by decide +kernel
theorem LBX7_200 : g_LB RX7 200 yX5_shortestFree cX5_shortestFree 5 (some .int) 1 := ⟨gW_in (i := 1040) (by decide +kernel) rfl, w_ini_X5, w_c_X5_shortestFree, w_d_X5_shortestFree⟩
theorem LX7_200 : g_LV RX7 200 yX5_shortestFree cX5_shortestFree 5 (some .int) 1 5 := ⟨LBX7_200, w_i_X5_shortestFree, w_s_X5_shortestFree, _, _, rfl⟩
theorem LBX7_210 : g_LB RX7 210 yX4_isOpenUp cX4_isOpenUp 3 (some .boolean) 1 := ⟨gW_in (i := 332) (by decide +kernel) rfl, w_ini_X4, w_c_X4_isOpenUp, w_d_X4_isOpenUp⟩
theorem LX7_210 : g_LV RX7 210 yX4_isOpenUp cX4_isOpenUp 3 (some .boolean) 1 4 := ⟨LBX7_210, w_i_X4_isOpenUp, w_s_X4_isOpenUp, _, _, rfl⟩
theorem LBX7_213 : g_LB RX7 213 yX4_wayUp cX4_wayUp 4 (some .int) 1 := ⟨gW_in (i := 344) (by decide +kernel) rfl, w_ini_X4, w_c_X4_wayUp, w_d_X4_wayUp⟩
theorem LX7_213 : g_LV RX7 213 yX4_wayUp cX4_wayUp 4 (some .int) 1 4 := ⟨LBX7_213, w_i_X4_wayUp, w_s_X4_wayUp, _, _, rfl⟩
theorem LBX7_216 : g_LB RX7 216 yX0_fitCarriers cX0_fitCarriers 5 (some .int) 0 := ⟨gW_in (i := 352) (by decide +kernel) rfl, w_ini_X0, w_c_X0_fitCarriers, w_d_X0_fitCarriers⟩
theorem LX7_216 : g_LV RX7 216 yX0_fitCarriers cX0_fitCarriers 5 (some .int) 0 0 := ⟨LBX7_216, w_i_X0_fitCarriers, w_s_X0_fitCarriers, _, _, rfl⟩
theorem w_c_X0_reachOf : Cond.code yX0_reachOf cX0_reachOf 5 (some .int) ∈ gW := gW_in (i := 1056) (by decide +kernel) rfl
theorem w_i_X0_reachOf : Cond.instanceMethod yX0_reachOf ∈ gW := gW_in (i := 1054) (by decide +kernel) rfl
theorem w_s_X0_reachOf : Cond.selects yX0_reachOf.cls yX0_reachOf yX0_reachOf ∈ gW := gW_in (i := 1055) (by decide +kernel) rfl
theorem w_d_X0_reachOf : yX0_reachOf.cls ≠ "java/lang/invoke/MethodHandle" ∧ yX0_reachOf.cls ≠ "java/lang/invoke/VarHandle" ∧ (parseMethodDescriptor yX0_reachOf.desc).map (fun d => d.parameters.length) = some 1 := by decide +kernel
theorem LBX7_220 : g_LB RX7 220 yX0_reachOf cX0_reachOf 5 (some .int) 1 := ⟨gW_in (i := 1053) (by decide +kernel) rfl, w_ini_X0, w_c_X0_reachOf, w_d_X0_reachOf⟩
theorem LX7_220 : g_LV RX7 220 yX0_reachOf cX0_reachOf 5 (some .int) 1 0 := ⟨LBX7_220, w_i_X0_reachOf, w_s_X0_reachOf, _, _, rfl⟩
theorem w_c_X0_sumOfTiredness : Cond.code yX0_sumOfTiredness cX0_sumOfTiredness 3 (some .int) ∈ gW := gW_in (i := 373) (by decide +kernel) rfl
theorem w_i_X0_sumOfTiredness : Cond.instanceMethod yX0_sumOfTiredness ∈ gW := gW_in (i := 371) (by decide +kernel) rfl
theorem w_s_X0_sumOfTiredness : Cond.selects yX0_sumOfTiredness.cls yX0_sumOfTiredness yX0_sumOfTiredness ∈ gW := gW_in (i := 372) (by decide +kernel) rfl
theorem w_d_X0_sumOfTiredness : yX0_sumOfTiredness.cls ≠ "java/lang/invoke/MethodHandle" ∧ yX0_sumOfTiredness.cls ≠ "java/lang/invoke/VarHandle" ∧ (parseMethodDescriptor yX0_sumOfTiredness.desc).map (fun d => d.parameters.length) = some 0 := by decide +kernel
theorem LBX7_223 : g_LB RX7 223 yX0_sumOfTiredness cX0_sumOfTiredness 3 (some .int) 0 := ⟨gW_in (i := 370) (by decide +kernel) rfl, w_ini_X0, w_c_X0_sumOfTiredness, w_d_X0_sumOfTiredness⟩
theorem LX7_223 : g_LV RX7 223 yX0_sumOfTiredness cX0_sumOfTiredness 3 (some .int) 0 0 := ⟨LBX7_223, w_i_X0_sumOfTiredness, w_s_X0_sumOfTiredness, _, _, rfl⟩
theorem w_c_X6_add : Cond.code yX6_add cX6_add 2 none ∈ gW := gW_in (i := 1067) (by decide +kernel) rfl
theorem w_i_X6_add : Cond.instanceMethod yX6_add ∈ gW := gW_in (i := 1065) (by decide +kernel) rfl
theorem w_s_X6_add : Cond.selects yX6_add.cls yX6_add yX6_add ∈ gW := gW_in (i := 1066) (by decide +kernel) rfl
theorem w_d_X6_add : yX6_add.cls ≠ "java/lang/invoke/MethodHandle" ∧ yX6_add.cls ≠ "java/lang/invoke/VarHandle" ∧ (parseMethodDescriptor yX6_add.desc).map (fun d => d.parameters.length) = some 1 := by decide +kernel
theorem LBX7_229 : g_LB RX7 229 yX6_add cX6_add 2 none 1 := ⟨gW_in (i := 1064) (by decide +kernel) rfl, w_ini_X6, w_c_X6_add, w_d_X6_add⟩
theorem LX7_229 : g_LV RX7 229 yX6_add cX6_add 2 none 1 6 := ⟨LBX7_229, w_i_X6_add, w_s_X6_add, _, _, rfl⟩
theorem w_c_X6_firstWrong : Cond.code yX6_firstWrong cX6_firstWrong 3 (some .int) ∈ gW := gW_in (i := 385) (by decide +kernel) rfl
theorem w_i_X6_firstWrong : Cond.instanceMethod yX6_firstWrong ∈ gW := gW_in (i := 383) (by decide +kernel) rfl
theorem w_s_X6_firstWrong : Cond.selects yX6_firstWrong.cls yX6_firstWrong yX6_firstWrong ∈ gW := gW_in (i := 384) (by decide +kernel) rfl
theorem w_d_X6_firstWrong : yX6_firstWrong.cls ≠ "java/lang/invoke/MethodHandle" ∧ yX6_firstWrong.cls ≠ "java/lang/invoke/VarHandle" ∧ (parseMethodDescriptor yX6_firstWrong.desc).map (fun d => d.parameters.length) = some 0 := by decide +kernel
theorem LBX7_232 : g_LB RX7 232 yX6_firstWrong cX6_firstWrong 3 (some .int) 0 := ⟨gW_in (i := 382) (by decide +kernel) rfl, w_ini_X6, w_c_X6_firstWrong, w_d_X6_firstWrong⟩
theorem LX7_232 : g_LV RX7 232 yX6_firstWrong cX6_firstWrong 3 (some .int) 0 6 := ⟨LBX7_232, w_i_X6_firstWrong, w_s_X6_firstWrong, _, _, rfl⟩
theorem w_c_X7_canObey : Cond.code yX7_canObey cX7_canObey 4 (some .boolean) ∈ gW := gW_in (i := 468) (by decide +kernel) rfl
theorem w_i_X7_canObey : Cond.instanceMethod yX7_canObey ∈ gW := gW_in (i := 467) (by decide +kernel) rfl
theorem w_s_X7_canObey : Cond.selects yX7_canObey.cls yX7_canObey yX7_canObey ∈ gW := gW_in (i := 11) (by decide +kernel) rfl
theorem w_d_X7_canObey : yX7_canObey.cls ≠ "java/lang/invoke/MethodHandle" ∧ yX7_canObey.cls ≠ "java/lang/invoke/VarHandle" ∧ (parseMethodDescriptor yX7_canObey.desc).map (fun d => d.parameters.length) = some 1 := by decide +kernel
theorem LBX7_235 : g_LB RX7 235 yX7_canObey cX7_canObey 4 (some .boolean) 1 := ⟨gW_in (i := 465) (by decide +kernel) rfl, w_ini_X7, w_c_X7_canObey, w_d_X7_canObey⟩
theorem LX7_235 : g_LV RX7 235 yX7_canObey cX7_canObey 4 (some .boolean) 1 7 := ⟨LBX7_235, w_i_X7_canObey, w_s_X7_canObey, _, _, rfl⟩
theorem w_c_X7_obey : Cond.code yX7_obey cX7_obey 4 none ∈ gW := gW_in (i := 558) (by decide +kernel) rfl
theorem w_i_X7_obey : Cond.instanceMethod yX7_obey ∈ gW := gW_in (i := 557) (by decide +kernel) rfl
theorem w_s_X7_obey : Cond.selects yX7_obey.cls yX7_obey yX7_obey ∈ gW := gW_in (i := 13) (by decide +kernel) rfl
theorem w_d_X7_obey : yX7_obey.cls ≠ "java/lang/invoke/MethodHandle" ∧ yX7_obey.cls ≠ "java/lang/invoke/VarHandle" ∧ (parseMethodDescriptor yX7_obey.desc).map (fun d => d.parameters.length) = some 1 := by decide +kernel
theorem LBX7_238 : g_LB RX7 238 yX7_obey cX7_obey 4 none 1 := ⟨gW_in (i := 555) (by decide +kernel) rfl, w_ini_X7, w_c_X7_obey, w_d_X7_obey⟩
theorem LX7_238 : g_LV RX7 238 yX7_obey cX7_obey 4 none 1 7 := ⟨LBX7_238, w_i_X7_obey, w_s_X7_obey, _, _, rfl⟩
theorem LBX7_241 : g_LB RX7 241 yX6_behindOrder cX6_behindOrder 2 (some .int) 1 := ⟨gW_in (i := 640) (by decide +kernel) rfl, w_ini_X6, w_c_X6_behindOrder, w_d_X6_behindOrder⟩
theorem LX7_241 : g_LV RX7 241 yX6_behindOrder cX6_behindOrder 2 (some .int) 1 6 := ⟨LBX7_241, w_i_X6_behindOrder, w_s_X6_behindOrder, _, _, rfl⟩
theorem w_c_X0_copyFrom : Cond.code yX0_copyFrom cX0_copyFrom 3 none ∈ gW := gW_in (i := 444) (by decide +kernel) rfl
theorem w_i_X0_copyFrom : Cond.instanceMethod yX0_copyFrom ∈ gW := gW_in (i := 442) (by decide +kernel) rfl
theorem w_s_X0_copyFrom : Cond.selects yX0_copyFrom.cls yX0_copyFrom yX0_copyFrom ∈ gW := gW_in (i := 443) (by decide +kernel) rfl
theorem w_d_X0_copyFrom : yX0_copyFrom.cls ≠ "java/lang/invoke/MethodHandle" ∧ yX0_copyFrom.cls ≠ "java/lang/invoke/VarHandle" ∧ (parseMethodDescriptor yX0_copyFrom.desc).map (fun d => d.parameters.length) = some 1 := by decide +kernel
theorem LBX7_244 : g_LB RX7 244 yX0_copyFrom cX0_copyFrom 3 none 1 := ⟨gW_in (i := 441) (by decide +kernel) rfl, w_ini_X0, w_c_X0_copyFrom, w_d_X0_copyFrom⟩
theorem LX7_244 : g_LV RX7 244 yX0_copyFrom cX0_copyFrom 3 none 1 0 := ⟨LBX7_244, w_i_X0_copyFrom, w_s_X0_copyFrom, _, _, rfl⟩
theorem w_c_X0_hash : Cond.code yX0_hash cX0_hash 5 (some .long) ∈ gW := gW_in (i := 649) (by decide +kernel) rfl
theorem w_i_X0_hash : Cond.instanceMethod yX0_hash ∈ gW := gW_in (i := 647) (by decide +kernel) rfl
theorem w_s_X0_hash : Cond.selects yX0_hash.cls yX0_hash yX0_hash ∈ gW := gW_in (i := 648) (by decide +kernel) rfl
theorem w_d_X0_hash : yX0_hash.cls ≠ "java/lang/invoke/MethodHandle" ∧ yX0_hash.cls ≠ "java/lang/invoke/VarHandle" ∧ (parseMethodDescriptor yX0_hash.desc).map (fun d => d.parameters.length) = some 1 := by decide +kernel
theorem LBX7_250 : g_LB RX7 250 yX0_hash cX0_hash 5 (some .long) 1 := ⟨gW_in (i := 646) (by decide +kernel) rfl, w_ini_X0, w_c_X0_hash, w_d_X0_hash⟩
theorem LX7_250 : g_LV RX7 250 yX0_hash cX0_hash 5 (some .long) 1 0 := ⟨LBX7_250, w_i_X0_hash, w_s_X0_hash, _, _, rfl⟩
theorem w_c_X7_dropOldest : Cond.code yX7_dropOldest cX7_dropOldest 3 none ∈ gW := gW_in (i := 440) (by decide +kernel) rfl
theorem w_i_X7_dropOldest : Cond.instanceMethod yX7_dropOldest ∈ gW := gW_in (i := 439) (by decide +kernel) rfl
theorem w_s_X7_dropOldest : Cond.selects yX7_dropOldest.cls yX7_dropOldest yX7_dropOldest ∈ gW := gW_in (i := 10) (by decide +kernel) rfl
theorem w_d_X7_dropOldest : yX7_dropOldest.cls ≠ "java/lang/invoke/MethodHandle" ∧ yX7_dropOldest.cls ≠ "java/lang/invoke/VarHandle" ∧ (parseMethodDescriptor yX7_dropOldest.desc).map (fun d => d.parameters.length) = some 0 := by decide +kernel
theorem LBX7_273 : g_LB RX7 273 yX7_dropOldest cX7_dropOldest 3 none 0 := ⟨gW_in (i := 437) (by decide +kernel) rfl, w_ini_X7, w_c_X7_dropOldest, w_d_X7_dropOldest⟩
theorem LX7_273 : g_LV RX7 273 yX7_dropOldest cX7_dropOldest 3 none 0 7 := ⟨LBX7_273, w_i_X7_dropOldest, w_s_X7_dropOldest, _, _, rfl⟩
theorem LBX7_276 : g_LB RX7 276 yX6_digitAt cX6_digitAt 3 (some .int) 1 := ⟨gW_in (i := 469) (by decide +kernel) rfl, w_ini_X6, w_c_X6_digitAt, w_d_X6_digitAt⟩
theorem LX7_276 : g_LV RX7 276 yX6_digitAt cX6_digitAt 3 (some .int) 1 6 := ⟨LBX7_276, w_i_X6_digitAt, w_s_X6_digitAt, _, _, rfl⟩
theorem LBX7_279 : g_LB RX7 279 yX6_byteAt cX6_byteAt 2 (some .int) 1 := ⟨gW_in (i := 470) (by decide +kernel) rfl, w_ini_X6, w_c_X6_byteAt, w_d_X6_byteAt⟩
theorem LX7_279 : g_LV RX7 279 yX6_byteAt cX6_byteAt 2 (some .int) 1 6 := ⟨LBX7_279, w_i_X6_byteAt, w_s_X6_byteAt, _, _, rfl⟩
theorem w_c_X6_setAt : Cond.code yX6_setAt cX6_setAt 5 (some .int) ∈ gW := gW_in (i := 530) (by decide +kernel) rfl
theorem w_i_X6_setAt : Cond.instanceMethod yX6_setAt ∈ gW := gW_in (i := 528) (by decide +kernel) rfl
theorem w_s_X6_setAt : Cond.selects yX6_setAt.cls yX6_setAt yX6_setAt ∈ gW := gW_in (i := 529) (by decide +kernel) rfl
theorem w_d_X6_setAt : yX6_setAt.cls ≠ "java/lang/invoke/MethodHandle" ∧ yX6_setAt.cls ≠ "java/lang/invoke/VarHandle" ∧ (parseMethodDescriptor yX6_setAt.desc).map (fun d => d.parameters.length) = some 1 := by decide +kernel
theorem LBX7_282 : g_LB RX7 282 yX6_setAt cX6_setAt 5 (some .int) 1 := ⟨gW_in (i := 527) (by decide +kernel) rfl, w_ini_X6, w_c_X6_setAt, w_d_X6_setAt⟩
theorem LX7_282 : g_LV RX7 282 yX6_setAt cX6_setAt 5 (some .int) 1 6 := ⟨LBX7_282, w_i_X6_setAt, w_s_X6_setAt, _, _, rfl⟩
theorem w_c_X6_numberAt : Cond.code yX6_numberAt cX6_numberAt 2 (some .int) ∈ gW := gW_in (i := 549) (by decide +kernel) rfl
theorem w_i_X6_numberAt : Cond.instanceMethod yX6_numberAt ∈ gW := gW_in (i := 547) (by decide +kernel) rfl
theorem w_s_X6_numberAt : Cond.selects yX6_numberAt.cls yX6_numberAt yX6_numberAt ∈ gW := gW_in (i := 548) (by decide +kernel) rfl
theorem w_d_X6_numberAt : yX6_numberAt.cls ≠ "java/lang/invoke/MethodHandle" ∧ yX6_numberAt.cls ≠ "java/lang/invoke/VarHandle" ∧ (parseMethodDescriptor yX6_numberAt.desc).map (fun d => d.parameters.length) = some 1 := by decide +kernel
theorem LBX7_285 : g_LB RX7 285 yX6_numberAt cX6_numberAt 2 (some .int) 1 := ⟨gW_in (i := 546) (by decide +kernel) rfl, w_ini_X6, w_c_X6_numberAt, w_d_X6_numberAt⟩
theorem LX7_285 : g_LV RX7 285 yX6_numberAt cX6_numberAt 2 (some .int) 1 6 := ⟨LBX7_285, w_i_X6_numberAt, w_s_X6_numberAt, _, _, rfl⟩
theorem w_c_X7_requireRange : Cond.code yX7_requireRange cX7_requireRange 3 none ∈ gW := gW_in (i := 704) (by decide +kernel) rfl
theorem w_t_X7_requireRange : Cond.static yX7_requireRange ∈ gW := gW_in (i := 703) (by decide +kernel) rfl
theorem w_d_X7_requireRange : yX7_requireRange.cls ≠ "java/lang/invoke/MethodHandle" ∧ yX7_requireRange.cls ≠ "java/lang/invoke/VarHandle" ∧ (parseMethodDescriptor yX7_requireRange.desc).map (fun d => d.parameters.length) = some 3 := by decide +kernel
theorem LBX7_31 : g_LB RX7 31 yX7_requireRange cX7_requireRange 3 none 3 := ⟨gW_in (i := 702) (by decide +kernel) rfl, w_ini_X7, w_c_X7_requireRange, w_d_X7_requireRange⟩
theorem LX7_31 : g_LS RX7 31 yX7_requireRange cX7_requireRange 3 none 3 := ⟨LBX7_31, w_t_X7_requireRange⟩
theorem w_c_X7_save : Cond.code yX7_save cX7_save 1 none ∈ gW := gW_in (i := 436) (by decide +kernel) rfl
theorem w_i_X7_save : Cond.instanceMethod yX7_save ∈ gW := gW_in (i := 435) (by decide +kernel) rfl
theorem w_s_X7_save : Cond.selects yX7_save.cls yX7_save yX7_save ∈ gW := gW_in (i := 9) (by decide +kernel) rfl
theorem w_d_X7_save : yX7_save.cls ≠ "java/lang/invoke/MethodHandle" ∧ yX7_save.cls ≠ "java/lang/invoke/VarHandle" ∧ (parseMethodDescriptor yX7_save.desc).map (fun d => d.parameters.length) = some 0 := by decide +kernel
theorem LBX7_38 : g_LB RX7 38 yX7_save cX7_save 1 none 0 := ⟨gW_in (i := 433) (by decide +kernel) rfl, w_ini_X7, w_c_X7_save, w_d_X7_save⟩
theorem LX7_38 : g_LV RX7 38 yX7_save cX7_save 1 none 0 7 := ⟨LBX7_38, w_i_X7_save, w_s_X7_save, _, _, rfl⟩
theorem w_c_X0_startAnew : Cond.code yX0_startAnew cX0_startAnew 2 none ∈ gW := gW_in (i := 779) (by decide +kernel) rfl
theorem w_i_X0_startAnew : Cond.instanceMethod yX0_startAnew ∈ gW := gW_in (i := 777) (by decide +kernel) rfl
theorem w_s_X0_startAnew : Cond.selects yX0_startAnew.cls yX0_startAnew yX0_startAnew ∈ gW := gW_in (i := 778) (by decide +kernel) rfl
theorem w_d_X0_startAnew : yX0_startAnew.cls ≠ "java/lang/invoke/MethodHandle" ∧ yX0_startAnew.cls ≠ "java/lang/invoke/VarHandle" ∧ (parseMethodDescriptor yX0_startAnew.desc).map (fun d => d.parameters.length) = some 1 := by decide +kernel
theorem LBX7_41 : g_LB RX7 41 yX0_startAnew cX0_startAnew 2 none 1 := ⟨gW_in (i := 776) (by decide +kernel) rfl, w_ini_X0, w_c_X0_startAnew, w_d_X0_startAnew⟩
theorem LX7_41 : g_LV RX7 41 yX0_startAnew cX0_startAnew 2 none 1 0 := ⟨LBX7_41, w_i_X0_startAnew, w_s_X0_startAnew, _, _, rfl⟩
theorem w_c_X7_requireIndex : Cond.code yX7_requireIndex cX7_requireIndex 2 none ∈ gW := gW_in (i := 795) (by decide +kernel) rfl
theorem w_t_X7_requireIndex : Cond.static yX7_requireIndex ∈ gW := gW_in (i := 794) (by decide +kernel) rfl
theorem w_d_X7_requireIndex : yX7_requireIndex.cls ≠ "java/lang/invoke/MethodHandle" ∧ yX7_requireIndex.cls ≠ "java/lang/invoke/VarHandle" ∧ (parseMethodDescriptor yX7_requireIndex.desc).map (fun d => d.parameters.length) = some 2 := by decide +kernel
theorem LBX7_54 : g_LB RX7 54 yX7_requireIndex cX7_requireIndex 2 none 2 := ⟨gW_in (i := 793) (by decide +kernel) rfl, w_ini_X7, w_c_X7_requireIndex, w_d_X7_requireIndex⟩
theorem LX7_54 : g_LS RX7 54 yX7_requireIndex cX7_requireIndex 2 none 2 := ⟨LBX7_54, w_t_X7_requireIndex⟩
theorem w_c_X0_isInUse : Cond.code yX0_isInUse cX0_isInUse 2 (some .boolean) ∈ gW := gW_in (i := 815) (by decide +kernel) rfl
theorem w_i_X0_isInUse : Cond.instanceMethod yX0_isInUse ∈ gW := gW_in (i := 813) (by decide +kernel) rfl
theorem w_s_X0_isInUse : Cond.selects yX0_isInUse.cls yX0_isInUse yX0_isInUse ∈ gW := gW_in (i := 814) (by decide +kernel) rfl
theorem w_d_X0_isInUse : yX0_isInUse.cls ≠ "java/lang/invoke/MethodHandle" ∧ yX0_isInUse.cls ≠ "java/lang/invoke/VarHandle" ∧ (parseMethodDescriptor yX0_isInUse.desc).map (fun d => d.parameters.length) = some 1 := by decide +kernel
theorem LBX7_58 : g_LB RX7 58 yX0_isInUse cX0_isInUse 2 (some .boolean) 1 := ⟨gW_in (i := 812) (by decide +kernel) rfl, w_ini_X0, w_c_X0_isInUse, w_d_X0_isInUse⟩
theorem LX7_58 : g_LV RX7 58 yX0_isInUse cX0_isInUse 2 (some .boolean) 1 0 := ⟨LBX7_58, w_i_X0_isInUse, w_s_X0_isInUse, _, _, rfl⟩
theorem w_c_X7_requirePossible : Cond.code yX7_requirePossible cX7_requirePossible 1 none ∈ gW := gW_in (i := 818) (by decide +kernel) rfl
theorem w_t_X7_requirePossible : Cond.static yX7_requirePossible ∈ gW := gW_in (i := 817) (by decide +kernel) rfl
theorem w_d_X7_requirePossible : yX7_requirePossible.cls ≠ "java/lang/invoke/MethodHandle" ∧ yX7_requirePossible.cls ≠ "java/lang/invoke/VarHandle" ∧ (parseMethodDescriptor yX7_requirePossible.desc).map (fun d => d.parameters.length) = some 1 := by decide +kernel
theorem LBX7_62 : g_LB RX7 62 yX7_requirePossible cX7_requirePossible 1 none 1 := ⟨gW_in (i := 816) (by decide +kernel) rfl, w_ini_X7, w_c_X7_requirePossible, w_d_X7_requirePossible⟩
theorem LX7_62 : g_LS RX7 62 yX7_requirePossible cX7_requirePossible 1 none 1 := ⟨LBX7_62, w_t_X7_requirePossible⟩
theorem LBX7_66 : g_LB RX7 66 yX4_dropOf cX4_dropOf 2 (some .int) 1 := ⟨gW_in (i := 835) (by decide +kernel) rfl, w_ini_X4, w_c_X4_dropOf, w_d_X4_dropOf⟩
theorem LX7_66 : g_LV RX7 66 yX4_dropOf cX4_dropOf 2 (some .int) 1 4 := ⟨LBX7_66, w_i_X4_dropOf, w_s_X4_dropOf, _, _, rfl⟩
theorem w_c_X4_change : Cond.code yX4_change cX4_change 4 none ∈ gW := gW_in (i := 839) (by decide +kernel) rfl
theorem w_i_X4_change : Cond.instanceMethod yX4_change ∈ gW := gW_in (i := 837) (by decide +kernel) rfl
theorem w_s_X4_change : Cond.selects yX4_change.cls yX4_change yX4_change ∈ gW := gW_in (i := 838) (by decide +kernel) rfl
theorem w_d_X4_change : yX4_change.cls ≠ "java/lang/invoke/MethodHandle" ∧ yX4_change.cls ≠ "java/lang/invoke/VarHandle" ∧ (parseMethodDescriptor yX4_change.desc).map (fun d => d.parameters.length) = some 3 := by decide +kernel
theorem LBX7_70 : g_LB RX7 70 yX4_change cX4_change 4 none 3 := ⟨gW_in (i := 836) (by decide +kernel) rfl, w_ini_X4, w_c_X4_change, w_d_X4_change⟩
theorem LX7_70 : g_LV RX7 70 yX4_change cX4_change 4 none 3 4 := ⟨LBX7_70, w_i_X4_change, w_s_X4_change, _, _, rfl⟩
theorem w_c_X5_addOne : Cond.code yX5_addOne cX5_addOne 3 (some .int) ∈ gW := gW_in (i := 850) (by decide +kernel) rfl
theorem w_i_X5_addOne : Cond.instanceMethod yX5_addOne ∈ gW := gW_in (i := 848) (by decide +kernel) rfl
theorem w_s_X5_addOne : Cond.selects yX5_addOne.cls yX5_addOne yX5_addOne ∈ gW := gW_in (i := 849) (by decide +kernel) rfl
theorem w_d_X5_addOne : yX5_addOne.cls ≠ "java/lang/invoke/MethodHandle" ∧ yX5_addOne.cls ≠ "java/lang/invoke/VarHandle" ∧ (parseMethodDescriptor yX5_addOne.desc).map (fun d => d.parameters.length) = some 1 := by decide +kernel
theorem LBX7_80 : g_LB RX7 80 yX5_addOne cX5_addOne 3 (some .int) 1 := ⟨gW_in (i := 847) (by decide +kernel) rfl, w_ini_X5, w_c_X5_addOne, w_d_X5_addOne⟩
theorem LX7_80 : g_LV RX7 80 yX5_addOne cX5_addOne 3 (some .int) 1 5 := ⟨LBX7_80, w_i_X5_addOne, w_s_X5_addOne, _, _, rfl⟩
theorem w_c_X0_addOne : Cond.code yX0_addOne cX0_addOne 3 (some .int) ∈ gW := gW_in (i := 862) (by decide +kernel) rfl
theorem w_i_X0_addOne : Cond.instanceMethod yX0_addOne ∈ gW := gW_in (i := 860) (by decide +kernel) rfl
theorem w_s_X0_addOne : Cond.selects yX0_addOne.cls yX0_addOne yX0_addOne ∈ gW := gW_in (i := 861) (by decide +kernel) rfl
theorem w_d_X0_addOne : yX0_addOne.cls ≠ "java/lang/invoke/MethodHandle" ∧ yX0_addOne.cls ≠ "java/lang/invoke/VarHandle" ∧ (parseMethodDescriptor yX0_addOne.desc).map (fun d => d.parameters.length) = some 1 := by decide +kernel
theorem LBX7_86 : g_LB RX7 86 yX0_addOne cX0_addOne 3 (some .int) 1 := ⟨gW_in (i := 859) (by decide +kernel) rfl, w_ini_X0, w_c_X0_addOne, w_d_X0_addOne⟩
theorem LX7_86 : g_LV RX7 86 yX0_addOne cX0_addOne 3 (some .int) 1 0 := ⟨LBX7_86, w_i_X0_addOne, w_s_X0_addOne, _, _, rfl⟩
theorem w_c_X0_init : Cond.code yX0_init cX0_init 2 none ∈ gW := gW_in (i := 102) (by decide +kernel) rfl
theorem w_i_X0_init : Cond.instanceMethod yX0_init ∈ gW := gW_in (i := 101) (by decide +kernel) rfl
theorem w_d_X0_init : yX0_init.cls ≠ "java/lang/invoke/MethodHandle" ∧ yX0_init.cls ≠ "java/lang/invoke/VarHandle" ∧ (parseMethodDescriptor yX0_init.desc).map (fun d => d.parameters.length) = some 0 := by decide +kernel
theorem LBX7_9 : g_LB RX7 9 yX0_init cX0_init 2 none 0 := ⟨gW_in (i := 100) (by decide +kernel) rfl, w_ini_X0, w_c_X0_init, w_d_X0_init⟩
theorem w_c_X0_canWalk : Cond.code yX0_canWalk cX0_canWalk 3 (some .boolean) ∈ gW := gW_in (i := 474) (by decide +kernel) rfl
theorem w_i_X0_canWalk : Cond.instanceMethod yX0_canWalk ∈ gW := gW_in (i := 472) (by decide +kernel) rfl
theorem w_s_X0_canWalk : Cond.selects yX0_canWalk.cls yX0_canWalk yX0_canWalk ∈ gW := gW_in (i := 473) (by decide +kernel) rfl
theorem w_d_X0_canWalk : yX0_canWalk.cls ≠ "java/lang/invoke/MethodHandle" ∧ yX0_canWalk.cls ≠ "java/lang/invoke/VarHandle" ∧ (parseMethodDescriptor yX0_canWalk.desc).map (fun d => d.parameters.length) = some 2 := by decide +kernel
theorem LBX7_94 : g_LB RX7 94 yX0_canWalk cX0_canWalk 3 (some .boolean) 2 := ⟨gW_in (i := 471) (by decide +kernel) rfl, w_ini_X0, w_c_X0_canWalk, w_d_X0_canWalk⟩
theorem LX7_94 : g_LV RX7 94 yX0_canWalk cX0_canWalk 3 (some .boolean) 2 0 := ⟨LBX7_94, w_i_X0_canWalk, w_s_X0_canWalk, _, _, rfl⟩
theorem LBX7_98 : g_LB RX7 98 yX0_startWalk cX0_startWalk 5 (some .int) 2 := ⟨gW_in (i := 559) (by decide +kernel) rfl, w_ini_X0, w_c_X0_startWalk, w_d_X0_startWalk⟩
theorem LX7_98 : g_LV RX7 98 yX0_startWalk cX0_startWalk 5 (some .int) 2 0 := ⟨LBX7_98, w_i_X0_startWalk, w_s_X0_startWalk, _, _, rfl⟩
theorem w_c_X8_init : Cond.code yX8_init cX8_init 1 none ∈ gW := gW_in (i := 1079) (by decide +kernel) rfl
theorem w_i_X8_init : Cond.instanceMethod yX8_init ∈ gW := gW_in (i := 1078) (by decide +kernel) rfl
theorem w_d_X8_init : yX8_init.cls ≠ "java/lang/invoke/MethodHandle" ∧ yX8_init.cls ≠ "java/lang/invoke/VarHandle" ∧ (parseMethodDescriptor yX8_init.desc).map (fun d => d.parameters.length) = some 0 := by decide +kernel
theorem LBL_100 : g_LB RL 100 yX8_init cX8_init 1 none 0 := ⟨gW_in (i := 1077) (by decide +kernel) rfl, w_ini_X8, w_c_X8_init, w_d_X8_init⟩
theorem w_c_X8_begin : Cond.code yX8_begin cX8_begin 2 (some .int) ∈ gW := gW_in (i := 1132) (by decide +kernel) rfl
theorem w_i_X8_begin : Cond.instanceMethod yX8_begin ∈ gW := gW_in (i := 1130) (by decide +kernel) rfl
theorem w_s_X8_begin : Cond.selects yX8_begin.cls yX8_begin yX8_begin ∈ gW := gW_in (i := 1131) (by decide +kernel) rfl
theorem w_d_X8_begin : yX8_begin.cls ≠ "java/lang/invoke/MethodHandle" ∧ yX8_begin.cls ≠ "java/lang/invoke/VarHandle" ∧ (parseMethodDescriptor yX8_begin.desc).map (fun d => d.parameters.length) = some 1 := by decide +kernel
theorem LBL_106 : g_LB RL 106 yX8_begin cX8_begin 2 (some .int) 1 := ⟨gW_in (i := 1129) (by decide +kernel) rfl, w_ini_X8, w_c_X8_begin, w_d_X8_begin⟩
theorem LL_106 : g_LV RL 106 yX8_begin cX8_begin 2 (some .int) 1 8 := ⟨LBL_106, w_i_X8_begin, w_s_X8_begin, _, _, rfl⟩
theorem w_c_X8_thrown : Cond.code yX8_thrown cX8_thrown 1 (some .int) ∈ gW := gW_in (i := 1128) (by decide +kernel) rfl
theorem w_i_X8_thrown : Cond.instanceMethod yX8_thrown ∈ gW := gW_in (i := 1126) (by decide +kernel) rfl
theorem w_s_X8_thrown : Cond.selects yX8_thrown.cls yX8_thrown yX8_thrown ∈ gW := gW_in (i := 1127) (by decide +kernel) rfl
theorem w_d_X8_thrown : yX8_thrown.cls ≠ "java/lang/invoke/MethodHandle" ∧ yX8_thrown.cls ≠ "java/lang/invoke/VarHandle" ∧ (parseMethodDescriptor yX8_thrown.desc).map (fun d => d.parameters.length) = some 0 := by decide +kernel
theorem LBL_107 : g_LB RL 107 yX8_thrown cX8_thrown 1 (some .int) 0 := ⟨gW_in (i := 1125) (by decide +kernel) rfl, w_ini_X8, w_c_X8_thrown, w_d_X8_thrown⟩
theorem LL_107 : g_LV RL 107 yX8_thrown cX8_thrown 1 (some .int) 0 8 := ⟨LBL_107, w_i_X8_thrown, w_s_X8_thrown, _, _, rfl⟩
theorem w_c_X8_setPassage : Cond.code yX8_setPassage cX8_setPassage 4 (some .int) ∈ gW := gW_in (i := 1155) (by decide +kernel) rfl
theorem w_i_X8_setPassage : Cond.instanceMethod yX8_setPassage ∈ gW := gW_in (i := 1153) (by decide +kernel) rfl
theorem w_s_X8_setPassage : Cond.selects yX8_setPassage.cls yX8_setPassage yX8_setPassage ∈ gW := gW_in (i := 1154) (by decide +kernel) rfl
theorem w_d_X8_setPassage : yX8_setPassage.cls ≠ "java/lang/invoke/MethodHandle" ∧ yX8_setPassage.cls ≠ "java/lang/invoke/VarHandle" ∧ (parseMethodDescriptor yX8_setPassage.desc).map (fun d => d.parameters.length) = some 3 := by decide +kernel
theorem LBL_113 : g_LB RL 113 yX8_setPassage cX8_setPassage 4 (some .int) 3 := ⟨gW_in (i := 1152) (by decide +kernel) rfl, w_ini_X8, w_c_X8_setPassage, w_d_X8_setPassage⟩
theorem LL_113 : g_LV RL 113 yX8_setPassage cX8_setPassage 4 (some .int) 3 8 := ⟨LBL_113, w_i_X8_setPassage, w_s_X8_setPassage, _, _, rfl⟩
theorem w_c_X8_addRope : Cond.code yX8_addRope cX8_addRope 3 (some .int) ∈ gW := gW_in (i := 1179) (by decide +kernel) rfl
theorem w_i_X8_addRope : Cond.instanceMethod yX8_addRope ∈ gW := gW_in (i := 1177) (by decide +kernel) rfl
theorem w_s_X8_addRope : Cond.selects yX8_addRope.cls yX8_addRope yX8_addRope ∈ gW := gW_in (i := 1178) (by decide +kernel) rfl
theorem w_d_X8_addRope : yX8_addRope.cls ≠ "java/lang/invoke/MethodHandle" ∧ yX8_addRope.cls ≠ "java/lang/invoke/VarHandle" ∧ (parseMethodDescriptor yX8_addRope.desc).map (fun d => d.parameters.length) = some 1 := by decide +kernel
theorem LBL_116 : g_LB RL 116 yX8_addRope cX8_addRope 3 (some .int) 1 := ⟨gW_in (i := 1176) (by decide +kernel) rfl, w_ini_X8, w_c_X8_addRope, w_d_X8_addRope⟩
theorem LL_116 : g_LV RL 116 yX8_addRope cX8_addRope 3 (some .int) 1 8 := ⟨LBL_116, w_i_X8_addRope, w_s_X8_addRope, _, _, rfl⟩
theorem w_c_X8_addHelper : Cond.code yX8_addHelper cX8_addHelper 4 (some .int) ∈ gW := gW_in (i := 1183) (by decide +kernel) rfl
theorem w_i_X8_addHelper : Cond.instanceMethod yX8_addHelper ∈ gW := gW_in (i := 1181) (by decide +kernel) rfl
theorem w_s_X8_addHelper : Cond.selects yX8_addHelper.cls yX8_addHelper yX8_addHelper ∈ gW := gW_in (i := 1182) (by decide +kernel) rfl
theorem w_d_X8_addHelper : yX8_addHelper.cls ≠ "java/lang/invoke/MethodHandle" ∧ yX8_addHelper.cls ≠ "java/lang/invoke/VarHandle" ∧ (parseMethodDescriptor yX8_addHelper.desc).map (fun d => d.parameters.length) = some 1 := by decide +kernel
theorem LBL_119 : g_LB RL 119 yX8_addHelper cX8_addHelper 4 (some .int) 1 := ⟨gW_in (i := 1180) (by decide +kernel) rfl, w_ini_X8, w_c_X8_addHelper, w_d_X8_addHelper⟩
theorem LL_119 : g_LV RL 119 yX8_addHelper cX8_addHelper 4 (some .int) 1 8 := ⟨LBL_119, w_i_X8_addHelper, w_s_X8_addHelper, _, _, rfl⟩
theorem w_c_X8_setSilence : Cond.code yX8_setSilence cX8_setSilence 3 (some .int) ∈ gW := gW_in (i := 1191) (by decide +kernel) rfl
theorem w_i_X8_setSilence : Cond.instanceMethod yX8_setSilence ∈ gW := gW_in (i := 1189) (by decide +kernel) rfl
theorem w_s_X8_setSilence : Cond.selects yX8_setSilence.cls yX8_setSilence yX8_setSilence ∈ gW := gW_in (i := 1190) (by decide +kernel) rfl
theorem w_d_X8_setSilence : yX8_setSilence.cls ≠ "java/lang/invoke/MethodHandle" ∧ yX8_setSilence.cls ≠ "java/lang/invoke/VarHandle" ∧ (parseMethodDescriptor yX8_setSilence.desc).map (fun d => d.parameters.length) = some 2 := by decide +kernel
theorem LBL_123 : g_LB RL 123 yX8_setSilence cX8_setSilence 3 (some .int) 2 := ⟨gW_in (i := 1188) (by decide +kernel) rfl, w_ini_X8, w_c_X8_setSilence, w_d_X8_setSilence⟩
theorem LL_123 : g_LV RL 123 yX8_setSilence cX8_setSilence 3 (some .int) 2 8 := ⟨LBL_123, w_i_X8_setSilence, w_s_X8_setSilence, _, _, rfl⟩
theorem w_c_X8_go : Cond.code yX8_go cX8_go 3 (some .int) ∈ gW := gW_in (i := 1196) (by decide +kernel) rfl
theorem w_i_X8_go : Cond.instanceMethod yX8_go ∈ gW := gW_in (i := 1194) (by decide +kernel) rfl
theorem w_s_X8_go : Cond.selects yX8_go.cls yX8_go yX8_go ∈ gW := gW_in (i := 1195) (by decide +kernel) rfl
theorem w_d_X8_go : yX8_go.cls ≠ "java/lang/invoke/MethodHandle" ∧ yX8_go.cls ≠ "java/lang/invoke/VarHandle" ∧ (parseMethodDescriptor yX8_go.desc).map (fun d => d.parameters.length) = some 2 := by decide +kernel
theorem LBL_126 : g_LB RL 126 yX8_go cX8_go 3 (some .int) 2 := ⟨gW_in (i := 1193) (by decide +kernel) rfl, w_ini_X8, w_c_X8_go, w_d_X8_go⟩
theorem LL_126 : g_LV RL 126 yX8_go cX8_go 3 (some .int) 2 8 := ⟨LBL_126, w_i_X8_go, w_s_X8_go, _, _, rfl⟩
theorem w_c_X8_take : Cond.code yX8_take cX8_take 3 (some .int) ∈ gW := gW_in (i := 1248) (by decide +kernel) rfl
theorem w_i_X8_take : Cond.instanceMethod yX8_take ∈ gW := gW_in (i := 1246) (by decide +kernel) rfl
theorem w_s_X8_take : Cond.selects yX8_take.cls yX8_take yX8_take ∈ gW := gW_in (i := 1247) (by decide +kernel) rfl
theorem w_d_X8_take : yX8_take.cls ≠ "java/lang/invoke/MethodHandle" ∧ yX8_take.cls ≠ "java/lang/invoke/VarHandle" ∧ (parseMethodDescriptor yX8_take.desc).map (fun d => d.parameters.length) = some 2 := by decide +kernel
theorem LBL_129 : g_LB RL 129 yX8_take cX8_take 3 (some .int) 2 := ⟨gW_in (i := 1245) (by decide +kernel) rfl, w_ini_X8, w_c_X8_take, w_d_X8_take⟩
theorem LL_129 : g_LV RL 129 yX8_take cX8_take 3 (some .int) 2 8 := ⟨LBL_129, w_i_X8_take, w_s_X8_take, _, _, rfl⟩
theorem w_c_X8_lay : Cond.code yX8_lay cX8_lay 3 (some .int) ∈ gW := gW_in (i := 1264) (by decide +kernel) rfl
theorem w_i_X8_lay : Cond.instanceMethod yX8_lay ∈ gW := gW_in (i := 1262) (by decide +kernel) rfl
theorem w_s_X8_lay : Cond.selects yX8_lay.cls yX8_lay yX8_lay ∈ gW := gW_in (i := 1263) (by decide +kernel) rfl
theorem w_d_X8_lay : yX8_lay.cls ≠ "java/lang/invoke/MethodHandle" ∧ yX8_lay.cls ≠ "java/lang/invoke/VarHandle" ∧ (parseMethodDescriptor yX8_lay.desc).map (fun d => d.parameters.length) = some 1 := by decide +kernel
theorem LBL_132 : g_LB RL 132 yX8_lay cX8_lay 3 (some .int) 1 := ⟨gW_in (i := 1261) (by decide +kernel) rfl, w_ini_X8, w_c_X8_lay, w_d_X8_lay⟩
theorem LL_132 : g_LV RL 132 yX8_lay cX8_lay 3 (some .int) 1 8 := ⟨LBL_132, w_i_X8_lay, w_s_X8_lay, _, _, rfl⟩
theorem w_c_X8_rig : Cond.code yX8_rig cX8_rig 2 (some .int) ∈ gW := gW_in (i := 1272) (by decide +kernel) rfl
theorem w_i_X8_rig : Cond.instanceMethod yX8_rig ∈ gW := gW_in (i := 1270) (by decide +kernel) rfl
theorem w_s_X8_rig : Cond.selects yX8_rig.cls yX8_rig yX8_rig ∈ gW := gW_in (i := 1271) (by decide +kernel) rfl
theorem w_d_X8_rig : yX8_rig.cls ≠ "java/lang/invoke/MethodHandle" ∧ yX8_rig.cls ≠ "java/lang/invoke/VarHandle" ∧ (parseMethodDescriptor yX8_rig.desc).map (fun d => d.parameters.length) = some 1 := by decide +kernel
theorem LBL_135 : g_LB RL 135 yX8_rig cX8_rig 2 (some .int) 1 := ⟨gW_in (i := 1269) (by decide +kernel) rfl, w_ini_X8, w_c_X8_rig, w_d_X8_rig⟩
theorem LL_135 : g_LV RL 135 yX8_rig cX8_rig 2 (some .int) 1 8 := ⟨LBL_135, w_i_X8_rig, w_s_X8_rig, _, _, rfl⟩
theorem w_c_X8_takeOff : Cond.code yX8_takeOff cX8_takeOff 4 (some .int) ∈ gW := gW_in (i := 1284) (by decide +kernel) rfl
theorem w_i_X8_takeOff : Cond.instanceMethod yX8_takeOff ∈ gW := gW_in (i := 1282) (by decide +kernel) rfl
theorem w_s_X8_takeOff : Cond.selects yX8_takeOff.cls yX8_takeOff yX8_takeOff ∈ gW := gW_in (i := 1283) (by decide +kernel) rfl
theorem w_d_X8_takeOff : yX8_takeOff.cls ≠ "java/lang/invoke/MethodHandle" ∧ yX8_takeOff.cls ≠ "java/lang/invoke/VarHandle" ∧ (parseMethodDescriptor yX8_takeOff.desc).map (fun d => d.parameters.length) = some 1 := by decide +kernel
theorem LBL_138 : g_LB RL 138 yX8_takeOff cX8_takeOff 4 (some .int) 1 := ⟨gW_in (i := 1281) (by decide +kernel) rfl, w_ini_X8, w_c_X8_takeOff, w_d_X8_takeOff⟩
theorem LL_138 : g_LV RL 138 yX8_takeOff cX8_takeOff 4 (some .int) 1 8 := ⟨LBL_138, w_i_X8_takeOff, w_s_X8_takeOff, _, _, rfl⟩
theorem w_c_X8_carry : Cond.code yX8_carry cX8_carry 2 (some .int) ∈ gW := gW_in (i := 1288) (by decide +kernel) rfl
theorem w_i_X8_carry : Cond.instanceMethod yX8_carry ∈ gW := gW_in (i := 1286) (by decide +kernel) rfl
theorem w_s_X8_carry : Cond.selects yX8_carry.cls yX8_carry yX8_carry ∈ gW := gW_in (i := 1287) (by decide +kernel) rfl
theorem w_d_X8_carry : yX8_carry.cls ≠ "java/lang/invoke/MethodHandle" ∧ yX8_carry.cls ≠ "java/lang/invoke/VarHandle" ∧ (parseMethodDescriptor yX8_carry.desc).map (fun d => d.parameters.length) = some 1 := by decide +kernel
theorem LBL_141 : g_LB RL 141 yX8_carry cX8_carry 2 (some .int) 1 := ⟨gW_in (i := 1285) (by decide +kernel) rfl, w_ini_X8, w_c_X8_carry, w_d_X8_carry⟩
theorem LL_141 : g_LV RL 141 yX8_carry cX8_carry 2 (some .int) 1 8 := ⟨LBL_141, w_i_X8_carry, w_s_X8_carry, _, _, rfl⟩
theorem w_c_X8_send : Cond.code yX8_send cX8_send 2 (some .int) ∈ gW := gW_in (i := 1307) (by decide +kernel) rfl
theorem w_i_X8_send : Cond.instanceMethod yX8_send ∈ gW := gW_in (i := 1305) (by decide +kernel) rfl
theorem w_s_X8_send : Cond.selects yX8_send.cls yX8_send yX8_send ∈ gW := gW_in (i := 1306) (by decide +kernel) rfl
theorem w_d_X8_send : yX8_send.cls ≠ "java/lang/invoke/MethodHandle" ∧ yX8_send.cls ≠ "java/lang/invoke/VarHandle" ∧ (parseMethodDescriptor yX8_send.desc).map (fun d => d.parameters.length) = some 1 := by decide +kernel
theorem LBL_144 : g_LB RL 144 yX8_send cX8_send 2 (some .int) 1 := ⟨gW_in (i := 1304) (by decide +kernel) rfl, w_ini_X8, w_c_X8_send, w_d_X8_send⟩
theorem LL_144 : g_LV RL 144 yX8_send cX8_send 2 (some .int) 1 8 := ⟨LBL_144, w_i_X8_send, w_s_X8_send, _, _, rfl⟩
theorem w_c_X8_pass : Cond.code yX8_pass cX8_pass 2 (some .int) ∈ gW := gW_in (i := 1315) (by decide +kernel) rfl
theorem w_i_X8_pass : Cond.instanceMethod yX8_pass ∈ gW := gW_in (i := 1313) (by decide +kernel) rfl
theorem w_s_X8_pass : Cond.selects yX8_pass.cls yX8_pass yX8_pass ∈ gW := gW_in (i := 1314) (by decide +kernel) rfl
theorem w_d_X8_pass : yX8_pass.cls ≠ "java/lang/invoke/MethodHandle" ∧ yX8_pass.cls ≠ "java/lang/invoke/VarHandle" ∧ (parseMethodDescriptor yX8_pass.desc).map (fun d => d.parameters.length) = some 1 := by decide +kernel
theorem LBL_147 : g_LB RL 147 yX8_pass cX8_pass 2 (some .int) 1 := ⟨gW_in (i := 1312) (by decide +kernel) rfl, w_ini_X8, w_c_X8_pass, w_d_X8_pass⟩
theorem LL_147 : g_LV RL 147 yX8_pass cX8_pass 2 (some .int) 1 8 := ⟨LBL_147, w_i_X8_pass, w_s_X8_pass, _, _, rfl⟩
theorem w_c_X7_setPassage : Cond.code yX7_setPassage cX7_setPassage 5 (some .int) ∈ gW := gW_in (i := 792) (by decide +kernel) rfl
theorem w_i_X7_setPassage : Cond.instanceMethod yX7_setPassage ∈ gW := gW_in (i := 790) (by decide +kernel) rfl
theorem w_s_X7_setPassage : Cond.selects yX7_setPassage.cls yX7_setPassage yX7_setPassage ∈ gW := gW_in (i := 791) (by decide +kernel) rfl
theorem w_d_X7_setPassage : yX7_setPassage.cls ≠ "java/lang/invoke/MethodHandle" ∧ yX7_setPassage.cls ≠ "java/lang/invoke/VarHandle" ∧ (parseMethodDescriptor yX7_setPassage.desc).map (fun d => d.parameters.length) = some 3 := by decide +kernel
theorem LBL_15 : g_LB RL 15 yX7_setPassage cX7_setPassage 5 (some .int) 3 := ⟨gW_in (i := 789) (by decide +kernel) rfl, w_ini_X7, w_c_X7_setPassage, w_d_X7_setPassage⟩
theorem LL_15 : g_LV RL 15 yX7_setPassage cX7_setPassage 5 (some .int) 3 7 := ⟨LBL_15, w_i_X7_setPassage, w_s_X7_setPassage, _, _, rfl⟩
theorem w_c_X8_passage : Cond.code yX8_passage cX8_passage 3 (some .int) ∈ gW := gW_in (i := 1339) (by decide +kernel) rfl
theorem w_i_X8_passage : Cond.instanceMethod yX8_passage ∈ gW := gW_in (i := 1337) (by decide +kernel) rfl
theorem w_s_X8_passage : Cond.selects yX8_passage.cls yX8_passage yX8_passage ∈ gW := gW_in (i := 1338) (by decide +kernel) rfl
theorem w_d_X8_passage : yX8_passage.cls ≠ "java/lang/invoke/MethodHandle" ∧ yX8_passage.cls ≠ "java/lang/invoke/VarHandle" ∧ (parseMethodDescriptor yX8_passage.desc).map (fun d => d.parameters.length) = some 2 := by decide +kernel
theorem LBL_150 : g_LB RL 150 yX8_passage cX8_passage 3 (some .int) 2 := ⟨gW_in (i := 1336) (by decide +kernel) rfl, w_ini_X8, w_c_X8_passage, w_d_X8_passage⟩
theorem LL_150 : g_LV RL 150 yX8_passage cX8_passage 3 (some .int) 2 8 := ⟨LBL_150, w_i_X8_passage, w_s_X8_passage, _, _, rfl⟩
theorem w_c_X8_rope : Cond.code yX8_rope cX8_rope 3 (some .int) ∈ gW := gW_in (i := 1347) (by decide +kernel) rfl
theorem w_i_X8_rope : Cond.instanceMethod yX8_rope ∈ gW := gW_in (i := 1345) (by decide +kernel) rfl
theorem w_s_X8_rope : Cond.selects yX8_rope.cls yX8_rope yX8_rope ∈ gW := gW_in (i := 1346) (by decide +kernel) rfl
theorem w_d_X8_rope : yX8_rope.cls ≠ "java/lang/invoke/MethodHandle" ∧ yX8_rope.cls ≠ "java/lang/invoke/VarHandle" ∧ (parseMethodDescriptor yX8_rope.desc).map (fun d => d.parameters.length) = some 2 := by decide +kernel
theorem LBL_153 : g_LB RL 153 yX8_rope cX8_rope 3 (some .int) 2 := ⟨gW_in (i := 1344) (by decide +kernel) rfl, w_ini_X8, w_c_X8_rope, w_d_X8_rope⟩
theorem LL_153 : g_LV RL 153 yX8_rope cX8_rope 3 (some .int) 2 8 := ⟨LBL_153, w_i_X8_rope, w_s_X8_rope, _, _, rfl⟩
theorem w_c_X8_helper : Cond.code yX8_helper cX8_helper 3 (some .int) ∈ gW := gW_in (i := 1351) (by decide +kernel) rfl
theorem w_i_X8_helper : Cond.instanceMethod yX8_helper ∈ gW := gW_in (i := 1349) (by decide +kernel) rfl
theorem w_s_X8_helper : Cond.selects yX8_helper.cls yX8_helper yX8_helper ∈ gW := gW_in (i := 1350) (by decide +kernel) rfl
theorem w_d_X8_helper : yX8_helper.cls ≠ "java/lang/invoke/MethodHandle" ∧ yX8_helper.cls ≠ "java/lang/invoke/VarHandle" ∧ (parseMethodDescriptor yX8_helper.desc).map (fun d => d.parameters.length) = some 2 := by decide +kernel
theorem LBL_156 : g_LB RL 156 yX8_helper cX8_helper 3 (some .int) 2 := ⟨gW_in (i := 1348) (by decide +kernel) rfl, w_ini_X8, w_c_X8_helper, w_d_X8_helper⟩
theorem LL_156 : g_LV RL 156 yX8_helper cX8_helper 3 (some .int) 2 8 := ⟨LBL_156, w_i_X8_helper, w_s_X8_helper, _, _, rfl⟩
theorem w_c_X8_value : Cond.code yX8_value cX8_value 2 (some .int) ∈ gW := gW_in (i := 1355) (by decide +kernel) rfl
theorem w_i_X8_value : Cond.instanceMethod yX8_value ∈ gW := gW_in (i := 1353) (by decide +kernel) rfl
theorem w_s_X8_value : Cond.selects yX8_value.cls yX8_value yX8_value ∈ gW := gW_in (i := 1354) (by decide +kernel) rfl
theorem w_d_X8_value : yX8_value.cls ≠ "java/lang/invoke/MethodHandle" ∧ yX8_value.cls ≠ "java/lang/invoke/VarHandle" ∧ (parseMethodDescriptor yX8_value.desc).map (fun d => d.parameters.length) = some 1 := by decide +kernel
theorem LBL_159 : g_LB RL 159 yX8_value cX8_value 2 (some .int) 1 := ⟨gW_in (i := 1352) (by decide +kernel) rfl, w_ini_X8, w_c_X8_value, w_d_X8_value⟩
theorem LL_159 : g_LV RL 159 yX8_value cX8_value 2 (some .int) 1 8 := ⟨LBL_159, w_i_X8_value, w_s_X8_value, _, _, rfl⟩
theorem w_c_X8_message : Cond.code yX8_message cX8_message 3 (some .int) ∈ gW := gW_in (i := 1371) (by decide +kernel) rfl
theorem w_i_X8_message : Cond.instanceMethod yX8_message ∈ gW := gW_in (i := 1369) (by decide +kernel) rfl
theorem w_s_X8_message : Cond.selects yX8_message.cls yX8_message yX8_message ∈ gW := gW_in (i := 1370) (by decide +kernel) rfl
theorem w_d_X8_message : yX8_message.cls ≠ "java/lang/invoke/MethodHandle" ∧ yX8_message.cls ≠ "java/lang/invoke/VarHandle" ∧ (parseMethodDescriptor yX8_message.desc).map (fun d => d.parameters.length) = some 2 := by decide +kernel
theorem LBL_162 : g_LB RL 162 yX8_message cX8_message 3 (some .int) 2 := ⟨gW_in (i := 1368) (by decide +kernel) rfl, w_ini_X8, w_c_X8_message, w_d_X8_message⟩
theorem LL_162 : g_LV RL 162 yX8_message cX8_message 3 (some .int) 2 8 := ⟨LBL_162, w_i_X8_message, w_s_X8_message, _, _, rfl⟩
theorem w_c_X8_carried : Cond.code yX8_carried cX8_carried 3 (some .int) ∈ gW := gW_in (i := 1375) (by decide +kernel) rfl
theorem w_i_X8_carried : Cond.instanceMethod yX8_carried ∈ gW := gW_in (i := 1373) (by decide +kernel) rfl
theorem w_s_X8_carried : Cond.selects yX8_carried.cls yX8_carried yX8_carried ∈ gW := gW_in (i := 1374) (by decide +kernel) rfl
theorem w_d_X8_carried : yX8_carried.cls ≠ "java/lang/invoke/MethodHandle" ∧ yX8_carried.cls ≠ "java/lang/invoke/VarHandle" ∧ (parseMethodDescriptor yX8_carried.desc).map (fun d => d.parameters.length) = some 2 := by decide +kernel
theorem LBL_165 : g_LB RL 165 yX8_carried cX8_carried 3 (some .int) 2 := ⟨gW_in (i := 1372) (by decide +kernel) rfl, w_ini_X8, w_c_X8_carried, w_d_X8_carried⟩
theorem LL_165 : g_LV RL 165 yX8_carried cX8_carried 3 (some .int) 2 8 := ⟨LBL_165, w_i_X8_carried, w_s_X8_carried, _, _, rfl⟩
theorem w_c_X8_why : Cond.code yX8_why cX8_why 3 (some .int) ∈ gW := gW_in (i := 1379) (by decide +kernel) rfl
theorem w_i_X8_why : Cond.instanceMethod yX8_why ∈ gW := gW_in (i := 1377) (by decide +kernel) rfl
theorem w_s_X8_why : Cond.selects yX8_why.cls yX8_why yX8_why ∈ gW := gW_in (i := 1378) (by decide +kernel) rfl
theorem w_d_X8_why : yX8_why.cls ≠ "java/lang/invoke/MethodHandle" ∧ yX8_why.cls ≠ "java/lang/invoke/VarHandle" ∧ (parseMethodDescriptor yX8_why.desc).map (fun d => d.parameters.length) = some 2 := by decide +kernel
theorem LBL_168 : g_LB RL 168 yX8_why cX8_why 3 (some .int) 2 := ⟨gW_in (i := 1376) (by decide +kernel) rfl, w_ini_X8, w_c_X8_why, w_d_X8_why⟩
theorem LL_168 : g_LV RL 168 yX8_why cX8_why 3 (some .int) 2 8 := ⟨LBL_168, w_i_X8_why, w_s_X8_why, _, _, rfl⟩
theorem w_c_X8_minutesUp : Cond.code yX8_minutesUp cX8_minutesUp 2 (some .int) ∈ gW := gW_in (i := 1383) (by decide +kernel) rfl
theorem w_i_X8_minutesUp : Cond.instanceMethod yX8_minutesUp ∈ gW := gW_in (i := 1381) (by decide +kernel) rfl
theorem w_s_X8_minutesUp : Cond.selects yX8_minutesUp.cls yX8_minutesUp yX8_minutesUp ∈ gW := gW_in (i := 1382) (by decide +kernel) rfl
theorem w_d_X8_minutesUp : yX8_minutesUp.cls ≠ "java/lang/invoke/MethodHandle" ∧ yX8_minutesUp.cls ≠ "java/lang/invoke/VarHandle" ∧ (parseMethodDescriptor yX8_minutesUp.desc).map (fun d => d.parameters.length) = some 1 := by decide +kernel
theorem LBL_171 : g_LB RL 171 yX8_minutesUp cX8_minutesUp 2 (some .int) 1 := ⟨gW_in (i := 1380) (by decide +kernel) rfl, w_ini_X8, w_c_X8_minutesUp, w_d_X8_minutesUp⟩
theorem LL_171 : g_LV RL 171 yX8_minutesUp cX8_minutesUp 2 (some .int) 1 8 := ⟨LBL_171, w_i_X8_minutesUp, w_s_X8_minutesUp, _, _, rfl⟩
theorem w_c_X8_spare : Cond.code yX8_spare cX8_spare 4 (some .int) ∈ gW := gW_in (i := 1395) (by decide +kernel) rfl
theorem w_i_X8_spare : Cond.instanceMethod yX8_spare ∈ gW := gW_in (i := 1393) (by decide +kernel) rfl
theorem w_s_X8_spare : Cond.selects yX8_spare.cls yX8_spare yX8_spare ∈ gW := gW_in (i := 1394) (by decide +kernel) rfl
theorem w_d_X8_spare : yX8_spare.cls ≠ "java/lang/invoke/MethodHandle" ∧ yX8_spare.cls ≠ "java/lang/invoke/VarHandle" ∧ (parseMethodDescriptor yX8_spare.desc).map (fun d => d.parameters.length) = some 1 := by decide +kernel
theorem LBL_174 : g_LB RL 174 yX8_spare cX8_spare 4 (some .int) 1 := ⟨gW_in (i := 1392) (by decide +kernel) rfl, w_ini_X8, w_c_X8_spare, w_d_X8_spare⟩
theorem LL_174 : g_LV RL 174 yX8_spare cX8_spare 4 (some .int) 1 8 := ⟨LBL_174, w_i_X8_spare, w_s_X8_spare, _, _, rfl⟩
theorem w_c_X8_bestRope : Cond.code yX8_bestRope cX8_bestRope 5 (some .int) ∈ gW := gW_in (i := 1399) (by decide +kernel) rfl
theorem w_i_X8_bestRope : Cond.instanceMethod yX8_bestRope ∈ gW := gW_in (i := 1397) (by decide +kernel) rfl
theorem w_s_X8_bestRope : Cond.selects yX8_bestRope.cls yX8_bestRope yX8_bestRope ∈ gW := gW_in (i := 1398) (by decide +kernel) rfl
theorem w_d_X8_bestRope : yX8_bestRope.cls ≠ "java/lang/invoke/MethodHandle" ∧ yX8_bestRope.cls ≠ "java/lang/invoke/VarHandle" ∧ (parseMethodDescriptor yX8_bestRope.desc).map (fun d => d.parameters.length) = some 1 := by decide +kernel
theorem LBL_177 : g_LB RL 177 yX8_bestRope cX8_bestRope 5 (some .int) 1 := ⟨gW_in (i := 1396) (by decide +kernel) rfl, w_ini_X8, w_c_X8_bestRope, w_d_X8_bestRope⟩
theorem LL_177 : g_LV RL 177 yX8_bestRope cX8_bestRope 5 (some .int) 1 8 := ⟨LBL_177, w_i_X8_bestRope, w_s_X8_bestRope, _, _, rfl⟩
theorem w_c_X7_carryMinutes : Cond.code yX7_carryMinutes cX7_carryMinutes 1 (some .int) ∈ gW := gW_in (i := 331) (by decide +kernel) rfl
theorem w_i_X7_carryMinutes : Cond.instanceMethod yX7_carryMinutes ∈ gW := gW_in (i := 329) (by decide +kernel) rfl
theorem w_s_X7_carryMinutes : Cond.selects yX7_carryMinutes.cls yX7_carryMinutes yX7_carryMinutes ∈ gW := gW_in (i := 330) (by decide +kernel) rfl
theorem w_d_X7_carryMinutes : yX7_carryMinutes.cls ≠ "java/lang/invoke/MethodHandle" ∧ yX7_carryMinutes.cls ≠ "java/lang/invoke/VarHandle" ∧ (parseMethodDescriptor yX7_carryMinutes.desc).map (fun d => d.parameters.length) = some 0 := by decide +kernel
theorem LBL_178 : g_LB RL 178 yX7_carryMinutes cX7_carryMinutes 1 (some .int) 0 := ⟨gW_in (i := 328) (by decide +kernel) rfl, w_ini_X7, w_c_X7_carryMinutes, w_d_X7_carryMinutes⟩
theorem LL_178 : g_LV RL 178 yX7_carryMinutes cX7_carryMinutes 1 (some .int) 0 7 := ⟨LBL_178, w_i_X7_carryMinutes, w_s_X7_carryMinutes, _, _, rfl⟩
theorem w_c_X8_carryMinutes : Cond.code yX8_carryMinutes cX8_carryMinutes 1 (some .int) ∈ gW := gW_in (i := 1403) (by decide +kernel) rfl
theorem w_i_X8_carryMinutes : Cond.instanceMethod yX8_carryMinutes ∈ gW := gW_in (i := 1401) (by decide +kernel) rfl
theorem w_s_X8_carryMinutes : Cond.selects yX8_carryMinutes.cls yX8_carryMinutes yX8_carryMinutes ∈ gW := gW_in (i := 1402) (by decide +kernel) rfl
theorem w_d_X8_carryMinutes : yX8_carryMinutes.cls ≠ "java/lang/invoke/MethodHandle" ∧ yX8_carryMinutes.cls ≠ "java/lang/invoke/VarHandle" ∧ (parseMethodDescriptor yX8_carryMinutes.desc).map (fun d => d.parameters.length) = some 0 := by decide +kernel
theorem LBL_181 : g_LB RL 181 yX8_carryMinutes cX8_carryMinutes 1 (some .int) 0 := ⟨gW_in (i := 1400) (by decide +kernel) rfl, w_ini_X8, w_c_X8_carryMinutes, w_d_X8_carryMinutes⟩
theorem LL_181 : g_LV RL 181 yX8_carryMinutes cX8_carryMinutes 1 (some .int) 0 8 := ⟨LBL_181, w_i_X8_carryMinutes, w_s_X8_carryMinutes, _, _, rfl⟩
theorem w_c_X7_team : Cond.code yX7_team cX7_team 1 (some .int) ∈ gW := gW_in (i := 351) (by decide +kernel) rfl
theorem w_i_X7_team : Cond.instanceMethod yX7_team ∈ gW := gW_in (i := 349) (by decide +kernel) rfl
theorem w_s_X7_team : Cond.selects yX7_team.cls yX7_team yX7_team ∈ gW := gW_in (i := 350) (by decide +kernel) rfl
theorem w_d_X7_team : yX7_team.cls ≠ "java/lang/invoke/MethodHandle" ∧ yX7_team.cls ≠ "java/lang/invoke/VarHandle" ∧ (parseMethodDescriptor yX7_team.desc).map (fun d => d.parameters.length) = some 0 := by decide +kernel
theorem LBL_182 : g_LB RL 182 yX7_team cX7_team 1 (some .int) 0 := ⟨gW_in (i := 348) (by decide +kernel) rfl, w_ini_X7, w_c_X7_team, w_d_X7_team⟩
theorem LL_182 : g_LV RL 182 yX7_team cX7_team 1 (some .int) 0 7 := ⟨LBL_182, w_i_X7_team, w_s_X7_team, _, _, rfl⟩
theorem w_c_X8_team : Cond.code yX8_team cX8_team 3 (some .int) ∈ gW := gW_in (i := 1407) (by decide +kernel) rfl
theorem w_i_X8_team : Cond.instanceMethod yX8_team ∈ gW := gW_in (i := 1405) (by decide +kernel) rfl
theorem w_s_X8_team : Cond.selects yX8_team.cls yX8_team yX8_team ∈ gW := gW_in (i := 1406) (by decide +kernel) rfl
theorem w_d_X8_team : yX8_team.cls ≠ "java/lang/invoke/MethodHandle" ∧ yX8_team.cls ≠ "java/lang/invoke/VarHandle" ∧ (parseMethodDescriptor yX8_team.desc).map (fun d => d.parameters.length) = some 0 := by decide +kernel
theorem LBL_185 : g_LB RL 185 yX8_team cX8_team 3 (some .int) 0 := ⟨gW_in (i := 1404) (by decide +kernel) rfl, w_ini_X8, w_c_X8_team, w_d_X8_team⟩
theorem LL_185 : g_LV RL 185 yX8_team cX8_team 3 (some .int) 0 8 := ⟨LBL_185, w_i_X8_team, w_s_X8_team, _, _, rfl⟩
theorem w_c_X8_reach : Cond.code yX8_reach cX8_reach 4 (some .int) ∈ gW := gW_in (i := 1411) (by decide +kernel) rfl
theorem w_i_X8_reach : Cond.instanceMethod yX8_reach ∈ gW := gW_in (i := 1409) (by decide +kernel) rfl
theorem w_s_X8_reach : Cond.selects yX8_reach.cls yX8_reach yX8_reach ∈ gW := gW_in (i := 1410) (by decide +kernel) rfl
theorem w_d_X8_reach : yX8_reach.cls ≠ "java/lang/invoke/MethodHandle" ∧ yX8_reach.cls ≠ "java/lang/invoke/VarHandle" ∧ (parseMethodDescriptor yX8_reach.desc).map (fun d => d.parameters.length) = some 1 := by decide +kernel
theorem LBL_188 : g_LB RL 188 yX8_reach cX8_reach 4 (some .int) 1 := ⟨gW_in (i := 1408) (by decide +kernel) rfl, w_ini_X8, w_c_X8_reach, w_d_X8_reach⟩
theorem LL_188 : g_LV RL 188 yX8_reach cX8_reach 4 (some .int) 1 8 := ⟨LBL_188, w_i_X8_reach, w_s_X8_reach, _, _, rfl⟩
theorem w_c_X7_meanTiredness : Cond.code yX7_meanTiredness cX7_meanTiredness 2 (some .double) ∈ gW := gW_in (i := 369) (by decide +kernel) rfl
theorem w_i_X7_meanTiredness : Cond.instanceMethod yX7_meanTiredness ∈ gW := gW_in (i := 367) (by decide +kernel) rfl
theorem w_s_X7_meanTiredness : Cond.selects yX7_meanTiredness.cls yX7_meanTiredness yX7_meanTiredness ∈ gW := gW_in (i := 368) (by decide +kernel) rfl
theorem w_d_X7_meanTiredness : yX7_meanTiredness.cls ≠ "java/lang/invoke/MethodHandle" ∧ yX7_meanTiredness.cls ≠ "java/lang/invoke/VarHandle" ∧ (parseMethodDescriptor yX7_meanTiredness.desc).map (fun d => d.parameters.length) = some 0 := by decide +kernel
theorem LBL_189 : g_LB RL 189 yX7_meanTiredness cX7_meanTiredness 2 (some .double) 0 := ⟨gW_in (i := 366) (by decide +kernel) rfl, w_ini_X7, w_c_X7_meanTiredness, w_d_X7_meanTiredness⟩
theorem LL_189 : g_LV RL 189 yX7_meanTiredness cX7_meanTiredness 2 (some .double) 0 7 := ⟨LBL_189, w_i_X7_meanTiredness, w_s_X7_meanTiredness, _, _, rfl⟩
theorem w_c_X8_meanTiredness : Cond.code yX8_meanTiredness cX8_meanTiredness 3 (some .double) ∈ gW := gW_in (i := 1415) (by decide +kernel) rfl
theorem w_i_X8_meanTiredness : Cond.instanceMethod yX8_meanTiredness ∈ gW := gW_in (i := 1413) (by decide +kernel) rfl
theorem w_s_X8_meanTiredness : Cond.selects yX8_meanTiredness.cls yX8_meanTiredness yX8_meanTiredness ∈ gW := gW_in (i := 1414) (by decide +kernel) rfl
theorem w_d_X8_meanTiredness : yX8_meanTiredness.cls ≠ "java/lang/invoke/MethodHandle" ∧ yX8_meanTiredness.cls ≠ "java/lang/invoke/VarHandle" ∧ (parseMethodDescriptor yX8_meanTiredness.desc).map (fun d => d.parameters.length) = some 0 := by decide +kernel
theorem LBL_193 : g_LB RL 193 yX8_meanTiredness cX8_meanTiredness 3 (some .double) 0 := ⟨gW_in (i := 1412) (by decide +kernel) rfl, w_ini_X8, w_c_X8_meanTiredness, w_d_X8_meanTiredness⟩
theorem LL_193 : g_LV RL 193 yX8_meanTiredness cX8_meanTiredness 3 (some .double) 0 8 := ⟨LBL_193, w_i_X8_meanTiredness, w_s_X8_meanTiredness, _, _, rfl⟩
theorem w_c_X8_append : Cond.code yX8_append cX8_append 2 (some .int) ∈ gW := gW_in (i := 1419) (by decide +kernel) rfl
theorem w_i_X8_append : Cond.instanceMethod yX8_append ∈ gW := gW_in (i := 1417) (by decide +kernel) rfl
theorem w_s_X8_append : Cond.selects yX8_append.cls yX8_append yX8_append ∈ gW := gW_in (i := 1418) (by decide +kernel) rfl
theorem w_d_X8_append : yX8_append.cls ≠ "java/lang/invoke/MethodHandle" ∧ yX8_append.cls ≠ "java/lang/invoke/VarHandle" ∧ (parseMethodDescriptor yX8_append.desc).map (fun d => d.parameters.length) = some 1 := by decide +kernel
theorem LBL_196 : g_LB RL 196 yX8_append cX8_append 2 (some .int) 1 := ⟨gW_in (i := 1416) (by decide +kernel) rfl, w_ini_X8, w_c_X8_append, w_d_X8_append⟩
theorem LL_196 : g_LV RL 196 yX8_append cX8_append 2 (some .int) 1 8 := ⟨LBL_196, w_i_X8_append, w_s_X8_append, _, _, rfl⟩
theorem w_c_X7_clearText : Cond.code yX7_clearText cX7_clearText 2 (some .int) ∈ gW := gW_in (i := 377) (by decide +kernel) rfl
theorem w_i_X7_clearText : Cond.instanceMethod yX7_clearText ∈ gW := gW_in (i := 375) (by decide +kernel) rfl
theorem w_s_X7_clearText : Cond.selects yX7_clearText.cls yX7_clearText yX7_clearText ∈ gW := gW_in (i := 376) (by decide +kernel) rfl
theorem w_d_X7_clearText : yX7_clearText.cls ≠ "java/lang/invoke/MethodHandle" ∧ yX7_clearText.cls ≠ "java/lang/invoke/VarHandle" ∧ (parseMethodDescriptor yX7_clearText.desc).map (fun d => d.parameters.length) = some 0 := by decide +kernel
theorem LBL_197 : g_LB RL 197 yX7_clearText cX7_clearText 2 (some .int) 0 := ⟨gW_in (i := 374) (by decide +kernel) rfl, w_ini_X7, w_c_X7_clearText, w_d_X7_clearText⟩
theorem LL_197 : g_LV RL 197 yX7_clearText cX7_clearText 2 (some .int) 0 7 := ⟨LBL_197, w_i_X7_clearText, w_s_X7_clearText, _, _, rfl⟩
theorem w_c_X8_clearText : Cond.code yX8_clearText cX8_clearText 2 (some .int) ∈ gW := gW_in (i := 1423) (by decide +kernel) rfl
theorem w_i_X8_clearText : Cond.instanceMethod yX8_clearText ∈ gW := gW_in (i := 1421) (by decide +kernel) rfl
theorem w_s_X8_clearText : Cond.selects yX8_clearText.cls yX8_clearText yX8_clearText ∈ gW := gW_in (i := 1422) (by decide +kernel) rfl
theorem w_d_X8_clearText : yX8_clearText.cls ≠ "java/lang/invoke/MethodHandle" ∧ yX8_clearText.cls ≠ "java/lang/invoke/VarHandle" ∧ (parseMethodDescriptor yX8_clearText.desc).map (fun d => d.parameters.length) = some 0 := by decide +kernel
theorem LBL_200 : g_LB RL 200 yX8_clearText cX8_clearText 2 (some .int) 0 := ⟨gW_in (i := 1420) (by decide +kernel) rfl, w_ini_X8, w_c_X8_clearText, w_d_X8_clearText⟩
theorem LL_200 : g_LV RL 200 yX8_clearText cX8_clearText 2 (some .int) 0 8 := ⟨LBL_200, w_i_X8_clearText, w_s_X8_clearText, _, _, rfl⟩
theorem w_c_X7_carryOut : Cond.code yX7_carryOut cX7_carryOut 5 (some .int) ∈ gW := gW_in (i := 381) (by decide +kernel) rfl
theorem w_i_X7_carryOut : Cond.instanceMethod yX7_carryOut ∈ gW := gW_in (i := 379) (by decide +kernel) rfl
theorem w_s_X7_carryOut : Cond.selects yX7_carryOut.cls yX7_carryOut yX7_carryOut ∈ gW := gW_in (i := 380) (by decide +kernel) rfl
theorem w_d_X7_carryOut : yX7_carryOut.cls ≠ "java/lang/invoke/MethodHandle" ∧ yX7_carryOut.cls ≠ "java/lang/invoke/VarHandle" ∧ (parseMethodDescriptor yX7_carryOut.desc).map (fun d => d.parameters.length) = some 0 := by decide +kernel
theorem LBL_201 : g_LB RL 201 yX7_carryOut cX7_carryOut 5 (some .int) 0 := ⟨gW_in (i := 378) (by decide +kernel) rfl, w_ini_X7, w_c_X7_carryOut, w_d_X7_carryOut⟩
theorem LL_201 : g_LV RL 201 yX7_carryOut cX7_carryOut 5 (some .int) 0 7 := ⟨LBL_201, w_i_X7_carryOut, w_s_X7_carryOut, _, _, rfl⟩
theorem w_c_X8_carryOut : Cond.code yX8_carryOut cX8_carryOut 4 (some .int) ∈ gW := gW_in (i := 1427) (by decide +kernel) rfl
theorem w_i_X8_carryOut : Cond.instanceMethod yX8_carryOut ∈ gW := gW_in (i := 1425) (by decide +kernel) rfl
theorem w_s_X8_carryOut : Cond.selects yX8_carryOut.cls yX8_carryOut yX8_carryOut ∈ gW := gW_in (i := 1426) (by decide +kernel) rfl
theorem w_d_X8_carryOut : yX8_carryOut.cls ≠ "java/lang/invoke/MethodHandle" ∧ yX8_carryOut.cls ≠ "java/lang/invoke/VarHandle" ∧ (parseMethodDescriptor yX8_carryOut.desc).map (fun d => d.parameters.length) = some 0 := by decide +kernel
theorem LBL_204 : g_LB RL 204 yX8_carryOut cX8_carryOut 4 (some .int) 0 := ⟨gW_in (i := 1424) (by decide +kernel) rfl, w_ini_X8, w_c_X8_carryOut, w_d_X8_carryOut⟩
theorem LL_204 : g_LV RL 204 yX8_carryOut cX8_carryOut 4 (some .int) 0 8 := ⟨LBL_204, w_i_X8_carryOut, w_s_X8_carryOut, _, _, rfl⟩
theorem w_c_X8_undo : Cond.code yX8_undo cX8_undo 2 (some .int) ∈ gW := gW_in (i := 1459) (by decide +kernel) rfl
theorem w_i_X8_undo : Cond.instanceMethod yX8_undo ∈ gW := gW_in (i := 1457) (by decide +kernel) rfl
theorem w_s_X8_undo : Cond.selects yX8_undo.cls yX8_undo yX8_undo ∈ gW := gW_in (i := 1458) (by decide +kernel) rfl
theorem w_d_X8_undo : yX8_undo.cls ≠ "java/lang/invoke/MethodHandle" ∧ yX8_undo.cls ≠ "java/lang/invoke/VarHandle" ∧ (parseMethodDescriptor yX8_undo.desc).map (fun d => d.parameters.length) = some 0 := by decide +kernel
theorem LBL_208 : g_LB RL 208 yX8_undo cX8_undo 2 (some .int) 0 := ⟨gW_in (i := 1456) (by decide +kernel) rfl, w_ini_X8, w_c_X8_undo, w_d_X8_undo⟩
theorem LL_208 : g_LV RL 208 yX8_undo cX8_undo 2 (some .int) 0 8 := ⟨LBL_208, w_i_X8_undo, w_s_X8_undo, _, _, rfl⟩
theorem w_c_X7_digest : Cond.code yX7_digest cX7_digest 3 (some .long) ∈ gW := gW_in (i := 644) (by decide +kernel) rfl
theorem w_i_X7_digest : Cond.instanceMethod yX7_digest ∈ gW := gW_in (i := 642) (by decide +kernel) rfl
theorem w_s_X7_digest : Cond.selects yX7_digest.cls yX7_digest yX7_digest ∈ gW := gW_in (i := 643) (by decide +kernel) rfl
theorem w_d_X7_digest : yX7_digest.cls ≠ "java/lang/invoke/MethodHandle" ∧ yX7_digest.cls ≠ "java/lang/invoke/VarHandle" ∧ (parseMethodDescriptor yX7_digest.desc).map (fun d => d.parameters.length) = some 0 := by decide +kernel
theorem LBL_209 : g_LB RL 209 yX7_digest cX7_digest 3 (some .long) 0 := ⟨gW_in (i := 641) (by decide +kernel) rfl, w_ini_X7, w_c_X7_digest, w_d_X7_digest⟩
theorem LL_209 : g_LV RL 209 yX7_digest cX7_digest 3 (some .long) 0 7 := ⟨LBL_209, w_i_X7_digest, w_s_X7_digest, _, _, rfl⟩
theorem w_c_X8_digest : Cond.code yX8_digest cX8_digest 2 (some .long) ∈ gW := gW_in (i := 1463) (by decide +kernel) rfl
theorem w_i_X8_digest : Cond.instanceMethod yX8_digest ∈ gW := gW_in (i := 1461) (by decide +kernel) rfl
theorem w_s_X8_digest : Cond.selects yX8_digest.cls yX8_digest yX8_digest ∈ gW := gW_in (i := 1462) (by decide +kernel) rfl
theorem w_d_X8_digest : yX8_digest.cls ≠ "java/lang/invoke/MethodHandle" ∧ yX8_digest.cls ≠ "java/lang/invoke/VarHandle" ∧ (parseMethodDescriptor yX8_digest.desc).map (fun d => d.parameters.length) = some 0 := by decide +kernel
theorem LBL_213 : g_LB RL 213 yX8_digest cX8_digest 2 (some .long) 0 := ⟨gW_in (i := 1460) (by decide +kernel) rfl, w_ini_X8, w_c_X8_digest, w_d_X8_digest⟩
theorem LL_213 : g_LV RL 213 yX8_digest cX8_digest 2 (some .long) 0 8 := ⟨LBL_213, w_i_X8_digest, w_s_X8_digest, _, _, rfl⟩
theorem w_c_X7_addRope : Cond.code yX7_addRope cX7_addRope 2 (some .int) ∈ gW := gW_in (i := 846) (by decide +kernel) rfl
theorem w_i_X7_addRope : Cond.instanceMethod yX7_addRope ∈ gW := gW_in (i := 844) (by decide +kernel) rfl
theorem w_s_X7_addRope : Cond.selects yX7_addRope.cls yX7_addRope yX7_addRope ∈ gW := gW_in (i := 845) (by decide +kernel) rfl
theorem w_d_X7_addRope : yX7_addRope.cls ≠ "java/lang/invoke/MethodHandle" ∧ yX7_addRope.cls ≠ "java/lang/invoke/VarHandle" ∧ (parseMethodDescriptor yX7_addRope.desc).map (fun d => d.parameters.length) = some 1 := by decide +kernel
theorem LBL_23 : g_LB RL 23 yX7_addRope cX7_addRope 2 (some .int) 1 := ⟨gW_in (i := 843) (by decide +kernel) rfl, w_ini_X7, w_c_X7_addRope, w_d_X7_addRope⟩
theorem LL_23 : g_LV RL 23 yX7_addRope cX7_addRope 2 (some .int) 1 7 := ⟨LBL_23, w_i_X7_addRope, w_s_X7_addRope, _, _, rfl⟩
theorem w_c_X7_addHelper : Cond.code yX7_addHelper cX7_addHelper 2 (some .int) ∈ gW := gW_in (i := 858) (by decide +kernel) rfl
theorem w_i_X7_addHelper : Cond.instanceMethod yX7_addHelper ∈ gW := gW_in (i := 856) (by decide +kernel) rfl
theorem w_s_X7_addHelper : Cond.selects yX7_addHelper.cls yX7_addHelper yX7_addHelper ∈ gW := gW_in (i := 857) (by decide +kernel) rfl
theorem w_d_X7_addHelper : yX7_addHelper.cls ≠ "java/lang/invoke/MethodHandle" ∧ yX7_addHelper.cls ≠ "java/lang/invoke/VarHandle" ∧ (parseMethodDescriptor yX7_addHelper.desc).map (fun d => d.parameters.length) = some 1 := by decide +kernel
theorem LBL_26 : g_LB RL 26 yX7_addHelper cX7_addHelper 2 (some .int) 1 := ⟨gW_in (i := 855) (by decide +kernel) rfl, w_ini_X7, w_c_X7_addHelper, w_d_X7_addHelper⟩
theorem LL_26 : g_LV RL 26 yX7_addHelper cX7_addHelper 2 (some .int) 1 7 := ⟨LBL_26, w_i_X7_addHelper, w_s_X7_addHelper, _, _, rfl⟩
theorem w_c_X7_setSilence : Cond.code yX7_setSilence cX7_setSilence 4 (some .int) ∈ gW := gW_in (i := 873) (by decide +kernel) rfl
theorem w_i_X7_setSilence : Cond.instanceMethod yX7_setSilence ∈ gW := gW_in (i := 871) (by decide +kernel) rfl
theorem w_s_X7_setSilence : Cond.selects yX7_setSilence.cls yX7_setSilence yX7_setSilence ∈ gW := gW_in (i := 872) (by decide +kernel) rfl
theorem w_d_X7_setSilence : yX7_setSilence.cls ≠ "java/lang/invoke/MethodHandle" ∧ yX7_setSilence.cls ≠ "java/lang/invoke/VarHandle" ∧ (parseMethodDescriptor yX7_setSilence.desc).map (fun d => d.parameters.length) = some 2 := by decide +kernel
theorem LBL_29 : g_LB RL 29 yX7_setSilence cX7_setSilence 4 (some .int) 2 := ⟨gW_in (i := 870) (by decide +kernel) rfl, w_ini_X7, w_c_X7_setSilence, w_d_X7_setSilence⟩
theorem LL_29 : g_LV RL 29 yX7_setSilence cX7_setSilence 4 (some .int) 2 7 := ⟨LBL_29, w_i_X7_setSilence, w_s_X7_setSilence, _, _, rfl⟩
theorem w_c_X7_go : Cond.code yX7_go cX7_go 3 (some .int) ∈ gW := gW_in (i := 881) (by decide +kernel) rfl
theorem w_i_X7_go : Cond.instanceMethod yX7_go ∈ gW := gW_in (i := 879) (by decide +kernel) rfl
theorem w_s_X7_go : Cond.selects yX7_go.cls yX7_go yX7_go ∈ gW := gW_in (i := 880) (by decide +kernel) rfl
theorem w_d_X7_go : yX7_go.cls ≠ "java/lang/invoke/MethodHandle" ∧ yX7_go.cls ≠ "java/lang/invoke/VarHandle" ∧ (parseMethodDescriptor yX7_go.desc).map (fun d => d.parameters.length) = some 2 := by decide +kernel
theorem LBL_33 : g_LB RL 33 yX7_go cX7_go 3 (some .int) 2 := ⟨gW_in (i := 878) (by decide +kernel) rfl, w_ini_X7, w_c_X7_go, w_d_X7_go⟩
theorem LL_33 : g_LV RL 33 yX7_go cX7_go 3 (some .int) 2 7 := ⟨LBL_33, w_i_X7_go, w_s_X7_go, _, _, rfl⟩
theorem w_c_X7_take : Cond.code yX7_take cX7_take 3 (some .int) ∈ gW := gW_in (i := 888) (by decide +kernel) rfl
theorem w_i_X7_take : Cond.instanceMethod yX7_take ∈ gW := gW_in (i := 886) (by decide +kernel) rfl
theorem w_s_X7_take : Cond.selects yX7_take.cls yX7_take yX7_take ∈ gW := gW_in (i := 887) (by decide +kernel) rfl
theorem w_d_X7_take : yX7_take.cls ≠ "java/lang/invoke/MethodHandle" ∧ yX7_take.cls ≠ "java/lang/invoke/VarHandle" ∧ (parseMethodDescriptor yX7_take.desc).map (fun d => d.parameters.length) = some 2 := by decide +kernel
theorem LBL_36 : g_LB RL 36 yX7_take cX7_take 3 (some .int) 2 := ⟨gW_in (i := 885) (by decide +kernel) rfl, w_ini_X7, w_c_X7_take, w_d_X7_take⟩
theorem LL_36 : g_LV RL 36 yX7_take cX7_take 3 (some .int) 2 7 := ⟨LBL_36, w_i_X7_take, w_s_X7_take, _, _, rfl⟩
theorem w_c_X7_lay : Cond.code yX7_lay cX7_lay 2 (some .int) ∈ gW := gW_in (i := 899) (by decide +kernel) rfl
theorem w_i_X7_lay : Cond.instanceMethod yX7_lay ∈ gW := gW_in (i := 897) (by decide +kernel) rfl
theorem w_s_X7_lay : Cond.selects yX7_lay.cls yX7_lay yX7_lay ∈ gW := gW_in (i := 898) (by decide +kernel) rfl
theorem w_d_X7_lay : yX7_lay.cls ≠ "java/lang/invoke/MethodHandle" ∧ yX7_lay.cls ≠ "java/lang/invoke/VarHandle" ∧ (parseMethodDescriptor yX7_lay.desc).map (fun d => d.parameters.length) = some 1 := by decide +kernel
theorem LBL_39 : g_LB RL 39 yX7_lay cX7_lay 2 (some .int) 1 := ⟨gW_in (i := 896) (by decide +kernel) rfl, w_ini_X7, w_c_X7_lay, w_d_X7_lay⟩
theorem LL_39 : g_LV RL 39 yX7_lay cX7_lay 2 (some .int) 1 7 := ⟨LBL_39, w_i_X7_lay, w_s_X7_lay, _, _, rfl⟩
theorem w_c_X7_rig : Cond.code yX7_rig cX7_rig 2 (some .int) ∈ gW := gW_in (i := 911) (by decide +kernel) rfl
theorem w_i_X7_rig : Cond.instanceMethod yX7_rig ∈ gW := gW_in (i := 909) (by decide +kernel) rfl
theorem w_s_X7_rig : Cond.selects yX7_rig.cls yX7_rig yX7_rig ∈ gW := gW_in (i := 910) (by decide +kernel) rfl
theorem w_d_X7_rig : yX7_rig.cls ≠ "java/lang/invoke/MethodHandle" ∧ yX7_rig.cls ≠ "java/lang/invoke/VarHandle" ∧ (parseMethodDescriptor yX7_rig.desc).map (fun d => d.parameters.length) = some 1 := by decide +kernel
theorem LBL_42 : g_LB RL 42 yX7_rig cX7_rig 2 (some .int) 1 := ⟨gW_in (i := 908) (by decide +kernel) rfl, w_ini_X7, w_c_X7_rig, w_d_X7_rig⟩
theorem LL_42 : g_LV RL 42 yX7_rig cX7_rig 2 (some .int) 1 7 := ⟨LBL_42, w_i_X7_rig, w_s_X7_rig, _, _, rfl⟩
theorem w_c_X7_takeOff : Cond.code yX7_takeOff cX7_takeOff 2 (some .int) ∈ gW := gW_in (i := 918) (by decide +kernel) rfl
theorem w_i_X7_takeOff : Cond.instanceMethod yX7_takeOff ∈ gW := gW_in (i := 916) (by decide +kernel) rfl
theorem w_s_X7_takeOff : Cond.selects yX7_takeOff.cls yX7_takeOff yX7_takeOff ∈ gW := gW_in (i := 917) (by decide +kernel) rfl
theorem w_d_X7_takeOff : yX7_takeOff.cls ≠ "java/lang/invoke/MethodHandle" ∧ yX7_takeOff.cls ≠ "java/lang/invoke/VarHandle" ∧ (parseMethodDescriptor yX7_takeOff.desc).map (fun d => d.parameters.length) = some 1 := by decide +kernel
theorem LBL_45 : g_LB RL 45 yX7_takeOff cX7_takeOff 2 (some .int) 1 := ⟨gW_in (i := 915) (by decide +kernel) rfl, w_ini_X7, w_c_X7_takeOff, w_d_X7_takeOff⟩
theorem LL_45 : g_LV RL 45 yX7_takeOff cX7_takeOff 2 (some .int) 1 7 := ⟨LBL_45, w_i_X7_takeOff, w_s_X7_takeOff, _, _, rfl⟩
theorem w_c_X7_carry : Cond.code yX7_carry cX7_carry 2 (some .int) ∈ gW := gW_in (i := 934) (by decide +kernel) rfl
theorem w_i_X7_carry : Cond.instanceMethod yX7_carry ∈ gW := gW_in (i := 932) (by decide +kernel) rfl
theorem w_s_X7_carry : Cond.selects yX7_carry.cls yX7_carry yX7_carry ∈ gW := gW_in (i := 933) (by decide +kernel) rfl
theorem w_d_X7_carry : yX7_carry.cls ≠ "java/lang/invoke/MethodHandle" ∧ yX7_carry.cls ≠ "java/lang/invoke/VarHandle" ∧ (parseMethodDescriptor yX7_carry.desc).map (fun d => d.parameters.length) = some 1 := by decide +kernel
theorem LBL_48 : g_LB RL 48 yX7_carry cX7_carry 2 (some .int) 1 := ⟨gW_in (i := 931) (by decide +kernel) rfl, w_ini_X7, w_c_X7_carry, w_d_X7_carry⟩
theorem LL_48 : g_LV RL 48 yX7_carry cX7_carry 2 (some .int) 1 7 := ⟨LBL_48, w_i_X7_carry, w_s_X7_carry, _, _, rfl⟩
theorem w_c_X7_send : Cond.code yX7_send cX7_send 2 (some .int) ∈ gW := gW_in (i := 941) (by decide +kernel) rfl
theorem w_i_X7_send : Cond.instanceMethod yX7_send ∈ gW := gW_in (i := 939) (by decide +kernel) rfl
theorem w_s_X7_send : Cond.selects yX7_send.cls yX7_send yX7_send ∈ gW := gW_in (i := 940) (by decide +kernel) rfl
theorem w_d_X7_send : yX7_send.cls ≠ "java/lang/invoke/MethodHandle" ∧ yX7_send.cls ≠ "java/lang/invoke/VarHandle" ∧ (parseMethodDescriptor yX7_send.desc).map (fun d => d.parameters.length) = some 1 := by decide +kernel
theorem LBL_51 : g_LB RL 51 yX7_send cX7_send 2 (some .int) 1 := ⟨gW_in (i := 938) (by decide +kernel) rfl, w_ini_X7, w_c_X7_send, w_d_X7_send⟩
theorem LL_51 : g_LV RL 51 yX7_send cX7_send 2 (some .int) 1 7 := ⟨LBL_51, w_i_X7_send, w_s_X7_send, _, _, rfl⟩
theorem w_c_X7_pass : Cond.code yX7_pass cX7_pass 2 (some .int) ∈ gW := gW_in (i := 948) (by decide +kernel) rfl
theorem w_i_X7_pass : Cond.instanceMethod yX7_pass ∈ gW := gW_in (i := 946) (by decide +kernel) rfl
theorem w_s_X7_pass : Cond.selects yX7_pass.cls yX7_pass yX7_pass ∈ gW := gW_in (i := 947) (by decide +kernel) rfl
theorem w_d_X7_pass : yX7_pass.cls ≠ "java/lang/invoke/MethodHandle" ∧ yX7_pass.cls ≠ "java/lang/invoke/VarHandle" ∧ (parseMethodDescriptor yX7_pass.desc).map (fun d => d.parameters.length) = some 1 := by decide +kernel
theorem LBL_54 : g_LB RL 54 yX7_pass cX7_pass 2 (some .int) 1 := ⟨gW_in (i := 945) (by decide +kernel) rfl, w_ini_X7, w_c_X7_pass, w_d_X7_pass⟩
theorem LL_54 : g_LV RL 54 yX7_pass cX7_pass 2 (some .int) 1 7 := ⟨LBL_54, w_i_X7_pass, w_s_X7_pass, _, _, rfl⟩
theorem w_c_X7_passage : Cond.code yX7_passage cX7_passage 3 (some .int) ∈ gW := gW_in (i := 955) (by decide +kernel) rfl
theorem w_i_X7_passage : Cond.instanceMethod yX7_passage ∈ gW := gW_in (i := 953) (by decide +kernel) rfl
theorem w_s_X7_passage : Cond.selects yX7_passage.cls yX7_passage yX7_passage ∈ gW := gW_in (i := 954) (by decide +kernel) rfl
theorem w_d_X7_passage : yX7_passage.cls ≠ "java/lang/invoke/MethodHandle" ∧ yX7_passage.cls ≠ "java/lang/invoke/VarHandle" ∧ (parseMethodDescriptor yX7_passage.desc).map (fun d => d.parameters.length) = some 2 := by decide +kernel
theorem LBL_57 : g_LB RL 57 yX7_passage cX7_passage 3 (some .int) 2 := ⟨gW_in (i := 952) (by decide +kernel) rfl, w_ini_X7, w_c_X7_passage, w_d_X7_passage⟩
theorem LL_57 : g_LV RL 57 yX7_passage cX7_passage 3 (some .int) 2 7 := ⟨LBL_57, w_i_X7_passage, w_s_X7_passage, _, _, rfl⟩
theorem w_c_X7_rope : Cond.code yX7_rope cX7_rope 3 (some .int) ∈ gW := gW_in (i := 963) (by decide +kernel) rfl
theorem w_i_X7_rope : Cond.instanceMethod yX7_rope ∈ gW := gW_in (i := 961) (by decide +kernel) rfl
theorem w_s_X7_rope : Cond.selects yX7_rope.cls yX7_rope yX7_rope ∈ gW := gW_in (i := 962) (by decide +kernel) rfl
theorem w_d_X7_rope : yX7_rope.cls ≠ "java/lang/invoke/MethodHandle" ∧ yX7_rope.cls ≠ "java/lang/invoke/VarHandle" ∧ (parseMethodDescriptor yX7_rope.desc).map (fun d => d.parameters.length) = some 2 := by decide +kernel
theorem LBL_60 : g_LB RL 60 yX7_rope cX7_rope 3 (some .int) 2 := ⟨gW_in (i := 960) (by decide +kernel) rfl, w_ini_X7, w_c_X7_rope, w_d_X7_rope⟩
theorem LL_60 : g_LV RL 60 yX7_rope cX7_rope 3 (some .int) 2 7 := ⟨LBL_60, w_i_X7_rope, w_s_X7_rope, _, _, rfl⟩
theorem w_c_X7_helper : Cond.code yX7_helper cX7_helper 3 (some .int) ∈ gW := gW_in (i := 971) (by decide +kernel) rfl
theorem w_i_X7_helper : Cond.instanceMethod yX7_helper ∈ gW := gW_in (i := 969) (by decide +kernel) rfl
theorem w_s_X7_helper : Cond.selects yX7_helper.cls yX7_helper yX7_helper ∈ gW := gW_in (i := 970) (by decide +kernel) rfl
theorem w_d_X7_helper : yX7_helper.cls ≠ "java/lang/invoke/MethodHandle" ∧ yX7_helper.cls ≠ "java/lang/invoke/VarHandle" ∧ (parseMethodDescriptor yX7_helper.desc).map (fun d => d.parameters.length) = some 2 := by decide +kernel
theorem LBL_63 : g_LB RL 63 yX7_helper cX7_helper 3 (some .int) 2 := ⟨gW_in (i := 968) (by decide +kernel) rfl, w_ini_X7, w_c_X7_helper, w_d_X7_helper⟩
theorem LL_63 : g_LV RL 63 yX7_helper cX7_helper 3 (some .int) 2 7 := ⟨LBL_63, w_i_X7_helper, w_s_X7_helper, _, _, rfl⟩
theorem w_c_X7_value : Cond.code yX7_value cX7_value 2 (some .int) ∈ gW := gW_in (i := 979) (by decide +kernel) rfl
theorem w_i_X7_value : Cond.instanceMethod yX7_value ∈ gW := gW_in (i := 977) (by decide +kernel) rfl
theorem w_s_X7_value : Cond.selects yX7_value.cls yX7_value yX7_value ∈ gW := gW_in (i := 978) (by decide +kernel) rfl
theorem w_d_X7_value : yX7_value.cls ≠ "java/lang/invoke/MethodHandle" ∧ yX7_value.cls ≠ "java/lang/invoke/VarHandle" ∧ (parseMethodDescriptor yX7_value.desc).map (fun d => d.parameters.length) = some 1 := by decide +kernel
theorem LBL_66 : g_LB RL 66 yX7_value cX7_value 2 (some .int) 1 := ⟨gW_in (i := 976) (by decide +kernel) rfl, w_ini_X7, w_c_X7_value, w_d_X7_value⟩
theorem LL_66 : g_LV RL 66 yX7_value cX7_value 2 (some .int) 1 7 := ⟨LBL_66, w_i_X7_value, w_s_X7_value, _, _, rfl⟩
theorem w_c_X7_message : Cond.code yX7_message cX7_message 3 (some .int) ∈ gW := gW_in (i := 987) (by decide +kernel) rfl
theorem w_i_X7_message : Cond.instanceMethod yX7_message ∈ gW := gW_in (i := 985) (by decide +kernel) rfl
theorem w_s_X7_message : Cond.selects yX7_message.cls yX7_message yX7_message ∈ gW := gW_in (i := 986) (by decide +kernel) rfl
theorem w_d_X7_message : yX7_message.cls ≠ "java/lang/invoke/MethodHandle" ∧ yX7_message.cls ≠ "java/lang/invoke/VarHandle" ∧ (parseMethodDescriptor yX7_message.desc).map (fun d => d.parameters.length) = some 2 := by decide +kernel
theorem LBL_69 : g_LB RL 69 yX7_message cX7_message 3 (some .int) 2 := ⟨gW_in (i := 984) (by decide +kernel) rfl, w_ini_X7, w_c_X7_message, w_d_X7_message⟩
theorem LL_69 : g_LV RL 69 yX7_message cX7_message 3 (some .int) 2 7 := ⟨LBL_69, w_i_X7_message, w_s_X7_message, _, _, rfl⟩
theorem w_c_X7_begin : Cond.code yX7_begin cX7_begin 3 (some .int) ∈ gW := gW_in (i := 701) (by decide +kernel) rfl
theorem w_i_X7_begin : Cond.instanceMethod yX7_begin ∈ gW := gW_in (i := 699) (by decide +kernel) rfl
theorem w_s_X7_begin : Cond.selects yX7_begin.cls yX7_begin yX7_begin ∈ gW := gW_in (i := 700) (by decide +kernel) rfl
theorem w_d_X7_begin : yX7_begin.cls ≠ "java/lang/invoke/MethodHandle" ∧ yX7_begin.cls ≠ "java/lang/invoke/VarHandle" ∧ (parseMethodDescriptor yX7_begin.desc).map (fun d => d.parameters.length) = some 1 := by decide +kernel
theorem LBL_7 : g_LB RL 7 yX7_begin cX7_begin 3 (some .int) 1 := ⟨gW_in (i := 698) (by decide +kernel) rfl, w_ini_X7, w_c_X7_begin, w_d_X7_begin⟩
theorem LL_7 : g_LV RL 7 yX7_begin cX7_begin 3 (some .int) 1 7 := ⟨LBL_7, w_i_X7_begin, w_s_X7_begin, _, _, rfl⟩
theorem w_c_X7_carried : Cond.code yX7_carried cX7_carried 3 (some .int) ∈ gW := gW_in (i := 995) (by decide +kernel) rfl
theorem w_i_X7_carried : Cond.instanceMethod yX7_carried ∈ gW := gW_in (i := 993) (by decide +kernel) rfl
theorem w_s_X7_carried : Cond.selects yX7_carried.cls yX7_carried yX7_carried ∈ gW := gW_in (i := 994) (by decide +kernel) rfl
theorem w_d_X7_carried : yX7_carried.cls ≠ "java/lang/invoke/MethodHandle" ∧ yX7_carried.cls ≠ "java/lang/invoke/VarHandle" ∧ (parseMethodDescriptor yX7_carried.desc).map (fun d => d.parameters.length) = some 2 := by decide +kernel
theorem LBL_72 : g_LB RL 72 yX7_carried cX7_carried 3 (some .int) 2 := ⟨gW_in (i := 992) (by decide +kernel) rfl, w_ini_X7, w_c_X7_carried, w_d_X7_carried⟩
theorem LL_72 : g_LV RL 72 yX7_carried cX7_carried 3 (some .int) 2 7 := ⟨LBL_72, w_i_X7_carried, w_s_X7_carried, _, _, rfl⟩
theorem w_c_X7_why : Cond.code yX7_why cX7_why 3 (some .int) ∈ gW := gW_in (i := 1003) (by decide +kernel) rfl
theorem w_i_X7_why : Cond.instanceMethod yX7_why ∈ gW := gW_in (i := 1001) (by decide +kernel) rfl
theorem w_s_X7_why : Cond.selects yX7_why.cls yX7_why yX7_why ∈ gW := gW_in (i := 1002) (by decide +kernel) rfl
theorem w_d_X7_why : yX7_why.cls ≠ "java/lang/invoke/MethodHandle" ∧ yX7_why.cls ≠ "java/lang/invoke/VarHandle" ∧ (parseMethodDescriptor yX7_why.desc).map (fun d => d.parameters.length) = some 2 := by decide +kernel
theorem LBL_75 : g_LB RL 75 yX7_why cX7_why 3 (some .int) 2 := ⟨gW_in (i := 1000) (by decide +kernel) rfl, w_ini_X7, w_c_X7_why, w_d_X7_why⟩
theorem LL_75 : g_LV RL 75 yX7_why cX7_why 3 (some .int) 2 7 := ⟨LBL_75, w_i_X7_why, w_s_X7_why, _, _, rfl⟩
theorem w_c_X7_minutesUp : Cond.code yX7_minutesUp cX7_minutesUp 2 (some .int) ∈ gW := gW_in (i := 1011) (by decide +kernel) rfl
theorem w_i_X7_minutesUp : Cond.instanceMethod yX7_minutesUp ∈ gW := gW_in (i := 1009) (by decide +kernel) rfl
theorem w_s_X7_minutesUp : Cond.selects yX7_minutesUp.cls yX7_minutesUp yX7_minutesUp ∈ gW := gW_in (i := 1010) (by decide +kernel) rfl
theorem w_d_X7_minutesUp : yX7_minutesUp.cls ≠ "java/lang/invoke/MethodHandle" ∧ yX7_minutesUp.cls ≠ "java/lang/invoke/VarHandle" ∧ (parseMethodDescriptor yX7_minutesUp.desc).map (fun d => d.parameters.length) = some 1 := by decide +kernel
theorem LBL_78 : g_LB RL 78 yX7_minutesUp cX7_minutesUp 2 (some .int) 1 := ⟨gW_in (i := 1008) (by decide +kernel) rfl, w_ini_X7, w_c_X7_minutesUp, w_d_X7_minutesUp⟩
theorem LL_78 : g_LV RL 78 yX7_minutesUp cX7_minutesUp 2 (some .int) 1 7 := ⟨LBL_78, w_i_X7_minutesUp, w_s_X7_minutesUp, _, _, rfl⟩
theorem w_c_X7_spare : Cond.code yX7_spare cX7_spare 2 (some .int) ∈ gW := gW_in (i := 1023) (by decide +kernel) rfl
theorem w_i_X7_spare : Cond.instanceMethod yX7_spare ∈ gW := gW_in (i := 1021) (by decide +kernel) rfl
theorem w_s_X7_spare : Cond.selects yX7_spare.cls yX7_spare yX7_spare ∈ gW := gW_in (i := 1022) (by decide +kernel) rfl
theorem w_d_X7_spare : yX7_spare.cls ≠ "java/lang/invoke/MethodHandle" ∧ yX7_spare.cls ≠ "java/lang/invoke/VarHandle" ∧ (parseMethodDescriptor yX7_spare.desc).map (fun d => d.parameters.length) = some 1 := by decide +kernel
theorem LBL_81 : g_LB RL 81 yX7_spare cX7_spare 2 (some .int) 1 := ⟨gW_in (i := 1020) (by decide +kernel) rfl, w_ini_X7, w_c_X7_spare, w_d_X7_spare⟩
theorem LL_81 : g_LV RL 81 yX7_spare cX7_spare 2 (some .int) 1 7 := ⟨LBL_81, w_i_X7_spare, w_s_X7_spare, _, _, rfl⟩
theorem w_c_X7_bestRope : Cond.code yX7_bestRope cX7_bestRope 2 (some .int) ∈ gW := gW_in (i := 1038) (by decide +kernel) rfl
theorem w_i_X7_bestRope : Cond.instanceMethod yX7_bestRope ∈ gW := gW_in (i := 1036) (by decide +kernel) rfl
theorem w_s_X7_bestRope : Cond.selects yX7_bestRope.cls yX7_bestRope yX7_bestRope ∈ gW := gW_in (i := 1037) (by decide +kernel) rfl
theorem w_d_X7_bestRope : yX7_bestRope.cls ≠ "java/lang/invoke/MethodHandle" ∧ yX7_bestRope.cls ≠ "java/lang/invoke/VarHandle" ∧ (parseMethodDescriptor yX7_bestRope.desc).map (fun d => d.parameters.length) = some 1 := by decide +kernel
theorem LBL_84 : g_LB RL 84 yX7_bestRope cX7_bestRope 2 (some .int) 1 := ⟨gW_in (i := 1035) (by decide +kernel) rfl, w_ini_X7, w_c_X7_bestRope, w_d_X7_bestRope⟩
theorem LL_84 : g_LV RL 84 yX7_bestRope cX7_bestRope 2 (some .int) 1 7 := ⟨LBL_84, w_i_X7_bestRope, w_s_X7_bestRope, _, _, rfl⟩
theorem w_c_X7_reach : Cond.code yX7_reach cX7_reach 2 (some .int) ∈ gW := gW_in (i := 1052) (by decide +kernel) rfl
theorem w_i_X7_reach : Cond.instanceMethod yX7_reach ∈ gW := gW_in (i := 1050) (by decide +kernel) rfl
theorem w_s_X7_reach : Cond.selects yX7_reach.cls yX7_reach yX7_reach ∈ gW := gW_in (i := 1051) (by decide +kernel) rfl
theorem w_d_X7_reach : yX7_reach.cls ≠ "java/lang/invoke/MethodHandle" ∧ yX7_reach.cls ≠ "java/lang/invoke/VarHandle" ∧ (parseMethodDescriptor yX7_reach.desc).map (fun d => d.parameters.length) = some 1 := by decide +kernel
theorem LBL_87 : g_LB RL 87 yX7_reach cX7_reach 2 (some .int) 1 := ⟨gW_in (i := 1049) (by decide +kernel) rfl, w_ini_X7, w_c_X7_reach, w_d_X7_reach⟩
theorem LL_87 : g_LV RL 87 yX7_reach cX7_reach 2 (some .int) 1 7 := ⟨LBL_87, w_i_X7_reach, w_s_X7_reach, _, _, rfl⟩
theorem w_c_X7_append : Cond.code yX7_append cX7_append 2 (some .int) ∈ gW := gW_in (i := 1063) (by decide +kernel) rfl
theorem w_i_X7_append : Cond.instanceMethod yX7_append ∈ gW := gW_in (i := 1061) (by decide +kernel) rfl
theorem w_s_X7_append : Cond.selects yX7_append.cls yX7_append yX7_append ∈ gW := gW_in (i := 1062) (by decide +kernel) rfl
theorem w_d_X7_append : yX7_append.cls ≠ "java/lang/invoke/MethodHandle" ∧ yX7_append.cls ≠ "java/lang/invoke/VarHandle" ∧ (parseMethodDescriptor yX7_append.desc).map (fun d => d.parameters.length) = some 1 := by decide +kernel
theorem LBL_90 : g_LB RL 90 yX7_append cX7_append 2 (some .int) 1 := ⟨gW_in (i := 1060) (by decide +kernel) rfl, w_ini_X7, w_c_X7_append, w_d_X7_append⟩
theorem LL_90 : g_LV RL 90 yX7_append cX7_append 2 (some .int) 1 7 := ⟨LBL_90, w_i_X7_append, w_s_X7_append, _, _, rfl⟩
theorem w_c_X7_undo : Cond.code yX7_undo cX7_undo 1 (some .int) ∈ gW := gW_in (i := 1074) (by decide +kernel) rfl
theorem w_i_X7_undo : Cond.instanceMethod yX7_undo ∈ gW := gW_in (i := 1072) (by decide +kernel) rfl
theorem w_s_X7_undo : Cond.selects yX7_undo.cls yX7_undo yX7_undo ∈ gW := gW_in (i := 1073) (by decide +kernel) rfl
theorem w_d_X7_undo : yX7_undo.cls ≠ "java/lang/invoke/MethodHandle" ∧ yX7_undo.cls ≠ "java/lang/invoke/VarHandle" ∧ (parseMethodDescriptor yX7_undo.desc).map (fun d => d.parameters.length) = some 0 := by decide +kernel
theorem LBL_93 : g_LB RL 93 yX7_undo cX7_undo 1 (some .int) 0 := ⟨gW_in (i := 1071) (by decide +kernel) rfl, w_ini_X7, w_c_X7_undo, w_d_X7_undo⟩
theorem LL_93 : g_LV RL 93 yX7_undo cX7_undo 1 (some .int) 0 7 := ⟨LBL_93, w_i_X7_undo, w_s_X7_undo, _, _, rfl⟩
theorem w_c_X7_init : Cond.code yX7_init cX7_init 2 none ∈ gW := gW_in (i := 94) (by decide +kernel) rfl
theorem w_i_X7_init : Cond.instanceMethod yX7_init ∈ gW := gW_in (i := 93) (by decide +kernel) rfl
theorem w_d_X7_init : yX7_init.cls ≠ "java/lang/invoke/MethodHandle" ∧ yX7_init.cls ≠ "java/lang/invoke/VarHandle" ∧ (parseMethodDescriptor yX7_init.desc).map (fun d => d.parameters.length) = some 0 := by decide +kernel
theorem LBL_97 : g_LB RL 97 yX7_init cX7_init 2 none 0 := ⟨gW_in (i := 92) (by decide +kernel) rfl, w_ini_X7, w_c_X7_init, w_d_X7_init⟩
theorem w_c_X8_sets : Cond.code yX8_sets cX8_sets 3 none ∈ gW := gW_in (i := 1236) (by decide +kernel) rfl
theorem w_i_X8_sets : Cond.instanceMethod yX8_sets ∈ gW := gW_in (i := 1235) (by decide +kernel) rfl
theorem w_s_X8_sets : Cond.selects yX8_sets.cls yX8_sets yX8_sets ∈ gW := gW_in (i := 40) (by decide +kernel) rfl
theorem w_d_X8_sets : yX8_sets.cls ≠ "java/lang/invoke/MethodHandle" ∧ yX8_sets.cls ≠ "java/lang/invoke/VarHandle" ∧ (parseMethodDescriptor yX8_sets.desc).map (fun d => d.parameters.length) = some 2 := by decide +kernel
theorem LBX8_101 : g_LB RX8 101 yX8_sets cX8_sets 3 none 2 := ⟨gW_in (i := 1233) (by decide +kernel) rfl, w_ini_X8, w_c_X8_sets, w_d_X8_sets⟩
theorem LX8_101 : g_LV RX8 101 yX8_sets cX8_sets 3 none 2 8 := ⟨LBX8_101, w_i_X8_sets, w_s_X8_sets, _, _, rfl⟩
theorem w_c_X8_isRope : Cond.code yX8_isRope cX8_isRope 2 (some .boolean) ∈ gW := gW_in (i := 1256) (by decide +kernel) rfl
theorem w_i_X8_isRope : Cond.instanceMethod yX8_isRope ∈ gW := gW_in (i := 1255) (by decide +kernel) rfl
theorem w_s_X8_isRope : Cond.selects yX8_isRope.cls yX8_isRope yX8_isRope ∈ gW := gW_in (i := 44) (by decide +kernel) rfl
theorem w_d_X8_isRope : yX8_isRope.cls ≠ "java/lang/invoke/MethodHandle" ∧ yX8_isRope.cls ≠ "java/lang/invoke/VarHandle" ∧ (parseMethodDescriptor yX8_isRope.desc).map (fun d => d.parameters.length) = some 1 := by decide +kernel
theorem LBX8_108 : g_LB RX8 108 yX8_isRope cX8_isRope 2 (some .boolean) 1 := ⟨gW_in (i := 1253) (by decide +kernel) rfl, w_ini_X8, w_c_X8_isRope, w_d_X8_isRope⟩
theorem LX8_108 : g_LV RX8 108 yX8_isRope cX8_isRope 2 (some .boolean) 1 8 := ⟨LBX8_108, w_i_X8_isRope, w_s_X8_isRope, _, _, rfl⟩
theorem w_c_X8_gives : Cond.code yX8_gives cX8_gives 3 none ∈ gW := gW_in (i := 1260) (by decide +kernel) rfl
theorem w_i_X8_gives : Cond.instanceMethod yX8_gives ∈ gW := gW_in (i := 1259) (by decide +kernel) rfl
theorem w_s_X8_gives : Cond.selects yX8_gives.cls yX8_gives yX8_gives ∈ gW := gW_in (i := 45) (by decide +kernel) rfl
theorem w_d_X8_gives : yX8_gives.cls ≠ "java/lang/invoke/MethodHandle" ∧ yX8_gives.cls ≠ "java/lang/invoke/VarHandle" ∧ (parseMethodDescriptor yX8_gives.desc).map (fun d => d.parameters.length) = some 2 := by decide +kernel
theorem LBX8_111 : g_LB RX8 111 yX8_gives cX8_gives 3 none 2 := ⟨gW_in (i := 1257) (by decide +kernel) rfl, w_ini_X8, w_c_X8_gives, w_d_X8_gives⟩
theorem LX8_111 : g_LV RX8 111 yX8_gives cX8_gives 3 none 2 8 := ⟨LBX8_111, w_i_X8_gives, w_s_X8_gives, _, _, rfl⟩
theorem w_c_X8_holdsAt : Cond.code yX8_holdsAt cX8_holdsAt 3 (some .boolean) ∈ gW := gW_in (i := 1280) (by decide +kernel) rfl
theorem w_i_X8_holdsAt : Cond.instanceMethod yX8_holdsAt ∈ gW := gW_in (i := 1279) (by decide +kernel) rfl
theorem w_s_X8_holdsAt : Cond.selects yX8_holdsAt.cls yX8_holdsAt yX8_holdsAt ∈ gW := gW_in (i := 48) (by decide +kernel) rfl
theorem w_d_X8_holdsAt : yX8_holdsAt.cls ≠ "java/lang/invoke/MethodHandle" ∧ yX8_holdsAt.cls ≠ "java/lang/invoke/VarHandle" ∧ (parseMethodDescriptor yX8_holdsAt.desc).map (fun d => d.parameters.length) = some 2 := by decide +kernel
theorem LBX8_114 : g_LB RX8 114 yX8_holdsAt cX8_holdsAt 3 (some .boolean) 2 := ⟨gW_in (i := 1277) (by decide +kernel) rfl, w_ini_X8, w_c_X8_holdsAt, w_d_X8_holdsAt⟩
theorem LX8_114 : g_LV RX8 114 yX8_holdsAt cX8_holdsAt 3 (some .boolean) 2 8 := ⟨LBX8_114, w_i_X8_holdsAt, w_s_X8_holdsAt, _, _, rfl⟩
theorem w_c_X8_ones : Cond.code yX8_ones cX8_ones 3 (some .int) ∈ gW := gW_in (i := 1295) (by decide +kernel) rfl
theorem w_t_X8_ones : Cond.static yX8_ones ∈ gW := gW_in (i := 1294) (by decide +kernel) rfl
theorem w_d_X8_ones : yX8_ones.cls ≠ "java/lang/invoke/MethodHandle" ∧ yX8_ones.cls ≠ "java/lang/invoke/VarHandle" ∧ (parseMethodDescriptor yX8_ones.desc).map (fun d => d.parameters.length) = some 1 := by decide +kernel
theorem LBX8_118 : g_LB RX8 118 yX8_ones cX8_ones 3 (some .int) 1 := ⟨gW_in (i := 1293) (by decide +kernel) rfl, w_ini_X8, w_c_X8_ones, w_d_X8_ones⟩
theorem LX8_118 : g_LS RX8 118 yX8_ones cX8_ones 3 (some .int) 1 := ⟨LBX8_118, w_t_X8_ones⟩
theorem w_c_X8_isCarryable : Cond.code yX8_isCarryable cX8_isCarryable 1 (some .boolean) ∈ gW := gW_in (i := 1299) (by decide +kernel) rfl
theorem w_i_X8_isCarryable : Cond.instanceMethod yX8_isCarryable ∈ gW := gW_in (i := 1298) (by decide +kernel) rfl
theorem w_s_X8_isCarryable : Cond.selects yX8_isCarryable.cls yX8_isCarryable yX8_isCarryable ∈ gW := gW_in (i := 50) (by decide +kernel) rfl
theorem w_d_X8_isCarryable : yX8_isCarryable.cls ≠ "java/lang/invoke/MethodHandle" ∧ yX8_isCarryable.cls ≠ "java/lang/invoke/VarHandle" ∧ (parseMethodDescriptor yX8_isCarryable.desc).map (fun d => d.parameters.length) = some 0 := by decide +kernel
theorem LBX8_121 : g_LB RX8 121 yX8_isCarryable cX8_isCarryable 1 (some .boolean) 0 := ⟨gW_in (i := 1296) (by decide +kernel) rfl, w_ini_X8, w_c_X8_isCarryable, w_d_X8_isCarryable⟩
theorem LX8_121 : g_LV RX8 121 yX8_isCarryable cX8_isCarryable 1 (some .boolean) 0 8 := ⟨LBX8_121, w_i_X8_isCarryable, w_s_X8_isCarryable, _, _, rfl⟩
theorem w_c_X8_canCarry : Cond.code yX8_canCarry cX8_canCarry 4 (some .boolean) ∈ gW := gW_in (i := 1303) (by decide +kernel) rfl
theorem w_i_X8_canCarry : Cond.instanceMethod yX8_canCarry ∈ gW := gW_in (i := 1302) (by decide +kernel) rfl
theorem w_s_X8_canCarry : Cond.selects yX8_canCarry.cls yX8_canCarry yX8_canCarry ∈ gW := gW_in (i := 51) (by decide +kernel) rfl
theorem w_d_X8_canCarry : yX8_canCarry.cls ≠ "java/lang/invoke/MethodHandle" ∧ yX8_canCarry.cls ≠ "java/lang/invoke/VarHandle" ∧ (parseMethodDescriptor yX8_canCarry.desc).map (fun d => d.parameters.length) = some 1 := by decide +kernel
theorem LBX8_125 : g_LB RX8 125 yX8_canCarry cX8_canCarry 4 (some .boolean) 1 := ⟨gW_in (i := 1300) (by decide +kernel) rfl, w_ini_X8, w_c_X8_canCarry, w_d_X8_canCarry⟩
theorem LX8_125 : g_LV RX8 125 yX8_canCarry cX8_canCarry 4 (some .boolean) 1 8 := ⟨LBX8_125, w_i_X8_canCarry, w_s_X8_canCarry, _, _, rfl⟩
theorem w_c_X8_leaves : Cond.code yX8_leaves cX8_leaves 5 none ∈ gW := gW_in (i := 1268) (by decide +kernel) rfl
theorem w_i_X8_leaves : Cond.instanceMethod yX8_leaves ∈ gW := gW_in (i := 1267) (by decide +kernel) rfl
theorem w_s_X8_leaves : Cond.selects yX8_leaves.cls yX8_leaves yX8_leaves ∈ gW := gW_in (i := 46) (by decide +kernel) rfl
theorem w_d_X8_leaves : yX8_leaves.cls ≠ "java/lang/invoke/MethodHandle" ∧ yX8_leaves.cls ≠ "java/lang/invoke/VarHandle" ∧ (parseMethodDescriptor yX8_leaves.desc).map (fun d => d.parameters.length) = some 3 := by decide +kernel
theorem LBX8_128 : g_LB RX8 128 yX8_leaves cX8_leaves 5 none 3 := ⟨gW_in (i := 1265) (by decide +kernel) rfl, w_ini_X8, w_c_X8_leaves, w_d_X8_leaves⟩
theorem LX8_128 : g_LV RX8 128 yX8_leaves cX8_leaves 5 none 3 8 := ⟨LBX8_128, w_i_X8_leaves, w_s_X8_leaves, _, _, rfl⟩
theorem w_c_X8_arrives : Cond.code yX8_arrives cX8_arrives 3 none ∈ gW := gW_in (i := 1331) (by decide +kernel) rfl
theorem w_i_X8_arrives : Cond.instanceMethod yX8_arrives ∈ gW := gW_in (i := 1330) (by decide +kernel) rfl
theorem w_s_X8_arrives : Cond.selects yX8_arrives.cls yX8_arrives yX8_arrives ∈ gW := gW_in (i := 56) (by decide +kernel) rfl
theorem w_d_X8_arrives : yX8_arrives.cls ≠ "java/lang/invoke/MethodHandle" ∧ yX8_arrives.cls ≠ "java/lang/invoke/VarHandle" ∧ (parseMethodDescriptor yX8_arrives.desc).map (fun d => d.parameters.length) = some 1 := by decide +kernel
theorem LBX8_131 : g_LB RX8 131 yX8_arrives cX8_arrives 3 none 1 := ⟨gW_in (i := 1328) (by decide +kernel) rfl, w_ini_X8, w_c_X8_arrives, w_d_X8_arrives⟩
theorem LX8_131 : g_LV RX8 131 yX8_arrives cX8_arrives 3 none 1 8 := ⟨LBX8_131, w_i_X8_arrives, w_s_X8_arrives, _, _, rfl⟩
theorem w_c_X8_hasRigged : Cond.code yX8_hasRigged cX8_hasRigged 3 none ∈ gW := gW_in (i := 1335) (by decide +kernel) rfl
theorem w_i_X8_hasRigged : Cond.instanceMethod yX8_hasRigged ∈ gW := gW_in (i := 1334) (by decide +kernel) rfl
theorem w_s_X8_hasRigged : Cond.selects yX8_hasRigged.cls yX8_hasRigged yX8_hasRigged ∈ gW := gW_in (i := 57) (by decide +kernel) rfl
theorem w_d_X8_hasRigged : yX8_hasRigged.cls ≠ "java/lang/invoke/MethodHandle" ∧ yX8_hasRigged.cls ≠ "java/lang/invoke/VarHandle" ∧ (parseMethodDescriptor yX8_hasRigged.desc).map (fun d => d.parameters.length) = some 1 := by decide +kernel
theorem LBX8_134 : g_LB RX8 134 yX8_hasRigged cX8_hasRigged 3 none 1 := ⟨gW_in (i := 1332) (by decide +kernel) rfl, w_ini_X8, w_c_X8_hasRigged, w_d_X8_hasRigged⟩
theorem LX8_134 : g_LV RX8 134 yX8_hasRigged cX8_hasRigged 3 none 1 8 := ⟨LBX8_134, w_i_X8_hasRigged, w_s_X8_hasRigged, _, _, rfl⟩
theorem w_c_X8_minuteOf : Cond.code yX8_minuteOf cX8_minuteOf 7 none ∈ gW := gW_in (i := 1327) (by decide +kernel) rfl
theorem w_i_X8_minuteOf : Cond.instanceMethod yX8_minuteOf ∈ gW := gW_in (i := 1326) (by decide +kernel) rfl
theorem w_s_X8_minuteOf : Cond.selects yX8_minuteOf.cls yX8_minuteOf yX8_minuteOf ∈ gW := gW_in (i := 55) (by decide +kernel) rfl
theorem w_d_X8_minuteOf : yX8_minuteOf.cls ≠ "java/lang/invoke/MethodHandle" ∧ yX8_minuteOf.cls ≠ "java/lang/invoke/VarHandle" ∧ (parseMethodDescriptor yX8_minuteOf.desc).map (fun d => d.parameters.length) = some 1 := by decide +kernel
theorem LBX8_137 : g_LB RX8 137 yX8_minuteOf cX8_minuteOf 7 none 1 := ⟨gW_in (i := 1324) (by decide +kernel) rfl, w_ini_X8, w_c_X8_minuteOf, w_d_X8_minuteOf⟩
theorem LX8_137 : g_LV RX8 137 yX8_minuteOf cX8_minuteOf 7 none 1 8 := ⟨LBX8_137, w_i_X8_minuteOf, w_s_X8_minuteOf, _, _, rfl⟩
theorem w_c_X8_minute : Cond.code yX8_minute cX8_minute 8 (some .int) ∈ gW := gW_in (i := 1323) (by decide +kernel) rfl
theorem w_i_X8_minute : Cond.instanceMethod yX8_minute ∈ gW := gW_in (i := 1322) (by decide +kernel) rfl
theorem w_s_X8_minute : Cond.selects yX8_minute.cls yX8_minute yX8_minute ∈ gW := gW_in (i := 54) (by decide +kernel) rfl
theorem w_d_X8_minute : yX8_minute.cls ≠ "java/lang/invoke/MethodHandle" ∧ yX8_minute.cls ≠ "java/lang/invoke/VarHandle" ∧ (parseMethodDescriptor yX8_minute.desc).map (fun d => d.parameters.length) = some 0 := by decide +kernel
theorem LBX8_140 : g_LB RX8 140 yX8_minute cX8_minute 8 (some .int) 0 := ⟨gW_in (i := 1320) (by decide +kernel) rfl, w_ini_X8, w_c_X8_minute, w_d_X8_minute⟩
theorem LX8_140 : g_LV RX8 140 yX8_minute cX8_minute 8 (some .int) 0 8 := ⟨LBX8_140, w_i_X8_minute, w_s_X8_minute, _, _, rfl⟩
theorem w_c_X8_goes : Cond.code yX8_goes cX8_goes 3 (some .int) ∈ gW := gW_in (i := 1200) (by decide +kernel) rfl
theorem w_i_X8_goes : Cond.instanceMethod yX8_goes ∈ gW := gW_in (i := 1199) (by decide +kernel) rfl
theorem w_s_X8_goes : Cond.selects yX8_goes.cls yX8_goes yX8_goes ∈ gW := gW_in (i := 31) (by decide +kernel) rfl
theorem w_d_X8_goes : yX8_goes.cls ≠ "java/lang/invoke/MethodHandle" ∧ yX8_goes.cls ≠ "java/lang/invoke/VarHandle" ∧ (parseMethodDescriptor yX8_goes.desc).map (fun d => d.parameters.length) = some 2 := by decide +kernel
theorem LBX8_144 : g_LB RX8 144 yX8_goes cX8_goes 3 (some .int) 2 := ⟨gW_in (i := 1197) (by decide +kernel) rfl, w_ini_X8, w_c_X8_goes, w_d_X8_goes⟩
theorem LX8_144 : g_LV RX8 144 yX8_goes cX8_goes 3 (some .int) 2 8 := ⟨LBX8_144, w_i_X8_goes, w_s_X8_goes, _, _, rfl⟩
theorem w_c_X8_done : Cond.code yX8_done cX8_done 2 (some .int) ∈ gW := gW_in (i := 1244) (by decide +kernel) rfl
theorem w_i_X8_done : Cond.instanceMethod yX8_done ∈ gW := gW_in (i := 1243) (by decide +kernel) rfl
theorem w_s_X8_done : Cond.selects yX8_done.cls yX8_done yX8_done ∈ gW := gW_in (i := 42) (by decide +kernel) rfl
theorem w_d_X8_done : yX8_done.cls ≠ "java/lang/invoke/MethodHandle" ∧ yX8_done.cls ≠ "java/lang/invoke/VarHandle" ∧ (parseMethodDescriptor yX8_done.desc).map (fun d => d.parameters.length) = some 1 := by decide +kernel
theorem LBX8_147 : g_LB RX8 147 yX8_done cX8_done 2 (some .int) 1 := ⟨gW_in (i := 1241) (by decide +kernel) rfl, w_ini_X8, w_c_X8_done, w_d_X8_done⟩
theorem LX8_147 : g_LV RX8 147 yX8_done cX8_done 2 (some .int) 1 8 := ⟨LBX8_147, w_i_X8_done, w_s_X8_done, _, _, rfl⟩
theorem w_c_X8_takes : Cond.code yX8_takes cX8_takes 4 (some .int) ∈ gW := gW_in (i := 1252) (by decide +kernel) rfl
theorem w_i_X8_takes : Cond.instanceMethod yX8_takes ∈ gW := gW_in (i := 1251) (by decide +kernel) rfl
theorem w_s_X8_takes : Cond.selects yX8_takes.cls yX8_takes yX8_takes ∈ gW := gW_in (i := 43) (by decide +kernel) rfl
theorem w_d_X8_takes : yX8_takes.cls ≠ "java/lang/invoke/MethodHandle" ∧ yX8_takes.cls ≠ "java/lang/invoke/VarHandle" ∧ (parseMethodDescriptor yX8_takes.desc).map (fun d => d.parameters.length) = some 2 := by decide +kernel
theorem LBX8_150 : g_LB RX8 150 yX8_takes cX8_takes 4 (some .int) 2 := ⟨gW_in (i := 1249) (by decide +kernel) rfl, w_ini_X8, w_c_X8_takes, w_d_X8_takes⟩
theorem LX8_150 : g_LV RX8 150 yX8_takes cX8_takes 4 (some .int) 2 8 := ⟨LBX8_150, w_i_X8_takes, w_s_X8_takes, _, _, rfl⟩
theorem w_c_X8_rigsAt : Cond.code yX8_rigsAt cX8_rigsAt 3 (some .int) ∈ gW := gW_in (i := 1276) (by decide +kernel) rfl
theorem w_i_X8_rigsAt : Cond.instanceMethod yX8_rigsAt ∈ gW := gW_in (i := 1275) (by decide +kernel) rfl
theorem w_s_X8_rigsAt : Cond.selects yX8_rigsAt.cls yX8_rigsAt yX8_rigsAt ∈ gW := gW_in (i := 47) (by decide +kernel) rfl
theorem w_d_X8_rigsAt : yX8_rigsAt.cls ≠ "java/lang/invoke/MethodHandle" ∧ yX8_rigsAt.cls ≠ "java/lang/invoke/VarHandle" ∧ (parseMethodDescriptor yX8_rigsAt.desc).map (fun d => d.parameters.length) = some 1 := by decide +kernel
theorem LBX8_153 : g_LB RX8 153 yX8_rigsAt cX8_rigsAt 3 (some .int) 1 := ⟨gW_in (i := 1273) (by decide +kernel) rfl, w_ini_X8, w_c_X8_rigsAt, w_d_X8_rigsAt⟩
theorem LX8_153 : g_LV RX8 153 yX8_rigsAt cX8_rigsAt 3 (some .int) 1 8 := ⟨LBX8_153, w_i_X8_rigsAt, w_s_X8_rigsAt, _, _, rfl⟩
theorem w_c_X8_carries : Cond.code yX8_carries cX8_carries 5 (some .int) ∈ gW := gW_in (i := 1292) (by decide +kernel) rfl
theorem w_i_X8_carries : Cond.instanceMethod yX8_carries ∈ gW := gW_in (i := 1291) (by decide +kernel) rfl
theorem w_s_X8_carries : Cond.selects yX8_carries.cls yX8_carries yX8_carries ∈ gW := gW_in (i := 49) (by decide +kernel) rfl
theorem w_d_X8_carries : yX8_carries.cls ≠ "java/lang/invoke/MethodHandle" ∧ yX8_carries.cls ≠ "java/lang/invoke/VarHandle" ∧ (parseMethodDescriptor yX8_carries.desc).map (fun d => d.parameters.length) = some 1 := by decide +kernel
theorem LBX8_156 : g_LB RX8 156 yX8_carries cX8_carries 5 (some .int) 1 := ⟨gW_in (i := 1289) (by decide +kernel) rfl, w_ini_X8, w_c_X8_carries, w_d_X8_carries⟩
theorem LX8_156 : g_LV RX8 156 yX8_carries cX8_carries 5 (some .int) 1 8 := ⟨LBX8_156, w_i_X8_carries, w_s_X8_carries, _, _, rfl⟩
theorem w_c_X8_sends : Cond.code yX8_sends cX8_sends 4 (some .int) ∈ gW := gW_in (i := 1311) (by decide +kernel) rfl
theorem w_i_X8_sends : Cond.instanceMethod yX8_sends ∈ gW := gW_in (i := 1310) (by decide +kernel) rfl
theorem w_s_X8_sends : Cond.selects yX8_sends.cls yX8_sends yX8_sends ∈ gW := gW_in (i := 52) (by decide +kernel) rfl
theorem w_d_X8_sends : yX8_sends.cls ≠ "java/lang/invoke/MethodHandle" ∧ yX8_sends.cls ≠ "java/lang/invoke/VarHandle" ∧ (parseMethodDescriptor yX8_sends.desc).map (fun d => d.parameters.length) = some 1 := by decide +kernel
theorem LBX8_159 : g_LB RX8 159 yX8_sends cX8_sends 4 (some .int) 1 := ⟨gW_in (i := 1308) (by decide +kernel) rfl, w_ini_X8, w_c_X8_sends, w_d_X8_sends⟩
theorem LX8_159 : g_LV RX8 159 yX8_sends cX8_sends 4 (some .int) 1 8 := ⟨LBX8_159, w_i_X8_sends, w_s_X8_sends, _, _, rfl⟩
theorem w_c_X8_passes : Cond.code yX8_passes cX8_passes 3 (some .int) ∈ gW := gW_in (i := 1319) (by decide +kernel) rfl
theorem w_i_X8_passes : Cond.instanceMethod yX8_passes ∈ gW := gW_in (i := 1318) (by decide +kernel) rfl
theorem w_s_X8_passes : Cond.selects yX8_passes.cls yX8_passes yX8_passes ∈ gW := gW_in (i := 53) (by decide +kernel) rfl
theorem w_d_X8_passes : yX8_passes.cls ≠ "java/lang/invoke/MethodHandle" ∧ yX8_passes.cls ≠ "java/lang/invoke/VarHandle" ∧ (parseMethodDescriptor yX8_passes.desc).map (fun d => d.parameters.length) = some 1 := by decide +kernel
theorem LBX8_162 : g_LB RX8 162 yX8_passes cX8_passes 3 (some .int) 1 := ⟨gW_in (i := 1316) (by decide +kernel) rfl, w_ini_X8, w_c_X8_passes, w_d_X8_passes⟩
theorem LX8_162 : g_LV RX8 162 yX8_passes cX8_passes 3 (some .int) 1 8 := ⟨LBX8_162, w_i_X8_passes, w_s_X8_passes, _, _, rfl⟩
theorem w_c_X8_passageFact : Cond.code yX8_passageFact cX8_passageFact 3 (some .int) ∈ gW := gW_in (i := 1343) (by decide +kernel) rfl
theorem w_i_X8_passageFact : Cond.instanceMethod yX8_passageFact ∈ gW := gW_in (i := 1342) (by decide +kernel) rfl
theorem w_s_X8_passageFact : Cond.selects yX8_passageFact.cls yX8_passageFact yX8_passageFact ∈ gW := gW_in (i := 58) (by decide +kernel) rfl
theorem w_d_X8_passageFact : yX8_passageFact.cls ≠ "java/lang/invoke/MethodHandle" ∧ yX8_passageFact.cls ≠ "java/lang/invoke/VarHandle" ∧ (parseMethodDescriptor yX8_passageFact.desc).map (fun d => d.parameters.length) = some 2 := by decide +kernel
theorem LBX8_165 : g_LB RX8 165 yX8_passageFact cX8_passageFact 3 (some .int) 2 := ⟨gW_in (i := 1340) (by decide +kernel) rfl, w_ini_X8, w_c_X8_passageFact, w_d_X8_passageFact⟩
theorem LX8_165 : g_LV RX8 165 yX8_passageFact cX8_passageFact 3 (some .int) 2 8 := ⟨LBX8_165, w_i_X8_passageFact, w_s_X8_passageFact, _, _, rfl⟩
theorem w_c_X8_below : Cond.code yX8_below cX8_below 3 (some .int) ∈ gW := gW_in (i := 1363) (by decide +kernel) rfl
theorem w_i_X8_below : Cond.instanceMethod yX8_below ∈ gW := gW_in (i := 1362) (by decide +kernel) rfl
theorem w_s_X8_below : Cond.selects yX8_below.cls yX8_below yX8_below ∈ gW := gW_in (i := 60) (by decide +kernel) rfl
theorem w_d_X8_below : yX8_below.cls ≠ "java/lang/invoke/MethodHandle" ∧ yX8_below.cls ≠ "java/lang/invoke/VarHandle" ∧ (parseMethodDescriptor yX8_below.desc).map (fun d => d.parameters.length) = some 0 := by decide +kernel
theorem LBX8_168 : g_LB RX8 168 yX8_below cX8_below 3 (some .int) 0 := ⟨gW_in (i := 1360) (by decide +kernel) rfl, w_ini_X8, w_c_X8_below, w_d_X8_below⟩
theorem LX8_168 : g_LV RX8 168 yX8_below cX8_below 3 (some .int) 0 8 := ⟨LBX8_168, w_i_X8_below, w_s_X8_below, _, _, rfl⟩
theorem w_c_X8_shut : Cond.code yX8_shut cX8_shut 3 (some .int) ∈ gW := gW_in (i := 1367) (by decide +kernel) rfl
theorem w_i_X8_shut : Cond.instanceMethod yX8_shut ∈ gW := gW_in (i := 1366) (by decide +kernel) rfl
theorem w_s_X8_shut : Cond.selects yX8_shut.cls yX8_shut yX8_shut ∈ gW := gW_in (i := 61) (by decide +kernel) rfl
theorem w_d_X8_shut : yX8_shut.cls ≠ "java/lang/invoke/MethodHandle" ∧ yX8_shut.cls ≠ "java/lang/invoke/VarHandle" ∧ (parseMethodDescriptor yX8_shut.desc).map (fun d => d.parameters.length) = some 0 := by decide +kernel
theorem LBX8_171 : g_LB RX8 171 yX8_shut cX8_shut 3 (some .int) 0 := ⟨gW_in (i := 1364) (by decide +kernel) rfl, w_ini_X8, w_c_X8_shut, w_d_X8_shut⟩
theorem LX8_171 : g_LV RX8 171 yX8_shut cX8_shut 3 (some .int) 0 8 := ⟨LBX8_171, w_i_X8_shut, w_s_X8_shut, _, _, rfl⟩
theorem w_c_X8_valueOf : Cond.code yX8_valueOf cX8_valueOf 2 (some .int) ∈ gW := gW_in (i := 1359) (by decide +kernel) rfl
theorem w_i_X8_valueOf : Cond.instanceMethod yX8_valueOf ∈ gW := gW_in (i := 1358) (by decide +kernel) rfl
theorem w_s_X8_valueOf : Cond.selects yX8_valueOf.cls yX8_valueOf yX8_valueOf ∈ gW := gW_in (i := 59) (by decide +kernel) rfl
theorem w_d_X8_valueOf : yX8_valueOf.cls ≠ "java/lang/invoke/MethodHandle" ∧ yX8_valueOf.cls ≠ "java/lang/invoke/VarHandle" ∧ (parseMethodDescriptor yX8_valueOf.desc).map (fun d => d.parameters.length) = some 1 := by decide +kernel
theorem LBX8_174 : g_LB RX8 174 yX8_valueOf cX8_valueOf 2 (some .int) 1 := ⟨gW_in (i := 1356) (by decide +kernel) rfl, w_ini_X8, w_c_X8_valueOf, w_d_X8_valueOf⟩
theorem LX8_174 : g_LV RX8 174 yX8_valueOf cX8_valueOf 2 (some .int) 1 8 := ⟨LBX8_174, w_i_X8_valueOf, w_s_X8_valueOf, _, _, rfl⟩
theorem w_c_X8_isShutAbove : Cond.code yX8_isShutAbove cX8_isShutAbove 4 (some .boolean) ∈ gW := gW_in (i := 1391) (by decide +kernel) rfl
theorem w_i_X8_isShutAbove : Cond.instanceMethod yX8_isShutAbove ∈ gW := gW_in (i := 1390) (by decide +kernel) rfl
theorem w_s_X8_isShutAbove : Cond.selects yX8_isShutAbove.cls yX8_isShutAbove yX8_isShutAbove ∈ gW := gW_in (i := 63) (by decide +kernel) rfl
theorem w_d_X8_isShutAbove : yX8_isShutAbove.cls ≠ "java/lang/invoke/MethodHandle" ∧ yX8_isShutAbove.cls ≠ "java/lang/invoke/VarHandle" ∧ (parseMethodDescriptor yX8_isShutAbove.desc).map (fun d => d.parameters.length) = some 1 := by decide +kernel
theorem LBX8_177 : g_LB RX8 177 yX8_isShutAbove cX8_isShutAbove 4 (some .boolean) 1 := ⟨gW_in (i := 1388) (by decide +kernel) rfl, w_ini_X8, w_c_X8_isShutAbove, w_d_X8_isShutAbove⟩
theorem LX8_177 : g_LV RX8 177 yX8_isShutAbove cX8_isShutAbove 4 (some .boolean) 1 8 := ⟨LBX8_177, w_i_X8_isShutAbove, w_s_X8_isShutAbove, _, _, rfl⟩
theorem w_c_X8_timeUp : Cond.code yX8_timeUp cX8_timeUp 2 (some .int) ∈ gW := gW_in (i := 1387) (by decide +kernel) rfl
theorem w_i_X8_timeUp : Cond.instanceMethod yX8_timeUp ∈ gW := gW_in (i := 1386) (by decide +kernel) rfl
theorem w_s_X8_timeUp : Cond.selects yX8_timeUp.cls yX8_timeUp yX8_timeUp ∈ gW := gW_in (i := 62) (by decide +kernel) rfl
theorem w_d_X8_timeUp : yX8_timeUp.cls ≠ "java/lang/invoke/MethodHandle" ∧ yX8_timeUp.cls ≠ "java/lang/invoke/VarHandle" ∧ (parseMethodDescriptor yX8_timeUp.desc).map (fun d => d.parameters.length) = some 1 := by decide +kernel
theorem LBX8_180 : g_LB RX8 180 yX8_timeUp cX8_timeUp 2 (some .int) 1 := ⟨gW_in (i := 1384) (by decide +kernel) rfl, w_ini_X8, w_c_X8_timeUp, w_d_X8_timeUp⟩
theorem LX8_180 : g_LV RX8 180 yX8_timeUp cX8_timeUp 2 (some .int) 1 8 := ⟨LBX8_180, w_i_X8_timeUp, w_s_X8_timeUp, _, _, rfl⟩
theorem w_c_X8_digit : Cond.code yX8_digit cX8_digit 4 (some .int) ∈ gW := gW_in (i := 1447) (by decide +kernel) rfl
theorem w_i_X8_digit : Cond.instanceMethod yX8_digit ∈ gW := gW_in (i := 1446) (by decide +kernel) rfl
theorem w_s_X8_digit : Cond.selects yX8_digit.cls yX8_digit yX8_digit ∈ gW := gW_in (i := 68) (by decide +kernel) rfl
theorem w_d_X8_digit : yX8_digit.cls ≠ "java/lang/invoke/MethodHandle" ∧ yX8_digit.cls ≠ "java/lang/invoke/VarHandle" ∧ (parseMethodDescriptor yX8_digit.desc).map (fun d => d.parameters.length) = some 1 := by decide +kernel
theorem LBX8_192 : g_LB RX8 192 yX8_digit cX8_digit 4 (some .int) 1 := ⟨gW_in (i := 1444) (by decide +kernel) rfl, w_ini_X8, w_c_X8_digit, w_d_X8_digit⟩
theorem LX8_192 : g_LV RX8 192 yX8_digit cX8_digit 4 (some .int) 1 8 := ⟨LBX8_192, w_i_X8_digit, w_s_X8_digit, _, _, rfl⟩
theorem w_c_X8_readsMinutes : Cond.code yX8_readsMinutes cX8_readsMinutes 4 (some .boolean) ∈ gW := gW_in (i := 1443) (by decide +kernel) rfl
theorem w_i_X8_readsMinutes : Cond.instanceMethod yX8_readsMinutes ∈ gW := gW_in (i := 1442) (by decide +kernel) rfl
theorem w_s_X8_readsMinutes : Cond.selects yX8_readsMinutes.cls yX8_readsMinutes yX8_readsMinutes ∈ gW := gW_in (i := 67) (by decide +kernel) rfl
theorem w_d_X8_readsMinutes : yX8_readsMinutes.cls ≠ "java/lang/invoke/MethodHandle" ∧ yX8_readsMinutes.cls ≠ "java/lang/invoke/VarHandle" ∧ (parseMethodDescriptor yX8_readsMinutes.desc).map (fun d => d.parameters.length) = some 0 := by decide +kernel
theorem LBX8_198 : g_LB RX8 198 yX8_readsMinutes cX8_readsMinutes 4 (some .boolean) 0 := ⟨gW_in (i := 1440) (by decide +kernel) rfl, w_ini_X8, w_c_X8_readsMinutes, w_d_X8_readsMinutes⟩
theorem LX8_198 : g_LV RX8 198 yX8_readsMinutes cX8_readsMinutes 4 (some .boolean) 0 8 := ⟨LBX8_198, w_i_X8_readsMinutes, w_s_X8_readsMinutes, _, _, rfl⟩
theorem w_c_X8_readsTeam : Cond.code yX8_readsTeam cX8_readsTeam 3 (some .boolean) ∈ gW := gW_in (i := 1451) (by decide +kernel) rfl
theorem w_i_X8_readsTeam : Cond.instanceMethod yX8_readsTeam ∈ gW := gW_in (i := 1450) (by decide +kernel) rfl
theorem w_s_X8_readsTeam : Cond.selects yX8_readsTeam.cls yX8_readsTeam yX8_readsTeam ∈ gW := gW_in (i := 69) (by decide +kernel) rfl
theorem w_d_X8_readsTeam : yX8_readsTeam.cls ≠ "java/lang/invoke/MethodHandle" ∧ yX8_readsTeam.cls ≠ "java/lang/invoke/VarHandle" ∧ (parseMethodDescriptor yX8_readsTeam.desc).map (fun d => d.parameters.length) = some 0 := by decide +kernel
theorem LBX8_201 : g_LB RX8 201 yX8_readsTeam cX8_readsTeam 3 (some .boolean) 0 := ⟨gW_in (i := 1448) (by decide +kernel) rfl, w_ini_X8, w_c_X8_readsTeam, w_d_X8_readsTeam⟩
theorem LX8_201 : g_LV RX8 201 yX8_readsTeam cX8_readsTeam 3 (some .boolean) 0 8 := ⟨LBX8_201, w_i_X8_readsTeam, w_s_X8_readsTeam, _, _, rfl⟩
theorem w_c_X8_readsRest : Cond.code yX8_readsRest cX8_readsRest 1 (some .boolean) ∈ gW := gW_in (i := 1439) (by decide +kernel) rfl
theorem w_i_X8_readsRest : Cond.instanceMethod yX8_readsRest ∈ gW := gW_in (i := 1438) (by decide +kernel) rfl
theorem w_s_X8_readsRest : Cond.selects yX8_readsRest.cls yX8_readsRest yX8_readsRest ∈ gW := gW_in (i := 66) (by decide +kernel) rfl
theorem w_d_X8_readsRest : yX8_readsRest.cls ≠ "java/lang/invoke/MethodHandle" ∧ yX8_readsRest.cls ≠ "java/lang/invoke/VarHandle" ∧ (parseMethodDescriptor yX8_readsRest.desc).map (fun d => d.parameters.length) = some 0 := by decide +kernel
theorem LBX8_207 : g_LB RX8 207 yX8_readsRest cX8_readsRest 1 (some .boolean) 0 := ⟨gW_in (i := 1436) (by decide +kernel) rfl, w_ini_X8, w_c_X8_readsRest, w_d_X8_readsRest⟩
theorem LX8_207 : g_LV RX8 207 yX8_readsRest cX8_readsRest 1 (some .boolean) 0 8 := ⟨LBX8_207, w_i_X8_readsRest, w_s_X8_readsRest, _, _, rfl⟩
theorem w_c_X8_readsOrder : Cond.code yX8_readsOrder cX8_readsOrder 1 (some .boolean) ∈ gW := gW_in (i := 1435) (by decide +kernel) rfl
theorem w_i_X8_readsOrder : Cond.instanceMethod yX8_readsOrder ∈ gW := gW_in (i := 1434) (by decide +kernel) rfl
theorem w_s_X8_readsOrder : Cond.selects yX8_readsOrder.cls yX8_readsOrder yX8_readsOrder ∈ gW := gW_in (i := 65) (by decide +kernel) rfl
theorem w_d_X8_readsOrder : yX8_readsOrder.cls ≠ "java/lang/invoke/MethodHandle" ∧ yX8_readsOrder.cls ≠ "java/lang/invoke/VarHandle" ∧ (parseMethodDescriptor yX8_readsOrder.desc).map (fun d => d.parameters.length) = some 0 := by decide +kernel
theorem LBX8_210 : g_LB RX8 210 yX8_readsOrder cX8_readsOrder 1 (some .boolean) 0 := ⟨gW_in (i := 1432) (by decide +kernel) rfl, w_ini_X8, w_c_X8_readsOrder, w_d_X8_readsOrder⟩
theorem LX8_210 : g_LV RX8 210 yX8_readsOrder cX8_readsOrder 1 (some .boolean) 0 8 := ⟨LBX8_210, w_i_X8_readsOrder, w_s_X8_readsOrder, _, _, rfl⟩
theorem w_c_X8_faultAt : Cond.code yX8_faultAt cX8_faultAt 1 (some .int) ∈ gW := gW_in (i := 1431) (by decide +kernel) rfl
theorem w_i_X8_faultAt : Cond.instanceMethod yX8_faultAt ∈ gW := gW_in (i := 1430) (by decide +kernel) rfl
theorem w_s_X8_faultAt : Cond.selects yX8_faultAt.cls yX8_faultAt yX8_faultAt ∈ gW := gW_in (i := 64) (by decide +kernel) rfl
theorem w_d_X8_faultAt : yX8_faultAt.cls ≠ "java/lang/invoke/MethodHandle" ∧ yX8_faultAt.cls ≠ "java/lang/invoke/VarHandle" ∧ (parseMethodDescriptor yX8_faultAt.desc).map (fun d => d.parameters.length) = some 0 := by decide +kernel
theorem LBX8_213 : g_LB RX8 213 yX8_faultAt cX8_faultAt 1 (some .int) 0 := ⟨gW_in (i := 1428) (by decide +kernel) rfl, w_ini_X8, w_c_X8_faultAt, w_d_X8_faultAt⟩
theorem LX8_213 : g_LV RX8 213 yX8_faultAt cX8_faultAt 1 (some .int) 0 8 := ⟨LBX8_213, w_i_X8_faultAt, w_s_X8_faultAt, _, _, rfl⟩
theorem w_c_X8_does : Cond.code yX8_does cX8_does 1 (some .int) ∈ gW := gW_in (i := 1455) (by decide +kernel) rfl
theorem w_i_X8_does : Cond.instanceMethod yX8_does ∈ gW := gW_in (i := 1454) (by decide +kernel) rfl
theorem w_s_X8_does : Cond.selects yX8_does.cls yX8_does yX8_does ∈ gW := gW_in (i := 70) (by decide +kernel) rfl
theorem w_d_X8_does : yX8_does.cls ≠ "java/lang/invoke/MethodHandle" ∧ yX8_does.cls ≠ "java/lang/invoke/VarHandle" ∧ (parseMethodDescriptor yX8_does.desc).map (fun d => d.parameters.length) = some 0 := by decide +kernel
theorem LBX8_216 : g_LB RX8 216 yX8_does cX8_does 1 (some .int) 0 := ⟨gW_in (i := 1452) (by decide +kernel) rfl, w_ini_X8, w_c_X8_does, w_d_X8_does⟩
theorem LX8_216 : g_LV RX8 216 yX8_does cX8_does 1 (some .int) 0 8 := ⟨LBX8_216, w_i_X8_does, w_s_X8_does, _, _, rfl⟩
theorem w_c_X8_begins : Cond.code yX8_begins cX8_begins 3 none ∈ gW := gW_in (i := 1084) (by decide +kernel) rfl
theorem w_i_X8_begins : Cond.instanceMethod yX8_begins ∈ gW := gW_in (i := 1083) (by decide +kernel) rfl
theorem w_s_X8_begins : Cond.selects yX8_begins.cls yX8_begins yX8_begins ∈ gW := gW_in (i := 20) (by decide +kernel) rfl
theorem w_d_X8_begins : yX8_begins.cls ≠ "java/lang/invoke/MethodHandle" ∧ yX8_begins.cls ≠ "java/lang/invoke/VarHandle" ∧ (parseMethodDescriptor yX8_begins.desc).map (fun d => d.parameters.length) = some 1 := by decide +kernel
theorem LBX8_22 : g_LB RX8 22 yX8_begins cX8_begins 3 none 1 := ⟨gW_in (i := 1081) (by decide +kernel) rfl, w_ini_X8, w_c_X8_begins, w_d_X8_begins⟩
theorem LX8_22 : g_LV RX8 22 yX8_begins cX8_begins 3 none 1 8 := ⟨LBX8_22, w_i_X8_begins, w_s_X8_begins, _, _, rfl⟩
theorem w_c_X8_mix : Cond.code yX8_mix cX8_mix 2 none ∈ gW := gW_in (i := 1468) (by decide +kernel) rfl
theorem w_i_X8_mix : Cond.instanceMethod yX8_mix ∈ gW := gW_in (i := 1467) (by decide +kernel) rfl
theorem w_s_X8_mix : Cond.selects yX8_mix.cls yX8_mix yX8_mix ∈ gW := gW_in (i := 71) (by decide +kernel) rfl
theorem w_d_X8_mix : yX8_mix.cls ≠ "java/lang/invoke/MethodHandle" ∧ yX8_mix.cls ≠ "java/lang/invoke/VarHandle" ∧ (parseMethodDescriptor yX8_mix.desc).map (fun d => d.parameters.length) = some 1 := by decide +kernel
theorem LBX8_227 : g_LB RX8 227 yX8_mix cX8_mix 2 none 1 := ⟨gW_in (i := 1465) (by decide +kernel) rfl, w_ini_X8, w_c_X8_mix, w_d_X8_mix⟩
theorem LX8_227 : g_LV RX8 227 yX8_mix cX8_mix 2 none 1 8 := ⟨LBX8_227, w_i_X8_mix, w_s_X8_mix, _, _, rfl⟩
theorem w_c_X8_tells : Cond.code yX8_tells cX8_tells 2 (some .int) ∈ gW := gW_in (i := 1151) (by decide +kernel) rfl
theorem w_i_X8_tells : Cond.instanceMethod yX8_tells ∈ gW := gW_in (i := 1150) (by decide +kernel) rfl
theorem w_s_X8_tells : Cond.selects yX8_tells.cls yX8_tells yX8_tells ∈ gW := gW_in (i := 24) (by decide +kernel) rfl
theorem w_d_X8_tells : yX8_tells.cls ≠ "java/lang/invoke/MethodHandle" ∧ yX8_tells.cls ≠ "java/lang/invoke/VarHandle" ∧ (parseMethodDescriptor yX8_tells.desc).map (fun d => d.parameters.length) = some 1 := by decide +kernel
theorem LBX8_33 : g_LB RX8 33 yX8_tells cX8_tells 2 (some .int) 1 := ⟨gW_in (i := 1148) (by decide +kernel) rfl, w_ini_X8, w_c_X8_tells, w_d_X8_tells⟩
theorem LX8_33 : g_LV RX8 33 yX8_tells cX8_tells 2 (some .int) 1 8 := ⟨LBX8_33, w_i_X8_tells, w_s_X8_tells, _, _, rfl⟩
theorem w_c_X8_of : Cond.code yX8_of cX8_of 3 (some .int) ∈ gW := gW_in (i := 1167) (by decide +kernel) rfl
theorem w_i_X8_of : Cond.instanceMethod yX8_of ∈ gW := gW_in (i := 1166) (by decide +kernel) rfl
theorem w_s_X8_of : Cond.selects yX8_of.cls yX8_of yX8_of ∈ gW := gW_in (i := 27) (by decide +kernel) rfl
theorem w_d_X8_of : yX8_of.cls ≠ "java/lang/invoke/MethodHandle" ∧ yX8_of.cls ≠ "java/lang/invoke/VarHandle" ∧ (parseMethodDescriptor yX8_of.desc).map (fun d => d.parameters.length) = some 2 := by decide +kernel
theorem LBX8_37 : g_LB RX8 37 yX8_of cX8_of 3 (some .int) 2 := ⟨gW_in (i := 1164) (by decide +kernel) rfl, w_ini_X8, w_c_X8_of, w_d_X8_of⟩
theorem LX8_37 : g_LV RX8 37 yX8_of cX8_of 3 (some .int) 2 8 := ⟨LBX8_37, w_i_X8_of, w_s_X8_of, _, _, rfl⟩
theorem w_c_X8_passageOf : Cond.code yX8_passageOf cX8_passageOf 3 (some .int) ∈ gW := gW_in (i := 1175) (by decide +kernel) rfl
theorem w_i_X8_passageOf : Cond.instanceMethod yX8_passageOf ∈ gW := gW_in (i := 1174) (by decide +kernel) rfl
theorem w_s_X8_passageOf : Cond.selects yX8_passageOf.cls yX8_passageOf yX8_passageOf ∈ gW := gW_in (i := 29) (by decide +kernel) rfl
theorem w_d_X8_passageOf : yX8_passageOf.cls ≠ "java/lang/invoke/MethodHandle" ∧ yX8_passageOf.cls ≠ "java/lang/invoke/VarHandle" ∧ (parseMethodDescriptor yX8_passageOf.desc).map (fun d => d.parameters.length) = some 1 := by decide +kernel
theorem LBX8_41 : g_LB RX8 41 yX8_passageOf cX8_passageOf 3 (some .int) 1 := ⟨gW_in (i := 1172) (by decide +kernel) rfl, w_ini_X8, w_c_X8_passageOf, w_d_X8_passageOf⟩
theorem LX8_41 : g_LV RX8 41 yX8_passageOf cX8_passageOf 3 (some .int) 1 8 := ⟨LBX8_41, w_i_X8_passageOf, w_s_X8_passageOf, _, _, rfl⟩
theorem w_c_X8_isShut : Cond.code yX8_isShut cX8_isShut 2 (some .boolean) ∈ gW := gW_in (i := 1216) (by decide +kernel) rfl
theorem w_i_X8_isShut : Cond.instanceMethod yX8_isShut ∈ gW := gW_in (i := 1215) (by decide +kernel) rfl
theorem w_s_X8_isShut : Cond.selects yX8_isShut.cls yX8_isShut yX8_isShut ∈ gW := gW_in (i := 35) (by decide +kernel) rfl
theorem w_d_X8_isShut : yX8_isShut.cls ≠ "java/lang/invoke/MethodHandle" ∧ yX8_isShut.cls ≠ "java/lang/invoke/VarHandle" ∧ (parseMethodDescriptor yX8_isShut.desc).map (fun d => d.parameters.length) = some 1 := by decide +kernel
theorem LBX8_44 : g_LB RX8 44 yX8_isShut cX8_isShut 2 (some .boolean) 1 := ⟨gW_in (i := 1213) (by decide +kernel) rfl, w_ini_X8, w_c_X8_isShut, w_d_X8_isShut⟩
theorem LX8_44 : g_LV RX8 44 yX8_isShut cX8_isShut 2 (some .boolean) 1 8 := ⟨LBX8_44, w_i_X8_isShut, w_s_X8_isShut, _, _, rfl⟩
theorem w_c_X8_isBelow : Cond.code yX8_isBelow cX8_isBelow 2 (some .boolean) ∈ gW := gW_in (i := 1228) (by decide +kernel) rfl
theorem w_i_X8_isBelow : Cond.instanceMethod yX8_isBelow ∈ gW := gW_in (i := 1227) (by decide +kernel) rfl
theorem w_s_X8_isBelow : Cond.selects yX8_isBelow.cls yX8_isBelow yX8_isBelow ∈ gW := gW_in (i := 38) (by decide +kernel) rfl
theorem w_d_X8_isBelow : yX8_isBelow.cls ≠ "java/lang/invoke/MethodHandle" ∧ yX8_isBelow.cls ≠ "java/lang/invoke/VarHandle" ∧ (parseMethodDescriptor yX8_isBelow.desc).map (fun d => d.parameters.length) = some 1 := by decide +kernel
theorem LBX8_48 : g_LB RX8 48 yX8_isBelow cX8_isBelow 2 (some .boolean) 1 := ⟨gW_in (i := 1225) (by decide +kernel) rfl, w_ini_X8, w_c_X8_isBelow, w_d_X8_isBelow⟩
theorem LX8_48 : g_LV RX8 48 yX8_isBelow cX8_isBelow 2 (some .boolean) 1 8 := ⟨LBX8_48, w_i_X8_isBelow, w_s_X8_isBelow, _, _, rfl⟩
theorem w_c_X8_upFrom : Cond.code yX8_upFrom cX8_upFrom 4 (some .int) ∈ gW := gW_in (i := 1232) (by decide +kernel) rfl
theorem w_i_X8_upFrom : Cond.instanceMethod yX8_upFrom ∈ gW := gW_in (i := 1231) (by decide +kernel) rfl
theorem w_s_X8_upFrom : Cond.selects yX8_upFrom.cls yX8_upFrom yX8_upFrom ∈ gW := gW_in (i := 39) (by decide +kernel) rfl
theorem w_d_X8_upFrom : yX8_upFrom.cls ≠ "java/lang/invoke/MethodHandle" ∧ yX8_upFrom.cls ≠ "java/lang/invoke/VarHandle" ∧ (parseMethodDescriptor yX8_upFrom.desc).map (fun d => d.parameters.length) = some 1 := by decide +kernel
theorem LBX8_51 : g_LB RX8 51 yX8_upFrom cX8_upFrom 4 (some .int) 1 := ⟨gW_in (i := 1229) (by decide +kernel) rfl, w_ini_X8, w_c_X8_upFrom, w_d_X8_upFrom⟩
theorem LX8_51 : g_LV RX8 51 yX8_upFrom cX8_upFrom 4 (some .int) 1 8 := ⟨LBX8_51, w_i_X8_upFrom, w_s_X8_upFrom, _, _, rfl⟩
theorem w_c_X8_in : Cond.code yX8_in cX8_in 3 (some .boolean) ∈ gW := gW_in (i := 1135) (by decide +kernel) rfl
theorem w_t_X8_in : Cond.static yX8_in ∈ gW := gW_in (i := 1134) (by decide +kernel) rfl
theorem w_d_X8_in : yX8_in.cls ≠ "java/lang/invoke/MethodHandle" ∧ yX8_in.cls ≠ "java/lang/invoke/VarHandle" ∧ (parseMethodDescriptor yX8_in.desc).map (fun d => d.parameters.length) = some 3 := by decide +kernel
theorem LBX8_54 : g_LB RX8 54 yX8_in cX8_in 3 (some .boolean) 3 := ⟨gW_in (i := 1133) (by decide +kernel) rfl, w_ini_X8, w_c_X8_in, w_d_X8_in⟩
theorem LX8_54 : g_LS RX8 54 yX8_in cX8_in 3 (some .boolean) 3 := ⟨LBX8_54, w_t_X8_in⟩
theorem w_c_X8_fails : Cond.code yX8_fails cX8_fails 2 (some .int) ∈ gW := gW_in (i := 1139) (by decide +kernel) rfl
theorem w_i_X8_fails : Cond.instanceMethod yX8_fails ∈ gW := gW_in (i := 1138) (by decide +kernel) rfl
theorem w_s_X8_fails : Cond.selects yX8_fails.cls yX8_fails yX8_fails ∈ gW := gW_in (i := 21) (by decide +kernel) rfl
theorem w_d_X8_fails : yX8_fails.cls ≠ "java/lang/invoke/MethodHandle" ∧ yX8_fails.cls ≠ "java/lang/invoke/VarHandle" ∧ (parseMethodDescriptor yX8_fails.desc).map (fun d => d.parameters.length) = some 1 := by decide +kernel
theorem LBX8_58 : g_LB RX8 58 yX8_fails cX8_fails 2 (some .int) 1 := ⟨gW_in (i := 1136) (by decide +kernel) rfl, w_ini_X8, w_c_X8_fails, w_d_X8_fails⟩
theorem LX8_58 : g_LV RX8 58 yX8_fails cX8_fails 2 (some .int) 1 8 := ⟨LBX8_58, w_i_X8_fails, w_s_X8_fails, _, _, rfl⟩
theorem w_c_X8_hold : Cond.code yX8_hold cX8_hold 2 none ∈ gW := gW_in (i := 1143) (by decide +kernel) rfl
theorem w_i_X8_hold : Cond.instanceMethod yX8_hold ∈ gW := gW_in (i := 1142) (by decide +kernel) rfl
theorem w_s_X8_hold : Cond.selects yX8_hold.cls yX8_hold yX8_hold ∈ gW := gW_in (i := 22) (by decide +kernel) rfl
theorem w_d_X8_hold : yX8_hold.cls ≠ "java/lang/invoke/MethodHandle" ∧ yX8_hold.cls ≠ "java/lang/invoke/VarHandle" ∧ (parseMethodDescriptor yX8_hold.desc).map (fun d => d.parameters.length) = some 0 := by decide +kernel
theorem LBX8_61 : g_LB RX8 61 yX8_hold cX8_hold 2 none 0 := ⟨gW_in (i := 1140) (by decide +kernel) rfl, w_ini_X8, w_c_X8_hold, w_d_X8_hold⟩
theorem LX8_61 : g_LV RX8 61 yX8_hold cX8_hold 2 none 0 8 := ⟨LBX8_61, w_i_X8_hold, w_s_X8_hold, _, _, rfl⟩
theorem w_c_X8_ends : Cond.code yX8_ends cX8_ends 3 (some .int) ∈ gW := gW_in (i := 1147) (by decide +kernel) rfl
theorem w_i_X8_ends : Cond.instanceMethod yX8_ends ∈ gW := gW_in (i := 1146) (by decide +kernel) rfl
theorem w_s_X8_ends : Cond.selects yX8_ends.cls yX8_ends yX8_ends ∈ gW := gW_in (i := 23) (by decide +kernel) rfl
theorem w_d_X8_ends : yX8_ends.cls ≠ "java/lang/invoke/MethodHandle" ∧ yX8_ends.cls ≠ "java/lang/invoke/VarHandle" ∧ (parseMethodDescriptor yX8_ends.desc).map (fun d => d.parameters.length) = some 1 := by decide +kernel
theorem LBX8_64 : g_LB RX8 64 yX8_ends cX8_ends 3 (some .int) 1 := ⟨gW_in (i := 1144) (by decide +kernel) rfl, w_ini_X8, w_c_X8_ends, w_d_X8_ends⟩
theorem LX8_64 : g_LV RX8 64 yX8_ends cX8_ends 3 (some .int) 1 8 := ⟨LBX8_64, w_i_X8_ends, w_s_X8_ends, _, _, rfl⟩
theorem w_c_X8_isPassage : Cond.code yX8_isPassage cX8_isPassage 2 (some .boolean) ∈ gW := gW_in (i := 1159) (by decide +kernel) rfl
theorem w_i_X8_isPassage : Cond.instanceMethod yX8_isPassage ∈ gW := gW_in (i := 1158) (by decide +kernel) rfl
theorem w_s_X8_isPassage : Cond.selects yX8_isPassage.cls yX8_isPassage yX8_isPassage ∈ gW := gW_in (i := 25) (by decide +kernel) rfl
theorem w_d_X8_isPassage : yX8_isPassage.cls ≠ "java/lang/invoke/MethodHandle" ∧ yX8_isPassage.cls ≠ "java/lang/invoke/VarHandle" ∧ (parseMethodDescriptor yX8_isPassage.desc).map (fun d => d.parameters.length) = some 1 := by decide +kernel
theorem LBX8_67 : g_LB RX8 67 yX8_isPassage cX8_isPassage 2 (some .boolean) 1 := ⟨gW_in (i := 1156) (by decide +kernel) rfl, w_ini_X8, w_c_X8_isPassage, w_d_X8_isPassage⟩
theorem LX8_67 : g_LV RX8 67 yX8_isPassage cX8_isPassage 2 (some .boolean) 1 8 := ⟨LBX8_67, w_i_X8_isPassage, w_s_X8_isPassage, _, _, rfl⟩
theorem w_c_X8_rigger : Cond.code yX8_rigger cX8_rigger 4 (some .int) ∈ gW := gW_in (i := 1163) (by decide +kernel) rfl
theorem w_i_X8_rigger : Cond.instanceMethod yX8_rigger ∈ gW := gW_in (i := 1162) (by decide +kernel) rfl
theorem w_s_X8_rigger : Cond.selects yX8_rigger.cls yX8_rigger yX8_rigger ∈ gW := gW_in (i := 26) (by decide +kernel) rfl
theorem w_d_X8_rigger : yX8_rigger.cls ≠ "java/lang/invoke/MethodHandle" ∧ yX8_rigger.cls ≠ "java/lang/invoke/VarHandle" ∧ (parseMethodDescriptor yX8_rigger.desc).map (fun d => d.parameters.length) = some 1 := by decide +kernel
theorem LBX8_70 : g_LB RX8 70 yX8_rigger cX8_rigger 4 (some .int) 1 := ⟨gW_in (i := 1160) (by decide +kernel) rfl, w_ini_X8, w_c_X8_rigger, w_d_X8_rigger⟩
theorem LX8_70 : g_LV RX8 70 yX8_rigger cX8_rigger 4 (some .int) 1 8 := ⟨LBX8_70, w_i_X8_rigger, w_s_X8_rigger, _, _, rfl⟩
theorem w_c_X8_walkers : Cond.code yX8_walkers cX8_walkers 4 (some .int) ∈ gW := gW_in (i := 1171) (by decide +kernel) rfl
theorem w_i_X8_walkers : Cond.instanceMethod yX8_walkers ∈ gW := gW_in (i := 1170) (by decide +kernel) rfl
theorem w_s_X8_walkers : Cond.selects yX8_walkers.cls yX8_walkers yX8_walkers ∈ gW := gW_in (i := 28) (by decide +kernel) rfl
theorem w_d_X8_walkers : yX8_walkers.cls ≠ "java/lang/invoke/MethodHandle" ∧ yX8_walkers.cls ≠ "java/lang/invoke/VarHandle" ∧ (parseMethodDescriptor yX8_walkers.desc).map (fun d => d.parameters.length) = some 1 := by decide +kernel
theorem LBX8_73 : g_LB RX8 73 yX8_walkers cX8_walkers 4 (some .int) 1 := ⟨gW_in (i := 1168) (by decide +kernel) rfl, w_ini_X8, w_c_X8_walkers, w_d_X8_walkers⟩
theorem LX8_73 : g_LV RX8 73 yX8_walkers cX8_walkers 4 (some .int) 1 8 := ⟨LBX8_73, w_i_X8_walkers, w_s_X8_walkers, _, _, rfl⟩
theorem w_c_X8_lays : Cond.code yX8_lays cX8_lays 4 none ∈ gW := gW_in (i := 1187) (by decide +kernel) rfl
theorem w_i_X8_lays : Cond.instanceMethod yX8_lays ∈ gW := gW_in (i := 1186) (by decide +kernel) rfl
theorem w_s_X8_lays : Cond.selects yX8_lays.cls yX8_lays yX8_lays ∈ gW := gW_in (i := 30) (by decide +kernel) rfl
theorem w_d_X8_lays : yX8_lays.cls ≠ "java/lang/invoke/MethodHandle" ∧ yX8_lays.cls ≠ "java/lang/invoke/VarHandle" ∧ (parseMethodDescriptor yX8_lays.desc).map (fun d => d.parameters.length) = some 3 := by decide +kernel
theorem LBX8_76 : g_LB RX8 76 yX8_lays cX8_lays 4 none 3 := ⟨gW_in (i := 1184) (by decide +kernel) rfl, w_ini_X8, w_c_X8_lays, w_d_X8_lays⟩
theorem LX8_76 : g_LV RX8 76 yX8_lays cX8_lays 4 none 3 8 := ⟨LBX8_76, w_i_X8_lays, w_s_X8_lays, _, _, rfl⟩
theorem w_c_X8_stands : Cond.code yX8_stands cX8_stands 2 (some .boolean) ∈ gW := gW_in (i := 1212) (by decide +kernel) rfl
theorem w_i_X8_stands : Cond.instanceMethod yX8_stands ∈ gW := gW_in (i := 1211) (by decide +kernel) rfl
theorem w_s_X8_stands : Cond.selects yX8_stands.cls yX8_stands yX8_stands ∈ gW := gW_in (i := 34) (by decide +kernel) rfl
theorem w_d_X8_stands : yX8_stands.cls ≠ "java/lang/invoke/MethodHandle" ∧ yX8_stands.cls ≠ "java/lang/invoke/VarHandle" ∧ (parseMethodDescriptor yX8_stands.desc).map (fun d => d.parameters.length) = some 1 := by decide +kernel
theorem LBX8_81 : g_LB RX8 81 yX8_stands cX8_stands 2 (some .boolean) 1 := ⟨gW_in (i := 1209) (by decide +kernel) rfl, w_ini_X8, w_c_X8_stands, w_d_X8_stands⟩
theorem LX8_81 : g_LV RX8 81 yX8_stands cX8_stands 2 (some .boolean) 1 8 := ⟨LBX8_81, w_i_X8_stands, w_s_X8_stands, _, _, rfl⟩
theorem w_c_X8_effort : Cond.code yX8_effort cX8_effort 3 (some .int) ∈ gW := gW_in (i := 1220) (by decide +kernel) rfl
theorem w_i_X8_effort : Cond.instanceMethod yX8_effort ∈ gW := gW_in (i := 1219) (by decide +kernel) rfl
theorem w_s_X8_effort : Cond.selects yX8_effort.cls yX8_effort yX8_effort ∈ gW := gW_in (i := 36) (by decide +kernel) rfl
theorem w_d_X8_effort : yX8_effort.cls ≠ "java/lang/invoke/MethodHandle" ∧ yX8_effort.cls ≠ "java/lang/invoke/VarHandle" ∧ (parseMethodDescriptor yX8_effort.desc).map (fun d => d.parameters.length) = some 2 := by decide +kernel
theorem LBX8_84 : g_LB RX8 84 yX8_effort cX8_effort 3 (some .int) 2 := ⟨gW_in (i := 1217) (by decide +kernel) rfl, w_ini_X8, w_c_X8_effort, w_d_X8_effort⟩
theorem LX8_84 : g_LV RX8 84 yX8_effort cX8_effort 3 (some .int) 2 8 := ⟨LBX8_84, w_i_X8_effort, w_s_X8_effort, _, _, rfl⟩
theorem w_c_X8_isInTime : Cond.code yX8_isInTime cX8_isInTime 5 (some .boolean) ∈ gW := gW_in (i := 1224) (by decide +kernel) rfl
theorem w_i_X8_isInTime : Cond.instanceMethod yX8_isInTime ∈ gW := gW_in (i := 1223) (by decide +kernel) rfl
theorem w_s_X8_isInTime : Cond.selects yX8_isInTime.cls yX8_isInTime yX8_isInTime ∈ gW := gW_in (i := 37) (by decide +kernel) rfl
theorem w_d_X8_isInTime : yX8_isInTime.cls ≠ "java/lang/invoke/MethodHandle" ∧ yX8_isInTime.cls ≠ "java/lang/invoke/VarHandle" ∧ (parseMethodDescriptor yX8_isInTime.desc).map (fun d => d.parameters.length) = some 3 := by decide +kernel
theorem LBX8_88 : g_LB RX8 88 yX8_isInTime cX8_isInTime 5 (some .boolean) 3 := ⟨gW_in (i := 1221) (by decide +kernel) rfl, w_ini_X8, w_c_X8_isInTime, w_d_X8_isInTime⟩
theorem LX8_88 : g_LV RX8 88 yX8_isInTime cX8_isInTime 5 (some .boolean) 3 8 := ⟨LBX8_88, w_i_X8_isInTime, w_s_X8_isInTime, _, _, rfl⟩
theorem w_c_X8_walks : Cond.code yX8_walks cX8_walks 5 none ∈ gW := gW_in (i := 1240) (by decide +kernel) rfl
theorem w_i_X8_walks : Cond.instanceMethod yX8_walks ∈ gW := gW_in (i := 1239) (by decide +kernel) rfl
theorem w_s_X8_walks : Cond.selects yX8_walks.cls yX8_walks yX8_walks ∈ gW := gW_in (i := 41) (by decide +kernel) rfl
theorem w_d_X8_walks : yX8_walks.cls ≠ "java/lang/invoke/MethodHandle" ∧ yX8_walks.cls ≠ "java/lang/invoke/VarHandle" ∧ (parseMethodDescriptor yX8_walks.desc).map (fun d => d.parameters.length) = some 4 := by decide +kernel
theorem LBX8_91 : g_LB RX8 91 yX8_walks cX8_walks 5 none 4 := ⟨gW_in (i := 1237) (by decide +kernel) rfl, w_ini_X8, w_c_X8_walks, w_d_X8_walks⟩
theorem LX8_91 : g_LV RX8 91 yX8_walks cX8_walks 5 none 4 8 := ⟨LBX8_91, w_i_X8_walks, w_s_X8_walks, _, _, rfl⟩
theorem w_c_X8_isHelper : Cond.code yX8_isHelper cX8_isHelper 2 (some .boolean) ∈ gW := gW_in (i := 1204) (by decide +kernel) rfl
theorem w_i_X8_isHelper : Cond.instanceMethod yX8_isHelper ∈ gW := gW_in (i := 1203) (by decide +kernel) rfl
theorem w_s_X8_isHelper : Cond.selects yX8_isHelper.cls yX8_isHelper yX8_isHelper ∈ gW := gW_in (i := 32) (by decide +kernel) rfl
theorem w_d_X8_isHelper : yX8_isHelper.cls ≠ "java/lang/invoke/MethodHandle" ∧ yX8_isHelper.cls ≠ "java/lang/invoke/VarHandle" ∧ (parseMethodDescriptor yX8_isHelper.desc).map (fun d => d.parameters.length) = some 1 := by decide +kernel
theorem LBX8_95 : g_LB RX8 95 yX8_isHelper cX8_isHelper 2 (some .boolean) 1 := ⟨gW_in (i := 1201) (by decide +kernel) rfl, w_ini_X8, w_c_X8_isHelper, w_d_X8_isHelper⟩
theorem LX8_95 : g_LV RX8 95 yX8_isHelper cX8_isHelper 2 (some .boolean) 1 8 := ⟨LBX8_95, w_i_X8_isHelper, w_s_X8_isHelper, _, _, rfl⟩
theorem w_c_X8_reason : Cond.code yX8_reason cX8_reason 6 (some .int) ∈ gW := gW_in (i := 1208) (by decide +kernel) rfl
theorem w_i_X8_reason : Cond.instanceMethod yX8_reason ∈ gW := gW_in (i := 1207) (by decide +kernel) rfl
theorem w_s_X8_reason : Cond.selects yX8_reason.cls yX8_reason yX8_reason ∈ gW := gW_in (i := 33) (by decide +kernel) rfl
theorem w_d_X8_reason : yX8_reason.cls ≠ "java/lang/invoke/MethodHandle" ∧ yX8_reason.cls ≠ "java/lang/invoke/VarHandle" ∧ (parseMethodDescriptor yX8_reason.desc).map (fun d => d.parameters.length) = some 2 := by decide +kernel
theorem LBX8_98 : g_LB RX8 98 yX8_reason cX8_reason 6 (some .int) 2 := ⟨gW_in (i := 1205) (by decide +kernel) rfl, w_ini_X8, w_c_X8_reason, w_d_X8_reason⟩
theorem LX8_98 : g_LV RX8 98 yX8_reason cX8_reason 6 (some .int) 2 8 := ⟨LBX8_98, w_i_X8_reason, w_s_X8_reason, _, _, rfl⟩
theorem w_con_X0_211 : Cond.constant RX0 211 (100000 : Int32) ∈ gW := gW_in (i := 554) (by decide +kernel) rfl
theorem w_con_X0_256 : Cond.constantLong RX0 256 (31 : Int64) ∈ gW := gW_in (i := 650) (by decide +kernel) rfl
theorem w_con_X7_248 : Cond.constantLong RX7 248 (112003 : Int64) ∈ gW := gW_in (i := 645) (by decide +kernel) rfl
theorem w_con_X7_254 : Cond.constantLong RX7 254 (31 : Int64) ∈ gW := gW_in (i := 693) (by decide +kernel) rfl
theorem w_con_X7_87 : Cond.constant RX7 87 (100000 : Int32) ∈ gW := gW_in (i := 874) (by decide +kernel) rfl
theorem w_con_X8_219 : Cond.constantLong RX8 219 (31 : Int64) ∈ gW := gW_in (i := 1469) (by decide +kernel) rfl
theorem w_con_X8_225 : Cond.constantLong RX8 225 (3613 : Int64) ∈ gW := gW_in (i := 1464) (by decide +kernel) rfl
theorem w_con_X8_80 : Cond.constant RX8 80 (100000 : Int32) ∈ gW := gW_in (i := 1192) (by decide +kernel) rfl
theorem w_con_J6_265 : Cond.constant RJ6 265 (1431655765 : Int32) ∈ gW := gW_in (i := 538) (by decide +kernel) rfl
theorem w_con_J6_266 : Cond.constant RJ6 266 (858993459 : Int32) ∈ gW := gW_in (i := 539) (by decide +kernel) rfl
theorem w_con_J6_267 : Cond.constant RJ6 267 (252645135 : Int32) ∈ gW := gW_in (i := 540) (by decide +kernel) rfl
