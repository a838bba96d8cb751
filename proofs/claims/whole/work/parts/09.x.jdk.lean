/-! ===== Math.min, max; Integer.bitCount ===== -/
def R_J9_min_7cf53 (m : Nat → Int32) (x0 : Int32) (x1 : Int32) : Int32 := (if x1 < x0 then x1 else x0)
set_option maxRecDepth 100000 in
set_option maxHeartbeats 4000000 in
theorem walk_J9_min_7cf53 {X : g_X} (O : g_ok X cJ9_min_7cf53 RJ9 (some .int) ({ frames := 0, cells := 0, slots := 0, locals := 0 } : Room)) (hs : (g_xl X).stackTraces = false) (hn : g_xn X = 2) {q : g_q} {m : Nat → Int32} {x0 : Int32} {x1 : Int32}  : g_V X (fun r : Int32 => ((.inl (some (.int r)), (m, q)) : g_Res)) (R_J9_min_7cf53 m x0 x1) 0 0 m q 0 [(0, .int x0), (1, .int x1)] [] := by
  have hN : ∀ i, Nat.blt i 2 = true → i < g_xn X := fun i h => by rw [hn]; exact g_blt.mp h
  refine r_iload_n O 0 dJ9_min_7cf53_0 rfl rfl ?_
  refine r_iload_n O 1 dJ9_min_7cf53_1 rfl rfl ?_
  refine r_icmp_gt O 9 dJ9_min_7cf53_2 (by decide) (fun c_2 => ?_) (fun c_2 => ?_)
  · have e_2 : (x1).toInt < (x0).toInt := j_lt c_2
    refine r_iload_n O 1 dJ9_min_7cf53_9 rfl rfl ?_
    exact r_iret O dJ9_min_7cf53_10 rfl (Nat.le_of_ble_eq_true rfl) (Nat.le_of_ble_eq_true rfl) rfl
  · have e_2 : (x0).toInt ≤ (x1).toInt := j_nlt c_2
    refine r_iload_n O 0 dJ9_min_7cf53_5 rfl rfl ?_
    refine r_goto O 10 dJ9_min_7cf53_6 (by decide) ?_
    exact r_iret O dJ9_min_7cf53_10 rfl (Nat.le_of_ble_eq_true rfl) (Nat.le_of_ble_eq_true rfl) rfl
theorem met_J9_min_7cf53 (l : Launch) (hs : l.stackTraces = false) (q : g_q) (m : Nat → Int32) (x0 : Int32) (x1 : Int32)  : g_SM l yJ9_min_7cf53 cJ9_min_7cf53 2 (some .int) ({ frames := 0, cells := 0, slots := 0, locals := 0 } : Room) (fun ad => [.int x0, .int x1]) m q ((fun r : Int32 => ((.inl (some (.int r)), (m, q)) : g_Res)) (R_J9_min_7cf53 m x0 x1)) :=
  g_sm_of (by decide) (fun _ => Nat.le_of_ble_eq_true rfl) hs (fun X hl hn O => walk_J9_min_7cf53 O (by rw [hl]; exact hs) hn )
def R_J9_max_7cf53 (m : Nat → Int32) (x0 : Int32) (x1 : Int32) : Int32 := (if x0 < x1 then x1 else x0)
set_option maxRecDepth 100000 in
set_option maxHeartbeats 4000000 in
theorem walk_J9_max_7cf53 {X : g_X} (O : g_ok X cJ9_max_7cf53 RJ9 (some .int) ({ frames := 0, cells := 0, slots := 0, locals := 0 } : Room)) (hs : (g_xl X).stackTraces = false) (hn : g_xn X = 2) {q : g_q} {m : Nat → Int32} {x0 : Int32} {x1 : Int32}  : g_V X (fun r : Int32 => ((.inl (some (.int r)), (m, q)) : g_Res)) (R_J9_max_7cf53 m x0 x1) 0 0 m q 0 [(0, .int x0), (1, .int x1)] [] := by
  have hN : ∀ i, Nat.blt i 2 = true → i < g_xn X := fun i h => by rw [hn]; exact g_blt.mp h
  refine r_iload_n O 0 dJ9_max_7cf53_0 rfl rfl ?_
  refine r_iload_n O 1 dJ9_max_7cf53_1 rfl rfl ?_
  refine r_icmp_lt O 9 dJ9_max_7cf53_2 (by decide) (fun c_2 => ?_) (fun c_2 => ?_)
  · have e_2 : (x0).toInt < (x1).toInt := j_lt c_2
    refine r_iload_n O 1 dJ9_max_7cf53_9 rfl rfl ?_
    exact r_iret O dJ9_max_7cf53_10 rfl (Nat.le_of_ble_eq_true rfl) (Nat.le_of_ble_eq_true rfl) rfl
  · have e_2 : (x1).toInt ≤ (x0).toInt := j_nlt c_2
    refine r_iload_n O 0 dJ9_max_7cf53_5 rfl rfl ?_
    refine r_goto O 10 dJ9_max_7cf53_6 (by decide) ?_
    exact r_iret O dJ9_max_7cf53_10 rfl (Nat.le_of_ble_eq_true rfl) (Nat.le_of_ble_eq_true rfl) rfl
theorem met_J9_max_7cf53 (l : Launch) (hs : l.stackTraces = false) (q : g_q) (m : Nat → Int32) (x0 : Int32) (x1 : Int32)  : g_SM l yJ9_max_7cf53 cJ9_max_7cf53 2 (some .int) ({ frames := 0, cells := 0, slots := 0, locals := 0 } : Room) (fun ad => [.int x0, .int x1]) m q ((fun r : Int32 => ((.inl (some (.int r)), (m, q)) : g_Res)) (R_J9_max_7cf53 m x0 x1)) :=
  g_sm_of (by decide) (fun _ => Nat.le_of_ble_eq_true rfl) hs (fun X hl hn O => walk_J9_max_7cf53 O (by rw [hl]; exact hs) hn )
def R_J6_bitCount_0f7a4 (m : Nat → Int32) (x0 : Int32) : Int32 := ((((((((x0 - ((x0.toUInt32 >>> (((1) : Int32).toUInt32 &&& Int32.toUInt32 31)).toInt32 &&& 1431655765)) &&& 858993459) + (((x0 - ((x0.toUInt32 >>> (((1) : Int32).toUInt32 &&& Int32.toUInt32 31)).toInt32 &&& 1431655765)).toUInt32 >>> (((2) : Int32).toUInt32 &&& Int32.toUInt32 31)).toInt32 &&& 858993459)) + ((((x0 - ((x0.toUInt32 >>> (((1) : Int32).toUInt32 &&& Int32.toUInt32 31)).toInt32 &&& 1431655765)) &&& 858993459) + (((x0 - ((x0.toUInt32 >>> (((1) : Int32).toUInt32 &&& Int32.toUInt32 31)).toInt32 &&& 1431655765)).toUInt32 >>> (((2) : Int32).toUInt32 &&& Int32.toUInt32 31)).toInt32 &&& 858993459)).toUInt32 >>> (((4) : Int32).toUInt32 &&& Int32.toUInt32 31)).toInt32) &&& 252645135) + ((((((x0 - ((x0.toUInt32 >>> (((1) : Int32).toUInt32 &&& Int32.toUInt32 31)).toInt32 &&& 1431655765)) &&& 858993459) + (((x0 - ((x0.toUInt32 >>> (((1) : Int32).toUInt32 &&& Int32.toUInt32 31)).toInt32 &&& 1431655765)).toUInt32 >>> (((2) : Int32).toUInt32 &&& Int32.toUInt32 31)).toInt32 &&& 858993459)) + ((((x0 - ((x0.toUInt32 >>> (((1) : Int32).toUInt32 &&& Int32.toUInt32 31)).toInt32 &&& 1431655765)) &&& 858993459) + (((x0 - ((x0.toUInt32 >>> (((1) : Int32).toUInt32 &&& Int32.toUInt32 31)).toInt32 &&& 1431655765)).toUInt32 >>> (((2) : Int32).toUInt32 &&& Int32.toUInt32 31)).toInt32 &&& 858993459)).toUInt32 >>> (((4) : Int32).toUInt32 &&& Int32.toUInt32 31)).toInt32) &&& 252645135).toUInt32 >>> (((8) : Int32).toUInt32 &&& Int32.toUInt32 31)).toInt32) + (((((((x0 - ((x0.toUInt32 >>> (((1) : Int32).toUInt32 &&& Int32.toUInt32 31)).toInt32 &&& 1431655765)) &&& 858993459) + (((x0 - ((x0.toUInt32 >>> (((1) : Int32).toUInt32 &&& Int32.toUInt32 31)).toInt32 &&& 1431655765)).toUInt32 >>> (((2) : Int32).toUInt32 &&& Int32.toUInt32 31)).toInt32 &&& 858993459)) + ((((x0 - ((x0.toUInt32 >>> (((1) : Int32).toUInt32 &&& Int32.toUInt32 31)).toInt32 &&& 1431655765)) &&& 858993459) + (((x0 - ((x0.toUInt32 >>> (((1) : Int32).toUInt32 &&& Int32.toUInt32 31)).toInt32 &&& 1431655765)).toUInt32 >>> (((2) : Int32).toUInt32 &&& Int32.toUInt32 31)).toInt32 &&& 858993459)).toUInt32 >>> (((4) : Int32).toUInt32 &&& Int32.toUInt32 31)).toInt32) &&& 252645135) + ((((((x0 - ((x0.toUInt32 >>> (((1) : Int32).toUInt32 &&& Int32.toUInt32 31)).toInt32 &&& 1431655765)) &&& 858993459) + (((x0 - ((x0.toUInt32 >>> (((1) : Int32).toUInt32 &&& Int32.toUInt32 31)).toInt32 &&& 1431655765)).toUInt32 >>> (((2) : Int32).toUInt32 &&& Int32.toUInt32 31)).toInt32 &&& 858993459)) + ((((x0 - ((x0.toUInt32 >>> (((1) : Int32).toUInt32 &&& Int32.toUInt32 31)).toInt32 &&& 1431655765)) &&& 858993459) + (((x0 - ((x0.toUInt32 >>> (((1) : Int32).toUInt32 &&& Int32.toUInt32 31)).toInt32 &&& 1431655765)).toUInt32 >>> (((2) : Int32).toUInt32 &&& Int32.toUInt32 31)).toInt32 &&& 858993459)).toUInt32 >>> (((4) : Int32).toUInt32 &&& Int32.toUInt32 31)).toInt32) &&& 252645135).toUInt32 >>> (((8) : Int32).toUInt32 &&& Int32.toUInt32 31)).toInt32).toUInt32 >>> (((16) : Int32).toUInt32 &&& Int32.toUInt32 31)).toInt32) &&& 63)
set_option maxRecDepth 100000 in
set_option maxHeartbeats 4000000 in
theorem walk_J6_bitCount_0f7a4 {X : g_X} (O : g_ok X cJ6_bitCount_0f7a4 RJ6 (some .int) ({ frames := 0, cells := 0, slots := 0, locals := 0 } : Room)) (hs : (g_xl X).stackTraces = false) (hn : g_xn X = 1) {q : g_q} {m : Nat → Int32} {x0 : Int32}  : g_V X (fun r : Int32 => ((.inl (some (.int r)), (m, q)) : g_Res)) (R_J6_bitCount_0f7a4 m x0) 0 0 m q 0 [(0, .int x0)] [] := by
  have hN : ∀ i, Nat.blt i 1 = true → i < g_xn X := fun i h => by rw [hn]; exact g_blt.mp h
  refine r_iload_n O 0 dJ6_bitCount_0f7a4_0 rfl rfl ?_
  refine r_iload_n O 0 dJ6_bitCount_0f7a4_1 rfl rfl ?_
  refine r_iconst (x := 1) O dJ6_bitCount_0f7a4_2 rfl ?_
  refine r_iushr O dJ6_bitCount_0f7a4_3 ?_
  refine r_ldcw O dJ6_bitCount_0f7a4_4 w_con_J6_265 ?_
  refine r_iand O dJ6_bitCount_0f7a4_7 ?_
  refine r_isub O dJ6_bitCount_0f7a4_8 ?_
  refine r_istore_n (lc' := [(0, .int (x0 - ((x0.toUInt32 >>> (((1) : Int32).toUInt32 &&& Int32.toUInt32 31)).toInt32 &&& 1431655765)))]) O dJ6_bitCount_0f7a4_9 rfl (hN 0 rfl) rfl ?_
  refine r_iload_n O 0 dJ6_bitCount_0f7a4_10 rfl rfl ?_
  refine r_ldcw O dJ6_bitCount_0f7a4_11 w_con_J6_266 ?_
  refine r_iand O dJ6_bitCount_0f7a4_14 ?_
  refine r_iload_n O 0 dJ6_bitCount_0f7a4_15 rfl rfl ?_
  refine r_iconst (x := 2) O dJ6_bitCount_0f7a4_16 rfl ?_
  refine r_iushr O dJ6_bitCount_0f7a4_17 ?_
  refine r_ldcw O dJ6_bitCount_0f7a4_18 w_con_J6_266 ?_
  refine r_iand O dJ6_bitCount_0f7a4_21 ?_
  refine r_iadd O dJ6_bitCount_0f7a4_22 ?_
  refine r_istore_n (lc' := [(0, .int (((x0 - ((x0.toUInt32 >>> (((1) : Int32).toUInt32 &&& Int32.toUInt32 31)).toInt32 &&& 1431655765)) &&& 858993459) + (((x0 - ((x0.toUInt32 >>> (((1) : Int32).toUInt32 &&& Int32.toUInt32 31)).toInt32 &&& 1431655765)).toUInt32 >>> (((2) : Int32).toUInt32 &&& Int32.toUInt32 31)).toInt32 &&& 858993459)))]) O dJ6_bitCount_0f7a4_23 rfl (hN 0 rfl) rfl ?_
  refine r_iload_n O 0 dJ6_bitCount_0f7a4_24 rfl rfl ?_
  refine r_iload_n O 0 dJ6_bitCount_0f7a4_25 rfl rfl ?_
  refine r_iconst (x := 4) O dJ6_bitCount_0f7a4_26 rfl ?_
  refine r_iushr O dJ6_bitCount_0f7a4_27 ?_
  refine r_iadd O dJ6_bitCount_0f7a4_28 ?_
  refine r_ldcw O dJ6_bitCount_0f7a4_29 w_con_J6_267 ?_
  refine r_iand O dJ6_bitCount_0f7a4_32 ?_
  refine r_istore_n (lc' := [(0, .int (((((x0 - ((x0.toUInt32 >>> (((1) : Int32).toUInt32 &&& Int32.toUInt32 31)).toInt32 &&& 1431655765)) &&& 858993459) + (((x0 - ((x0.toUInt32 >>> (((1) : Int32).toUInt32 &&& Int32.toUInt32 31)).toInt32 &&& 1431655765)).toUInt32 >>> (((2) : Int32).toUInt32 &&& Int32.toUInt32 31)).toInt32 &&& 858993459)) + ((((x0 - ((x0.toUInt32 >>> (((1) : Int32).toUInt32 &&& Int32.toUInt32 31)).toInt32 &&& 1431655765)) &&& 858993459) + (((x0 - ((x0.toUInt32 >>> (((1) : Int32).toUInt32 &&& Int32.toUInt32 31)).toInt32 &&& 1431655765)).toUInt32 >>> (((2) : Int32).toUInt32 &&& Int32.toUInt32 31)).toInt32 &&& 858993459)).toUInt32 >>> (((4) : Int32).toUInt32 &&& Int32.toUInt32 31)).toInt32) &&& 252645135))]) O dJ6_bitCount_0f7a4_33 rfl (hN 0 rfl) rfl ?_
  refine r_iload_n O 0 dJ6_bitCount_0f7a4_34 rfl rfl ?_
  refine r_iload_n O 0 dJ6_bitCount_0f7a4_35 rfl rfl ?_
  refine r_bipush (x := 8) O dJ6_bitCount_0f7a4_36 rfl ?_
  refine r_iushr O dJ6_bitCount_0f7a4_38 ?_
  refine r_iadd O dJ6_bitCount_0f7a4_39 ?_
  refine r_istore_n (lc' := [(0, .int ((((((x0 - ((x0.toUInt32 >>> (((1) : Int32).toUInt32 &&& Int32.toUInt32 31)).toInt32 &&& 1431655765)) &&& 858993459) + (((x0 - ((x0.toUInt32 >>> (((1) : Int32).toUInt32 &&& Int32.toUInt32 31)).toInt32 &&& 1431655765)).toUInt32 >>> (((2) : Int32).toUInt32 &&& Int32.toUInt32 31)).toInt32 &&& 858993459)) + ((((x0 - ((x0.toUInt32 >>> (((1) : Int32).toUInt32 &&& Int32.toUInt32 31)).toInt32 &&& 1431655765)) &&& 858993459) + (((x0 - ((x0.toUInt32 >>> (((1) : Int32).toUInt32 &&& Int32.toUInt32 31)).toInt32 &&& 1431655765)).toUInt32 >>> (((2) : Int32).toUInt32 &&& Int32.toUInt32 31)).toInt32 &&& 858993459)).toUInt32 >>> (((4) : Int32).toUInt32 &&& Int32.toUInt32 31)).toInt32) &&& 252645135) + ((((((x0 - ((x0.toUInt32 >>> (((1) : Int32).toUInt32 &&& Int32.toUInt32 31)).toInt32 &&& 1431655765)) &&& 858993459) + (((x0 - ((x0.toUInt32 >>> (((1) : Int32).toUInt32 &&& Int32.toUInt32 31)).toInt32 &&& 1431655765)).toUInt32 >>> (((2) : Int32).toUInt32 &&& Int32.toUInt32 31)).toInt32 &&& 858993459)) + ((((x0 - ((x0.toUInt32 >>> (((1) : Int32).toUInt32 &&& Int32.toUInt32 31)).toInt32 &&& 1431655765)) &&& 858993459) + (((x0 - ((x0.toUInt32 >>> (((1) : Int32).toUInt32 &&& Int32.toUInt32 31)).toInt32 &&& 1431655765)).toUInt32 >>> (((2) : Int32).toUInt32 &&& Int32.toUInt32 31)).toInt32 &&& 858993459)).toUInt32 >>> (((4) : Int32).toUInt32 &&& Int32.toUInt32 31)).toInt32) &&& 252645135).toUInt32 >>> (((8) : Int32).toUInt32 &&& Int32.toUInt32 31)).toInt32))]) O dJ6_bitCount_0f7a4_40 rfl (hN 0 rfl) rfl ?_
  refine r_iload_n O 0 dJ6_bitCount_0f7a4_41 rfl rfl ?_
  refine r_iload_n O 0 dJ6_bitCount_0f7a4_42 rfl rfl ?_
  refine r_bipush (x := 16) O dJ6_bitCount_0f7a4_43 rfl ?_
  refine r_iushr O dJ6_bitCount_0f7a4_45 ?_
  refine r_iadd O dJ6_bitCount_0f7a4_46 ?_
  refine r_istore_n (lc' := [(0, .int (((((((x0 - ((x0.toUInt32 >>> (((1) : Int32).toUInt32 &&& Int32.toUInt32 31)).toInt32 &&& 1431655765)) &&& 858993459) + (((x0 - ((x0.toUInt32 >>> (((1) : Int32).toUInt32 &&& Int32.toUInt32 31)).toInt32 &&& 1431655765)).toUInt32 >>> (((2) : Int32).toUInt32 &&& Int32.toUInt32 31)).toInt32 &&& 858993459)) + ((((x0 - ((x0.toUInt32 >>> (((1) : Int32).toUInt32 &&& Int32.toUInt32 31)).toInt32 &&& 1431655765)) &&& 858993459) + (((x0 - ((x0.toUInt32 >>> (((1) : Int32).toUInt32 &&& Int32.toUInt32 31)).toInt32 &&& 1431655765)).toUInt32 >>> (((2) : Int32).toUInt32 &&& Int32.toUInt32 31)).toInt32 &&& 858993459)).toUInt32 >>> (((4) : Int32).toUInt32 &&& Int32.toUInt32 31)).toInt32) &&& 252645135) + ((((((x0 - ((x0.toUInt32 >>> (((1) : Int32).toUInt32 &&& Int32.toUInt32 31)).toInt32 &&& 1431655765)) &&& 858993459) + (((x0 - ((x0.toUInt32 >>> (((1) : Int32).toUInt32 &&& Int32.toUInt32 31)).toInt32 &&& 1431655765)).toUInt32 >>> (((2) : Int32).toUInt32 &&& Int32.toUInt32 31)).toInt32 &&& 858993459)) + ((((x0 - ((x0.toUInt32 >>> (((1) : Int32).toUInt32 &&& Int32.toUInt32 31)).toInt32 &&& 1431655765)) &&& 858993459) + (((x0 - ((x0.toUInt32 >>> (((1) : Int32).toUInt32 &&& Int32.toUInt32 31)).toInt32 &&& 1431655765)).toUInt32 >>> (((2) : Int32).toUInt32 &&& Int32.toUInt32 31)).toInt32 &&& 858993459)).toUInt32 >>> (((4) : Int32).toUInt32 &&& Int32.toUInt32 31)).toInt32) &&& 252645135).toUInt32 >>> (((8) : Int32).toUInt32 &&& Int32.toUInt32 31)).toInt32) + (((((((x0 - ((x0.toUInt32 >>> (((1) : Int32).toUInt32 &&& Int32.toUInt32 31)).toInt32 &&& 1431655765)) &&& 858993459) + (((x0 - ((x0.toUInt32 >>> (((1) : Int32).toUInt32 &&& Int32.toUInt32 31)).toInt32 &&& 1431655765)).toUInt32 >>> (((2) : Int32).toUInt32 &&& Int32.toUInt32 31)).toInt32 &&& 858993459)) + ((((x0 - ((x0.toUInt32 >>> (((1) : Int32).toUInt32 &&& Int32.toUInt32 31)).toInt32 &&& 1431655765)) &&& 858993459) + (((x0 - ((x0.toUInt32 >>> (((1) : Int32).toUInt32 &&& Int32.toUInt32 31)).toInt32 &&& 1431655765)).toUInt32 >>> (((2) : Int32).toUInt32 &&& Int32.toUInt32 31)).toInt32 &&& 858993459)).toUInt32 >>> (((4) : Int32).toUInt32 &&& Int32.toUInt32 31)).toInt32) &&& 252645135) + ((((((x0 - ((x0.toUInt32 >>> (((1) : Int32).toUInt32 &&& Int32.toUInt32 31)).toInt32 &&& 1431655765)) &&& 858993459) + (((x0 - ((x0.toUInt32 >>> (((1) : Int32).toUInt32 &&& Int32.toUInt32 31)).toInt32 &&& 1431655765)).toUInt32 >>> (((2) : Int32).toUInt32 &&& Int32.toUInt32 31)).toInt32 &&& 858993459)) + ((((x0 - ((x0.toUInt32 >>> (((1) : Int32).toUInt32 &&& Int32.toUInt32 31)).toInt32 &&& 1431655765)) &&& 858993459) + (((x0 - ((x0.toUInt32 >>> (((1) : Int32).toUInt32 &&& Int32.toUInt32 31)).toInt32 &&& 1431655765)).toUInt32 >>> (((2) : Int32).toUInt32 &&& Int32.toUInt32 31)).toInt32 &&& 858993459)).toUInt32 >>> (((4) : Int32).toUInt32 &&& Int32.toUInt32 31)).toInt32) &&& 252645135).toUInt32 >>> (((8) : Int32).toUInt32 &&& Int32.toUInt32 31)).toInt32).toUInt32 >>> (((16) : Int32).toUInt32 &&& Int32.toUInt32 31)).toInt32))]) O dJ6_bitCount_0f7a4_47 rfl (hN 0 rfl) rfl ?_
  refine r_iload_n O 0 dJ6_bitCount_0f7a4_48 rfl rfl ?_
  refine r_bipush (x := 63) O dJ6_bitCount_0f7a4_49 rfl ?_
  refine r_iand O dJ6_bitCount_0f7a4_51 ?_
  exact r_iret O dJ6_bitCount_0f7a4_52 rfl (Nat.le_of_ble_eq_true rfl) (Nat.le_of_ble_eq_true rfl) rfl
theorem met_J6_bitCount_0f7a4 (l : Launch) (hs : l.stackTraces = false) (q : g_q) (m : Nat → Int32) (x0 : Int32)  : g_SM l yJ6_bitCount_0f7a4 cJ6_bitCount_0f7a4 1 (some .int) ({ frames := 0, cells := 0, slots := 0, locals := 0 } : Room) (fun ad => [.int x0]) m q ((fun r : Int32 => ((.inl (some (.int r)), (m, q)) : g_Res)) (R_J6_bitCount_0f7a4 m x0)) :=
  g_sm_of (by decide) (fun _ => Nat.le_of_ble_eq_true rfl) hs (fun X hl hn O => walk_J6_bitCount_0f7a4 O (by rw [hl]; exact hs) hn )
