/-! ===== what the class requires; new exercises; saving ===== -/
theorem xw_requireIndex : (vx_atS RX7 260 "java/lang/IndexOutOfBoundsException" ["java/lang/RuntimeException", "java/lang/Exception"]).all (fun w => decide (w ∈ lw_tbl) && vx_ot w && (goodWord w || decide (w ∈ [Cond.declares ⟨"java/lang/RuntimeException", "<init>", "(Ljava/lang/String;)V"⟩, Cond.declares ⟨"java/lang/Exception", "<init>", "(Ljava/lang/String;)V"⟩, Cond.declares ⟨"java/lang/Throwable", "<init>", "(Ljava/lang/String;)V"⟩, Cond.castable "java/lang/IndexOutOfBoundsException" "java/lang/IndexOutOfBoundsException"]))) = true := by decide +kernel
theorem xo_requireIndex : ∀ w ∈ (vx_atS RX7 260 "java/lang/IndexOutOfBoundsException" ["java/lang/RuntimeException", "java/lang/Exception"]), vx_ot w = true := fun w hw => by
  have h := List.all_eq_true.mp xw_requireIndex w hw
  simp only [Bool.and_eq_true] at h
  exact h.1.2
theorem xa_requireIndex {X : g_X} {cc : ByteArray} {own : String} {ret : Option FieldType} {R : Room} (O : g_ok X cc own ret R) (Y : g_Y (g_xs X)) : ∀ w ∈ (vx_atS RX7 260 "java/lang/IndexOutOfBoundsException" ["java/lang/RuntimeException", "java/lang/Exception"]), w.before (g_xa X) (g_xs X) = true := fun w hw => by
  have h := List.all_eq_true.mp xw_requireIndex w hw
  simp only [Bool.and_eq_true, Bool.or_eq_true, decide_eq_true_eq] at h
  rcases h.2 with g | g
  · exact O.word (List.mem_filter.mpr ⟨h.1.1, g⟩)
  · simp only [List.mem_cons, List.not_mem_nil, or_false] at g
    rcases g with rfl | rfl | rfl | rfl
    · exact va_any rfl Y.1.1
    · exact va_any rfl Y.1.2.1
    · exact va_any rfl Y.1.2.2
    · exact va_any rfl Y.2.1.1
theorem xw_requireArgument : (vx_atS RX7 267 "java/lang/IllegalArgumentException" ["java/lang/RuntimeException", "java/lang/Exception"]).all (fun w => decide (w ∈ lw_tbl) && vx_ot w && (goodWord w || decide (w ∈ [Cond.declares ⟨"java/lang/RuntimeException", "<init>", "(Ljava/lang/String;)V"⟩, Cond.declares ⟨"java/lang/Exception", "<init>", "(Ljava/lang/String;)V"⟩, Cond.declares ⟨"java/lang/Throwable", "<init>", "(Ljava/lang/String;)V"⟩, Cond.castable "java/lang/IllegalArgumentException" "java/lang/IllegalArgumentException"]))) = true := by decide +kernel
theorem xo_requireArgument : ∀ w ∈ (vx_atS RX7 267 "java/lang/IllegalArgumentException" ["java/lang/RuntimeException", "java/lang/Exception"]), vx_ot w = true := fun w hw => by
  have h := List.all_eq_true.mp xw_requireArgument w hw
  simp only [Bool.and_eq_true] at h
  exact h.1.2
theorem xa_requireArgument {X : g_X} {cc : ByteArray} {own : String} {ret : Option FieldType} {R : Room} (O : g_ok X cc own ret R) (Y : g_Y (g_xs X)) : ∀ w ∈ (vx_atS RX7 267 "java/lang/IllegalArgumentException" ["java/lang/RuntimeException", "java/lang/Exception"]), w.before (g_xa X) (g_xs X) = true := fun w hw => by
  have h := List.all_eq_true.mp xw_requireArgument w hw
  simp only [Bool.and_eq_true, Bool.or_eq_true, decide_eq_true_eq] at h
  rcases h.2 with g | g
  · exact O.word (List.mem_filter.mpr ⟨h.1.1, g⟩)
  · simp only [List.mem_cons, List.not_mem_nil, or_false] at g
    rcases g with rfl | rfl | rfl | rfl
    · exact va_any rfl Y.1.1
    · exact va_any rfl Y.1.2.1
    · exact va_any rfl Y.1.2.2
    · exact va_any rfl Y.2.1.2.1
theorem xw_requirePossible : (vx_atS RX7 272 "java/lang/IllegalStateException" ["java/lang/RuntimeException", "java/lang/Exception"]).all (fun w => decide (w ∈ lw_tbl) && vx_ot w && (goodWord w || decide (w ∈ [Cond.declares ⟨"java/lang/RuntimeException", "<init>", "(Ljava/lang/String;)V"⟩, Cond.declares ⟨"java/lang/Exception", "<init>", "(Ljava/lang/String;)V"⟩, Cond.declares ⟨"java/lang/Throwable", "<init>", "(Ljava/lang/String;)V"⟩, Cond.castable "java/lang/IllegalStateException" "java/lang/IllegalStateException"]))) = true := by decide +kernel
theorem xo_requirePossible : ∀ w ∈ (vx_atS RX7 272 "java/lang/IllegalStateException" ["java/lang/RuntimeException", "java/lang/Exception"]), vx_ot w = true := fun w hw => by
  have h := List.all_eq_true.mp xw_requirePossible w hw
  simp only [Bool.and_eq_true] at h
  exact h.1.2
theorem xa_requirePossible {X : g_X} {cc : ByteArray} {own : String} {ret : Option FieldType} {R : Room} (O : g_ok X cc own ret R) (Y : g_Y (g_xs X)) : ∀ w ∈ (vx_atS RX7 272 "java/lang/IllegalStateException" ["java/lang/RuntimeException", "java/lang/Exception"]), w.before (g_xa X) (g_xs X) = true := fun w hw => by
  have h := List.all_eq_true.mp xw_requirePossible w hw
  simp only [Bool.and_eq_true, Bool.or_eq_true, decide_eq_true_eq] at h
  rcases h.2 with g | g
  · exact O.word (List.mem_filter.mpr ⟨h.1.1, g⟩)
  · simp only [List.mem_cons, List.not_mem_nil, or_false] at g
    rcases g with rfl | rfl | rfl | rfl
    · exact va_any rfl Y.1.1
    · exact va_any rfl Y.1.2.1
    · exact va_any rfl Y.1.2.2
    · exact va_any rfl Y.2.1.2.2
def R_X7_requireIndex (x0 x1 : Int32) : Option Value ⊕ String := if x0 < 0 then .inr "java/lang/IndexOutOfBoundsException" else if x0 < x1 then .inl none else .inr "java/lang/IndexOutOfBoundsException"
set_option maxRecDepth 100000 in
set_option maxHeartbeats 4000000 in
theorem walk_X7_requireIndex {X : g_X} (O : g_ok X cX7_requireIndex RX7 none ({ frames := 6, cells := 1, slots := 6, locals := 90 } : Room)) (hs : (g_xl X).stackTraces = false) (Y : g_Y (g_xs X)) {m : Nat → Int32} {q : g_q} {x0 x1 : Int32} : g_V X (fun r : Option Value ⊕ String => ((r, (m, q)) : g_Res)) (R_X7_requireIndex x0 x1) 0 0 m q 0 [(0, .int x0), (1, .int x1)] [] := by
  have J : g_V X (fun r : Option Value ⊕ String => ((r, (m, q)) : g_Res)) (.inr "java/lang/IndexOutOfBoundsException" : Option Value ⊕ String) 0 0 m q 9 [(0, .int x0), (1, .int x1)] [] := by
    exact r_throwS (cls := "java/lang/IndexOutOfBoundsException") (text := "there is no such thing") (names := ["java/lang/RuntimeException", "java/lang/Exception"]) O hs (by decide) (by decide) (gW_in (i := 418) (by decide +kernel) rfl) (gW_in (i := 23) (by decide +kernel) rfl) (xa_requireIndex O Y) xo_requireIndex O.Z.2.2.2.2.1 dX7_requireIndex_9 dX7_requireIndex_12 dX7_requireIndex_13 dX7_requireIndex_16 dX7_requireIndex_19 rfl rfl
  unfold R_X7_requireIndex
  refine r_iload_n O 0 dX7_requireIndex_0 rfl rfl ?_
  refine r_if_lt O 9 dX7_requireIndex_1 (by decide) (fun _ => J) (fun _ => ?_)
  refine r_iload_n O 0 dX7_requireIndex_4 rfl rfl ?_
  refine r_iload_n O 1 dX7_requireIndex_5 rfl rfl ?_
  refine r_icmp_lt O 20 dX7_requireIndex_6 (by decide) (fun _ => ?_) (fun _ => J)
  exact r_vret O dX7_requireIndex_20 (Nat.le_of_ble_eq_true rfl) (Nat.le_of_ble_eq_true rfl) rfl
theorem met_X7_requireIndex (l : Launch) (hs : l.stackTraces = false) (q : g_q) (m : Nat → Int32) (x0 x1 : Int32) : g_SY l yX7_requireIndex cX7_requireIndex 2 none ({ frames := 6, cells := 1, slots := 6, locals := 90 } : Room) (fun ad => [.int x0, .int x1]) m q ((fun r : Option Value ⊕ String => ((r, (m, q)) : g_Res)) (R_X7_requireIndex x0 x1)) :=
  g_sy_of (by decide) (fun _ => Nat.le_of_ble_eq_true rfl) (fun X hl hn O Y => walk_X7_requireIndex O (by rw [hl]; exact hs) Y)
def R_X7_requireArgument (x0 : Int32) : Option Value ⊕ String := if x0 = 0 then .inr "java/lang/IllegalArgumentException" else .inl none
set_option maxRecDepth 100000 in
set_option maxHeartbeats 4000000 in
theorem walk_X7_requireArgument {X : g_X} (O : g_ok X cX7_requireArgument RX7 none ({ frames := 6, cells := 1, slots := 6, locals := 90 } : Room)) (hs : (g_xl X).stackTraces = false) (Y : g_Y (g_xs X)) {m : Nat → Int32} {q : g_q} {x0 : Int32} : g_V X (fun r : Option Value ⊕ String => ((r, (m, q)) : g_Res)) (R_X7_requireArgument x0) 0 0 m q 0 [(0, .int x0)] [] := by
  unfold R_X7_requireArgument
  refine r_iload_n O 0 dX7_requireArgument_0 rfl rfl ?_
  refine r_if_ne O 15 dX7_requireArgument_1 (by decide) (fun _ => ?_) (fun _ => ?_)
  · exact r_throwS (cls := "java/lang/IllegalArgumentException") (text := "the argument is out of range") (names := ["java/lang/RuntimeException", "java/lang/Exception"]) O hs (by decide) (by decide) (gW_in (i := 288) (by decide +kernel) rfl) (gW_in (i := 22) (by decide +kernel) rfl) (xa_requireArgument O Y) xo_requireArgument O.Z.2.2.2.2.2.1 dX7_requireArgument_4 dX7_requireArgument_7 dX7_requireArgument_8 dX7_requireArgument_11 dX7_requireArgument_14 rfl rfl
  · exact r_vret O dX7_requireArgument_15 (Nat.le_of_ble_eq_true rfl) (Nat.le_of_ble_eq_true rfl) rfl
theorem met_X7_requireArgument (l : Launch) (hs : l.stackTraces = false) (q : g_q) (m : Nat → Int32) (x0 : Int32) : g_SY l yX7_requireArgument cX7_requireArgument 1 none ({ frames := 6, cells := 1, slots := 6, locals := 90 } : Room) (fun ad => [.int x0]) m q ((fun r : Option Value ⊕ String => ((r, (m, q)) : g_Res)) (R_X7_requireArgument x0)) :=
  g_sy_of (by decide) (fun _ => Nat.le_of_ble_eq_true rfl) (fun X hl hn O Y => walk_X7_requireArgument O (by rw [hl]; exact hs) Y)
def R_X7_requirePossible (x0 : Int32) : Option Value ⊕ String := if x0 = 0 then .inr "java/lang/IllegalStateException" else .inl none
set_option maxRecDepth 100000 in
set_option maxHeartbeats 4000000 in
theorem walk_X7_requirePossible {X : g_X} (O : g_ok X cX7_requirePossible RX7 none ({ frames := 6, cells := 1, slots := 6, locals := 90 } : Room)) (hs : (g_xl X).stackTraces = false) (Y : g_Y (g_xs X)) {m : Nat → Int32} {q : g_q} {x0 : Int32} : g_V X (fun r : Option Value ⊕ String => ((r, (m, q)) : g_Res)) (R_X7_requirePossible x0) 0 0 m q 0 [(0, .int x0)] [] := by
  unfold R_X7_requirePossible
  refine r_iload_n O 0 dX7_requirePossible_0 rfl rfl ?_
  refine r_if_ne O 15 dX7_requirePossible_1 (by decide) (fun _ => ?_) (fun _ => ?_)
  · exact r_throwS (cls := "java/lang/IllegalStateException") (text := "this is not possible now") (names := ["java/lang/RuntimeException", "java/lang/Exception"]) O hs (by decide) (by decide) (gW_in (i := 464) (by decide +kernel) rfl) (gW_in (i := 25) (by decide +kernel) rfl) (xa_requirePossible O Y) xo_requirePossible O.Z.2.2.2.2.2.2 dX7_requirePossible_4 dX7_requirePossible_7 dX7_requirePossible_8 dX7_requirePossible_11 dX7_requirePossible_14 rfl rfl
  · exact r_vret O dX7_requirePossible_15 (Nat.le_of_ble_eq_true rfl) (Nat.le_of_ble_eq_true rfl) rfl
theorem met_X7_requirePossible (l : Launch) (hs : l.stackTraces = false) (q : g_q) (m : Nat → Int32) (x0 : Int32) : g_SY l yX7_requirePossible cX7_requirePossible 1 none ({ frames := 6, cells := 1, slots := 6, locals := 90 } : Room) (fun ad => [.int x0]) m q ((fun r : Option Value ⊕ String => ((r, (m, q)) : g_Res)) (R_X7_requirePossible x0)) :=
  g_sy_of (by decide) (fun _ => Nat.le_of_ble_eq_true rfl) (fun X hl hn O Y => walk_X7_requirePossible O (by rw [hl]; exact hs) Y)
theorem bad_X7_requireIndex (l : Launch) (hs : l.stackTraces = false) (q : g_q) (m : Nat → Int32) (x0 x1 : Int32) (h : x0 < 0 ∨ x1 ≤ x0) : g_SY l yX7_requireIndex cX7_requireIndex 2 none ({ frames := 6, cells := 1, slots := 6, locals := 90 } : Room) (fun ad => [.int x0, .int x1]) m q (.inr "java/lang/IndexOutOfBoundsException", (m, q)) := by
  have z := met_X7_requireIndex l hs q m x0 x1
  have e : R_X7_requireIndex x0 x1 = .inr "java/lang/IndexOutOfBoundsException" := by
    unfold R_X7_requireIndex
    rcases h with h | h
    · rw [if_pos h]
    · rw [if_neg (Int32.not_lt.mpr h), ite_self]
  rw [e] at z
  exact z
theorem ok_X7_requireIndex (l : Launch) (hs : l.stackTraces = false) (q : g_q) (m : Nat → Int32) (x0 x1 : Int32) (h : ¬ (x0 < 0 ∨ x1 ≤ x0)) : g_SY l yX7_requireIndex cX7_requireIndex 2 none ({ frames := 6, cells := 1, slots := 6, locals := 90 } : Room) (fun ad => [.int x0, .int x1]) m q (.inl none, (m, q)) := by
  have z := met_X7_requireIndex l hs q m x0 x1
  have e : R_X7_requireIndex x0 x1 = .inl none := by
    unfold R_X7_requireIndex
    rw [if_neg (fun z => h (Or.inl z)), if_pos (Int32.not_le.mp (fun z => h (Or.inr z)))]
  rw [e] at z
  exact z
theorem bad_X7_requireArgument (l : Launch) (hs : l.stackTraces = false) (q : g_q) (m : Nat → Int32) (x0 : Int32) (h : x0 = 0) : g_SY l yX7_requireArgument cX7_requireArgument 1 none ({ frames := 6, cells := 1, slots := 6, locals := 90 } : Room) (fun ad => [.int x0]) m q (.inr "java/lang/IllegalArgumentException", (m, q)) := by
  have z := met_X7_requireArgument l hs q m x0
  have e : R_X7_requireArgument x0 = .inr "java/lang/IllegalArgumentException" := by
    unfold R_X7_requireArgument
    rw [if_pos h]
  rw [e] at z
  exact z
theorem ok_X7_requireArgument (l : Launch) (hs : l.stackTraces = false) (q : g_q) (m : Nat → Int32) (x0 : Int32) (h : ¬ (x0 = 0)) : g_SY l yX7_requireArgument cX7_requireArgument 1 none ({ frames := 6, cells := 1, slots := 6, locals := 90 } : Room) (fun ad => [.int x0]) m q (.inl none, (m, q)) := by
  have z := met_X7_requireArgument l hs q m x0
  have e : R_X7_requireArgument x0 = .inl none := by
    unfold R_X7_requireArgument
    rw [if_neg h]
  rw [e] at z
  exact z
theorem bad_X7_requirePossible (l : Launch) (hs : l.stackTraces = false) (q : g_q) (m : Nat → Int32) (x0 : Int32) (h : x0 = 0) : g_SY l yX7_requirePossible cX7_requirePossible 1 none ({ frames := 6, cells := 1, slots := 6, locals := 90 } : Room) (fun ad => [.int x0]) m q (.inr "java/lang/IllegalStateException", (m, q)) := by
  have z := met_X7_requirePossible l hs q m x0
  have e : R_X7_requirePossible x0 = .inr "java/lang/IllegalStateException" := by
    unfold R_X7_requirePossible
    rw [if_pos h]
  rw [e] at z
  exact z
theorem ok_X7_requirePossible (l : Launch) (hs : l.stackTraces = false) (q : g_q) (m : Nat → Int32) (x0 : Int32) (h : ¬ (x0 = 0)) : g_SY l yX7_requirePossible cX7_requirePossible 1 none ({ frames := 6, cells := 1, slots := 6, locals := 90 } : Room) (fun ad => [.int x0]) m q (.inl none, (m, q)) := by
  have z := met_X7_requirePossible l hs q m x0
  have e : R_X7_requirePossible x0 = .inl none := by
    unfold R_X7_requirePossible
    rw [if_neg h]
  rw [e] at z
  exact z
def R_X7_requireRange (x0 x1 x2 : Int32) : Option Value ⊕ String := if x0 < x1 then .inr "java/lang/IllegalArgumentException" else if x2 < x0 then .inr "java/lang/IllegalArgumentException" else .inl none
set_option maxRecDepth 100000 in
set_option maxHeartbeats 4000000 in
theorem walk_X7_requireRange {X : g_X} (O : g_ok X cX7_requireRange RX7 none ({ frames := 7, cells := 1, slots := 6, locals := 120 } : Room)) (hs : (g_xl X).stackTraces = false) (Y : g_Y (g_xs X)) {m : Nat → Int32} {q : g_q} {x0 x1 x2 : Int32} : g_V X (fun r : Option Value ⊕ String => ((r, (m, q)) : g_Res)) (R_X7_requireRange x0 x1 x2) 0 0 m q 0 [(0, .int x0), (1, .int x1), (2, .int x2)] [] := by
  have J : g_V X (fun r : Option Value ⊕ String => ((r, (m, q)) : g_Res)) (.inr "java/lang/IllegalArgumentException" : Option Value ⊕ String) 0 0 m q 14 [(0, .int x0), (1, .int x1), (2, .int x2)] [] := by
    refine r_iconst (x := 0) O dX7_requireRange_14 rfl ?_
    exact r_ySx O Y [.int 0] [] (bad_X7_requireArgument (g_xl X) hs q m 0 rfl) LX7_132 rfl rfl rfl dX7_requireRange_15 rfl rfl rfl
  unfold R_X7_requireRange
  refine r_iload_n O 0 dX7_requireRange_0 rfl rfl ?_
  refine r_iload_n O 1 dX7_requireRange_1 rfl rfl ?_
  refine r_icmp_lt O 14 dX7_requireRange_2 (by decide) (fun _ => J) (fun _ => ?_)
  refine r_iload_n O 0 dX7_requireRange_5 rfl rfl ?_
  refine r_iload_n O 2 dX7_requireRange_6 rfl rfl ?_
  refine r_icmp_gt O 14 dX7_requireRange_7 (by decide) (fun _ => J) (fun _ => ?_)
  refine r_iconst (x := 1) O dX7_requireRange_10 rfl ?_
  refine r_goto O 15 dX7_requireRange_11 (by decide) ?_
  refine r_ySv O Y [.int 1] [] (ok_X7_requireArgument (g_xl X) hs q m 1 (by decide)) LX7_132 rfl rfl rfl dX7_requireRange_15 rfl rfl ?_
  exact r_vret O dX7_requireRange_18 (Nat.le_of_ble_eq_true rfl) (Nat.le_of_ble_eq_true rfl) rfl
theorem met_X7_requireRange (l : Launch) (hs : l.stackTraces = false) (q : g_q) (m : Nat → Int32) (x0 x1 x2 : Int32) : g_SY l yX7_requireRange cX7_requireRange 3 none ({ frames := 7, cells := 1, slots := 6, locals := 120 } : Room) (fun ad => [.int x0, .int x1, .int x2]) m q ((fun r : Option Value ⊕ String => ((r, (m, q)) : g_Res)) (R_X7_requireRange x0 x1 x2)) :=
  g_sy_of (by decide) (fun _ => Nat.le_of_ble_eq_true rfl) (fun X hl hn O Y => walk_X7_requireRange O (by rw [hl]; exact hs) Y)
theorem bad_X7_requireRange (l : Launch) (hs : l.stackTraces = false) (q : g_q) (m : Nat → Int32) (x0 x1 x2 : Int32) (h : x0 < x1 ∨ x2 < x0) : g_SY l yX7_requireRange cX7_requireRange 3 none ({ frames := 7, cells := 1, slots := 6, locals := 120 } : Room) (fun ad => [.int x0, .int x1, .int x2]) m q (.inr "java/lang/IllegalArgumentException", (m, q)) := by
  have z := met_X7_requireRange l hs q m x0 x1 x2
  have e : R_X7_requireRange x0 x1 x2 = .inr "java/lang/IllegalArgumentException" := by
    unfold R_X7_requireRange
    rcases h with h | h
    · rw [if_pos h]
    · rw [if_pos h, ite_self]
  rw [e] at z
  exact z
theorem ok_X7_requireRange (l : Launch) (hs : l.stackTraces = false) (q : g_q) (m : Nat → Int32) (x0 x1 x2 : Int32) (h : ¬ (x0 < x1 ∨ x2 < x0)) : g_SY l yX7_requireRange cX7_requireRange 3 none ({ frames := 7, cells := 1, slots := 6, locals := 120 } : Room) (fun ad => [.int x0, .int x1, .int x2]) m q (.inl none, (m, q)) := by
  have z := met_X7_requireRange l hs q m x0 x1 x2
  have e : R_X7_requireRange x0 x1 x2 = .inl none := by
    unfold R_X7_requireRange
    rw [if_neg (fun z => h (Or.inl z)), if_neg (fun z => h (Or.inr z))]
  rw [e] at z
  exact z
def g_Pm (pm : Nat → Nat) : Prop := ∀ i, i < 4 → 1 ≤ pm i ∧ pm i < 5
def R_X7_drop (pm : Nat → Nat) : Nat → Nat := updN (updN (updN (updN pm 0 (pm 1)) 1 (pm 2)) 2 (pm 3)) 3 (pm 0)
theorem g_same {α : Type} {X : g_X} {emb : α → g_Res} {r : α} {k n : Nat} {m : Nat → Int32} {q : g_q} {pc : Nat} {lc : List (Nat × Value)} {st : List Value} (c : Prop) {hc : Decidable c} (h : g_V X emb (if c then r else r) k n m q pc lc st) : g_V X emb r k n m q pc lc st := by
  rw [ite_self] at h
  exact h
set_option maxRecDepth 100000 in
set_option maxHeartbeats 4000000 in
theorem walk_X7_dropOldest {X : g_X} (O : g_ok X cX7_dropOldest RX7 none ({ frames := 0, cells := 0, slots := 0, locals := 0 } : Room)) (hn : g_xn X = 3) {m s : Nat → Int32} {lm : Nat → Int64} {pm : Nat → Nat} (hp : g_Pm pm) : g_V X (fun r : (Nat → Int32) × (Nat → Nat) => ((.inl none, (r.1, s, lm, r.2)) : g_Res)) (upd m 981 3, R_X7_drop pm) 0 0 m (s, lm, pm) 0 [(0, .ref (g_ad X 122))] [] := by
  have hN : ∀ i, Nat.blt i 3 = true → i < g_xn X := fun i h => by rw [hn]; exact g_blt.mp h
  refine r_aload_n O 0 dX7_dropOldest_0 rfl rfl ?_
  refine r_get O FX7_16 G_122_1 dX7_dropOldest_1 ?_
  refine r_iconst (x := 0) O dX7_dropOldest_4 rfl ?_
  refine r_aldS (t := 0) (v := pm 0) O (g_vin (by decide) (by decide)) rfl rfl dX7_dropOldest_5 ?_
  refine r_astore_n (lc' := [(1, .ref (g_ad X (24 * pm 0))), (0, .ref (g_ad X 122))]) O dX7_dropOldest_6 rfl (hN 1 rfl) rfl ?_
  refine r_iconst (x := 1) O dX7_dropOldest_7 rfl ?_
  refine r_istore_n (lc' := [(2, .int 1), (1, .ref (g_ad X (24 * pm 0))), (0, .ref (g_ad X 122))]) O dX7_dropOldest_8 rfl (hN 2 rfl) rfl ?_
  refine r_iload_n O 0 dX7_dropOldest_9 rfl rfl ?_
  refine r_iconst (x := 4) O dX7_dropOldest_10 rfl ?_
  refine g_same (hc := inferInstance) ((4 : Int32) ≤ 1) ?_
  refine r_icmp_ge O 34 dX7_dropOldest_11 (by decide) (fun c => absurd c (by decide)) (fun _ => ?_)
  refine r_aload_n O 2 dX7_dropOldest_14 rfl rfl ?_
  refine r_get O FX7_16 G_122_1 dX7_dropOldest_15 ?_
  refine r_iload_n O 0 dX7_dropOldest_18 rfl rfl ?_
  refine r_iconst (x := 1) O dX7_dropOldest_19 rfl ?_
  refine r_isub O dX7_dropOldest_20 ?_
  refine r_aload_n O 2 dX7_dropOldest_21 rfl rfl ?_
  refine r_get O FX7_16 G_122_1 dX7_dropOldest_22 ?_
  refine r_iload_n O 0 dX7_dropOldest_25 rfl rfl ?_
  refine r_aldS (t := 1) (v := pm 1) O (g_vin (by decide) (by decide)) rfl rfl dX7_dropOldest_26 ?_
  refine r_astS (t := 0) (v := pm 1) O (g_vin (by decide) (by decide)) rfl (hp 1 (by omega)).2 dX7_dropOldest_27 ?_
  refine r_iinc (lc' := [(2, .int 2), (1, .ref (g_ad X (24 * pm 0))), (0, .ref (g_ad X 122))]) O 0 dX7_dropOldest_28 rfl rfl (hN 2 rfl) rfl ?_
  refine r_goto O 9 dX7_dropOldest_31 (by decide) ?_
  refine r_iload_n O 0 dX7_dropOldest_9 rfl rfl ?_
  refine r_iconst (x := 4) O dX7_dropOldest_10 rfl ?_
  refine g_same (hc := inferInstance) ((4 : Int32) ≤ 2) ?_
  refine r_icmp_ge O 34 dX7_dropOldest_11 (by decide) (fun c => absurd c (by decide)) (fun _ => ?_)
  refine r_aload_n O 2 dX7_dropOldest_14 rfl rfl ?_
  refine r_get O FX7_16 G_122_1 dX7_dropOldest_15 ?_
  refine r_iload_n O 0 dX7_dropOldest_18 rfl rfl ?_
  refine r_iconst (x := 1) O dX7_dropOldest_19 rfl ?_
  refine r_isub O dX7_dropOldest_20 ?_
  refine r_aload_n O 2 dX7_dropOldest_21 rfl rfl ?_
  refine r_get O FX7_16 G_122_1 dX7_dropOldest_22 ?_
  refine r_iload_n O 0 dX7_dropOldest_25 rfl rfl ?_
  refine r_aldS (t := 2) (v := pm 2) O (g_vin (by decide) (by decide)) rfl rfl dX7_dropOldest_26 ?_
  refine r_astS (t := 1) (v := pm 2) O (g_vin (by decide) (by decide)) rfl (hp 2 (by omega)).2 dX7_dropOldest_27 ?_
  refine r_iinc (lc' := [(2, .int 3), (1, .ref (g_ad X (24 * pm 0))), (0, .ref (g_ad X 122))]) O 0 dX7_dropOldest_28 rfl rfl (hN 2 rfl) rfl ?_
  refine r_goto O 9 dX7_dropOldest_31 (by decide) ?_
  refine r_iload_n O 0 dX7_dropOldest_9 rfl rfl ?_
  refine r_iconst (x := 4) O dX7_dropOldest_10 rfl ?_
  refine g_same (hc := inferInstance) ((4 : Int32) ≤ 3) ?_
  refine r_icmp_ge O 34 dX7_dropOldest_11 (by decide) (fun c => absurd c (by decide)) (fun _ => ?_)
  refine r_aload_n O 2 dX7_dropOldest_14 rfl rfl ?_
  refine r_get O FX7_16 G_122_1 dX7_dropOldest_15 ?_
  refine r_iload_n O 0 dX7_dropOldest_18 rfl rfl ?_
  refine r_iconst (x := 1) O dX7_dropOldest_19 rfl ?_
  refine r_isub O dX7_dropOldest_20 ?_
  refine r_aload_n O 2 dX7_dropOldest_21 rfl rfl ?_
  refine r_get O FX7_16 G_122_1 dX7_dropOldest_22 ?_
  refine r_iload_n O 0 dX7_dropOldest_25 rfl rfl ?_
  refine r_aldS (t := 3) (v := pm 3) O (g_vin (by decide) (by decide)) rfl rfl dX7_dropOldest_26 ?_
  refine r_astS (t := 2) (v := pm 3) O (g_vin (by decide) (by decide)) rfl (hp 3 (by omega)).2 dX7_dropOldest_27 ?_
  refine r_iinc (lc' := [(2, .int 4), (1, .ref (g_ad X (24 * pm 0))), (0, .ref (g_ad X 122))]) O 0 dX7_dropOldest_28 rfl rfl (hN 2 rfl) rfl ?_
  refine r_goto O 9 dX7_dropOldest_31 (by decide) ?_
  refine r_iload_n O 0 dX7_dropOldest_9 rfl rfl ?_
  refine r_iconst (x := 4) O dX7_dropOldest_10 rfl ?_
  refine g_same (hc := inferInstance) ((4 : Int32) ≤ 4) ?_
  refine r_icmp_ge O 34 dX7_dropOldest_11 (by decide) (fun _ => ?_) (fun c => absurd (by decide) c)
  refine r_aload_n O 2 dX7_dropOldest_34 rfl rfl ?_
  refine r_get O FX7_16 G_122_1 dX7_dropOldest_35 ?_
  refine r_iconst (x := 3) O dX7_dropOldest_38 rfl ?_
  refine r_aload_n O 1 dX7_dropOldest_39 rfl rfl ?_
  refine r_astS (t := 3) (v := pm 0) O (g_vin (by decide) (by decide)) rfl (hp 0 (by omega)).2 dX7_dropOldest_40 ?_
  refine r_aload_n O 2 dX7_dropOldest_41 rfl rfl ?_
  refine r_iconst (x := 3) O dX7_dropOldest_42 rfl ?_
  refine r_put O (FPX7_20 3) (S_122_2 3) dX7_dropOldest_43 ?_
  exact r_vret O dX7_dropOldest_46 (Nat.le_of_ble_eq_true rfl) (Nat.le_of_ble_eq_true rfl) rfl
theorem met_X7_dropOldest (l : Launch) (hs : l.stackTraces = false) (m s : Nat → Int32) (lm : Nat → Int64) (pm : Nat → Nat) (hp : g_Pm pm) : g_SM l yX7_dropOldest cX7_dropOldest 3 none ({ frames := 0, cells := 0, slots := 0, locals := 0 } : Room) (fun ad => [.ref (ad 122)]) m (s, lm, pm) (.inl none, (upd m 981 3, s, lm, R_X7_drop pm)) :=
  g_sm_of (emb := (fun r : (Nat → Int32) × (Nat → Nat) => ((.inl none, (r.1, s, lm, r.2)) : g_Res))) (r := (upd m 981 3, R_X7_drop pm)) (by decide) (fun _ => Nat.le_of_ble_eq_true rfl) hs (fun X hl hn O => walk_X7_dropOldest O hn hp)
/-- all that a cave's flags may be -/
def g_Bo (m : Nat → Int32) : Prop := ∀ d, d < 5 → (m (178 * d + 5) = 0 ∨ m (178 * d + 5) = 1) ∧ ∀ h, h < 6 → m (178 * d + (58 + 9 * h + 8)) = 0 ∨ m (178 * d + (58 + 9 * h + 8)) = 1
def R_X7_save_12 (m : Nat → Int32) (pm : Nat → Nat) : (Nat → Int32) × (Nat → Nat) := (upd (R_X0_copyFrom m (pm (m 981).toNatClampNeg) 0) 981 (R_X0_copyFrom m (pm (m 981).toNatClampNeg) 0 981 + 1), pm)
def R_X7_save (m : Nat → Int32) (pm : Nat → Nat) : (Nat → Int32) × (Nat → Nat) := if m 981 < 4 then R_X7_save_12 m pm else R_X7_save_12 (upd m 981 3) (R_X7_drop pm)
theorem g_Pm.drop {pm : Nat → Nat} (h : g_Pm pm) : g_Pm (R_X7_drop pm) := by
  intro i hi
  have : i = 0 ∨ i = 1 ∨ i = 2 ∨ i = 3 := by omega
  rcases this with rfl | rfl | rfl | rfl
  · exact h 1 (by omega)
  · exact h 2 (by omega)
  · exact h 3 (by omega)
  · exact h 0 (by omega)
theorem g_Bo.upd {m : Nat → Int32} {n : Nat} {x : Int32} (h : g_Bo m) (hn : 890 ≤ n) : g_Bo (upd m n x) := fun d hd => by
  refine ⟨?_, fun k hk => ?_⟩
  · rw [g_upd_ne (by omega)]; exact (h d hd).1
  · rw [g_upd_ne (by omega)]; exact (h d hd).2 k hk
set_option maxRecDepth 100000 in
set_option maxHeartbeats 4000000 in
theorem walk_X7_save {X : g_X} (O : g_ok X cX7_save RX7 none ({ frames := 2, cells := 0, slots := 0, locals := 44 } : Room)) (hs : (g_xl X).stackTraces = false) {m s : Nat → Int32} {lm : Nat → Int64} {pm : Nat → Nat} (hp : g_Pm pm) (hb : g_Bo m) (h0 : 0 ≤ (m 981).toInt) : g_V X (fun r : (Nat → Int32) × (Nat → Nat) => ((.inl none, (r.1, s, lm, r.2)) : g_Res)) (R_X7_save m pm) 0 0 m (s, lm, pm) 0 [(0, .ref (g_ad X 122))] [] := by
  have J : ∀ (m : Nat → Int32) (pm : Nat → Nat), g_Pm pm → g_Bo m → 0 ≤ (m 981).toInt → (m 981).toInt < 4 → g_V X (fun r : (Nat → Int32) × (Nat → Nat) => ((.inl none, (r.1, s, lm, r.2)) : g_Res)) (R_X7_save_12 m pm) 0 0 m (s, lm, pm) 12 [(0, .ref (g_ad X 122))] [] := by
    intro m pm hp hb h0 h4
    have hj := j_nat h0
    have hq := hp (m 981).toNatClampNeg (by omega)
    refine r_aload_n O 0 dX7_save_12 rfl rfl ?_
    refine r_get O FX7_16 G_122_1 dX7_save_13 ?_
    refine r_aload_n O 0 dX7_save_16 rfl rfl ?_
    refine r_get O FX7_20 G_122_2 dX7_save_17 ?_
    refine r_aldS (t := (m 981).toNatClampNeg) (v := pm (m 981).toNatClampNeg) O (g_vin h0 (by omega)) rfl rfl dX7_save_20 ?_
    refine r_aload_n O 0 dX7_save_21 rfl rfl ?_
    refine r_get O FX7_10 G_122_0 dX7_save_22 ?_
    refine r_callVv O [.ref (g_ad X 0)] [] (met_X0_copyFrom (g_xl X) hs (s, lm, pm) m (pm (m 981).toNatClampNeg) 0 hq.2 (by omega) (by omega) (hb 0 (by omega)).2 (hb 0 (by omega)).1) LX7_244 (obj_c (c := pm (m 981).toNatClampNeg) (j0 := 0) hq.2 (by omega) rfl) rfl rfl rfl dX7_save_25 rfl rfl ?_
    refine r_aload_n O 0 dX7_save_28 rfl rfl ?_
    refine r_dup O dX7_save_29 rfl ?_
    refine r_get O FX7_20 G_122_2 dX7_save_30 ?_
    refine r_iconst (x := 1) O dX7_save_33 rfl ?_
    refine r_iadd O dX7_save_34 ?_
    refine r_put O (FPX7_20 _) (S_122_2 _) dX7_save_35 ?_
    exact r_vret O dX7_save_38 (Nat.le_of_ble_eq_true rfl) (Nat.le_of_ble_eq_true rfl) rfl
  unfold R_X7_save
  refine r_aload_n O 0 dX7_save_0 rfl rfl ?_
  refine r_get O FX7_20 G_122_2 dX7_save_1 ?_
  refine r_iconst (x := 4) O dX7_save_4 rfl ?_
  refine r_icmp_lt O 12 dX7_save_5 (by decide) (fun c => J m pm hp hb h0 (j_ltR c rfl)) (fun c => ?_)
  refine r_aload_n O 0 dX7_save_8 rfl rfl ?_
  refine r_callVv O [] [] (met_X7_dropOldest (g_xl X) hs m s lm pm hp) LX7_273 obj_122 rfl rfl rfl dX7_save_9 rfl rfl ?_
  exact J _ _ hp.drop (hb.upd (by omega)) (by rw [g_upd_eq]; decide) (by rw [g_upd_eq]; decide)
theorem met_X7_save (l : Launch) (hs : l.stackTraces = false) (m s : Nat → Int32) (lm : Nat → Int64) (pm : Nat → Nat) (hp : g_Pm pm) (hb : g_Bo m) (h0 : 0 ≤ (m 981).toInt) : g_SM l yX7_save cX7_save 1 none ({ frames := 2, cells := 0, slots := 0, locals := 44 } : Room) (fun ad => [.ref (ad 122)]) m (s, lm, pm) (.inl none, ((R_X7_save m pm).1, s, lm, (R_X7_save m pm).2)) :=
  g_sm_of (emb := (fun r : (Nat → Int32) × (Nat → Nat) => ((.inl none, (r.1, s, lm, r.2)) : g_Res))) (r := R_X7_save m pm) (by decide) (fun _ => Nat.le_of_ble_eq_true rfl) hs (fun X hl hn O => walk_X7_save O (by rw [hl]; exact hs) hp hb h0)
