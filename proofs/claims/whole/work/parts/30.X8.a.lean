/-! ===== the model: small ones ===== -/
def R_X8_thrown (s : Nat → Int32) : Int32 := (s 1302)
set_option maxRecDepth 100000 in
set_option maxHeartbeats 4000000 in
theorem walk_X8_thrown {X : g_X} (O : g_ok X cX8_thrown RX8 (some .int) ({ frames := 0, cells := 0, slots := 0, locals := 0 } : Room)) (hs : (g_xl X).stackTraces = false) (hn : g_xn X = 1) {m : Nat → Int32} {lm : Nat → Int64} {pm : Nat → Nat} {s : Nat → Int32}  : g_V X (fun r : Int32 => ((.inl (some (.int r)), (m, s, lm, pm)) : g_Res)) (R_X8_thrown s) 0 0 m (s, lm, pm) 0 [(0, .ref (g_ad X 124))] [] := by
  have hN : ∀ i, Nat.blt i 1 = true → i < g_xn X := fun i h => by rw [hn]; exact g_blt.mp h
  refine r_aload_n O 0 dX8_thrown_0 rfl rfl ?_
  refine r_get O FX8_26 G_124_6 dX8_thrown_1 ?_
  exact r_iret O dX8_thrown_4 rfl (Nat.le_of_ble_eq_true rfl) (Nat.le_of_ble_eq_true rfl) rfl
theorem met_X8_thrown (l : Launch) (hs : l.stackTraces = false) (lm : Nat → Int64) (pm : Nat → Nat) (m : Nat → Int32) (s : Nat → Int32)  : g_SM l yX8_thrown cX8_thrown 1 (some .int) ({ frames := 0, cells := 0, slots := 0, locals := 0 } : Room) (fun ad => [.ref (ad 124)]) m (s, lm, pm) ((fun r : Int32 => ((.inl (some (.int r)), (m, s, lm, pm)) : g_Res)) (R_X8_thrown s)) :=
  g_sm_of (by decide) (fun _ => Nat.le_of_ble_eq_true rfl) hs (fun X hl hn O => walk_X8_thrown O (by rw [hl]; exact hs) hn )
def R_X8_in (s : Nat → Int32) (x0 : Int32) (x1 : Int32) (x2 : Int32) : Int32 := (if x0 < x1 then 0 else (if x2 < x0 then 0 else 1))
set_option maxRecDepth 100000 in
set_option maxHeartbeats 4000000 in
theorem walk_X8_in {X : g_X} (O : g_ok X cX8_in RX8 (some .boolean) ({ frames := 0, cells := 0, slots := 0, locals := 0 } : Room)) (hs : (g_xl X).stackTraces = false) (hn : g_xn X = 3) {m : Nat → Int32} {lm : Nat → Int64} {pm : Nat → Nat} {s : Nat → Int32} {x0 : Int32} {x1 : Int32} {x2 : Int32}  : g_V X (fun r : Int32 => ((.inl (some (.int r)), (m, s, lm, pm)) : g_Res)) (R_X8_in s x0 x1 x2) 0 0 m (s, lm, pm) 0 [(0, .int x0), (1, .int x1), (2, .int x2)] [] := by
  have hN : ∀ i, Nat.blt i 3 = true → i < g_xn X := fun i h => by rw [hn]; exact g_blt.mp h
  refine r_iload_n O 0 dX8_in_0 rfl rfl ?_
  refine r_iload_n O 1 dX8_in_1 rfl rfl ?_
  refine r_icmp_lt O 14 dX8_in_2 (by decide) (fun c_2 => ?_) (fun c_2 => ?_)
  · have e_2 : (x0).toInt < (x1).toInt := j_lt c_2
    refine r_iconst (x := 0) O dX8_in_14 rfl ?_
    exact r_iret O dX8_in_15 rfl (Nat.le_of_ble_eq_true rfl) (Nat.le_of_ble_eq_true rfl) rfl
  · have e_2 : (x1).toInt ≤ (x0).toInt := j_nlt c_2
    refine r_iload_n O 0 dX8_in_5 rfl rfl ?_
    refine r_iload_n O 2 dX8_in_6 rfl rfl ?_
    refine r_icmp_gt O 14 dX8_in_7 (by decide) (fun c_7 => ?_) (fun c_7 => ?_)
    · have e_7 : (x2).toInt < (x0).toInt := j_lt c_7
      refine r_iconst (x := 0) O dX8_in_14 rfl ?_
      exact r_iret O dX8_in_15 rfl (Nat.le_of_ble_eq_true rfl) (Nat.le_of_ble_eq_true rfl) rfl
    · have e_7 : (x0).toInt ≤ (x2).toInt := j_nlt c_7
      refine r_iconst (x := 1) O dX8_in_10 rfl ?_
      refine r_goto O 15 dX8_in_11 (by decide) ?_
      exact r_iret O dX8_in_15 rfl (Nat.le_of_ble_eq_true rfl) (Nat.le_of_ble_eq_true rfl) rfl
theorem met_X8_in (l : Launch) (hs : l.stackTraces = false) (lm : Nat → Int64) (pm : Nat → Nat) (m : Nat → Int32) (s : Nat → Int32) (x0 : Int32) (x1 : Int32) (x2 : Int32)  : g_SM l yX8_in cX8_in 3 (some .boolean) ({ frames := 0, cells := 0, slots := 0, locals := 0 } : Room) (fun ad => [.int x0, .int x1, .int x2]) m (s, lm, pm) ((fun r : Int32 => ((.inl (some (.int r)), (m, s, lm, pm)) : g_Res)) (R_X8_in s x0 x1 x2)) :=
  g_sm_of (by decide) (fun _ => Nat.le_of_ble_eq_true rfl) hs (fun X hl hn O => walk_X8_in O (by rw [hl]; exact hs) hn )
theorem nz_X8_in {s : Nat → Int32} {x0 x1 x2 : Int32} (h : ¬ R_X8_in s x0 x1 x2 = 0) : x1.toInt ≤ x0.toInt ∧ x0.toInt ≤ x2.toInt := by
  unfold R_X8_in at h
  by_cases a : x0 < x1
  · simp [a] at h
  · by_cases b : x2 < x0
    · simp [a, b] at h
    · exact ⟨j_nlt a, j_nlt b⟩
def R_X8_fails (s : Nat → Int32) (x1 : Int32) : (Int32 × (Nat → Int32)) := (0, (upd s 1302 x1))
set_option maxRecDepth 100000 in
set_option maxHeartbeats 4000000 in
theorem walk_X8_fails {X : g_X} (O : g_ok X cX8_fails RX8 (some .int) ({ frames := 0, cells := 0, slots := 0, locals := 0 } : Room)) (hs : (g_xl X).stackTraces = false) (hn : g_xn X = 2) {m : Nat → Int32} {lm : Nat → Int64} {pm : Nat → Nat} {s : Nat → Int32} {x1 : Int32}  : g_V X (fun r : Int32 × (Nat → Int32) => ((.inl (some (.int r.1)), (m, r.2, lm, pm)) : g_Res)) (R_X8_fails s x1) 0 0 m (s, lm, pm) 0 [(0, .ref (g_ad X 124)), (1, .int x1)] [] := by
  have hN : ∀ i, Nat.blt i 2 = true → i < g_xn X := fun i h => by rw [hn]; exact g_blt.mp h
  refine r_aload_n O 0 dX8_fails_0 rfl rfl ?_
  refine r_iload_n O 1 dX8_fails_1 rfl rfl ?_
  refine r_put O (FPX8_26 x1) (S_124_6 x1) dX8_fails_2 ?_
  refine r_iconst (x := 0) O dX8_fails_5 rfl ?_
  exact r_iret O dX8_fails_6 rfl (Nat.le_of_ble_eq_true rfl) (Nat.le_of_ble_eq_true rfl) rfl
theorem met_X8_fails (l : Launch) (hs : l.stackTraces = false) (lm : Nat → Int64) (pm : Nat → Nat) (m : Nat → Int32) (s : Nat → Int32) (x1 : Int32)  : g_SM l yX8_fails cX8_fails 2 (some .int) ({ frames := 0, cells := 0, slots := 0, locals := 0 } : Room) (fun ad => [.ref (ad 124), .int x1]) m (s, lm, pm) ((fun r : Int32 × (Nat → Int32) => ((.inl (some (.int r.1)), (m, r.2, lm, pm)) : g_Res)) (R_X8_fails s x1)) :=
  g_sm_of (by decide) (fun _ => Nat.le_of_ble_eq_true rfl) hs (fun X hl hn O => walk_X8_fails O (by rw [hl]; exact hs) hn )
def R_X8_tells (s : Nat → Int32) (x1 : Int32) : (Int32 × (Nat → Int32)) := (x1, (upd s 1302 0))
set_option maxRecDepth 100000 in
set_option maxHeartbeats 4000000 in
theorem walk_X8_tells {X : g_X} (O : g_ok X cX8_tells RX8 (some .int) ({ frames := 0, cells := 0, slots := 0, locals := 0 } : Room)) (hs : (g_xl X).stackTraces = false) (hn : g_xn X = 2) {m : Nat → Int32} {lm : Nat → Int64} {pm : Nat → Nat} {s : Nat → Int32} {x1 : Int32}  : g_V X (fun r : Int32 × (Nat → Int32) => ((.inl (some (.int r.1)), (m, r.2, lm, pm)) : g_Res)) (R_X8_tells s x1) 0 0 m (s, lm, pm) 0 [(0, .ref (g_ad X 124)), (1, .int x1)] [] := by
  have hN : ∀ i, Nat.blt i 2 = true → i < g_xn X := fun i h => by rw [hn]; exact g_blt.mp h
  refine r_aload_n O 0 dX8_tells_0 rfl rfl ?_
  refine r_iconst (x := 0) O dX8_tells_1 rfl ?_
  refine r_put O (FPX8_26 0) (S_124_6 0) dX8_tells_2 ?_
  refine r_iload_n O 1 dX8_tells_5 rfl rfl ?_
  exact r_iret O dX8_tells_6 rfl (Nat.le_of_ble_eq_true rfl) (Nat.le_of_ble_eq_true rfl) rfl
theorem met_X8_tells (l : Launch) (hs : l.stackTraces = false) (lm : Nat → Int64) (pm : Nat → Nat) (m : Nat → Int32) (s : Nat → Int32) (x1 : Int32)  : g_SM l yX8_tells cX8_tells 2 (some .int) ({ frames := 0, cells := 0, slots := 0, locals := 0 } : Room) (fun ad => [.ref (ad 124), .int x1]) m (s, lm, pm) ((fun r : Int32 × (Nat → Int32) => ((.inl (some (.int r.1)), (m, r.2, lm, pm)) : g_Res)) (R_X8_tells s x1)) :=
  g_sm_of (by decide) (fun _ => Nat.le_of_ble_eq_true rfl) hs (fun X hl hn O => walk_X8_tells O (by rw [hl]; exact hs) hn )
def R_X8_isPassage (s : Nat → Int32) (x1 : Int32) : Int32 := (if x1 < 0 then 0 else (if (s (0)) ≤ x1 then 0 else 1))
set_option maxRecDepth 100000 in
set_option maxHeartbeats 4000000 in
theorem walk_X8_isPassage {X : g_X} (O : g_ok X cX8_isPassage RX8 (some .boolean) ({ frames := 0, cells := 0, slots := 0, locals := 0 } : Room)) (hs : (g_xl X).stackTraces = false) (hn : g_xn X = 2) {m : Nat → Int32} {lm : Nat → Int64} {pm : Nat → Nat} {s : Nat → Int32} {x1 : Int32}  : g_V X (fun r : Int32 => ((.inl (some (.int r)), (m, s, lm, pm)) : g_Res)) (R_X8_isPassage s x1) 0 0 m (s, lm, pm) 0 [(0, .ref (g_ad X 124)), (1, .int x1)] [] := by
  have hN : ∀ i, Nat.blt i 2 = true → i < g_xn X := fun i h => by rw [hn]; exact g_blt.mp h
  refine r_iload_n O 1 dX8_isPassage_0 rfl rfl ?_
  refine r_if_lt O 18 dX8_isPassage_1 (by decide) (fun c_1 => ?_) (fun c_1 => ?_)
  · have e_1 : (x1).toInt < (0 : Int) := j_ltR c_1 rfl
    refine r_iconst (x := 0) O dX8_isPassage_18 rfl ?_
    exact r_iret O dX8_isPassage_19 rfl (Nat.le_of_ble_eq_true rfl) (Nat.le_of_ble_eq_true rfl) rfl
  · have e_1 : (0 : Int) ≤ (x1).toInt := j_nltR c_1 rfl
    refine r_iload_n O 1 dX8_isPassage_4 rfl rfl ?_
    refine r_aload_n O 0 dX8_isPassage_5 rfl rfl ?_
    refine r_get O FX8_7 G_124_0 dX8_isPassage_6 ?_
    refine r_iconst (x := 0) O dX8_isPassage_9 rfl ?_
    refine r_iald O R_125 (g_vin (by decide) (by decide)) dX8_isPassage_10 ?_
    refine r_icmp_ge O 18 dX8_isPassage_11 (by decide) (fun c_11 => ?_) (fun c_11 => ?_)
    · have e_11 : (s (0)).toInt ≤ (x1).toInt := j_le c_11
      refine r_iconst (x := 0) O dX8_isPassage_18 rfl ?_
      exact r_iret O dX8_isPassage_19 rfl (Nat.le_of_ble_eq_true rfl) (Nat.le_of_ble_eq_true rfl) rfl
    · have e_11 : (x1).toInt < (s (0)).toInt := j_nle c_11
      refine r_iconst (x := 1) O dX8_isPassage_14 rfl ?_
      refine r_goto O 19 dX8_isPassage_15 (by decide) ?_
      exact r_iret O dX8_isPassage_19 rfl (Nat.le_of_ble_eq_true rfl) (Nat.le_of_ble_eq_true rfl) rfl
theorem met_X8_isPassage (l : Launch) (hs : l.stackTraces = false) (lm : Nat → Int64) (pm : Nat → Nat) (m : Nat → Int32) (s : Nat → Int32) (x1 : Int32)  : g_SM l yX8_isPassage cX8_isPassage 2 (some .boolean) ({ frames := 0, cells := 0, slots := 0, locals := 0 } : Room) (fun ad => [.ref (ad 124), .int x1]) m (s, lm, pm) ((fun r : Int32 => ((.inl (some (.int r)), (m, s, lm, pm)) : g_Res)) (R_X8_isPassage s x1)) :=
  g_sm_of (by decide) (fun _ => Nat.le_of_ble_eq_true rfl) hs (fun X hl hn O => walk_X8_isPassage O (by rw [hl]; exact hs) hn )
theorem nz_X8_isPassage {s : Nat → Int32} {x1 : Int32} (h : ¬ R_X8_isPassage s x1 = 0) : 0 ≤ x1.toInt ∧ x1.toInt < (s 0).toInt := by
  unfold R_X8_isPassage at h
  by_cases a : x1 < 0
  · simp [a] at h
  · by_cases b : s 0 ≤ x1
    · simp [a, b] at h
    · exact ⟨j_nlt a, j_nle b⟩
def R_X8_isRope (s : Nat → Int32) (x1 : Int32) : Int32 := (if x1 < 0 then 0 else (if (s (1)) ≤ x1 then 0 else 1))
set_option maxRecDepth 100000 in
set_option maxHeartbeats 4000000 in
theorem walk_X8_isRope {X : g_X} (O : g_ok X cX8_isRope RX8 (some .boolean) ({ frames := 0, cells := 0, slots := 0, locals := 0 } : Room)) (hs : (g_xl X).stackTraces = false) (hn : g_xn X = 2) {m : Nat → Int32} {lm : Nat → Int64} {pm : Nat → Nat} {s : Nat → Int32} {x1 : Int32}  : g_V X (fun r : Int32 => ((.inl (some (.int r)), (m, s, lm, pm)) : g_Res)) (R_X8_isRope s x1) 0 0 m (s, lm, pm) 0 [(0, .ref (g_ad X 124)), (1, .int x1)] [] := by
  have hN : ∀ i, Nat.blt i 2 = true → i < g_xn X := fun i h => by rw [hn]; exact g_blt.mp h
  refine r_iload_n O 1 dX8_isRope_0 rfl rfl ?_
  refine r_if_lt O 18 dX8_isRope_1 (by decide) (fun c_1 => ?_) (fun c_1 => ?_)
  · have e_1 : (x1).toInt < (0 : Int) := j_ltR c_1 rfl
    refine r_iconst (x := 0) O dX8_isRope_18 rfl ?_
    exact r_iret O dX8_isRope_19 rfl (Nat.le_of_ble_eq_true rfl) (Nat.le_of_ble_eq_true rfl) rfl
  · have e_1 : (0 : Int) ≤ (x1).toInt := j_nltR c_1 rfl
    refine r_iload_n O 1 dX8_isRope_4 rfl rfl ?_
    refine r_aload_n O 0 dX8_isRope_5 rfl rfl ?_
    refine r_get O FX8_7 G_124_0 dX8_isRope_6 ?_
    refine r_iconst (x := 1) O dX8_isRope_9 rfl ?_
    refine r_iald O R_125 (g_vin (by decide) (by decide)) dX8_isRope_10 ?_
    refine r_icmp_ge O 18 dX8_isRope_11 (by decide) (fun c_11 => ?_) (fun c_11 => ?_)
    · have e_11 : (s (1)).toInt ≤ (x1).toInt := j_le c_11
      refine r_iconst (x := 0) O dX8_isRope_18 rfl ?_
      exact r_iret O dX8_isRope_19 rfl (Nat.le_of_ble_eq_true rfl) (Nat.le_of_ble_eq_true rfl) rfl
    · have e_11 : (x1).toInt < (s (1)).toInt := j_nle c_11
      refine r_iconst (x := 1) O dX8_isRope_14 rfl ?_
      refine r_goto O 19 dX8_isRope_15 (by decide) ?_
      exact r_iret O dX8_isRope_19 rfl (Nat.le_of_ble_eq_true rfl) (Nat.le_of_ble_eq_true rfl) rfl
theorem met_X8_isRope (l : Launch) (hs : l.stackTraces = false) (lm : Nat → Int64) (pm : Nat → Nat) (m : Nat → Int32) (s : Nat → Int32) (x1 : Int32)  : g_SM l yX8_isRope cX8_isRope 2 (some .boolean) ({ frames := 0, cells := 0, slots := 0, locals := 0 } : Room) (fun ad => [.ref (ad 124), .int x1]) m (s, lm, pm) ((fun r : Int32 => ((.inl (some (.int r)), (m, s, lm, pm)) : g_Res)) (R_X8_isRope s x1)) :=
  g_sm_of (by decide) (fun _ => Nat.le_of_ble_eq_true rfl) hs (fun X hl hn O => walk_X8_isRope O (by rw [hl]; exact hs) hn )
theorem nz_X8_isRope {s : Nat → Int32} {x1 : Int32} (h : ¬ R_X8_isRope s x1 = 0) : 0 ≤ x1.toInt ∧ x1.toInt < (s 1).toInt := by
  unfold R_X8_isRope at h
  by_cases a : x1 < 0
  · simp [a] at h
  · by_cases b : s 1 ≤ x1
    · simp [a, b] at h
    · exact ⟨j_nlt a, j_nle b⟩
def R_X8_isHelper (s : Nat → Int32) (x1 : Int32) : Int32 := (if x1 < 0 then 0 else (if (s (2)) ≤ x1 then 0 else 1))
set_option maxRecDepth 100000 in
set_option maxHeartbeats 4000000 in
theorem walk_X8_isHelper {X : g_X} (O : g_ok X cX8_isHelper RX8 (some .boolean) ({ frames := 0, cells := 0, slots := 0, locals := 0 } : Room)) (hs : (g_xl X).stackTraces = false) (hn : g_xn X = 2) {m : Nat → Int32} {lm : Nat → Int64} {pm : Nat → Nat} {s : Nat → Int32} {x1 : Int32}  : g_V X (fun r : Int32 => ((.inl (some (.int r)), (m, s, lm, pm)) : g_Res)) (R_X8_isHelper s x1) 0 0 m (s, lm, pm) 0 [(0, .ref (g_ad X 124)), (1, .int x1)] [] := by
  have hN : ∀ i, Nat.blt i 2 = true → i < g_xn X := fun i h => by rw [hn]; exact g_blt.mp h
  refine r_iload_n O 1 dX8_isHelper_0 rfl rfl ?_
  refine r_if_lt O 18 dX8_isHelper_1 (by decide) (fun c_1 => ?_) (fun c_1 => ?_)
  · have e_1 : (x1).toInt < (0 : Int) := j_ltR c_1 rfl
    refine r_iconst (x := 0) O dX8_isHelper_18 rfl ?_
    exact r_iret O dX8_isHelper_19 rfl (Nat.le_of_ble_eq_true rfl) (Nat.le_of_ble_eq_true rfl) rfl
  · have e_1 : (0 : Int) ≤ (x1).toInt := j_nltR c_1 rfl
    refine r_iload_n O 1 dX8_isHelper_4 rfl rfl ?_
    refine r_aload_n O 0 dX8_isHelper_5 rfl rfl ?_
    refine r_get O FX8_7 G_124_0 dX8_isHelper_6 ?_
    refine r_iconst (x := 2) O dX8_isHelper_9 rfl ?_
    refine r_iald O R_125 (g_vin (by decide) (by decide)) dX8_isHelper_10 ?_
    refine r_icmp_ge O 18 dX8_isHelper_11 (by decide) (fun c_11 => ?_) (fun c_11 => ?_)
    · have e_11 : (s (2)).toInt ≤ (x1).toInt := j_le c_11
      refine r_iconst (x := 0) O dX8_isHelper_18 rfl ?_
      exact r_iret O dX8_isHelper_19 rfl (Nat.le_of_ble_eq_true rfl) (Nat.le_of_ble_eq_true rfl) rfl
    · have e_11 : (x1).toInt < (s (2)).toInt := j_nle c_11
      refine r_iconst (x := 1) O dX8_isHelper_14 rfl ?_
      refine r_goto O 19 dX8_isHelper_15 (by decide) ?_
      exact r_iret O dX8_isHelper_19 rfl (Nat.le_of_ble_eq_true rfl) (Nat.le_of_ble_eq_true rfl) rfl
theorem met_X8_isHelper (l : Launch) (hs : l.stackTraces = false) (lm : Nat → Int64) (pm : Nat → Nat) (m : Nat → Int32) (s : Nat → Int32) (x1 : Int32)  : g_SM l yX8_isHelper cX8_isHelper 2 (some .boolean) ({ frames := 0, cells := 0, slots := 0, locals := 0 } : Room) (fun ad => [.ref (ad 124), .int x1]) m (s, lm, pm) ((fun r : Int32 => ((.inl (some (.int r)), (m, s, lm, pm)) : g_Res)) (R_X8_isHelper s x1)) :=
  g_sm_of (by decide) (fun _ => Nat.le_of_ble_eq_true rfl) hs (fun X hl hn O => walk_X8_isHelper O (by rw [hl]; exact hs) hn )
theorem nz_X8_isHelper {s : Nat → Int32} {x1 : Int32} (h : ¬ R_X8_isHelper s x1 = 0) : 0 ≤ x1.toInt ∧ x1.toInt < (s 2).toInt := by
  unfold R_X8_isHelper at h
  by_cases a : x1 < 0
  · simp [a] at h
  · by_cases b : s 2 ≤ x1
    · simp [a, b] at h
    · exact ⟨j_nlt a, j_nle b⟩
def R_X8_of (s : Nat → Int32) (x1 : Int32) (x2 : Int32) : Int32 := (s (((58 + (9 * x1)) + x2).toNatClampNeg))
set_option maxRecDepth 100000 in
set_option maxHeartbeats 4000000 in
theorem walk_X8_of {X : g_X} (O : g_ok X cX8_of RX8 (some .int) ({ frames := 0, cells := 0, slots := 0, locals := 0 } : Room)) (hs : (g_xl X).stackTraces = false) (hn : g_xn X = 3) {m : Nat → Int32} {lm : Nat → Int64} {pm : Nat → Nat} {s : Nat → Int32} {x1 : Int32} {x2 : Int32} (p0 : 0 ≤ x1.toInt) (p1 : x1.toInt < 6) (p2 : 0 ≤ x2.toInt) (p3 : x2.toInt < 9) : g_V X (fun r : Int32 => ((.inl (some (.int r)), (m, s, lm, pm)) : g_Res)) (R_X8_of s x1 x2) 0 0 m (s, lm, pm) 0 [(0, .ref (g_ad X 124)), (1, .int x1), (2, .int x2)] [] := by
  have hN : ∀ i, Nat.blt i 3 = true → i < g_xn X := fun i h => by rw [hn]; exact g_blt.mp h
  refine r_aload_n O 0 dX8_of_0 rfl rfl ?_
  refine r_get O FX8_7 G_124_0 dX8_of_1 ?_
  refine r_bipush (x := 58) O dX8_of_4 rfl ?_
  refine r_bipush (x := 9) O dX8_of_6 rfl ?_
  refine r_iload_n O 1 dX8_of_8 rfl rfl ?_
  refine r_imul O dX8_of_9 ?_
  refine r_iadd O dX8_of_10 ?_
  refine r_iload_n O 2 dX8_of_11 rfl rfl ?_
  refine r_iadd O dX8_of_12 ?_
  have ix_13 : ((58 + (9 * x1)) + x2).toInt = (((58 : Int) + ((9 : Int) * x1.toInt)) + x2.toInt) := (j_addE (j_addE rfl (j_mulE rfl rfl (by with_reducible omega) (by with_reducible omega)) (by with_reducible omega) (by with_reducible omega)) rfl (by with_reducible omega) (by with_reducible omega))
  have iy_13 := j_nat (x := ((58 + (9 * x1)) + x2)) (by with_reducible omega)
  refine r_iald O R_125 (show vp_in ((58 + (9 * x1)) + x2) 178 from g_vin (by with_reducible omega) (by with_reducible omega)) dX8_of_13 ?_
  exact r_iret O dX8_of_14 rfl (Nat.le_of_ble_eq_true rfl) (Nat.le_of_ble_eq_true rfl) rfl
theorem met_X8_of (l : Launch) (hs : l.stackTraces = false) (lm : Nat → Int64) (pm : Nat → Nat) (m : Nat → Int32) (s : Nat → Int32) (x1 : Int32) (x2 : Int32) (p0 : 0 ≤ x1.toInt) (p1 : x1.toInt < 6) (p2 : 0 ≤ x2.toInt) (p3 : x2.toInt < 9) : g_SM l yX8_of cX8_of 3 (some .int) ({ frames := 0, cells := 0, slots := 0, locals := 0 } : Room) (fun ad => [.ref (ad 124), .int x1, .int x2]) m (s, lm, pm) ((fun r : Int32 => ((.inl (some (.int r)), (m, s, lm, pm)) : g_Res)) (R_X8_of s x1 x2)) :=
  g_sm_of (by decide) (fun _ => Nat.le_of_ble_eq_true rfl) hs (fun X hl hn O => walk_X8_of O (by rw [hl]; exact hs) hn p0 p1 p2 p3)
theorem of_ix {x1 : Int32} {w : Nat} (p0 : 0 ≤ x1.toInt) (p1 : x1.toInt < 6) (hw : w < 9) : ((58 + (9 * x1)) + nI w).toNatClampNeg = 58 + 9 * x1.toNatClampNeg + w := by
  have h1 : (nI w).toInt = (w : Int) := nI_toInt (by omega)
  have h2 : ((58 + (9 * x1)) + nI w).toInt = (((58 : Int) + ((9 : Int) * x1.toInt)) + (w : Int)) := j_addE (j_addE rfl (j_mulE rfl rfl (by omega) (by omega)) (by omega) (by omega)) h1 (by omega) (by omega)
  have h3 := j_nat p0
  have h4 := j_nat (x := (58 + (9 * x1)) + nI w) (by omega)
  omega
theorem metn_X8_of (l : Launch) (hs : l.stackTraces = false) (lm : Nat → Int64) (pm : Nat → Nat) (m : Nat → Int32) (s : Nat → Int32) (x1 : Int32) (w : Nat) (p0 : 0 ≤ x1.toInt) (p1 : x1.toInt < 6) (hw : w < 9) : g_SM l yX8_of cX8_of 3 (some .int) ({ frames := 0, cells := 0, slots := 0, locals := 0 } : Room) (fun ad => [.ref (ad 124), .int x1, .int (nI w)]) m (s, lm, pm) (.inl (some (.int (s (58 + 9 * x1.toNatClampNeg + w)))), (m, s, lm, pm)) := by
  have h1 : (nI w).toInt = (w : Int) := nI_toInt (by omega)
  have h := met_X8_of l hs lm pm m s x1 (nI w) p0 p1 (by omega) (by omega)
  unfold R_X8_of at h
  rw [of_ix p0 p1 hw] at h
  exact h
def R_X8_lays (s : Nat → Int32) (x1 : Int32) (x2 : Int32) (x3 : Int32) : (Nat → Int32) := (upd s (((58 + (9 * x1)) + x2).toNatClampNeg) x3)
set_option maxRecDepth 100000 in
set_option maxHeartbeats 4000000 in
theorem walk_X8_lays {X : g_X} (O : g_ok X cX8_lays RX8 none ({ frames := 0, cells := 0, slots := 0, locals := 0 } : Room)) (hs : (g_xl X).stackTraces = false) (hn : g_xn X = 4) {m : Nat → Int32} {lm : Nat → Int64} {pm : Nat → Nat} {s : Nat → Int32} {x1 : Int32} {x2 : Int32} {x3 : Int32} (p0 : 0 ≤ x1.toInt) (p1 : x1.toInt < 6) (p2 : 0 ≤ x2.toInt) (p3 : x2.toInt < 9) : g_V X (fun r : Nat → Int32 => ((.inl none, (m, r, lm, pm)) : g_Res)) (R_X8_lays s x1 x2 x3) 0 0 m (s, lm, pm) 0 [(0, .ref (g_ad X 124)), (1, .int x1), (2, .int x2), (3, .int x3)] [] := by
  have hN : ∀ i, Nat.blt i 4 = true → i < g_xn X := fun i h => by rw [hn]; exact g_blt.mp h
  refine r_aload_n O 0 dX8_lays_0 rfl rfl ?_
  refine r_get O FX8_7 G_124_0 dX8_lays_1 ?_
  refine r_bipush (x := 58) O dX8_lays_4 rfl ?_
  refine r_bipush (x := 9) O dX8_lays_6 rfl ?_
  refine r_iload_n O 1 dX8_lays_8 rfl rfl ?_
  refine r_imul O dX8_lays_9 ?_
  refine r_iadd O dX8_lays_10 ?_
  refine r_iload_n O 2 dX8_lays_11 rfl rfl ?_
  refine r_iadd O dX8_lays_12 ?_
  refine r_iload_n O 3 dX8_lays_13 rfl rfl ?_
  have ix_14 : ((58 + (9 * x1)) + x2).toInt = (((58 : Int) + ((9 : Int) * x1.toInt)) + x2.toInt) := (j_addE (j_addE rfl (j_mulE rfl rfl (by with_reducible omega) (by with_reducible omega)) (by with_reducible omega) (by with_reducible omega)) rfl (by with_reducible omega) (by with_reducible omega))
  have iy_14 := j_nat (x := ((58 + (9 * x1)) + x2)) (by with_reducible omega)
  refine r_iastM O T_125 (show vp_in ((58 + (9 * x1)) + x2) 178 from g_vin (by with_reducible omega) (by with_reducible omega)) dX8_lays_14 ?_
  exact r_vret O dX8_lays_15 (Nat.le_of_ble_eq_true rfl) (Nat.le_of_ble_eq_true rfl) rfl
theorem met_X8_lays (l : Launch) (hs : l.stackTraces = false) (lm : Nat → Int64) (pm : Nat → Nat) (m : Nat → Int32) (s : Nat → Int32) (x1 : Int32) (x2 : Int32) (x3 : Int32) (p0 : 0 ≤ x1.toInt) (p1 : x1.toInt < 6) (p2 : 0 ≤ x2.toInt) (p3 : x2.toInt < 9) : g_SM l yX8_lays cX8_lays 4 none ({ frames := 0, cells := 0, slots := 0, locals := 0 } : Room) (fun ad => [.ref (ad 124), .int x1, .int x2, .int x3]) m (s, lm, pm) ((fun r : Nat → Int32 => ((.inl none, (m, r, lm, pm)) : g_Res)) (R_X8_lays s x1 x2 x3)) :=
  g_sm_of (by decide) (fun _ => Nat.le_of_ble_eq_true rfl) hs (fun X hl hn O => walk_X8_lays O (by rw [hl]; exact hs) hn p0 p1 p2 p3)
theorem metn_X8_lays (l : Launch) (hs : l.stackTraces = false) (lm : Nat → Int64) (pm : Nat → Nat) (m : Nat → Int32) (s : Nat → Int32) (x1 : Int32) (w : Nat) (x3 : Int32) (p0 : 0 ≤ x1.toInt) (p1 : x1.toInt < 6) (hw : w < 9) : g_SM l yX8_lays cX8_lays 4 none ({ frames := 0, cells := 0, slots := 0, locals := 0 } : Room) (fun ad => [.ref (ad 124), .int x1, .int (nI w), .int x3]) m (s, lm, pm) (.inl none, (m, upd s (58 + 9 * x1.toNatClampNeg + w) x3, lm, pm)) := by
  have h1 : (nI w).toInt = (w : Int) := nI_toInt (by omega)
  have h := met_X8_lays l hs lm pm m s x1 (nI w) x3 p0 p1 (by omega) (by omega)
  unfold R_X8_lays at h
  rw [of_ix p0 p1 hw] at h
  exact h
