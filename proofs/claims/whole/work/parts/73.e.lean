/-! ===== the text: carrying it out ===== -/
section SE
variable {m s t u w : Nat → Int32} {L : Nat} {pm : Nat → Nat}
def g_Ob (t w : Nat → Int32) (can : Int32) (d : Nat → Int32) (r : Int32 × (Nat → Int32)) : Prop :=
  (can = 0 ∧ ¬ r.1 = 0 ∧ r.2 = w) ∨ (¬ can = 0 ∧ r.1 = 0 ∧ g_E d r.2 ∧ g_U t d)
theorem dd_ob {bad : Prop} {can : Int32} {d r : Int32 × (Nat → Int32)} (H : g_Dd t w bad can d r) (hb : bad → can = 0) : g_Ob t w can d.2 r := by
  rcases H with ⟨b, e⟩ | ⟨b, c, e⟩ | ⟨b, c, e1, e2, e3, e4⟩
  · rw [e]
    refine Or.inl ⟨hb b, ?_, rfl⟩
    show ¬ (1 : Int32) = 0
    decide
  · rw [e]
    refine Or.inl ⟨c, ?_, rfl⟩
    show ¬ (2 : Int32) = 0
    decide
  · exact Or.inr ⟨c, e1, e2, e4⟩
theorem nostand (E : g_E t w) {x : Int32} (h : R_X8_isHelper w x = 0) : R_X0_isStanding t x = 0 := by rw [E_stand E, if_pos h]
theorem take_0 (E : g_E t w) {x r : Int32} (b : R_X8_isHelper w x = 0 ∨ R_X8_isRope w r = 0) : R_X0_canTake t x r = 0 := by
  unfold R_X0_canTake
  rcases b with b | b
  · rw [if_pos (nostand E b)]
  · have z : ∀ y, R_X5_liesAt t r y = 0 := fun y => by
      unfold R_X5_liesAt
      rw [E_has5 E, if_pos b]
    rw [z, if_pos rfl, ite_self, ite_self]
theorem ob_eta {can : Int32} {d : Nat → Int32} {r : Int32 × (Nat → Int32)} (h : g_Ob t w can d r) : g_Ob t w can d (r.1, r.2) := h
theorem carries_ob (E : g_E t w) (x : Int32) : g_Ob t w (if R_X0_isTeam t x = 0 then 0 else if R_X0_canCarry t x = 0 then 0 else 1) (R_X0_startCarry t x).2 (R_X8_carries w x) := by
  have H := E_carries E x
  generalize R_X8_carries w x = r at H ⊢
  generalize R_X0_startCarry t x = d at H ⊢
  rcases H with ⟨b, e⟩ | ⟨b, c, e⟩ | ⟨b, c, e1, e2, e3, e4⟩
  · rw [e, if_pos b]
    refine Or.inl ⟨rfl, ?_, rfl⟩
    show ¬ (1 : Int32) = 0
    decide
  · rw [e, if_neg b, if_pos c]
    refine Or.inl ⟨rfl, ?_, rfl⟩
    show ¬ (2 : Int32) = 0
    decide
  · rw [if_neg b, if_neg c]
    exact Or.inr ⟨by decide, e1, e2, e4⟩
theorem num_1 {x : Int32} (h0 : 0 ≤ x.toInt) (hx : x.toInt < 1000) (h : 0 ≤ (R_X6_behindNumber t x).toInt) : 1 ≤ (R_X6_numberAt t x).toInt := by
  have w := wrong_neg (m := t) h0
  have d0 := d0_X6_digitsOfNumber (m := t) (x := x)
  unfold R_X6_behindNumber R_X6_behindNumber_21 R_X6_behindNumber_47 at h
  rw [num_of] at h
  by_cases a : R_X6_digitsOfNumber t x = 0
  · rw [if_pos a, a, Int32.add_zero] at h; omega
  · rw [if_neg a] at h
    by_cases b : R_X6_digitAt t (x + R_X6_digitsOfNumber t x) = -1
    · rw [if_pos b] at h
      by_cases c : R_X6_numberAt t x < 1
      · rw [if_pos c] at h; omega
      · have := j_nlt c
        rw [j_1] at this
        exact this
    · rw [if_neg b] at h
      have d3 := b_X6_digitsOfNumber (m := t) (x := x)
      have e := j_add (x := x) (y := R_X6_digitsOfNumber t x) (by omega) (by omega)
      have w2 := wrong_neg (m := t) (x := x + R_X6_digitsOfNumber t x) (by omega)
      omega
theorem obey_does (E : g_E t w) {i : Nat} (A : g_Ag t i w) (hi : i < 90) (hb : 0 ≤ (R_X6_behindOrder t (nI i)).toInt) : g_Ob t w (R_X7_canObey t (nI i)) (R_X7_obey t (nI i)) (R_X8_does w) := by
  obtain ⟨a0, a1, a2, a3, a4⟩ := A
  have qi : (nI i).toInt = (i : Int) := nI_toInt (by omega)
  unfold R_X7_canObey R_X7_obey R_X8_does
  rw [← a0]
  by_cases c1 : w 1305 = 99
  · rw [if_pos c1, if_pos c1, if_pos c1, a1 c1]
    exact ob_eta (carries_ob E _)
  rw [if_neg c1, if_neg c1, if_neg c1]
  by_cases c2 : w 1305 = 103
  · obtain ⟨b1, b2⟩ := a2 (Or.inl c2)
    rw [if_pos c2, if_pos c2, if_pos c2, b1, b2]
    exact ob_eta (dd_ob (E_goes E _ _) (fun b => by unfold R_X0_canWalk; rw [if_pos (nostand E b)]))
  rw [if_neg c2, if_neg c2, if_neg c2]
  by_cases c3 : w 1305 = 109
  · rw [if_pos c3, if_pos c3, if_pos c3, a3 (Or.inl c3)]
    have H := dd_ob (E_sends E (R_X6_digitAt t (nI i + 1))) (fun b => by unfold R_X0_canSend; rw [if_pos (nostand E b)])
    exact ob_eta H
  rw [if_neg c3, if_neg c3, if_neg c3]
  by_cases c4 : w 1305 = 114
  · rw [if_pos c4, if_pos c4, if_pos c4, a3 (Or.inr c4)]
    exact ob_eta (dd_ob (E_rigsAt E _) (fun b => by unfold R_X0_canRig R_X0_canLay; rw [if_pos (nostand E b), if_pos rfl]))
  rw [if_neg c4, if_neg c4, if_neg c4]
  by_cases c5 : w 1305 = 116
  · obtain ⟨b1, b2⟩ := a2 (Or.inr c5)
    rw [if_pos c5, if_pos c5, if_pos c5, b1, b2]
    have H := dd_ob (E_takes E (R_X6_digitAt t (nI i + 1)) (R_X6_digitAt t (nI i + 2))) (fun b => by
      show R_X0_canTake t (R_X6_digitAt t (nI i + 1)) (R_X6_digitAt t (nI i + 2)) = 0
      exact take_0 E b)
    exact ob_eta H
  rw [if_neg c5, if_neg c5, if_neg c5]
  obtain ⟨p0, p1⟩ := ob_p (m := t) (x := nI i) (by omega) (by omega) hb (by rw [← a0]; exact c1) (by rw [← a0]; exact c2) (by rw [← a0]; exact c3) (by rw [← a0]; exact c4) (by rw [← a0]; exact c5)
  rw [a4 (by rw [a0]; exact p0)]
  have q1 : 1 ≤ (R_X6_numberAt t (nI i + 1)).toInt := by
    rw [bo_112 p0] at hb
    refine num_1 ?_ ?_ hb
    · rw [nI_p1 (by omega), nI_toInt (by omega)]; omega
    · rw [nI_p1 (by omega), nI_toInt (by omega)]; omega
  have H := dd_ob (E_passes E (R_X6_numberAt t (nI i + 1))) (fun b => absurd b (in_1 (by rw [j_1]; exact q1) p1))
  exact ob_eta H
theorem B_obey (B : g_B7 t) {x : Int32} : g_B7 (R_X7_obey t x) := by
  unfold R_X7_obey
  by_cases c1 : R_X6_byteAt t x = 99
  · rw [if_pos c1]; exact B_startCarry B
  rw [if_neg c1]
  by_cases c2 : R_X6_byteAt t x = 103
  · rw [if_pos c2]; exact B_startWalk B
  rw [if_neg c2]
  by_cases c3 : R_X6_byteAt t x = 109
  · rw [if_pos c3]; exact B_sendFrom B
  rw [if_neg c3]
  by_cases c4 : R_X6_byteAt t x = 114
  · rw [if_pos c4]; exact B_startRig B
  rw [if_neg c4]
  by_cases c5 : R_X6_byteAt t x = 116
  · rw [if_pos c5]; exact B_take B
  rw [if_neg c5]
  exact B_letPass B
end SE
