/-! ===== orders: the class's answer and the model's ===== -/
def g_Ref (hs : List String) (r : g_P7) (r8 : Int32 × (Nat → Int32)) : Prop :=
  g_Rel r.2.1 r8.2 r.2.2 ∧ ((∃ v : Int32, r.1 = .inl (some (.int v)) ∧ r8.2 1302 = 0 ∧ v = r8.1) ∨ ∃ E, E ∈ hs ∧ r.1 = .inr E ∧ r8.2 1302 = g_k hs E 1)
section QC
variable {m s : Nat → Int32} {pm : Nat → Nat}
theorem g_Rel.sE (R : g_Rel m s pm) : g_E (R_X7_save m pm).1 (R_X8_hold s) := R.E.congr (fun n hn => fr_save R.I (Or.inl hn)) (fun n hn => hold_ne (Or.inl (by omega)))
theorem g_Rel.hE (R : g_Rel m s pm) : g_E m (R_X8_hold s) := R.E.congr (fun n hn => rfl) (fun n hn => hold_ne (Or.inl (by omega)))
theorem g_Rel.hJ (R : g_Rel m s pm) : g_J (R_X8_hold s) := J_hold R.J
theorem g_Rel.sB (R : g_Rel m s pm) : g_B7 (R_X7_save m pm).1 := by
  have hj := R.J.n
  have b := R.Bo 0 (by omega)
  refine ⟨⟨?_, fun k hk => ?_⟩, ?_, ?_⟩
  · rw [fr_save R.I (Or.inl (by omega))]; exact b.1
  · rw [fr_save R.I (Or.inl (by omega))]
    have := b.2 k hk
    rwa [show 178 * 0 + (58 + 9 * k + 8) = 58 + 9 * k + 8 by omega] at this
  · rw [fr_save R.I (Or.inl (by omega)), R.E.lo (by omega)]; omega
  · rw [fr_save R.I (Or.inl (by omega)), R.E.lo (by omega)]; omega
/-- an order refused -/
theorem fail_ref {hs : List String} (R : g_Rel m s pm) {t : Nat → Int32} {E : String} {k : Int32} (ht : ∀ n, n < 178 ∨ (400 ≤ n ∧ n < 1302) → t n = s n) (hE : E ∈ hs) (hk : g_k hs E 1 = k) : g_Ref hs ((.inr E : Option Value ⊕ String), m, pm) (R_X8_fails t k) := by
  unfold R_X8_fails
  refine ⟨R.over (fun n hn => ?_), Or.inr ⟨E, hE, rfl, ?_⟩⟩
  · show upd t 1302 k n = s n
    rw [g_upd_ne (by omega)]
    exact ht n hn
  · show upd t 1302 k 1302 = g_k hs E 1
    rw [g_upd_eq, hk]
theorem fail_h {hs : List String} (R : g_Rel m s pm) {E : String} {k : Int32} (hE : E ∈ hs) (hk : g_k hs E 1 = k) (h1 : ¬ k ≤ 0) : g_Ref hs ((.inr E : Option Value ⊕ String), m, pm) (R_X8_done (R_X8_hold s) k) := by
  unfold R_X8_done
  rw [if_neg h1]
  exact fail_ref R (fun n hn => hold_ne (by omega)) hE hk
theorem fail_s {hs : List String} (R : g_Rel m s pm) {E : String} {k : Int32} (hE : E ∈ hs) (hk : g_k hs E 1 = k) : g_Ref hs ((.inr E : Option Value ⊕ String), m, pm) (R_X8_fails s k) :=
  fail_ref R (fun _ _ => rfl) hE hk
theorem ends_ref {hs : List String} (R : g_Rel m s pm) {m' s' : Nat → Int32} {a b : Int32} (E : g_E m' s') (B : g_B7 m') (u : g_U (R_X7_save m pm).1 m') (v : g_Up (R_X8_hold s) s') (e : b = a) : g_Ref hs ((.inl (some (.int b)) : Option Value ⊕ String), m', (R_X7_save m pm).2) (R_X8_ends s' a) := by
  obtain ⟨h1, h2, h3⟩ := save_ends (a := a) R E B.1 u v
  exact ⟨h1, Or.inl ⟨b, rfl, h3, by rw [h2]; exact e⟩⟩
theorem deed_ref (hs : List String) {F : (Nat → Int32) → Int32 × (Nat → Int32)} {can : (Nat → Int32) → Int32} {go : Int32 × (Nat → Int32)} {bad : Prop} (R : g_Rel m s pm)
    (H : ∀ m', g_E m' (R_X8_hold s) → g_Dd m' (R_X8_hold s) bad (can m') (F m') go) (hB : g_B7 (F (R_X7_save m pm).1).2) (hU : g_Up (R_X8_hold s) go.2) :
    (bad ∧ go = (1, R_X8_hold s)) ∨ (¬ bad ∧ can m = 0 ∧ go = (2, R_X8_hold s)) ∨ (¬ bad ∧ can m ≠ 0 ∧ g_Ref hs ((.inl (some (.int (F (R_X7_save m pm).1).1)) : Option Value ⊕ String), (F (R_X7_save m pm).1).2, (R_X7_save m pm).2) (R_X8_done go.2 go.1)) := by
  rcases H m R.hE with ⟨b, e⟩ | ⟨b, c, e⟩ | ⟨b, c, e, -⟩
  · exact Or.inl ⟨b, e⟩
  · exact Or.inr (Or.inl ⟨b, c, e⟩)
  · refine Or.inr (Or.inr ⟨b, c, ?_⟩)
    rcases H _ R.sE with ⟨_, e'⟩ | ⟨_, _, e'⟩ | ⟨_, _, _, e1, e2, e3⟩
    · rw [e'] at e; exact absurd (show (1 : Int32) = 0 from e) (by decide)
    · rw [e'] at e; exact absurd (show (2 : Int32) = 0 from e) (by decide)
    · unfold R_X8_done
      rw [e, if_pos (by decide)]
      exact ends_ref R e1 hB e3 hU e2
theorem bad_h (R : g_Rel m s pm) (x : Int32) : (x < 0 ∨ m 2 ≤ x) ↔ R_X8_isHelper (R_X8_hold s) x = 0 := by
  unfold R_X8_isHelper
  rw [hold_ne (by omega), R.E.lo (by omega)]
  by_cases a : x < 0
  · exact ⟨fun _ => if_pos a, fun _ => Or.inl a⟩
  · by_cases b : s 2 ≤ x
    · exact ⟨fun _ => by rw [if_pos b, ite_self], fun _ => Or.inr b⟩
    · rw [if_neg a, if_neg b]
      exact ⟨fun z => z.elim (fun z => absurd z a) (fun z => absurd z b), fun z => absurd z (by decide)⟩
theorem bad_h' (R : g_Rel m s pm) (x : Int32) : (x < 0 ∨ m 2 ≤ x) ↔ R_X8_isHelper s x = 0 := by
  have := bad_h R x
  unfold R_X8_isHelper at this ⊢
  rwa [hold_ne (by omega)] at this
theorem bad_r (R : g_Rel m s pm) (x : Int32) : (x < 0 ∨ m 1 ≤ x) ↔ R_X8_isRope s x = 0 := by
  unfold R_X8_isRope
  rw [R.E.lo (by omega)]
  by_cases a : x < 0
  · exact ⟨fun _ => if_pos a, fun _ => Or.inl a⟩
  · by_cases b : s 1 ≤ x
    · exact ⟨fun _ => by rw [if_pos b, ite_self], fun _ => Or.inr b⟩
    · rw [if_neg a, if_neg b]
      exact ⟨fun z => z.elim (fun z => absurd z a) (fun z => absurd z b), fun z => absurd z (by decide)⟩
theorem bad_p (R : g_Rel m s pm) (x : Int32) : (x < 0 ∨ m 0 ≤ x) ↔ R_X8_isPassage s x = 0 := by
  unfold R_X8_isPassage
  rw [R.E.lo (by omega)]
  by_cases a : x < 0
  · exact ⟨fun _ => if_pos a, fun _ => Or.inl a⟩
  · by_cases b : s 0 ≤ x
    · exact ⟨fun _ => by rw [if_pos b, ite_self], fun _ => Or.inr b⟩
    · rw [if_neg a, if_neg b]
      exact ⟨fun z => z.elim (fun z => absurd z a) (fun z => absurd z b), fun z => absurd z (by decide)⟩
theorem bad_in (s : Nat → Int32) (x a b : Int32) : (x < a ∨ b < x) ↔ R_X8_in s x a b = 0 := by
  unfold R_X8_in
  by_cases h : x < a
  · exact ⟨fun _ => if_pos h, fun _ => Or.inl h⟩
  · by_cases h2 : b < x
    · exact ⟨fun _ => by rw [if_pos h2, ite_self], fun _ => Or.inr h2⟩
    · rw [if_neg h, if_neg h2]
      exact ⟨fun z => z.elim (fun z => absurd z h) (fun z => absurd z h2), fun z => absurd z (by decide)⟩
theorem Ref_go (R : g_Rel m s pm) (x y : Int32) : g_Ref ["java/lang/IndexOutOfBoundsException", "java/lang/IllegalStateException"] (R_X7_go m pm x y) (R_X8_go s x y) := by
  show g_Ref _ _ (R_X8_done (R_X8_goes (R_X8_hold s) x y).2 (R_X8_goes (R_X8_hold s) x y).1)
  unfold R_X7_go
  rcases deed_ref ["java/lang/IndexOutOfBoundsException", "java/lang/IllegalStateException"] (F := fun m => R_X0_startWalk m x y) (can := fun m => R_X0_canWalk m x y) R (fun m' E => E_goes E x y) (B_startWalk R.sB) (U_goes R.hJ) with ⟨b, e⟩ | ⟨b, c, e⟩ | ⟨b, c, r⟩
  · rw [e, if_pos ((bad_h R x).mpr b)]
    dsimp only
    exact fail_h R (by decide +kernel) (by decide +kernel) (by decide)
  · rw [e, if_neg (mt (bad_h R x).mp b), if_pos c]
    dsimp only
    exact fail_h R (by decide +kernel) (by decide +kernel) (by decide)
  · rw [if_neg (mt (bad_h R x).mp b), if_neg c]
    exact r
theorem Ref_rig (R : g_Rel m s pm) (x : Int32) : g_Ref ["java/lang/IndexOutOfBoundsException", "java/lang/IllegalStateException"] (R_X7_rig m pm x) (R_X8_rig s x) := by
  show g_Ref _ _ (R_X8_done (R_X8_rigsAt (R_X8_hold s) x).2 (R_X8_rigsAt (R_X8_hold s) x).1)
  unfold R_X7_rig
  rcases deed_ref ["java/lang/IndexOutOfBoundsException", "java/lang/IllegalStateException"] (F := fun m => R_X0_startRig m x) (can := fun m => R_X0_canRig m x) R (fun m' E => E_rigsAt E x) (B_startRig R.sB) (U_rigsAt R.hJ) with ⟨b, e⟩ | ⟨b, c, e⟩ | ⟨b, c, r⟩
  · rw [e, if_pos ((bad_h R x).mpr b)]
    dsimp only
    exact fail_h R (by decide +kernel) (by decide +kernel) (by decide)
  · rw [e, if_neg (mt (bad_h R x).mp b), if_pos c]
    dsimp only
    exact fail_h R (by decide +kernel) (by decide +kernel) (by decide)
  · rw [if_neg (mt (bad_h R x).mp b), if_neg c]
    exact r
theorem Ref_send (R : g_Rel m s pm) (x : Int32) : g_Ref ["java/lang/IndexOutOfBoundsException", "java/lang/IllegalStateException"] (R_X7_send m pm x) (R_X8_send s x) := by
  show g_Ref _ _ (R_X8_done (R_X8_sends (R_X8_hold s) x).2 (R_X8_sends (R_X8_hold s) x).1)
  unfold R_X7_send
  rcases deed_ref ["java/lang/IndexOutOfBoundsException", "java/lang/IllegalStateException"] (F := fun m => (R_X0_sendFrom m x 6, R_X0_sendFrom m x)) (can := fun m => R_X0_canSend m x) R (fun m' E => E_sends E x) (B_sendFrom R.sB) (U_sends R.hJ) with ⟨b, e⟩ | ⟨b, c, e⟩ | ⟨b, c, r⟩
  · rw [e, if_pos ((bad_h R x).mpr b)]
    dsimp only
    exact fail_h R (by decide +kernel) (by decide +kernel) (by decide)
  · rw [e, if_neg (mt (bad_h R x).mp b), if_pos c]
    dsimp only
    exact fail_h R (by decide +kernel) (by decide +kernel) (by decide)
  · rw [if_neg (mt (bad_h R x).mp b), if_neg c]
    exact r
theorem Ref_pass (R : g_Rel m s pm) (x : Int32) : g_Ref ["java/lang/IllegalArgumentException", "java/lang/IllegalStateException"] (R_X7_pass m pm x) (R_X8_pass s x) := by
  show g_Ref _ _ (R_X8_done (R_X8_passes (R_X8_hold s) x).2 (R_X8_passes (R_X8_hold s) x).1)
  unfold R_X7_pass
  rcases deed_ref ["java/lang/IllegalArgumentException", "java/lang/IllegalStateException"] (F := fun m => R_X0_letPass m x) (can := fun m => R_X0_canPass m x) R (fun m' E => E_passes E x) (B_letPass R.sB) (U_passes R.hJ).1 with ⟨b, e⟩ | ⟨b, c, e⟩ | ⟨b, c, r⟩
  · rw [e, if_pos ((bad_in _ x 1 600).mpr b)]
    dsimp only
    exact fail_h R (by decide +kernel) (by decide +kernel) (by decide)
  · rw [e, if_neg (mt (bad_in _ x 1 600).mp b), if_pos c]
    dsimp only
    exact fail_h R (by decide +kernel) (by decide +kernel) (by decide)
  · rw [if_neg (mt (bad_in _ x 1 600).mp b), if_neg c]
    exact r
theorem Ref_take (R : g_Rel m s pm) (x y : Int32) : g_Ref ["java/lang/IndexOutOfBoundsException", "java/lang/IllegalStateException"] (R_X7_take m pm x y) (R_X8_take s x y) := by
  show g_Ref _ _ (R_X8_done (R_X8_takes (R_X8_hold s) x y).2 (R_X8_takes (R_X8_hold s) x y).1)
  have br : (y < 0 ∨ m 1 ≤ y) ↔ R_X8_isRope (R_X8_hold s) y = 0 := by
    have := bad_r R y
    unfold R_X8_isRope at this ⊢
    rwa [hold_ne (by omega)]
  unfold R_X7_take
  rcases deed_ref ["java/lang/IndexOutOfBoundsException", "java/lang/IllegalStateException"] (F := fun m => (R_X5_lengthOf (R_X0_takeRope m x y) y, R_X0_takeRope m x y)) (can := fun m => R_X0_canTake m x y) R (fun m' E => E_takes E x y) (B_take R.sB) (U_takes R.hJ) with ⟨b, e⟩ | ⟨b, c, e⟩ | ⟨b, c, r⟩
  · rw [e]
    by_cases a : R_X8_isHelper (R_X8_hold s) x = 0
    · rw [if_pos ((bad_h R x).mpr a)]
      dsimp only
      exact fail_h R (by decide +kernel) (by decide +kernel) (by decide)
    · rw [if_neg (mt (bad_h R x).mp a), if_pos (br.mpr (b.resolve_left a))]
      dsimp only
      exact fail_h R (by decide +kernel) (by decide +kernel) (by decide)
  · rw [e, if_neg (mt (bad_h R x).mp (fun z => b (Or.inl z))), if_neg (mt br.mp (fun z => b (Or.inr z))), if_pos c]
    dsimp only
    exact fail_h R (by decide +kernel) (by decide +kernel) (by decide)
  · rw [if_neg (mt (bad_h R x).mp (fun z => b (Or.inl z))), if_neg (mt br.mp (fun z => b (Or.inr z))), if_neg c]
    exact r
theorem Ref_carry (R : g_Rel m s pm) (x : Int32) : g_Ref ["java/lang/IllegalArgumentException", "java/lang/IllegalStateException"] (R_X7_carry m pm x) (R_X8_carry s x) := by
  show g_Ref _ _ (R_X8_done (R_X8_carries (R_X8_hold s) x).2 (R_X8_carries (R_X8_hold s) x).1)
  unfold R_X7_carry
  rcases deed_ref ["java/lang/IllegalArgumentException", "java/lang/IllegalStateException"] (F := fun m => R_X0_startCarry m x) (can := fun m => R_X0_canCarry m x) (bad := R_X0_isTeam m x = 0) R (fun m' E => by
      have := E_carries E x
      have e : R_X0_isTeam m' x = R_X0_isTeam m x := by
        unfold R_X0_isTeam
        rw [E.lo (n := 2) (by omega), R.hE.lo (n := 2) (by omega)]
        rfl
      rwa [e] at this) (B_startCarry R.sB) (U_carries R.hJ) with ⟨b, e⟩ | ⟨b, c, e⟩ | ⟨b, c, r⟩
  · rw [e, if_pos b]
    dsimp only
    exact fail_h R (by decide +kernel) (by decide +kernel) (by decide)
  · rw [e, if_neg b, if_pos c]
    dsimp only
    exact fail_h R (by decide +kernel) (by decide +kernel) (by decide)
  · rw [if_neg b, if_neg c]
    exact r
end QC
