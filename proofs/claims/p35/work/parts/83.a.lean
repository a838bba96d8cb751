/-! ===== what the law does, beside the class: what is used throughout ===== -/
theorem hold_id {s : Nat → Int32} : R_X8_hold (R_X8_hold s) = R_X8_hold s := by
  funext n
  rw [hold_at n]
  by_cases h : 200 ≤ n ∧ n < 378
  · rw [if_pos h, hold_ne (by omega), hold_at n, if_pos h]
  · rw [if_neg h]
/-- what ropes do is told by a number that is not negative -/
def lR (s : Nat → Int32) : Prop := ∀ i, i < 8 → 0 ≤ (s (35 + 3 * i)).toInt
theorem lR.u1 {s : Nat → Int32} (h : lR s) {k : Nat} {v : Int32} (hk : k < 35 ∨ 58 ≤ k ∨ (k - 35) % 3 ≠ 0) : lR (upd s k v) := fun i hi => by
  rw [g_upd_ne (by omega)]
  exact h i hi
theorem lR.set {s : Nat → Int32} (h : lR s) {k : Nat} {v : Int32} (hv : 0 ≤ v.toInt) : lR (upd s k v) := fun i hi => by
  by_cases e : 35 + 3 * i = k
  · rw [e, g_upd_eq]; exact hv
  · rw [g_upd_ne e]; exact h i hi
theorem lR.congr {s t : Nat → Int32} (h : lR s) (e : ∀ n, n < 178 → t n = s n) : lR t := fun i hi => by
  rw [e _ (by omega)]
  exact h i hi
/-- the class beside the law's rows -/
def lA (m s : Nat → Int32) (pm : Nat → Nat) : Prop := g_Rel m s pm ∧ R_X8_hold s = s ∧ lR s
/-- what a deed of the law comes to: 1, and the class is again beside its rows -/
def lO (r : Int32 × (Nat → Int32) × (Nat → Int32) × (Nat → Nat)) (T : Int) : Prop := r.1 = 1 ∧ (∃ s2, lA r.2.1 s2 r.2.2.2 ∧ ∀ n, n < 178 → s2 n = r.2.2.1 n) ∧ (r.2.2.1 3).toInt ≤ T
section VC
variable {m s t : Nat → Int32} {pm : Nat → Nat}
theorem g_Rel.glue (R : g_Rel m s pm) (L : g_L t s) : g_Rel m (fun n => if n < 178 then t n else s n) pm := by
  have Lt : g_L (fun n => if n < 178 then t n else s n) s := fun n hn => by
    have := g_Lv.lt R.J hn
    dsimp only
    rw [if_pos this]
    exact L n hn
  have J' := J_live R.J Lt
  have N' := N_live R.J R.E.N Lt
  have hi : ∀ n, 178 ≤ n → (fun n => if n < 178 then t n else s n) n = s n := fun n hn => if_neg (by omega)
  have lo : ∀ n, n < 34 → (fun n => if n < 178 then t n else s n) n = s n := fun n hn => Lt n (Or.inl hn)
  generalize (fun n => if n < 178 then t n else s n) = u at Lt J' N' hi lo
  obtain ⟨E, ⟨c, c1, c2, c3, c4⟩, ⟨t1, t2, t3⟩, B, P, I, p4⟩ := R
  refine ⟨⟨fun n hn => ?_, J', N'⟩, ⟨c, c1, by rw [hi _ (by omega)]; exact c2, c3, fun i hi' => ?_⟩, ⟨by rw [hi _ (by omega)]; exact t1, by rw [hi _ (by omega)]; exact t2, fun k hk => ?_⟩, B, P, I, p4⟩
  · have hs : g_Lv s n := hn.congr (lo 1 (by omega)) (lo 2 (by omega)) (Lt 6 (Or.inl (by omega))) (Lt 12 (Or.inl (by omega)))
    rw [E.L n hs, Lt n hs]
  · have := c4 i hi'
    refine this.congr (fun _ _ => rfl) (fun n hn => ?_)
    rw [hi _ (by omega)]
  · rw [hi _ (by omega)] at hk
    rw [hi _ (by omega)]
    exact t3 k hk
theorem lA.of (R : g_Rel m s pm) (h : lR s) : lA m (R_X8_hold s) pm := ⟨R.over (fun n hn => hold_ne (by omega)), hold_id, h.congr fun n hn => hold_lo hn⟩
theorem lO_live {r7 : g_P7} {r8 : Int32 × (Nat → Int32)} {s1 : Nat → Int32} {T : Int} (R : g_Rel r7.2.1 r8.2 r7.2.2) (L : g_L s1 r8.2) (hT : (s1 3).toInt ≤ T) (hr : lR s1) : lO (1, r7.2.1, s1, r7.2.2) T := by
  refine ⟨rfl, ⟨_, lA.of (R.glue L) (hr.congr fun n hn => if_pos hn), fun n hn => ?_⟩, hT⟩
  rw [hold_lo hn]
  exact if_pos hn
theorem L_of (J : g_J s) (h : ∀ n, n < 178 → t n = s n) : g_L t s := fun n hn => h n (g_Lv.lt J hn)
theorem val_ok {hs : List String} {r7 : g_P7} {r8 : Int32 × (Nat → Int32)} (RF : g_Ref hs r7 r8) (h0 : r8.2 1302 = 0) (hne : ∀ E ∈ hs, g_k hs E 1 ≠ 0) : g_wv r7 = r8.1 := by
  rcases RF.2 with ⟨v, hv, -, e⟩ | ⟨E, hE, -, hk⟩
  · unfold g_wv
    rw [hv]
    exact e
  · exact absurd (hk.symm.trans h0) (hne E hE)
theorem val_bad {hs : List String} {r7 : g_P7} {r8 : Int32 × (Nat → Int32)} {k c : Int32} (RF : g_Ref hs r7 r8) (hk : r8.2 1302 = k) (k0 : k ≠ 0) (hc : ∀ E ∈ hs, g_k hs E 1 = k → g_wx E = c) : g_wv r7 = c := by
  rcases RF.2 with ⟨v, hv, h0, e⟩ | ⟨E, hE, hv, h1⟩
  · exact absurd (hk.symm.trans h0) k0
  · unfold g_wv
    rw [hv]
    exact hc E hE (h1.symm.trans hk)
theorem o_bad {hs : List String} {r7 : g_P7} {r8 : Int32 × (Nat → Int32)} {k c : Int32} {T : Int} (RF : g_Ref hs r7 r8) (hk : r8.2 1302 = k) (h : ∀ n, n < 178 → r8.2 n = s n) (k0 : k ≠ 0) (hc : ∀ E ∈ hs, g_k hs E 1 = k → g_wx E = c) (hT : (s 3).toInt ≤ T) (hr : lR s) : lO (if g_wv r7 = c then (1, r7.2.1, s, r7.2.2) else (0, r7.2.1, s, r7.2.2)) T := by
  rw [if_pos (val_bad RF hk k0 hc)]
  exact lO_live RF.1 (L_of RF.1.J fun n hn => (h n hn).symm) hT hr
theorem o_live {hs : List String} {r7 : g_P7} {r8 : Int32 × (Nat → Int32)} {s1 : Nat → Int32} {v : Int32} {T : Int} (RF : g_Ref hs r7 r8) (h0 : r8.2 1302 = 0) (hv : r8.1 = v) (L : g_L s1 r8.2) (hne : ∀ E ∈ hs, g_k hs E 1 ≠ 0) (hT : (s1 3).toInt ≤ T) (hr : lR s1) : lO (if g_wv r7 = v then (1, r7.2.1, s1, r7.2.2) else (0, r7.2.1, s1, r7.2.2)) T := by
  rw [if_pos ((val_ok RF h0 hne).trans hv)]
  exact lO_live RF.1 L hT hr
theorem o_ok {hs : List String} {r7 : g_P7} {r8 : Int32 × (Nat → Int32)} {s1 : Nat → Int32} {v : Int32} {T : Int} (RF : g_Ref hs r7 r8) (h : r8.1 = v ∧ r8.2 1302 = 0 ∧ ∀ n, n < 178 → r8.2 n = s1 n) (hne : ∀ E ∈ hs, g_k hs E 1 ≠ 0) (hT : (s1 3).toInt ≤ T) (hr : lR s1) : lO (if g_wv r7 = v then (1, r7.2.1, s1, r7.2.2) else (0, r7.2.1, s1, r7.2.2)) T :=
  o_live RF h.2.1 h.1 (L_of RF.1.J fun n hn => (h.2.2 n hn).symm) hne hT hr
/-- how a deed of the reference ends -/
theorem ends_all {a : Int32} (h : ∃ c, c ≤ 4 ∧ s 1300 = nI c) : (R_X8_ends s a).1 = a ∧ (R_X8_ends s a).2 1302 = 0 ∧ ∀ n, n < 178 → (R_X8_ends s a).2 n = s n := by
  obtain ⟨c, hc, e⟩ := h
  by_cases c4 : c = 4
  · subst c4
    obtain ⟨h1, h2⟩ := ends_4 (a := a) (show s 1300 = 4 from e)
    refine ⟨h1, ?_, fun n hn => ?_⟩
    · rw [h2, if_neg (by omega), if_neg (by omega), if_pos rfl]
    · rw [h2, if_neg (by omega), if_neg (by omega), if_neg (by omega)]
  · obtain ⟨h1, h2⟩ := ends_lt (a := a) (c := c) (by omega) e
    refine ⟨h1, ?_, fun n hn => ?_⟩
    · rw [h2, if_neg (by omega), if_pos rfl]
    · rw [h2, if_neg (by omega), if_neg (by omega), if_neg (by omega)]
theorem dn_ok {r8 : Int32 × (Nat → Int32)} {v : Int32} (h : ∃ c, c ≤ 4 ∧ s 1300 = nI c) (e : r8 = R_X8_done (upd s 1303 v) 0) : r8.1 = v ∧ r8.2 1302 = 0 ∧ ∀ n, n < 178 → r8.2 n = s n := by
  subst e
  unfold R_X8_done
  rw [if_pos (by decide), g_upd_eq]
  obtain ⟨h1, h2, h3⟩ := ends_all (s := upd s 1303 v) (a := v) (by rw [g_upd_ne (by omega)]; exact h)
  exact ⟨h1, h2, fun n hn => by rw [h3 n hn, g_upd_ne (by omega)]⟩
theorem dn_bad {r8 : Int32 × (Nat → Int32)} {k : Int32} (hk : ¬ k ≤ 0) (e : r8 = R_X8_done s k) : r8.2 1302 = k ∧ ∀ n, n < 178 → r8.2 n = s n := by
  subst e
  unfold R_X8_done R_X8_fails
  rw [if_neg hk]
  exact ⟨(show upd s 1302 k 1302 = k from g_upd_eq), fun n hn => (show upd s 1302 k n = s n from g_upd_ne (by omega))⟩
theorem fl_bad {r8 : Int32 × (Nat → Int32)} {k : Int32} (e : r8 = R_X8_fails s k) : r8.2 1302 = k ∧ ∀ n, n < 178 → r8.2 n = s n := by
  subst e
  exact ⟨(show upd s 1302 k 1302 = k from g_upd_eq), fun n hn => (show upd s 1302 k n = s n from g_upd_ne (by omega))⟩
theorem lA.c (A : lA m s pm) : ∃ c, c ≤ 4 ∧ s 1300 = nI c := by
  obtain ⟨c, c1, c2, -⟩ := A.1.2.1
  exact ⟨c, c1, c2⟩
theorem is_h {x : Int32} (h0 : 0 ≤ x.toInt) (h1 : x.toInt < (s 2).toInt) : R_X8_isHelper s x = 1 := by
  unfold R_X8_isHelper
  rw [if_neg (fun z => by have := j_ltR z j_0; omega), if_neg (fun z => by have := j_le z; omega)]
theorem is_r {x : Int32} (h0 : 0 ≤ x.toInt) (h1 : x.toInt < (s 1).toInt) : R_X8_isRope s x = 1 := by
  unfold R_X8_isRope
  rw [if_neg (fun z => by have := j_ltR z j_0; omega), if_neg (fun z => by have := j_le z; omega)]
theorem is_p {x : Int32} (h0 : 0 ≤ x.toInt) (h1 : x.toInt < (s 0).toInt) : R_X8_isPassage s x = 1 := by
  unfold R_X8_isPassage
  rw [if_neg (fun z => by have := j_ltR z j_0; omega), if_neg (fun z => by have := j_le z; omega)]
theorem i20 {α : Type} {a b : α} : (if (2 : Int32) = 0 then a else b) = b := if_neg (by decide)
theorem ioE : ∀ E ∈ ["java/lang/IndexOutOfBoundsException", "java/lang/IllegalStateException"], g_k ["java/lang/IndexOutOfBoundsException", "java/lang/IllegalStateException"] E 1 ≠ 0 := by decide +kernel
theorem ioE2 : ∀ E ∈ ["java/lang/IndexOutOfBoundsException", "java/lang/IllegalStateException"], g_k ["java/lang/IndexOutOfBoundsException", "java/lang/IllegalStateException"] E 1 = 2 → g_wx E = -2000003 := by decide +kernel
theorem ioE1 : ∀ E ∈ ["java/lang/IndexOutOfBoundsException", "java/lang/IllegalStateException"], g_k ["java/lang/IndexOutOfBoundsException", "java/lang/IllegalStateException"] E 1 = 1 → g_wx E = -2000001 := by decide +kernel
theorem iaE : ∀ E ∈ ["java/lang/IllegalArgumentException", "java/lang/IllegalStateException"], g_k ["java/lang/IllegalArgumentException", "java/lang/IllegalStateException"] E 1 ≠ 0 := by decide +kernel
theorem iaE1 : ∀ E ∈ ["java/lang/IllegalArgumentException", "java/lang/IllegalStateException"], g_k ["java/lang/IllegalArgumentException", "java/lang/IllegalStateException"] E 1 = 1 → g_wx E = -2000002 := by decide +kernel
theorem iaE2 : ∀ E ∈ ["java/lang/IllegalArgumentException", "java/lang/IllegalStateException"], g_k ["java/lang/IllegalArgumentException", "java/lang/IllegalStateException"] E 1 = 2 → g_wx E = -2000003 := by decide +kernel
theorem i1E : ∀ E ∈ ["java/lang/IllegalArgumentException"], g_k ["java/lang/IllegalArgumentException"] E 1 ≠ 0 := by decide +kernel
theorem i3E : ∀ E ∈ ["java/lang/IndexOutOfBoundsException", "java/lang/IllegalArgumentException", "java/lang/IllegalStateException"], g_k ["java/lang/IndexOutOfBoundsException", "java/lang/IllegalArgumentException", "java/lang/IllegalStateException"] E 1 ≠ 0 := by decide +kernel
theorem i3E2 : ∀ E ∈ ["java/lang/IndexOutOfBoundsException", "java/lang/IllegalArgumentException", "java/lang/IllegalStateException"], g_k ["java/lang/IndexOutOfBoundsException", "java/lang/IllegalArgumentException", "java/lang/IllegalStateException"] E 1 = 2 → g_wx E = -2000002 := by decide +kernel
theorem i3E3 : ∀ E ∈ ["java/lang/IndexOutOfBoundsException", "java/lang/IllegalArgumentException", "java/lang/IllegalStateException"], g_k ["java/lang/IndexOutOfBoundsException", "java/lang/IllegalArgumentException", "java/lang/IllegalStateException"] E 1 = 3 → g_wx E = -2000003 := by decide +kernel
theorem pos_ne {x : Int32} (h : x = 0 ∨ x = 1 ∨ x = 2) : 0 < x ↔ ¬ x = 0 := by
  rcases h with rfl | rfl | rfl <;> decide
theorem le_ne {x : Int32} (h : x = 0 ∨ x = 1 ∨ x = 2) : x ≤ 0 ↔ x = 0 := by
  rcases h with rfl | rfl | rfl <;> decide
theorem nn_m1 {x : Int32} (h : -1 ≤ x.toInt) : 0 ≤ x ↔ ¬ x = -1 := by
  have m1 : (-1 : Int32).toInt = -1 := rfl
  constructor
  · intro z e
    rw [e] at z
    exact absurd z (by decide)
  · intro z
    have : x.toInt ≠ -1 := fun w => z (Int32.toInt_inj.mp (by rw [w, m1]))
    exact Int32.le_iff_toInt_le.mpr (by rw [j_0]; omega)
theorem lt_m1 {x : Int32} (h : -1 ≤ x.toInt) : x < 0 ↔ x = -1 := by
  have m1 : (-1 : Int32).toInt = -1 := rfl
  constructor
  · intro z
    have := j_ltR z j_0
    exact Int32.toInt_inj.mp (by rw [m1]; omega)
  · intro z
    rw [z]; decide
/-! going -/
theorem nz_ite {c : Prop} [Decidable c] {a b : Int32} (ha : a ≤ 0 ↔ a = 0) (hb : b ≤ 0 ↔ b = 0) : (if c then a else b) ≤ 0 ↔ (if c then a else b) = 0 := by
  split <;> assumption
theorem reason_01 (x y : Int32) : R_X8_reason s x y ≤ 0 ↔ R_X8_reason s x y = 0 := by
  unfold R_X8_reason R_X8_reason_47 R_X8_reason_57 R_X8_reason_69
  repeat' (first | decide | refine nz_ite ?_ ?_)
theorem X8_sets_at {x y : Int32} (hx : x.toNatClampNeg < 6) {n : Nat} (h : n < 58 ∨ 112 ≤ n) : R_X8_sets s x y n = s n := by
  unfold R_X8_sets R_X8_sets_26
  split <;> exact fr_X8_walks (by omega) (by omega) (by omega) (by omega)
theorem A_go {x y : Int32} {T : Int} (A : lA m s pm) (h0 : 0 ≤ x.toInt) (h1 : x.toInt < (s 2).toInt) (hT : (s 3).toInt ≤ T) : lO (R_L_acts_735 m s pm x y) T := by
  have J := A.1.J
  have hx := j_nat h0
  have h6 := J.1.2.2.1.2
  have h07 := J.1.1.2
  have a0 := (J.2.2.1 x.toNatClampNeg (by omega)).1
  unfold R_L_acts_735
  rw [Lx_why J y h0 h1]
  have e : R_X8_go s x y = R_X8_done (R_X8_goes s x y).2 (R_X8_goes s x y).1 := by unfold R_X8_go; rw [A.2.1]
  by_cases c : R_X8_reason s x y = 0
  · obtain ⟨-, y0, z⟩ := reason_spec c
    have ne : y.toInt ≠ (s (58 + 9 * x.toNatClampNeg + 1)).toInt := by
      rcases z with z | z
      · rw [z, j_sub1 (by omega)]; omega
      · rw [z, j_add1 (by omega)]; omega
    rw [if_pos ((reason_01 x y).mpr c), Lx_sets a0.1 y0.1 (by omega) ne]
    have e2 : R_X8_goes s x y = (0, upd (R_X8_sets s x y) 1303 (R_X8_sets s x y (58 + 9 * x.toNatClampNeg + 4))) := by
      unfold R_X8_goes
      rw [is_h h0 h1, i10, if_pos c]
    rw [e2] at e
    refine o_ok (Ref_go A.1 x y) (dn_ok ?_ e) ioE (by rw [X8_sets_at (by omega) (by omega)]; exact hT) (fun i hi => by rw [X8_sets_at (by omega) (by omega)]; exact A.2.2 i hi)
    rw [X8_sets_at (by omega) (by omega)]
    exact A.c
  · rw [if_neg (fun z => c ((reason_01 x y).mp z))]
    have e2 : R_X8_goes s x y = (2, s) := by
      unfold R_X8_goes
      rw [is_h h0 h1, i10, if_neg c]
    rw [e2] at e
    have d := dn_bad (s := s) (k := 2) (by decide) e
    exact o_bad (Ref_go A.1 x y) d.1 d.2 (by decide) ioE2 hT A.2.2
/-! taking -/
theorem A_take0 {x : Int32} {T : Int} (A : lA m s pm) (h0 : 0 ≤ x.toInt) (h1 : x.toInt < (s 2).toInt) (hr : s 1 = 0) (hT : (s 3).toInt ≤ T) : lO (if g_wv (R_X7_take m pm x ((0) : Int32)) = -2000001 then (1, (R_X7_take m pm x ((0) : Int32)).2.1, s, (R_X7_take m pm x ((0) : Int32)).2.2) else (0, (R_X7_take m pm x ((0) : Int32)).2.1, s, (R_X7_take m pm x ((0) : Int32)).2.2)) T := by
  have e : R_X8_take s x 0 = R_X8_done (R_X8_takes s x 0).2 (R_X8_takes s x 0).1 := by unfold R_X8_take; rw [A.2.1]
  have e2 : R_X8_takes s x 0 = (1, s) := by
    have er : R_X8_isRope s 0 = 0 := by
      unfold R_X8_isRope
      rw [hr]
      decide
    unfold R_X8_takes
    rw [is_h h0 h1, i10, er, i00]
  rw [e2] at e
  have d := dn_bad (s := s) (k := 1) (by decide) e
  exact o_bad (Ref_take A.1 x 0) d.1 d.2 (by decide) ioE1 hT A.2.2
theorem A_take {x r : Int32} {T : Int} (A : lA m s pm) (h0 : 0 ≤ x.toInt) (h1 : x.toInt < (s 2).toInt) (r0 : 0 ≤ r.toInt) (r1 : r.toInt < (s 1).toInt) (hT : (s 3).toInt ≤ T) : lO (R_L_acts_849 m s pm x r) T := by
  have J := A.1.J
  have hx := j_nat h0
  have hr := j_nat r0
  have h6 := J.1.2.2.1.2
  have h8 := J.1.2.1.2
  obtain ⟨-, dd, ⟨w5, -⟩, -⟩ := J.2.2.1 x.toNatClampNeg (by omega)
  have q := A.2.2 r.toNatClampNeg (by omega)
  have e : R_X8_take s x r = R_X8_done (R_X8_takes s x r).2 (R_X8_takes s x r).1 := by unfold R_X8_take; rw [A.2.1]
  have bad : R_X8_takes s x r = (2, s) → lO (R_L_acts_895 m s pm x r) T := fun e2 => by
    rw [e2] at e
    have d := dn_bad (s := s) (k := 2) (by decide) e
    exact o_bad (Ref_take A.1 x r) d.1 d.2 (by decide) ioE2 hT A.2.2
  have e3 : R_X8_takes s x r = if s (58 + 9 * x.toNatClampNeg + 2) = 0 then (if s (58 + 9 * x.toNatClampNeg + 5) = -1 then (if s (35 + 3 * r.toNatClampNeg) = 0 then (if s (36 + 3 * r.toNatClampNeg) = s (58 + 9 * x.toNatClampNeg + 1) then (0, upd (R_X8_gives s r x) 1303 (R_X8_gives s r x (34 + 3 * r.toNatClampNeg))) else (2, s)) else (2, s)) else (2, s)) else (2, s) := by
    unfold R_X8_takes R_X8_stands
    rw [is_h h0 h1, i10, is_r r0 r1, i10, sr0 r0 (by omega), sr1 r0 (by omega), sr2 r0 (by omega)]
    by_cases d : s (58 + 9 * x.toNatClampNeg + 2) = 0
    · rw [if_pos d, if_pos d, i10]
    · rw [if_neg d, if_neg d, i00]
  unfold R_L_acts_849
  by_cases d : s (58 + 9 * x.toNatClampNeg + 2) = 0
  · rw [if_neg (fun z => (pos_ne dd).mp z d)]
    rw [if_pos d] at e3
    by_cases w : s (58 + 9 * x.toNatClampNeg + 5) = -1
    · rw [if_neg (fun z => (nn_m1 w5).mp z w)]
      rw [if_pos w] at e3
      by_cases p : s (35 + 3 * r.toNatClampNeg) = 0
      · rw [if_neg (show ¬ 0 < s (35 + 3 * r.toNatClampNeg) by rw [p]; decide)]
        rw [if_pos p] at e3
        by_cases g : s (36 + 3 * r.toNatClampNeg) = s (58 + 9 * x.toNatClampNeg + 1)
        · rw [if_pos g]
          rw [if_pos g] at e3
          have eg : R_X8_gives s r x = upd (upd (upd s (35 + 3 * r.toNatClampNeg) 1) (36 + 3 * r.toNatClampNeg) x) (58 + 9 * x.toNatClampNeg + 5) r := by
            unfold R_X8_gives
            rw [sr1 r0 (by omega), sr2 r0 (by omega)]
          have es : upd (upd (upd s (58 + 9 * x.toNatClampNeg + 5) r) (35 + 3 * r.toNatClampNeg) 1) (36 + 3 * r.toNatClampNeg) x = R_X8_gives s r x := by
            rw [eg]
            funext k
            simp only [upd]
            repeat' split
            all_goals first | rfl | omega
          have g34 : R_X8_gives s r x (34 + 3 * r.toNatClampNeg) = s (34 + 3 * r.toNatClampNeg) := by
            rw [eg, g_upd_ne (by omega), g_upd_ne (by omega), g_upd_ne (by omega)]
          have g1300 : R_X8_gives s r x 1300 = s 1300 := by
            rw [eg, g_upd_ne (by omega), g_upd_ne (by omega), g_upd_ne (by omega)]
          rw [e3, g34] at e
          rw [es]
          refine o_ok (Ref_take A.1 x r) (dn_ok ?_ e) ioE ?_ ?_
          · rw [g1300]; exact A.c
          · rw [eg, g_upd_ne (by omega), g_upd_ne (by omega), g_upd_ne (by omega)]; exact hT
          · rw [eg]
            exact ((A.2.2.set (by decide)).u1 (by omega)).u1 (by omega)
        · rw [if_neg g]
          rw [if_neg g] at e3
          exact bad e3
      · have p' : 0 < s (35 + 3 * r.toNatClampNeg) := Int32.lt_iff_toInt_lt.mpr (by
          have : (s (35 + 3 * r.toNatClampNeg)).toInt ≠ 0 := fun z => p (Int32.toInt_inj.mp (by rw [z]; rfl))
          rw [j_0]; omega)
        rw [if_pos p']
        rw [if_neg p] at e3
        exact bad e3
    · rw [if_pos ((nn_m1 w5).mpr w)]
      rw [if_neg w] at e3
      exact bad e3
  · rw [if_pos ((pos_ne dd).mpr d)]
    rw [if_neg d] at e3
    exact bad e3
/-! laying -/
theorem A_lay {x : Int32} {T : Int} (A : lA m s pm) (h0 : 0 ≤ x.toInt) (h1 : x.toInt < (s 2).toInt) (hT : (s 3).toInt ≤ T) :
    lO (if 0 < s (58 + 9 * x.toNatClampNeg + 2) then R_L_acts_999 m s pm x else (if 0 ≤ s (58 + 9 * x.toNatClampNeg + 5) then (if g_wv (R_X7_lay m pm x) = s (58 + 9 * x.toNatClampNeg + 5) then (1, (R_X7_lay m pm x).2.1, (upd (upd (upd s (58 + 9 * x.toNatClampNeg + 5) (-1)) (35 + 3 * ((s (58 + 9 * x.toNatClampNeg + 5)).toNatClampNeg)) 0) (36 + 3 * ((s (58 + 9 * x.toNatClampNeg + 5)).toNatClampNeg)) (s (58 + 9 * x.toNatClampNeg + 1))), (R_X7_lay m pm x).2.2) else (0, (R_X7_lay m pm x).2.1, (upd (upd (upd s (58 + 9 * x.toNatClampNeg + 5) (-1)) (35 + 3 * ((s (58 + 9 * x.toNatClampNeg + 5)).toNatClampNeg)) 0) (36 + 3 * ((s (58 + 9 * x.toNatClampNeg + 5)).toNatClampNeg)) (s (58 + 9 * x.toNatClampNeg + 1))), (R_X7_lay m pm x).2.2)) else R_L_acts_999 m s pm x)) T := by
  have J := A.1.J
  have hx := j_nat h0
  have h6 := J.1.2.2.1.2
  have h8 := J.1.2.1.2
  obtain ⟨-, dd, ⟨w5, w58⟩, -⟩ := J.2.2.1 x.toNatClampNeg (by omega)
  have bad : R_X8_lay s x = R_X8_fails s 2 → lO (R_L_acts_999 m s pm x) T := fun e => by
    have d := fl_bad e
    exact o_bad (Ref_lay A.1 x) d.1 d.2 (by decide) ioE2 hT A.2.2
  have e3 : R_X8_lay s x = if s (58 + 9 * x.toNatClampNeg + 2) = 0 then (if s (58 + 9 * x.toNatClampNeg + 5) = -1 then R_X8_fails s 2 else R_X8_ends (R_X8_leaves s x 0 (s (58 + 9 * x.toNatClampNeg + 1))) (s (58 + 9 * x.toNatClampNeg + 5))) else R_X8_fails s 2 := by
    unfold R_X8_lay R_X8_lay_34 R_X8_stands
    rw [is_h h0 h1, i10, A.2.1]
    by_cases d : s (58 + 9 * x.toNatClampNeg + 2) = 0
    · rw [if_pos d, if_pos d, i10]
    · rw [if_neg d, if_neg d, i00]
  by_cases d : s (58 + 9 * x.toNatClampNeg + 2) = 0
  · rw [if_neg (fun z => (pos_ne dd).mp z d)]
    rw [if_pos d] at e3
    by_cases w : s (58 + 9 * x.toNatClampNeg + 5) = -1
    · rw [if_neg (fun z => (nn_m1 w5).mp z w)]
      rw [if_pos w] at e3
      exact bad e3
    · have w0 : 0 ≤ (s (58 + 9 * x.toNatClampNeg + 5)).toInt := by
        have := j_le ((nn_m1 w5).mpr w)
        rw [j_0] at this
        exact this
      rw [if_pos ((nn_m1 w5).mpr w)]
      rw [if_neg w] at e3
      have el := leave_eq (s := s) (x := x) (h := 0) (w := s (58 + 9 * x.toNatClampNeg + 1)) w0 (by omega)
      have es : upd (upd (upd s (58 + 9 * x.toNatClampNeg + 5) (-1)) (35 + 3 * ((s (58 + 9 * x.toNatClampNeg + 5)).toNatClampNeg)) 0) (36 + 3 * ((s (58 + 9 * x.toNatClampNeg + 5)).toNatClampNeg)) (s (58 + 9 * x.toNatClampNeg + 1)) = R_X8_leaves s x 0 (s (58 + 9 * x.toNatClampNeg + 1)) := by
        have hw := j_nat w0
        rw [el]
        funext k
        simp only [upd]
        repeat' split
        all_goals first | rfl | omega
      have hw := j_nat w0
      rw [es]
      have en := ends_all (s := R_X8_leaves s x 0 (s (58 + 9 * x.toNatClampNeg + 1))) (a := s (58 + 9 * x.toNatClampNeg + 5)) (by rw [el, g_upd_ne (by omega), g_upd_ne (by omega), g_upd_ne (by omega)]; exact A.c)
      rw [← e3] at en
      refine o_ok (Ref_lay A.1 x) en ioE ?_ ?_
      · rw [el, g_upd_ne (by omega), g_upd_ne (by omega), g_upd_ne (by omega)]; exact hT
      · rw [el]
        exact ((A.2.2.set (by decide)).u1 (by omega)).u1 (by omega)
  · rw [if_pos ((pos_ne dd).mpr d)]
    rw [if_neg d] at e3
    exact bad e3
end VC
