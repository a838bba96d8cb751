/-! ===== what the law does: rigging, taking off, sending, the cave ===== -/
section VD
variable {m s t : Nat → Int32} {pm : Nat → Nat}
theorem aside (A : lA m s pm) {n : Nat} (hn : n < 178) : s (200 + n) = s n := by
  have := congrFun A.2.1 (200 + n)
  rw [hold_at, if_pos (by omega), Nat.add_sub_cancel_left] at this
  exact this.symm
theorem rig_ge4 {p : Int32} : ∀ (f n : Nat) (v : Int32), n + f ≤ 7 → -1 ≤ v.toInt → -1 ≤ (R_X8_rigger_4 s p f v n).toInt
  | 0, _, _, _, _ => by show -1 ≤ (0 : Int32).toInt; decide
  | f + 1, n, v, h, hv => by
    have hc : (nI n).toInt = (n : Int) := nI_toInt (by omega)
    unfold R_X8_rigger_4 R_X8_rigger_38 R_X8_rigger_39
    have k := fun v hv => rig_ge4 (p := p) f (n + 1) v (by omega) hv
    repeat' split
    · exact hv
    · exact k _ (by omega)
    · exact k _ hv
    · exact k _ hv
theorem rig_ge (p : Int32) : -1 ≤ (R_X8_rigger s p).toInt := rig_ge4 _ _ _ (by omega) (by decide)
theorem A_rig {x : Int32} {T : Int} (A : lA m s pm) (h0 : 0 ≤ x.toInt) (h1 : x.toInt < (s 2).toInt) (hT : (s 3).toInt ≤ T) (u v : Int32) (hu : ¬ 18 ≤ v) : lO (R_L_acts_1062 m s pm u v x) T := by
  have J := A.1.J
  have hx := j_nat h0
  have h6 := J.1.2.2.1.2
  have h8 := J.1.2.1.2
  have h07 := J.1.1.2
  obtain ⟨⟨a0, a7⟩, dd, ⟨w5, w58⟩, -⟩ := J.2.2.1 x.toNatClampNeg (by omega)
  have ha := j_nat a0
  have e : R_X8_rig s x = R_X8_done (R_X8_rigsAt s x).2 (R_X8_rigsAt s x).1 := by unfold R_X8_rig; rw [A.2.1]
  have bad : R_X8_rigsAt s x = (2, s) → lO (R_L_acts_1175 m s pm x) T := fun e2 => by
    rw [e2] at e
    have d := dn_bad (s := s) (k := 2) (by decide) e
    unfold R_L_acts_1175 R_L_acts_1176
    rw [i00]
    exact o_bad (Ref_rig A.1 x) d.1 d.2 (by decide) ioE2 hT A.2.2
  unfold R_X8_rigsAt R_X8_stands at bad e
  rw [is_h h0 h1, i10] at bad e
  unfold R_L_acts_1062
  rw [if_neg hu]
  by_cases d : s (58 + 9 * x.toNatClampNeg + 2) = 0
  · rw [if_pos d]
    rw [if_pos d, i10] at bad e
    by_cases w : s (58 + 9 * x.toNatClampNeg + 5) = -1
    · rw [if_pos ((lt_m1 w5).mpr w)]
      rw [if_pos w] at bad
      exact bad rfl
    · rw [if_neg (fun z => w ((lt_m1 w5).mp z))]
      rw [if_neg w] at bad e
      have w0 : 0 ≤ (s (58 + 9 * x.toNatClampNeg + 5)).toInt := by
        have := j_le ((nn_m1 w5).mpr w)
        rw [j_0] at this
        exact this
      have hw := j_nat w0
      by_cases g : s 0 ≤ s (58 + 9 * x.toNatClampNeg + 1)
      · rw [if_pos g]
        unfold R_X8_isPassage at bad
        rw [if_pos g, ite_self, if_pos rfl] at bad
        exact bad rfl
      · have g' := j_nle g
        rw [if_neg g, if_neg (fun z => by have := j_leL z (show (7 : Int32).toInt = 7 from rfl); omega)]
        rw [is_p a0 g', i10] at bad e
        have q := (J.2.1 (s (58 + 9 * x.toNatClampNeg + 1)).toNatClampNeg (by omega)).2.2.1
        unfold R_L_acts_1112
        unfold R_X8_isShut R_X8_holdsAt at bad e
        rw [s13 a0 (by omega), s27 a0 (by omega), sr0 w0 (by omega)] at bad e
        by_cases c : s (13 + (s (58 + 9 * x.toNatClampNeg + 1)).toNatClampNeg) ≤ 0
        · rw [if_pos c]
          rw [if_pos c, i00] at bad
          exact bad rfl
        · rw [if_neg c]
          rw [if_neg c] at bad e
          by_cases f : s (27 + (s (58 + 9 * x.toNatClampNeg + 1)).toNatClampNeg) = -1
          · rw [if_neg (fun z => (nn_m1 q).mp z f)]
            rw [if_pos f, i10] at bad e
            rw [Lx_rigger]
            by_cases r : R_X8_rigger s (s (58 + 9 * x.toNatClampNeg + 1)) = -1
            · rw [if_neg (fun z => (nn_m1 (rig_ge _)).mp z r)]
              rw [if_pos r] at bad e
              by_cases l : s (34 + 3 * (s (58 + 9 * x.toNatClampNeg + 5)).toNatClampNeg) < s (13 + (s (58 + 9 * x.toNatClampNeg + 1)).toNatClampNeg) + 3
              · rw [if_pos l]
                rw [if_pos l, i00] at bad
                exact bad rfl
              · rw [if_neg l]
                rw [if_neg l, i10] at bad e
                rw [Lx_inTime a0 a0 (by omega)]
                by_cases tm : R_X8_isInTime s x (s (58 + 9 * x.toNatClampNeg + 1)) 10 = 0
                · rw [if_pos tm]
                  rw [if_pos tm] at bad
                  exact bad rfl
                · rw [if_neg tm]
                  rw [if_neg tm] at e
                  unfold R_L_acts_1176
                  rw [i10]
                  refine o_ok (Ref_rig A.1 x) (dn_ok ?_ e) ioE ?_ ?_
                  · rw [g_upd_ne (by omega), g_upd_ne (by omega)]; exact A.c
                  · rw [g_upd_ne (by omega), g_upd_ne (by omega)]; exact hT
                  · exact (A.2.2.u1 (by omega)).u1 (by omega)
            · rw [if_pos ((nn_m1 (rig_ge _)).mpr r)]
              rw [if_neg r] at bad
              exact bad rfl
          · rw [if_pos ((nn_m1 q).mpr f)]
            rw [if_neg f, i00] at bad
            exact bad rfl
  · rw [if_neg d]
    rw [if_neg d, i00] at bad
    exact bad rfl
theorem A_off {x : Int32} {T : Int} (A : lA m s pm) (h0 : 0 ≤ x.toInt) (h1 : x.toInt < (s 2).toInt) (hT : (s 3).toInt ≤ T) (u : Int32) : lO (R_L_acts_1234 m s pm u 18 x) T := by
  have J := A.1.J
  have hx := j_nat h0
  have h6 := J.1.2.2.1.2
  have h8 := J.1.2.1.2
  have h07 := J.1.1.2
  obtain ⟨⟨a0, a7⟩, dd, ⟨w5, w58⟩, -⟩ := J.2.2.1 x.toNatClampNeg (by omega)
  have ha := j_nat a0
  have bad : R_X8_takeOff s x = R_X8_fails s 2 → lO (R_L_acts_1288 m s pm x) T := fun e => by
    have d := fl_bad e
    exact o_bad (Ref_takeOff A.1 x) d.1 d.2 (by decide) ioE2 hT A.2.2
  have e : R_X8_takeOff s x = R_X8_takeOff s x := rfl
  conv at e => rhs; unfold R_X8_takeOff R_X8_takeOff_68 R_X8_stands
  rw [is_h h0 h1, i10, A.2.1] at e
  unfold R_L_acts_1234
  rw [if_pos rfl]
  by_cases d : s (58 + 9 * x.toNatClampNeg + 2) = 0
  · rw [if_neg (fun z => (pos_ne dd).mp z d)]
    rw [if_pos d, i10] at e
    by_cases w : s (58 + 9 * x.toNatClampNeg + 5) = -1
    · rw [if_neg (fun z => (nn_m1 w5).mp z w)]
      rw [if_pos w] at e
      by_cases g : s 0 ≤ s (58 + 9 * x.toNatClampNeg + 1)
      · rw [if_pos g]
        unfold R_X8_isPassage at e
        rw [if_pos g, ite_self, if_pos rfl] at e
        exact bad e
      · have g' := j_nle g
        rw [if_neg g]
        rw [is_p a0 g', i10, s27 a0 (by omega)] at e
        have q := (J.2.1 (s (58 + 9 * x.toNatClampNeg + 1)).toNatClampNeg (by omega)).2.2
        by_cases f : s (27 + (s (58 + 9 * x.toNatClampNeg + 1)).toNatClampNeg) = -1
        · rw [if_pos ((lt_m1 q.1).mpr f)]
          rw [if_pos f] at e
          exact bad e
        · rw [if_neg (fun z => f ((lt_m1 q.1).mp z))]
          rw [if_neg f] at e
          have n0 : 0 ≤ (s (27 + (s (58 + 9 * x.toNatClampNeg + 1)).toNatClampNeg)).toInt := by
            have := j_le ((nn_m1 q.1).mpr f)
            rw [j_0] at this
            exact this
          have hn := j_nat n0
          rw [Lx_many J]
          by_cases k : R_X8_walkers s (s (58 + 9 * x.toNatClampNeg + 1)) ≤ 0
          · rw [if_pos k]
            rw [if_pos k] at e
            have eg : R_X8_gives (upd s (27 + (s (58 + 9 * x.toNatClampNeg + 1)).toNatClampNeg) (-1)) (s (27 + (s (58 + 9 * x.toNatClampNeg + 1)).toNatClampNeg)) x = upd (upd (upd (upd s (27 + (s (58 + 9 * x.toNatClampNeg + 1)).toNatClampNeg) (-1)) (35 + 3 * (s (27 + (s (58 + 9 * x.toNatClampNeg + 1)).toNatClampNeg)).toNatClampNeg) 1) (36 + 3 * (s (27 + (s (58 + 9 * x.toNatClampNeg + 1)).toNatClampNeg)).toNatClampNeg) x) (58 + 9 * x.toNatClampNeg + 5) (s (27 + (s (58 + 9 * x.toNatClampNeg + 1)).toNatClampNeg)) := by
              unfold R_X8_gives
              rw [sr1 n0 (by omega), sr2 n0 (by omega)]
            have es : upd (upd (upd (upd s (27 + (s (58 + 9 * x.toNatClampNeg + 1)).toNatClampNeg) (-1)) (58 + 9 * x.toNatClampNeg + 5) (s (27 + (s (58 + 9 * x.toNatClampNeg + 1)).toNatClampNeg))) (35 + 3 * ((s (27 + (s (58 + 9 * x.toNatClampNeg + 1)).toNatClampNeg)).toNatClampNeg)) 1) (36 + 3 * ((s (27 + (s (58 + 9 * x.toNatClampNeg + 1)).toNatClampNeg)).toNatClampNeg)) x = R_X8_gives (upd s (27 + (s (58 + 9 * x.toNatClampNeg + 1)).toNatClampNeg) (-1)) (s (27 + (s (58 + 9 * x.toNatClampNeg + 1)).toNatClampNeg)) x := by
              rw [eg]
              funext k
              simp only [upd]
              repeat' split
              all_goals first | rfl | omega
            rw [es]
            have en := ends_all (s := R_X8_gives (upd s (27 + (s (58 + 9 * x.toNatClampNeg + 1)).toNatClampNeg) (-1)) (s (27 + (s (58 + 9 * x.toNatClampNeg + 1)).toNatClampNeg)) x) (a := s (27 + (s (58 + 9 * x.toNatClampNeg + 1)).toNatClampNeg)) (by rw [eg, g_upd_ne (by omega), g_upd_ne (by omega), g_upd_ne (by omega), g_upd_ne (by omega)]; exact A.c)
            have e2 : R_X8_takeOff s x = R_X8_ends (R_X8_gives (upd s (27 + (s (58 + 9 * x.toNatClampNeg + 1)).toNatClampNeg) (-1)) (s (27 + (s (58 + 9 * x.toNatClampNeg + 1)).toNatClampNeg)) x) (s (27 + (s (58 + 9 * x.toNatClampNeg + 1)).toNatClampNeg)) := e
            rw [← e2] at en
            refine o_ok (Ref_takeOff A.1 x) en ioE ?_ ?_
            · rw [eg, g_upd_ne (by omega), g_upd_ne (by omega), g_upd_ne (by omega), g_upd_ne (by omega)]; exact hT
            · rw [eg]
              exact (((A.2.2.u1 (by omega)).set (by decide)).u1 (by omega)).u1 (by omega)
          · rw [if_neg k]
            rw [if_neg k] at e
            exact bad e
    · rw [if_pos ((nn_m1 w5).mpr w)]
      rw [if_neg w] at e
      exact bad e
  · rw [if_pos ((pos_ne dd).mpr d)]
    rw [if_neg d, i00] at e
    exact bad e
theorem A_send {x : Int32} {T : Int} (A : lA m s pm) (h0 : 0 ≤ x.toInt) (h1 : x.toInt < (s 2).toInt) (hT : (s 3).toInt ≤ T) (u : Int32) : lO (R_L_acts_1652 m s pm u 21 x) T := by
  have J := A.1.J
  have hx := j_nat h0
  have h6 := J.1.2.2.1.2
  have h07 := J.1.1.2
  obtain ⟨q0, q10⟩ := J.1.2.2.2.2.2.2.1
  have hq := j_nat q0
  obtain ⟨⟨a0, a7⟩, dd, -⟩ := J.2.2.1 x.toNatClampNeg (by omega)
  have e : R_X8_send s x = R_X8_done (R_X8_sends s x).2 (R_X8_sends s x).1 := by unfold R_X8_send; rw [A.2.1]
  have bad : R_X8_sends s x = (2, s) → lO (R_L_acts_1683 m s pm x) T := fun e2 => by
    rw [e2] at e
    have d := dn_bad (s := s) (k := 2) (by decide) e
    exact o_bad (Ref_send A.1 x) d.1 d.2 (by decide) ioE2 hT A.2.2
  have go : ¬ s (58 + 9 * x.toNatClampNeg + 2) ≠ 0 → (s (58 + 9 * x.toNatClampNeg + 1) ≤ 0 ∨ ¬ s 6 = 10) → R_X8_sends s x = R_X8_sends_43 s x → lO (R_L_acts_1700 m s pm x) T := fun _ hc e2 => by
    rw [e2] at e
    unfold R_X8_sends_43 R_X8_sends_115 at e
    unfold R_L_acts_1700 R_L_acts_1762
    by_cases z : s (58 + 9 * x.toNatClampNeg + 1) = 0
    · rw [if_pos z]
      rw [if_pos z] at e
      refine o_ok (Ref_send A.1 x) (dn_ok ?_ e) ioE ?_ ?_
      · rw [g_upd_ne (by omega)]; exact A.c
      · rw [g_upd_ne (by omega)]; exact hT
      · exact A.2.2.u1 (by omega)
    · have z6 : ¬ s 6 = 10 := hc.resolve_left (fun w => z (Int32.toInt_inj.mp (by have := j_leR w j_0; rw [j_0]; omega)))
      have n6 : (s 6).toInt < 10 := by
        have : (s 6).toInt ≠ 10 := fun w => z6 (Int32.toInt_inj.mp (by rw [w]; rfl))
        omega
      rw [if_neg z]
      rw [if_neg z, sm0 q0 (by omega), sm1 q0 (by omega), sm2 q0 (by omega)] at e
      simp (disch := omega) only [g_upd_ne] at e
      refine o_ok (Ref_send A.1 x) (dn_ok ?_ e) ioE ?_ ?_
      · simp (disch := omega) only [g_upd_ne]; exact A.c
      · simp (disch := omega) only [g_upd_ne]; exact hT
      · exact (((A.2.2.u1 (by omega)).u1 (by omega)).u1 (by omega)).u1 (by omega)
  unfold R_X8_sends R_X8_stands at bad go
  rw [is_h h0 h1, i10] at bad go
  unfold R_L_acts_1652
  rw [if_pos rfl]
  by_cases d : s (58 + 9 * x.toNatClampNeg + 2) = 0
  · rw [if_neg (fun z => (pos_ne dd).mp z d)]
    rw [if_pos d, i10] at bad go
    by_cases w : s (58 + 9 * x.toNatClampNeg + 1) ≤ 0
    · rw [if_pos w]
      rw [if_pos w] at go
      exact go (fun z => z d) (Or.inl w) rfl
    · rw [if_neg w]
      rw [if_neg w] at bad go
      by_cases g : s 6 = 10
      · rw [if_pos g]
        rw [if_pos g] at bad
        exact bad rfl
      · rw [if_neg g]
        rw [if_neg g] at go
        exact go (fun z => z d) (Or.inr g) rfl
  · rw [if_pos ((pos_ne dd).mpr d)]
    rw [if_neg d, i00] at bad
    exact bad rfl
/-! the cave -/
theorem in_ok {x a b : Int32} (h1 : a.toInt ≤ x.toInt) (h2 : x.toInt ≤ b.toInt) : R_X8_in s x a b = 1 := by
  unfold R_X8_in
  rw [if_neg (fun z => by have := j_lt z; omega), if_neg (fun z => by have := j_lt z; omega)]
theorem A_pas_no {p : Int32} {T : Int} (A : lA m s pm) (h0 : 0 ≤ p.toInt) (h1 : p.toInt < (s 0).toInt) (hT : (s 3).toInt ≤ T) (hu : ¬ s (27 + p.toNatClampNeg) = -1 ∨ ¬ R_X8_rigger s p = -1 ∨ ¬ R_X8_walkers s p ≤ 0) : lO (R_L_acts_230 m s pm p) T := by
  have h07 := A.1.J.1.1.2
  have e : R_X8_setPassage s p 0 1 = R_X8_fails s 3 := by
    unfold R_X8_setPassage R_X8_setPassage_70
    rw [is_p h0 h1, i10, in_ok (by decide) (by decide), i10, in_ok (by decide) (by decide), i10, s27 h0 (by omega)]
    by_cases a : s (27 + p.toNatClampNeg) = -1
    · rw [if_pos a]
      by_cases b : R_X8_rigger s p = -1
      · rw [if_pos b, if_neg ((hu.resolve_left (fun z => z a)).resolve_left (fun z => z b))]
      · rw [if_neg b]
    · rw [if_neg a]
  have d := fl_bad e
  have RF := Ref_setPassage A.1 p 0 1
  have e2 : ∀ t : Nat → Int32, t 0 = s 0 → R_X8_setPassage t p 61 1 = R_X8_fails t 2 := fun t h => by
    unfold R_X8_setPassage R_X8_setPassage_34
    have z : R_X8_in t 61 0 60 = 0 := by unfold R_X8_in; decide
    rw [is_p h0 (by rw [h]; exact h1), i10, z, if_pos rfl]
  unfold R_L_acts_230
  rw [if_pos (val_bad RF d.1 (by decide) i3E3)]
  have RF2 := Ref_setPassage RF.1 p 61 1
  have d2 := fl_bad (e2 _ (d.2 0 (by omega)))
  exact o_bad (s := s) RF2 d2.1 (fun n hn => (d2.2 n hn).trans (d.2 n hn)) (by decide) i3E2 hT A.2.2
theorem A_pas {p d c : Int32} {T : Int} (A : lA m s pm) (h0 : 0 ≤ p.toInt) (h1 : p.toInt < (s 0).toInt) (hT : (s 3).toInt ≤ T) (hu1 : s (27 + p.toNatClampNeg) = -1) (hu2 : R_X8_rigger s p = -1) (hu3 : R_X8_walkers s p ≤ 0) (d0 : 0 ≤ d.toInt) (d60 : d.toInt ≤ 60) (c1 : 1 ≤ c.toInt) (c30 : c.toInt ≤ 30) :
    lO (if g_wv (R_X7_setPassage m pm p d c) = s (13 + p.toNatClampNeg) then (1, (R_X7_setPassage m pm p d c).2.1, upd (upd s (13 + p.toNatClampNeg) d) (20 + p.toNatClampNeg) c, (R_X7_setPassage m pm p d c).2.2) else (0, (R_X7_setPassage m pm p d c).2.1, upd (upd s (13 + p.toNatClampNeg) d) (20 + p.toNatClampNeg) c, (R_X7_setPassage m pm p d c).2.2)) T := by
  have h07 := A.1.J.1.1.2
  have hp := j_nat h0
  have e : R_X8_setPassage s p d c = R_X8_ends (upd (upd s (13 + p.toNatClampNeg) d) (20 + p.toNatClampNeg) c) (s (13 + p.toNatClampNeg)) := by
    unfold R_X8_setPassage
    have r1 : R_X8_in s d 0 60 = 1 := in_ok (by rw [j_0]; exact d0) (by have : (60 : Int32).toInt = 60 := rfl; omega)
    have r2 : R_X8_in s c 1 30 = 1 := in_ok (by rw [j_1]; exact c1) (by have : (30 : Int32).toInt = 30 := rfl; omega)
    rw [is_p h0 h1, i10, r1, i10, r2, i10, s27 h0 (by omega), if_pos hu1, if_pos hu2, if_pos hu3, A.2.1, s13 h0 (by omega), s20 h0 (by omega), g_upd_ne (by omega), g_upd_ne (by omega), aside A (by omega)]
  have en := ends_all (s := upd (upd s (13 + p.toNatClampNeg) d) (20 + p.toNatClampNeg) c) (a := s (13 + p.toNatClampNeg)) (by rw [g_upd_ne (by omega), g_upd_ne (by omega)]; exact A.c)
  rw [← e] at en
  refine o_ok (Ref_setPassage A.1 p d c) en i3E ?_ ?_
  · rw [g_upd_ne (by omega), g_upd_ne (by omega)]; exact hT
  · exact (A.2.2.u1 (by omega)).u1 (by omega)
theorem mod_b {v c : Int32} {k : Nat} (hv : 0 ≤ v.toInt) (hc : c.toInt = k) (hk : 0 < k) : 0 ≤ (v - v / c * c).toInt ∧ (v - v / c * c).toInt < k := by
  have := rem_b (x := v) (y := c) hv (by omega)
  omega
theorem A_200 {v p : Int32} {T : Int} (A : lA m s pm) (hv : 0 ≤ v.toInt) (h0 : 0 ≤ p.toInt) (h1 : p.toInt < (s 0).toInt) (hT : (s 3).toInt ≤ T) : lO (R_L_acts_200 m s pm v p) T := by
  have J := A.1.J
  have h07 := J.1.1.2
  have hp := j_nat h0
  have q := (J.2.1 p.toNatClampNeg (by omega)).2.2.1
  have v7 := div_nn (x := v) (y := 7) hv (by decide)
  have v21 := div_nn (x := v) (y := 21) hv (by decide)
  have key : ∀ d : Int32, 0 ≤ d.toInt → d.toInt ≤ 60 → s (27 + p.toNatClampNeg) = -1 → R_X8_rigger s p = -1 → R_X8_walkers s p ≤ 0 → lO (R_L_acts_294 m s pm v p d) T := by
    intro d d0 d60 u1 u2 u3
    have r : ∀ c : Int32, 0 < c.toInt → c.toInt ≤ 30 → lO (R_L_acts_318 m s pm v p d c) T := by
      intro c c0 c30
      have b := rem_b (x := v / 7) (y := c) v7 c0
      have e := j_addE (x := 1) (y := v / 7 - v / 7 / c * c) j_1 rfl (by omega) (by omega)
      unfold R_L_acts_318
      exact A_pas A h0 h1 hT u1 u2 u3 d0 d60 (by omega) (by omega)
    unfold R_L_acts_294
    split
    · exact r 30 (by decide) (by decide)
    · exact r 6 (by decide) (by decide)
  unfold R_L_acts_200
  rw [Lx_rigger, Lx_many J]
  by_cases a : s (27 + p.toNatClampNeg) = -1
  · rw [if_neg (fun z => (nn_m1 q).mp z a)]
    by_cases b : R_X8_rigger s p = -1
    · rw [if_neg (fun z => (nn_m1 (rig_ge _)).mp z b)]
      by_cases c : R_X8_walkers s p ≤ 0
      · rw [if_pos c]
        have m61 := mod_b (v := v / 21) (c := 61) (k := 61) v21 rfl (by omega)
        split
        · exact key _ m61.1 (by omega) a b c
        · exact key 0 (by decide) (by decide) a b c
      · rw [if_neg c]
        exact A_pas_no A h0 h1 hT (Or.inr (Or.inr c))
    · rw [if_pos ((nn_m1 (rig_ge _)).mpr b)]
      exact A_pas_no A h0 h1 hT (Or.inr (Or.inl b))
  · rw [if_pos ((nn_m1 q).mpr a)]
    exact A_pas_no A h0 h1 hT (Or.inl a)
theorem A_rope {v : Int32} {T : Int} (A : lA m s pm) (hv : 0 ≤ v.toInt) (hT : (s 3).toInt ≤ T) (u : Int32) : lO (R_L_acts_346 m s pm v 3) T := by
  have J := A.1.J
  obtain ⟨r0, r8⟩ := J.1.2.1
  have hr := j_nat r0
  have c8 : (8 : Int32).toInt = 8 := rfl
  unfold R_L_acts_346
  rw [if_pos rfl]
  by_cases a : s 1 = 8
  · rw [if_pos a]
    have e : ∀ t : Nat → Int32, t 1 = s 1 → R_X8_addRope t 10 = R_X8_fails t 2 := fun t h => by
      unfold R_X8_addRope
      rw [in_ok (by decide) (by decide), i10, h, if_pos a]
    have e2 : ∀ t : Nat → Int32, R_X8_addRope t 9 = R_X8_fails t 1 := fun t => by
      unfold R_X8_addRope
      have z : R_X8_in t 9 10 80 = 0 := by unfold R_X8_in; decide
      rw [z, if_pos rfl]
    have RF := Ref_addRope A.1 10
    have d := fl_bad (e s rfl)
    rw [if_pos (val_bad RF d.1 (by decide) iaE2)]
    have RF2 := Ref_addRope RF.1 9
    have d2 := fl_bad (e2 (R_X8_addRope s 10).2)
    exact o_bad (s := s) RF2 d2.1 (fun n hn => (d2.2 n hn).trans (d.2 n hn)) (by decide) iaE1 hT A.2.2
  · have a' := j_neR a c8
    have b := mod_b (v := v) (c := 71) (k := 71) hv rfl (by omega)
    have c10 : (10 : Int32).toInt = 10 := rfl
    have e := j_addE (x := 10) (y := v - v / 71 * 71) c10 rfl (by omega) (by omega)
    have x0 : (34 + 3 * s 1).toNatClampNeg = 34 + 3 * (s 1).toNatClampNeg := sr0 r0 (by omega)
    have x1 := sr1 r0 (r := s 1) (by omega)
    have x2 := sr2 r0 (r := s 1) (by omega)
    rw [if_neg a]
    generalize hw : 10 + (v - v / 71 * 71) = w at e ⊢
    have e3 : R_X8_addRope s w = R_X8_ends (upd (upd (upd (upd s (34 + 3 * (s 1).toNatClampNeg) w) (35 + 3 * (s 1).toNatClampNeg) 0) (36 + 3 * (s 1).toNatClampNeg) 0) 1 (s 1 + 1)) (s 1) := by
      unfold R_X8_addRope R_X8_addRope_75
      rw [in_ok (by rw [c10]; omega) (by have : (80 : Int32).toInt = 80 := rfl; omega), i10, if_neg a, A.2.1, x0, x1, x2]
      simp (disch := omega) only [g_upd_ne]
      rw [aside A (n := 1) (by omega)]
    have en := ends_all (s := upd (upd (upd (upd s (34 + 3 * (s 1).toNatClampNeg) w) (35 + 3 * (s 1).toNatClampNeg) 0) (36 + 3 * (s 1).toNatClampNeg) 0) 1 (s 1 + 1)) (a := s 1) (by simp (disch := omega) only [g_upd_ne]; exact A.c)
    rw [← e3] at en
    rw [Int32.add_sub_cancel]
    refine o_ok (Ref_addRope A.1 w) en iaE ?_ ?_
    · simp (disch := omega) only [g_upd_ne]; exact hT
    · exact (((A.2.2.u1 (by omega)).set (by decide)).u1 (by omega)).u1 (by omega)
theorem A_silence {v : Int32} {T : Int} (A : lA m s pm) (hv : 0 ≤ v.toInt) (h9 : (s 3).toInt ≤ 90000) (hT : (s 3).toInt ≤ T) : lO (R_L_acts_618 m s pm v 5) T := by
  have J := A.1.J
  have h3 := J.1.2.2.2.1.1
  have v9 := div_nn (x := v) (y := 9) hv (by decide)
  have b := mod_b (v := v) (c := 9) (k := 9) hv rfl (by omega)
  have b2 := mod_b (v := v / 9) (c := 12) (k := 12) v9 rfl (by omega)
  have e1 := j_addE (x := s 3) (y := v - v / 9 * 9) rfl rfl (by omega) (by omega)
  have e2 := j_addE (x := s 3 + (v - v / 9 * 9)) (y := v / 9 - v / 9 / 12 * 12) e1 rfl (by omega) (by omega)
  unfold R_L_acts_618
  rw [if_pos rfl]
  generalize s 3 + (v - v / 9 * 9) + (v / 9 - v / 9 / 12 * 12) = w2 at e2 ⊢
  generalize s 3 + (v - v / 9 * 9) = w1 at e1 ⊢
  have c1 : (100000 : Int32).toInt = 100000 := rfl
  have e3 : R_X8_setSilence s w1 w2 = R_X8_ends (upd (upd s 9 w1) 10 w2) (s 10) := by
    unfold R_X8_setSilence
    rw [in_ok (by rw [j_0]; omega) (by omega), i10, in_ok (by omega) (by omega), i10, A.2.1, g_upd_ne (by omega), g_upd_ne (by omega), aside A (n := 10) (by omega)]
  have en := ends_all (s := upd (upd s 9 w1) 10 w2) (a := s 10) (by rw [g_upd_ne (by omega), g_upd_ne (by omega)]; exact A.c)
  rw [← e3] at en
  refine o_ok (Ref_setSilence A.1 w1 w2) en i1E ?_ ?_
  · rw [g_upd_ne (by omega), g_upd_ne (by omega)]; exact hT
  · exact (A.2.2.u1 (by omega)).u1 (by omega)
end VD
