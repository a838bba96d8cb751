/-! ===== the text: carried out, added to, cleared ===== -/
section SG
variable {m s t u w : Nat → Int32} {L : Nat} {pm : Nat → Nat}
theorem Ref_carryOut (R : g_Rel m s pm) : (R_X7_carryOut m pm).1 = .inl (some (.int (R_X8_carryOut s).1)) ∧ g_Rel (R_X7_carryOut m pm).2.1 (R_X8_carryOut s).2 (R_X7_carryOut m pm).2.2 := by
  obtain ⟨L, T⟩ := R.T.l
  have hL := T.1
  have rf : g_Ro s (R_X8_faultAt s).2 := Ro_fault
  have ef := fault_eq T
  unfold R_X7_carryOut R_X8_carryOut
  rw [← ef]
  generalize (R_X8_faultAt s).2 = f at rf ⊢
  have Rf : g_Rel m f pm := R.over (fun n hn => rf n (by omega))
  by_cases c : R_X6_firstWrong m = -1
  · rw [if_pos c, if_pos c]
    have Th : g_Tl m (R_X8_hold f) L := by
      obtain ⟨a, b, d, e⟩ := T.ro rf
      refine ⟨a, b, (hold_ne (by omega)).trans d, fun k hk => ?_⟩
      rw [hold_ne (by omega)]
      exact e k hk
    have E0 : g_E (R_X7_save m pm).1 (upd (R_X8_hold f) 1304 0) := Rf.sE.hi (by omega)
    obtain ⟨v', t', u', c1, c2, c3, c4, c5, c6⟩ := carry_loop (m := m) (pm := pm) (S := s) (M := (R_X7_save m pm).1) (fun n h h' => fr_save R.I (Or.inr ⟨h, by omega⟩)) Th rfl 91 92 0 0 0 _ _ (by omega) (by omega) (by omega) (by omega) E0 R.sB g_U.refl (fun k h h' => g_upd_ne (by omega)) g_upd_eq c
    have d1 : R_X7_carryOut_29 m pm 91 0 0 0 (R_X7_save m pm).1 = (.inl (some (.int v')), t', (R_X7_save m pm).2) := c1
    rw [d1, c2]
    have Rs : g_Rel m (fun n => if 1304 ≤ n then u' n else f n) pm := Rf.over (fun n hn => if_neg (by omega))
    have V : g_Up (R_X8_hold (fun n => if 1304 ≤ n then u' n else f n)) u' := fun n h1 h2 => by
      by_cases k : 1304 ≤ n
      · rw [hold_ne (by omega), if_pos k]
      · rw [c6 n h1 (by omega), hold_at, hold_at]
        by_cases k2 : 200 ≤ n ∧ n < 378
        · rw [if_pos k2, if_pos k2, if_neg (by omega)]
        · rw [if_neg k2, if_neg k2, if_neg k]
    have es : R_X7_save m pm = R_X7_save m pm := rfl
    obtain ⟨z1, z2, z3⟩ := save_ends (a := v') Rs c3 c4.1 c5 V
    rw [z2]
    exact ⟨rfl, z1⟩
  · rw [if_neg c, if_neg c]
    unfold R_X8_tells
    refine ⟨rfl, Rf.over (fun n hn => ?_)⟩
    show upd f 1302 0 n = f n
    exact g_upd_ne (by omega)
/-- what carrying out asks of the class's states on its way -/
theorem pre_carryOut (R : g_Rel m s pm) : ∃ P : (Nat → Int32) → Prop, (R_X6_firstWrong m = -1 → P (R_X7_save m pm).1) ∧ (∀ t, P t → g_Tb t m) ∧ (∀ (t : Nat → Int32) (x : Int32), P t → 0 ≤ x.toInt → x.toInt < (m 980).toInt → 0 ≤ (R_X6_behindOrder m x).toInt → ¬ R_X7_canObey t x = 0 → P (R_X7_obey t x)) := by
  obtain ⟨L, T⟩ := R.T.l
  have hL := T.1
  have qL : (nI L).toInt = (L : Int) := nI_toInt (by omega)
  refine ⟨fun t => (∃ u, g_E t u) ∧ ∀ n, 890 ≤ n → n ≠ 981 → t n = m n, fun _ => ⟨⟨_, R.sE⟩, fun n h h' => fr_save R.I (Or.inr ⟨h, h'⟩)⟩, fun t ⟨⟨u, E⟩, h⟩ => ?_, fun t x ⟨⟨u, E⟩, h⟩ h0 h1 hb hc => ?_⟩
  · have hj := E.J.n
    refine ⟨?_, h, by rw [T.2.1, qL]; omega⟩
    rw [E.lo (n := 0) (by omega), E.lo (n := 1) (by omega), E.lo (n := 2) (by omega), E.lo (n := 6) (by omega)]
    omega
  · have ht : g_Tx t m := ⟨h, by rw [T.2.1, qL]; omega⟩
    rw [T.2.1, qL] at h1
    obtain ⟨i, hi⟩ : ∃ i : Nat, x.toInt = i := ⟨x.toInt.toNat, by omega⟩
    have ex : x = nI i := as_nI hi (by omega)
    subst ex
    have E1 : g_E t (upd (upd (upd u 1305 (R_X6_byteAt t (nI i))) 1306 (if R_X6_byteAt t (nI i) = 99 then R_X6_setAt t (nI i + 1) else if R_X6_byteAt t (nI i) = 112 then R_X6_numberAt t (nI i + 1) else R_X6_digitAt t (nI i + 1))) 1307 (R_X6_digitAt t (nI i + 2))) := ((E.hi (by omega)).hi (by omega)).hi (by omega)
    have A : g_Ag t i (upd (upd (upd u 1305 (R_X6_byteAt t (nI i))) 1306 (if R_X6_byteAt t (nI i) = 99 then R_X6_setAt t (nI i + 1) else if R_X6_byteAt t (nI i) = 112 then R_X6_numberAt t (nI i + 1) else R_X6_digitAt t (nI i + 1))) 1307 (R_X6_digitAt t (nI i + 2))) := by
      unfold g_Ag
      rw [g_upd_eq, g_upd_ne (show 1305 ≠ 1307 by omega), g_upd_ne (show 1305 ≠ 1306 by omega), g_upd_eq, g_upd_ne (show 1306 ≠ 1307 by omega), g_upd_eq]
      refine ⟨rfl, fun z => if_pos z, fun z => ⟨?_, rfl⟩, fun z => ?_, fun z => ?_⟩
      · rcases z with z | z <;> rw [z, if_neg (by decide), if_neg (by decide)]
      · rcases z with z | z <;> rw [z, if_neg (by decide), if_neg (by decide)]
      · rw [z, if_neg (by decide), if_pos rfl]
    rcases obey_does E1 (i := i) A (by omega) (by rw [cg_order ht]; exact hb) with ⟨o1, -, -⟩ | ⟨o1, o2, o3, o4⟩
    · exact absurd o1 hc
    · exact ⟨⟨_, o3⟩, fun n k k' => (o4 n (by omega)).trans (h n k k')⟩
theorem Ref_append (R : g_Rel m s pm) (x : Int32) : g_Ref ["java/lang/IllegalArgumentException", "java/lang/IllegalStateException"] (R_X7_append m pm x) (R_X8_append s x) := by
  obtain ⟨L, T⟩ := R.T.l
  have hL := T.1
  have qL : (nI L).toInt = (L : Int) := nI_toInt (by omega)
  have c90 : (90 : Int32).toInt = 90 := rfl
  unfold R_X7_append R_X7_append_24 R_X8_append
  by_cases b : R_X8_in s x 0 127 = 0
  · rw [if_pos ((bad_in s x 0 127).mpr b), if_pos b]
    exact fail_s R (by decide +kernel) (by decide +kernel)
  rw [if_neg (mt (bad_in s x 0 127).mp b), if_neg b, T.2.1, T.2.2.1]
  by_cases c : L = 90
  · subst c
    rw [if_pos (by decide), if_pos rfl, if_pos (by decide)]
    exact fail_s R (by decide +kernel) (by decide +kernel)
  have ne : ¬ (90 : Int32) ≤ nI L := fun z => by have := j_le z; omega
  have ne2 : ¬ nI L = 90 := fun z => by have := congrArg Int32.toInt z; omega
  rw [if_neg ne, if_neg (by decide), if_neg ne2, nI_clamp (by omega)]
  have f1 : upd s (1200 + L) x 1301 = nI L := by rw [g_upd_ne (by omega)]; exact T.2.2.1
  have eA : R_X6_add m x = upd (upd m (890 + L) x) 980 (nI (L + 1)) := by
    unfold R_X6_add
    rw [T.2.1, if_neg ne, nI_clamp (by omega), g_upd_ne (show 980 ≠ 890 + L by omega), T.2.1, nI_p1 (by omega)]
  rw [f1, nI_p1 (by omega), eA, g_upd_eq, g_upd_eq]
  obtain ⟨b0, b1⟩ := nz_X8_in b
  have b0' : 0 ≤ x.toInt := b0
  have b1' : x.toInt ≤ 127 := b1
  have R1 : g_Rel (upd (upd m (890 + L) x) 980 (nI (L + 1))) (upd (upd s (1200 + L) x) 1301 (nI (L + 1))) pm := by
    obtain ⟨c, c1, c2, c3, c4⟩ := R.2.1
    have hm : ∀ n, n < 890 → upd (upd m (890 + L) x) 980 (nI (L + 1)) n = m n := fun n hn => by rw [g_upd_ne (by omega), g_upd_ne (by omega)]
    have hs : ∀ n, n < 1200 → upd (upd s (1200 + L) x) 1301 (nI (L + 1)) n = s n := fun n hn => by rw [g_upd_ne (by omega), g_upd_ne (by omega)]
    have q1 : (nI (L + 1)).toInt = ((L + 1 : Nat) : Int) := nI_toInt (by omega)
    have hE : g_E (upd (upd m (890 + L) x) 980 (nI (L + 1))) (upd (upd s (1200 + L) x) 1301 (nI (L + 1))) := R.E.congr (fun n hn => hm n (by omega)) (fun n hn => hs n (by omega))
    have hS : g_Sv (upd (upd m (890 + L) x) 980 (nI (L + 1))) pm (upd (upd s (1200 + L) x) 1301 (nI (L + 1))) c := fun i hi => by
      have hq := R.Pm i (by omega)
      exact (c4 i hi).congr (fun n hn => hm _ (by omega)) (fun n hn => hs _ (by omega))
    have hT : g_Tt (upd (upd m (890 + L) x) 980 (nI (L + 1))) (upd (upd s (1200 + L) x) 1301 (nI (L + 1))) := by
      unfold g_Tt
      rw [g_upd_eq, g_upd_eq, q1]
      refine ⟨rfl, by omega, fun k hk => ?_⟩
      rw [g_upd_ne (by omega), g_upd_ne (show 1200 + k ≠ 1301 by omega)]
      by_cases e : k = L
      · subst e
        rw [g_upd_eq, g_upd_eq]
        exact ⟨rfl, b0', b1'⟩
      · rw [g_upd_ne (by omega), g_upd_ne (by omega)]
        exact T.2.2.2 k (by omega)
    have hB : g_Bo (upd (upd m (890 + L) x) 980 (nI (L + 1))) := (R.Bo.upd (by omega)).upd (by omega)
    have e1 : upd (upd s (1200 + L) x) 1301 (nI (L + 1)) 1300 = nI c := by rw [g_upd_ne (by omega), g_upd_ne (by omega)]; exact c2
    have e2 : upd (upd m (890 + L) x) 980 (nI (L + 1)) 981 = nI c := by rw [g_upd_ne (by omega), g_upd_ne (by omega)]; exact c3
    exact ⟨hE, ⟨c, c1, e1, e2, hS⟩, hT, hB, R.Pm, R.Pi, R.p4⟩
  exact tell_ref R1 rfl
theorem Ref_clearText (R : g_Rel m s pm) : (R_X7_clearText m).1 = (R_X8_clearText s).1 ∧ g_Rel (R_X7_clearText m).2 (R_X8_clearText s).2 pm := by
  obtain ⟨L, T⟩ := R.T.l
  unfold R_X7_clearText R_X8_clearText R_X8_tells
  refine ⟨T.2.1.trans T.2.2.1.symm, ?_⟩
  have R1 : g_Rel (upd m 980 0) (upd s 1301 0) pm := by
    obtain ⟨c, c1, c2, c3, c4⟩ := R.2.1
    have hE : g_E (upd m 980 0) (upd s 1301 0) := R.E.congr (fun n hn => g_upd_ne (by omega)) (fun n hn => g_upd_ne (by omega))
    have hS : g_Sv (upd m 980 0) pm (upd s 1301 0) c := fun i hi => by
      have hq := R.Pm i (by omega)
      exact (c4 i hi).congr (fun n hn => g_upd_ne (by omega)) (fun n hn => g_upd_ne (by omega))
    have hT : g_Tt (upd m 980 0) (upd s 1301 0) := by
      unfold g_Tt
      rw [g_upd_eq, g_upd_eq, j_0]
      exact ⟨rfl, by omega, fun k hk => by omega⟩
    have e1 : upd s 1301 0 1300 = nI c := by rw [g_upd_ne (by omega)]; exact c2
    have e2 : upd m 980 0 981 = nI c := by rw [g_upd_ne (by omega)]; exact c3
    exact ⟨hE, ⟨c, c1, e1, e2, hS⟩, hT, R.Bo.upd (by omega), R.Pm, R.Pi, R.p4⟩
  exact R1.over (fun n hn => g_upd_ne (by omega))
end SG
