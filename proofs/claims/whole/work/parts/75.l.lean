/-! ===== CaveRelayModel() ===== -/
theorem n_E.cong {ad1 ad2 : Nat → Nat} {A : Nat → Prop} {U : State} (h0 : ad1 130 = ad2 130) (h1 : ad1 131 = ad2 131) (h : n_E ad1 A U) : n_E ad2 A U := by
  unfold n_E g_Z n_Zc at h ⊢
  rw [h0, h1] at h
  exact h
def n_A8 (ad : Nat → Nat) (sz : Nat) : Nat → Prop := fun q => (∃ k, k < 125 ∧ q = ad k) ∨ sz ≤ q
def n_f8 : List Value := [.null, .null, .null, .int 0, .null, .int 0, .int 0, .int 0, .int 0, .int 0, .int 0, .int 0, .long 0]
def n_w8 (ad : Nat → Nat) (ca : Nat → ClassId) : va_W := [(ad 124, .inr (8, n_f8))] ++ n_c7 ad ca n_μ0
def n_B8 (D : va_G) (ca : Nat → ClassId) (ad : Nat → Nat) (sz : Nat) (U : State) : Prop := U.heap.size = sz ∧ va_P D vwCl (n_w8 ad ca) U.heap ∧ va_D (n_A8 ad sz) (n_w8 ad ca) ∧ va_K D vwCl (g_tys ca) U ∧ n_E ad (n_A8 ad sz) U
theorem n_B8.blind {D : va_G} {ca : Nat → ClassId} {ad : Nat → Nat} {sz : Nat} (av : List Value) : FrameBlind (va_Pc av (n_B8 D ca ad sz)) := by
  intro a U g mk hh
  obtain ⟨h0, h1, h2, h3, h4, h5⟩ := hh
  exact ⟨h0, h1, h2, h3, va_K.moved (u := U) (U := U.calling g mk a) (Vm.Alike.refl U.vm) h4, h5.step (U := U.calling g mk a) (State.WarmedH.refl U) (Nat.le_refl _) (fun _ _ _ => rfl) (fun _ z => z)⟩
def n_ad8 (ad : Nat → Nat) (f : Nat → Nat) (k : Nat) : Nat := if 125 ≤ k ∧ k < 130 then f k else ad k
def n_μ1 : g_M := (g_m1, g_s1, (fun _ => 0), n_q0)
def n_C8 (l : Launch) (R : Room) : Prop := ∀ (D : va_G) (ca : Nat → ClassId) (ad : Nat → Nat) (sz : Nat), vx_Met l yX8_init (Cond.code yX8_init cX8_init 1 none :: gW) R (va_Pc [.ref (ad 124)] (n_B8 D ca ad sz)) (n_Qc D (n_A8 ad sz) (fun f => g_ws (n_ad8 ad f) ca n_μ1)) n_XC R.cells R.slots (n_A8 ad sz)
def n_F8 (q0 q1 q2 q3 : Nat) (k : Nat) : Nat := if k = 125 then q0 else if k = 126 then q1 else if k = 127 then q2 else q3
def n_p8 (k : Nat) : Nat := if k < 124 then k + 1 else if k = 124 then 0 else k
theorem n_p8_inj {i j : Nat} (hi : i < 129) (hj : j < 129) (h : n_p8 i = n_p8 j) : i = j := by
  unfold n_p8 at h
  repeat' split at h
  all_goals omega
theorem n_q0_lt (t : Nat) (h : t < 4) : n_q0 t < 5 := by unfold n_q0; rw [if_pos h]; omega
theorem n_w8_pm {ca : Nat → ClassId} {ad : Nat → Nat} {q0 q1 q2 q3 : Nat} : (∀ (D : va_G) (cl : List vw_C) (H : Heap), va_P D cl ([(ad 124, .inr (8, [.ref q0, .ref q1, .ref q2, .int 0, .ref q3, .int 0, .int 0, .int 0, .int 0, .int 0, .int 0, .int 0, .long 0]))] ++ (n_c7 ad ca n_μ0 ++ [(q0, .inl (ca 0, 178, .inl (fun _ => 0))), (q1, .inl (ca 0, 712, .inl (fun _ => 0))), (q2, .inl (ca 0, 178, .inl (fun _ => 0))), (q3, .inl (ca 0, 90, .inl (fun _ => 0)))])) H → va_P D cl (g_ws (n_ad8 ad (n_F8 q0 q1 q2 q3)) ca n_μ0) H) ∧ ∀ A : Nat → Prop, va_D A ([(ad 124, .inr (8, [.ref q0, .ref q1, .ref q2, .int 0, .ref q3, .int 0, .int 0, .int 0, .int 0, .int 0, .int 0, .int 0, .long 0]))] ++ (n_c7 ad ca n_μ0 ++ [(q0, .inl (ca 0, 178, .inl (fun _ => 0))), (q1, .inl (ca 0, 712, .inl (fun _ => 0))), (q2, .inl (ca 0, 178, .inl (fun _ => 0))), (q3, .inl (ca 0, 90, .inl (fun _ => 0)))])) → va_D A (g_ws (n_ad8 ad (n_F8 q0 q1 q2 q3)) ca n_μ0) := by
  have hlen : (g_ws (n_ad8 ad (n_F8 q0 q1 q2 q3)) ca n_μ0).length = 129 := by
    unfold g_ws
    rw [List.length_map, List.length_range]
    exact g_wn0 rfl
  have hc7 : (n_c7 ad ca n_μ0).length = 124 := by simp [n_c7]
  have z : ∀ n t, (fun _ => (0 : Int32)) t = g_rw (fun _ => 0) 0 n t := fun n t => by
    show (0 : Int32) = cond (Nat.blt t n) 0 0
    cases Nat.blt t n <;> rfl
  have z4 : ∀ o n t, (fun _ => (0 : Int32)) t = g_rw (fun _ => 0) o n t := fun o n t => by
    show (0 : Int32) = cond (Nat.blt t n) 0 0
    cases Nat.blt t n <;> rfl
  refine n_pm n_p8 (fun i j hi hj hh => n_p8_inj (by omega) (by omega) hh) (fun i q hq => ?_)
  have hi : i < 129 := by
    have := (List.getElem?_eq_some_iff.mp hq).1
    omega
  obtain ⟨-, rfl⟩ := g_ws_of hq
  rcases (show i < 124 ∨ i = 124 ∨ i = 125 ∨ i = 126 ∨ i = 127 ∨ i = 128 by omega) with h | rfl | rfl | rfl | rfl | rfl
  · have ha : ∀ k, k < 124 → ad k = n_ad8 ad (n_F8 q0 q1 q2 q3) k := fun k hk => by
      unfold n_ad8
      rw [if_neg (by omega)]
    refine ⟨_, ?_, n_eq_of (g_ent_adr ha n_q0_lt h)⟩
    rw [show n_p8 i = 1 + i by unfold n_p8; rw [if_pos h]; omega, n_out (n := 1) rfl rfl, n_in hc7 h]
    unfold n_c7
    rw [List.getElem?_map, List.getElem?_range h, ← ha i h]
    rfl
  · exact ⟨_, rfl, n_eq_of rfl⟩
  · refine ⟨_, ?_, n_eq_i (show ∀ t, t < 178 → (fun _ => (0 : Int32)) t = g_rw (fun _ => 0) 0 178 t from fun t _ => z4 0 178 t)⟩
    rw [show n_p8 125 = 1 + 124 by decide, n_out (n := 1) rfl rfl, n_out (n := 124) (j := 0) hc7 rfl]
    rfl
  · refine ⟨_, ?_, n_eq_i (show ∀ t, t < 712 → (fun _ => (0 : Int32)) t = g_rw (fun _ => 0) 400 712 t from fun t _ => z4 400 712 t)⟩
    rw [show n_p8 126 = 1 + 125 by decide, n_out (n := 1) rfl rfl, n_out (n := 124) (j := 1) hc7 rfl]
    rfl
  · refine ⟨_, ?_, n_eq_i (show ∀ t, t < 178 → (fun _ => (0 : Int32)) t = g_rw (fun _ => 0) 200 178 t from fun t _ => z4 200 178 t)⟩
    rw [show n_p8 127 = 1 + 126 by decide, n_out (n := 1) rfl rfl, n_out (n := 124) (j := 2) hc7 rfl]
    rfl
  · refine ⟨_, ?_, n_eq_i (show ∀ t, t < 90 → (fun _ => (0 : Int32)) t = g_rw (fun _ => 0) 1200 90 t from fun t _ => z4 1200 90 t)⟩
    rw [show n_p8 128 = 1 + 127 by decide, n_out (n := 1) rfl rfl, n_out (n := 124) (j := 3) hc7 rfl]
    rfl
set_option maxRecDepth 100000 in
set_option maxHeartbeats 4000000 in
theorem n_X8 (l : Launch) (hs : l.stackTraces = false) : n_C8 l ({ frames := 1, cells := 4, slots := 1158, locals := 22 } : Room) := by
  intro D ca ad sz
  refine vx_ofW (cc := cX8_init) (maxL := 1) (ret := none) (by decide) rfl ?_
  intro p e s m0 args below meth c s₁ B hml hx hv
  obtain ⟨rfl, rfl, hP, hD, hK, hE⟩ := hv
  have hts := atoms_spec (ws := Cond.code yX8_init cX8_init 1 none :: gW) B.pre
  rw [lg_entry_eq]
  obtain ⟨X, hX⟩ : ∃ X : g_X, X = ((p, l, e, ({ frames := 1, cells := 4, slots := 1158, locals := 22 } : Room)), (s, m0, ([.ref (ad 124)] : List Value).toArray, below, meth, c), (D, ad, ca), 1) := ⟨_, rfl⟩
  have O : n_ok X (n_A8 ad s.heap.size) cX8_init RX8 ({ frames := 1, cells := 4, slots := 1158, locals := 22 } : Room) := by
    rw [hX]
    exact ⟨B.exec, B.bytes, hml, findClass_of_methodNamed B.named, fun w hw => hts w (List.mem_cons_of_mem _ hw), hK, B.notSynchronized, fun _ => ⟨B.returns, (name_of_methodNamed B.named B.method).1⟩, rfl, fun q hq => Or.inr hq⟩
  have E : n_E ad (n_A8 ad s.heap.size) (g_xs X) := by rw [hX]; exact hE
  have hn : g_xn X = 1 := by rw [hX]
  have hl : (g_xl X).stackTraces = false := by rw [hX]; exact hs
  have hca : g_ca X = ca := by rw [hX]
  have K : n_V X (n_A8 ad s.heap.size) (n_Q X (n_A8 ad s.heap.size) (fun f => g_ws (n_ad8 ad f) ca n_μ1)) 0 0 (n_w8 ad ca) 0 [(0, .ref (ad 124))] [] := by
    rw [← hca]
    unfold n_w8
    refine n_aload O 0 dX8_init_0 rfl rfl ?_
    refine n_oi O w_oiX8 dX8_init_1 (by decide) (by decide) ?_
    refine n_aload O 0 dX8_init_4 rfl rfl ?_
    refine n_sipush (x := 178) O dX8_init_5 rfl ?_
    refine n_newa O (N := 178) (by decide) rfl (by decide) (by decide) (by decide) dX8_init_8 (fun q0 => ?_)
    refine n_putF O 0 (FPFX8_7 q0) rfl (Nat.le_of_ble_eq_true rfl) dX8_init_10 ?_
    refine n_aload O 0 dX8_init_13 rfl rfl ?_
    refine n_sipush (x := 712) O dX8_init_14 rfl ?_
    refine n_newa O (N := 712) (by decide) rfl (by decide) (by decide) (by decide) dX8_init_17 (fun q1 => ?_)
    refine n_putF O 0 (FPFX8_13 q1) rfl (Nat.le_of_ble_eq_true rfl) dX8_init_19 ?_
    refine n_aload O 0 dX8_init_22 rfl rfl ?_
    refine n_sipush (x := 178) O dX8_init_23 rfl ?_
    refine n_newa O (N := 178) (by decide) rfl (by decide) (by decide) (by decide) dX8_init_26 (fun q2 => ?_)
    refine n_putF O 0 (FPFX8_16 q2) rfl (Nat.le_of_ble_eq_true rfl) dX8_init_28 ?_
    refine n_aload O 0 dX8_init_31 rfl rfl ?_
    refine n_bipush (x := 90) O dX8_init_32 rfl ?_
    refine n_newa O (N := 90) (by decide) rfl (by decide) (by decide) (by decide) dX8_init_34 (fun q3 => ?_)
    refine n_putF O 0 (FPFX8_19 q3) rfl (Nat.le_of_ble_eq_true rfl) dX8_init_36 ?_
    refine n_aload O 0 dX8_init_39 rfl rfl ?_
    refine n_iconst (x := 4) O dX8_init_40 rfl ?_
    refine n_same (ws' := [(ad 124, .inr (8, [.ref q0, .ref q1, .ref q2, .int 0, .ref q3, .int 0, .int 0, .int 0, .int 0, .int 0, .int 0, .int 0, .long 0]))] ++ (n_c7 ad (g_ca X) n_μ0 ++ [(q0, .inl (g_ca X 0, 178, .inl (fun _ => 0))), (q1, .inl (g_ca X 0, 712, .inl (fun _ => 0))), (q2, .inl (g_ca X 0, 178, .inl (fun _ => 0))), (q3, .inl (g_ca X 0, 90, .inl (fun _ => 0)))])) (by
      simp only [n_f8, List.cons_append, List.nil_append, List.set_cons_zero, List.append_assoc]
      rfl) ?_
    refine n_conv n_w8_pm ?_
    have e124 : n_ad8 ad (n_F8 q0 q1 q2 q3) 124 = ad 124 := rfl
    rw [← e124]
    refine n_begins (x := 4) (m := g_m1) (s := fun _ => 0) (lm := fun _ => 0) (pm := n_q0) O (n_E.cong rfl rfl E) hl rfl n_q0_lt dX8_init_41 rfl ?_
    exact n_ret O (n_F8 q0 q1 q2 q3) rfl dX8_init_44 (by decide) (by decide)
  rw [hX] at K
  exact K s.heap [] _ hP hD va_S.rf (lv_entry [.ref (ad 124)] (Nat.le_of_ble_eq_true rfl))
