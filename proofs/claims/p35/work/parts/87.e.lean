/-! ===== the law's entry: rows in a world that is a list ===== -/
section LE
variable {X : g_X} {A : Nat → Prop} {Q : State → Prop} {k n : Nat} {w1 ws : va_W} {pc : Nat} {lc lc' : List (Nat × Value)} {st : List Value} {cc : ByteArray} {own : String} {R : Room}
theorem n_astore (O : n_ok X A cc own R) {i : Fin 4} {j x : Nat} (hd : decode cc pc = .ok (.astore_n i, 1)) (hi : (i : Nat) = j) (hn : j < g_xn X) (hl : (j, Value.ref x) :: lc.filter (fun q => !(q.1 == j) && !(q.1 + 1 == j && q.2.category == 2)) = lc') (kk : n_V X A Q k n ws (pc + 1) lc' st) : n_V X A Q k n ws pc lc (.ref x :: st) := fun H locs ls hP hD hS hh => lv_astore_n O.exec O.code hd hi hh hn hl (fun ls' hh' => kk H locs ls' hP hD hS hh')

theorem n_astoreW (O : n_ok X A cc own R) {j x : Nat} (hd : decode cc pc = .ok (.astore j, 2)) (hn : j < g_xn X) (hl : (j, Value.ref x) :: lc.filter (fun q => !(q.1 == j) && !(q.1 + 1 == j && q.2.category == 2)) = lc') (kk : n_V X A Q k n ws (pc + 2) lc' st) : n_V X A Q k n ws pc lc (.ref x :: st) := fun H locs ls hP hD hS hh => lv_astore O.exec O.code hd hh hn hl (fun ls' hh' => kk H locs ls' hP hD hS hh')

theorem n_c7_at {ad : Nat → Nat} {ca : Nat → ClassId} {μ : g_M} {i : Nat} (h : i < 124) : (n_c7 ad ca μ)[i]? = some (ad i, g_ent ad ca μ i) := by
  unfold n_c7
  rw [List.getElem?_map, List.getElem?_range h]
  rfl

theorem n_c7_len {ad : Nat → Nat} {ca : Nat → ClassId} {μ : g_M} : (n_c7 ad ca μ).length = 124 := by
  unfold n_c7
  rw [List.length_map, List.length_range]

end LE
theorem sbn_nil {s t : State} {L : List Loc} {k n : Nat} (h : s.sameButNew t L k n) (hL : ∀ q ∈ L, s.heap.size ≤ q.base) : s.sameButNew t [] k n := by
  obtain ⟨h1, h2, h3, h4, h5, h6⟩ := h
  refine ⟨h1, h2, h3, h4, h5, fun a c hc => ?_⟩
  obtain ⟨c', e1, e2, e3, e4⟩ := h6 a c hc
  refine ⟨c', e1, e2, e3, fun i _ => e4 i (fun hm => ?_)⟩
  have ha : a < s.heap.size := (Array.getElem?_eq_some_iff.mp hc).1
  have hb : s.heap.size ≤ a := hL _ hm
  exact absurd ha (Nat.not_lt.mpr hb)

theorem lw_out {s t : State} {below : List Frame} {a : Array Value} {D : va_G} {ad : Nat → Nat} {ca : Nat → ClassId} {A : Nat → Prop} {res : g_Res} (hr : res.1 = .inl (some (.int 1))) (hA : ∀ q, A q → s.heap.size ≤ q) (h : vx_MQ below (g_Qc D ad ca A res) (g_XC D ad ca A res) a s 734805 6897053 A t) : lw_Z below a s t := by
  obtain ⟨o, h1, h2, h3⟩ := h
  rcases h3 with ⟨⟨v, hv, ho, -, -⟩, L, ⟨hv2, hW, hs⟩, hL⟩ | ⟨q, -, E, ce, L, hx, -⟩
  · rw [hr] at hv
    cases hv
    exact ⟨o, h1, h2, ho, hv2, hW, sbn_nil hs (fun q hq => hA _ (hL q hq))⟩
  · obtain ⟨hv, -⟩ := hx
    rw [hr] at hv
    cases hv


theorem g_ent_pm {ad : Nat → Nat} {ca : Nat → ClassId} {a b : Nat → Int32} {c : Nat → Int64} {pm pm' : Nat → Nat} (h : ∀ t, t < 4 → pm t = pm' t) {k : Nat} (hk : k < 124) : g_ent ad ca (a, b, c, pm) k = g_ent ad ca (a, b, c, pm') k := by
  rcases Nat.lt_or_ge k 120 with hk2 | hk2
  · have e : k = 24 * (k / 24) + k % 24 := by omega
    rw [e, g_ent_c _ _ _ (by omega) (by omega), g_ent_c _ _ _ (by omega) (by omega)]
  · rw [g_ent_o _ _ _ hk2, g_ent_o _ _ _ hk2]
    have hc : k - 120 = 0 ∨ k - 120 = 1 ∨ k - 120 = 2 ∨ k - 120 = 3 := by omega
    rcases hc with e | e | e | e <;> rw [e] <;> unfold g_oe
    · rfl
    · rfl
    · rfl
    · show Sum.inl (ca 1, 4, _) = Sum.inl (ca 1, 4, _)
      congr 7
      funext t
      cases ht : Nat.blt t 4 with
      | false => rfl
      | true =>
        show some (ad (24 * pm t)) = some (ad (24 * pm' t))
        rw [h t (g_blt.mp ht)]

/-- the addresses: the class's cells, the law's eight arrays, the statics -/
def lw_ads (a z : Nat → Nat) (q0 q1 q2 q3 q4 q5 q6 q7 : Nat) (k : Nat) : Nat := if k < 124 then a k else if k = 124 then q0 else if k = 125 then q1 else if k = 126 then q2 else if k = 127 then q3 else if k = 128 then q4 else if k = 129 then q5 else if k = 130 then q6 else if k = 131 then q7 else z k
def n_μ2 : g_M := (g_m1, (fun _ => 0), (fun _ => 0), g_p1)
theorem n_wA_pm {a z : Nat → Nat} {ca : Nat → ClassId} {q0 q1 q2 q3 q4 q5 q6 q7 : Nat} : (∀ (D : va_G) (cl : List vw_C) (H : Heap), va_P D cl (n_c7 a ca n_μ0 ++ [(q0, .inl (ca 0, 13, .inl (fun _ => 0))), (q1, .inl (ca 0, 7, .inl (fun _ => 0))), (q2, .inl (ca 0, 7, .inl (fun _ => 0))), (q3, .inl (ca 0, 7, .inl (fun _ => 0))), (q4, .inl (ca 0, 24, .inl (fun _ => 0))), (q5, .inl (ca 0, 54, .inl (fun _ => 0))), (q6, .inl (ca 0, 33, .inl (fun _ => 0))), (q7, .inl (ca 0, 36, .inl (fun _ => 0)))]) H → va_P D cl (g_ws (lw_ads a z q0 q1 q2 q3 q4 q5 q6 q7) ca n_μ2) H) ∧ ∀ A : Nat → Prop, va_D A (n_c7 a ca n_μ0 ++ [(q0, .inl (ca 0, 13, .inl (fun _ => 0))), (q1, .inl (ca 0, 7, .inl (fun _ => 0))), (q2, .inl (ca 0, 7, .inl (fun _ => 0))), (q3, .inl (ca 0, 7, .inl (fun _ => 0))), (q4, .inl (ca 0, 24, .inl (fun _ => 0))), (q5, .inl (ca 0, 54, .inl (fun _ => 0))), (q6, .inl (ca 0, 33, .inl (fun _ => 0))), (q7, .inl (ca 0, 36, .inl (fun _ => 0)))]) → va_D A (g_ws (lw_ads a z q0 q1 q2 q3 q4 q5 q6 q7) ca n_μ2) := by
  have z4 : ∀ o n t, (fun _ => (0 : Int32)) t = g_rw (fun _ => 0) o n t := fun o n t => by
    show (0 : Int32) = cond (Nat.blt t n) 0 0
    cases Nat.blt t n <;> rfl
  refine n_pm (fun i => i) (fun i j hi hj hh => hh) (fun i e he => ?_)
  obtain ⟨hi, rfl⟩ := g_ws_of he
  by_cases h : i < 124
  · have ha : ∀ k, k < 124 → a k = lw_ads a z q0 q1 q2 q3 q4 q5 q6 q7 k := fun k hk => by
      unfold lw_ads
      rw [if_pos hk]
    refine ⟨_, ?_, n_eq_of ((g_ent_adr (μ := n_μ0) ha n_q0_lt h).trans (g_ent_pm (fun t ht => ?_) h))⟩
    · rw [n_in n_c7_len h, n_c7_at h]
      show some (a i, _) = some (lw_ads a z q0 q1 q2 q3 q4 q5 q6 q7 i, _)
      rw [← ha i h]
    · unfold n_q0 g_p1
      rw [if_pos ht, if_pos ht]
  · have h9 : i = 124 ∨ i = 125 ∨ i = 126 ∨ i = 127 ∨ i = 128 ∨ i = 129 ∨ i = 130 ∨ i = 131 := by
      have hi2 : i < 132 := hi
      omega
    rcases h9 with rfl | rfl | rfl | rfl | rfl | rfl | rfl | rfl
    · exact ⟨_, by rw [n_out (n := 124) (j := 0) n_c7_len rfl]; rfl, n_eq_i (show ∀ t, t < 13 → (fun _ => (0 : Int32)) t = g_rw (fun _ => 0) 0 13 t from fun t _ => z4 0 13 t)⟩
    · exact ⟨_, by rw [n_out (n := 124) (j := 1) n_c7_len rfl]; rfl, n_eq_i (show ∀ t, t < 7 → (fun _ => (0 : Int32)) t = g_rw (fun _ => 0) 13 7 t from fun t _ => z4 13 7 t)⟩
    · exact ⟨_, by rw [n_out (n := 124) (j := 2) n_c7_len rfl]; rfl, n_eq_i (show ∀ t, t < 7 → (fun _ => (0 : Int32)) t = g_rw (fun _ => 0) 20 7 t from fun t _ => z4 20 7 t)⟩
    · exact ⟨_, by rw [n_out (n := 124) (j := 3) n_c7_len rfl]; rfl, n_eq_i (show ∀ t, t < 7 → (fun _ => (0 : Int32)) t = g_rw (fun _ => 0) 27 7 t from fun t _ => z4 27 7 t)⟩
    · exact ⟨_, by rw [n_out (n := 124) (j := 4) n_c7_len rfl]; rfl, n_eq_i (show ∀ t, t < 24 → (fun _ => (0 : Int32)) t = g_rw (fun _ => 0) 34 24 t from fun t _ => z4 34 24 t)⟩
    · exact ⟨_, by rw [n_out (n := 124) (j := 5) n_c7_len rfl]; rfl, n_eq_i (show ∀ t, t < 54 → (fun _ => (0 : Int32)) t = g_rw (fun _ => 0) 58 54 t from fun t _ => z4 58 54 t)⟩
    · exact ⟨_, by rw [n_out (n := 124) (j := 6) n_c7_len rfl]; rfl, n_eq_i (show ∀ t, t < 33 → (fun _ => (0 : Int32)) t = g_rw (fun _ => 0) 112 30 t from fun t _ => z4 112 30 t)⟩
    · exact ⟨_, by rw [n_out (n := 124) (j := 7) n_c7_len rfl]; rfl, n_eq_i (show ∀ t, t < 36 → (fun _ => (0 : Int32)) t = g_rw (fun _ => 0) 142 36 t from fun t _ => z4 142 36 t)⟩
theorem n_cl_L7 : Cond.classLink RL 96 RX7 ∈ gW := gW_in (i := 27) (by decide +kernel) rfl
abbrev lw_X (p : Program) (l : Launch) (e : Env) (s : State) (m : MethodId) (below : List Frame) (meth : Method) (c : Code) (b : Nat) (D : va_G) (ad : Nat → Nat) (ca : Nat → ClassId) : g_X := ((p, l, e, room_1), (s, m, #[Value.ref b], below, meth, c), (D, ad, ca), 13)
theorem n_sub {X : g_X} {A : Nat → Prop} {Q : State → Prop} {k n : Nat} {ws : va_W} {pc : Nat} {lc lc' : List (Nat × Value)} {st : List Value} (is : List Nat) (hl : lv_pick lc is = lc') (kk : n_V X A Q k n ws pc lc' st) : n_V X A Q k n ws pc lc st := fun H locs ls hP hD hS hh => kk H locs ls hP hD hS (lv_sub hh is hl)
theorem n_toV {p : Program} {l : Launch} {e : Env} {s : State} {m : MethodId} {below : List Frame} {meth : Method} {c : Code} {b : Nat} {D : va_G} {ad0 ad : Nat → Nat} {ca : Nat → ClassId} {m0 s0 : Nat → Int32} {lm : Nat → Int64} {pm : Nat → Nat} {k n pc : Nat} {lc : List (Nat × Value)}
    (h : g_inj ad → (∀ k, k < 132 → s.heap.size ≤ ad k) → lw_E (lw_X p l e s m below meth c b D ad ca) k n m0 s0 lm pm pc lc) : n_V (lw_X p l e s m below meth c b D ad0 ca) (fun q => s.heap.size ≤ q) (lw_Z below #[Value.ref b] s) k n (g_ws ad ca (m0, s0, lm, pm)) pc lc [] := by
  intro H locs ls hP hD hS hh
  have hA : ∀ k, k < 132 → s.heap.size ≤ ad k := fun k hk => hD.2 k _ (g_ws_at ad ca (m0, s0, lm, pm) hk)
  have hinj : g_inj ad := fun i j hi hj hij => hD.1 i j _ _ (g_ws_at ad ca (m0, s0, lm, pm) hi) (g_ws_at ad ca (m0, s0, lm, pm) hj) hij
  obtain ⟨res, hr, K⟩ := h hinj hA
  intro T hT X
  obtain ⟨t, st, hQ⟩ := K H locs ls hP ⟨hS.1, fun q h1 h2 => hS.2.1 q h1 (fun z => h2 (Or.inr z)), fun l hl => Or.inr (hS.2.2 l hl)⟩ hh T hT X
  refine ⟨t, st, lw_out hr (fun q hq => ?_) hQ⟩
  rcases hq with ⟨k, hk, rfl⟩ | hq
  · exact hA k hk
  · exact hq
set_option maxRecDepth 100000 in
set_option maxHeartbeats 4000000 in
theorem whole_start {p : Program} {e : Env} {s : State} {m : MethodId} {below : List Frame} {meth : Method} {c : Code} (l : Launch) (hflags : l.flags = flags0) {b L : Nat} {xs : Nat → Int32} (hL : L ≤ 260) (C0 : lw_At p s m meth c b L xs) : W p l e room_1 s m #[Value.ref b] below meth c s.heap [] 0 0 (lw_Z below #[Value.ref b] s) (entryFrame m ([Value.ref b] : List Value).toArray 13) := by
  obtain ⟨D, ca, adz, hK, hE⟩ := lw_entry C0
  obtain ⟨hx, hb, hr, hml, hown, ht, hX, hbl, hlocks, hgv, htab⟩ := id C0
  have hs : l.stackTraces = false := by
    unfold Launch.stackTraces
    rw [hflags]
    decide +kernel
  have O : n_ok (lw_X p l e s m below meth c b D adz ca) (fun q => s.heap.size ≤ q) cL_law RL room_1 := ⟨hx, hb, hml, hown, fun w hw => ht w (gW_tbl w hw), hK, hlocks, fun h => absurd rfl h, rfl, fun q hq => hq⟩
  have hN : ∀ j, Nat.blt j 13 = true → j < g_xn (lw_X p l e s m below meth c b D adz ca) := fun j h => g_blt.mp h
  rw [lg_entry_eq]
  have K : n_V (lw_X p l e s m below meth c b D adz ca) (fun q => s.heap.size ≤ q) (lw_Z below #[Value.ref b] s) 0 0 [] 0 [(0, .ref b)] [] := by
    refine n_new O (ci := 7) (fs := n_f7) tyX7 rfl uX7 tyX7_ok n_cl_L7 n_in_7 w_ini_X7 n_df_X7 (Nat.le_of_ble_eq_true rfl) (Nat.le_of_ble_eq_true rfl) dL_law_0 (fun h => ?_)
    refine n_dup O dL_law_3 rfl ?_
    refine n_callE O hE (n_X7 l) LBL_180 w_i_X7_init rfl rfl dL_law_4 rfl (fun f => ?_)
    refine n_astore (lc' := [(1, .ref h), (0, .ref b)]) O dL_law_7 rfl (hN 1 rfl) rfl ?_
    refine n_bipush (x := 13) O dL_law_8 rfl ?_
    refine n_newa O (N := 13) (by decide) rfl (by decide) (Nat.le_of_ble_eq_true rfl) (Nat.le_of_ble_eq_true rfl) dL_law_10 (fun q0 => ?_)
    refine n_astore (lc' := [(2, .ref q0), (1, .ref h), (0, .ref b)]) O dL_law_12 rfl (hN 2 rfl) rfl ?_
    refine n_bipush (x := 7) O dL_law_13 rfl ?_
    refine n_newa O (N := 7) (by decide) rfl (by decide) (Nat.le_of_ble_eq_true rfl) (Nat.le_of_ble_eq_true rfl) dL_law_15 (fun q1 => ?_)
    refine n_astore (lc' := [(3, .ref q1), (2, .ref q0), (1, .ref h), (0, .ref b)]) O dL_law_17 rfl (hN 3 rfl) rfl ?_
    refine n_bipush (x := 7) O dL_law_18 rfl ?_
    refine n_newa O (N := 7) (by decide) rfl (by decide) (Nat.le_of_ble_eq_true rfl) (Nat.le_of_ble_eq_true rfl) dL_law_20 (fun q2 => ?_)
    refine n_astoreW (lc' := [(4, .ref q2), (3, .ref q1), (2, .ref q0), (1, .ref h), (0, .ref b)]) O dL_law_22 (hN 4 rfl) rfl ?_
    refine n_bipush (x := 7) O dL_law_24 rfl ?_
    refine n_newa O (N := 7) (by decide) rfl (by decide) (Nat.le_of_ble_eq_true rfl) (Nat.le_of_ble_eq_true rfl) dL_law_26 (fun q3 => ?_)
    refine n_astoreW (lc' := [(5, .ref q3), (4, .ref q2), (3, .ref q1), (2, .ref q0), (1, .ref h), (0, .ref b)]) O dL_law_28 (hN 5 rfl) rfl ?_
    refine n_bipush (x := 24) O dL_law_30 rfl ?_
    refine n_newa O (N := 24) (by decide) rfl (by decide) (Nat.le_of_ble_eq_true rfl) (Nat.le_of_ble_eq_true rfl) dL_law_32 (fun q4 => ?_)
    refine n_astoreW (lc' := [(6, .ref q4), (5, .ref q3), (4, .ref q2), (3, .ref q1), (2, .ref q0), (1, .ref h), (0, .ref b)]) O dL_law_34 (hN 6 rfl) rfl ?_
    refine n_bipush (x := 54) O dL_law_36 rfl ?_
    refine n_newa O (N := 54) (by decide) rfl (by decide) (Nat.le_of_ble_eq_true rfl) (Nat.le_of_ble_eq_true rfl) dL_law_38 (fun q5 => ?_)
    refine n_astoreW (lc' := [(7, .ref q5), (6, .ref q4), (5, .ref q3), (4, .ref q2), (3, .ref q1), (2, .ref q0), (1, .ref h), (0, .ref b)]) O dL_law_40 (hN 7 rfl) rfl ?_
    refine n_bipush (x := 33) O dL_law_42 rfl ?_
    refine n_newa O (N := 33) (by decide) rfl (by decide) (Nat.le_of_ble_eq_true rfl) (Nat.le_of_ble_eq_true rfl) dL_law_44 (fun q6 => ?_)
    refine n_astoreW (lc' := [(8, .ref q6), (7, .ref q5), (6, .ref q4), (5, .ref q3), (4, .ref q2), (3, .ref q1), (2, .ref q0), (1, .ref h), (0, .ref b)]) O dL_law_46 (hN 8 rfl) rfl ?_
    refine n_bipush (x := 36) O dL_law_48 rfl ?_
    refine n_newa O (N := 36) (by decide) rfl (by decide) (Nat.le_of_ble_eq_true rfl) (Nat.le_of_ble_eq_true rfl) dL_law_50 (fun q7 => ?_)
    refine n_astoreW (lc' := [(9, .ref q7), (8, .ref q6), (7, .ref q5), (6, .ref q4), (5, .ref q3), (4, .ref q2), (3, .ref q1), (2, .ref q0), (1, .ref h), (0, .ref b)]) O dL_law_52 (hN 9 rfl) rfl ?_
    obtain ⟨ad, had⟩ : ∃ ad : Nat → Nat, ad = lw_ads (n_ad7 h f) adz q0 q1 q2 q3 q4 q5 q6 q7 := ⟨_, rfl⟩
    have e132 : adz 132 = ad 132 := by rw [had]; rfl
    have e133 : adz 133 = ad 133 := by rw [had]; rfl
    refine n_sub [9, 8, 7, 6, 5, 4, 3, 2, 1, 0] rfl ?_
    refine n_same (ws' := n_c7 (n_ad7 h f) ca n_μ0 ++ [(q0, .inl (ca 0, 13, .inl (fun _ => 0))), (q1, .inl (ca 0, 7, .inl (fun _ => 0))), (q2, .inl (ca 0, 7, .inl (fun _ => 0))), (q3, .inl (ca 0, 7, .inl (fun _ => 0))), (q4, .inl (ca 0, 24, .inl (fun _ => 0))), (q5, .inl (ca 0, 54, .inl (fun _ => 0))), (q6, .inl (ca 0, 33, .inl (fun _ => 0))), (q7, .inl (ca 0, 36, .inl (fun _ => 0)))]) (by simp only [List.append_assoc, List.cons_append, List.nil_append]) ?_
    refine n_conv (n_wA_pm (z := adz)) ?_
    rw [← had]
    refine n_toV (m0 := g_m1) (s0 := fun _ => 0) (lm := fun _ => 0) (pm := g_p1) (fun hinj hA9 => ?_)
    have hAA : ∀ z, g_A ad s.heap.size z → s.heap.size ≤ z := fun z hz => by
      rcases hz with ⟨k, hk, rfl⟩ | hz
      · exact hA9 k hk
      · exact hz
    have hZ9 : g_Z ad (g_A ad s.heap.size) s := (n_E.cong (ad2 := ad) e132 e133 hE).1.step (State.WarmedH.refl s) (Nat.le_refl _) (fun _ _ _ => rfl) hAA
    have Z : lw_O (lw_X p l e s m below meth c b D ad ca) := ⟨⟨hx, hb, hml, hown, fun w hw => ht w (gW_tbl w hw), hK, hinj, hZ9, hlocks, hr, rfl, htab⟩, hE.2.1, hs, rfl⟩
    have V : g_Sx b L xs (g_xA (lw_X p l e s m below meth c b D ad ca)) (g_xs (lw_X p l e s m below meth c b D ad ca)) := ⟨hX, hbl, fun z => absurd hbl (Nat.not_lt.mpr (hAA b z))⟩
    have F := lw_rows (k := 0 + 1 + 123 + 1 + 1 + 1 + 1 + 1 + 1 + 1 + 1) (n := 0 + 4 + 1101 + 13 + 7 + 7 + 7 + 24 + 54 + 33 + 36) (lm := fun _ => 0) Z V hL (by omega) (by omega)
    unfold lw_b at F
    have f122 : ad 122 = h := by rw [had]; rfl
    have f124 : ad 124 = q0 := by rw [had]; rfl
    have f125 : ad 125 = q1 := by rw [had]; rfl
    have f126 : ad 126 = q2 := by rw [had]; rfl
    have f127 : ad 127 = q3 := by rw [had]; rfl
    have f128 : ad 128 = q4 := by rw [had]; rfl
    have f129 : ad 129 = q5 := by rw [had]; rfl
    have f130 : ad 130 = q6 := by rw [had]; rfl
    have f131 : ad 131 = q7 := by rw [had]; rfl
    have F2 : lw_E (lw_X p l e s m below meth c b D ad ca) (0 + 1 + 123 + 1 + 1 + 1 + 1 + 1 + 1 + 1 + 1) (0 + 4 + 1101 + 13 + 7 + 7 + 7 + 24 + 54 + 33 + 36) g_m1 (fun _ => 0) (fun _ => 0) g_p1 54 [(0, .ref b), (1, .ref (ad 122)), (2, .ref (ad 124)), (3, .ref (ad 125)), (4, .ref (ad 126)), (5, .ref (ad 127)), (6, .ref (ad 128)), (7, .ref (ad 129)), (8, .ref (ad 130)), (9, .ref (ad 131))] := F
    rw [f122, f124, f125, f126, f127, f128, f129, f130, f131] at F2
    exact F2
  exact K s.heap [] _ (fun k q h => by simp at h) ⟨fun i j p q h => by simp at h, fun k q h => by simp at h⟩ va_S.rf (lv_entry [.ref b] (Nat.le_of_ble_eq_true rfl))
