/-! ===== the law from its entry ===== -/
theorem g_ent_pm {ad : Nat → Nat} {ca : Nat → ClassId} {a b : Nat → Int32} {c : Nat → Int64} {pm pm' : Nat → Nat} (h : ∀ t, t < 4 → pm t = pm' t) {k : Nat} (hk : k < 129) : g_ent ad ca (a, b, c, pm) k = g_ent ad ca (a, b, c, pm') k := by
  rcases Nat.lt_or_ge k 120 with hk2 | hk2
  · have e : k = 24 * (k / 24) + k % 24 := by omega
    rw [e, g_ent_c _ _ _ (by omega) (by omega), g_ent_c _ _ _ (by omega) (by omega)]
  · rw [g_ent_o _ _ _ hk2, g_ent_o _ _ _ hk2]
    have hc : k - 120 = 0 ∨ k - 120 = 1 ∨ k - 120 = 2 ∨ k - 120 = 3 ∨ k - 120 = 4 ∨ k - 120 = 5 ∨ k - 120 = 6 ∨ k - 120 = 7 ∨ k - 120 = 8 := by omega
    rcases hc with e | e | e | e | e | e | e | e | e <;> rw [e] <;> unfold g_oe
    · rfl
    · rfl
    · rfl
    · show Sum.inl (ca 1, 4, _) = Sum.inl (ca 1, 4, _)
      congr 7
      funext t
      cases ht : Nat.blt t 4 with
      | false => rfl
      | true =>
        show some (ad (24 * pm t)) = some (ad (24 * pm' t))
        rw [h t (g_blt.mp ht)]
    · rfl
    · rfl
    · rfl
    · rfl
    · rfl
theorem n_c7_cong {ad1 ad2 : Nat → Nat} {ca : Nat → ClassId} (h : ∀ k, k < 124 → ad1 k = ad2 k) : n_c7 ad1 ca n_μ0 = n_c7 ad2 ca n_μ0 := by
  unfold n_c7
  refine List.map_congr_left fun k hk => ?_
  have hk := List.mem_range.mp hk
  rw [h k hk, g_ent_adr (μ := n_μ0) h n_q0_lt hk]
def n_μ2 : g_M := (g_m1, g_s1, (fun _ => 0), g_p1)
theorem n_w9_pm {ad : Nat → Nat} {ca : Nat → ClassId} {q : Nat} : (∀ (D : va_G) (cl : List vw_C) (H : Heap), va_P D cl (g_ws ad ca n_μ1 ++ [(q, .inl (ca 3, 1, .inr (.inl (fun _ => 0))))]) H → va_P D cl (g_ws (n_adX ad q) ca n_μ2) H) ∧ ∀ A : Nat → Prop, va_D A (g_ws ad ca n_μ1 ++ [(q, .inl (ca 3, 1, .inr (.inl (fun _ => 0))))]) → va_D A (g_ws (n_adX ad q) ca n_μ2) := by
  have hl : (g_ws ad ca n_μ1).length = 129 := by
    unfold g_ws
    rw [List.length_map, List.length_range]
    exact g_wn0 rfl
  refine n_pm (fun i => i) (fun i j hi hj hh => hh) (fun i e he => ?_)
  obtain ⟨hi, rfl⟩ := g_ws_of he
  by_cases h : i < 129
  · have ha : ∀ k, k < 129 → ad k = n_adX ad q k := fun k hk => by
      unfold n_adX
      rw [if_neg (by omega)]
    refine ⟨_, ?_, n_eq_of ((g_ws_adr (μ := n_μ1) ha n_q0_lt h).trans (g_ent_pm (fun t ht => ?_) h))⟩
    · rw [n_in hl h, g_ws_at ad ca n_μ1 h]
      show some (ad i, _) = some (n_adX ad q i, _)
      rw [← ha i h]
    · unfold n_q0 g_p1
      rw [if_pos ht, if_pos ht]
  · have h9 : i = 129 := by omega
    subst h9
    refine ⟨_, by rw [n_out (n := 129) (j := 0) hl rfl]; rfl, n_eq_of ?_⟩
    show (Sum.inl (ca 3, 1, _) : va_E) = Sum.inl (ca 3, 1, Sum.inr (Sum.inl (fun t => cond (Nat.blt t 1) 0 0)))
    congr 5
    funext t
    cases Nat.blt t 1 <;> rfl
theorem n_df_X8 : ∀ j, j < 13 → defaultValue (tyX8 j) = vp_V n_f8 j := fun j hj => by
  have h : j = 0 ∨ j = 1 ∨ j = 2 ∨ j = 3 ∨ j = 4 ∨ j = 5 ∨ j = 6 ∨ j = 7 ∨ j = 8 ∨ j = 9 ∨ j = 10 ∨ j = 11 ∨ j = 12 := by omega
  rcases h with rfl | rfl | rfl | rfl | rfl | rfl | rfl | rfl | rfl | rfl | rfl | rfl | rfl <;> rfl
theorem n_cl_L7 : Cond.classLink RL 8 RX7 ∈ gW := gW_in (i := 90) (by decide +kernel) rfl
theorem n_cl_L8 : Cond.classLink RL 98 RX8 ∈ gW := gW_in (i := 1075) (by decide +kernel) rfl
abbrev lw_X (p : Program) (l : Launch) (e : Env) (s : State) (m : MethodId) (below : List Frame) (meth : Method) (c : Code) (b : Nat) (D : va_G) (ad : Nat → Nat) (ca : Nat → ClassId) : g_X := ((p, l, e, room_1), (s, m, #[Value.ref b], below, meth, c), (D, ad, ca), 9)
theorem n_sub {X : g_X} {A : Nat → Prop} {Q : State → Prop} {k n : Nat} {ws : va_W} {pc : Nat} {lc lc' : List (Nat × Value)} {st : List Value} (is : List Nat) (hl : lv_pick lc is = lc') (kk : n_V X A Q k n ws pc lc' st) : n_V X A Q k n ws pc lc st := fun H locs ls hP hD hS hh => kk H locs ls hP hD hS (lv_sub hh is hl)
theorem n_toV {p : Program} {l : Launch} {e : Env} {s : State} {m : MethodId} {below : List Frame} {meth : Method} {c : Code} {b : Nat} {D : va_G} {ad0 ad : Nat → Nat} {ca : Nat → ClassId} {m0 : Nat → Int32} {q : g_q} {k n pc : Nat} {lc : List (Nat × Value)} (h4 : q.2.2 4 = 1)
    (h : g_inj ad → (∀ k, k < 130 → s.heap.size ≤ ad k) → lw_E (lw_X p l e s m below meth c b D ad ca) k n m0 q pc lc) : n_V (lw_X p l e s m below meth c b D ad0 ca) (fun q => s.heap.size ≤ q) (lw_Z below #[Value.ref b] s) k n (g_ws ad ca (m0, q)) pc lc [] := by
  intro H locs ls hP hD hS hh
  have hw : ∀ k, k < 130 → k < g_wn (m0, q) := fun k hk => by
    unfold g_wn
    rw [h4]
    exact hk
  have hA : ∀ k, k < 130 → s.heap.size ≤ ad k := fun k hk => hD.2 k _ (g_ws_at' ad ca (m0, q) (hw k hk))
  have hinj : g_inj ad := fun i j hi hj hij => hD.1 i j _ _ (g_ws_at' ad ca (m0, q) (hw i hi)) (g_ws_at' ad ca (m0, q) (hw j hj)) hij
  obtain ⟨res, hr, K⟩ := h hinj hA
  intro T hT X
  obtain ⟨t, st, hQ⟩ := K H locs ls hP ⟨hS.1, fun q h1 h2 => hS.2.1 q h1 (fun z => h2 (Or.inr z)), fun l hl => Or.inr (hS.2.2 l hl)⟩ hh T hT X
  refine ⟨t, st, lw_out hr (fun q hq => ?_) hQ⟩
  rcases hq with ⟨k, hk, rfl⟩ | hq
  · exact hA k hk
  · exact hq
set_option maxRecDepth 100000 in
set_option maxHeartbeats 4000000 in
theorem whole_start {p : Program} {e : Env} {s : State} {m : MethodId} {below : List Frame} {meth : Method} {c : Code} (l : Launch) (hflags : l.flags = flags0) {b L : Nat} {xs : Nat → Int32} (hL : L ≤ 2048) (C0 : lw_At p s m meth c b L xs) : W p l e room_1 s m #[Value.ref b] below meth c s.heap [] 0 0 (lw_Z below #[Value.ref b] s) (entryFrame m ([Value.ref b] : List Value).toArray 9) := by
  obtain ⟨D, ca, adz, hK, hE⟩ := lw_entry C0
  obtain ⟨hx, hb, hr, hml, hown, ht, hX, hbl, hlocks, hgv⟩ := id C0
  have hs : l.stackTraces = false := by
    unfold Launch.stackTraces
    rw [hflags]
    decide +kernel
  have O : n_ok (lw_X p l e s m below meth c b D adz ca) (fun q => s.heap.size ≤ q) cL_law RL room_1 := ⟨hx, hb, hml, hown, fun w hw => ht w (gW_tbl w hw), hK, hlocks, fun h => absurd rfl h, rfl, fun q hq => hq⟩
  have hN : ∀ j, Nat.blt j 9 = true → j < g_xn (lw_X p l e s m below meth c b D adz ca) := fun j h => g_blt.mp h
  rw [lg_entry_eq]
  have K : n_V (lw_X p l e s m below meth c b D adz ca) (fun q => s.heap.size ≤ q) (lw_Z below #[Value.ref b] s) 0 0 [] 0 [(0, .ref b)] [] := by
    refine n_new O (ci := 7) (fs := n_f7) tyX7 rfl uX7 tyX7_ok n_cl_L7 n_in_7 w_ini_X7 n_df_X7 (Nat.le_of_ble_eq_true rfl) (Nat.le_of_ble_eq_true rfl) dL_law_0 (fun h => ?_)
    refine n_dup O dL_law_3 rfl ?_
    refine n_callE O hE (n_X7 l) LBL_97 w_i_X7_init rfl rfl dL_law_4 rfl (fun f => ?_)
    refine n_astore (lc' := [(1, .ref h), (0, .ref b)]) O dL_law_7 rfl (hN 1 rfl) rfl ?_
    refine n_new O (ci := 8) (fs := n_f8) tyX8 rfl uX8 tyX8_ok n_cl_L8 n_in_8 w_ini_X8 n_df_X8 (Nat.le_of_ble_eq_true rfl) (Nat.le_of_ble_eq_true rfl) dL_law_8 (fun h8 => ?_)
    refine n_dup O dL_law_11 rfl ?_
    obtain ⟨ad, had⟩ : ∃ ad : Nat → Nat, ad = fun k => if k < 124 then n_ad7 h f k else if k = 124 then h8 else adz k := ⟨_, rfl⟩
    have e7 : ∀ k, k < 124 → n_ad7 h f k = ad k := fun k hk => by
      rw [had]
      show _ = if k < 124 then n_ad7 h f k else _
      rw [if_pos hk]
    have e124 : ad 124 = h8 := by rw [had]; rfl
    have e130 : adz 130 = ad 130 := by rw [had]; rfl
    have e131 : adz 131 = ad 131 := by rw [had]; rfl
    have e122 : ad 122 = h := (e7 122 (by omega)).symm
    rw [← e124]
    refine n_same (ws' := n_c7 ad ca n_μ0 ++ [(ad 124, .inr (8, n_f8))]) (by rw [← n_c7_cong e7]; rfl) ?_
    refine n_call8 O (n_E.cong e130 e131 hE) (n_X8 l hs) LBL_100 w_i_X8_init rfl dL_law_12 rfl (fun f8 => ?_)
    refine n_astore (lc' := [(2, .ref (ad 124)), (1, .ref h), (0, .ref b)]) O dL_law_15 rfl (hN 2 rfl) rfl ?_
    refine n_iconst (x := 1) O dL_law_16 rfl ?_
    refine n_newl O (N := 1) (by decide) rfl (by decide) (Nat.le_of_ble_eq_true rfl) (Nat.le_of_ble_eq_true rfl) dL_law_17 (fun q => ?_)
    refine n_astore (lc' := [(3, .ref q), (2, .ref (ad 124)), (1, .ref h), (0, .ref b)]) O dL_law_19 rfl (hN 3 rfl) rfl ?_
    refine n_iconst (x := 0) O dL_law_20 rfl ?_
    refine n_istoreW (lc' := [(4, .int 0), (3, .ref q), (2, .ref (ad 124)), (1, .ref h), (0, .ref b)]) O dL_law_21 (hN 4 rfl) rfl ?_
    refine n_sub [0, 4, 3, 2, 1] rfl ?_
    refine n_conv n_w9_pm ?_
    refine n_toV (m0 := g_m1) (q := (g_s1, (fun _ => 0), g_p1)) rfl (fun hinj hA9 => ?_)
    have f122 : n_adX (n_ad8 ad f8) q 122 = h := e122
    have f124 : n_adX (n_ad8 ad f8) q 124 = ad 124 := rfl
    have f129 : n_adX (n_ad8 ad f8) q 129 = q := rfl
    have hAA : ∀ z, g_A (n_adX (n_ad8 ad f8) q) s.heap.size z → s.heap.size ≤ z := fun z hz => by
      rcases hz with ⟨k, hk, rfl⟩ | hz
      · exact hA9 k hk
      · exact hz
    have hZ9 : g_Z (n_adX (n_ad8 ad f8) q) (g_A (n_adX (n_ad8 ad f8) q) s.heap.size) s := (n_E.cong (ad2 := n_adX (n_ad8 ad f8) q) e130 e131 hE).1.step (State.WarmedH.refl s) (Nat.le_refl _) (fun _ _ _ => rfl) hAA
    have Z : lw_O (lw_X p l e s m below meth c b D (n_adX (n_ad8 ad f8) q) ca) := ⟨⟨hx, hb, hml, hown, fun w hw => ht w (gW_tbl w hw), hK, hinj, hZ9, hlocks, hr, rfl, rfl⟩, hE.2.1, hs, rfl⟩
    have V : lw_V (lw_X p l e s m below meth c b D (n_adX (n_ad8 ad f8) q) ca) b L xs := ⟨hX, hbl, fun z => absurd hbl (Nat.not_lt.mpr (hAA b z))⟩
    have F := lw_loop Z V hL L 0 g_m1 g_s1 (fun _ => 0) g_p1 (0 + 1 + 123 + 1 + 4 + 1) (0 + 4 + 1101 + 13 + 1158 + 1) (by omega) (by omega) start_rel (by omega) (by omega)
    unfold lw_lc at F
    have F2 : lw_E (lw_X p l e s m below meth c b D (n_adX (n_ad8 ad f8) q) ca) (0 + 1 + 123 + 1 + 4 + 1) (0 + 4 + 1101 + 13 + 1158 + 1) g_m1 (g_s1, (fun _ => 0), g_p1) 23 [(4, .int (nI (4 * 0))), (0, .ref b), (1, .ref (n_adX (n_ad8 ad f8) q 122)), (2, .ref (n_adX (n_ad8 ad f8) q 124)), (3, .ref (n_adX (n_ad8 ad f8) q 129))] := F
    rw [f122, f124, f129] at F2
    exact F2
  exact K s.heap [] _ (fun k q h => by simp at h) ⟨fun i j p q h => by simp at h, fun k q h => by simp at h⟩ va_S.rf (lv_entry [.ref b] (Nat.le_of_ble_eq_true rfl))
