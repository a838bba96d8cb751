/-! ===== CaveRelayModel(): behind the class's cells; its own begins over the flat world ===== -/
theorem w_oiX8 : Cond.methodLink RX8 1 Lib.objectInit ∈ gW := gW_in (i := 1080) (by decide +kernel) rfl
theorem FPFX8_7 (q : Nat) : g_FPF RX8 7 8 0 (.ref q) := ⟨RX8, TX8, 13, tyX8, rfl, by decide, uX8, w_fl_X8_7, tyX8_ok, nmX8, rfl, rfl, rfl, rfl⟩
theorem FPFX8_13 (q : Nat) : g_FPF RX8 13 8 1 (.ref q) := ⟨RX8, TX8, 13, tyX8, rfl, by decide, uX8, w_fl_X8_13, tyX8_ok, nmX8, rfl, rfl, rfl, rfl⟩
theorem FPFX8_16 (q : Nat) : g_FPF RX8 16 8 2 (.ref q) := ⟨RX8, TX8, 13, tyX8, rfl, by decide, uX8, w_fl_X8_16, tyX8_ok, nmX8, rfl, rfl, rfl, rfl⟩
theorem FPFX8_19 (q : Nat) : g_FPF RX8 19 8 4 (.ref q) := ⟨RX8, TX8, 13, tyX8, rfl, by decide, uX8, w_fl_X8_19, tyX8_ok, nmX8, rfl, rfl, rfl, rfl⟩
/-- the class's cells hang on the class's addresses alone -/
theorem g_ent_adr {ad1 ad2 : Nat → Nat} {ca : Nat → ClassId} {μ : g_M} (h : ∀ k, k < 124 → ad1 k = ad2 k) (hpm : ∀ t, t < 4 → μ.2.2.2 t < 5) {k : Nat} (hk : k < 124) : g_ent ad1 ca μ k = g_ent ad2 ca μ k := by
  rcases Nat.lt_or_ge k 120 with hk2 | hk2
  · have e : k = 24 * (k / 24) + k % 24 := by omega
    have hc : k / 24 < 5 := by omega
    have h0 : k % 24 < 24 := by omega
    rw [e, g_ent_c _ _ _ hc h0, g_ent_c _ _ _ hc h0]
    generalize k / 24 = c at hc
    generalize k % 24 = j0 at h0
    have hoc := n_oc_ok j0 h0
    have hrf := n_rf_ok j0 h0
    unfold g_ce
    cases ho : g_oc j0 with
    | some q =>
      rw [ho] at hoc hrf
      have h12 : q.2 ≤ 12 := by simpa using hoc
      show Sum.inr (q.1, _) = Sum.inr (q.1, _)
      rw [List.map_congr_left fun j hj => ?_]
      have hj : j < q.2 := List.mem_range.mp hj
      unfold g_sv
      cases hv : g_va j0 j with
      | true => rfl
      | false =>
        have hr : g_rf j0 j < 24 := hrf j (by omega) (by simp [hj, hv])
        show Value.ref (ad1 (24 * c + g_rf j0 j)) = Value.ref (ad2 (24 * c + g_rf j0 j))
        rw [h _ (by omega)]
    | none =>
      cases hi : g_ia j0 with
      | some n => rfl
      | none =>
        show Sum.inl (ca 2, 6, _) = Sum.inl (ca 2, 6, _)
        congr 7
        funext t
        cases ht : Nat.blt t 6 with
        | false => rfl
        | true =>
          have h2 : t < 6 := g_blt.mp ht
          show some (ad1 (24 * c + (10 + t))) = some (ad2 (24 * c + (10 + t)))
          rw [h _ (by omega)]
  · rw [g_ent_o _ _ _ hk2, g_ent_o _ _ _ hk2]
    have hc : k - 120 = 0 ∨ k - 120 = 1 ∨ k - 120 = 2 ∨ k - 120 = 3 := by omega
    rcases hc with e | e | e | e <;> rw [e] <;> unfold g_oe
    · show Sum.inr (6, [Value.ref (ad1 121), _]) = Sum.inr (6, [Value.ref (ad2 121), _])
      rw [h 121 (by omega)]
    · rfl
    · show Sum.inr (7, [Value.ref (ad1 0), Value.ref (ad1 123), _, Value.ref (ad1 120)]) = Sum.inr (7, [Value.ref (ad2 0), Value.ref (ad2 123), _, Value.ref (ad2 120)])
      rw [h 0 (by omega), h 123 (by omega), h 120 (by omega)]
    · show Sum.inl (ca 1, 4, _) = Sum.inl (ca 1, 4, _)
      congr 7
      funext t
      cases ht : Nat.blt t 4 with
      | false => rfl
      | true =>
        have h2 : t < 4 := g_blt.mp ht
        have := hpm t h2
        show some (ad1 (24 * μ.2.2.2 t)) = some (ad2 (24 * μ.2.2.2 t))
        rw [h _ (by omega)]
theorem g_ws_adr {ad1 ad2 : Nat → Nat} {ca : Nat → ClassId} {μ : g_M} (h : ∀ k, k < 129 → ad1 k = ad2 k) (hpm : ∀ t, t < 4 → μ.2.2.2 t < 5) {k : Nat} (hk : k < 129) : g_ent ad1 ca μ k = g_ent ad2 ca μ k := by
  rcases Nat.lt_or_ge k 124 with hk2 | hk2
  · exact g_ent_adr (fun i hi => h i (by omega)) hpm hk2
  · rw [g_ent_o _ _ _ (by omega), g_ent_o _ _ _ (by omega)]
    have hc : k - 120 = 4 ∨ k - 120 = 5 ∨ k - 120 = 6 ∨ k - 120 = 7 ∨ k - 120 = 8 := by omega
    rcases hc with e | e | e | e | e <;> rw [e] <;> unfold g_oe
    · rw [h 125 (by omega), h 126 (by omega), h 127 (by omega), h 128 (by omega)]
      rfl
    · rfl
    · rfl
    · rfl
    · rfl
theorem g_wn0 {μ : g_M} (h4 : μ.2.2.2 4 = 0) : g_wn μ = 129 := by unfold g_wn; rw [h4]; rfl
theorem g_ws_adr0 {ad1 ad2 : Nat → Nat} {ca : Nat → ClassId} {μ : g_M} (h : ∀ k, k < 129 → ad1 k = ad2 k) (hpm : ∀ t, t < 4 → μ.2.2.2 t < 5) (h4 : μ.2.2.2 4 = 0) : g_ws ad1 ca μ = g_ws ad2 ca μ := by
  unfold g_ws
  rw [g_wn0 h4]
  refine List.map_congr_left fun k hk => ?_
  have hk := List.mem_range.mp hk
  rw [h k hk, g_ws_adr h hpm hk]
/-- apart is apart, whatever the cells hold -/
theorem va_D_of {A : Nat → Prop} {ws ws' : va_W} (h : ∀ (k : Nat) (q : Nat × va_E), ws'[k]? = some q → ∃ e, ws[k]? = some (q.1, e)) (hD : va_D A ws) : va_D A ws' := by
  refine ⟨fun i j a b hi hj hab => ?_, fun k q hk => ?_⟩
  · obtain ⟨e, h1⟩ := h i a hi
    obtain ⟨e', h2⟩ := h j b hj
    exact hD.1 i j _ _ h1 h2 hab
  · obtain ⟨e, h1⟩ := h k q hk
    exact hD.2 k (q.1, e) h1
def n_adX (ad : Nat → Nat) (x : Nat) (k : Nat) : Nat := if k = 129 then x else ad k
section NB
variable {X : g_X} {A : Nat → Prop} {Q : State → Prop} {k n : Nat} {ws : va_W} {pc : Nat} {lc lc' : List (Nat × Value)} {st : List Value} {cc : ByteArray} {own : String} {R : Room}
theorem n_sipush (O : n_ok X A cc own R) {i : Int} {x : Int32} (hd : decode cc pc = .ok (.sipush i, 3)) (hv : (Int16.ofInt i).toInt32 = x) (kk : n_V X A Q k n ws (pc + 3) lc (.int x :: st)) : n_V X A Q k n ws pc lc st := fun H locs ls hP hD hS hh => lv_sipush O.exec O.code hd hv (kk H locs ls hP hD hS hh)
theorem n_begins {ad : Nat → Nat} {m s : Nat → Int32} {lm : Nat → Int64} {pm : Nat → Nat} {x : Int32} (O : n_ok X A cc RX8 R) (E : n_E ad A (g_xs X)) (hs : (g_xl X).stackTraces = false) (h4 : pm 4 = 0) (hpm : ∀ t, t < 4 → pm t < 5) (hd : decode cc pc = .ok (.invokevirtual 22, 3)) (hfit : g_fit R ({ frames := 0, cells := 0, slots := 0, locals := 0 } : Room) 3 k n = true)
    (kk : n_V X A Q k n (g_ws ad (g_ca X) (m, R_X8_begins s x, lm, pm)) (pc + 3) lc []) : n_V X A Q k n (g_ws ad (g_ca X) (m, s, lm, pm)) pc lc [.int x, .ref (ad 124)] := by
  intro H locs ls hP hD hS hh
  have hlt : ∀ k, k < 129 → ad k < H.size := fun k hk => (hP k _ (g_ws_at ad (g_ca X) (m, s, lm, pm) hk)).lt
  have hAk : ∀ k, k < 129 → A (ad k) := fun k hk => hD.2 k _ (g_ws_at ad (g_ca X) (m, s, lm, pm) hk)
  have hadr : ∀ k, k < 129 → n_adX ad H.size k = ad k := fun k hk => if_neg (by omega)
  have hw : ∀ t : Nat → Int32, g_ws (n_adX ad H.size) (g_ca X) (m, t, lm, pm) = g_ws ad (g_ca X) (m, t, lm, pm) := fun t => g_ws_adr0 hadr hpm h4
  have hinj : g_inj (n_adX ad H.size) := by
    intro i j hi hj hij
    unfold n_adX at hij
    by_cases h1 : i = 129
    · by_cases h2 : j = 129
      · omega
      · rw [if_pos h1, if_neg h2] at hij
        have := hlt j (by omega)
        omega
    · by_cases h2 : j = 129
      · rw [if_neg h1, if_pos h2] at hij
        have := hlt i (by omega)
        omega
      · rw [if_neg h1, if_neg h2] at hij
        exact hD.1 i j _ _ (g_ws_at ad (g_ca X) (m, s, lm, pm) (by omega)) (g_ws_at ad (g_ca X) (m, s, lm, pm) (by omega)) hij
  have hAs : ∀ q, g_A (n_adX ad H.size) H.size q → A q := by
    intro q hq
    rcases hq with ⟨k, hk, rfl⟩ | hq
    · by_cases h1 : k = 129
      · rw [h1]
        show A (if 129 = 129 then H.size else ad 129)
        rw [if_pos rfl]
        exact O.fresh _ hS.1
      · rw [hadr k (by omega)]
        exact hAk k (by omega)
    · exact O.fresh q (Nat.le_trans hS.1 hq)
  have hZ : g_Z (n_adX ad H.size) A (g_xs X) := E.1
  obtain ⟨LB, hin, hsel, T, N, hc⟩ := LX8_22
  obtain ⟨f1, f2⟩ := g_fit_of hfit
  have hM1 := met_X8_begins (g_xl X) hs lm pm m s x (g_xD X) (n_adX ad H.size) (g_ca X) H.size
  have e124 : n_adX ad H.size 124 = ad 124 := hadr 124 (by omega)
  have hP2 : va_P (g_xD X) vwCl (g_ws (n_adX ad H.size) (g_ca X) (m, s, lm, pm)) H := by rw [hw]; exact hP
  have hg : PreS (g_xs X) H (va_Pc [.ref (ad 124), .int x] (g_B (g_xD X) (n_adX ad H.size) (g_ca X) H.size m (s, lm, pm))) [.ref (ad 124), .int x] :=
    ⟨g_B.blind _, fun U hU hW => ⟨rfl, by rw [hU], by rw [hU]; exact hP2, va_K.moved hW.alike O.K, hinj, hZ.step hW (by rw [hU]; exact hS.1) (by rw [hU]; exact hS.2.1) hAs⟩⟩
  have cb : CallB (g_xR X) (g_xs X) (g_xa X) RX8 22 yX8_begins cX8_begins 3 none (Cond.code yX8_begins cX8_begins 3 none :: gW) ({ frames := 0, cells := 0, slots := 0, locals := 0 } : Room) 0 0 1 := by
    rw [O.room]
    exact callB_of (Ts := gW) 1 (fun w hw => O.word hw) (gW_cons LB.2.2.1) rfl rfl rfl (O.word LB.2.1) (O.word LB.1) LB.2.2.2 f1
  have e124' : (fun ad : Nat → Nat => [Value.ref (ad 124), .int x]) (n_adX ad H.size) = [.ref (ad 124), .int x] := by
    show [Value.ref (n_adX ad H.size 124), .int x] = _
    rw [e124]
  rw [e124'] at hM1
  have hr := vx_runV (p := g_xp X) (l := g_xl X) (e := g_xe X) (R := g_xR X) (s := g_xs X) (m := g_xm X) (args := g_xa X) (below := g_xb X) (meth := g_xt X) (c := g_xc X) (H := H) (locs := locs) (cells := k) (slots := n) (b := ad 124) (As := [.int x]) (rest := []) (g := F0 (g_xm X) pc ls [.int x, .ref (ad 124)]) (Ts := gW) ⟨O.exec, O.code, O.ml, O.host, fun w hw => O.word hw⟩ hM1 ⟨cb, O.word hin, O.word hsel⟩
    ⟨hg.1, va_recv (q0 := 124) (fs := [.ref (ad 125), .ref (ad 126), .ref (ad 127), .int (s 1300), .ref (ad 128), .int (s 1301), .int (s 1302), .int (s 1303), .int (s 1304), .int (s 1305), .int (s 1306), .int (s 1307), .long (lm 0)]) O.K hP hc (by rw [g_ws_at _ _ _ (by omega)]; rfl), hg.2⟩ rfl rfl hh.1 rfl (lv_room (Nat.le_of_ble_eq_true rfl)) hd (by rw [O.room]; exact f2)
  refine g_run hr hS hAs (fun v H1 locs1 hv hP1 hS1 => ?_) (fun E q9 ce H1 locs1 hv => by cases hv)
  cases hv
  refine kk H1 locs1 ls ?_ (va_D_of (fun i q hq => ?_) hD) hS1 hh
  · have hP1 : va_P (g_xD X) vwCl (g_ws (n_adX ad H.size) (g_ca X) (m, R_X8_begins s x, lm, pm)) H1 := hP1
    rw [hw] at hP1
    exact hP1
  · obtain ⟨-, rfl⟩ := g_ws_of hq
    refine ⟨_, g_ws_at' ad (g_ca X) (m, s, lm, pm) ?_⟩
    have h9 := (List.getElem?_eq_some_iff.mp hq).1
    unfold g_ws at h9
    have e1 : g_wn (m, R_X8_begins s x, lm, pm) = 129 := g_wn0 h4
    have e2 : g_wn (m, s, lm, pm) = 129 := g_wn0 h4
    rw [List.length_map, List.length_range, e1] at h9
    rw [e2]
    exact h9
end NB
