/-! ===== slots: reading and writing the flat world ===== -/
section GSL
variable {ad : Nat → Nat} {ca : Nat → ClassId} {m : Nat → Int32} {q : g_q}
theorem g_Gc {c j0 j ci N : Nat} (hc : c < 5) (h0 : j0 < 24) (ho : g_oc j0 = some (ci, N)) (hj : j < N) : g_G ad ca (m, q) (24 * c + j0) ci j (g_sv ad m c j0 j) := by
  refine ⟨by omega, (List.range N).map (g_sv ad m c j0), ?_, ?_⟩
  · rw [g_ent_c ad ca _ hc h0]
    unfold g_ce
    rw [ho]
  · rw [List.getElem?_map, List.getElem?_range hj]
    rfl
theorem g_Sc {c j0 j ci N : Nat} (x : Int32) (hc : c < 5) (h0 : j0 < 24) (ho : g_oc j0 = some (ci, N)) (hj : j < N) (hv : g_va j0 j = true) : g_S ad ca (m, q) (24 * c + j0) ci j (.int x) (upd m (178 * c + g_nl j0 j) x, q) := by
  refine ⟨by omega, (List.range N).map (g_sv ad m c j0), ?_, by simpa using hj, g_set_obj hc h0 hv ho hj⟩
  rw [g_ent_c ad ca _ hc h0]
  unfold g_ce
  rw [ho]
theorem g_Rc {c j0 n : Nat} (hc : c < 5) (h0 : j0 < 24) (ho : g_oc j0 = none) (ha : g_ia j0 = some n) : g_R ad ca (m, q) (24 * c + j0) n (fun t => m (178 * c + g_nl j0 t)) := by
  refine ⟨by omega, n, Nat.le_refl n, g_ar m c j0 n, ?_, fun t ht => ?_⟩
  · rw [g_ent_c ad ca _ hc h0]
    unfold g_ce
    rw [ho, ha]
  · unfold g_ar
    rw [g_blt.mpr ht]
    rfl
theorem g_Tc {c j0 n : Nat} (hc : c < 5) (h0 : j0 < 24) (ho : g_oc j0 = none) (ha : g_ia j0 = some n) (hn : n ≤ 12) : g_T ad ca (m, q) (24 * c + j0) n (fun t x => (upd m (178 * c + g_nl j0 t) x, q)) := by
  refine ⟨by omega, n, Nat.le_refl n, g_ar m c j0 n, ?_, fun t x ht => ?_⟩
  · rw [g_ent_c ad ca _ hc h0]
    unfold g_ce
    rw [ho, ha]
  · exact g_set_arr hc h0 ho ha ht ((g_va_ia h0 (by omega) ha).symm.trans (g_blt.mpr ht))
theorem g_oc_h {h : Nat} (hh : h < 6) : g_oc (10 + h) = some (1, 9) := by
  have : h = 0 ∨ h = 1 ∨ h = 2 ∨ h = 3 ∨ h = 4 ∨ h = 5 := by omega
  rcases this with rfl | rfl | rfl | rfl | rfl | rfl <;> rfl
theorem g_nl_h {h : Nat} (hh : h < 6) (j : Nat) : g_nl (10 + h) j = 58 + 9 * h + j := by
  have : h = 0 ∨ h = 1 ∨ h = 2 ∨ h = 3 ∨ h = 4 ∨ h = 5 := by omega
  rcases this with rfl | rfl | rfl | rfl | rfl | rfl <;> simp [g_nl]
theorem g_va_h {h : Nat} (hh : h < 6) {j : Nat} (hj : j < 9) : g_va (10 + h) j = true := by
  have : h = 0 ∨ h = 1 ∨ h = 2 ∨ h = 3 ∨ h = 4 ∨ h = 5 := by omega
  rcases this with rfl | rfl | rfl | rfl | rfl | rfl <;> exact g_blt.mpr hj
/-- helper h of cave c, field j -/
theorem g_Ghc {c h j : Nat} (hc : c < 5) (hh : h < 6) (hj : j < 9) : g_G ad ca (m, q) (24 * c + (10 + h)) 1 j (.int (m (178 * c + (58 + 9 * h + j)))) := by
  have := g_Gc (ad := ad) (ca := ca) (m := m) (q := q) (c := c) (j0 := 10 + h) (j := j) hc (by omega) (g_oc_h hh) hj
  unfold g_sv at this
  rw [g_va_h hh hj, g_nl_h hh] at this
  exact this
theorem g_Shc {c h j : Nat} (x : Int32) (hc : c < 5) (hh : h < 6) (hj : j < 9) : g_S ad ca (m, q) (24 * c + (10 + h)) 1 j (.int x) (upd m (178 * c + (58 + 9 * h + j)) x, q) := by
  have := g_Sc (ad := ad) (ca := ca) (m := m) (q := q) (c := c) (j0 := 10 + h) (j := j) x hc (by omega) (g_oc_h hh) hj (g_va_h hh hj)
  rw [g_nl_h hh] at this
  exact this
theorem G_h {h j : Nat} (hh : h < 6) (hj : j < 9) : g_G ad ca (m, q) (10 + h) 1 j (.int (m (58 + 9 * h + j))) := by
  have := g_Ghc (ad := ad) (ca := ca) (m := m) (q := q) (c := 0) (by omega) hh hj
  simpa using this
theorem S_h {h j : Nat} (x : Int32) (hh : h < 6) (hj : j < 9) : g_S ad ca (m, q) (10 + h) 1 j (.int x) (upd m (58 + 9 * h + j) x, q) := by
  have := g_Shc (ad := ad) (ca := ca) (m := m) (q := q) (c := 0) x (by omega) hh hj
  simpa using this
theorem obj_c {c j0 ci N : Nat} (hc : c < 5) (h0 : j0 < 24) (ho : g_oc j0 = some (ci, N)) : g_obj ci (24 * c + j0) := by
  refine ⟨by omega, fun ad ca μ => ⟨(List.range N).map (g_sv ad μ.1 c j0), ?_⟩⟩
  rw [g_ent_c ad ca _ hc h0]
  unfold g_ce
  rw [ho]
theorem obj_h {h : Nat} (hh : h < 6) : g_obj 1 (10 + h) := by
  have := obj_c (c := 0) (j0 := 10 + h) (by omega) (by omega) (g_oc_h hh)
  simpa using this
theorem obj_hc {c h : Nat} (hc : c < 5) (hh : h < 6) : g_obj 1 (24 * c + (10 + h)) := obj_c hc (by omega) (g_oc_h hh)
theorem obj_0 : g_obj 0 0 := obj_c (c := 0) (j0 := 0) (by omega) (by omega) rfl
theorem G_0_0 : g_G ad ca (m, q) 0 0 0 (.ref (ad 1)) := g_Gc (c := 0) (j0 := 0) (by omega) (by omega) rfl (by omega)
theorem Gc_0_0 {c : Nat} (hc : c < 5) : g_G ad ca (m, q) (24 * c + 0) 0 0 (.ref (ad (24 * c + 1))) := g_Gc (j0 := 0) hc (by omega) rfl (by omega)
theorem G_0_1 : g_G ad ca (m, q) 0 0 1 (.ref (ad 5)) := g_Gc (c := 0) (j0 := 0) (by omega) (by omega) rfl (by omega)
theorem Gc_0_1 {c : Nat} (hc : c < 5) : g_G ad ca (m, q) (24 * c + 0) 0 1 (.ref (ad (24 * c + 5))) := g_Gc (j0 := 0) hc (by omega) rfl (by omega)
theorem G_0_2 : g_G ad ca (m, q) 0 0 2 (.ref (ad 9)) := g_Gc (c := 0) (j0 := 0) (by omega) (by omega) rfl (by omega)
theorem Gc_0_2 {c : Nat} (hc : c < 5) : g_G ad ca (m, q) (24 * c + 0) 0 2 (.ref (ad (24 * c + 9))) := g_Gc (j0 := 0) hc (by omega) rfl (by omega)
theorem G_0_3 : g_G ad ca (m, q) 0 0 3 (.int (m 2)) := g_Gc (c := 0) (j0 := 0) (by omega) (by omega) rfl (by omega)
theorem S_0_3 (x : Int32) : g_S ad ca (m, q) 0 0 3 (.int x) (upd m 2 x, q) := g_Sc (c := 0) (j0 := 0) x (by omega) (by omega) rfl (by omega) rfl
theorem Gc_0_3 {c : Nat} (hc : c < 5) : g_G ad ca (m, q) (24 * c + 0) 0 3 (.int (m (178 * c + 2))) := g_Gc (j0 := 0) hc (by omega) rfl (by omega)
theorem Sc_0_3 {c : Nat} (x : Int32) (hc : c < 5) : g_S ad ca (m, q) (24 * c + 0) 0 3 (.int x) (upd m (178 * c + 2) x, q) := g_Sc (j0 := 0) x hc (by omega) rfl (by omega) rfl
theorem G_0_4 : g_G ad ca (m, q) 0 0 4 (.ref (ad 16)) := g_Gc (c := 0) (j0 := 0) (by omega) (by omega) rfl (by omega)
theorem Gc_0_4 {c : Nat} (hc : c < 5) : g_G ad ca (m, q) (24 * c + 0) 0 4 (.ref (ad (24 * c + 16))) := g_Gc (j0 := 0) hc (by omega) rfl (by omega)
theorem G_0_5 : g_G ad ca (m, q) 0 0 5 (.ref (ad 20)) := g_Gc (c := 0) (j0 := 0) (by omega) (by omega) rfl (by omega)
theorem Gc_0_5 {c : Nat} (hc : c < 5) : g_G ad ca (m, q) (24 * c + 0) 0 5 (.ref (ad (24 * c + 20))) := g_Gc (j0 := 0) hc (by omega) rfl (by omega)
theorem G_0_6 : g_G ad ca (m, q) 0 0 6 (.int (m 3)) := g_Gc (c := 0) (j0 := 0) (by omega) (by omega) rfl (by omega)
theorem S_0_6 (x : Int32) : g_S ad ca (m, q) 0 0 6 (.int x) (upd m 3 x, q) := g_Sc (c := 0) (j0 := 0) x (by omega) (by omega) rfl (by omega) rfl
theorem Gc_0_6 {c : Nat} (hc : c < 5) : g_G ad ca (m, q) (24 * c + 0) 0 6 (.int (m (178 * c + 3))) := g_Gc (j0 := 0) hc (by omega) rfl (by omega)
theorem Sc_0_6 {c : Nat} (x : Int32) (hc : c < 5) : g_S ad ca (m, q) (24 * c + 0) 0 6 (.int x) (upd m (178 * c + 3) x, q) := g_Sc (j0 := 0) x hc (by omega) rfl (by omega) rfl
theorem G_0_7 : g_G ad ca (m, q) 0 0 7 (.int (m 4)) := g_Gc (c := 0) (j0 := 0) (by omega) (by omega) rfl (by omega)
theorem S_0_7 (x : Int32) : g_S ad ca (m, q) 0 0 7 (.int x) (upd m 4 x, q) := g_Sc (c := 0) (j0 := 0) x (by omega) (by omega) rfl (by omega) rfl
theorem Gc_0_7 {c : Nat} (hc : c < 5) : g_G ad ca (m, q) (24 * c + 0) 0 7 (.int (m (178 * c + 4))) := g_Gc (j0 := 0) hc (by omega) rfl (by omega)
theorem Sc_0_7 {c : Nat} (x : Int32) (hc : c < 5) : g_S ad ca (m, q) (24 * c + 0) 0 7 (.int x) (upd m (178 * c + 4) x, q) := g_Sc (j0 := 0) x hc (by omega) rfl (by omega) rfl
theorem G_0_8 : g_G ad ca (m, q) 0 0 8 (.int (m 5)) := g_Gc (c := 0) (j0 := 0) (by omega) (by omega) rfl (by omega)
theorem S_0_8 (x : Int32) : g_S ad ca (m, q) 0 0 8 (.int x) (upd m 5 x, q) := g_Sc (c := 0) (j0 := 0) x (by omega) (by omega) rfl (by omega) rfl
theorem Gc_0_8 {c : Nat} (hc : c < 5) : g_G ad ca (m, q) (24 * c + 0) 0 8 (.int (m (178 * c + 5))) := g_Gc (j0 := 0) hc (by omega) rfl (by omega)
theorem Sc_0_8 {c : Nat} (x : Int32) (hc : c < 5) : g_S ad ca (m, q) (24 * c + 0) 0 8 (.int x) (upd m (178 * c + 5) x, q) := g_Sc (j0 := 0) x hc (by omega) rfl (by omega) rfl
theorem G_0_9 : g_G ad ca (m, q) 0 0 9 (.int (m 9)) := g_Gc (c := 0) (j0 := 0) (by omega) (by omega) rfl (by omega)
theorem S_0_9 (x : Int32) : g_S ad ca (m, q) 0 0 9 (.int x) (upd m 9 x, q) := g_Sc (c := 0) (j0 := 0) x (by omega) (by omega) rfl (by omega) rfl
theorem Gc_0_9 {c : Nat} (hc : c < 5) : g_G ad ca (m, q) (24 * c + 0) 0 9 (.int (m (178 * c + 9))) := g_Gc (j0 := 0) hc (by omega) rfl (by omega)
theorem Sc_0_9 {c : Nat} (x : Int32) (hc : c < 5) : g_S ad ca (m, q) (24 * c + 0) 0 9 (.int x) (upd m (178 * c + 9) x, q) := g_Sc (j0 := 0) x hc (by omega) rfl (by omega) rfl
theorem G_0_10 : g_G ad ca (m, q) 0 0 10 (.int (m 10)) := g_Gc (c := 0) (j0 := 0) (by omega) (by omega) rfl (by omega)
theorem S_0_10 (x : Int32) : g_S ad ca (m, q) 0 0 10 (.int x) (upd m 10 x, q) := g_Sc (c := 0) (j0 := 0) x (by omega) (by omega) rfl (by omega) rfl
theorem Gc_0_10 {c : Nat} (hc : c < 5) : g_G ad ca (m, q) (24 * c + 0) 0 10 (.int (m (178 * c + 10))) := g_Gc (j0 := 0) hc (by omega) rfl (by omega)
theorem Sc_0_10 {c : Nat} (x : Int32) (hc : c < 5) : g_S ad ca (m, q) (24 * c + 0) 0 10 (.int x) (upd m (178 * c + 10) x, q) := g_Sc (j0 := 0) x hc (by omega) rfl (by omega) rfl
theorem G_0_11 : g_G ad ca (m, q) 0 0 11 (.int (m 11)) := g_Gc (c := 0) (j0 := 0) (by omega) (by omega) rfl (by omega)
theorem S_0_11 (x : Int32) : g_S ad ca (m, q) 0 0 11 (.int x) (upd m 11 x, q) := g_Sc (c := 0) (j0 := 0) x (by omega) (by omega) rfl (by omega) rfl
theorem Gc_0_11 {c : Nat} (hc : c < 5) : g_G ad ca (m, q) (24 * c + 0) 0 11 (.int (m (178 * c + 11))) := g_Gc (j0 := 0) hc (by omega) rfl (by omega)
theorem Sc_0_11 {c : Nat} (x : Int32) (hc : c < 5) : g_S ad ca (m, q) (24 * c + 0) 0 11 (.int x) (upd m (178 * c + 11) x, q) := g_Sc (j0 := 0) x hc (by omega) rfl (by omega) rfl
theorem obj_1 : g_obj 4 1 := obj_c (c := 0) (j0 := 1) (by omega) (by omega) rfl
theorem G_1_0 : g_G ad ca (m, q) 1 4 0 (.ref (ad 2)) := g_Gc (c := 0) (j0 := 1) (by omega) (by omega) rfl (by omega)
theorem Gc_1_0 {c : Nat} (hc : c < 5) : g_G ad ca (m, q) (24 * c + 1) 4 0 (.ref (ad (24 * c + 2))) := g_Gc (j0 := 1) hc (by omega) rfl (by omega)
theorem G_1_1 : g_G ad ca (m, q) 1 4 1 (.ref (ad 3)) := g_Gc (c := 0) (j0 := 1) (by omega) (by omega) rfl (by omega)
theorem Gc_1_1 {c : Nat} (hc : c < 5) : g_G ad ca (m, q) (24 * c + 1) 4 1 (.ref (ad (24 * c + 3))) := g_Gc (j0 := 1) hc (by omega) rfl (by omega)
theorem G_1_2 : g_G ad ca (m, q) 1 4 2 (.ref (ad 4)) := g_Gc (c := 0) (j0 := 1) (by omega) (by omega) rfl (by omega)
theorem Gc_1_2 {c : Nat} (hc : c < 5) : g_G ad ca (m, q) (24 * c + 1) 4 2 (.ref (ad (24 * c + 4))) := g_Gc (j0 := 1) hc (by omega) rfl (by omega)
theorem G_1_3 : g_G ad ca (m, q) 1 4 3 (.int (m 0)) := g_Gc (c := 0) (j0 := 1) (by omega) (by omega) rfl (by omega)
theorem S_1_3 (x : Int32) : g_S ad ca (m, q) 1 4 3 (.int x) (upd m 0 x, q) := g_Sc (c := 0) (j0 := 1) x (by omega) (by omega) rfl (by omega) rfl
theorem Gc_1_3 {c : Nat} (hc : c < 5) : g_G ad ca (m, q) (24 * c + 1) 4 3 (.int (m (178 * c + 0))) := g_Gc (j0 := 1) hc (by omega) rfl (by omega)
theorem Sc_1_3 {c : Nat} (x : Int32) (hc : c < 5) : g_S ad ca (m, q) (24 * c + 1) 4 3 (.int x) (upd m (178 * c + 0) x, q) := g_Sc (j0 := 1) x hc (by omega) rfl (by omega) rfl
theorem obj_5 : g_obj 5 5 := obj_c (c := 0) (j0 := 5) (by omega) (by omega) rfl
theorem G_5_0 : g_G ad ca (m, q) 5 5 0 (.ref (ad 6)) := g_Gc (c := 0) (j0 := 5) (by omega) (by omega) rfl (by omega)
theorem Gc_5_0 {c : Nat} (hc : c < 5) : g_G ad ca (m, q) (24 * c + 5) 5 0 (.ref (ad (24 * c + 6))) := g_Gc (j0 := 5) hc (by omega) rfl (by omega)
theorem G_5_1 : g_G ad ca (m, q) 5 5 1 (.ref (ad 7)) := g_Gc (c := 0) (j0 := 5) (by omega) (by omega) rfl (by omega)
theorem Gc_5_1 {c : Nat} (hc : c < 5) : g_G ad ca (m, q) (24 * c + 5) 5 1 (.ref (ad (24 * c + 7))) := g_Gc (j0 := 5) hc (by omega) rfl (by omega)
theorem G_5_2 : g_G ad ca (m, q) 5 5 2 (.ref (ad 8)) := g_Gc (c := 0) (j0 := 5) (by omega) (by omega) rfl (by omega)
theorem Gc_5_2 {c : Nat} (hc : c < 5) : g_G ad ca (m, q) (24 * c + 5) 5 2 (.ref (ad (24 * c + 8))) := g_Gc (j0 := 5) hc (by omega) rfl (by omega)
theorem G_5_3 : g_G ad ca (m, q) 5 5 3 (.int (m 1)) := g_Gc (c := 0) (j0 := 5) (by omega) (by omega) rfl (by omega)
theorem S_5_3 (x : Int32) : g_S ad ca (m, q) 5 5 3 (.int x) (upd m 1 x, q) := g_Sc (c := 0) (j0 := 5) x (by omega) (by omega) rfl (by omega) rfl
theorem Gc_5_3 {c : Nat} (hc : c < 5) : g_G ad ca (m, q) (24 * c + 5) 5 3 (.int (m (178 * c + 1))) := g_Gc (j0 := 5) hc (by omega) rfl (by omega)
theorem Sc_5_3 {c : Nat} (x : Int32) (hc : c < 5) : g_S ad ca (m, q) (24 * c + 5) 5 3 (.int x) (upd m (178 * c + 1) x, q) := g_Sc (j0 := 5) x hc (by omega) rfl (by omega) rfl
theorem obj_16 : g_obj 3 16 := obj_c (c := 0) (j0 := 16) (by omega) (by omega) rfl
theorem G_16_0 : g_G ad ca (m, q) 16 3 0 (.ref (ad 17)) := g_Gc (c := 0) (j0 := 16) (by omega) (by omega) rfl (by omega)
theorem Gc_16_0 {c : Nat} (hc : c < 5) : g_G ad ca (m, q) (24 * c + 16) 3 0 (.ref (ad (24 * c + 17))) := g_Gc (j0 := 16) hc (by omega) rfl (by omega)
theorem G_16_1 : g_G ad ca (m, q) 16 3 1 (.ref (ad 18)) := g_Gc (c := 0) (j0 := 16) (by omega) (by omega) rfl (by omega)
theorem Gc_16_1 {c : Nat} (hc : c < 5) : g_G ad ca (m, q) (24 * c + 16) 3 1 (.ref (ad (24 * c + 18))) := g_Gc (j0 := 16) hc (by omega) rfl (by omega)
theorem G_16_2 : g_G ad ca (m, q) 16 3 2 (.ref (ad 19)) := g_Gc (c := 0) (j0 := 16) (by omega) (by omega) rfl (by omega)
theorem Gc_16_2 {c : Nat} (hc : c < 5) : g_G ad ca (m, q) (24 * c + 16) 3 2 (.ref (ad (24 * c + 19))) := g_Gc (j0 := 16) hc (by omega) rfl (by omega)
theorem G_16_3 : g_G ad ca (m, q) 16 3 3 (.int (m 6)) := g_Gc (c := 0) (j0 := 16) (by omega) (by omega) rfl (by omega)
theorem S_16_3 (x : Int32) : g_S ad ca (m, q) 16 3 3 (.int x) (upd m 6 x, q) := g_Sc (c := 0) (j0 := 16) x (by omega) (by omega) rfl (by omega) rfl
theorem Gc_16_3 {c : Nat} (hc : c < 5) : g_G ad ca (m, q) (24 * c + 16) 3 3 (.int (m (178 * c + 6))) := g_Gc (j0 := 16) hc (by omega) rfl (by omega)
theorem Sc_16_3 {c : Nat} (x : Int32) (hc : c < 5) : g_S ad ca (m, q) (24 * c + 16) 3 3 (.int x) (upd m (178 * c + 6) x, q) := g_Sc (j0 := 16) x hc (by omega) rfl (by omega) rfl
theorem G_16_4 : g_G ad ca (m, q) 16 3 4 (.int (m 7)) := g_Gc (c := 0) (j0 := 16) (by omega) (by omega) rfl (by omega)
theorem S_16_4 (x : Int32) : g_S ad ca (m, q) 16 3 4 (.int x) (upd m 7 x, q) := g_Sc (c := 0) (j0 := 16) x (by omega) (by omega) rfl (by omega) rfl
theorem Gc_16_4 {c : Nat} (hc : c < 5) : g_G ad ca (m, q) (24 * c + 16) 3 4 (.int (m (178 * c + 7))) := g_Gc (j0 := 16) hc (by omega) rfl (by omega)
theorem Sc_16_4 {c : Nat} (x : Int32) (hc : c < 5) : g_S ad ca (m, q) (24 * c + 16) 3 4 (.int x) (upd m (178 * c + 7) x, q) := g_Sc (j0 := 16) x hc (by omega) rfl (by omega) rfl
theorem obj_20 : g_obj 2 20 := obj_c (c := 0) (j0 := 20) (by omega) (by omega) rfl
theorem G_20_0 : g_G ad ca (m, q) 20 2 0 (.ref (ad 21)) := g_Gc (c := 0) (j0 := 20) (by omega) (by omega) rfl (by omega)
theorem Gc_20_0 {c : Nat} (hc : c < 5) : g_G ad ca (m, q) (24 * c + 20) 2 0 (.ref (ad (24 * c + 21))) := g_Gc (j0 := 20) hc (by omega) rfl (by omega)
theorem G_20_1 : g_G ad ca (m, q) 20 2 1 (.ref (ad 22)) := g_Gc (c := 0) (j0 := 20) (by omega) (by omega) rfl (by omega)
theorem Gc_20_1 {c : Nat} (hc : c < 5) : g_G ad ca (m, q) (24 * c + 20) 2 1 (.ref (ad (24 * c + 22))) := g_Gc (j0 := 20) hc (by omega) rfl (by omega)
theorem G_20_2 : g_G ad ca (m, q) 20 2 2 (.ref (ad 23)) := g_Gc (c := 0) (j0 := 20) (by omega) (by omega) rfl (by omega)
theorem Gc_20_2 {c : Nat} (hc : c < 5) : g_G ad ca (m, q) (24 * c + 20) 2 2 (.ref (ad (24 * c + 23))) := g_Gc (j0 := 20) hc (by omega) rfl (by omega)
theorem G_20_3 : g_G ad ca (m, q) 20 2 3 (.int (m 12)) := g_Gc (c := 0) (j0 := 20) (by omega) (by omega) rfl (by omega)
theorem S_20_3 (x : Int32) : g_S ad ca (m, q) 20 2 3 (.int x) (upd m 12 x, q) := g_Sc (c := 0) (j0 := 20) x (by omega) (by omega) rfl (by omega) rfl
theorem Gc_20_3 {c : Nat} (hc : c < 5) : g_G ad ca (m, q) (24 * c + 20) 2 3 (.int (m (178 * c + 12))) := g_Gc (j0 := 20) hc (by omega) rfl (by omega)
theorem Sc_20_3 {c : Nat} (x : Int32) (hc : c < 5) : g_S ad ca (m, q) (24 * c + 20) 2 3 (.int x) (upd m (178 * c + 12) x, q) := g_Sc (j0 := 20) x hc (by omega) rfl (by omega) rfl
theorem G_20_4 : g_G ad ca (m, q) 20 2 4 (.int (m 8)) := g_Gc (c := 0) (j0 := 20) (by omega) (by omega) rfl (by omega)
theorem S_20_4 (x : Int32) : g_S ad ca (m, q) 20 2 4 (.int x) (upd m 8 x, q) := g_Sc (c := 0) (j0 := 20) x (by omega) (by omega) rfl (by omega) rfl
theorem Gc_20_4 {c : Nat} (hc : c < 5) : g_G ad ca (m, q) (24 * c + 20) 2 4 (.int (m (178 * c + 8))) := g_Gc (j0 := 20) hc (by omega) rfl (by omega)
theorem Sc_20_4 {c : Nat} (x : Int32) (hc : c < 5) : g_S ad ca (m, q) (24 * c + 20) 2 4 (.int x) (upd m (178 * c + 8) x, q) := g_Sc (j0 := 20) x hc (by omega) rfl (by omega) rfl
theorem R_2 : g_R ad ca (m, q) 2 7 (fun t => m (13 + t)) := by
  have := g_Rc (ad := ad) (ca := ca) (m := m) (q := q) (c := 0) (j0 := 2) (by omega) (by omega) rfl rfl
  simpa [g_nl] using this
theorem T_2 : g_T ad ca (m, q) 2 7 (fun t x => (upd m (13 + t) x, q)) := by
  have := g_Tc (ad := ad) (ca := ca) (m := m) (q := q) (c := 0) (j0 := 2) (by omega) (by omega) rfl rfl (by omega)
  simpa [g_nl] using this
theorem Rc_2 {c : Nat} (hc : c < 5) : g_R ad ca (m, q) (24 * c + 2) 7 (fun t => m (178 * c + (13 + t))) := by
  have := g_Rc (ad := ad) (ca := ca) (m := m) (q := q) (c := c) (j0 := 2) hc (by omega) rfl rfl
  simpa [g_nl] using this
theorem Tc_2 {c : Nat} (hc : c < 5) : g_T ad ca (m, q) (24 * c + 2) 7 (fun t x => (upd m (178 * c + (13 + t)) x, q)) := by
  have := g_Tc (ad := ad) (ca := ca) (m := m) (q := q) (c := c) (j0 := 2) hc (by omega) rfl rfl (by omega)
  simpa [g_nl] using this
theorem R_3 : g_R ad ca (m, q) 3 7 (fun t => m (20 + t)) := by
  have := g_Rc (ad := ad) (ca := ca) (m := m) (q := q) (c := 0) (j0 := 3) (by omega) (by omega) rfl rfl
  simpa [g_nl] using this
theorem T_3 : g_T ad ca (m, q) 3 7 (fun t x => (upd m (20 + t) x, q)) := by
  have := g_Tc (ad := ad) (ca := ca) (m := m) (q := q) (c := 0) (j0 := 3) (by omega) (by omega) rfl rfl (by omega)
  simpa [g_nl] using this
theorem Rc_3 {c : Nat} (hc : c < 5) : g_R ad ca (m, q) (24 * c + 3) 7 (fun t => m (178 * c + (20 + t))) := by
  have := g_Rc (ad := ad) (ca := ca) (m := m) (q := q) (c := c) (j0 := 3) hc (by omega) rfl rfl
  simpa [g_nl] using this
theorem Tc_3 {c : Nat} (hc : c < 5) : g_T ad ca (m, q) (24 * c + 3) 7 (fun t x => (upd m (178 * c + (20 + t)) x, q)) := by
  have := g_Tc (ad := ad) (ca := ca) (m := m) (q := q) (c := c) (j0 := 3) hc (by omega) rfl rfl (by omega)
  simpa [g_nl] using this
theorem R_4 : g_R ad ca (m, q) 4 7 (fun t => m (27 + t)) := by
  have := g_Rc (ad := ad) (ca := ca) (m := m) (q := q) (c := 0) (j0 := 4) (by omega) (by omega) rfl rfl
  simpa [g_nl] using this
theorem T_4 : g_T ad ca (m, q) 4 7 (fun t x => (upd m (27 + t) x, q)) := by
  have := g_Tc (ad := ad) (ca := ca) (m := m) (q := q) (c := 0) (j0 := 4) (by omega) (by omega) rfl rfl (by omega)
  simpa [g_nl] using this
theorem Rc_4 {c : Nat} (hc : c < 5) : g_R ad ca (m, q) (24 * c + 4) 7 (fun t => m (178 * c + (27 + t))) := by
  have := g_Rc (ad := ad) (ca := ca) (m := m) (q := q) (c := c) (j0 := 4) hc (by omega) rfl rfl
  simpa [g_nl] using this
theorem Tc_4 {c : Nat} (hc : c < 5) : g_T ad ca (m, q) (24 * c + 4) 7 (fun t x => (upd m (178 * c + (27 + t)) x, q)) := by
  have := g_Tc (ad := ad) (ca := ca) (m := m) (q := q) (c := c) (j0 := 4) hc (by omega) rfl rfl (by omega)
  simpa [g_nl] using this
theorem R_6 : g_R ad ca (m, q) 6 8 (fun t => m (34 + 3 * t)) := by
  have := g_Rc (ad := ad) (ca := ca) (m := m) (q := q) (c := 0) (j0 := 6) (by omega) (by omega) rfl rfl
  simpa [g_nl] using this
theorem T_6 : g_T ad ca (m, q) 6 8 (fun t x => (upd m (34 + 3 * t) x, q)) := by
  have := g_Tc (ad := ad) (ca := ca) (m := m) (q := q) (c := 0) (j0 := 6) (by omega) (by omega) rfl rfl (by omega)
  simpa [g_nl] using this
theorem Rc_6 {c : Nat} (hc : c < 5) : g_R ad ca (m, q) (24 * c + 6) 8 (fun t => m (178 * c + (34 + 3 * t))) := by
  have := g_Rc (ad := ad) (ca := ca) (m := m) (q := q) (c := c) (j0 := 6) hc (by omega) rfl rfl
  simpa [g_nl] using this
theorem Tc_6 {c : Nat} (hc : c < 5) : g_T ad ca (m, q) (24 * c + 6) 8 (fun t x => (upd m (178 * c + (34 + 3 * t)) x, q)) := by
  have := g_Tc (ad := ad) (ca := ca) (m := m) (q := q) (c := c) (j0 := 6) hc (by omega) rfl rfl (by omega)
  simpa [g_nl] using this
theorem R_7 : g_R ad ca (m, q) 7 8 (fun t => m (35 + 3 * t)) := by
  have := g_Rc (ad := ad) (ca := ca) (m := m) (q := q) (c := 0) (j0 := 7) (by omega) (by omega) rfl rfl
  simpa [g_nl] using this
theorem T_7 : g_T ad ca (m, q) 7 8 (fun t x => (upd m (35 + 3 * t) x, q)) := by
  have := g_Tc (ad := ad) (ca := ca) (m := m) (q := q) (c := 0) (j0 := 7) (by omega) (by omega) rfl rfl (by omega)
  simpa [g_nl] using this
theorem Rc_7 {c : Nat} (hc : c < 5) : g_R ad ca (m, q) (24 * c + 7) 8 (fun t => m (178 * c + (35 + 3 * t))) := by
  have := g_Rc (ad := ad) (ca := ca) (m := m) (q := q) (c := c) (j0 := 7) hc (by omega) rfl rfl
  simpa [g_nl] using this
theorem Tc_7 {c : Nat} (hc : c < 5) : g_T ad ca (m, q) (24 * c + 7) 8 (fun t x => (upd m (178 * c + (35 + 3 * t)) x, q)) := by
  have := g_Tc (ad := ad) (ca := ca) (m := m) (q := q) (c := c) (j0 := 7) hc (by omega) rfl rfl (by omega)
  simpa [g_nl] using this
theorem R_8 : g_R ad ca (m, q) 8 8 (fun t => m (36 + 3 * t)) := by
  have := g_Rc (ad := ad) (ca := ca) (m := m) (q := q) (c := 0) (j0 := 8) (by omega) (by omega) rfl rfl
  simpa [g_nl] using this
theorem T_8 : g_T ad ca (m, q) 8 8 (fun t x => (upd m (36 + 3 * t) x, q)) := by
  have := g_Tc (ad := ad) (ca := ca) (m := m) (q := q) (c := 0) (j0 := 8) (by omega) (by omega) rfl rfl (by omega)
  simpa [g_nl] using this
theorem Rc_8 {c : Nat} (hc : c < 5) : g_R ad ca (m, q) (24 * c + 8) 8 (fun t => m (178 * c + (36 + 3 * t))) := by
  have := g_Rc (ad := ad) (ca := ca) (m := m) (q := q) (c := c) (j0 := 8) hc (by omega) rfl rfl
  simpa [g_nl] using this
theorem Tc_8 {c : Nat} (hc : c < 5) : g_T ad ca (m, q) (24 * c + 8) 8 (fun t x => (upd m (178 * c + (36 + 3 * t)) x, q)) := by
  have := g_Tc (ad := ad) (ca := ca) (m := m) (q := q) (c := c) (j0 := 8) hc (by omega) rfl rfl (by omega)
  simpa [g_nl] using this
theorem R_17 : g_R ad ca (m, q) 17 10 (fun t => m (112 + 3 * t)) := by
  have := g_Rc (ad := ad) (ca := ca) (m := m) (q := q) (c := 0) (j0 := 17) (by omega) (by omega) rfl rfl
  simpa [g_nl] using this
theorem T_17 : g_T ad ca (m, q) 17 10 (fun t x => (upd m (112 + 3 * t) x, q)) := by
  have := g_Tc (ad := ad) (ca := ca) (m := m) (q := q) (c := 0) (j0 := 17) (by omega) (by omega) rfl rfl (by omega)
  simpa [g_nl] using this
theorem Rc_17 {c : Nat} (hc : c < 5) : g_R ad ca (m, q) (24 * c + 17) 10 (fun t => m (178 * c + (112 + 3 * t))) := by
  have := g_Rc (ad := ad) (ca := ca) (m := m) (q := q) (c := c) (j0 := 17) hc (by omega) rfl rfl
  simpa [g_nl] using this
theorem Tc_17 {c : Nat} (hc : c < 5) : g_T ad ca (m, q) (24 * c + 17) 10 (fun t x => (upd m (178 * c + (112 + 3 * t)) x, q)) := by
  have := g_Tc (ad := ad) (ca := ca) (m := m) (q := q) (c := c) (j0 := 17) hc (by omega) rfl rfl (by omega)
  simpa [g_nl] using this
theorem R_18 : g_R ad ca (m, q) 18 10 (fun t => m (113 + 3 * t)) := by
  have := g_Rc (ad := ad) (ca := ca) (m := m) (q := q) (c := 0) (j0 := 18) (by omega) (by omega) rfl rfl
  simpa [g_nl] using this
theorem T_18 : g_T ad ca (m, q) 18 10 (fun t x => (upd m (113 + 3 * t) x, q)) := by
  have := g_Tc (ad := ad) (ca := ca) (m := m) (q := q) (c := 0) (j0 := 18) (by omega) (by omega) rfl rfl (by omega)
  simpa [g_nl] using this
theorem Rc_18 {c : Nat} (hc : c < 5) : g_R ad ca (m, q) (24 * c + 18) 10 (fun t => m (178 * c + (113 + 3 * t))) := by
  have := g_Rc (ad := ad) (ca := ca) (m := m) (q := q) (c := c) (j0 := 18) hc (by omega) rfl rfl
  simpa [g_nl] using this
theorem Tc_18 {c : Nat} (hc : c < 5) : g_T ad ca (m, q) (24 * c + 18) 10 (fun t x => (upd m (178 * c + (113 + 3 * t)) x, q)) := by
  have := g_Tc (ad := ad) (ca := ca) (m := m) (q := q) (c := c) (j0 := 18) hc (by omega) rfl rfl (by omega)
  simpa [g_nl] using this
theorem R_19 : g_R ad ca (m, q) 19 10 (fun t => m (114 + 3 * t)) := by
  have := g_Rc (ad := ad) (ca := ca) (m := m) (q := q) (c := 0) (j0 := 19) (by omega) (by omega) rfl rfl
  simpa [g_nl] using this
theorem T_19 : g_T ad ca (m, q) 19 10 (fun t x => (upd m (114 + 3 * t) x, q)) := by
  have := g_Tc (ad := ad) (ca := ca) (m := m) (q := q) (c := 0) (j0 := 19) (by omega) (by omega) rfl rfl (by omega)
  simpa [g_nl] using this
theorem Rc_19 {c : Nat} (hc : c < 5) : g_R ad ca (m, q) (24 * c + 19) 10 (fun t => m (178 * c + (114 + 3 * t))) := by
  have := g_Rc (ad := ad) (ca := ca) (m := m) (q := q) (c := c) (j0 := 19) hc (by omega) rfl rfl
  simpa [g_nl] using this
theorem Tc_19 {c : Nat} (hc : c < 5) : g_T ad ca (m, q) (24 * c + 19) 10 (fun t x => (upd m (178 * c + (114 + 3 * t)) x, q)) := by
  have := g_Tc (ad := ad) (ca := ca) (m := m) (q := q) (c := c) (j0 := 19) hc (by omega) rfl rfl (by omega)
  simpa [g_nl] using this
theorem R_21 : g_R ad ca (m, q) 21 12 (fun t => m (142 + 3 * t)) := by
  have := g_Rc (ad := ad) (ca := ca) (m := m) (q := q) (c := 0) (j0 := 21) (by omega) (by omega) rfl rfl
  simpa [g_nl] using this
theorem T_21 : g_T ad ca (m, q) 21 12 (fun t x => (upd m (142 + 3 * t) x, q)) := by
  have := g_Tc (ad := ad) (ca := ca) (m := m) (q := q) (c := 0) (j0 := 21) (by omega) (by omega) rfl rfl (by omega)
  simpa [g_nl] using this
theorem Rc_21 {c : Nat} (hc : c < 5) : g_R ad ca (m, q) (24 * c + 21) 12 (fun t => m (178 * c + (142 + 3 * t))) := by
  have := g_Rc (ad := ad) (ca := ca) (m := m) (q := q) (c := c) (j0 := 21) hc (by omega) rfl rfl
  simpa [g_nl] using this
theorem Tc_21 {c : Nat} (hc : c < 5) : g_T ad ca (m, q) (24 * c + 21) 12 (fun t x => (upd m (178 * c + (142 + 3 * t)) x, q)) := by
  have := g_Tc (ad := ad) (ca := ca) (m := m) (q := q) (c := c) (j0 := 21) hc (by omega) rfl rfl (by omega)
  simpa [g_nl] using this
theorem R_22 : g_R ad ca (m, q) 22 12 (fun t => m (143 + 3 * t)) := by
  have := g_Rc (ad := ad) (ca := ca) (m := m) (q := q) (c := 0) (j0 := 22) (by omega) (by omega) rfl rfl
  simpa [g_nl] using this
theorem T_22 : g_T ad ca (m, q) 22 12 (fun t x => (upd m (143 + 3 * t) x, q)) := by
  have := g_Tc (ad := ad) (ca := ca) (m := m) (q := q) (c := 0) (j0 := 22) (by omega) (by omega) rfl rfl (by omega)
  simpa [g_nl] using this
theorem Rc_22 {c : Nat} (hc : c < 5) : g_R ad ca (m, q) (24 * c + 22) 12 (fun t => m (178 * c + (143 + 3 * t))) := by
  have := g_Rc (ad := ad) (ca := ca) (m := m) (q := q) (c := c) (j0 := 22) hc (by omega) rfl rfl
  simpa [g_nl] using this
theorem Tc_22 {c : Nat} (hc : c < 5) : g_T ad ca (m, q) (24 * c + 22) 12 (fun t x => (upd m (178 * c + (143 + 3 * t)) x, q)) := by
  have := g_Tc (ad := ad) (ca := ca) (m := m) (q := q) (c := c) (j0 := 22) hc (by omega) rfl rfl (by omega)
  simpa [g_nl] using this
theorem R_23 : g_R ad ca (m, q) 23 12 (fun t => m (144 + 3 * t)) := by
  have := g_Rc (ad := ad) (ca := ca) (m := m) (q := q) (c := 0) (j0 := 23) (by omega) (by omega) rfl rfl
  simpa [g_nl] using this
theorem T_23 : g_T ad ca (m, q) 23 12 (fun t x => (upd m (144 + 3 * t) x, q)) := by
  have := g_Tc (ad := ad) (ca := ca) (m := m) (q := q) (c := 0) (j0 := 23) (by omega) (by omega) rfl rfl (by omega)
  simpa [g_nl] using this
theorem Rc_23 {c : Nat} (hc : c < 5) : g_R ad ca (m, q) (24 * c + 23) 12 (fun t => m (178 * c + (144 + 3 * t))) := by
  have := g_Rc (ad := ad) (ca := ca) (m := m) (q := q) (c := c) (j0 := 23) hc (by omega) rfl rfl
  simpa [g_nl] using this
theorem Tc_23 {c : Nat} (hc : c < 5) : g_T ad ca (m, q) (24 * c + 23) 12 (fun t x => (upd m (178 * c + (144 + 3 * t)) x, q)) := by
  have := g_Tc (ad := ad) (ca := ca) (m := m) (q := q) (c := c) (j0 := 23) hc (by omega) rfl rfl (by omega)
  simpa [g_nl] using this
/-! the other cells -/
theorem g_ent_o' (ad : Nat → Nat) (ca : Nat → ClassId) (μ : g_M) (j : Nat) : g_ent ad ca μ (120 + j) = g_oe ad ca μ j := by
  rw [g_ent_o ad ca μ (by omega), show 120 + j - 120 = j by omega]
theorem obj_120 : g_obj 6 120 := ⟨by omega, fun ad ca μ => ⟨_, g_ent_o' ad ca μ 0⟩⟩
theorem G_120_0 : g_G ad ca (m, q) 120 6 0 (.ref (ad 121)) := ⟨by omega, _, g_ent_o' ad ca _ 0, rfl⟩
theorem G_120_1 : g_G ad ca (m, q) 120 6 1 (.int (m 980)) := ⟨by omega, _, g_ent_o' ad ca _ 0, rfl⟩
theorem obj_122 : g_obj 7 122 := ⟨by omega, fun ad ca μ => ⟨_, g_ent_o' ad ca μ 2⟩⟩
theorem G_122_0 : g_G ad ca (m, q) 122 7 0 (.ref (ad 0)) := ⟨by omega, _, g_ent_o' ad ca _ 2, rfl⟩
theorem G_122_1 : g_G ad ca (m, q) 122 7 1 (.ref (ad 123)) := ⟨by omega, _, g_ent_o' ad ca _ 2, rfl⟩
theorem G_122_2 : g_G ad ca (m, q) 122 7 2 (.int (m 981)) := ⟨by omega, _, g_ent_o' ad ca _ 2, rfl⟩
theorem G_122_3 : g_G ad ca (m, q) 122 7 3 (.ref (ad 120)) := ⟨by omega, _, g_ent_o' ad ca _ 2, rfl⟩
theorem g_hi_set {n k : Nat} {x : Int32} {e : va_E} (hn : 890 ≤ n) (hk : 120 ≤ k) (hk2 : k < 132) (h1 : ∀ j, 120 + j < 132 → 120 + j ≠ k → g_oe ad ca (upd m n x, q) j = g_oe ad ca (m, q) j) (h2 : g_oe ad ca (upd m n x, q) (k - 120) = e) : (g_ws ad ca (m, q)).set k (ad k, e) = g_ws ad ca (upd m n x, q) := by
  refine g_ws_set hk2 (fun i hi hne => ?_) (by rw [g_ent_o ad ca _ hk]; exact h2)
  rcases Nat.lt_or_ge i 120 with h | h
  · exact g_ent_hi (μ := (m, q)) hn h
  · have e : i = 120 + (i - 120) := by omega
    rw [e, g_ent_o', g_ent_o']
    exact h1 _ (by omega) (by omega)
theorem g_lt12 {P : Nat → Prop} (h0 : P 0) (h1 : P 1) (h2 : P 2) (h3 : P 3) (h4 : P 4) (h5 : P 5) (h6 : P 6) (h7 : P 7) (h8 : P 8) (h9 : P 9) (h10 : P 10) (h11 : P 11) : ∀ j, 120 + j < 132 → P j := by
  intro j hj
  have : j = 0 ∨ j = 1 ∨ j = 2 ∨ j = 3 ∨ j = 4 ∨ j = 5 ∨ j = 6 ∨ j = 7 ∨ j = 8 ∨ j = 9 ∨ j = 10 ∨ j = 11 := by omega
  rcases this with rfl | rfl | rfl | rfl | rfl | rfl | rfl | rfl | rfl | rfl | rfl | rfl <;> assumption
theorem g_rw_upd {m : Nat → Int32} {o n a : Nat} {x : Int32} (h : a < o ∨ o + n ≤ a) : g_rw (upd m a x) o n = g_rw m o n := g_rw_congr fun t ht => g_upd_ne (by omega)
theorem g_rw_set {m : Nat → Int32} {o n t : Nat} {x : Int32} (h : t < n) : g_rw (upd m (o + t) x) o n = upd (g_rw m o n) t x := by
  funext i
  by_cases hi : i = t
  · subst hi
    rw [g_upd_eq]
    unfold g_rw
    rw [g_blt.mpr h]
    exact g_upd_eq
  · rw [g_upd_ne hi]
    unfold g_rw
    cases hb : Nat.blt i n with
    | false => rfl
    | true => exact g_upd_ne (by omega)
theorem S_120_1 (x : Int32) : g_S ad ca (m, q) 120 6 1 (.int x) (upd m 980 x, q) := by
  refine ⟨by omega, _, g_ent_o' ad ca _ 0, Nat.le_of_ble_eq_true rfl, g_hi_set (by omega) (by omega) (by omega) ?_ ?_⟩
  · refine g_lt12 ?_ ?_ ?_ ?_ ?_ ?_ ?_ ?_ ?_ ?_ ?_ ?_ <;> intro h <;> first | exact absurd rfl h | (simp [g_oe, upd]; done) | (simp only [g_oe]; rw [g_rw_upd (by omega)])
  · simp [g_oe, upd]
theorem S_122_2 (x : Int32) : g_S ad ca (m, q) 122 7 2 (.int x) (upd m 981 x, q) := by
  refine ⟨by omega, _, g_ent_o' ad ca _ 2, Nat.le_of_ble_eq_true rfl, g_hi_set (by omega) (by omega) (by omega) ?_ ?_⟩
  · refine g_lt12 ?_ ?_ ?_ ?_ ?_ ?_ ?_ ?_ ?_ ?_ ?_ ?_ <;> intro h <;> first | exact absurd rfl h | (simp [g_oe, upd]; done) | (simp only [g_oe]; rw [g_rw_upd (by omega)])
  · simp [g_oe, upd]
theorem R_121 : g_R ad ca (m, q) 121 90 (fun t => m (890 + t)) := ⟨by omega, 90, Nat.le_refl 90, _, g_ent_o' ad ca _ 1, fun t ht => by unfold g_rw; rw [g_blt.mpr ht]; rfl⟩
theorem T_121 : g_T ad ca (m, q) 121 90 (fun t x => (upd m (890 + t) x, q)) := by
  refine ⟨by omega, 90, Nat.le_refl 90, _, g_ent_o' ad ca _ 1, fun t x ht => g_hi_set (by omega) (by omega) (by omega) ?_ ?_⟩
  · refine g_lt12 ?_ ?_ ?_ ?_ ?_ ?_ ?_ ?_ ?_ ?_ ?_ ?_ <;> intro h <;> first | exact absurd rfl h | (simp only [g_oe]; done) | (simp only [g_oe]; rw [g_upd_ne (by omega)])
  · simp only [g_oe]
    rw [g_rw_set ht]
/-! the model's numbers -/
variable {s : Nat → Int32} {lm : Nat → Int64} {pm : Nat → Nat}
theorem g_mo_set {s' : Nat → Int32} {lm' : Nat → Int64} {k : Nat} {e : va_E} (hk : 120 ≤ k) (hk2 : k < 132) (h1 : ∀ j, 120 + j < 132 → 120 + j ≠ k → g_oe ad ca (m, s', lm', pm) j = g_oe ad ca (m, s, lm, pm) j) (h2 : g_oe ad ca (m, s', lm', pm) (k - 120) = e) : (g_ws ad ca (m, s, lm, pm)).set k (ad k, e) = g_ws ad ca (m, s', lm', pm) := by
  refine g_ws_set hk2 (fun i hi hne => ?_) (by rw [g_ent_o ad ca _ hk]; exact h2)
  rcases Nat.lt_or_ge i 120 with h | h
  · have e : i = 24 * (i / 24) + i % 24 := by omega
    rw [e, g_ent_c ad ca _ (by omega) (by omega), g_ent_c ad ca _ (by omega) (by omega)]
  · have e : i = 120 + (i - 120) := by omega
    rw [e, g_ent_o', g_ent_o']
    exact h1 _ (by omega) (by omega)
theorem R_124 : g_R ad ca (m, s, lm, pm) 124 13 (fun t => s (0 + t)) := ⟨by omega, 13, by omega, _, g_ent_o' ad ca _ 4, fun t ht => by unfold g_rw; rw [g_blt.mpr ht]; rfl⟩
theorem T_124 : g_T ad ca (m, s, lm, pm) 124 13 (fun t x => (m, upd s (0 + t) x, lm, pm)) := by
  refine ⟨by omega, 13, by omega, _, g_ent_o' ad ca _ 4, fun t x ht => g_mo_set (by omega) (by omega) ?_ ?_⟩
  · refine g_lt12 ?_ ?_ ?_ ?_ ?_ ?_ ?_ ?_ ?_ ?_ ?_ ?_ <;> intro h <;> first | exact absurd rfl h | (simp only [g_oe]; done) | (simp only [g_oe]; rw [g_rw_upd (by omega)])
  · show Sum.inl (ca 0, 13, Sum.inl (g_rw (upd s (0 + t) x) 0 13)) = _
    rw [g_rw_set ht]
theorem R_125 : g_R ad ca (m, s, lm, pm) 125 7 (fun t => s (13 + t)) := ⟨by omega, 7, by omega, _, g_ent_o' ad ca _ 5, fun t ht => by unfold g_rw; rw [g_blt.mpr ht]; rfl⟩
theorem T_125 : g_T ad ca (m, s, lm, pm) 125 7 (fun t x => (m, upd s (13 + t) x, lm, pm)) := by
  refine ⟨by omega, 7, by omega, _, g_ent_o' ad ca _ 5, fun t x ht => g_mo_set (by omega) (by omega) ?_ ?_⟩
  · refine g_lt12 ?_ ?_ ?_ ?_ ?_ ?_ ?_ ?_ ?_ ?_ ?_ ?_ <;> intro h <;> first | exact absurd rfl h | (simp only [g_oe]; done) | (simp only [g_oe]; rw [g_rw_upd (by omega)])
  · show Sum.inl (ca 0, 7, Sum.inl (g_rw (upd s (13 + t) x) 13 7)) = _
    rw [g_rw_set ht]
theorem R_126 : g_R ad ca (m, s, lm, pm) 126 7 (fun t => s (20 + t)) := ⟨by omega, 7, by omega, _, g_ent_o' ad ca _ 6, fun t ht => by unfold g_rw; rw [g_blt.mpr ht]; rfl⟩
theorem T_126 : g_T ad ca (m, s, lm, pm) 126 7 (fun t x => (m, upd s (20 + t) x, lm, pm)) := by
  refine ⟨by omega, 7, by omega, _, g_ent_o' ad ca _ 6, fun t x ht => g_mo_set (by omega) (by omega) ?_ ?_⟩
  · refine g_lt12 ?_ ?_ ?_ ?_ ?_ ?_ ?_ ?_ ?_ ?_ ?_ ?_ <;> intro h <;> first | exact absurd rfl h | (simp only [g_oe]; done) | (simp only [g_oe]; rw [g_rw_upd (by omega)])
  · show Sum.inl (ca 0, 7, Sum.inl (g_rw (upd s (20 + t) x) 20 7)) = _
    rw [g_rw_set ht]
theorem R_127 : g_R ad ca (m, s, lm, pm) 127 7 (fun t => s (27 + t)) := ⟨by omega, 7, by omega, _, g_ent_o' ad ca _ 7, fun t ht => by unfold g_rw; rw [g_blt.mpr ht]; rfl⟩
theorem T_127 : g_T ad ca (m, s, lm, pm) 127 7 (fun t x => (m, upd s (27 + t) x, lm, pm)) := by
  refine ⟨by omega, 7, by omega, _, g_ent_o' ad ca _ 7, fun t x ht => g_mo_set (by omega) (by omega) ?_ ?_⟩
  · refine g_lt12 ?_ ?_ ?_ ?_ ?_ ?_ ?_ ?_ ?_ ?_ ?_ ?_ <;> intro h <;> first | exact absurd rfl h | (simp only [g_oe]; done) | (simp only [g_oe]; rw [g_rw_upd (by omega)])
  · show Sum.inl (ca 0, 7, Sum.inl (g_rw (upd s (27 + t) x) 27 7)) = _
    rw [g_rw_set ht]
theorem R_128 : g_R ad ca (m, s, lm, pm) 128 24 (fun t => s (34 + t)) := ⟨by omega, 24, by omega, _, g_ent_o' ad ca _ 8, fun t ht => by unfold g_rw; rw [g_blt.mpr ht]; rfl⟩
theorem T_128 : g_T ad ca (m, s, lm, pm) 128 24 (fun t x => (m, upd s (34 + t) x, lm, pm)) := by
  refine ⟨by omega, 24, by omega, _, g_ent_o' ad ca _ 8, fun t x ht => g_mo_set (by omega) (by omega) ?_ ?_⟩
  · refine g_lt12 ?_ ?_ ?_ ?_ ?_ ?_ ?_ ?_ ?_ ?_ ?_ ?_ <;> intro h <;> first | exact absurd rfl h | (simp only [g_oe]; done) | (simp only [g_oe]; rw [g_rw_upd (by omega)])
  · show Sum.inl (ca 0, 24, Sum.inl (g_rw (upd s (34 + t) x) 34 24)) = _
    rw [g_rw_set ht]
theorem R_129 : g_R ad ca (m, s, lm, pm) 129 54 (fun t => s (58 + t)) := ⟨by omega, 54, by omega, _, g_ent_o' ad ca _ 9, fun t ht => by unfold g_rw; rw [g_blt.mpr ht]; rfl⟩
theorem T_129 : g_T ad ca (m, s, lm, pm) 129 54 (fun t x => (m, upd s (58 + t) x, lm, pm)) := by
  refine ⟨by omega, 54, by omega, _, g_ent_o' ad ca _ 9, fun t x ht => g_mo_set (by omega) (by omega) ?_ ?_⟩
  · refine g_lt12 ?_ ?_ ?_ ?_ ?_ ?_ ?_ ?_ ?_ ?_ ?_ ?_ <;> intro h <;> first | exact absurd rfl h | (simp only [g_oe]; done) | (simp only [g_oe]; rw [g_rw_upd (by omega)])
  · show Sum.inl (ca 0, 54, Sum.inl (g_rw (upd s (58 + t) x) 58 54)) = _
    rw [g_rw_set ht]
theorem R_130 : g_R ad ca (m, s, lm, pm) 130 30 (fun t => s (112 + t)) := ⟨by omega, 33, by omega, _, g_ent_o' ad ca _ 10, fun t ht => by unfold g_rw; rw [g_blt.mpr ht]; rfl⟩
theorem T_130 : g_T ad ca (m, s, lm, pm) 130 30 (fun t x => (m, upd s (112 + t) x, lm, pm)) := by
  refine ⟨by omega, 33, by omega, _, g_ent_o' ad ca _ 10, fun t x ht => g_mo_set (by omega) (by omega) ?_ ?_⟩
  · refine g_lt12 ?_ ?_ ?_ ?_ ?_ ?_ ?_ ?_ ?_ ?_ ?_ ?_ <;> intro h <;> first | exact absurd rfl h | (simp only [g_oe]; done) | (simp only [g_oe]; rw [g_rw_upd (by omega)])
  · show Sum.inl (ca 0, 33, Sum.inl (g_rw (upd s (112 + t) x) 112 30)) = _
    rw [g_rw_set ht]
theorem R_131 : g_R ad ca (m, s, lm, pm) 131 36 (fun t => s (142 + t)) := ⟨by omega, 36, by omega, _, g_ent_o' ad ca _ 11, fun t ht => by unfold g_rw; rw [g_blt.mpr ht]; rfl⟩
theorem T_131 : g_T ad ca (m, s, lm, pm) 131 36 (fun t x => (m, upd s (142 + t) x, lm, pm)) := by
  refine ⟨by omega, 36, by omega, _, g_ent_o' ad ca _ 11, fun t x ht => g_mo_set (by omega) (by omega) ?_ ?_⟩
  · refine g_lt12 ?_ ?_ ?_ ?_ ?_ ?_ ?_ ?_ ?_ ?_ ?_ ?_ <;> intro h <;> first | exact absurd rfl h | (simp only [g_oe]; done) | (simp only [g_oe]; rw [g_rw_upd (by omega)])
  · show Sum.inl (ca 0, 36, Sum.inl (g_rw (upd s (142 + t) x) 142 36)) = _
    rw [g_rw_set ht]
end GSL
