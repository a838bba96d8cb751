/-! ===== the law's entry: what the tables and the premises say ===== -/
theorem eqi_of {t : Term} {z : Int32} {args : Array Value} {s : State} (h : (Cond.eq t (.int z)).before args s = true) : t.eval args s none [] s = some (.int z) := by
  cases hv : t.eval args s none [] s with
  | none => simp [Cond.before, Cond.holds, Cond.value, hv] at h
  | some w =>
    have hz : (Term.int z).eval args s none [] s = some (.int z) := rfl
    simp only [Cond.before, Cond.holds, Cond.value, hv, hz] at h
    cases w <;> simp_all
theorem len_lt {t : Term} {args : Array Value} {s : State} {a : Nat} {cell : Cell} {v : Value} (h : (Term.length t).eval args s none [] s = some v) (e1 : t.eval args s none [] s = some (.ref a)) (e2 : s.arrayAt? a = some cell) : cell.slots.size < 2 ^ 31 := by
  simp only [Term.eval, Option.bind_eq_bind, e1, Option.bind_some, e2] at h
  by_cases hs : cell.slots.size < 2 ^ 31
  · exact hs
  · rw [if_neg hs] at h
    cases h
theorem st_arr {args : Array Value} {s : State} {nm : String} {F : Nat → Int32} {A : Nat → Prop} (hl : (Cond.laysStatic RX7 nm "[I").before args s = true) (hini : (Cond.initialized RX7).before args s = true) (hex : (Cond.exactly (.static RX7 nm "[I") "[I").before args s = true) (harr : (Cond.arrayOf (.static RX7 nm "[I") .int).before args s = true) (hlen : (Cond.eq (.length (.static RX7 nm "[I")) (.int 7)).before args s = true) (hel : ∀ j : Nat, j < 7 → (Cond.eq (.elem (.static RX7 nm "[I") (.int (Int32.ofNat j))) (.int (F j))).before args s = true) (hA : ∀ a : Nat, a < s.heap.size → ¬ A a) :
    ∃ a : Nat, va_Z RX7 nm "[I" (.ref a) A s s.heap ∧ va_X a 7 F s s.heap ∧ (a < s.heap.size ∧ ¬ A a) ∧ ∃ c : Cell, s.heap[a]? = some c ∧ s.vm.findClass "[I" = some c.cls := by
  have hlen := eqi_of hlen
  obtain ⟨t, ht, cell, h1, h2, h3, h4, h5, h6, h7⟩ := va_Tof (ty := .int) (N := 7) (f := fun j => .int (F j)) (by decide) harr hlen (fun j hj => eqi_of (hel j hj)) hA
  obtain ⟨t2, c2, e1, e2, -⟩ := Term.length_spec hlen
  have e4 := len_lt hlen e1 e2
  cases ht.symm.trans e1
  obtain ⟨hc2, -, -, -⟩ := State.arrayAt?_spec e2
  cases h1.symm.trans hc2
  have hsz : cell.slots.size = 7 := (nI_eq e4 (by decide)).mp h5
  obtain ⟨a3, c3, cell3, k3, g1, g2, g3, -, -, g6, -⟩ := Cond.exactly_spec hex
  cases ht.symm.trans g1
  cases h1.symm.trans g3
  exact ⟨t, va_Zof hl hini ht hA, ⟨cell, h1, h2, h3, hsz, h6⟩, ⟨(Array.getElem?_eq_some_iff.mp h1).1, h7⟩, cell, h1, by rw [g6]; exact g2⟩
theorem st_str {args : Array Value} {s : State} {k : Nat} {tx : String} (h1 : (Cond.stringRef RX7 k tx).before args s = true) (h2 : (Cond.exactly (.string RX7 k) "java/lang/String").before args s = true) : ∃ sa, vk_R RX7 k tx sa s := by
  obtain ⟨a, c, cell, k, g1, -⟩ := Cond.exactly_spec h2
  exact ⟨a, vk_R.of h1 g1⟩
theorem st_ai {args : Array Value} {s : State} (h : (Cond.arrayClass .int).before args s = true) : ∃ c, ArrOfT s c .int ∧ va_RA s c .int := by
  obtain ⟨c, k, comp, h1, h2, h3⟩ := Cond.arrayClass_spec h
  exact ⟨c, fun n z => ⟨(fun k h => by cases h), k, h2, comp, h3⟩, h1⟩
theorem st_ao {args : Array Value} {s : State} {C : String} (h : (Cond.arrayOver (.object C)).before args s = true) : ∃ c, ArrOfT s c (.object C) ∧ va_RA s c (.object C) := by
  obtain ⟨comp, c, k, h1, -, h3, h4, h5⟩ := Cond.arrayOver_spec h
  exact ⟨c, fun n z => ⟨(fun k h => by cases h), k, h3, comp, h4⟩, k, comp, h3, h4, h1, h5⟩
theorem n_in_7 : Cond.instantiable RX7 4 ∈ gW := gW_in (i := 28) (by decide +kernel) rfl
theorem st_K {args : Array Value} {s : State} (hts : ∀ w ∈ gW, w.before args s = true) (h1 : (Cond.arrayOver (.object RX0)).before args s = true) (h2 : (Cond.arrayOver (.object RX1)).before args s = true) : ∃ (D : va_G) (ca : Nat → ClassId), va_K D vwCl (g_tys ca) s := by
  obtain ⟨c0, j0, k0⟩ := u_known (C := RX0) (T := TX0) (N := 12) (n := 12) hts uX0 (hts _ n_in_0)
  obtain ⟨c1, j1, k1⟩ := u_known (C := RX1) (T := TX1) (N := 9) (n := 9) hts uX1 (hts _ n_in_1)
  obtain ⟨c2, j2, k2⟩ := u_known (C := RX2) (T := TX2) (N := 5) (n := 5) hts uX2 (hts _ n_in_2)
  obtain ⟨c3, j3, k3⟩ := u_known (C := RX3) (T := TX3) (N := 5) (n := 5) hts uX3 (hts _ n_in_3)
  obtain ⟨c4, j4, k4⟩ := u_known (C := RX4) (T := TX4) (N := 4) (n := 4) hts uX4 (hts _ n_in_4)
  obtain ⟨c5, j5, k5⟩ := u_known (C := RX5) (T := TX5) (N := 4) (n := 4) hts uX5 (hts _ n_in_5)
  obtain ⟨c6, j6, k6⟩ := u_known (C := RX6) (T := TX6) (N := 2) (n := 2) hts uX6 (hts _ n_in_6)
  obtain ⟨c7, j7, k7⟩ := u_known (C := RX7) (T := TX7) (N := 4) (n := 4) hts uX7 (hts _ n_in_7)
  obtain ⟨a0, b0⟩ := st_ai (hts _ w_arrI)
  obtain ⟨a1, b1⟩ := st_ao h1
  obtain ⟨a2, b2⟩ := st_ao h2
  refine ⟨(fun k => match k with | 0 => c0 | 1 => c1 | 2 => c2 | 3 => c3 | 4 => c4 | 5 => c5 | 6 => c6 | _ => c7, fun k => match k with | 0 => j0 | 1 => j1 | 2 => j2 | 3 => j3 | 4 => j4 | 5 => j5 | 6 => j6 | _ => j7), (fun k => match k with | 0 => a0 | 1 => a1 | _ => a2), fun k q hq => ?_, fun k q hq => ?_⟩
  · match k, hq with
    | 0, hq => cases hq; exact k0
    | 1, hq => cases hq; exact k1
    | 2, hq => cases hq; exact k2
    | 3, hq => cases hq; exact k3
    | 4, hq => cases hq; exact k4
    | 5, hq => cases hq; exact k5
    | 6, hq => cases hq; exact k6
    | 7, hq => cases hq; exact k7
    | k + 8, hq => simp [vwCl] at hq
  · match k, hq with
    | 0, hq => cases hq; exact b0
    | 1, hq => cases hq; exact b1
    | 2, hq => cases hq; exact b2
    | k + 3, hq => simp [g_tys] at hq
theorem st_Y {args : Array Value} {s : State} (ht : ∀ w ∈ lw_tbl, w.before args s = true) (n1 : (Cond.not (.castable "java/lang/IllegalArgumentException" "java/lang/IndexOutOfBoundsException")).before args s = true) (n2 : (Cond.not (.castable "java/lang/IllegalStateException" "java/lang/IndexOutOfBoundsException")).before args s = true) (n3 : (Cond.not (.castable "java/lang/IllegalStateException" "java/lang/IllegalArgumentException")).before args s = true) : g_Y s :=
  ⟨⟨va_Nw.of rfl (ht _ (List.mem_of_getElem? (i := 292) (by decide +kernel))), va_Nw.of rfl (ht _ (List.mem_of_getElem? (i := 294) (by decide +kernel))), va_Nw.of rfl (ht _ (List.mem_of_getElem? (i := 296) (by decide +kernel)))⟩, ⟨va_Nw.of rfl (ht _ (List.mem_of_getElem? (i := 420) (by decide +kernel))), va_Nw.of rfl (ht _ (List.mem_of_getElem? (i := 290) (by decide +kernel))), va_Nw.of rfl (ht _ (List.mem_of_getElem? (i := 466) (by decide +kernel)))⟩, ⟨va_Nc.of n1, va_Nc.of n2, va_Nc.of n3⟩, ⟨va_Nw.of rfl (ht _ (List.mem_of_getElem? (i := 47) (by decide +kernel))), va_Nw.of rfl (ht _ (List.mem_of_getElem? (i := 56) (by decide +kernel))), va_Nw.of rfl (ht _ (List.mem_of_getElem? (i := 54) (by decide +kernel)))⟩, va_Nw.of rfl (ht _ (List.mem_of_getElem? (i := 76) (by decide +kernel))), va_Nw.of rfl (ht _ (List.mem_of_getElem? (i := 99) (by decide +kernel))), va_Nw.of rfl (ht _ (List.mem_of_getElem? (i := 124) (by decide +kernel))), va_Nw.of rfl (ht _ (List.mem_of_getElem? (i := 148) (by decide +kernel))), va_Nw.of rfl (ht _ (List.mem_of_getElem? (i := 238) (by decide +kernel)))⟩
def lw_ad (t0 t1 : Nat) (k : Nat) : Nat := if k = 132 then t0 else t1
set_option maxRecDepth 100000 in
set_option maxHeartbeats 4000000 in
theorem lw_entry {p : Program} {s : State} {m : MethodId} {meth : Method} {c : Code} {b L : Nat} {xs : Nat → Int32} (C0 : lw_At p s m meth c b L xs) : ∃ (D : va_G) (ca : Nat → ClassId) (ad : Nat → Nat), va_K D vwCl (g_tys ca) s ∧ n_E ad (fun q => s.heap.size ≤ q) s := by
  obtain ⟨hx, hb, hr, hml, hown, ht, hX, hbl, hlocks, hgv, -⟩ := id C0
  have hf := flat_of_before _ hgv
  have hts : ∀ w ∈ gW, w.before #[Value.ref b] s = true := fun w hw => ht w (gW_tbl w hw)
  have hA : ∀ a : Nat, a < s.heap.size → ¬ (fun q : Nat => s.heap.size ≤ q) a := fun a h1 h2 => absurd h1 (Nat.not_lt.mpr h2)
  have o0 : (Cond.arrayOver (.object RX0)).before #[Value.ref b] s = true := (ht _ (List.mem_of_getElem? (i := 235) (by decide +kernel)))
  have o1 : (Cond.arrayOver (.object RX1)).before #[Value.ref b] s = true := (ht _ (List.mem_of_getElem? (i := 96) (by decide +kernel)))
  obtain ⟨D, ca, hK⟩ := st_K hts o0 o1
  obtain ⟨t0, zt0, xt0, lt0, ct0⟩ := st_arr (nm := "INITIAL_DROPS") (F := g_d0) (A := fun q => s.heap.size ≤ q) (ht _ (List.mem_of_getElem? (i := 48) (by decide +kernel))) (ht _ (List.mem_of_getElem? (i := 11) (by decide +kernel))) (hf (Cond.exactly (.static RX7 "INITIAL_DROPS" "[I") "[I") (by decide +kernel)) (hf (Cond.arrayOf (.static RX7 "INITIAL_DROPS" "[I") .int) (by decide +kernel)) (hf (Cond.eq (.length (.static RX7 "INITIAL_DROPS" "[I")) (.int 7)) (by decide +kernel)) (fun j hj => by
    have hj : j = 0 ∨ j = 1 ∨ j = 2 ∨ j = 3 ∨ j = 4 ∨ j = 5 ∨ j = 6 := by omega
    rcases hj with rfl | rfl | rfl | rfl | rfl | rfl | rfl
    · exact hf (Cond.eq (.elem (.static RX7 "INITIAL_DROPS" "[I") (.int (0 : Int32))) (.int (0 : Int32))) (by decide +kernel)
    · exact hf (Cond.eq (.elem (.static RX7 "INITIAL_DROPS" "[I") (.int (1 : Int32))) (.int (20 : Int32))) (by decide +kernel)
    · exact hf (Cond.eq (.elem (.static RX7 "INITIAL_DROPS" "[I") (.int (2 : Int32))) (.int (0 : Int32))) (by decide +kernel)
    · exact hf (Cond.eq (.elem (.static RX7 "INITIAL_DROPS" "[I") (.int (3 : Int32))) (.int (35 : Int32))) (by decide +kernel)
    · exact hf (Cond.eq (.elem (.static RX7 "INITIAL_DROPS" "[I") (.int (4 : Int32))) (.int (0 : Int32))) (by decide +kernel)
    · exact hf (Cond.eq (.elem (.static RX7 "INITIAL_DROPS" "[I") (.int (5 : Int32))) (.int (0 : Int32))) (by decide +kernel)
    · exact hf (Cond.eq (.elem (.static RX7 "INITIAL_DROPS" "[I") (.int (6 : Int32))) (.int (0 : Int32))) (by decide +kernel)) hA
  obtain ⟨t1, zt1, xt1, lt1, ct1⟩ := st_arr (nm := "INITIAL_MINUTES") (F := g_m0) (A := fun q => s.heap.size ≤ q) (ht _ (List.mem_of_getElem? (i := 57) (by decide +kernel))) (ht _ (List.mem_of_getElem? (i := 11) (by decide +kernel))) (hf (Cond.exactly (.static RX7 "INITIAL_MINUTES" "[I") "[I") (by decide +kernel)) (hf (Cond.arrayOf (.static RX7 "INITIAL_MINUTES" "[I") .int) (by decide +kernel)) (hf (Cond.eq (.length (.static RX7 "INITIAL_MINUTES" "[I")) (.int 7)) (by decide +kernel)) (fun j hj => by
    have hj : j = 0 ∨ j = 1 ∨ j = 2 ∨ j = 3 ∨ j = 4 ∨ j = 5 ∨ j = 6 := by omega
    rcases hj with rfl | rfl | rfl | rfl | rfl | rfl | rfl
    · exact hf (Cond.eq (.elem (.static RX7 "INITIAL_MINUTES" "[I") (.int (0 : Int32))) (.int (5 : Int32))) (by decide +kernel)
    · exact hf (Cond.eq (.elem (.static RX7 "INITIAL_MINUTES" "[I") (.int (1 : Int32))) (.int (8 : Int32))) (by decide +kernel)
    · exact hf (Cond.eq (.elem (.static RX7 "INITIAL_MINUTES" "[I") (.int (2 : Int32))) (.int (6 : Int32))) (by decide +kernel)
    · exact hf (Cond.eq (.elem (.static RX7 "INITIAL_MINUTES" "[I") (.int (3 : Int32))) (.int (10 : Int32))) (by decide +kernel)
    · exact hf (Cond.eq (.elem (.static RX7 "INITIAL_MINUTES" "[I") (.int (4 : Int32))) (.int (5 : Int32))) (by decide +kernel)
    · exact hf (Cond.eq (.elem (.static RX7 "INITIAL_MINUTES" "[I") (.int (5 : Int32))) (.int (5 : Int32))) (by decide +kernel)
    · exact hf (Cond.eq (.elem (.static RX7 "INITIAL_MINUTES" "[I") (.int (6 : Int32))) (.int (5 : Int32))) (by decide +kernel)) hA
  have u1 := vx_Zqof (C := Bundle.tN) (n := "UNASSIGNED_STACK") (d := Bundle.steD) (A := fun q => s.heap.size ≤ q) (ht _ (List.mem_of_getElem? (i := 315) (by decide +kernel))) (ht _ (List.mem_of_getElem? (i := 19) (by decide +kernel))) (hf (Cond.isRef (.static "java/lang/Throwable" "UNASSIGNED_STACK" "[Ljava/lang/StackTraceElement;")) (by decide +kernel)) hA
  have u2 := vx_Zqof (C := Bundle.tN) (n := "SUPPRESSED_SENTINEL") (d := Bundle.listD) (A := fun q => s.heap.size ≤ q) (ht _ (List.mem_of_getElem? (i := 317) (by decide +kernel))) (ht _ (List.mem_of_getElem? (i := 19) (by decide +kernel))) (hf (Cond.isRef (.static "java/lang/Throwable" "SUPPRESSED_SENTINEL" "Ljava/util/List;")) (by decide +kernel)) hA
  have w0 := st_str (tx := "there is no such thing") (ht _ (List.mem_of_getElem? (i := 427) (by decide +kernel))) (hf (Cond.exactly (.string RX7 258) "java/lang/String") (by decide +kernel))
  have w1 := st_str (tx := "the argument is out of range") (ht _ (List.mem_of_getElem? (i := 329) (by decide +kernel))) (hf (Cond.exactly (.string RX7 265) "java/lang/String") (by decide +kernel))
  have w2 := st_str (tx := "this is not possible now") (ht _ (List.mem_of_getElem? (i := 473) (by decide +kernel))) (hf (Cond.exactly (.string RX7 270) "java/lang/String") (by decide +kernel))
  have hY := st_Y ht (hf _ (by decide +kernel)) (hf _ (by decide +kernel)) (hf _ (by decide +kernel))
  refine ⟨D, ca, lw_ad t0 t1, hK, ⟨⟨zt0, zt1⟩, ⟨xt0, xt1⟩, ⟨lt0, lt1⟩, ⟨u1, u2⟩, w0, w1, w2⟩, hY, ⟨ct0, ct1⟩, o0, o1⟩
