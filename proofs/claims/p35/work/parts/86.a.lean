/-! ===== constructors: walks in worlds that are lists of cells ===== -/
def n_ok (X : g_X) (A : Nat → Prop) (cc : ByteArray) (own : String) (R : Room) : Prop :=
  (g_xp X).tables.exec = Jvm.exec ∧ (g_xc X).code = cc ∧ (g_xc X).maxLocals = g_xn X ∧ (g_xs X).vm.findClass own = some (g_xm X).cls ∧ (∀ w ∈ gW, w.before (g_xa X) (g_xs X) = true) ∧
  va_K (g_xD X) vwCl (g_tys (g_ca X)) (g_xs X) ∧ (g_xt X).locks = false ∧ (own ≠ RL → (g_xt X).sig.returnType = none ∧ (g_xt X).name = "<init>") ∧ g_xR X = R ∧ (∀ q : Nat, (g_xs X).heap.size ≤ q → A q)
def n_V (X : g_X) (A : Nat → Prop) (Q : State → Prop) (k n : Nat) (ws : va_W) (pc : Nat) (lc : List (Nat × Value)) (st : List Value) : Prop :=
  ∀ (H : Heap) (locs : List Loc) (ls : Array Slot), va_P (g_xD X) vwCl ws H → va_D A ws → va_S A (g_xs X).heap H locs → lv_has ls (g_xn X) lc →
    W (g_xp X) (g_xl X) (g_xe X) (g_xR X) (g_xs X) (g_xm X) (g_xa X) (g_xb X) (g_xt X) (g_xc X) H locs k n Q (F0 (g_xm X) pc ls st)
theorem w_oi1 : Cond.instanceMethod Lib.objectInit ∈ gW := gW_in (i := 33) (by decide +kernel) rfl
theorem w_oi2 : Cond.code Lib.objectInit ⟨#[0xb1]⟩ 1 none ∈ gW := gW_in (i := 34) (by decide +kernel) rfl
theorem w_oiX1 : Cond.methodLink RX1 3 Lib.objectInit ∈ gW := gW_in (i := 151) (by decide +kernel) rfl
theorem w_arrI : Cond.arrayClass FieldType.int ∈ gW := gW_in (i := 73) (by decide +kernel) rfl
section NV
variable {X : g_X} {A : Nat → Prop} {Q : State → Prop} {k n : Nat} {ws : va_W} {pc : Nat} {lc : List (Nat × Value)} {st : List Value} {cc : ByteArray} {own : String} {R : Room}
theorem n_ok.exec (O : n_ok X A cc own R) : (g_xp X).tables.exec = Jvm.exec := O.1
theorem n_ok.code (O : n_ok X A cc own R) : (g_xc X).code = cc := O.2.1
theorem n_ok.ml (O : n_ok X A cc own R) : (g_xc X).maxLocals = g_xn X := O.2.2.1
theorem n_ok.host (O : n_ok X A cc own R) : (g_xs X).vm.findClass own = some (g_xm X).cls := O.2.2.2.1
theorem n_ok.word (O : n_ok X A cc own R) {w : Cond} (h : w ∈ gW) : w.before (g_xa X) (g_xs X) = true := O.2.2.2.2.1 w h
theorem n_ok.K (O : n_ok X A cc own R) : va_K (g_xD X) vwCl (g_tys (g_ca X)) (g_xs X) := O.2.2.2.2.2.1
theorem n_ok.locks (O : n_ok X A cc own R) : (g_xt X).locks = false := O.2.2.2.2.2.2.1
theorem n_ok.rty (O : n_ok X A cc own R) (ho : own ≠ RL) : (g_xt X).sig.returnType = none := (O.2.2.2.2.2.2.2.1 ho).1
theorem n_ok.room (O : n_ok X A cc own R) : g_xR X = R := O.2.2.2.2.2.2.2.2.1
theorem n_ok.fresh (O : n_ok X A cc own R) : ∀ q : Nat, (g_xs X).heap.size ≤ q → A q := O.2.2.2.2.2.2.2.2.2
theorem n_ok.nm (O : n_ok X A cc own R) (ho : own ≠ RL) : (g_xt X).name = "<init>" := (O.2.2.2.2.2.2.2.1 ho).2
theorem n_aload (O : n_ok X A cc own R) (z : Nat) {i : Fin 4} {j : Nat} {x : Nat} (hd : decode cc pc = .ok (.aload_n i, 1)) (hi : (i : Nat) = j) (hl : lc[z]? = some (j, .ref x)) (kk : n_V X A Q k n ws (pc + 1) lc (.ref x :: st)) : n_V X A Q k n ws pc lc st := fun H locs ls hP hD hS hh => lv_aload_n O.exec O.code hd hi (lv_at hh z hl) (kk H locs ls hP hD hS hh)
theorem n_iload (O : n_ok X A cc own R) (z : Nat) {i : Fin 4} {j : Nat} {x : Int32} (hd : decode cc pc = .ok (.iload_n i, 1)) (hi : (i : Nat) = j) (hl : lc[z]? = some (j, .int x)) (kk : n_V X A Q k n ws (pc + 1) lc (.int x :: st)) : n_V X A Q k n ws pc lc st := fun H locs ls hP hD hS hh => lv_iload_n O.exec O.code hd hi (lv_at hh z hl) (kk H locs ls hP hD hS hh)
theorem n_iconst (O : n_ok X A cc own R) {i : Int} {x : Int32} (hd : decode cc pc = .ok (.iconst i, 1)) (hv : Int32.ofInt i = x) (kk : n_V X A Q k n ws (pc + 1) lc (.int x :: st)) : n_V X A Q k n ws pc lc st := fun H locs ls hP hD hS hh => lv_iconst O.exec O.code hd hv (kk H locs ls hP hD hS hh)
theorem n_bipush (O : n_ok X A cc own R) {i : Int} {x : Int32} (hd : decode cc pc = .ok (.bipush i, 2)) (hv : (Int8.ofInt i).toInt32 = x) (kk : n_V X A Q k n ws (pc + 2) lc (.int x :: st)) : n_V X A Q k n ws pc lc st := fun H locs ls hP hD hS hh => lv_bipush O.exec O.code hd hv (kk H locs ls hP hD hS hh)
theorem n_dup (O : n_ok X A cc own R) {x : Value} (hd : decode cc pc = .ok (.dup, 1)) (hx : x.category = 1) (kk : n_V X A Q k n ws (pc + 1) lc (x :: x :: st)) : n_V X A Q k n ws pc lc (x :: st) := fun H locs ls hP hD hS hh => lv_dup O.exec O.code hd hx (kk H locs ls hP hD hS hh)
theorem n_goto (O : n_ok X A cc own R) {off : Int} (tgt : Nat) (hd : decode cc pc = .ok (.goto off, 3)) (ht : (pc : Int) + off = (tgt : Int)) (kk : n_V X A Q k n ws tgt lc st) : n_V X A Q k n ws pc lc st := fun H locs ls hP hD hS hh => lv_goto O.exec O.code hd ht (kk H locs ls hP hD hS hh)
/-- Object's own constructor -/
theorem n_oi (O : n_ok X A cc own R) {idx a : Nat} (hl : Cond.methodLink own idx Lib.objectInit ∈ gW) (hd : decode cc pc = .ok (.invokespecial idx, 3)) (hf : 1 ≤ R.frames) (hlo : (st.map fun v => v.category).sum + 12 ≤ R.locals) (kk : n_V X A Q k n ws (pc + 3) lc st) : n_V X A Q k n ws pc lc (.ref a :: st) := by
  intro H locs ls hP hD hS hh
  refine W.objInit O.exec O.code O.host (O.word hl) (O.word w_oi1) (O.word w_oi2) rfl (by rw [O.ml]; exact hh.1) rfl hd (by rw [O.room]; exact hf) (by rw [O.room]; exact Nat.le_trans (by show 2 * 0 + _ + 12 ≤ _; rw [Nat.mul_zero, Nat.zero_add]; exact Nat.le_refl _) hlo) ?_
  exact W.eq (g2 := F0 (g_xm X) (pc + 3) ls st) rfl (kk H locs ls hP hD hS hh)
/-- a field of the cell q0 written -/
theorem n_put (O : n_ok X A cc own R) {idx ci j a : Nat} {x : Value} {fs : List Value} (q0 : Nat) (F : g_FP own idx ci j x) (he : ws[q0]? = some (a, .inr (ci, fs))) (hj : j < fs.length) (hd : decode cc pc = .ok (.putfield idx, 3)) (kk : n_V X A Q k n (ws.set q0 (a, .inr (ci, fs.set j x))) (pc + 3) lc st) : n_V X A Q k n ws pc lc (x :: .ref a :: st) := by
  obtain ⟨C, T, N, ty0, hc, hjN, hin, hl, hty, hnm, hfin, hn, hf⟩ := F
  exact fun H locs ls hP hD hS hh => va_put O.exec O.code (Ts := gW) (fun w hw => O.word hw) hin ty0 hty hnm O.host O.K hP hD hS q0 he hc j hjN (O.word hl) (fun _ h => h) hfin (hty j hjN) hn hf hj hd (fun H1 locs1 hP1 hD1 hS1 => kk H1 locs1 ls hP1 hD1 hS1 hh)
/-- a new array of ints -/
theorem n_newa (O : n_ok X A cc own R) {i : Int32} {N : Nat} (hi : 0 ≤ i.toInt) (hN : i.toNatClampNeg = N) (hb : N * componentBytes .int ≤ 536870912) (hc : k + 1 ≤ R.cells) (hs : n + N ≤ R.slots) (hd : decode cc pc = .ok (.newarray .int, 2))
    (kk : ∀ q : Nat, n_V X A Q (k + 1) (n + N) (ws ++ [(q, .inl (g_ca X 0, N, .inl (fun _ => 0)))]) (pc + 2) lc (.ref q :: st)) : n_V X A Q k n ws pc lc (.int i :: st) := by
  intro H locs ls hP hD hS hh
  refine va_newa (atype := .int) (tys := g_tys (g_ca X)) O.exec O.code (O.word w_arrI) rfl O.K hP hD hS O.fresh (a0 := (N, .inl (fun _ => 0))) (fun _ => rfl) (fun z => by have := j_ltR z j_0; omega) hN hb (by rw [O.room]; exact hc) (by rw [O.room]; exact hs) hd (fun q cA H1 hK hP1 hD1 hS1 => ?_)
  have e1 := va_nm_int (hK.2 3 _ rfl).2
  have e2 := va_nm_int (O.K.2 0 _ rfl).2
  have e : cA = g_ca X 0 := Option.some.inj (e1.symm.trans e2)
  subst e
  exact kk q H1 locs ls hP1 hD1 hS1 hh
end NV
/-! a constructor's contract: from its own cell with default fields, behind it the cells post, the new ones at addresses f -/
def n_B (D : va_G) (ca : Nat → ClassId) (h sz ci : Nat) (fs0 : List Value) (U : State) : Prop := U.heap.size = sz ∧ va_P D vwCl [(h, .inr (ci, fs0))] U.heap ∧ va_K D vwCl (g_tys ca) U
def n_Qc (D : va_G) (A : Nat → Prop) (post : (Nat → Nat) → va_W) : Array Value → State → Outcome → State → Prop := fun _ st o t => ∃ f : Nat → Nat, o = .returned none ∧ va_P D vwCl (post f) t.heap ∧ va_D A (post f) ∧ va_F A st t
def n_XC : String → State → State → Prop := fun _ _ _ => False
def n_A (h ci : Nat) (fs0 : List Value) (sz : Nat) : Nat → Prop := va_A [(h, .inr (ci, fs0))] sz
def n_C (l : Launch) (y : MethodName) (cc : ByteArray) (nL : Nat) (R : Room) (ci : Nat) (fs0 : List Value) (post : (Nat → ClassId) → Nat → (Nat → Nat) → va_W) : Prop :=
  ∀ (D : va_G) (ca : Nat → ClassId) (h sz : Nat), vx_Met l y (Cond.code y cc nL none :: gW) R (va_Pc [.ref h] (n_B D ca h sz ci fs0)) (n_Qc D (n_A h ci fs0 sz) (post ca h)) n_XC R.cells R.slots (n_A h ci fs0 sz)
def n_Q (X : g_X) (A : Nat → Prop) (post : (Nat → Nat) → va_W) : State → Prop := vx_MQ (g_xb X) (n_Qc (g_xD X) A post) n_XC (g_xa X) (g_xs X) (g_xR X).cells (g_xR X).slots A
theorem n_of {l : Launch} {y : MethodName} {cc : ByteArray} {nL : Nat} {R : Room} {ci : Nat} {fs0 : List Value} {post : (Nat → ClassId) → Nat → (Nat → Nat) → va_W} (hy : plainName y.cls = true) (hn : 1 ≤ nL) (hyn : y.name = "<init>")
    (h : ∀ (X : g_X) (a : Nat), g_xl X = l → g_xn X = nL → n_ok X (n_A a ci fs0 (g_xs X).heap.size) cc y.cls R → n_V X (n_A a ci fs0 (g_xs X).heap.size) (n_Q X (n_A a ci fs0 (g_xs X).heap.size) (post (g_ca X) a)) 0 0 [(a, .inr (ci, fs0))] 0 [(0, .ref a)] []) : n_C l y cc nL R ci fs0 post := by
  intro D ca a sz
  refine vx_ofW (cc := cc) (maxL := nL) (ret := none) hy rfl ?_
  intro p e s m0 args below meth c s₁ B hml hx hv
  obtain ⟨rfl, rfl, hP, hK⟩ := hv
  have hts := atoms_spec (ws := Cond.code y cc nL none :: gW) B.pre
  rw [lg_entry_eq]
  refine h ((p, l, e, R), (s, m0, ([.ref a] : List Value).toArray, below, meth, c), (D, fun _ => 0, ca), nL) a rfl rfl ⟨B.exec, B.bytes, hml, findClass_of_methodNamed B.named, fun w hw => hts w (List.mem_cons_of_mem _ hw), hK, B.notSynchronized, fun _ => ⟨B.returns, (name_of_methodNamed B.named B.method).1.trans hyn⟩, rfl, fun q hq => Or.inr hq⟩ s.heap [] _ hP ?_ va_S.rf (lv_entry [.ref a] hn)
  refine ⟨fun i j p q hi hj _ => ?_, fun k q hk => Or.inl ⟨k, q.2, hk⟩⟩
  have h1 := (List.getElem?_eq_some_iff.mp hi).1
  have h2 := (List.getElem?_eq_some_iff.mp hj).1
  simp only [List.length_cons, List.length_nil] at h1 h2
  omega
theorem n_ret {X : g_X} {A : Nat → Prop} {k n : Nat} {ws : va_W} {pc : Nat} {lc : List (Nat × Value)} {cc : ByteArray} {own : String} {R : Room} {post : (Nat → Nat) → va_W} (O : n_ok X A cc own R) (f : Nat → Nat) (hf : ws = post f) (hd : decode cc pc = .ok (.return_, 1)) (hk : k ≤ R.cells) (hs : n ≤ R.slots) (ho : own ≠ RL := by decide +kernel) : n_V X A (n_Q X A post) k n ws pc lc [] := by
  intro H locs ls hP hD hS hh
  rw [← O.room] at hk hs
  subst hf
  exact W.widen hk hs (vx_ret (W.vret O.exec O.code (O.rty ho) (fun t ht _ => ⟨f, rfl, by rw [ht]; exact hP, hD, hS.F ht⟩) hS.2.2 hd O.locks))
/-- Helper() -/
theorem n_X1 (l : Launch) : n_C l yX1_init cX1_init 1 ({ frames := 1, cells := 0, slots := 0, locals := 12 } : Room) 1 [.int 0, .int 0, .int 0, .int 0, .int 0, .int 0, .int 0, .int 0, .int 0] (fun _ h _ => [(h, .inr (1, [.int 0, .int 0, .int 0, .int (-1), .int 0, .int (-1), .int 0, .int 0, .int 0]))]) := by
  refine n_of (by decide) (by decide) rfl (fun X a hl hn O => ?_)
  refine n_aload O 0 dX1_init_0 rfl rfl ?_
  refine n_oi O w_oiX1 dX1_init_1 (by decide) (by decide) ?_
  refine n_aload O 0 dX1_init_4 rfl rfl ?_
  refine n_iconst (x := 0) O dX1_init_5 rfl ?_
  refine n_put O 0 (FPX1_9 0) rfl (by decide) dX1_init_6 ?_
  refine n_aload O 0 dX1_init_9 rfl rfl ?_
  refine n_iconst (x := 0) O dX1_init_10 rfl ?_
  refine n_put O 0 (FPX1_15 0) rfl (by decide) dX1_init_11 ?_
  refine n_aload O 0 dX1_init_14 rfl rfl ?_
  refine n_iconst (x := 0) O dX1_init_15 rfl ?_
  refine n_put O 0 (FPX1_18 0) rfl (by decide) dX1_init_16 ?_
  refine n_aload O 0 dX1_init_19 rfl rfl ?_
  refine n_iconst (x := -1) O dX1_init_20 rfl ?_
  refine n_put O 0 (FPX1_21 (-1)) rfl (by decide) dX1_init_21 ?_
  refine n_aload O 0 dX1_init_24 rfl rfl ?_
  refine n_iconst (x := 0) O dX1_init_25 rfl ?_
  refine n_put O 0 (FPX1_24 0) rfl (by decide) dX1_init_26 ?_
  refine n_aload O 0 dX1_init_29 rfl rfl ?_
  refine n_iconst (x := -1) O dX1_init_30 rfl ?_
  refine n_put O 0 (FPX1_27 (-1)) rfl (by decide) dX1_init_31 ?_
  refine n_aload O 0 dX1_init_34 rfl rfl ?_
  refine n_iconst (x := 0) O dX1_init_35 rfl ?_
  refine n_put O 0 (FPX1_30 0) rfl (by decide) dX1_init_36 ?_
  refine n_aload O 0 dX1_init_39 rfl rfl ?_
  refine n_iconst (x := 0) O dX1_init_40 rfl ?_
  refine n_put O 0 (FPX1_33 0) rfl (by decide) dX1_init_41 ?_
  refine n_aload O 0 dX1_init_44 rfl rfl ?_
  refine n_iconst (x := 0) O dX1_init_45 rfl ?_
  refine n_put O 0 (FPX1_36 (Or.inl rfl)) rfl (by decide) dX1_init_46 ?_
  exact n_ret O (fun _ => 0) rfl dX1_init_49 (by decide) (by decide)
