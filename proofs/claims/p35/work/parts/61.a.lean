/-! ===== methods with handlers: rows ===== -/
def g_oT (X : g_X) (cc : ByteArray) (own : String) (ret : Option FieldType) (R : Room) (tb : List ExceptionTableEntry) : Prop :=
  (g_xp X).tables.exec = Jvm.exec ∧ (g_xc X).code = cc ∧ (g_xc X).maxLocals = g_xn X ∧ (g_xs X).vm.findClass own = some (g_xm X).cls ∧ (∀ w ∈ gW, w.before (g_xa X) (g_xs X) = true) ∧
  va_K (g_xD X) vwCl (g_tys (g_ca X)) (g_xs X) ∧ g_inj (g_ad X) ∧ g_Z (g_ad X) (g_xA X) (g_xs X) ∧ (g_xt X).locks = false ∧ (g_xt X).sig.returnType = ret ∧ g_xR X = R ∧ (g_xc X).exceptionTable.toList = tb
section GRT
variable {α : Type} {X : g_X} {emb : α → g_Res} {r : α} {k n : Nat} {m : Nat → Int32} {q : g_q} {pc : Nat} {lc lc' : List (Nat × Value)} {st : List Value} {cc : ByteArray} {own : String} {ret : Option FieldType} {R : Room} {tb : List ExceptionTableEntry}
theorem g_oT.exec (O : g_oT X cc own ret R tb) : (g_xp X).tables.exec = Jvm.exec := O.1
theorem g_oT.code (O : g_oT X cc own ret R tb) : (g_xc X).code = cc := O.2.1
theorem g_oT.host (O : g_oT X cc own ret R tb) : (g_xs X).vm.findClass own = some (g_xm X).cls := O.2.2.2.1
theorem g_oT.word (O : g_oT X cc own ret R tb) {w : Cond} (h : w ∈ gW) : w.before (g_xa X) (g_xs X) = true := O.2.2.2.2.1 w h
theorem g_oT.K (O : g_oT X cc own ret R tb) : va_K (g_xD X) vwCl (g_tys (g_ca X)) (g_xs X) := O.2.2.2.2.2.1
theorem g_oT.inj (O : g_oT X cc own ret R tb) : g_inj (g_ad X) := O.2.2.2.2.2.2.1
theorem g_oT.Z (O : g_oT X cc own ret R tb) : g_Z (g_ad X) (g_xA X) (g_xs X) := O.2.2.2.2.2.2.2.1
theorem g_oT.locks (O : g_oT X cc own ret R tb) : (g_xt X).locks = false := O.2.2.2.2.2.2.2.2.1
theorem g_oT.rty (O : g_oT X cc own ret R tb) : (g_xt X).sig.returnType = ret := O.2.2.2.2.2.2.2.2.2.1
theorem g_oT.room (O : g_oT X cc own ret R tb) : g_xR X = R := O.2.2.2.2.2.2.2.2.2.2.1
theorem g_oT.table (O : g_oT X cc own ret R tb) : (g_xc X).exceptionTable.toList = tb := O.2.2.2.2.2.2.2.2.2.2.2
theorem tt_iconst (O : g_oT X cc own ret R tb) {i : Int} {x : Int32} (hd : decode cc pc = .ok (.iconst i, 1)) (hv : Int32.ofInt i = x) (kk : g_V X emb r k n m q (pc + 1) lc (.int x :: st)) : g_V X emb r k n m q pc lc (st) := fun H locs ls hP hS hh => lv_iconst O.exec O.code hd hv (kk H locs ls hP hS hh)
theorem tt_iload_n (O : g_oT X cc own ret R tb) (z : Nat) {i : Fin 4} {j : Nat} {x : Int32} (hd : decode cc pc = .ok (.iload_n i, 1)) (hi : (i : Nat) = j) (hl : lc[z]? = some (j, .int x)) (kk : g_V X emb r k n m q (pc + 1) lc (.int x :: st)) : g_V X emb r k n m q pc lc (st) := fun H locs ls hP hS hh => lv_iload_n O.exec O.code hd hi (lv_at hh z hl) (kk H locs ls hP hS hh)
theorem tt_iload (O : g_oT X cc own ret R tb) (z : Nat) {j : Nat} {x : Int32} (hd : decode cc pc = .ok (.iload j, 2)) (hl : lc[z]? = some (j, .int x)) (kk : g_V X emb r k n m q (pc + 2) lc (.int x :: st)) : g_V X emb r k n m q pc lc (st) := fun H locs ls hP hS hh => lv_iload O.exec O.code hd (lv_at hh z hl) (kk H locs ls hP hS hh)
theorem tt_aload_n (O : g_oT X cc own ret R tb) (z : Nat) {i : Fin 4} {j : Nat} {x : Nat} (hd : decode cc pc = .ok (.aload_n i, 1)) (hi : (i : Nat) = j) (hl : lc[z]? = some (j, .ref x)) (kk : g_V X emb r k n m q (pc + 1) lc (.ref x :: st)) : g_V X emb r k n m q pc lc (st) := fun H locs ls hP hS hh => lv_aload_n O.exec O.code hd hi (lv_at hh z hl) (kk H locs ls hP hS hh)
theorem tt_aload (O : g_oT X cc own ret R tb) (z : Nat) {j : Nat} {x : Nat} (hd : decode cc pc = .ok (.aload j, 2)) (hl : lc[z]? = some (j, .ref x)) (kk : g_V X emb r k n m q (pc + 2) lc (.ref x :: st)) : g_V X emb r k n m q pc lc (st) := fun H locs ls hP hS hh => lv_aload O.exec O.code hd (lv_at hh z hl) (kk H locs ls hP hS hh)
theorem tt_astore_n (O : g_oT X cc own ret R tb) {i : Fin 4} {j : Nat} {x : Nat} (hd : decode cc pc = .ok (.astore_n i, 1)) (hi : (i : Nat) = j) (hn : j < g_xn X) (hl : (j, Value.ref x) :: lc.filter (fun q => !(q.1 == j) && !(q.1 + 1 == j && q.2.category == 2)) = lc') (kk : g_V X emb r k n m q (pc + 1) lc' (st)) : g_V X emb r k n m q pc lc (.ref x :: st) := fun H locs ls hP hS hh => lv_astore_n O.exec O.code hd hi hh hn hl (fun ls' hh' => kk H locs ls' hP hS hh')
theorem tt_astore (O : g_oT X cc own ret R tb) {j : Nat} {x : Nat} (hd : decode cc pc = .ok (.astore j, 2)) (hn : j < g_xn X) (hl : (j, Value.ref x) :: lc.filter (fun q => !(q.1 == j) && !(q.1 + 1 == j && q.2.category == 2)) = lc') (kk : g_V X emb r k n m q (pc + 2) lc' (st)) : g_V X emb r k n m q pc lc (.ref x :: st) := fun H locs ls hP hS hh => lv_astore O.exec O.code hd hh hn hl (fun ls' hh' => kk H locs ls' hP hS hh')
theorem tt_i2l (O : g_oT X cc own ret R tb) {x : Int32} (hd : decode cc pc = .ok (.i2l, 1)) (kk : g_V X emb r k n m q (pc + 1) lc (.long x.toInt64 :: st)) : g_V X emb r k n m q pc lc (.int x :: st) := fun H locs ls hP hS hh => lv_i2l O.exec O.code hd rfl (kk H locs ls hP hS hh)
theorem tt_goto (O : g_oT X cc own ret R tb) {off : Int} (tgt : Nat) (hd : decode cc pc = .ok (.goto off, 3)) (ht : (pc : Int) + off = (tgt : Int)) (kk : g_V X emb r k n m q tgt lc (st)) : g_V X emb r k n m q pc lc (st) := fun H locs ls hP hS hh => lv_goto O.exec O.code hd ht (kk H locs ls hP hS hh)
theorem tt_iret {x : Int32} (O : g_oT X cc own (some .int) R tb) (hd : decode cc pc = .ok (.ireturn, 1)) (hk : k ≤ R.cells) (hs : n ≤ R.slots) (he : emb r = (.inl (some (.int x)), (m, q))) : g_V X emb r k n m q pc lc [.int x] := by
  intro H locs ls hP hS hh
  rw [← O.room] at hk hs
  exact W.widen hk hs (vx_ret (W.zret O.exec O.code O.rty rfl (fun t ht _ => ⟨some (.int x), by rw [he], rfl, by rw [he, ht]; exact hP, hS.F ht⟩) hS.2.2 hd O.locks))
theorem tt_ldc (O : g_oT X cc own ret R tb) {i : Nat} {x : Int32} (hd : decode cc pc = .ok (.ldc i, 2)) (hc : Cond.constant own i x ∈ gW) (kk : g_V X emb r k n m q (pc + 2) lc (.int x :: st)) : g_V X emb r k n m q pc lc (st) := fun H locs ls hP hS hh => lv_ldc O.exec O.code O.host (O.word hc) hd (kk H locs ls hP hS hh)
theorem tt_startY (O : g_oT X cc own ret R tb) (Y : g_Y (g_xs X)) {H : Heap} {locs : List Loc} (hP : va_P (g_xD X) vwCl (g_ws (g_ad X) (g_ca X) (m, q)) H) (hS : va_S (g_xA X) (g_xs X).heap H locs) (av : List Value) : PreS (g_xs X) H (va_Pc av (g_By (g_xD X) (g_ad X) (g_ca X) H.size m q)) av :=
  ⟨g_By.blind av, fun U hU hW => ⟨rfl, ⟨by rw [hU], by rw [hU]; exact hP, va_K.moved hW.alike O.K, O.inj, O.Z.step hW (by rw [hU]; exact hS.1) (by rw [hU]; exact hS.2.1) (g_A_mono hS.1)⟩, Y.step hW⟩⟩
theorem tt_goV (O : g_oT X cc own ret R tb) (Y : g_Y (g_xs X)) {idx nL na ci b : Nat} {y : MethodName} {cy : ByteArray} {rt : Option FieldType} {Rm : Room} {As : (Nat → Nat) → List Value} {res : g_Res} {av rest : List Value} (hM : g_SY (g_xl X) y cy nL rt Rm As m q res) (L : g_LV own idx y cy nL rt na ci) (hb : g_obj ci b) (hAs : As (g_ad X) = .ref (g_ad X b) :: av) (hna : av.length = na) (hrest : Nat.ble (rest.map fun v => v.category).sum 8 = true) (hd : decode cc pc = .ok (.invokevirtual idx, 3)) (hfit : g_fit R Rm nL k n = true) {st0 : List Value} (hst : st0 = av.reverse ++ .ref (g_ad X b) :: rest)
    {H : Heap} {locs : List Loc} {ls : Array Slot} (hP : va_P (g_xD X) vwCl (g_ws (g_ad X) (g_ca X) (m, q)) H) (hS : va_S (g_xA X) (g_xs X).heap H locs) (hh : lv_has ls (g_xn X) lc) :
    vx_Run (g_xp X) (g_xl X) (g_xe X) (g_xR X) (g_xs X) (g_xm X) (g_xa X) (g_xb X) (g_xt X) (g_xc X) H locs k n Rm.cells Rm.slots (F0 (g_xm X) pc ls st0) rest (g_Qc (g_xD X) (g_ad X) (g_ca X) (g_A (g_ad X) H.size) res (As (g_ad X)).toArray) (g_XC (g_xD X) (g_ad X) (g_ca X) (g_A (g_ad X) H.size) res) (g_A (g_ad X) H.size) := by
  obtain ⟨LB, hin, hsel, T, N, hc⟩ := L
  obtain ⟨f1, f2⟩ := g_fit_of hfit
  obtain ⟨hb1, hb2⟩ := hb
  obtain ⟨fs, he⟩ := hb2 (g_ad X) (g_ca X) (m, q)
  have hM1 := hM (g_xD X) (g_ad X) (g_ca X) H.size
  have hg := tt_startY O Y hP hS (As (g_ad X))
  have cb : CallB (g_xR X) (g_xs X) (g_xa X) own idx y cy nL rt (Cond.code y cy nL rt :: gW) Rm Rm.cells Rm.slots na := by
    rw [O.room]
    exact callB_of (Ts := gW) na (fun w hw => O.word hw) (gW_cons LB.2.2.1) rfl rfl rfl (O.word LB.2.1) (O.word LB.1) LB.2.2.2 f1
  rw [hAs] at hM1 hg ⊢
  exact vx_runV (Ts := gW) ⟨O.exec, O.code, O.2.2.1, O.host, fun w hw => O.word hw⟩ hM1 ⟨cb, O.word hin, O.word hsel⟩ ⟨hg.1, va_recv O.K hP hc (by rw [g_ws_at _ _ _ hb1, he]), hg.2⟩ rfl hna hh.1 hst (lv_room (Nat.le_of_ble_eq_true hrest)) hd (by rw [O.room]; exact f2)
theorem tt_callVi (O : g_oT X cc own ret R tb) (Y : g_Y (g_xs X)) {idx nL na ci b : Nat} {y : MethodName} {cy : ByteArray} {rt : Option FieldType} {Rm : Room} {As : (Nat → Nat) → List Value} {m' : Nat → Int32} {q' : g_q} {x : Int32} (av rest : List Value) (hM : g_SY (g_xl X) y cy nL rt Rm As m q (.inl (some (.int x)), (m', q'))) (L : g_LV own idx y cy nL rt na ci) (hb : g_obj ci b) (hAs : As (g_ad X) = .ref (g_ad X b) :: av) (hna : av.length = na) (hrest : Nat.ble (rest.map fun v => v.category).sum 8 = true) (hd : decode cc pc = .ok (.invokevirtual idx, 3)) (hfit : g_fit R Rm nL k n = true) {st0 : List Value} (hst : st0 = av.reverse ++ .ref (g_ad X b) :: rest) (kk : g_V X emb r (k + Rm.cells) (n + Rm.slots) m' q' (pc + 3) lc (.int x :: rest)) : g_V X emb r k n m q pc lc st0 := by
  intro H locs ls hP hS hh
  refine g_run (tt_goV O Y hM L hb hAs hna hrest hd hfit hst hP hS hh) hS (g_A_mono hS.1) (fun v H1 locs1 hv hP1 hS1 => ?_) (fun E q9 ce H1 locs1 hv => by cases hv)
  cases hv
  exact kk H1 locs1 ls hP1 hS1 hh
/-- a call that throws, caught here by the table's row x -/
theorem tt_callVx (O : g_oT X cc own ret R tb) (Y : g_Y (g_xs X)) {idx nL na ci b : Nat} {y : MethodName} {cy : ByteArray} {rt : Option FieldType} {Rm : Room} {As : (Nat → Nat) → List Value} {m' : Nat → Int32} {q' : g_q} {E : String} (av rest : List Value) (hM : g_SY (g_xl X) y cy nL rt Rm As m q (.inr E, (m', q'))) (L : g_LV own idx y cy nL rt na ci) (hb : g_obj ci b) (hAs : As (g_ad X) = .ref (g_ad X b) :: av) (hna : av.length = na) (hrest : Nat.ble (rest.map fun v => v.category).sum 8 = true) (hd : decode cc pc = .ok (.invokevirtual idx, 3)) (hfit : g_fit R Rm nL k n = true) {st0 : List Value} (hst : st0 = av.reverse ++ .ref (g_ad X b) :: rest)
    (pre : List ExceptionTableEntry) (x : ExceptionTableEntry) (suf : List ExceptionTableEntry) (hsplit : tb = pre ++ x :: suf) (hpass : ∀ z ∈ pre, z.catchType ≠ 0 ∧ ∃ nm : String, Cond.classLink own z.catchType nm ∈ gW ∧ va_Nc E nm (g_xs X)) (hx : covers x pc = true) (h0 : x.catchType ≠ 0) (hlink : Cond.classLink own x.catchType E ∈ gW) (hcast : va_Nw (.castable E E) (g_xs X))
    (kk : ∀ q9 : Nat, g_V X emb r (k + Rm.cells) (n + Rm.slots) m' q' x.handlerPc lc [.ref q9]) : g_V X emb r k n m q pc lc st0 := by
  intro H locs ls hP hS hh
  refine g_run (tt_goV O Y hM L hb hAs hna hrest hd hfit hst hP hS hh) hS (g_A_mono hS.1) (fun v H1 locs1 hv => by cases hv) (fun E1 q9 ce H1 locs1 hv hP1 hS1 h1 h2 h3 => ?_)
  cases hv
  refine vx_catch O.host pre x suf (O.table.trans hsplit) (fun z hz => Or.inr ?_) hx h0 (O.word hlink) (va_Nw.use rfl hcast) h1 h2 h3 (kk q9 H1 locs1 ls hP1 hS1 hh)
  obtain ⟨a1, nm, a2, a3⟩ := hpass z hz
  exact ⟨a1, nm, O.word a2, a3⟩
end GRT
/-- as g_SY, of a static method with handlers -/
def g_SW (l : Launch) (y : MethodName) (cc : ByteArray) (nL : Nat) (hh : List (Nat × Nat × Nat × Nat)) (R : Room) (As : (Nat → Nat) → List Value) (m : Nat → Int32) (q : g_q) (res : g_Res) : Prop :=
  ∀ (D : va_G) (ad : Nat → Nat) (ca : Nat → ClassId) (sz : Nat), vx_Met l y (Cond.codeWith y cc nL (some .int) hh :: gW) R (va_Pc (As ad) (g_By D ad ca sz m q)) (g_Qc D ad ca (g_A ad sz) res) (g_XC D ad ca (g_A ad sz) res) R.cells R.slots (g_A ad sz)
theorem g_sw_of {l : Launch} {y : MethodName} {cc : ByteArray} {nL : Nat} {hh : List (Nat × Nat × Nat × Nat)} {R : Room} {As : (Nat → Nat) → List Value} {m : Nat → Int32} {q : g_q} {r : g_Res}
    (hy : plainName y.cls = true) (hn : ∀ ad, (lg_sl (As ad)).length ≤ nL)
    (h : ∀ X : g_X, g_xl X = l → g_xn X = nL → g_oT X cc y.cls (some .int) R (tableOf hh) → g_Y (g_xs X) → g_V X (fun r : g_Res => r) r 0 0 m q 0 (lv_args 0 (As (g_ad X))) []) : g_SW l y cc nL hh R As m q r := by
  intro D ad ca sz
  refine vx_ofWH (cc := cc) (maxL := nL) (ret := some .int) (hh := hh) hy rfl ?_
  intro p e s m0 args below meth c s₁ B hml hv
  obtain ⟨rfl, ⟨rfl, hP, hK, hi, hZ⟩, hY⟩ := hv
  have hts := atoms_spec (ws := Cond.codeWith y cc nL (some .int) hh :: gW) B.pre
  have htb := vx_table (x := y) B (hts _ List.mem_cons_self)
  rw [lg_entry_eq]
  exact h ((p, l, e, R), (s, m0, (As ad).toArray, below, meth, c), (D, ad, ca), nL) rfl rfl ⟨B.exec, B.bytes, hml, findClass_of_methodNamed B.named, fun w hw => hts w (List.mem_cons_of_mem _ hw), hK, hi, hZ, B.notSynchronized, B.returns, rfl, htb⟩ hY s.heap [] _ hP va_S.rf (lv_entry (As ad) (hn ad))
/-! what a wrapper makes of an answer: its number of a throw, or 0 and the answer in the row of longs -/
def g_k : List String → String → Int32 → Int32
  | [], _, i => i
  | h :: t, E, i => if E = h then i else g_k t E (i + 1)
/-- what the law makes of a throw, of an answer -/
def g_wx (E : String) : Int32 := if E = "java/lang/IndexOutOfBoundsException" then -2000001 else if E = "java/lang/IllegalArgumentException" then -2000002 else -2000003
def g_wv (r : g_P7) : Int32 := match r.1 with
  | .inl (some (.int v)) => v
  | .inl _ => 0
  | .inr E => g_wx E
def g_w (r : g_P7) (s : Nat → Int32) (lm : Nat → Int64) : g_Res := (.inl (some (.int (g_wv r))), r.2.1, s, lm, r.2.2)
def g_W7 (hs : List String) (pm : Nat → Nat) (r : g_P7) : Prop := r.2.2 4 = pm 4 ∧ ((∃ v, r.1 = .inl (some (.int v))) ∨ ∃ E, E ∈ hs ∧ r.1 = .inr E)
theorem g_W7.r {hs : List String} {pm : Nat → Nat} {v : Int32} {m' : Nat → Int32} {pm' : Nat → Nat} (h : pm' 4 = pm 4) : g_W7 hs pm ((.inl (some (.int v)) : Option Value ⊕ String), m', pm') := ⟨h, Or.inl ⟨v, rfl⟩⟩
theorem g_W7.x {hs : List String} {pm : Nat → Nat} {E : String} {m' : Nat → Int32} (h : E ∈ hs) : g_W7 hs pm ((.inr E : Option Value ⊕ String), m', pm) := ⟨rfl, Or.inr ⟨E, h, rfl⟩⟩
theorem p4_save {m : Nat → Int32} {pm : Nat → Nat} : (R_X7_save m pm).2 4 = pm 4 := by
  unfold R_X7_save R_X7_save_12 R_X7_drop
  split
  · rfl
  · show updN (updN (updN (updN pm 0 (pm 1)) 1 (pm 2)) 2 (pm 3)) 3 (pm 0) 4 = _
    rw [updN_ne (by omega), updN_ne (by omega), updN_ne (by omega), updN_ne (by omega)]

/-! ===== calls of the wrappers; counts that hang on a loop's number ===== -/
def g_LW (idx : Nat) (y : MethodName) (cy : ByteArray) (nL na : Nat) (hh : List (Nat × Nat × Nat × Nat)) : Prop := Cond.methodLink RL idx y ∈ gW ∧ Cond.initialized y.cls ∈ gW ∧ Cond.codeWith y cy nL (some .int) hh ∈ gW ∧ (y.cls ≠ "java/lang/invoke/MethodHandle" ∧ y.cls ≠ "java/lang/invoke/VarHandle" ∧ (parseMethodDescriptor y.desc).map (fun d => d.parameters.length) = some na) ∧ Cond.static y ∈ gW
section GRW
variable {α : Type} {X : g_X} {emb : α → g_Res} {r : α} {k n : Nat} {m : Nat → Int32} {q : g_q} {pc : Nat} {lc lc' : List (Nat × Value)} {st : List Value} {cc : ByteArray} {own : String} {ret : Option FieldType} {R : Room} {tb : List ExceptionTableEntry}
theorem r_widen {k' n' : Nat} (hk : k ≤ k') (hn : n ≤ n') (kk : g_V X emb r k' n' m q pc lc st) : g_V X emb r k n m q pc lc st := fun H locs ls hP hS hh => W.widen hk hn (kk H locs ls hP hS hh)
theorem r_cW (O : g_ok X cc RL ret R) (Y : g_Y (g_xs X)) {idx nL na : Nat} {y : MethodName} {cy : ByteArray} {th : List (Nat × Nat × Nat × Nat)} {Rm : Room} {As : (Nat → Nat) → List Value} {m' : Nat → Int32} {q' : g_q} {x : Value} (av rest : List Value) (hM : g_SW (g_xl X) y cy nL th Rm As m q (.inl (some x), (m', q'))) (L : g_LW idx y cy nL na th) (hAs : As (g_ad X) = av) (hna : av.length = na) (hrest : Nat.ble (rest.map fun v => v.category).sum 8 = true) (hd : decode cc pc = .ok (.invokestatic idx, 3)) (hfit : g_fit R Rm nL k n = true) {st0 : List Value} (hst : st0 = av.reverse ++ rest) (kk : g_V X emb r (k + Rm.cells) (n + Rm.slots) m' q' (pc + 3) lc (x :: rest)) : g_V X emb r k n m q pc lc st0 := by
  intro H locs ls hP hS hh
  obtain ⟨L1, L2, L3, L4, L5⟩ := L
  obtain ⟨f1, f2⟩ := g_fit_of hfit
  have hM1 := hM (g_xD X) (g_ad X) (g_ca X) H.size
  have hg := g_starty O Y hP hS (As (g_ad X))
  have cw : vx_CSW (g_xR X) (g_xs X) (g_xa X) RL idx y cy nL (some .int) th (Cond.codeWith y cy nL (some .int) th :: gW) Rm Rm.cells Rm.slots na := by
    rw [O.room]
    refine vx_cwSW (Ts := gW) na (fun w hw => O.word hw) (fun w hw => ?_) rfl rfl rfl L4 f1
    unfold va_wsS at hw
    rcases List.mem_append.mp hw with h | h
    · simp only [List.mem_cons, List.not_mem_nil, or_false] at h
      rcases h with rfl | rfl | rfl
      · exact gW_self _ L1
      · exact gW_self _ L5
      · exact gW_self _ L2
    · exact gW_cons L3 w h
  rw [hAs] at hM1 hg
  refine g_run (a := av.toArray) (vx_runSX (Ts := gW) ⟨O.exec, O.code, O.2.2.1, O.host, fun w hw => O.word hw⟩ hM1 cw hg rfl hna hh.1 hst (lv_room (Nat.le_of_ble_eq_true hrest)) hd (by rw [O.room]; exact f2)) hS (g_A_mono hS.1) (fun v H1 locs1 hv hP1 hS1 => ?_) (fun E q9 ce H1 locs1 hv => by cases hv)
  cases hv
  exact kk H1 locs1 ls hP1 hS1 hh
theorem r_ialn (O : g_ok X cc own ret R) {kc len b loc : Nat} {s' : Nat → Int32} {i : Int32} (G : g_R (g_ad X) (g_ca X) (m, q) kc len (fun t => s' (b + t))) (hin : vp_in i len) (hi : b + i.toNatClampNeg = loc) (hd : decode cc pc = .ok (.iaload, 1)) (kk : g_V X emb r k n m q (pc + 1) lc (.int (s' loc) :: st)) : g_V X emb r k n m q pc lc (.int i :: .ref (g_ad X kc) :: st) := by
  subst hi
  exact r_iald O G hin hd kk
theorem r_ialv (O : g_ok X cc own ret R) {kc len b loc : Nat} {s' : Nat → Int32} {i v : Int32} (G : g_R (g_ad X) (g_ca X) (m, q) kc len (fun t => s' (b + t))) (hin : vp_in i len) (hi : b + i.toNatClampNeg = loc) (hv : s' loc = v) (hd : decode cc pc = .ok (.iaload, 1)) (kk : g_V X emb r k n m q (pc + 1) lc (.int v :: st)) : g_V X emb r k n m q pc lc (.int i :: .ref (g_ad X kc) :: st) := by
  subst hv
  exact r_ialn O G hin hi hd kk
theorem r_iasn (O : g_ok X cc own ret R) {kc len b loc : Nat} {s : Nat → Int32} {lm : Nat → Int64} {pm : Nat → Nat} {i x : Int32} (G : g_T (g_ad X) (g_ca X) (m, s, lm, pm) kc len (fun t x => (m, upd s (b + t) x, lm, pm))) (hin : vp_in i len) (hi : b + i.toNatClampNeg = loc) (hd : decode cc pc = .ok (.iastore, 1)) (kk : g_V X emb r k n m (upd s loc x, lm, pm) (pc + 1) lc st) : g_V X emb r k n m (s, lm, pm) pc lc (.int x :: .int i :: .ref (g_ad X kc) :: st) := by
  subst hi
  exact r_iastM O (w := fun t => b + t) G hin hd kk
end GRW
theorem g_fit_n {R Rm : Room} {nL k n : Nat} (h : (Nat.ble (Rm.frames + 1) R.frames && Nat.ble (8 + (nL + 11) + Rm.locals) R.locals) = true) (h1 : k + Rm.cells ≤ R.cells) (h2 : n + Rm.slots ≤ R.slots) : g_fit R Rm nL k n = true := by
  unfold g_fit
  rw [h, Bool.true_and, Nat.ble_eq_true_of_le h1, Nat.ble_eq_true_of_le h2]
  rfl
