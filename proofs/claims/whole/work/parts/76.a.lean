/-! ===== the law's body: rows ===== -/
section GRU
variable {α : Type} {X : g_X} {emb : α → g_Res} {r : α} {k n : Nat} {m : Nat → Int32} {q : g_q} {pc : Nat} {lc lc' : List (Nat × Value)} {st : List Value} {cc : ByteArray} {own : String} {ret : Option FieldType} {R : Room} {tb : List ExceptionTableEntry}
theorem tt_bipush (O : g_oT X cc own ret R tb) {i : Int} {x : Int32} (hd : decode cc pc = .ok (.bipush i, 2)) (hv : (Int8.ofInt i).toInt32 = x) (kk : g_V X emb r k n m q (pc + 2) lc (.int x :: st)) : g_V X emb r k n m q pc lc st := fun H locs ls hP hS hh => lv_bipush O.exec O.code hd hv (kk H locs ls hP hS hh)
theorem tt_istore (O : g_oT X cc own ret R tb) {j : Nat} {x : Int32} (hd : decode cc pc = .ok (.istore j, 2)) (hn : j < g_xn X) (hl : (j, Value.int x) :: lc.filter (fun q => !(q.1 == j) && !(q.1 + 1 == j && q.2.category == 2)) = lc') (kk : g_V X emb r k n m q (pc + 2) lc' st) : g_V X emb r k n m q pc lc (.int x :: st) := fun H locs ls hP hS hh => lv_istore O.exec O.code hd hh hn hl (fun ls' hh' => kk H locs ls' hP hS hh')
theorem tt_dstore (O : g_oT X cc own ret R tb) {j : Nat} {x : UInt64} (hd : decode cc pc = .ok (.dstore j, 2)) (hn : j + 1 < g_xn X) (hl : (j, Value.double x) :: lc.filter (fun q => !(q.1 == j) && (!(q.1 == j + 1) && !(q.1 + 1 == j && q.2.category == 2))) = lc') (kk : g_V X emb r k n m q (pc + 2) lc' st) : g_V X emb r k n m q pc lc (.double x :: st) := fun H locs ls hP hS hh => lv_dstore O.exec O.code hd hh hn hl (fun ls' hh' => kk H locs ls' hP hS hh')
theorem tt_dload (O : g_oT X cc own ret R tb) (z : Nat) {j : Nat} {x : UInt64} (hd : decode cc pc = .ok (.dload j, 2)) (hl : lc[z]? = some (j, .double x)) (kk : g_V X emb r k n m q (pc + 2) lc (.double x :: st)) : g_V X emb r k n m q pc lc st := fun H locs ls hP hS hh => lv_dload O.exec O.code hd (lv_at hh z hl) (kk H locs ls hP hS hh)
theorem tt_dcmp (O : g_oT X cc own ret R tb) {x y : UInt64} {op : CmpOp} (hd : decode cc pc = .ok (.dcmp op, 1)) (kk : g_V X emb r k n m q (pc + 1) lc (.int (Op.cmpValue (FP.dcmp x y) op) :: st)) : g_V X emb r k n m q pc lc (.double y :: .double x :: st) := fun H locs ls hP hS hh => lv_dcmp O.exec O.code hd (kk H locs ls hP hS hh)
theorem tt_lcmp (O : g_oT X cc own ret R tb) {x y : Int64} (hd : decode cc pc = .ok (.lcmp, 1)) (kk : g_V X emb r k n m q (pc + 1) lc (.int (lg_cmp x y) :: st)) : g_V X emb r k n m q pc lc (.long y :: .long x :: st) := fun H locs ls hP hS hh => W.lcmp O.exec O.code hd (kk H locs ls hP hS hh)
theorem tt_iadd (O : g_oT X cc own ret R tb) {x y : Int32} (hd : decode cc pc = .ok (.iadd, 1)) (kk : g_V X emb r k n m q (pc + 1) lc (.int (x + y) :: st)) : g_V X emb r k n m q pc lc (.int y :: .int x :: st) := fun H locs ls hP hS hh => lv_iadd O.exec O.code hd (kk H locs ls hP hS hh)
theorem tt_isub (O : g_oT X cc own ret R tb) {x y : Int32} (hd : decode cc pc = .ok (.isub, 1)) (kk : g_V X emb r k n m q (pc + 1) lc (.int (x - y) :: st)) : g_V X emb r k n m q pc lc (.int y :: .int x :: st) := fun H locs ls hP hS hh => lv_isub O.exec O.code hd (kk H locs ls hP hS hh)
theorem tt_iand (O : g_oT X cc own ret R tb) {x y : Int32} (hd : decode cc pc = .ok (.iand, 1)) (kk : g_V X emb r k n m q (pc + 1) lc (.int (x &&& y) :: st)) : g_V X emb r k n m q pc lc (.int y :: .int x :: st) := fun H locs ls hP hS hh => lv_iand O.exec O.code hd (kk H locs ls hP hS hh)
theorem tt_iinc (O : g_oT X cc own ret R tb) (z : Nat) {j : Nat} {i : Int} {x y : Int32} (hd : decode cc pc = .ok (.iinc j i, 3)) (hk : lc[z]? = some (j, .int x)) (hv : x + Int32.ofInt i = y) (hn : j < g_xn X) (hl : (j, Value.int y) :: lc.filter (fun q => !(q.1 == j) && !(q.1 + 1 == j && q.2.category == 2)) = lc') (kk : g_V X emb r k n m q (pc + 3) lc' st) : g_V X emb r k n m q pc lc st := fun H locs ls hP hS hh => lv_iinc O.exec O.code hd hh hk hv hn hl (fun ls' hh' => kk H locs ls' hP hS hh')
theorem tt_if_eq (O : g_oT X cc own ret R tb) {x : Int32} {off : Int} (tgt : Nat) (hd : decode cc pc = .ok (.ifCond .eq off, 3)) (ht : (pc : Int) + off = (tgt : Int)) (kt : x = 0 → g_V X emb r k n m q tgt lc st) (kf : ¬ x = 0 → g_V X emb r k n m q (pc + 3) lc st) : g_V X emb r k n m q pc lc (.int x :: st) := fun H locs ls hP hS hh => lv_if_eq O.exec O.code hd ht (fun c => kt c H locs ls hP hS hh) (fun c => kf c H locs ls hP hS hh)
theorem tt_if_ne (O : g_oT X cc own ret R tb) {x : Int32} {off : Int} (tgt : Nat) (hd : decode cc pc = .ok (.ifCond .ne off, 3)) (ht : (pc : Int) + off = (tgt : Int)) (kt : ¬ x = 0 → g_V X emb r k n m q tgt lc st) (kf : x = 0 → g_V X emb r k n m q (pc + 3) lc st) : g_V X emb r k n m q pc lc (.int x :: st) := fun H locs ls hP hS hh => lv_if_ne O.exec O.code hd ht (fun c => kt c H locs ls hP hS hh) (fun c => kf c H locs ls hP hS hh)
theorem tt_icmp_eq (O : g_oT X cc own ret R tb) {x y : Int32} {off : Int} (tgt : Nat) (hd : decode cc pc = .ok (.if_icmp .eq off, 3)) (ht : (pc : Int) + off = (tgt : Int)) (h : x = y) (kt : g_V X emb r k n m q tgt lc st) : g_V X emb r k n m q pc lc (.int y :: .int x :: st) := fun H locs ls hP hS hh => lv_icmp_eq O.exec O.code hd ht (fun _ => kt H locs ls hP hS hh) (fun c => absurd h c)
theorem tt_icmp_gt (O : g_oT X cc own ret R tb) {x y : Int32} {off : Int} (tgt : Nat) (hd : decode cc pc = .ok (.if_icmp .gt off, 3)) (ht : (pc : Int) + off = (tgt : Int)) (kt : y < x → g_V X emb r k n m q tgt lc st) (kf : ¬ y < x → g_V X emb r k n m q (pc + 3) lc st) : g_V X emb r k n m q pc lc (.int y :: .int x :: st) := fun H locs ls hP hS hh => lv_icmp_gt O.exec O.code hd ht (fun c => kt c H locs ls hP hS hh) (fun c => kf c H locs ls hP hS hh)
theorem tt_tabIn (O : g_oT X cc own ret R tb) {dflt lo hi : Int} {offs : Array Int} {len : Nat} {x : Int32} {off : Int} (tgt : Nat) (hd : decode cc pc = .ok (.tableswitch dflt lo hi offs, len)) (h1 : ¬ x.toInt < lo) (h2 : ¬ hi < x.toInt) (ho : offs[(x.toInt - lo).toNat]? = some off) (ht : (pc : Int) + off = (tgt : Int)) (kk : g_V X emb r k n m q tgt lc st) : g_V X emb r k n m q pc lc (.int x :: st) := fun H locs ls hP hS hh => lv_tableIn O.exec O.code hd h1 h2 ho ht (kk H locs ls hP hS hh)
theorem tt_sld (O : g_oT X cc own ret R tb) {b L : Nat} {xs : Nat → Int32} (V : va_X b L xs (g_xs X) (g_xs X).heap ∧ b < (g_xs X).heap.size ∧ ¬ g_xA X b) {i : Int32} (hin : vp_in i L) (hd : decode cc pc = .ok (.iaload, 1)) (kk : g_V X emb r k n m q (pc + 1) lc (.int (xs i.toNatClampNeg) :: st)) : g_V X emb r k n m q pc lc (.int i :: .ref b :: st) := fun H locs ls hP hS hh => va_sld O.exec O.code V.1 V.2.1 V.2.2 hS hin hd (kk H locs ls hP hS hh)
theorem tt_slen (O : g_oT X cc own ret R tb) {b L : Nat} {xs : Nat → Int32} (V : va_X b L xs (g_xs X) (g_xs X).heap ∧ b < (g_xs X).heap.size ∧ ¬ g_xA X b) (hd : decode cc pc = .ok (.arraylength, 1)) (kk : g_V X emb r k n m q (pc + 1) lc (.int (Int32.ofNat L) :: st)) : g_V X emb r k n m q pc lc (.ref b :: st) := fun H locs ls hP hS hh => va_slen O.exec O.code V.1 V.2.1 V.2.2 hS hd (kk H locs ls hP hS hh)
theorem tt_lald (O : g_oT X cc own ret R tb) {s : Nat → Int32} {lm : Nat → Int64} {pm : Nat → Nat} (h4 : pm 4 = 1) (hd : decode cc pc = .ok (.laload, 1)) (kk : g_V X emb r k n m (s, lm, pm) (pc + 1) lc (.long (lm 1) :: st)) : g_V X emb r k n m (s, lm, pm) pc lc (.int 0 :: .ref (g_ad X 129) :: st) :=
  fun H locs ls hP hS hh => va_lald O.exec O.code O.K hP 129 3 (g_129_at h4) rfl (i := 0) (g_vin (by decide) (by decide)) hd (kk H locs ls hP hS hh)
theorem tt_zret {ty : FieldType} {x : Int32} (O : g_oT X cc own (some ty) R tb) (hd : decode cc pc = .ok (.ireturn, 1)) (hn : narrow ty (.int x) = .int x) (hk : k ≤ R.cells) (hs : n ≤ R.slots) (he : emb r = (.inl (some (.int x)), (m, q))) : g_V X emb r k n m q pc lc [.int x] := by
  intro H locs ls hP hS hh
  rw [← O.room] at hk hs
  exact W.widen hk hs (vx_ret (W.zret O.exec O.code O.rty hn (fun t ht _ => ⟨some (.int x), by rw [he], rfl, by rw [he, ht]; exact hP, hS.F ht⟩) hS.2.2 hd O.locks))
theorem r_widen {k' n' : Nat} (hk : k ≤ k') (hn : n ≤ n') (kk : g_V X emb r k' n' m q pc lc st) : g_V X emb r k n m q pc lc st := fun H locs ls hP hS hh => W.widen hk hn (kk H locs ls hP hS hh)
theorem tt_start (O : g_oT X cc own ret R tb) {H : Heap} {locs : List Loc} (hP : va_P (g_xD X) vwCl (g_ws (g_ad X) (g_ca X) (m, q)) H) (hS : va_S (g_xA X) (g_xs X).heap H locs) (av : List Value) : PreS (g_xs X) H (va_Pc av (g_B (g_xD X) (g_ad X) (g_ca X) H.size m q)) av :=
  ⟨g_B.blind av, fun U hU hW => ⟨rfl, by rw [hU], by rw [hU]; exact hP, va_K.moved hW.alike O.K, O.inj, O.Z.step hW (by rw [hU]; exact hS.1) (by rw [hU]; exact hS.2.1) (g_A_mono hS.1)⟩⟩
/-- a call of a method that neither throws nor has handlers -/
theorem tt_goM (O : g_oT X cc own ret R tb) {idx nL na ci b : Nat} {y : MethodName} {cy : ByteArray} {rt : Option FieldType} {Rm : Room} {As : (Nat → Nat) → List Value} {res : g_Res} {av rest : List Value} (hM : g_SM (g_xl X) y cy nL rt Rm As m q res) (L : g_LV own idx y cy nL rt na ci) (hb : g_obj ci b) (hAs : As (g_ad X) = .ref (g_ad X b) :: av) (hna : av.length = na) (hrest : Nat.ble (rest.map fun v => v.category).sum 8 = true) (hd : decode cc pc = .ok (.invokevirtual idx, 3)) (hfit : g_fit R Rm nL k n = true) {st0 : List Value} (hst : st0 = av.reverse ++ .ref (g_ad X b) :: rest)
    {H : Heap} {locs : List Loc} {ls : Array Slot} (hP : va_P (g_xD X) vwCl (g_ws (g_ad X) (g_ca X) (m, q)) H) (hS : va_S (g_xA X) (g_xs X).heap H locs) (hh : lv_has ls (g_xn X) lc) :
    vx_Run (g_xp X) (g_xl X) (g_xe X) (g_xR X) (g_xs X) (g_xm X) (g_xa X) (g_xb X) (g_xt X) (g_xc X) H locs k n Rm.cells Rm.slots (F0 (g_xm X) pc ls st0) rest (g_Qc (g_xD X) (g_ad X) (g_ca X) (g_A (g_ad X) H.size) res (As (g_ad X)).toArray) (g_XC (g_xD X) (g_ad X) (g_ca X) (g_A (g_ad X) H.size) res) (g_A (g_ad X) H.size) := by
  obtain ⟨LB, hin, hsel, T, N, hc⟩ := L
  obtain ⟨f1, f2⟩ := g_fit_of hfit
  obtain ⟨hb1, hb2⟩ := hb
  obtain ⟨fs, he⟩ := hb2 (g_ad X) (g_ca X) (m, q)
  have hM1 := hM (g_xD X) (g_ad X) (g_ca X) H.size
  have hg := tt_start O hP hS (As (g_ad X))
  have cb : CallB (g_xR X) (g_xs X) (g_xa X) own idx y cy nL rt (Cond.code y cy nL rt :: gW) Rm Rm.cells Rm.slots na := by
    rw [O.room]
    exact callB_of (Ts := gW) na (fun w hw => O.word hw) (gW_cons LB.2.2.1) rfl rfl rfl (O.word LB.2.1) (O.word LB.1) LB.2.2.2 f1
  rw [hAs] at hM1 hg ⊢
  exact vx_runV (Ts := gW) ⟨O.exec, O.code, O.2.2.1, O.host, fun w hw => O.word hw⟩ hM1 ⟨cb, O.word hin, O.word hsel⟩ ⟨hg.1, va_recv O.K hP hc (by rw [g_ws_at _ _ _ hb1, he]), hg.2⟩ rfl hna hh.1 hst (lv_room (Nat.le_of_ble_eq_true hrest)) hd (by rw [O.room]; exact f2)
theorem tt_callM (O : g_oT X cc own ret R tb) {idx nL na ci b : Nat} {y : MethodName} {cy : ByteArray} {rt : Option FieldType} {Rm : Room} {As : (Nat → Nat) → List Value} {m' : Nat → Int32} {q' : g_q} {x : Value} (av rest : List Value) (hM : g_SM (g_xl X) y cy nL rt Rm As m q (.inl (some x), (m', q'))) (L : g_LV own idx y cy nL rt na ci) (hb : g_obj ci b) (hAs : As (g_ad X) = .ref (g_ad X b) :: av) (hna : av.length = na) (hrest : Nat.ble (rest.map fun v => v.category).sum 8 = true) (hd : decode cc pc = .ok (.invokevirtual idx, 3)) (hfit : g_fit R Rm nL k n = true) {st0 : List Value} (hst : st0 = av.reverse ++ .ref (g_ad X b) :: rest) (kk : g_V X emb r (k + Rm.cells) (n + Rm.slots) m' q' (pc + 3) lc (x :: rest)) : g_V X emb r k n m q pc lc st0 := by
  intro H locs ls hP hS hh
  refine g_run (tt_goM O hM L hb hAs hna hrest hd hfit hst hP hS hh) hS (g_A_mono hS.1) (fun v H1 locs1 hv hP1 hS1 => ?_) (fun E q9 ce H1 locs1 hv => by cases hv)
  cases hv
  exact kk H1 locs1 ls hP1 hS1 hh
/-- a call of a static method with handlers, by what the tables say of it -/
def g_LW (idx : Nat) (y : MethodName) (cy : ByteArray) (nL na : Nat) (hh : List (Nat × Nat × Nat × Nat)) : Prop := Cond.methodLink RL idx y ∈ gW ∧ Cond.initialized y.cls ∈ gW ∧ Cond.codeWith y cy nL (some .int) hh ∈ gW ∧ (y.cls ≠ "java/lang/invoke/MethodHandle" ∧ y.cls ≠ "java/lang/invoke/VarHandle" ∧ (parseMethodDescriptor y.desc).map (fun d => d.parameters.length) = some na) ∧ Cond.static y ∈ gW
theorem tt_callS (O : g_oT X cc RL ret R tb) (Y : g_Y (g_xs X)) {idx nL na : Nat} {y : MethodName} {cy : ByteArray} {th : List (Nat × Nat × Nat × Nat)} {Rm : Room} {As : (Nat → Nat) → List Value} {m' : Nat → Int32} {q' : g_q} {x : Value} (av rest : List Value) (hM : g_SW (g_xl X) y cy nL th Rm As m q (.inl (some x), (m', q'))) (L : g_LW idx y cy nL na th) (hAs : As (g_ad X) = av) (hna : av.length = na) (hrest : Nat.ble (rest.map fun v => v.category).sum 8 = true) (hd : decode cc pc = .ok (.invokestatic idx, 3)) (hfit : g_fit R Rm nL k n = true) {st0 : List Value} (hst : st0 = av.reverse ++ rest) (kk : g_V X emb r (k + Rm.cells) (n + Rm.slots) m' q' (pc + 3) lc (x :: rest)) : g_V X emb r k n m q pc lc st0 := by
  intro H locs ls hP hS hh
  obtain ⟨L1, L2, L3, L4, L5⟩ := L
  obtain ⟨f1, f2⟩ := g_fit_of hfit
  have hM1 := hM (g_xD X) (g_ad X) (g_ca X) H.size
  have hg := tt_startY O Y hP hS (As (g_ad X))
  have cw : vx_CSW (g_xR X) (g_xs X) (g_xa X) RL idx y cy nL (some .int) th (Cond.codeWith y cy nL (some .int) th :: gW) Rm Rm.cells Rm.slots na := by
    rw [O.room]
    refine vx_cwSW (Ts := gW) na (fun w hw => O.word hw) (fun w hw => ?_) rfl rfl rfl L4 f1
    unfold va_wsS at hw
    rcases List.mem_append.mp hw with h | h
    · simp only [List.mem_cons, List.not_mem_nil, or_false] at h
      rcases h with rfl | rfl | rfl
      · exact gW_self _ L1
      · exact gW_self _ L5
      · exact gW_self _ L2
    · exact gW_cons L3 w h
  rw [hAs] at hM1 hg
  refine g_run (a := av.toArray) (vx_runSX (Ts := gW) ⟨O.exec, O.code, O.2.2.1, O.host, fun w hw => O.word hw⟩ hM1 cw hg rfl hna hh.1 hst (lv_room (Nat.le_of_ble_eq_true hrest)) hd (by rw [O.room]; exact f2)) hS (g_A_mono hS.1) (fun v H1 locs1 hv hP1 hS1 => ?_) (fun E q9 ce H1 locs1 hv => by cases hv)
  cases hv
  exact kk H1 locs1 ls hP1 hS1 hh
end GRU
/-! ===== the law's body: what its cases say ===== -/
def lw_V (X : g_X) (b L : Nat) (xs : Nat → Int32) : Prop := va_X b L xs (g_xs X) (g_xs X).heap ∧ b < (g_xs X).heap.size ∧ ¬ g_xA X b
def lw_lc (X : g_X) (b : Nat) (i : Int32) : List (Nat × Value) := [(4, .int i), (0, .ref b), (1, .ref (g_ad X 122)), (2, .ref (g_ad X 124)), (3, .ref (g_ad X 129))]
/-- from here the law answers true -/
def lw_E (X : g_X) (k n : Nat) (m : Nat → Int32) (q : g_q) (pc : Nat) (lc : List (Nat × Value)) : Prop := ∃ res : g_Res, res.1 = .inl (some (.int 1)) ∧ g_V X (fun r : g_Res => r) res k n m q pc lc []
def lw_K (X : g_X) (k n : Nat) (lc : List (Nat × Value)) : Prop := ∀ (m s : Nat → Int32) (lm : Nat → Int64) (pm : Nat → Nat), g_Rel m s pm → lw_E X k n m (s, lm, pm) 1863 lc
def lw_I (L : Nat) (i : Int32) : Prop := vp_in i L ∧ vp_in (i + 1) L ∧ vp_in (i + 2) L ∧ vp_in (i + 3) L
/-- the law stands -/
def lw_O (X : g_X) : Prop := g_oT X cL_law RL (some .boolean) room_1 ((g_xc X).exceptionTable.toList) ∧ g_Y (g_xs X) ∧ (g_xl X).stackTraces = false ∧ g_xn X = 9
theorem lw_fit {Rm : Room} {nL k n : Nat} (h : (Nat.ble (Rm.frames + 1) 12 && Nat.ble (8 + (nL + 11) + Rm.locals) 432 && Nat.ble Rm.cells 4 && Nat.ble Rm.slots 24) = true) (hk : k ≤ 90004) (hn : n ≤ 90024) : g_fit room_1 Rm nL k n = true := by
  simp only [Bool.and_eq_true, Nat.ble_eq] at h
  obtain ⟨⟨⟨h1, h2⟩, h3⟩, h4⟩ := h
  unfold g_fit
  simp only [Bool.and_eq_true, Nat.ble_eq]
  have e1 : room_1.frames = 12 := rfl
  have e2 : room_1.locals = 432 := rfl
  have e3 : room_1.cells = 601024 := rfl
  have e4 : room_1.slots = 7293034 := rfl
  rw [e1, e2, e3, e4]
  exact ⟨⟨⟨h1, h2⟩, by omega⟩, by omega⟩
theorem lg_cmp_self (x : Int64) : lg_cmp x x = 0 := by unfold lg_cmp; simp
theorem lw_pasts {m s : Nat → Int32} {pm : Nat → Nat} (R : g_Rel m s pm) : 0 ≤ (s 1300).toInt ∧ (s 1300).toInt ≤ 4 := by
  obtain ⟨c, c1, c2, -, -⟩ := R.2.1
  have hc : (nI c).toInt = (c : Int) := nI_toInt (by omega)
  rw [c2, hc]
  omega
