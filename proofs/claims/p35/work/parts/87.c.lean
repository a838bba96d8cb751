/-! ===== the law's body: calls above a deep stack, the script's numbers, branches ===== -/
section VXSW
variable {p : Program} {l : Launch} {e : Env} {R : Room} {s : State} {m : MethodId} {args : Array Value} {below : List Frame} {meth : Method} {c : Code} {H : Heap} {locs : List Loc} {cells slots : Nat}
variable {y : MethodName} {bytes cc : ByteArray} {maxL nL mc ms n index : Nat} {ret : Option FieldType} {ws : List Cond} {rm : Room} {Pc : Array Value → State → Prop} {Qc : Array Value → State → Outcome → State → Prop} {XC : String → State → State → Prop} {free : Addr → Prop} {Ts : List Cond} {own : String} {As rest : List Value} {g : JFrame}
/-- as vx_runS, above a stack of up to 16 words -/
theorem vx_runS16 (S : CallFix p m c cc nL s args Ts own) (hM : vx_Met l y ws rm Pc Qc XC mc ms free) (cw : CallB R s args own index y bytes maxL ret ws rm mc ms n ∧ (Cond.static y).before args s = true) (h16 : 16 + (maxL + 11) + rm.locals ≤ R.locals) (hp : PreS s H Pc As)
    (hg : g.method = m) (hn : As.length = n) (hsize : g.locals.size = nL) (hstack : g.stack = As.reverse ++ rest) (hW : 2 * g.monitorRoom + (rest.map fun v => v.category).sum ≤ 16) (hdg : decode cc g.pc = .ok (.invokestatic index, 3)) (hf : cells + mc ≤ R.cells ∧ slots + ms ≤ R.slots) :
    vx_Run p l e R s m args below meth c H locs cells slots mc ms g rest (Qc As.toArray) XC free := by
  obtain ⟨⟨hrc, hrs, hfr, -, hws, hcw, hcode, hini, hy, hlen, hl⟩, hstt⟩ := cw
  have hK : vx_Back l R p e below s args y 3 16 (PreOf R mc ms Pc) (PostOf Qc mc ms free) (vx_Post XC mc ms free) := vx_back (bytes := bytes) (maxL := maxL) (ret := ret) hM hp.1 hrc hrs hfr h16 hws hcw (fun a' U hW => word_at hW (Or.inl (by first | rfl | simp [Cond.onTables, Cond.keeps, Cond.steady])) hini)
  obtain ⟨hx, hb, hml, ho, -⟩ := S
  intro T hT X
  rcases vx_callS X hx (bytes := bytes) (maxL := maxL) (ret := ret) ho hl hstt hini hcode hy hK hg (hsize.trans hml.symm) (argsL := As) (rest := rest) (fun sig h => hn.trans (hlen sig h)) hstack hW (by rw [hb]; exact hdg)
    (fun vm₁ hW₁ => ⟨hf.1, hf.2, hp.2 (T.setVm vm₁) hT hW₁⟩) with ⟨v, vm₁, ⟨U', l2, c2, s2⟩, hW₁, X', ⟨g', mk, t, L, e1, e2, hq, h1, hL, h2, h3⟩, st⟩ | ⟨q, vm₁, ⟨U', l2, c2, s2⟩, hW₁, X', ⟨g', mk, t, L, E, ce, e1, e2, hq, hce, hcv, hcl, h1, hL, h2, h3⟩, st⟩
  · dsimp only [Pt.U, Pt.locs, Pt.cells, Pt.slots] at X' e1 e2 h1 h2 h3 st
    subst h1; subst h2; subst h3
    exact Or.inl ⟨v, (T.setVm vm₁).calling g' mk As.toArray, t, U', L, hT, X', hL, e1, e2, hq, st⟩
  · dsimp only [Pt.U, Pt.locs, Pt.cells, Pt.slots] at X' e1 e2 h1 h2 h3 st hcl
    subst h1; subst h2; subst h3
    exact Or.inr ⟨q, (T.setVm vm₁).calling g' mk As.toArray, t, U', L, E, ce, hT, X', hL, e1, e2, hq, hce, hcv, vx_cls hW₁ hcl, st⟩
end VXSW
/-- the script, outside the world -/
def g_Sx (b L : Nat) (xs : Nat → Int32) (A : Nat → Prop) (U : State) : Prop := va_X b L xs U U.heap ∧ b < U.heap.size ∧ ¬ A b
theorem g_Sx.step {b L : Nat} {xs : Nat → Int32} {A B : Nat → Prop} {u U : State} (h : g_Sx b L xs A u) (hW : u.WarmedH U.vm) (hz : u.heap.size ≤ U.heap.size) (hq : ∀ a : Nat, a < u.heap.size → ¬ A a → U.heap[a]? = u.heap[a]?) (hAB : ∀ q, B q → A q) : g_Sx b L xs B U :=
  ⟨(h.1.kept (hq _ h.2.1 h.2.2)).moved hW.alike, Nat.lt_of_lt_of_le h.2.1 hz, fun z => h.2.2 (hAB _ z)⟩
def g_BK (D : va_G) (ad : Nat → Nat) (ca : Nat → ClassId) (sz : Nat) (m : Nat → Int32) (q : g_q) (b L : Nat) (xs : Nat → Int32) (U : State) : Prop := g_B D ad ca sz m q U ∧ g_Sx b L xs (g_A ad sz) U
theorem g_BK.blind {D : va_G} {ad : Nat → Nat} {ca : Nat → ClassId} {sz : Nat} {m : Nat → Int32} {q : g_q} {b L : Nat} {xs : Nat → Int32} (av : List Value) : FrameBlind (va_Pc av (g_BK D ad ca sz m q b L xs)) := by
  intro a U g mk h
  obtain ⟨h0, h1, h2⟩ := h
  have := g_B.blind av a U g mk ⟨h0, h1⟩
  exact ⟨this.1, this.2, h2.step (U := U.calling g mk a) (State.WarmedH.refl U) (Nat.le_refl _) (fun _ _ _ => rfl) (fun _ z => z)⟩
/-- as g_SM, of a method that reads the script -/
def g_SK (l : Launch) (y : MethodName) (cc : ByteArray) (nL : Nat) (ret : Option FieldType) (R : Room) (As : (Nat → Nat) → List Value) (b L : Nat) (xs : Nat → Int32) (m : Nat → Int32) (q : g_q) (res : g_Res) : Prop :=
  ∀ (D : va_G) (ad : Nat → Nat) (ca : Nat → ClassId) (sz : Nat), vx_Met l y (Cond.code y cc nL ret :: gW) R (va_Pc (As ad) (g_BK D ad ca sz m q b L xs)) (g_Qc D ad ca (g_A ad sz) res) (g_XC D ad ca (g_A ad sz) res) R.cells R.slots (g_A ad sz)
theorem g_sk_of {α : Type} {l : Launch} {y : MethodName} {cc : ByteArray} {nL : Nat} {ret : Option FieldType} {R : Room} {As : (Nat → Nat) → List Value} {b L : Nat} {xs : Nat → Int32} {m : Nat → Int32} {q : g_q} {emb : α → g_Res} {r : α}
    (hy : plainName y.cls = true) (hn : ∀ ad, (lg_sl (As ad)).length ≤ nL)
    (h : ∀ X : g_X, g_xl X = l → g_xn X = nL → g_ok X cc y.cls ret R → g_Sx b L xs (g_xA X) (g_xs X) → g_V X emb r 0 0 m q 0 (lv_args 0 (As (g_ad X))) []) : g_SK l y cc nL ret R As b L xs m q (emb r) := by
  intro D ad ca sz
  refine vx_ofW (cc := cc) (maxL := nL) (ret := ret) hy rfl ?_
  intro p e s m0 args below meth c s₁ B hml hx hv
  obtain ⟨rfl, ⟨rfl, hP, hK, hi, hZ⟩, hV⟩ := hv
  have hts := atoms_spec (ws := Cond.code y cc nL ret :: gW) B.pre
  rw [lg_entry_eq]
  exact h ((p, l, e, R), (s, m0, (As ad).toArray, below, meth, c), (D, ad, ca), nL) rfl rfl ⟨B.exec, B.bytes, hml, findClass_of_methodNamed B.named, fun w hw => hts w (List.mem_cons_of_mem _ hw), hK, hi, hZ, B.notSynchronized, B.returns, rfl, hx⟩ hV s.heap [] _ hP va_S.rf (lv_entry (As ad) (hn ad))
section GLW
variable {α : Type} {X : g_X} {emb : α → g_Res} {r : α} {k n : Nat} {m : Nat → Int32} {q : g_q} {pc : Nat} {lc lc' : List (Nat × Value)} {st : List Value} {cc : ByteArray} {own : String} {ret : Option FieldType} {R : Room}
theorem r_callK (O : g_ok X cc own ret R) {b L : Nat} {xs : Nat → Int32} (V : g_Sx b L xs (g_xA X) (g_xs X)) {idx nL na : Nat} {y : MethodName} {cy : ByteArray} {rt : Option FieldType} {Rm : Room} {As : (Nat → Nat) → List Value} {m' : Nat → Int32} {q' : g_q} {x : Int32} (av rest : List Value) (hM : g_SK (g_xl X) y cy nL rt Rm As b L xs m q (.inl (some (.int x)), (m', q'))) (LS : g_LS own idx y cy nL rt na) (hAs : As (g_ad X) = av) (hna : av.length = na) (hrest : Nat.ble (rest.map fun v => v.category).sum 16 = true) (hd : decode cc pc = .ok (.invokestatic idx, 3)) (hfit : g_fit R Rm nL k n = true) (h16 : Nat.ble (16 + (nL + 11) + Rm.locals) R.locals = true) {st0 : List Value} (hst : st0 = av.reverse ++ rest) (kk : g_V X emb r (k + Rm.cells) (n + Rm.slots) m' q' (pc + 3) lc (.int x :: rest)) : g_V X emb r k n m q pc lc st0 := by
  intro H locs ls hP hS hh
  obtain ⟨LB, hstt⟩ := LS
  obtain ⟨f1, f2⟩ := g_fit_of hfit
  have hM1 := hM (g_xD X) (g_ad X) (g_ca X) H.size
  have hg : PreS (g_xs X) H (va_Pc (As (g_ad X)) (g_BK (g_xD X) (g_ad X) (g_ca X) H.size m q b L xs)) (As (g_ad X)) := ⟨g_BK.blind _, fun U hU hW => ⟨rfl, ((g_start O hP hS (As (g_ad X))).2 U hU hW).2, V.step hW (by rw [hU]; exact hS.1) (by rw [hU]; exact hS.2.1) (g_A_mono hS.1)⟩⟩
  rw [hAs] at hM1 hg
  refine g_run (a := av.toArray) (vx_runS16 (Ts := gW) ⟨O.exec, O.code, O.2.2.1, O.host, fun w hw => O.word hw⟩ hM1 ⟨g_callB O LB f1, O.word hstt⟩ (by rw [O.room]; exact Nat.le_of_ble_eq_true h16) hg rfl hna hh.1 hst (by show 2 * 0 + _ ≤ 16; have := Nat.le_of_ble_eq_true hrest; omega) hd (by rw [O.room]; exact f2)) hS (g_A_mono hS.1) (fun v H1 locs1 hv hP1 hS1 => ?_) (fun E q9 ce H1 locs1 hv => by cases hv)
  cases hv
  exact kk H1 locs1 ls hP1 hS1 hh
theorem r_ySi (O : g_ok X cc own ret R) (Y : g_Y (g_xs X)) {idx nL na : Nat} {y : MethodName} {cy : ByteArray} {rt : Option FieldType} {Rm : Room} {As : (Nat → Nat) → List Value} {m' : Nat → Int32} {q' : g_q} {x : Value} (av rest : List Value) (hM : g_SY (g_xl X) y cy nL rt Rm As m q (.inl (some x), (m', q'))) (L : g_LS own idx y cy nL rt na) (hAs : As (g_ad X) = av) (hna : av.length = na) (hrest : Nat.ble (rest.map fun v => v.category).sum 8 = true) (hd : decode cc pc = .ok (.invokestatic idx, 3)) (hfit : g_fit R Rm nL k n = true) {st0 : List Value} (hst : st0 = av.reverse ++ rest) (kk : g_V X emb r (k + Rm.cells) (n + Rm.slots) m' q' (pc + 3) lc (x :: rest)) : g_V X emb r k n m q pc lc st0 := by
  intro H locs ls hP hS hh
  refine g_run (g_goSy O Y hM L hAs hna hrest hd hfit hst hP hS hh) hS (g_A_mono hS.1) (fun v H1 locs1 hv hP1 hS1 => ?_) (fun E q9 ce H1 locs1 hv => by cases hv)
  cases hv
  exact kk H1 locs1 ls hP1 hS1 hh
theorem r_sld (O : g_ok X cc own ret R) {b L : Nat} {xs : Nat → Int32} (V : g_Sx b L xs (g_xA X) (g_xs X)) {i : Int32} (hin : vp_in i L) (hd : decode cc pc = .ok (.iaload, 1)) (kk : g_V X emb r k n m q (pc + 1) lc (.int (xs i.toNatClampNeg) :: st)) : g_V X emb r k n m q pc lc (.int i :: .ref b :: st) := fun H locs ls hP hS hh => va_sld O.exec O.code V.1 V.2.1 V.2.2 hS hin hd (kk H locs ls hP hS hh)
theorem r_slen (O : g_ok X cc own ret R) {b L : Nat} {xs : Nat → Int32} (V : g_Sx b L xs (g_xA X) (g_xs X)) (hd : decode cc pc = .ok (.arraylength, 1)) (kk : g_V X emb r k n m q (pc + 1) lc (.int (Int32.ofNat L) :: st)) : g_V X emb r k n m q pc lc (.ref b :: st) := fun H locs ls hP hS hh => va_slen O.exec O.code V.1 V.2.1 V.2.2 hS hd (kk H locs ls hP hS hh)
theorem r_ixor (O : g_ok X cc own ret R) {x y : Int32} (hd : decode cc pc = .ok (.ixor, 1)) (kk : g_V X emb r k n m q (pc + 1) lc (.int (x ^^^ y) :: st)) : g_V X emb r k n m q pc lc (.int y :: .int x :: st) := fun H locs ls hP hS hh => lv_ixor O.exec O.code hd (kk H locs ls hP hS hh)
theorem b_if_eq (O : g_ok X cc own ret R) {x : Int32} {off : Int} (tgt : Nat) (hd : decode cc pc = .ok (.ifCond .eq off, 3)) (ht : (pc : Int) + off = (tgt : Int)) (kt : x = 0 → g_V X emb r k n m q tgt lc st) (kf : ¬ x = 0 → g_V X emb r k n m q (pc + 3) lc st) : g_V X emb r k n m q pc lc (.int x :: st) := fun H locs ls hP hS hh => lv_if_eq O.exec O.code hd ht (fun c => kt c H locs ls hP hS hh) (fun c => kf c H locs ls hP hS hh)
theorem b_icmp_ne (O : g_ok X cc own ret R) {x y : Int32} {off : Int} (tgt : Nat) (hd : decode cc pc = .ok (.if_icmp .ne off, 3)) (ht : (pc : Int) + off = (tgt : Int)) (kt : ¬ x = y → g_V X emb r k n m q tgt lc st) (kf : x = y → g_V X emb r k n m q (pc + 3) lc st) : g_V X emb r k n m q pc lc (.int y :: .int x :: st) := fun H locs ls hP hS hh => lv_icmp_ne O.exec O.code hd ht (fun c => kt c H locs ls hP hS hh) (fun c => kf c H locs ls hP hS hh)
theorem b_icmp_ge (O : g_ok X cc own ret R) {x y : Int32} {off : Int} (tgt : Nat) (hd : decode cc pc = .ok (.if_icmp .ge off, 3)) (ht : (pc : Int) + off = (tgt : Int)) (kt : y ≤ x → g_V X emb r k n m q tgt lc st) (kf : ¬ y ≤ x → g_V X emb r k n m q (pc + 3) lc st) : g_V X emb r k n m q pc lc (.int y :: .int x :: st) := fun H locs ls hP hS hh => lv_icmp_ge O.exec O.code hd ht (fun c => kt c H locs ls hP hS hh) (fun c => kf c H locs ls hP hS hh)
end GLW
/-- a number of the script: behind its end, one that is made up -/
def R_L_cell (L : Nat) (xs : Nat → Int32) (k : Int32) : Int32 := if Int32.ofNat L ≤ k then 40503 * (k + 3) else xs k.toNatClampNeg
theorem met_L_cell (l : Launch) {b L : Nat} (xs : Nat → Int32) (hL : L ≤ 260) (m : Nat → Int32) (q : g_q) (x1 : Int32) (h0 : 0 ≤ x1.toInt) : g_SK l yL_cell cL_cell 2 (some .int) ({ frames := 0, cells := 0, slots := 0, locals := 0 } : Room) (fun _ => [.ref b, .int x1]) b L xs m q (.inl (some (.int (R_L_cell L xs x1))), (m, q)) := by
  refine g_sk_of (emb := fun r : Int32 => ((.inl (some (.int r)), (m, q)) : g_Res)) (r := R_L_cell L xs x1) (by decide) (fun _ => Nat.le_of_ble_eq_true rfl) (fun X hl hn O V => ?_)
  refine r_iload_n O 1 dL_cell_0 rfl rfl ?_
  refine r_aload_n O 0 dL_cell_1 rfl rfl ?_
  refine r_slen O V dL_cell_2 ?_
  unfold R_L_cell
  refine r_icmp_ge O 12 dL_cell_3 (by decide) (fun c => ?_) (fun c => ?_)
  · refine r_ldc O dL_cell_12 w_con_L_7 ?_
    refine r_iload_n O 1 dL_cell_14 rfl rfl ?_
    refine r_iconst (x := 3) O dL_cell_15 rfl ?_
    refine r_iadd O dL_cell_16 ?_
    refine r_imul O dL_cell_17 ?_
    exact r_iret O dL_cell_18 rfl (Nat.le_of_ble_eq_true rfl) (Nat.le_of_ble_eq_true rfl) rfl
  · have hin : vp_in x1 L := by
      have c1 : x1.toInt < (nI L).toInt := j_nle c
      have c2 : (nI L).toInt = (L : Int) := nI_toInt (by omega)
      exact g_vin h0 (by omega)
    refine r_aload_n O 0 dL_cell_6 rfl rfl ?_
    refine r_iload_n O 1 dL_cell_7 rfl rfl ?_
    refine r_sld O V hin dL_cell_8 ?_
    refine r_goto O 18 dL_cell_9 (by decide) ?_
    exact r_iret O dL_cell_18 rfl (Nat.le_of_ble_eq_true rfl) (Nat.le_of_ble_eq_true rfl) rfl
/-- two rows of the law that agree below 178 are one world -/
theorem g_ws_s {ad : Nat → Nat} {ca : Nat → ClassId} {m s t : Nat → Int32} {lm : Nat → Int64} {pm : Nat → Nat} (h : ∀ n, n < 178 → s n = t n) : g_ws ad ca (m, s, lm, pm) = g_ws ad ca (m, t, lm, pm) := by
  have rw_eq : ∀ b n, b + n ≤ 178 → g_rw s b n = g_rw t b n := fun b n hb => by
    funext u
    unfold g_rw
    cases hu : Nat.blt u n with
    | false => rfl
    | true =>
      show s (b + u) = t (b + u)
      have := g_blt.mp hu
      exact h _ (by omega)
  unfold g_ws
  refine List.map_congr_left fun k hk => ?_
  have hk : k < 132 := List.mem_range.mp hk
  congr 1
  rcases Nat.lt_or_ge k 120 with hk2 | hk2
  · have e : k = 24 * (k / 24) + k % 24 := by omega
    rw [e, g_ent_c _ _ _ (by omega) (by omega), g_ent_c _ _ _ (by omega) (by omega)]
  · rw [g_ent_o _ _ _ hk2, g_ent_o _ _ _ hk2]
    have hc : k - 120 = 0 ∨ k - 120 = 1 ∨ k - 120 = 2 ∨ k - 120 = 3 ∨ k - 120 = 4 ∨ k - 120 = 5 ∨ k - 120 = 6 ∨ k - 120 = 7 ∨ k - 120 = 8 ∨ k - 120 = 9 ∨ k - 120 = 10 ∨ k - 120 = 11 := by omega
    rcases hc with e | e | e | e | e | e | e | e | e | e | e | e <;> rw [e] <;> unfold g_oe
    · rfl
    · rfl
    · rfl
    · rfl
    · show Sum.inl (ca 0, 13, Sum.inl (g_rw s 0 13)) = Sum.inl (ca 0, 13, Sum.inl (g_rw t 0 13)); rw [rw_eq _ _ (by omega)]
    · show Sum.inl (ca 0, 7, Sum.inl (g_rw s 13 7)) = Sum.inl (ca 0, 7, Sum.inl (g_rw t 13 7)); rw [rw_eq _ _ (by omega)]
    · show Sum.inl (ca 0, 7, Sum.inl (g_rw s 20 7)) = Sum.inl (ca 0, 7, Sum.inl (g_rw t 20 7)); rw [rw_eq _ _ (by omega)]
    · show Sum.inl (ca 0, 7, Sum.inl (g_rw s 27 7)) = Sum.inl (ca 0, 7, Sum.inl (g_rw t 27 7)); rw [rw_eq _ _ (by omega)]
    · show Sum.inl (ca 0, 24, Sum.inl (g_rw s 34 24)) = Sum.inl (ca 0, 24, Sum.inl (g_rw t 34 24)); rw [rw_eq _ _ (by omega)]
    · show Sum.inl (ca 0, 54, Sum.inl (g_rw s 58 54)) = Sum.inl (ca 0, 54, Sum.inl (g_rw t 58 54)); rw [rw_eq _ _ (by omega)]
    · show Sum.inl (ca 0, 33, Sum.inl (g_rw s 112 30)) = Sum.inl (ca 0, 33, Sum.inl (g_rw t 112 30)); rw [rw_eq _ _ (by omega)]
    · show Sum.inl (ca 0, 36, Sum.inl (g_rw s 142 36)) = Sum.inl (ca 0, 36, Sum.inl (g_rw t 142 36)); rw [rw_eq _ _ (by omega)]
theorem r_ws {α : Type} {X : g_X} {emb : α → g_Res} {r : α} {k n : Nat} {m s t : Nat → Int32} {lm : Nat → Int64} {pm : Nat → Nat} {pc : Nat} {lc : List (Nat × Value)} {st : List Value} (h : ∀ n, n < 178 → s n = t n) (kk : g_V X emb r k n m (t, lm, pm) pc lc st) : g_V X emb r k n m (s, lm, pm) pc lc st := by
  intro H locs ls hP hS hh
  rw [g_ws_s h] at hP
  exact kk H locs ls hP hS hh
