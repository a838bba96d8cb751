/-! ===== the face of the class: throws, doubles, saving ===== -/
/-- what a method of the face answers (or throws), the class's numbers and the permutation behind it -/
abbrev g_P7 : Type := (Option Value ⊕ String) × (Nat → Int32) × (Nat → Nat)
def updN (f : Nat → Nat) (k x : Nat) : Nat → Nat := fun j => if j = k then x else f j
theorem updN_ne {f : Nat → Nat} {a b x : Nat} (h : b ≠ a) : updN f a x b = f b := by simp [updN, h]
theorem updN_eq {f : Nat → Nat} {a x : Nat} : updN f a x a = x := by simp [updN]
section GR5
variable {α : Type} {X : g_X} {emb : α → g_Res} {r : α} {k n : Nat} {m : Nat → Int32} {q : g_q} {pc : Nat} {lc lc' : List (Nat × Value)} {st : List Value} {cc : ByteArray} {own : String} {ret : Option FieldType} {R : Room}
theorem g_ot {w : Cond} (h : w ∈ gW) : vx_ot w = true := by
  unfold vx_ot
  rw [gW_good w h, Bool.or_true]
/-- 'throw new E("text")' -/
theorem r_throwS (O : g_ok X cc own ret R) (hs : (g_xl X).stackTraces = false) {cls text : String} {names : List String} {ik is ic : Nat} (hcls : Bundle.fit cls = true) (hnames : ∀ n ∈ names, Bundle.fit n = true) (hk : Cond.classLink own ik cls ∈ gW) (hi : Cond.initialized cls ∈ gW) (hat : ∀ w ∈ vx_atS own ic cls names, w.before (g_xa X) (g_xs X) = true) (hot : ∀ w ∈ vx_atS own ic cls names, vx_ot w = true) (hstr : ∃ sa, vk_R own is text sa (g_xs X))
    (d0 : decode cc pc = .ok (.new ik, 3)) (d3 : decode cc (pc + 3) = .ok (.dup, 1)) (d4 : decode cc (pc + 4) = .ok (.ldc_w is, 3)) (d7 : decode cc (pc + 7) = .ok (.invokespecial ic, 3)) (d10 : decode cc (pc + 10) = .ok (.athrow, 1))
    (hroom : (Nat.blt (names.length + 3) R.frames && Nat.ble ((st.map fun v => v.category).sum + (13 * (names.length + 1) + 43)) R.locals && Nat.ble (k + 1) R.cells && Nat.ble (n + 6) R.slots) = true) (he : emb r = (.inr cls, (m, q))) : g_V X emb r k n m q pc lc st := by
  intro H locs ls hP hS hh
  obtain ⟨sa, hsa⟩ := hstr
  simp only [Bool.and_eq_true, Nat.ble_eq, g_blt] at hroom
  rw [← O.room] at hroom
  obtain ⟨-, -, -, ⟨z1, z2⟩, -⟩ := O.Z
  refine vx_throwSW O.exec O.code hs O.host hcls hnames (O.word hk) (O.word hi) hsa hat (fun w hw => ?_) z1 z2 hS (hh.1.trans O.2.2.1.symm) d0 d3 d4 d7 d10 (fun x hx => (O.table x hx).elim) hroom.1.1.1 hroom.1.1.2 hroom.1.2 hroom.2 O.locks (fun t _ hz hq => ⟨by rw [he], ?_, ?_⟩) hS.2.2 hroom.1.2 hroom.2
  · rcases List.mem_cons.mp hw with rfl | hw
    · exact g_ot hk
    · rcases List.mem_cons.mp hw with rfl | hw
      · exact g_ot hi
      · exact hot w hw
  · rw [he]
    exact hP.kept (fun k q hk => hq _ (vx_lt hP hk))
  · exact ⟨Nat.le_trans hS.1 hz, fun q h1 h2 => by rw [hq q (Nat.lt_of_lt_of_le h1 hS.1)]; exact hS.2.1 q h1 h2⟩
/-! the row 'saved' of caves -/
theorem r_aldS (O : g_ok X cc own ret R) {s : Nat → Int32} {lm : Nat → Int64} {pm : Nat → Nat} {i : Int32} {t v : Nat} (hin : vp_in i 4) (ht : i.toNatClampNeg = t) (hv : pm t = v) (hd : decode cc pc = .ok (.aaload, 1)) (kk : g_V X emb r k n m (s, lm, pm) (pc + 1) lc (.ref (g_ad X (24 * v)) :: st)) : g_V X emb r k n m (s, lm, pm) pc lc (.int i :: .ref (g_ad X 123) :: st) := by
  refine fun H locs ls hP hS hh => va_aldq O.exec O.code O.K hP 123 1 (by rw [g_ws_at _ _ _ (by omega), g_ent_o _ _ _ (by omega)]; rfl) rfl hin hd ?_
  have h1 := g_cl hin
  rw [g_blt.mpr h1]
  have kk2 := kk H locs ls hP hS hh
  rw [← hv, ← ht] at kk2
  exact kk2
theorem g_sv_set {ad : Nat → Nat} {ca : Nat → ClassId} {s : Nat → Int32} {lm : Nat → Int64} {pm : Nat → Nat} {t v : Nat} (ht : t < 4) : (g_ws ad ca (m, s, lm, pm)).set 123 (ad 123, .inl (ca 1, 4, .inr (.inr (.inr (.inr (va_up (fun t => cond (Nat.blt t 4) (some (ad (24 * pm t))) none) t (some (ad (24 * v))))))))) = g_ws ad ca (m, s, lm, updN pm t v) := by
  have e4 : updN pm t v 4 = pm 4 := updN_ne (by omega)
  refine g_ws_set (by omega) (fun i hi hne => ?_) ?_ rfl
  · rcases Nat.lt_or_ge i 120 with h | h
    · have e : i = 24 * (i / 24) + i % 24 := by omega
      rw [e, g_ent_c ad ca _ (by omega) (by omega), g_ent_c ad ca _ (by omega) (by omega)]
    · rw [g_ent_o ad ca _ h, g_ent_o ad ca _ h]
      have : i - 120 = 0 ∨ i - 120 = 1 ∨ i - 120 = 2 ∨ i - 120 = 4 ∨ i - 120 = 5 ∨ i - 120 = 6 ∨ i - 120 = 7 ∨ i - 120 = 8 ∨ i - 120 = 9 ∨ i - 120 = 10 ∨ i - 120 = 11 := by omega
      rcases this with e | e | e | e | e | e | e | e | e | e | e <;> rw [e] <;> rfl
  · rw [g_ent_o ad ca _ (by omega)]
    show Sum.inl (ca 1, 4, _) = Sum.inl (ca 1, 4, _)
    congr 7
    funext j
    show cond (Nat.blt j 4) (some (ad (24 * updN pm t v j))) none = va_up _ t (some (ad (24 * v))) j
    by_cases hj : j = t
    · subst hj
      rw [g_blt.mpr ht, updN_eq]
      simp [va_up]
    · rw [updN_ne hj]
      simp [va_up, hj]
theorem r_astS (O : g_ok X cc own ret R) {s : Nat → Int32} {lm : Nat → Int64} {pm : Nat → Nat} {i : Int32} {t v : Nat} (hin : vp_in i 4) (ht : i.toNatClampNeg = t) (hv : v < 5) (hd : decode cc pc = .ok (.aastore, 1)) (kk : g_V X emb r k n m (s, lm, updN pm t v) (pc + 1) lc st) : g_V X emb r k n m (s, lm, pm) pc lc (.ref (g_ad X (24 * v)) :: .int i :: .ref (g_ad X 123) :: st) := by
  intro H locs ls hP hS hh
  have h1 := g_cl hin
  rw [ht] at h1
  obtain ⟨fs, he⟩ := (obj_c (c := v) (j0 := 0) hv (by omega) (ci := 0) (N := 12) rfl).2 (g_ad X) (g_ca X) (m, s, lm, pm)
  refine va_astq O.exec O.code O.K hP (g_D O.inj) hS 123 1 (24 * v) 0 (by rw [g_ws_at _ _ _ (by omega), g_ent_o _ _ _ (by omega)]; rfl) rfl (by rw [g_ws_at _ _ _ (by omega), show 24 * v = 24 * v + 0 by omega, he]) rfl hin hd (fun H1 locs1 hP1 _ hS1 => ?_)
  rw [ht, g_sv_set h1] at hP1
  exact kk H1 locs1 ls hP1 hS1 hh
/-! methods that may throw -/
def g_Y (U : State) : Prop := (va_Nw (.declares ⟨"java/lang/RuntimeException", "<init>", "(Ljava/lang/String;)V"⟩) U ∧ va_Nw (.declares ⟨"java/lang/Exception", "<init>", "(Ljava/lang/String;)V"⟩) U ∧ va_Nw (.declares ⟨"java/lang/Throwable", "<init>", "(Ljava/lang/String;)V"⟩) U) ∧ (va_Nw (.castable "java/lang/IndexOutOfBoundsException" "java/lang/IndexOutOfBoundsException") U ∧ va_Nw (.castable "java/lang/IllegalArgumentException" "java/lang/IllegalArgumentException") U ∧ va_Nw (.castable "java/lang/IllegalStateException" "java/lang/IllegalStateException") U) ∧ (va_Nc "java/lang/IllegalArgumentException" "java/lang/IndexOutOfBoundsException" U ∧ va_Nc "java/lang/IllegalStateException" "java/lang/IndexOutOfBoundsException" U ∧ va_Nc "java/lang/IllegalStateException" "java/lang/IllegalArgumentException" U) ∧ (va_Nw (.fieldLinkNest RX4 9 RX7 "INITIAL_DROPS" "[I" "CaveRelay") U ∧ va_Nw (.fieldLinkNest RX4 23 RX7 "INITIAL_MINUTES" "[I" "CaveRelay") U ∧ va_Nw (.castable "[I" "java/lang/Cloneable") U) ∧ (va_Nw (.methodLinkNest RX0 20 yX5_init "CaveRelay") U ∧ va_Nw (.methodLinkNest RX0 37 yX3_init "CaveRelay") U ∧ va_Nw (.methodLinkNest RX0 44 yX2_init "CaveRelay") U ∧ va_Nw (.methodLinkNest RX0 68 yX1_init "CaveRelay") U ∧ va_Nw (.methodLinkNest RX7 26 yX6_init "CaveRelay") U)
theorem g_Y.step {u U : State} (h : g_Y u) (hW : u.WarmedH U.vm) : g_Y U := by
  obtain ⟨⟨a1, a2, a3⟩, ⟨b1, b2, b3⟩, ⟨c1, c2, c3⟩, ⟨d1, d2, d3⟩, e1, e2, e3, e4, e5⟩ := h
  exact ⟨⟨va_Nw.warmD hW a1, va_Nw.warmD hW a2, va_Nw.warmD hW a3⟩, ⟨va_Nw.warmC hW b1, va_Nw.warmC hW b2, va_Nw.warmC hW b3⟩, ⟨c1.moved hW.alike, c2.moved hW.alike, c3.moved hW.alike⟩, ⟨va_Nw.warmF hW d1, va_Nw.warmF hW d2, va_Nw.warmC hW d3⟩, va_Nw.warmM hW e1, va_Nw.warmM hW e2, va_Nw.warmM hW e3, va_Nw.warmM hW e4, va_Nw.warmM hW e5⟩
def g_By (D : va_G) (ad : Nat → Nat) (ca : Nat → ClassId) (sz : Nat) (m : Nat → Int32) (q : g_q) (U : State) : Prop := g_B D ad ca sz m q U ∧ g_Y U
theorem g_By.blind {D : va_G} {ad : Nat → Nat} {ca : Nat → ClassId} {sz : Nat} {m : Nat → Int32} {q : g_q} (av : List Value) : FrameBlind (va_Pc av (g_By D ad ca sz m q)) := by
  intro a U g mk h
  obtain ⟨h0, h1, h2⟩ := h
  have := g_B.blind av a U g mk ⟨h0, h1⟩
  exact ⟨this.1, this.2, h2.step (U := U.calling g mk a) (State.WarmedH.refl U)⟩
/-- as g_SM, of a method that may throw -/
def g_SY (l : Launch) (y : MethodName) (cc : ByteArray) (nL : Nat) (ret : Option FieldType) (R : Room) (As : (Nat → Nat) → List Value) (m : Nat → Int32) (q : g_q) (res : g_Res) : Prop :=
  ∀ (D : va_G) (ad : Nat → Nat) (ca : Nat → ClassId) (sz : Nat), vx_Met l y (Cond.code y cc nL ret :: gW) R (va_Pc (As ad) (g_By D ad ca sz m q)) (g_Qc D ad ca (g_A ad sz) res) (g_XC D ad ca (g_A ad sz) res) R.cells R.slots (g_A ad sz)
theorem g_sy_of {α : Type} {l : Launch} {y : MethodName} {cc : ByteArray} {nL : Nat} {ret : Option FieldType} {R : Room} {As : (Nat → Nat) → List Value} {m : Nat → Int32} {q : g_q} {emb : α → g_Res} {r : α}
    (hy : plainName y.cls = true) (hn : ∀ ad, (lg_sl (As ad)).length ≤ nL)
    (h : ∀ X : g_X, g_xl X = l → g_xn X = nL → g_ok X cc y.cls ret R → g_Y (g_xs X) → g_V X emb r 0 0 m q 0 (lv_args 0 (As (g_ad X))) []) : g_SY l y cc nL ret R As m q (emb r) := by
  intro D ad ca sz
  refine vx_ofW (cc := cc) (maxL := nL) (ret := ret) hy rfl ?_
  intro p e s m0 args below meth c s₁ B hml hx hv
  obtain ⟨rfl, ⟨rfl, hP, hK, hi, hZ⟩, hY⟩ := hv
  have hts := atoms_spec (ws := Cond.code y cc nL ret :: gW) B.pre
  rw [lg_entry_eq]
  exact h ((p, l, e, R), (s, m0, (As ad).toArray, below, meth, c), (D, ad, ca), nL) rfl rfl ⟨B.exec, B.bytes, hml, findClass_of_methodNamed B.named, fun w hw => hts w (List.mem_cons_of_mem _ hw), hK, hi, hZ, B.notSynchronized, B.returns, rfl, hx⟩ hY s.heap [] _ hP va_S.rf (lv_entry (As ad) (hn ad))
theorem g_sy_sm {l : Launch} {y : MethodName} {cc : ByteArray} {nL : Nat} {ret : Option FieldType} {R : Room} {As : (Nat → Nat) → List Value} {m : Nat → Int32} {q : g_q} {res res' : g_Res} (h : g_SY l y cc nL ret R As m q res) (e : res = res') : g_SY l y cc nL ret R As m q res' := e ▸ h
theorem g_starty (O : g_ok X cc own ret R) (Y : g_Y (g_xs X)) {H : Heap} {locs : List Loc} (hP : va_P (g_xD X) vwCl (g_ws (g_ad X) (g_ca X) (m, q)) H) (hS : va_S (g_xA X) (g_xs X).heap H locs) (av : List Value) : PreS (g_xs X) H (va_Pc av (g_By (g_xD X) (g_ad X) (g_ca X) H.size m q)) av :=
  ⟨g_By.blind av, fun U hU hW => ⟨rfl, ((g_start O hP hS av).2 U hU hW).2, Y.step hW⟩⟩
theorem g_goSy (O : g_ok X cc own ret R) (Y : g_Y (g_xs X)) {idx nL na : Nat} {y : MethodName} {cy : ByteArray} {rt : Option FieldType} {Rm : Room} {As : (Nat → Nat) → List Value} {res : g_Res} {av rest : List Value} (hM : g_SY (g_xl X) y cy nL rt Rm As m q res) (L : g_LS own idx y cy nL rt na) (hAs : As (g_ad X) = av) (hna : av.length = na) (hrest : Nat.ble (rest.map fun v => v.category).sum 8 = true) (hd : decode cc pc = .ok (.invokestatic idx, 3)) (hfit : g_fit R Rm nL k n = true) {st0 : List Value} (hst : st0 = av.reverse ++ rest)
    {H : Heap} {locs : List Loc} {ls : Array Slot} (hP : va_P (g_xD X) vwCl (g_ws (g_ad X) (g_ca X) (m, q)) H) (hS : va_S (g_xA X) (g_xs X).heap H locs) (hh : lv_has ls (g_xn X) lc) :
    vx_Run (g_xp X) (g_xl X) (g_xe X) (g_xR X) (g_xs X) (g_xm X) (g_xa X) (g_xb X) (g_xt X) (g_xc X) H locs k n Rm.cells Rm.slots (F0 (g_xm X) pc ls st0) rest (g_Qc (g_xD X) (g_ad X) (g_ca X) (g_A (g_ad X) H.size) res (As (g_ad X)).toArray) (g_XC (g_xD X) (g_ad X) (g_ca X) (g_A (g_ad X) H.size) res) (g_A (g_ad X) H.size) := by
  obtain ⟨LB, hstt⟩ := L
  obtain ⟨f1, f2⟩ := g_fit_of hfit
  have hM1 := hM (g_xD X) (g_ad X) (g_ca X) H.size
  have hg := g_starty O Y hP hS (As (g_ad X))
  rw [hAs] at hM1 hg ⊢
  exact vx_runS (Ts := gW) ⟨O.exec, O.code, O.2.2.1, O.host, fun w hw => O.word hw⟩ hM1 ⟨g_callB O LB f1, O.word hstt⟩ hg rfl hna hh.1 hst (lv_room (Nat.le_of_ble_eq_true hrest)) hd (by rw [O.room]; exact f2)
theorem r_ySv (O : g_ok X cc own ret R) (Y : g_Y (g_xs X)) {idx nL na : Nat} {y : MethodName} {cy : ByteArray} {rt : Option FieldType} {Rm : Room} {As : (Nat → Nat) → List Value} {m' : Nat → Int32} {q' : g_q} (av rest : List Value) (hM : g_SY (g_xl X) y cy nL rt Rm As m q (.inl (none), (m', q'))) (L : g_LS own idx y cy nL rt na) (hAs : As (g_ad X) = av) (hna : av.length = na) (hrest : Nat.ble (rest.map fun v => v.category).sum 8 = true) (hd : decode cc pc = .ok (.invokestatic idx, 3)) (hfit : g_fit R Rm nL k n = true) {st0 : List Value} (hst : st0 = av.reverse ++ rest) (kk : g_V X emb r (k + Rm.cells) (n + Rm.slots) m' q' (pc + 3) lc rest) : g_V X emb r k n m q pc lc st0 := by
  intro H locs ls hP hS hh
  refine g_run (g_goSy O Y hM L hAs hna hrest hd hfit hst hP hS hh) hS (g_A_mono hS.1) (fun v H1 locs1 hv hP1 hS1 => ?_) (fun E q9 ce H1 locs1 hv => by cases hv)
  cases hv
  exact kk H1 locs1 ls hP1 hS1 hh
theorem r_ySx (O : g_ok X cc own ret R) (Y : g_Y (g_xs X)) {idx nL na : Nat} {y : MethodName} {cy : ByteArray} {rt : Option FieldType} {Rm : Room} {As : (Nat → Nat) → List Value} {m' : Nat → Int32} {q' : g_q} {E : String} (av rest : List Value) (hM : g_SY (g_xl X) y cy nL rt Rm As m q (.inr E, (m', q'))) (L : g_LS own idx y cy nL rt na) (hAs : As (g_ad X) = av) (hna : av.length = na) (hrest : Nat.ble (rest.map fun v => v.category).sum 8 = true) (hd : decode cc pc = .ok (.invokestatic idx, 3)) (hfit : g_fit R Rm nL k n = true) {st0 : List Value} (hst : st0 = av.reverse ++ rest) (he : emb r = (.inr E, (m', q'))) : g_V X emb r k n m q pc lc st0 := by
  intro H locs ls hP hS hh
  have hf := (g_fit_of hfit).2
  rw [← O.room] at hf
  refine g_run (g_goSy O Y hM L hAs hna hrest hd hfit hst hP hS hh) hS (g_A_mono hS.1) (fun v H1 locs1 hv => by cases hv) (fun E1 q9 ce H1 locs1 hv hP1 hS1 h1 h2 h3 => ?_)
  cases hv
  exact vx_out (fun x hx => (O.table x hx).elim) O.locks h1 h2 h3 (fun t ht _ => ⟨by rw [he], by rw [he, ht]; exact hP1, hS1.F ht⟩) hS1.2.2 hf.1 hf.2
theorem g_goVy (O : g_ok X cc own ret R) (Y : g_Y (g_xs X)) {idx nL na ci b : Nat} {y : MethodName} {cy : ByteArray} {rt : Option FieldType} {Rm : Room} {As : (Nat → Nat) → List Value} {res : g_Res} {av rest : List Value} (hM : g_SY (g_xl X) y cy nL rt Rm As m q res) (L : g_LV own idx y cy nL rt na ci) (hb : g_obj ci b) (hAs : As (g_ad X) = .ref (g_ad X b) :: av) (hna : av.length = na) (hrest : Nat.ble (rest.map fun v => v.category).sum 8 = true) (hd : decode cc pc = .ok (.invokevirtual idx, 3)) (hfit : g_fit R Rm nL k n = true) {st0 : List Value} (hst : st0 = av.reverse ++ .ref (g_ad X b) :: rest)
    {H : Heap} {locs : List Loc} {ls : Array Slot} (hP : va_P (g_xD X) vwCl (g_ws (g_ad X) (g_ca X) (m, q)) H) (hS : va_S (g_xA X) (g_xs X).heap H locs) (hh : lv_has ls (g_xn X) lc) :
    vx_Run (g_xp X) (g_xl X) (g_xe X) (g_xR X) (g_xs X) (g_xm X) (g_xa X) (g_xb X) (g_xt X) (g_xc X) H locs k n Rm.cells Rm.slots (F0 (g_xm X) pc ls st0) rest (g_Qc (g_xD X) (g_ad X) (g_ca X) (g_A (g_ad X) H.size) res (As (g_ad X)).toArray) (g_XC (g_xD X) (g_ad X) (g_ca X) (g_A (g_ad X) H.size) res) (g_A (g_ad X) H.size) := by
  obtain ⟨LB, hin, hsel, T, N, hc⟩ := L
  obtain ⟨f1, f2⟩ := g_fit_of hfit
  obtain ⟨hb1, hb2⟩ := hb
  obtain ⟨fs, he⟩ := hb2 (g_ad X) (g_ca X) (m, q)
  have hM1 := hM (g_xD X) (g_ad X) (g_ca X) H.size
  have hg := g_starty O Y hP hS (As (g_ad X))
  rw [hAs] at hM1 hg ⊢
  exact vx_runV (Ts := gW) ⟨O.exec, O.code, O.2.2.1, O.host, fun w hw => O.word hw⟩ hM1 ⟨g_callB O LB f1, O.word hin, O.word hsel⟩ ⟨hg.1, va_recv O.K hP hc (by rw [g_ws_at _ _ _ hb1, he]), hg.2⟩ rfl hna hh.1 hst (lv_room (Nat.le_of_ble_eq_true hrest)) hd (by rw [O.room]; exact f2)
theorem r_yVv (O : g_ok X cc own ret R) (Y : g_Y (g_xs X)) {idx nL na ci b : Nat} {y : MethodName} {cy : ByteArray} {rt : Option FieldType} {Rm : Room} {As : (Nat → Nat) → List Value} {m' : Nat → Int32} {q' : g_q} (av rest : List Value) (hM : g_SY (g_xl X) y cy nL rt Rm As m q (.inl (none), (m', q'))) (L : g_LV own idx y cy nL rt na ci) (hb : g_obj ci b) (hAs : As (g_ad X) = .ref (g_ad X b) :: av) (hna : av.length = na) (hrest : Nat.ble (rest.map fun v => v.category).sum 8 = true) (hd : decode cc pc = .ok (.invokevirtual idx, 3)) (hfit : g_fit R Rm nL k n = true) {st0 : List Value} (hst : st0 = av.reverse ++ .ref (g_ad X b) :: rest) (kk : g_V X emb r (k + Rm.cells) (n + Rm.slots) m' q' (pc + 3) lc rest) : g_V X emb r k n m q pc lc st0 := by
  intro H locs ls hP hS hh
  refine g_run (g_goVy O Y hM L hb hAs hna hrest hd hfit hst hP hS hh) hS (g_A_mono hS.1) (fun v H1 locs1 hv hP1 hS1 => ?_) (fun E q9 ce H1 locs1 hv => by cases hv)
  cases hv
  exact kk H1 locs1 ls hP1 hS1 hh
end GR5
