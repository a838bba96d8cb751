/-! THE CLAIM OUT OF ONE WALK OF THE LAW'S BODY. Your part is whole_start (and what it stands on); all else here is the same for every law, but numbers. -/
def R_law : String := "CaveRelayLaw"
def lw_P (b : Addr) (xs : List Int32) (args : Array Value) (s : State) : Prop := args = #[.ref b] ∧ s.IntsAt b xs ∧ xs.length ≤ 2048 ∧ (Jvm.Cond.and given_1 narrow_1).before args s = true
/-- what a walk over the start with the record d0 says of its end, said of the start itself -/
theorem lw_closed {s t : State} {o : Outcome} {d0 : Drawn} {L : List Loc} {k n : Nat} (hd0 : s.drawn.sameBut d0 lw_cs) (hv : ∃ v, o = .returned v) (hW : (s.setDrawn d0).WarmedH t.vm) (hs : (s.setDrawn d0).sameButNew ({ t with vm := s.vm } : State) L k n) : State.butDraws s t lw_cs (fun t1 => Framed s o t1 L k n) := by
  have h2 : t.drawn = d0 := congrArg State.drawn hs.1
  refine ⟨⟨hv, hW, State.sameButNew.setDrawn hs s.drawn⟩, ?_, by decide⟩
  rw [h2]
  exact hd0
def lw_Q (_ : Array Value) (s : State) (o : Outcome) (t : State) : Prop := o = .returned (some (.int 1)) ∧ State.butDraws s t lw_cs (fun t1 => Framed s o t1 [] 601024 7293034)
def lw_Z (below : List Frame) (a : Array Value) (s : State) : State → Prop := fun t => ∃ o, t.status = .running ∧ Ended t below o ∧ lw_Q a s o t
/-- the law's own end, with 1 on the stack, nothing written that was there before, its room as the claim has it; d0: the record of draws at this point (at the entry s.drawn: begin with 'refine W.base ?_' and 'have hd0 := Drawn.sameBut.refl s.drawn lw_cs') -/
theorem lw_ret {p : Program} {l : Launch} {e : Env} {s : State} {m : MethodId} {below : List Frame} {meth : Method} {c : Code} {b : Nat} {d0 : Drawn} (hd0 : s.drawn.sameBut d0 lw_cs) (hx : p.tables.exec = Jvm.exec) (hb : c.code = code) (hr : meth.sig.returnType = ret) (hlocks : meth.locks = false) {pc : Nat} {H : Heap} {ls : Array Slot} (hdg : decode code pc = .ok (.ireturn, 1)) : W p l e room_1 (s.setDrawn d0) m #[Value.ref b] below meth c H [] 601024 7293034 (lw_Z below #[Value.ref b] s) (F0 m pc ls [.int 1]) := by
  intro T hT X
  obtain ⟨fs, hret, hrun, hended, hW, hframe⟩ := X.leave (v := some (.int 1)) (hlocks := hlocks) (fun h => by rw [hr] at h; cases h)
  have hmeth' : T.vm.method? m = some meth := X.method'
  refine ⟨T.setFrames fs, ?_, .returned (some (.int 1)), hrun, hended, rfl, lw_closed hd0 ⟨_, rfl⟩ hW hframe⟩
  jvm_step X.here [X.here.top, hx, hb, hdg, hmeth', hr, ret, narrow_b1]
  (try refine ⟨rfl, ?_⟩); (try refine ⟨rfl, ?_⟩)
  first | (intro acts; rw [hret _ acts rfl rfl rfl]) | rw [hret _ _ rfl rfl rfl]
  exact Steps.refl _
/-- what holds at the law's entry: the machine, the code, the tables' words (any of lw_tbl by 'hts w (by decide +kernel)'), the script of L ints xs at the cell b, what the Statement gives of the start (any of its parts by flat_of_before) -/
def lw_At (p : Program) (s : State) (m : MethodId) (meth : Method) (c : Code) (b L : Nat) (xs : Nat → Int32) : Prop :=
  p.tables.exec = Jvm.exec ∧ c.code = code ∧ meth.sig.returnType = ret ∧ c.maxLocals = 9 ∧ s.vm.findClass R_law = some m.cls ∧ (∀ w ∈ lw_tbl, w.before #[Value.ref b] s = true) ∧ va_X b L xs s s.heap ∧ b < s.heap.size ∧ meth.locks = false ∧ (Jvm.Cond.and given_1 narrow_1).before #[Value.ref b] s = true
/-! ===== the law's entry: rows in a world that is a list ===== -/
section LE
variable {X : g_X} {A : Nat → Prop} {Q : State → Prop} {k n : Nat} {w1 ws : va_W} {pc : Nat} {lc lc' : List (Nat × Value)} {st : List Value} {cc : ByteArray} {own : String} {R : Room}
theorem n_astore (O : n_ok X A cc own R) {i : Fin 4} {j x : Nat} (hd : decode cc pc = .ok (.astore_n i, 1)) (hi : (i : Nat) = j) (hn : j < g_xn X) (hl : (j, Value.ref x) :: lc.filter (fun q => !(q.1 == j) && !(q.1 + 1 == j && q.2.category == 2)) = lc') (kk : n_V X A Q k n ws (pc + 1) lc' st) : n_V X A Q k n ws pc lc (.ref x :: st) := fun H locs ls hP hD hS hh => lv_astore_n O.exec O.code hd hi hh hn hl (fun ls' hh' => kk H locs ls' hP hD hS hh')
theorem n_istoreW (O : n_ok X A cc own R) {j : Nat} {x : Int32} (hd : decode cc pc = .ok (.istore j, 2)) (hn : j < g_xn X) (hl : (j, Value.int x) :: lc.filter (fun q => !(q.1 == j) && !(q.1 + 1 == j && q.2.category == 2)) = lc') (kk : n_V X A Q k n ws (pc + 2) lc' st) : n_V X A Q k n ws pc lc (.int x :: st) := fun H locs ls hP hD hS hh => lv_istore O.exec O.code hd hh hn hl (fun ls' hh' => kk H locs ls' hP hD hS hh')
theorem w_arrL : Cond.arrayClass FieldType.long ∈ gW := gW_in (i := 1470) (by decide +kernel) rfl
/-- a new array of longs -/
theorem n_newl (O : n_ok X A cc own R) {i : Int32} {N : Nat} (hi : ¬ i < 0) (hN : i.toNatClampNeg = N) (hb : N * componentBytes .long ≤ 536870912) (hc : k + 1 ≤ R.cells) (hs : n + N ≤ R.slots) (hd : decode cc pc = .ok (.newarray .long, 2))
    (kk : ∀ q : Nat, n_V X A Q (k + 1) (n + N) (ws ++ [(q, .inl (g_ca X 3, N, .inr (.inl (fun _ => 0))))]) (pc + 2) lc (.ref q :: st)) : n_V X A Q k n ws pc lc (.int i :: st) := by
  intro H locs ls hP hD hS hh
  refine va_newa (atype := .long) (tys := g_tys (g_ca X)) O.exec O.code (O.word w_arrL) rfl O.K hP hD hS O.fresh (a0 := (N, .inr (.inl (fun _ => 0)))) (fun _ => rfl) hi hN hb (by rw [O.room]; exact hc) (by rw [O.room]; exact hs) hd (fun q cA H1 hK hP1 hD1 hS1 => ?_)
  have e1 := va_nm_long (hK.2 4 _ rfl).2
  have e2 := va_nm_long (O.K.2 3 _ rfl).2
  have e : cA = g_ca X 3 := Option.some.inj (e1.symm.trans e2)
  subst e
  exact kk q H1 locs ls hP1 hD1 hS1 hh
theorem n_c7_at {ad : Nat → Nat} {ca : Nat → ClassId} {μ : g_M} {i : Nat} (h : i < 124) : (n_c7 ad ca μ)[i]? = some (ad i, g_ent ad ca μ i) := by
  unfold n_c7
  rw [List.getElem?_map, List.getElem?_range h]
  rfl
theorem n_c7_len {ad : Nat → Nat} {ca : Nat → ClassId} {μ : g_M} : (n_c7 ad ca μ).length = 124 := by
  unfold n_c7
  rw [List.length_map, List.length_range]
def n_p9 (k : Nat) : Nat := if k = 0 then 124 else k - 1
theorem n_w8_of {ad : Nat → Nat} {ca : Nat → ClassId} : (∀ (D : va_G) (cl : List vw_C) (H : Heap), va_P D cl (n_c7 ad ca n_μ0 ++ [(ad 124, .inr (8, n_f8))]) H → va_P D cl (n_w8 ad ca) H) ∧ ∀ A : Nat → Prop, va_D A (n_c7 ad ca n_μ0 ++ [(ad 124, .inr (8, n_f8))]) → va_D A (n_w8 ad ca) := by
  have hl : (n_w8 ad ca).length = 125 := by
    unfold n_w8
    rw [List.length_append, n_c7_len]
    rfl
  refine n_pm n_p9 (fun i j hi hj h => ?_) (fun i q hq => ?_)
  · rw [hl] at hi hj
    unfold n_p9 at h
    repeat' split at h
    all_goals omega
  · have hi : i < 125 := by
      have := (List.getElem?_eq_some_iff.mp hq).1
      omega
    unfold n_w8 at hq
    by_cases h0 : i = 0
    · subst h0
      rw [n_in (n := 1) rfl (by omega)] at hq
      cases hq
      exact ⟨_, by rw [show n_p9 0 = 124 from rfl, n_out (n := 124) (j := 0) n_c7_len rfl]; rfl, n_eq_of rfl⟩
    · rw [n_out (n := 1) (j := i - 1) rfl (by omega), n_c7_at (by omega)] at hq
      cases hq
      exact ⟨_, by rw [show n_p9 i = i - 1 by unfold n_p9; rw [if_neg h0], n_in n_c7_len (by omega), n_c7_at (by omega)], n_eq_of rfl⟩
/-- the model's constructor called -/
theorem n_call8 {ad : Nat → Nat} {Rm : Room} {idx : Nat} (O : n_ok X A cc own R) (E : n_E ad A (g_xs X)) (hM : n_C8 (g_xl X) Rm) (LB : g_LB own idx yX8_init cX8_init 1 none 0) (hin : Cond.instanceMethod yX8_init ∈ gW)
    (hrest : Nat.ble (st.map fun v => v.category).sum 8 = true) (hd : decode cc pc = .ok (.invokespecial idx, 3)) (hfit : g_fit R Rm 1 k n = true)
    (kk : ∀ f : Nat → Nat, n_V X A Q (k + Rm.cells) (n + Rm.slots) (g_ws (n_ad8 ad f) (g_ca X) n_μ1) (pc + 3) lc st) : n_V X A Q k n (n_c7 ad (g_ca X) n_μ0 ++ [(ad 124, .inr (8, n_f8))]) pc lc (.ref (ad 124) :: st) := by
  intro H locs ls hP hD hS hh
  obtain ⟨f1, f2⟩ := g_fit_of hfit
  have hP8 := n_w8_of.1 _ _ _ hP
  have hD8 := n_w8_of.2 _ hD
  have hAk : ∀ k, k < 125 → A (ad k) := fun k hk => by
    rcases Nat.lt_or_ge k 124 with h | h
    · exact hD.2 k (ad k, _) (by rw [n_in n_c7_len h, n_c7_at h])
    · have e : k = 124 := by omega
      subst e
      exact hD.2 124 (ad 124, _) (by rw [n_out (n := 124) (j := 0) n_c7_len rfl]; rfl)
  have hFc : ∀ q, n_A8 ad H.size q → A q := fun q hq => by
    rcases hq with ⟨k, hk, rfl⟩ | hq
    · exact hAk k hk
    · exact O.fresh q (Nat.le_trans hS.1 hq)
  have hD9 : va_D (n_A8 ad H.size) (n_w8 ad (g_ca X)) := by
    refine ⟨hD8.1, fun k q hk => Or.inl ?_⟩
    unfold n_w8 at hk
    by_cases h0 : k = 0
    · subst h0
      rw [n_in (n := 1) rfl (by omega)] at hk
      cases hk
      exact ⟨124, by omega, rfl⟩
    · have hk2 : k < 125 := by
        have h9 := (List.getElem?_eq_some_iff.mp hk).1
        rw [List.length_append, n_c7_len] at h9
        exact h9
      rw [n_out (n := 1) (j := k - 1) rfl (by omega), n_c7_at (by omega)] at hk
      cases hk
      exact ⟨k - 1, by omega, rfl⟩
  have cb : CallB (g_xR X) (g_xs X) (g_xa X) own idx yX8_init cX8_init 1 none (Cond.code yX8_init cX8_init 1 none :: gW) Rm Rm.cells Rm.slots 0 := by
    rw [O.room]
    exact callB_of (Ts := gW) 0 (fun w hw => O.word hw) (gW_cons LB.2.2.1) rfl rfl rfl (O.word LB.2.1) (O.word LB.1) LB.2.2.2 f1
  have hr := vx_runI (p := g_xp X) (l := g_xl X) (e := g_xe X) (R := g_xR X) (s := g_xs X) (m := g_xm X) (args := g_xa X) (below := g_xb X) (meth := g_xt X) (c := g_xc X) (H := H) (locs := locs) (cells := k) (slots := n) (b := ad 124) (As := []) (rest := st) (g := F0 (g_xm X) pc ls (.ref (ad 124) :: st)) (Ts := gW) ⟨O.exec, O.code, O.ml, O.host, fun w hw => O.word hw⟩ (hM (g_xD X) (g_ca X) ad H.size) ⟨cb, rfl, O.word hin⟩
    ⟨n_B8.blind _, fun U hU hW => ⟨rfl, by rw [hU], by rw [hU]; exact hP8, hD9, va_K.moved hW.alike O.K, E.step hW (by rw [hU]; exact hS.1) (by rw [hU]; exact hS.2.1) hFc⟩⟩ rfl rfl hh.1 rfl (lv_room (Nat.le_of_ble_eq_true hrest)) hd (by rw [O.room]; exact f2)
  intro T hT X0
  rcases hr T hT X0 with ⟨v, st₀, t, T', L, h0, X', hL, e1, e2, ⟨f, ho, hP1, hD1, hF⟩, sp⟩ | ⟨q9, st₀, t, T', L, E, ce, h0, X', hL, e1, e2, hv, hce, hcv, hcl, sp⟩
  · cases ho
    obtain ⟨-, k2, k3⟩ := vx_keep h0 e1 hS (fun z _ => hFc z) hFc hL hF
    rw [← e1] at hP1
    obtain ⟨t2, a1, b1⟩ := kk f T'.heap (locs ++ L) ls hP1 (hD1.weaken (fun k q _ h => hFc q.1 h)) k3 hh T' rfl X'
    exact ⟨t2, sp t2 a1, b1⟩
  · exact hv.elim
end LE
/-! ===== the law's end: what the claim asks ===== -/
theorem sbn_nil {s t : State} {L : List Loc} {k n : Nat} (h : s.sameButNew t L k n) (hL : ∀ q ∈ L, s.heap.size ≤ q.base) : s.sameButNew t [] k n := by
  obtain ⟨h1, h2, h3, h4, h5, h6⟩ := h
  refine ⟨h1, h2, h3, h4, h5, fun a c hc => ?_⟩
  obtain ⟨c', e1, e2, e3, e4⟩ := h6 a c hc
  refine ⟨c', e1, e2, e3, fun i _ => e4 i (fun hm => ?_)⟩
  have ha : a < s.heap.size := (Array.getElem?_eq_some_iff.mp hc).1
  have hb : s.heap.size ≤ a := hL _ hm
  exact absurd ha (Nat.not_lt.mpr hb)
theorem lw_out {s t : State} {below : List Frame} {a : Array Value} {D : va_G} {ad : Nat → Nat} {ca : Nat → ClassId} {A : Nat → Prop} {res : g_Res} (hr : res.1 = .inl (some (.int 1))) (hA : ∀ q, A q → s.heap.size ≤ q) (h : vx_MQ below (g_Qc D ad ca A res) (g_XC D ad ca A res) a s 601024 7293034 A t) : lw_Z below a s t := by
  obtain ⟨o, h1, h2, h3⟩ := h
  rcases h3 with ⟨⟨v, hv, ho, -, -⟩, L, ⟨hv2, hW, hs⟩, hL⟩ | ⟨q, -, E, ce, L, hx, -⟩
  · rw [hr] at hv
    cases hv
    refine ⟨o, h1, h2, ho, ?_⟩
    have hs2 := sbn_nil hs (fun q hq => hA _ (hL q hq))
    exact lw_closed (d0 := s.drawn) (Drawn.sameBut.refl s.drawn lw_cs) hv2 hW hs2
  · obtain ⟨hv, -⟩ := hx
    rw [hr] at hv
    cases hv
