/-! ===== constructors: new objects, and their constructors called ===== -/
section NY
variable {X : g_X} {A : Nat → Prop} {Q : State → Prop} {k n : Nat} {ws : va_W} {pc : Nat} {lc lc' : List (Nat × Value)} {st : List Value} {cc : ByteArray} {own : String} {R : Room}
theorem n_new (O : n_ok X A cc own R) {idx ci N : Nat} {C : String} {T : u_T} {fs : List Value} (ty : Nat → FieldType) (hc : vwCl[ci]? = some (C, T, N)) (hin : ∀ w ∈ u_ws C T N, w ∈ gW) (hty : ∀ k, k < N → parseFieldDescriptor (T k).2.2.1 = some (ty k)) (hcl : Cond.classLink own idx C ∈ gW) (hinst : Cond.instantiable C N ∈ gW) (hini : Cond.initialized C ∈ gW)
    (hfs : ∀ j, j < N → defaultValue (ty j) = vp_V fs j) (hk : k + 1 ≤ R.cells) (hs : n + N ≤ R.slots) (hd : decode cc pc = .ok (.new idx, 3)) (kk : ∀ q : Nat, n_V X A Q (k + 1) (n + N) (ws ++ [(q, .inr (ci, fs))]) (pc + 3) lc (.ref q :: st)) : n_V X A Q k n ws pc lc st :=
  fun H locs ls hP hD hS hh => va_new O.exec O.code (Ts := gW) (fun w hw => O.word hw) hin ty hty O.host (O.word hcl) (O.word hinst) (O.word hini) O.K hP hD hS O.fresh hc hfs (by rw [O.room]; exact hk) (by rw [O.room]; exact hs) hd (fun q H1 hP1 hD1 hS1 => kk q H1 locs ls hP1 hD1 hS1 hh)
theorem n_B.blind {D : va_G} {ca : Nat → ClassId} {h sz ci : Nat} {fs0 : List Value} (av : List Value) : FrameBlind (va_Pc av (n_B D ca h sz ci fs0)) := by
  intro a U g mk hh
  obtain ⟨h0, h1, h2, h3⟩ := hh
  exact ⟨h0, h1, h2, va_K.moved (u := U) (U := U.calling g mk a) (Vm.Alike.refl U.vm) h3⟩
theorem n_callI (O : n_ok X A cc own R) {idx : Nat} {y : MethodName} {cy : ByteArray} {nL : Nat} {Rm : Room} {ci b : Nat} {fs0 : List Value} {post : (Nat → ClassId) → Nat → (Nat → Nat) → va_W} (hM : n_C (g_xl X) y cy nL Rm ci fs0 post) (LB : g_LB own idx y cy nL none 0) (hin : Cond.instanceMethod y ∈ gW) (hy : y.name = "<init>")
    (q0 : Nat) (isR : List Nat) {wr : va_W} (he : ws[q0]? = some (b, .inr (ci, fs0))) (hR : isR.map (fun i => ws[i]?) = wr.map some) (hnd : va_nd isR = true) (hdis : ∀ i ∈ isR, i ∉ [q0]) (hrest : Nat.ble (st.map fun v => v.category).sum 8 = true) (hd : decode cc pc = .ok (.invokespecial idx, 3)) (hfit : g_fit R Rm nL k n = true)
    (kk : ∀ f : Nat → Nat, n_V X A Q (k + Rm.cells) (n + Rm.slots) (wr ++ post (g_ca X) b f) (pc + 3) lc st) : n_V X A Q k n ws pc lc (.ref b :: st) := by
  intro H locs ls hP hD hS hh
  obtain ⟨f1, f2⟩ := g_fit_of hfit
  have hC : [q0].map (fun i => ws[i]?) = ([(b, .inr (ci, fs0))] : va_W).map some := by
    simp only [List.map_cons, List.map_nil, he]
  have hPc := hP.sub (ws' := [(b, .inr (ci, fs0))]) [q0] (by simp only [List.filterMap_cons, List.filterMap_nil, he])
  have hFc : ∀ q, va_A [(b, .inr (ci, fs0))] H.size q → A q := fun q hq => by
    rcases hq with ⟨j, e, hj⟩ | hq
    · have hj1 := (List.getElem?_eq_some_iff.mp hj).1
      simp only [List.length_cons, List.length_nil] at hj1
      have j0 : j = 0 := by omega
      subst j0
      cases hj
      exact hD.2 q0 _ he
    · exact O.fresh q (Nat.le_trans hS.1 hq)
  have cb : CallB (g_xR X) (g_xs X) (g_xa X) own idx y cy nL none (Cond.code y cy nL none :: gW) Rm Rm.cells Rm.slots 0 := by
    rw [O.room]
    exact callB_of (Ts := gW) 0 (fun w hw => O.word hw) (gW_cons LB.2.2.1) rfl rfl rfl (O.word LB.2.1) (O.word LB.1) LB.2.2.2 f1
  have hr := vx_runI (p := g_xp X) (l := g_xl X) (e := g_xe X) (R := g_xR X) (s := g_xs X) (m := g_xm X) (args := g_xa X) (below := g_xb X) (meth := g_xt X) (c := g_xc X) (H := H) (locs := locs) (cells := k) (slots := n) (b := b) (As := []) (rest := st) (g := F0 (g_xm X) pc ls (.ref b :: st)) (Ts := gW) ⟨O.exec, O.code, O.ml, O.host, fun w hw => O.word hw⟩ (hM (g_xD X) (g_ca X) b H.size) ⟨cb, hy, O.word hin⟩
    ⟨n_B.blind _, fun U hU hW => ⟨rfl, by rw [hU], by rw [hU]; exact hPc, va_K.moved hW.alike O.K⟩⟩ rfl rfl hh.1 rfl (lv_room (Nat.le_of_ble_eq_true hrest)) hd (by rw [O.room]; exact f2)
  intro T hT X0
  rcases hr T hT X0 with ⟨v, st₀, t, T', L, h0, X', hL, e1, e2, ⟨f, ho, hP1, hD1, hF⟩, sp⟩ | ⟨q9, st₀, t, T', L, E, ce, h0, X', hL, e1, e2, hv, hce, hcv, hcl, sp⟩
  · cases ho
    obtain ⟨-, k2, k3⟩ := vx_keep h0 e1 hS (fun z _ => hFc z) hFc hL hF
    rw [← e1] at hP1
    obtain ⟨hP2, hD2⟩ := va_join hP hD [q0] isR hC hR hnd hdis k2 hFc hP1 hD1
    obtain ⟨t2, a1, b1⟩ := kk f T'.heap (locs ++ L) ls hP2 hD2 k3 hh T' rfl X'
    exact ⟨t2, sp t2 a1, b1⟩
  · exact hv.elim
end NY
