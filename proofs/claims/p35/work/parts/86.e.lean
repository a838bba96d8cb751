/-! ===== constructors: a nest mate's constructor called ===== -/
section NZ
variable {X : g_X} {A : Nat → Prop} {Q : State → Prop} {k n : Nat} {ws : va_W} {pc : Nat} {lc lc' : List (Nat × Value)} {st : List Value} {cc : ByteArray} {own : String} {R : Room}
/-- as n_callI, of a nest mate -/
theorem n_callIN (O : n_ok X A cc own R) {idx : Nat} {host : String} {y : MethodName} {cy : ByteArray} {nL : Nat} {Rm : Room} {ci b : Nat} {fs0 : List Value} {post : (Nat → ClassId) → Nat → (Nat → Nat) → va_W} (hM : n_C (g_xl X) y cy nL Rm ci fs0 post) (hlink : va_Nw (.methodLinkNest own idx y host) (g_xs X)) (hini : Cond.initialized y.cls ∈ gW) (hcode : Cond.code y cy nL none ∈ gW) (hdesc : y.cls ≠ "java/lang/invoke/MethodHandle" ∧ y.cls ≠ "java/lang/invoke/VarHandle" ∧ (parseMethodDescriptor y.desc).map (fun d => d.parameters.length) = some 0) (hin : Cond.instanceMethod y ∈ gW) (hy : y.name = "<init>")
    (q0 : Nat) (isR : List Nat) {wr : va_W} (he : ws[q0]? = some (b, .inr (ci, fs0))) (hR : isR.map (fun i => ws[i]?) = wr.map some) (hnd : va_nd isR = true) (hdis : ∀ i ∈ isR, i ∉ [q0]) (hrest : Nat.ble (st.map fun v => v.category).sum 8 = true) (hd : decode cc pc = .ok (.invokespecial idx, 3)) (hfit : g_fit R Rm nL k n = true)
    (kk : ∀ f : Nat → Nat, n_V X A Q (k + Rm.cells) (n + Rm.slots) (wr ++ post (g_ca X) b f) (pc + 3) lc st) : n_V X A Q k n ws pc lc (.ref b :: st) := by
  intro H locs ls hP hD hS hh
  obtain ⟨f1, f2⟩ := g_fit_of hfit
  have hC : [q0].map (fun i => ws[i]?) = ([(b, .inr (ci, fs0))] : va_W).map some := by
    simp only [List.map_cons, List.map_nil, he]
  have hPc := hP.sub (ws' := [(b, .inr (ci, fs0))]) [q0] (by simp only [List.filterMap_cons, List.filterMap_nil, he])
  have hFc : ∀ q, va_A [(b, .inr (ci, fs0))] H.size q → A q := fun q hq => by
    rcases hq with ⟨j, e, hj⟩ | hq
    · have hj1 := (List.getElem?_eq_some_iff.mp hj).1
      simp only [List.length_cons, List.length_nil] at hj1
      have j0 : j = 0 := by omega
      subst j0
      cases hj
      exact hD.2 q0 _ he
    · exact O.fresh q (Nat.le_trans hS.1 hq)
  have cb : va_CN (g_xR X) (g_xs X) (g_xa X) own idx y host cy nL none (Cond.code y cy nL none :: gW) Rm Rm.cells Rm.slots 0 := by
    rw [O.room]
    exact va_cnB (Ts := gW) 0 (fun w hw => O.word hw) (gW_cons hcode) rfl rfl rfl hlink (O.word hini) hdesc f1
  have hr := vx_runIN (host := host) (p := g_xp X) (l := g_xl X) (e := g_xe X) (R := g_xR X) (s := g_xs X) (m := g_xm X) (args := g_xa X) (below := g_xb X) (meth := g_xt X) (c := g_xc X) (H := H) (locs := locs) (cells := k) (slots := n) (b := b) (As := []) (rest := st) (g := F0 (g_xm X) pc ls (.ref b :: st)) (Ts := gW) ⟨O.exec, O.code, O.ml, O.host, fun w hw => O.word hw⟩ (hM (g_xD X) (g_ca X) b H.size) ⟨cb, hy, O.word hin⟩
    ⟨n_B.blind _, fun U hU hW => ⟨rfl, by rw [hU], by rw [hU]; exact hPc, va_K.moved hW.alike O.K⟩⟩ rfl rfl hh.1 rfl (lv_room (Nat.le_of_ble_eq_true hrest)) hd (by rw [O.room]; exact f2)
  intro T hT X0
  rcases hr T hT X0 with ⟨v, st₀, t, T', L, h0, X', hL, e1, e2, ⟨f, ho, hP1, hD1, hF⟩, sp⟩ | ⟨q9, st₀, t, T', L, E, ce, h0, X', hL, e1, e2, hv, hce, hcv, hcl, sp⟩
  · cases ho
    obtain ⟨-, k2, k3⟩ := vx_keep h0 e1 hS (fun z _ => hFc z) hFc hL hF
    rw [← e1] at hP1
    obtain ⟨hP2, hD2⟩ := va_join hP hD [q0] isR hC hR hnd hdis k2 hFc hP1 hD1
    obtain ⟨t2, a1, b1⟩ := kk f T'.heap (locs ++ L) ls hP2 hD2 k3 hh T' rfl X'
    exact ⟨t2, sp t2 a1, b1⟩
  · exact hv.elim
end NZ
