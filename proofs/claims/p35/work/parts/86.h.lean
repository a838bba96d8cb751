/-! ===== constructors: a call of the last cell's constructor; a world said otherwise ===== -/
theorem nd_of : ∀ l : List Nat, l.Nodup → va_nd l = true
  | [], _ => rfl
  | a :: l, h => by
    obtain ⟨h1, h2⟩ := List.nodup_cons.mp h
    simp only [va_nd, Bool.and_eq_true, decide_eq_true_eq]
    exact ⟨h1, nd_of l h2⟩
theorem nd_range (n : Nat) : va_nd (List.range n) = true := nd_of _ List.nodup_range
theorem range_at {w1 : va_W} {x : Nat × va_E} : (List.range w1.length).map (fun i => (w1 ++ [x])[i]?) = w1.map some := by
  apply List.ext_getElem?
  intro i
  by_cases hi : i < w1.length
  · rw [List.getElem?_map, List.getElem?_map, List.getElem?_range hi]
    show some (w1 ++ [x])[i]? = _
    rw [List.getElem?_append_left hi, List.getElem?_eq_getElem hi]
    rfl
  · rw [List.getElem?_eq_none (by simp; omega), List.getElem?_eq_none (by simp; omega)]
section NR
variable {X : g_X} {A : Nat → Prop} {Q : State → Prop} {k n : Nat} {w1 ws : va_W} {pc : Nat} {lc lc' : List (Nat × Value)} {st : List Value} {cc : ByteArray} {own : String} {R : Room}
theorem n_last {b : Nat} {e : va_E} : (w1 ++ [(b, e)])[w1.length]? = some (b, e) := by
  rw [List.getElem?_append_right (Nat.le_refl _), Nat.sub_self]
  rfl
theorem n_FA (O : n_ok X A cc own R) {b : Nat} {e : va_E} {H : Heap} {locs : List Loc} (hD : va_D A (w1 ++ [(b, e)])) (hS : va_S A (g_xs X).heap H locs) : ∀ q, va_A [(b, e)] H.size q → A q := fun q hq => by
  rcases hq with ⟨j, e2, hj⟩ | hq
  · have hj1 := (List.getElem?_eq_some_iff.mp hj).1
    simp only [List.length_cons, List.length_nil] at hj1
    have j0 : j = 0 := by omega
    subst j0
    cases hj
    exact hD.2 _ _ n_last
  · exact O.fresh q (Nat.le_trans hS.1 hq)
theorem n_back (O : n_ok X A cc own R) {b ci : Nat} {fs0 : List Value} {P : (Nat → Nat) → va_W} {mc ms : Nat} {a : Array Value} {st0 : List Value} {H : Heap} {locs : List Loc} {ls : Array Slot}
    (hP : va_P (g_xD X) vwCl (w1 ++ [(b, .inr (ci, fs0))]) H) (hD : va_D A (w1 ++ [(b, .inr (ci, fs0))])) (hS : va_S A (g_xs X).heap H locs) (hh : lv_has ls (g_xn X) lc)
    (hr : vx_Run (g_xp X) (g_xl X) (g_xe X) (g_xR X) (g_xs X) (g_xm X) (g_xa X) (g_xb X) (g_xt X) (g_xc X) H locs k n mc ms (F0 (g_xm X) pc ls st0) st (n_Qc (g_xD X) (n_A b ci fs0 H.size) P a) n_XC (n_A b ci fs0 H.size))
    (kk : ∀ f : Nat → Nat, n_V X A Q (k + mc) (n + ms) (w1 ++ P f) (pc + 3) lc st) :
    W (g_xp X) (g_xl X) (g_xe X) (g_xR X) (g_xs X) (g_xm X) (g_xa X) (g_xb X) (g_xt X) (g_xc X) H locs k n Q (F0 (g_xm X) pc ls st0) := by
  have hFc := n_FA O hD hS
  intro T hT X0
  rcases hr T hT X0 with ⟨v, st₀, t, T', L, h0, X', hL, e1, e2, ⟨f, ho, hP1, hD1, hF⟩, sp⟩ | ⟨q9, st₀, t, T', L, E, ce, h0, X', hL, e1, e2, hv, hce, hcv, hcl, sp⟩
  · cases ho
    obtain ⟨-, k2, k3⟩ := vx_keep h0 e1 hS (fun z _ => hFc z) hFc hL hF
    rw [← e1] at hP1
    obtain ⟨hP2, hD2⟩ := va_join hP hD [w1.length] (List.range w1.length) (wc := [(b, .inr (ci, fs0))]) (wr := w1) (by simp only [List.map_cons, List.map_nil, n_last]) range_at (nd_range _) (fun i hi => by
      have := List.mem_range.mp hi
      simp only [List.mem_cons, List.not_mem_nil, or_false]
      omega) k2 hFc hP1 hD1
    obtain ⟨t2, a1, b1⟩ := kk f T'.heap (locs ++ L) ls hP2 hD2 k3 hh T' rfl X'
    exact ⟨t2, sp t2 a1, b1⟩
  · exact hv.elim
theorem n_wc {b : Nat} {e : va_E} {H : Heap} (hP : va_P (g_xD X) vwCl (w1 ++ [(b, e)]) H) : va_P (g_xD X) vwCl [(b, e)] H := fun j q hq => by
  have hj := (List.getElem?_eq_some_iff.mp hq).1
  simp only [List.length_cons, List.length_nil] at hj
  have j0 : j = 0 := by omega
  subst j0
  cases hq
  exact hP _ _ n_last
/-- the last cell's constructor called, by a plain link; it reads the statics -/
theorem n_callE (O : n_ok X A cc own R) (E : n_E (g_ad X) A (g_xs X)) {idx : Nat} {y : MethodName} {cy : ByteArray} {nL : Nat} {Rm : Room} {ci b : Nat} {fs0 : List Value} {post : (Nat → ClassId) → Nat → (Nat → Nat) → va_W} (hM : n_CE (g_xl X) y cy nL Rm ci fs0 post) (LB : g_LB own idx y cy nL none 0) (hin : Cond.instanceMethod y ∈ gW) (hy : y.name = "<init>")
    (hrest : Nat.ble (st.map fun v => v.category).sum 8 = true) (hd : decode cc pc = .ok (.invokespecial idx, 3)) (hfit : g_fit R Rm nL k n = true)
    (kk : ∀ f : Nat → Nat, n_V X A Q (k + Rm.cells) (n + Rm.slots) (w1 ++ post (g_ca X) b f) (pc + 3) lc st) : n_V X A Q k n (w1 ++ [(b, .inr (ci, fs0))]) pc lc (.ref b :: st) := by
  intro H locs ls hP hD hS hh
  obtain ⟨f1, f2⟩ := g_fit_of hfit
  have hPc := n_wc hP
  have hFc := n_FA O hD hS
  have cb : CallB (g_xR X) (g_xs X) (g_xa X) own idx y cy nL none (Cond.code y cy nL none :: gW) Rm Rm.cells Rm.slots 0 := by
    rw [O.room]
    exact callB_of (Ts := gW) 0 (fun w hw => O.word hw) (gW_cons LB.2.2.1) rfl rfl rfl (O.word LB.2.1) (O.word LB.1) LB.2.2.2 f1
  exact n_back O hP hD hS hh (vx_runI (p := g_xp X) (l := g_xl X) (e := g_xe X) (R := g_xR X) (s := g_xs X) (m := g_xm X) (args := g_xa X) (below := g_xb X) (meth := g_xt X) (c := g_xc X) (H := H) (locs := locs) (cells := k) (slots := n) (b := b) (As := []) (rest := st) (g := F0 (g_xm X) pc ls (.ref b :: st)) (Ts := gW) ⟨O.exec, O.code, O.ml, O.host, fun w hw => O.word hw⟩ (hM (g_xD X) (g_ca X) (g_ad X) b H.size) ⟨cb, hy, O.word hin⟩
    ⟨n_BE.blind _, fun U hU hW => ⟨rfl, ⟨by rw [hU], by rw [hU]; exact hPc, va_K.moved hW.alike O.K⟩, E.step hW (by rw [hU]; exact hS.1) (by rw [hU]; exact hS.2.1) hFc⟩⟩ rfl rfl hh.1 rfl (lv_room (Nat.le_of_ble_eq_true hrest)) hd (by rw [O.room]; exact f2)) kk
/-- the last cell's constructor called, by a nest mate's link -/
theorem n_callN (O : n_ok X A cc own R) {idx : Nat} {host : String} {y : MethodName} {cy : ByteArray} {nL : Nat} {Rm : Room} {ci b : Nat} {fs0 : List Value} {post : (Nat → ClassId) → Nat → (Nat → Nat) → va_W} (hM : n_C (g_xl X) y cy nL Rm ci fs0 post) (hlink : va_Nw (.methodLinkNest own idx y host) (g_xs X)) (hini : Cond.initialized y.cls ∈ gW) (hcode : Cond.code y cy nL none ∈ gW) (hdesc : y.cls ≠ "java/lang/invoke/MethodHandle" ∧ y.cls ≠ "java/lang/invoke/VarHandle" ∧ (parseMethodDescriptor y.desc).map (fun d => d.parameters.length) = some 0) (hin : Cond.instanceMethod y ∈ gW) (hy : y.name = "<init>")
    (hrest : Nat.ble (st.map fun v => v.category).sum 8 = true) (hd : decode cc pc = .ok (.invokespecial idx, 3)) (hfit : g_fit R Rm nL k n = true)
    (kk : ∀ f : Nat → Nat, n_V X A Q (k + Rm.cells) (n + Rm.slots) (w1 ++ post (g_ca X) b f) (pc + 3) lc st) : n_V X A Q k n (w1 ++ [(b, .inr (ci, fs0))]) pc lc (.ref b :: st) := by
  intro H locs ls hP hD hS hh
  obtain ⟨f1, f2⟩ := g_fit_of hfit
  have hPc := n_wc hP
  have cb : va_CN (g_xR X) (g_xs X) (g_xa X) own idx y host cy nL none (Cond.code y cy nL none :: gW) Rm Rm.cells Rm.slots 0 := by
    rw [O.room]
    exact va_cnB (Ts := gW) 0 (fun w hw => O.word hw) (gW_cons hcode) rfl rfl rfl hlink (O.word hini) hdesc f1
  exact n_back O hP hD hS hh (vx_runIN (host := host) (p := g_xp X) (l := g_xl X) (e := g_xe X) (R := g_xR X) (s := g_xs X) (m := g_xm X) (args := g_xa X) (below := g_xb X) (meth := g_xt X) (c := g_xc X) (H := H) (locs := locs) (cells := k) (slots := n) (b := b) (As := []) (rest := st) (g := F0 (g_xm X) pc ls (.ref b :: st)) (Ts := gW) ⟨O.exec, O.code, O.ml, O.host, fun w hw => O.word hw⟩ (hM (g_xD X) (g_ca X) b H.size) ⟨cb, hy, O.word hin⟩
    ⟨n_B.blind _, fun U hU hW => ⟨rfl, by rw [hU], by rw [hU]; exact hPc, va_K.moved hW.alike O.K⟩⟩ rfl rfl hh.1 rfl (lv_room (Nat.le_of_ble_eq_true hrest)) hd (by rw [O.room]; exact f2)) kk
/-- a new array of objects -/
theorem n_anew (O : n_ok X A cc own R) {idx t0 : Nat} {C : String} {cA : ClassId} {i : Int32} {N : Nat} (hcl : Cond.classLink own idx C ∈ gW) (hover : va_AO C (g_xs X)) (ht : (g_tys (g_ca X))[t0]? = some (cA, .object C)) (hi : ¬ i < 0) (hN : i.toNatClampNeg = N) (hb : N * 4 ≤ 536870912) (hc : k + 1 ≤ R.cells) (hs : n + N ≤ R.slots) (hd : decode cc pc = .ok (.anewarray idx, 3))
    (kk : ∀ q : Nat, n_V X A Q (k + 1) (n + N) (ws ++ [(q, .inl (cA, N, .inr (.inr (.inr (.inr (fun _ => none))))))]) (pc + 3) lc (.ref q :: st)) : n_V X A Q k n ws pc lc (.int i :: st) := by
  intro H locs ls hP hD hS hh
  refine va_newq (tys := g_tys (g_ca X)) O.exec O.code O.host (O.word hcl) hover O.K hP hD hS O.fresh hi hN hb (by rw [O.room]; exact hc) (by rw [O.room]; exact hs) hd (fun q cA' H1 hK hP1 hD1 hS1 => ?_)
  obtain ⟨-, -, -, -, -, h4⟩ := (hK.2 3 (cA', .object C) rfl).2
  obtain ⟨-, -, -, -, -, h4'⟩ := (O.K.2 t0 _ ht).2
  have e : cA' = cA := Option.some.inj (h4.symm.trans h4')
  subst e
  exact kk q H1 locs ls hP1 hD1 hS1 hh
/-- an object laid into the array q0 -/
theorem n_astq (O : n_ok X A cc own R) (q0 t0 qk ci : Nat) {a v N : Nat} {cA : ClassId} {r : vw_C} {vs : List Value} {f : Nat → Option Nat} {i : Int32} (ha : ws[q0]? = some (a, .inl (cA, N, .inr (.inr (.inr (.inr f)))))) (ht : (g_tys (g_ca X))[t0]? = some (cA, .object r.1)) (hv : ws[qk]? = some (v, .inr (ci, vs))) (hc : vwCl[ci]? = some r) (hin : vp_in i N) (hd : decode cc pc = .ok (.aastore, 1))
    (kk : n_V X A Q k n (ws.set q0 (a, .inl (cA, N, .inr (.inr (.inr (.inr (va_up f i.toNatClampNeg (some v)))))))) (pc + 1) lc st) : n_V X A Q k n ws pc lc (.ref v :: .int i :: .ref a :: st) :=
  fun H locs ls hP hD hS hh => va_astq O.exec O.code O.K hP hD hS q0 t0 qk ci ha ht hv hc hin hd (fun H1 locs1 hP1 hD1 hS1 => kk H1 locs1 ls hP1 hD1 hS1 hh)
theorem n_conv {ws' : va_W} (h : (∀ (D : va_G) (cl : List vw_C) (H : Heap), va_P D cl ws H → va_P D cl ws' H) ∧ ∀ A : Nat → Prop, va_D A ws → va_D A ws') (kk : n_V X A Q k n ws' pc lc st) : n_V X A Q k n ws pc lc st := fun H locs ls hP hD hS hh => kk H locs ls (h.1 _ _ H hP) (h.2 A hD) hS hh
theorem n_same {ws' : va_W} (h : ws = ws') (kk : n_V X A Q k n ws' pc lc st) : n_V X A Q k n ws pc lc st := h ▸ kk
end NR
/-- what is said of a cell may be said otherwise -/
def n_eq (e e' : va_E) : Prop := ∀ (D : va_G) (cl : List vw_C) (a : Nat) (H : Heap), va_at D cl (a, e) H → va_at D cl (a, e') H
theorem n_eq_of {e e' : va_E} (h : e = e') : n_eq e e' := fun _ _ _ _ z => h ▸ z
theorem arrV_congr {cA : ClassId} {N : Nat} {f g : Nat → Value} (h : ∀ t, t < N → f t = g t) : arrV cA N f = arrV cA N g := by
  unfold arrV
  congr 2
  funext j
  exact h j.val j.isLt
theorem n_eq_i {cA : ClassId} {N : Nat} {f g : Nat → Int32} (h : ∀ t, t < N → f t = g t) : n_eq (.inl (cA, N, .inl f)) (.inl (cA, N, .inl g)) := fun D cl a H z => by
  show H[a]? = some (arrV cA N (fun j => .int (g j)))
  have e : arrV cA N (fun j => Value.int (f j)) = arrV cA N (fun j => Value.int (g j)) := arrV_congr (fun t ht => by show Value.int (f t) = Value.int (g t); rw [h t ht])
  rw [← e]
  exact z
theorem n_eq_q {cA : ClassId} {N : Nat} {f g : Nat → Option Nat} (h : ∀ t, t < N → f t = g t) : n_eq (.inl (cA, N, .inr (.inr (.inr (.inr f))))) (.inl (cA, N, .inr (.inr (.inr (.inr g))))) := fun D cl a H z => by
  show H[a]? = some (arrV cA N (fun j => va_rf (g j)))
  have e : arrV cA N (fun j => va_rf (f j)) = arrV cA N (fun j => va_rf (g j)) := arrV_congr (fun t ht => by show va_rf (f t) = va_rf (g t); rw [h t ht])
  rw [← e]
  exact z
theorem n_pm {ws ws' : va_W} (p : Nat → Nat) (hp : ∀ i j, i < ws'.length → j < ws'.length → p i = p j → i = j) (hw : ∀ (i : Nat) (q : Nat × va_E), ws'[i]? = some q → ∃ e, ws[p i]? = some (q.1, e) ∧ n_eq e q.2) : (∀ (D : va_G) (cl : List vw_C) (H : Heap), va_P D cl ws H → va_P D cl ws' H) ∧ ∀ A : Nat → Prop, va_D A ws → va_D A ws' := by
  refine ⟨fun D cl H hP i q hq => ?_, fun A hD => ⟨fun i j a b hi hj hab => ?_, fun k q hk => ?_⟩⟩
  · obtain ⟨e, h1, h2⟩ := hw i q hq
    exact h2 D cl q.1 H (hP (p i) _ h1)
  · obtain ⟨e, h1, -⟩ := hw i a hi
    obtain ⟨e', h1', -⟩ := hw j b hj
    exact hp i j (List.getElem?_eq_some_iff.mp hi).1 (List.getElem?_eq_some_iff.mp hj).1 (hD.1 (p i) (p j) _ _ h1 h1' hab)
  · obtain ⟨e, h1, -⟩ := hw k q hk
    exact hD.2 (p k) (q.1, e) h1
