/-! ===== constructors that read more than their own cell ===== -/
/-- the classes of the static arrays' cells -/
def n_Zc (ad : Nat → Nat) (U : State) : Prop := ((∃ c : Cell, U.heap[ad 132]? = some c ∧ U.vm.findClass "[I" = some c.cls) ∧ (∃ c : Cell, U.heap[ad 133]? = some c ∧ U.vm.findClass "[I" = some c.cls)) ∧ va_AO RX0 U ∧ va_AO RX1 U
theorem n_Zc.step {ad : Nat → Nat} {u U : State} (h : n_Zc ad u) (hvm : u.vm.Alike U.vm) (h0 : U.heap[ad 132]? = u.heap[ad 132]?) (h1 : U.heap[ad 133]? = u.heap[ad 133]?) : n_Zc ad U := by
  obtain ⟨⟨⟨c, a, b⟩, ⟨c', a', b'⟩⟩, o1, o2⟩ := h
  exact ⟨⟨⟨c, by rw [h0]; exact a, by rw [hvm.findClass]; exact b⟩, ⟨c', by rw [h1]; exact a', by rw [hvm.findClass]; exact b'⟩⟩, o1.moved hvm, o2.moved hvm⟩
def n_E (ad : Nat → Nat) (A : Nat → Prop) (U : State) : Prop := g_Z ad A U ∧ g_Y U ∧ n_Zc ad U
theorem n_E.step {ad : Nat → Nat} {A B : Nat → Prop} {u U : State} (h : n_E ad A u) (hW : u.WarmedH U.vm) (hz : u.heap.size ≤ U.heap.size) (hq : ∀ a : Nat, a < u.heap.size → ¬ A a → U.heap[a]? = u.heap[a]?) (hAB : ∀ q, B q → A q) : n_E ad B U := by
  obtain ⟨hZ, hY, hC⟩ := h
  obtain ⟨⟨z1, z2⟩, ⟨z3, z4⟩⟩ := hZ.2.2.1
  exact ⟨hZ.step hW hz hq hAB, hY.step hW, hC.step hW.alike (hq _ z1 z2) (hq _ z3 z4)⟩
def n_BE (D : va_G) (ca : Nat → ClassId) (ad : Nat → Nat) (h sz ci : Nat) (fs0 : List Value) (U : State) : Prop := n_B D ca h sz ci fs0 U ∧ n_E ad (n_A h ci fs0 sz) U
theorem n_BE.blind {D : va_G} {ca : Nat → ClassId} {ad : Nat → Nat} {h sz ci : Nat} {fs0 : List Value} (av : List Value) : FrameBlind (va_Pc av (n_BE D ca ad h sz ci fs0)) := by
  intro a U g mk hh
  obtain ⟨h0, h1, h2⟩ := hh
  have := n_B.blind av a U g mk ⟨h0, h1⟩
  exact ⟨this.1, this.2, h2.step (U := U.calling g mk a) (State.WarmedH.refl U) (Nat.le_refl _) (fun _ _ _ => rfl) (fun _ z => z)⟩
/-- as n_C, of a constructor that reads the statics -/
def n_CE (l : Launch) (y : MethodName) (cc : ByteArray) (nL : Nat) (R : Room) (ci : Nat) (fs0 : List Value) (post : (Nat → ClassId) → Nat → (Nat → Nat) → va_W) : Prop :=
  ∀ (D : va_G) (ca : Nat → ClassId) (ad : Nat → Nat) (h sz : Nat), vx_Met l y (Cond.code y cc nL none :: gW) R (va_Pc [.ref h] (n_BE D ca ad h sz ci fs0)) (n_Qc D (n_A h ci fs0 sz) (post ca h)) n_XC R.cells R.slots (n_A h ci fs0 sz)
theorem n_ofE {l : Launch} {y : MethodName} {cc : ByteArray} {nL : Nat} {R : Room} {ci : Nat} {fs0 : List Value} {post : (Nat → ClassId) → Nat → (Nat → Nat) → va_W} (hy : plainName y.cls = true) (hn : 1 ≤ nL) (hyn : y.name = "<init>")
    (h : ∀ (X : g_X) (a : Nat), g_xl X = l → g_xn X = nL → n_ok X (n_A a ci fs0 (g_xs X).heap.size) cc y.cls R → n_E (g_ad X) (n_A a ci fs0 (g_xs X).heap.size) (g_xs X) → n_V X (n_A a ci fs0 (g_xs X).heap.size) (n_Q X (n_A a ci fs0 (g_xs X).heap.size) (post (g_ca X) a)) 0 0 [(a, .inr (ci, fs0))] 0 [(0, .ref a)] []) : n_CE l y cc nL R ci fs0 post := by
  intro D ca ad a sz
  refine vx_ofW (cc := cc) (maxL := nL) (ret := none) hy rfl ?_
  intro p e s m0 args below meth c s₁ B hml hx hv
  obtain ⟨rfl, ⟨rfl, hP, hK⟩, hE⟩ := hv
  have hts := atoms_spec (ws := Cond.code y cc nL none :: gW) B.pre
  rw [lg_entry_eq]
  refine h ((p, l, e, R), (s, m0, ([.ref a] : List Value).toArray, below, meth, c), (D, ad, ca), nL) a rfl rfl ⟨B.exec, B.bytes, hml, findClass_of_methodNamed B.named, fun w hw => hts w (List.mem_cons_of_mem _ hw), hK, B.notSynchronized, fun _ => ⟨B.returns, (name_of_methodNamed B.named B.method).1.trans hyn⟩, rfl, fun q hq => Or.inr hq⟩ hE s.heap [] _ hP ?_ va_S.rf (lv_entry [.ref a] hn)
  refine ⟨fun i j p q hi hj _ => ?_, fun k q hk => Or.inl ⟨k, q.2, hk⟩⟩
  have h1 := (List.getElem?_eq_some_iff.mp hi).1
  have h2 := (List.getElem?_eq_some_iff.mp hj).1
  simp only [List.length_cons, List.length_nil] at h1 h2
  omega
theorem w_cl1 : Cond.methodLink RX4 13 ⟨"[I", "clone", "()Ljava/lang/Object;"⟩ ∈ gW := gW_in (i := 49) (by decide +kernel) rfl
theorem w_cl2 : Cond.sameMethod "[I" "java/lang/Object" "clone" "()Ljava/lang/Object;" ∈ gW := gW_in (i := 50) (by decide +kernel) rfl
theorem w_cl3 : Cond.native ⟨"java/lang/Object", "clone", "()Ljava/lang/Object;"⟩ ∈ gW := gW_in (i := 51) (by decide +kernel) rfl
theorem w_cl4 : Cond.instanceMethod ⟨"java/lang/Object", "clone", "()Ljava/lang/Object;"⟩ ∈ gW := gW_in (i := 52) (by decide +kernel) rfl
theorem w_cl5 : Cond.selects "[I" ⟨"[I", "clone", "()Ljava/lang/Object;"⟩ ⟨"java/lang/Object", "clone", "()Ljava/lang/Object;"⟩ ∈ gW := gW_in (i := 53) (by decide +kernel) rfl
theorem w_cl6 : Cond.classLink RX4 14 "[I" ∈ gW := gW_in (i := 55) (by decide +kernel) rfl
section NE
variable {X : g_X} {A : Nat → Prop} {Q : State → Prop} {k n : Nat} {ws : va_W} {pc : Nat} {lc lc' : List (Nat × Value)} {st : List Value} {cc : ByteArray} {own : String} {R : Room}
theorem n_gets9 (O : n_ok X A cc RX4 R) (E : n_E (g_ad X) A (g_xs X)) (hd : decode cc pc = .ok (.getstatic 9, 3)) (kk : n_V X A Q k n ws (pc + 3) lc (.ref (g_ad X 132) :: st)) : n_V X A Q k n ws pc lc st := fun H locs ls hP hD hS hh => va_getsN (host := "CaveRelay") O.exec O.code E.1.1.1 hS O.host (va_Nw.use rfl E.2.1.2.2.2.1.1) (fun _ h => h) hd (kk H locs ls hP hD hS hh)
theorem n_gets23 (O : n_ok X A cc RX4 R) (E : n_E (g_ad X) A (g_xs X)) (hd : decode cc pc = .ok (.getstatic 23, 3)) (kk : n_V X A Q k n ws (pc + 3) lc (.ref (g_ad X 133) :: st)) : n_V X A Q k n ws pc lc st := fun H locs ls hP hD hS hh => va_getsN (host := "CaveRelay") O.exec O.code E.1.1.2 hS O.host (va_Nw.use rfl E.2.1.2.2.2.1.2.1) (fun _ h => h) hd (kk H locs ls hP hD hS hh)
/-- a static array cloned -/
theorem n_clone (O : n_ok X A cc RX4 R) (E : n_E (g_ad X) A (g_xs X)) {a : Nat} {F : Nat → Int32} (hX : va_X a 7 F (g_xs X) (g_xs X).heap) (hlt : a < (g_xs X).heap.size ∧ ¬ A a) (hc : ∃ c : Cell, (g_xs X).heap[a]? = some c ∧ (g_xs X).vm.findClass "[I" = some c.cls)
    (hd : decode cc pc = .ok (.invokevirtual 13, 3)) (hk : k + 1 ≤ R.cells) (hs : n + 7 ≤ R.slots) (hfr : 1 ≤ R.frames) (hlo : (st.map fun v => v.category).sum + 14 ≤ R.locals)
    (kk : ∀ q : Nat, n_V X A Q (k + 1) (n + 7) (ws ++ [(q, .inl (g_ca X 0, 7, .inl F))]) (pc + 3) lc (.ref q :: st)) : n_V X A Q k n ws pc lc (.ref a :: st) := by
  intro H locs ls hP hD hS hh
  obtain ⟨scr, e1, e2, e3, e4, e5⟩ := hX
  obtain ⟨c0, f1, f2⟩ := hc
  cases Option.some.inj (e1.symm.trans f1)
  have hA : ∀ q, (g_xs X).heap.size ≤ q → A q := O.fresh
  have hcls : scr.cls = g_ca X 0 := Option.some.inj (f2.symm.trans (va_nm_int (O.K.2 0 _ rfl).2))
  have hcellE : ({ cls := scr.cls, slots := scr.slots } : Cell) = vp_cell (g_ca X 0) (7, .inl F) := by
    show ({ cls := scr.cls, slots := scr.slots, vm := .none } : Cell) = arrV (g_ca X 0) 7 (fun j => .int (F j))
    have hsl : scr.slots = (arrV (g_ca X 0) 7 (fun j => .int (F j))).slots := by
      apply Array.ext_getElem?
      intro i
      by_cases hi : i < 7
      · rw [e5 i hi, arrV_read _ _ hi]
      · rw [Array.getElem?_eq_none (by omega), Array.getElem?_eq_none (by rw [arrV_size]; omega)]
    rw [hcls, hsl]
    rfl
  have hH : H[a]? = some scr := by rw [hS.2.1 a hlt.1 hlt.2]; exact e1
  obtain ⟨c1, t0', g1, g2, g3⟩ := Cond.castable_spec (va_Nw.use (A := g_xa X) rfl E.2.1.2.2.2.1.2.2)
  cases f2.symm.trans g1
  intro T hT X0
  have hcellT : T.heap[a]? = some scr := by rw [hT]; exact hH
  obtain ⟨hob, kA, hkA, comp, hkind⟩ := State.isArrayOf_alike X0.warmed.alike e2
  obtain ⟨-, kS, hkS, compS, hkindS⟩ := e2
  obtain ⟨vm', X', st'⟩ := X0.cloneArray O.exec O.host (O.word w_cl1) (O.word w_cl2) (O.word w_cl3) (O.word w_cl4) (O.word w_cl5) (a := a) (cell := scr) hcellT hob e3 f2 g2 g3
    (fun i v hv => by
      have hi : i < 7 := by
        have := (Array.getElem?_eq_some_iff.mp hv).1
        omega
      have hv2 : v = .int (F i) := Option.some.inj (hv.symm.trans (e5 i hi))
      subst hv2
      have hk' : T.vm.classes[scr.cls]? = some kA := hkA
      simp [State.fitsSlot, State.slotType?, hk', hkind, fits])
    (g := F0 (g_xm X) pc ls (.ref a :: st)) rfl (by rw [O.ml]; exact hh.1) rfl (by rw [O.code]; exact hd) (by rw [O.room]; exact hfr) (by rw [O.room]; show 2 * 0 + _ + 14 ≤ _; omega) (by rw [O.room]; exact hk) (by rw [O.room, e4]; exact hs) (hloader := Vm.clonesLoader_of_array hkS hkindS)
  rw [hcellE, e4] at X'
  generalize hH1 : H.push (vp_cell (g_ca X 0) (7, .inl F)) = H1
  have z1 : H1.size = H.size + 1 := by rw [← hH1, Array.size_push]
  have ee : H1[H.size]? = some (vp_cell (g_ca X 0) (7, .inl F)) := by rw [← hH1, Array.getElem?_push_size]
  have o1 : ∀ q : Nat, q < H.size → H1[q]? = H[q]? := fun q hq => by rw [← hH1, Array.getElem?_push, if_neg (Nat.ne_of_lt hq)]
  have hk0 : ∀ (k : Nat) (y : Nat × va_E), ws[k]? = some y → H1[y.1]? = H[y.1]? := fun k y hy => o1 y.1 ((hP k y hy).lt)
  obtain ⟨t, b1, b2⟩ := kk H.size H1 locs ls ((hP.kept hk0).app (fun k y hy => by
      have hz : k < 1 := (List.getElem?_eq_some_iff.mp hy).1
      rw [show k = 0 by omega] at hy
      cases hy
      exact ee)) (hD.push hP rfl (hA _ hS.1)) ⟨Nat.le_trans hS.1 (by omega), fun y h1 h2 => (o1 y (Nat.lt_of_lt_of_le h1 hS.1)).trans (hS.2.1 y h1 h2), hS.2.2⟩ hh
    ((T.setVm vm').pushCell (vp_cell (g_ca X 0) (7, .inl F))) (by rw [← hH1, ← hT]; rfl) X'
  refine ⟨t, st' t ?_, b2⟩
  rw [hcellE, hT]
  exact b1
theorem n_castA (O : n_ok X A cc RX4 R) {a : Nat} {x : vp_A} (q0 : Nat) (he : ws[q0]? = some (a, .inl (g_ca X 0, x))) (hd : decode cc pc = .ok (.checkcast 14, 3)) (kk : n_V X A Q k n ws (pc + 3) lc (.ref a :: st)) : n_V X A Q k n ws pc lc (.ref a :: st) := fun H locs ls hP hD hS hh => va_castA O.exec O.code O.host (O.word w_cl6) hP q0 he (va_nm_int (O.K.2 0 _ rfl).2) hd (kk H locs ls hP hD hS hh)
end NE
