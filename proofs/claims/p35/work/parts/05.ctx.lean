/-! ===== what a walk stands on ===== -/
abbrev g_q : Type := (Nat → Int32) × (Nat → Int64) × (Nat → Nat)
abbrev g_tys (ca : Nat → ClassId) : List (ClassId × FieldType) := [(ca 0, .int), (ca 1, .object RX0), (ca 2, .object RX1)]
/-- the cells that a method may write -/
def g_A (ad : Nat → Nat) (sz : Nat) : Nat → Prop := fun q => (∃ k, k < 132 ∧ q = ad k) ∨ sz ≤ q
def g_inj (ad : Nat → Nat) : Prop := ∀ i j, i < 132 → j < 132 → ad i = ad j → i = j
theorem g_D {ad : Nat → Nat} {ca : Nat → ClassId} {μ : g_M} {sz : Nat} (h : g_inj ad) : va_D (g_A ad sz) (g_ws ad ca μ) := by
  refine ⟨fun i j p q hi hj hpq => ?_, fun k q hk => ?_⟩
  · obtain ⟨a1, rfl⟩ := g_ws_of hi
    obtain ⟨a2, rfl⟩ := g_ws_of hj
    exact h i j a1 a2 hpq
  · obtain ⟨a1, rfl⟩ := g_ws_of hk
    exact Or.inl ⟨k, a1, rfl⟩
theorem g_A_mono {ad : Nat → Nat} {a b : Nat} (h : a ≤ b) : ∀ q, g_A ad b q → g_A ad a q := fun _ hq => hq.elim Or.inl (fun z => Or.inr (Nat.le_trans h z))
def g_d0 (t : Nat) : Int32 := if t = 1 then 20 else if t = 3 then 35 else 0
def g_m0 (t : Nat) : Int32 := if t = 1 then 8 else if t = 2 then 6 else if t = 3 then 10 else 5
/-- the statics: two arrays of the class, what a throw reads, three texts -/
def g_Z (ad : Nat → Nat) (A : Nat → Prop) (U : State) : Prop :=
  (va_Z RX7 "INITIAL_DROPS" "[I" (.ref (ad 132)) A U U.heap ∧ va_Z RX7 "INITIAL_MINUTES" "[I" (.ref (ad 133)) A U U.heap) ∧
  (va_X (ad 132) 7 g_d0 U U.heap ∧ va_X (ad 133) 7 g_m0 U U.heap) ∧
  ((ad 132 < U.heap.size ∧ ¬ A (ad 132)) ∧ (ad 133 < U.heap.size ∧ ¬ A (ad 133))) ∧
  (vx_Zq Bundle.tN "UNASSIGNED_STACK" Bundle.steD A U U.heap ∧ vx_Zq Bundle.tN "SUPPRESSED_SENTINEL" Bundle.listD A U U.heap) ∧
  ((∃ sa, vk_R RX7 258 "there is no such thing" sa U) ∧ (∃ sa, vk_R RX7 265 "the argument is out of range" sa U) ∧ (∃ sa, vk_R RX7 270 "this is not possible now" sa U))
theorem g_Z.step {ad : Nat → Nat} {A B : Nat → Prop} {u U : State} (h : g_Z ad A u) (hW : u.WarmedH U.vm) (hz : u.heap.size ≤ U.heap.size) (hq : ∀ a : Nat, a < u.heap.size → ¬ A a → U.heap[a]? = u.heap[a]?) (hAB : ∀ q, B q → A q) : g_Z ad B U := by
  obtain ⟨⟨a1, a2⟩, ⟨b1, b2⟩, ⟨⟨c1, c2⟩, ⟨c3, c4⟩⟩, ⟨d1, d2⟩, ⟨⟨s1, e1⟩, ⟨s2, e2⟩, ⟨s3, e3⟩⟩⟩ := h
  refine ⟨⟨((a1.kept hq).moved hW.alike).narrow hAB, ((a2.kept hq).moved hW.alike).narrow hAB⟩, ⟨(b1.kept (hq _ c1 c2)).moved hW.alike, (b2.kept (hq _ c3 c4)).moved hW.alike⟩, ⟨⟨Nat.lt_of_lt_of_le c1 hz, fun z => c2 (hAB _ z)⟩, ⟨Nat.lt_of_lt_of_le c3 hz, fun z => c4 (hAB _ z)⟩⟩, ⟨((d1.kept hq).moved hW.alike).narrow hAB, ((d2.kept hq).moved hW.alike).narrow hAB⟩, ⟨⟨s1, e1.warm hW⟩, ⟨s2, e2.warm hW⟩, ⟨s3, e3.warm hW⟩⟩⟩
/-- a method's start -/
def g_B (D : va_G) (ad : Nat → Nat) (ca : Nat → ClassId) (sz : Nat) (m : Nat → Int32) (q : g_q) (U : State) : Prop :=
  U.heap.size = sz ∧ va_P D vwCl (g_ws ad ca (m, q)) U.heap ∧ va_K D vwCl (g_tys ca) U ∧ g_inj ad ∧ g_Z ad (g_A ad sz) U
theorem g_B.blind {D : va_G} {ad : Nat → Nat} {ca : Nat → ClassId} {sz : Nat} {m : Nat → Int32} {q : g_q} (av : List Value) : FrameBlind (va_Pc av (g_B D ad ca sz m q)) := by
  intro a U g mk h
  obtain ⟨h0, h1, h2, h3, h4, h5⟩ := h
  exact ⟨h0, h1, h2, va_K.moved (u := U) (U := U.calling g mk a) (Vm.Alike.refl U.vm) h3, h4, h5.step (U := U.calling g mk a) (State.WarmedH.refl U) (Nat.le_refl _) (fun _ _ _ => rfl) (fun _ z => z)⟩
def g_Qc (D : va_G) (ad : Nat → Nat) (ca : Nat → ClassId) (A : Nat → Prop) (res : g_Res) : Array Value → State → Outcome → State → Prop := fun _ st o t => ∃ v, res.1 = .inl v ∧ o = .returned v ∧ va_P D vwCl (g_ws ad ca res.2) t.heap ∧ va_F A st t
def g_XC (D : va_G) (ad : Nat → Nat) (ca : Nat → ClassId) (A : Nat → Prop) (res : g_Res) : String → State → State → Prop := fun E st t => res.1 = .inr E ∧ va_P D vwCl (g_ws ad ca res.2) t.heap ∧ va_F A st t
/-- what a method says: from the world (m, q) with these arguments it answers (or throws) res.1, behind it the world is res.2; it makes at most mc cells of ms slots -/
def g_SM (l : Launch) (y : MethodName) (cc : ByteArray) (nL : Nat) (ret : Option FieldType) (R : Room) (As : (Nat → Nat) → List Value) (m : Nat → Int32) (q : g_q) (res : g_Res) : Prop :=
  ∀ (D : va_G) (ad : Nat → Nat) (ca : Nat → ClassId) (sz : Nat), vx_Met l y (Cond.code y cc nL ret :: gW) R (va_Pc (As ad) (g_B D ad ca sz m q)) (g_Qc D ad ca (g_A ad sz) res) (g_XC D ad ca (g_A ad sz) res) R.cells R.slots (g_A ad sz)
abbrev g_X : Type := (Program × Launch × Env × Room) × (State × MethodId × Array Value × List Frame × Method × Code) × (va_G × (Nat → Nat) × (Nat → ClassId)) × Nat
abbrev g_xp (X : g_X) : Program := X.1.1
abbrev g_xl (X : g_X) : Launch := X.1.2.1
abbrev g_xe (X : g_X) : Env := X.1.2.2.1
abbrev g_xR (X : g_X) : Room := X.1.2.2.2
abbrev g_xs (X : g_X) : State := X.2.1.1
abbrev g_xm (X : g_X) : MethodId := X.2.1.2.1
abbrev g_xa (X : g_X) : Array Value := X.2.1.2.2.1
abbrev g_xb (X : g_X) : List Frame := X.2.1.2.2.2.1
abbrev g_xt (X : g_X) : Method := X.2.1.2.2.2.2.1
abbrev g_xc (X : g_X) : Code := X.2.1.2.2.2.2.2
abbrev g_xD (X : g_X) : va_G := X.2.2.1.1
abbrev g_ad (X : g_X) : Nat → Nat := X.2.2.1.2.1
abbrev g_ca (X : g_X) : Nat → ClassId := X.2.2.1.2.2
abbrev g_xn (X : g_X) : Nat := X.2.2.2
abbrev g_xA (X : g_X) : Nat → Prop := g_A (g_ad X) (g_xs X).heap.size
def g_ok (X : g_X) (cc : ByteArray) (own : String) (ret : Option FieldType) (R : Room) : Prop :=
  (g_xp X).tables.exec = Jvm.exec ∧ (g_xc X).code = cc ∧ (g_xc X).maxLocals = g_xn X ∧ (g_xs X).vm.findClass own = some (g_xm X).cls ∧ (∀ w ∈ gW, w.before (g_xa X) (g_xs X) = true) ∧
  va_K (g_xD X) vwCl (g_tys (g_ca X)) (g_xs X) ∧ g_inj (g_ad X) ∧ g_Z (g_ad X) (g_xA X) (g_xs X) ∧ (g_xt X).locks = false ∧ (g_xt X).sig.returnType = ret ∧ g_xR X = R ∧ (∀ x ∈ (g_xc X).exceptionTable.toList, False)
/-- the walk at a place: from every state there it comes to the end with the answer emb r -/
def g_V {α : Type} (X : g_X) (emb : α → g_Res) (r : α) (k n : Nat) (m : Nat → Int32) (q : g_q) (pc : Nat) (lc : List (Nat × Value)) (st : List Value) : Prop :=
  ∀ (H : Heap) (locs : List Loc) (ls : Array Slot), va_P (g_xD X) vwCl (g_ws (g_ad X) (g_ca X) (m, q)) H → va_S (g_xA X) (g_xs X).heap H locs → lv_has ls (g_xn X) lc →
    W (g_xp X) (g_xl X) (g_xe X) (g_xR X) (g_xs X) (g_xm X) (g_xa X) (g_xb X) (g_xt X) (g_xc X) H locs k n (vx_MQ (g_xb X) (g_Qc (g_xD X) (g_ad X) (g_ca X) (g_xA X) (emb r)) (g_XC (g_xD X) (g_ad X) (g_ca X) (g_xA X) (emb r)) (g_xa X) (g_xs X) (g_xR X).cells (g_xR X).slots (g_xA X)) (F0 (g_xm X) pc ls st)
/-- a contract, out of a walk from its entry -/
theorem g_sm_of {α : Type} {l : Launch} {y : MethodName} {cc : ByteArray} {nL : Nat} {ret : Option FieldType} {R : Room} {As : (Nat → Nat) → List Value} {m : Nat → Int32} {q : g_q} {emb : α → g_Res} {r : α}
    (hy : plainName y.cls = true) (hn : ∀ ad, (lg_sl (As ad)).length ≤ nL) (hs : l.stackTraces = false)
    (h : ∀ X : g_X, g_xl X = l → g_xn X = nL → g_ok X cc y.cls ret R → g_V X emb r 0 0 m q 0 (lv_args 0 (As (g_ad X))) []) : g_SM l y cc nL ret R As m q (emb r) := by
  intro D ad ca sz
  refine vx_ofW (cc := cc) (maxL := nL) (ret := ret) hy rfl ?_
  intro p e s m0 args below meth c s₁ B hml hx hv
  obtain ⟨rfl, rfl, hP, hK, hi, hZ⟩ := hv
  have hts := atoms_spec (ws := Cond.code y cc nL ret :: gW) B.pre
  rw [lg_entry_eq]
  exact h ((p, l, e, R), (s, m0, (As ad).toArray, below, meth, c), (D, ad, ca), nL) rfl rfl ⟨B.exec, B.bytes, hml, findClass_of_methodNamed B.named, fun w hw => hts w (List.mem_cons_of_mem _ hw), hK, hi, hZ, B.notSynchronized, B.returns, rfl, hx⟩ s.heap [] _ hP va_S.rf (lv_entry (As ad) (hn ad))
