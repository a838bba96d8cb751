/-! ===== the face of the class: throws, doubles, saving ===== -/
/-- what a method of the face answers (or throws), the class's numbers and the permutation behind it -/
abbrev g_P7 : Type := (Option Value ⊕ String) × (Nat → Int32) × (Nat → Nat)
def updN (f : Nat → Nat) (k x : Nat) : Nat → Nat := fun j => if j = k then x else f j
theorem updN_ne {f : Nat → Nat} {a b x : Nat} (h : b ≠ a) : updN f a x b = f b := by simp [updN, h]
theorem updN_eq {f : Nat → Nat} {a x : Nat} : updN f a x a = x := by simp [updN]
/-- a quotient of two numbers is no NaN -/
theorem d_num {x y : Int32} (hy : ¬ y = 0) : vf_n64 (FP.ddiv (FP.i2d x) (FP.i2d y)) := by
  have h1 : FP.Core.dIsNaN (FP.i2d x) = false := (FP.Core.notNaN_iff _).mpr (by obtain ⟨a, b, c, e⟩ := FP.Core.i2d_fin x; rw [show FP.i2d x = FP.Core.i2d x from rfl, e]; exact FP.Core.Datum.noConfusion)
  have h2 : FP.Core.dIsNaN (FP.Core.ddiv (FP.i2d x) (FP.i2d y)) = false := FP.Core.ddiv_out h1 (FP.Core.i2d_fin y) (fun z => FP.Core.i2d_ne_zero hy ((FP.Core.zero_bits2 _).mp z))
  unfold vf_n64
  have h3 : ¬ 9218868437227405312 < (FP.ddiv (FP.i2d x) (FP.i2d y)).toNat % 2 ^ 63 := fun z => by
    have := (FP.Core.isNaN_bits _).mpr z
    rw [show FP.ddiv (FP.i2d x) (FP.i2d y) = FP.Core.ddiv (FP.i2d x) (FP.i2d y) from rfl, h2] at this
    cases this
  rw [UInt64.le_iff_toNat_le, UInt64.toNat_and, show (0x7fffffffffffffff : UInt64).toNat = 2 ^ 63 - 1 by decide, Nat.and_two_pow_sub_one_eq_mod, show (0x7ff0000000000000 : UInt64).toNat = 9218868437227405312 by decide]
  omega
theorem d_self {x y : Int32} (hy : ¬ y = 0) : FP.dcmp (FP.ddiv (FP.i2d x) (FP.i2d y)) (FP.ddiv (FP.i2d x) (FP.i2d y)) = some .eq := by
  have h1 : FP.Core.dIsNaN (FP.i2d x) = false := (FP.Core.notNaN_iff _).mpr (by obtain ⟨a, b, c, e⟩ := FP.Core.i2d_fin x; rw [show FP.i2d x = FP.Core.i2d x from rfl, e]; exact FP.Core.Datum.noConfusion)
  have h2 : FP.Core.dIsNaN (FP.Core.ddiv (FP.i2d x) (FP.i2d y)) = false := FP.Core.ddiv_out h1 (FP.Core.i2d_fin y) (fun z => FP.Core.i2d_ne_zero hy ((FP.Core.zero_bits2 _).mp z))
  exact FP.Core.dcmp_self ((FP.Core.notNaN_iff _).mp h2)
section GR5
variable {α : Type} {X : g_X} {emb : α → g_Res} {r : α} {k n : Nat} {m : Nat → Int32} {q : g_q} {pc : Nat} {lc lc' : List (Nat × Value)} {st : List Value} {cc : ByteArray} {own : String} {ret : Option FieldType} {R : Room}
theorem r_i2d (O : g_ok X cc own ret R) {x : Int32} (hd : decode cc pc = .ok (.i2d, 1)) (kk : g_V X emb r k n m q (pc + 1) lc (.double (FP.i2d x) :: st)) : g_V X emb r k n m q pc lc (.int x :: st) := fun H locs ls hP hS hh => lv_i2d O.exec O.code hd (kk H locs ls hP hS hh)
theorem r_dconst0 (O : g_ok X cc own ret R) (hd : decode cc pc = .ok (.dconst 0, 1)) (kk : g_V X emb r k n m q (pc + 1) lc (.double FP.dconst0 :: st)) : g_V X emb r k n m q pc lc st := fun H locs ls hP hS hh => lv_dconst0 O.exec O.code hd (kk H locs ls hP hS hh)
theorem r_ddiv (O : g_ok X cc own ret R) {x y : UInt64} (hd : decode cc pc = .ok (.ddiv, 1)) (hne : vf_n64 (FP.ddiv x y)) (kk : g_V X emb r k n m q (pc + 1) lc (.double (FP.ddiv x y) :: st)) : g_V X emb r k n m q pc lc (.double y :: .double x :: st) := fun H locs ls hP hS hh => lv_ddiv O.exec O.code hd hne (kk H locs ls hP hS hh)
theorem r_dret {x : UInt64} (O : g_ok X cc own (some .double) R) (hd : decode cc pc = .ok (.dreturn, 1)) (hk : k ≤ R.cells) (hs : n ≤ R.slots) (he : emb r = (.inl (some (.double x)), (m, q))) : g_V X emb r k n m q pc lc [.double x] := by
  intro H locs ls hP hS hh
  rw [← O.room] at hk hs
  exact W.widen hk hs (vx_ret (W.dret O.exec O.code O.rty (fun t ht _ => ⟨some (.double x), by rw [he], rfl, by rw [he, ht]; exact hP, hS.F ht⟩) hS.2.2 hd O.locks))
theorem g_ot {w : Cond} (h : w ∈ gW) : vx_ot w = true := by
  unfold vx_ot
  rw [gW_good w h, Bool.or_true]
/-- 'throw new E("text")' -/
theorem r_throwS (O : g_ok X cc own ret R) (hs : (g_xl X).stackTraces = false) {cls text : String} {names : List String} {ik is ic : Nat} (hcls : Bundle.fit cls = true) (hnames : ∀ n ∈ names, Bundle.fit n = true) (hk : Cond.classLink own ik cls ∈ gW) (hi : Cond.initialized cls ∈ gW) (hat : ∀ w ∈ vx_atS own ic cls names, w ∈ gW) (hstr : ∃ sa, vk_R own is text sa (g_xs X))
    (d0 : decode cc pc = .ok (.new ik, 3)) (d3 : decode cc (pc + 3) = .ok (.dup, 1)) (d4 : decode cc (pc + 4) = .ok (.ldc_w is, 3)) (d7 : decode cc (pc + 7) = .ok (.invokespecial ic, 3)) (d10 : decode cc (pc + 10) = .ok (.athrow, 1))
    (hroom : (Nat.blt (names.length + 3) R.frames && Nat.ble ((st.map fun v => v.category).sum + (13 * (names.length + 1) + 43)) R.locals && Nat.ble (k + 1) R.cells && Nat.ble (n + 6) R.slots) = true) (he : emb r = (.inr cls, (m, q))) : g_V X emb r k n m q pc lc st := by
  intro H locs ls hP hS hh
  obtain ⟨sa, hsa⟩ := hstr
  simp only [Bool.and_eq_true, Nat.ble_eq, g_blt] at hroom
  rw [← O.room] at hroom
  obtain ⟨-, -, -, ⟨z1, z2⟩, -⟩ := O.Z
  refine vx_throwSW O.exec O.code hs O.host hcls hnames (O.word hk) (O.word hi) hsa (fun w hw => O.word (hat w hw)) (fun w hw => ?_) z1 z2 hS (hh.1.trans O.2.2.1.symm) d0 d3 d4 d7 d10 (fun x hx => (O.table x hx).elim) hroom.1.1.1 hroom.1.1.2 hroom.1.2 hroom.2 O.locks (fun t _ hz hq => ⟨by rw [he], ?_, ?_⟩) hS.2.2 hroom.1.2 hroom.2
  · rcases List.mem_cons.mp hw with rfl | hw
    · exact g_ot hk
    · rcases List.mem_cons.mp hw with rfl | hw
      · exact g_ot hi
      · exact g_ot (hat w hw)
  · rw [he]
    exact hP.kept (fun k q hk => hq _ (vx_lt hP hk))
  · exact ⟨Nat.le_trans hS.1 hz, fun q h1 h2 => by rw [hq q (Nat.lt_of_lt_of_le h1 hS.1)]; exact hS.2.1 q h1 h2⟩
/-! the row 'saved' of caves -/
theorem r_aldS (O : g_ok X cc own ret R) {s : Nat → Int32} {lm : Nat → Int64} {pm : Nat → Nat} {i : Int32} {t v : Nat} (hin : vp_in i 4) (ht : i.toNatClampNeg = t) (hv : pm t = v) (hd : decode cc pc = .ok (.aaload, 1)) (kk : g_V X emb r k n m (s, lm, pm) (pc + 1) lc (.ref (g_ad X (24 * v)) :: st)) : g_V X emb r k n m (s, lm, pm) pc lc (.int i :: .ref (g_ad X 123) :: st) := by
  refine fun H locs ls hP hS hh => va_aldq O.exec O.code O.K hP 123 1 (by rw [g_ws_at _ _ _ (by omega), g_ent_o _ _ _ (by omega)]; rfl) rfl hin hd ?_
  have h1 := g_cl hin
  rw [g_blt.mpr h1]
  have kk2 := kk H locs ls hP hS hh
  rw [← hv, ← ht] at kk2
  exact kk2
theorem g_sv_set {ad : Nat → Nat} {ca : Nat → ClassId} {s : Nat → Int32} {lm : Nat → Int64} {pm : Nat → Nat} {t v : Nat} (ht : t < 4) : (g_ws ad ca (m, s, lm, pm)).set 123 (ad 123, .inl (ca 1, 4, .inr (.inr (.inr (.inr (va_up (fun t => cond (Nat.blt t 4) (some (ad (24 * pm t))) none) t (some (ad (24 * v))))))))) = g_ws ad ca (m, s, lm, updN pm t v) := by
  have e4 : updN pm t v 4 = pm 4 := updN_ne (by omega)
  refine g_ws_set (by omega) (fun i hi hne => ?_) ?_ (by unfold g_wn; show 129 + min 1 (updN pm t v 4) = _; rw [e4])
  · rcases Nat.lt_or_ge i 120 with h | h
    · have e : i = 24 * (i / 24) + i % 24 := by omega
      rw [e, g_ent_c ad ca _ (by omega) (by omega), g_ent_c ad ca _ (by omega) (by omega)]
    · rw [g_ent_o ad ca _ h, g_ent_o ad ca _ h]
      have : i - 120 = 0 ∨ i - 120 = 1 ∨ i - 120 = 2 ∨ i - 120 = 4 ∨ i - 120 = 5 ∨ i - 120 = 6 ∨ i - 120 = 7 ∨ i - 120 = 8 ∨ i - 120 = 9 := by omega
      rcases this with e | e | e | e | e | e | e | e | e <;> rw [e] <;> rfl
  · rw [g_ent_o ad ca _ (by omega)]
    show Sum.inl (ca 1, 4, _) = Sum.inl (ca 1, 4, _)
    congr 7
    funext j
    show cond (Nat.blt j 4) (some (ad (24 * updN pm t v j))) none = va_up _ t (some (ad (24 * v))) j
    by_cases hj : j = t
    · subst hj
      rw [g_blt.mpr ht, updN_eq]
      simp [va_up]
    · rw [updN_ne hj]
      simp [va_up, hj]
theorem r_astS (O : g_ok X cc own ret R) {s : Nat → Int32} {lm : Nat → Int64} {pm : Nat → Nat} {i : Int32} {t v : Nat} (hin : vp_in i 4) (ht : i.toNatClampNeg = t) (hv : v < 5) (hd : decode cc pc = .ok (.aastore, 1)) (kk : g_V X emb r k n m (s, lm, updN pm t v) (pc + 1) lc st) : g_V X emb r k n m (s, lm, pm) pc lc (.ref (g_ad X (24 * v)) :: .int i :: .ref (g_ad X 123) :: st) := by
  intro H locs ls hP hS hh
  have h1 := g_cl hin
  rw [ht] at h1
  obtain ⟨fs, he⟩ := (obj_c (c := v) (j0 := 0) hv (by omega) (ci := 0) (N := 12) rfl).2 (g_ad X) (g_ca X) (m, s, lm, pm)
  refine va_astq O.exec O.code O.K hP (g_D O.inj) hS 123 1 (24 * v) 0 (by rw [g_ws_at _ _ _ (by omega), g_ent_o _ _ _ (by omega)]; rfl) rfl (by rw [g_ws_at _ _ _ (by omega), show 24 * v = 24 * v + 0 by omega, he]) rfl hin hd (fun H1 locs1 hP1 _ hS1 => ?_)
  rw [ht, g_sv_set h1] at hP1
  exact kk H1 locs1 ls hP1 hS1 hh
end GR5
