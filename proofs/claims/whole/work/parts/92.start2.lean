/-! THE CLAIM OUT OF ONE WALK OF THE LAW'S BODY. Your part is whole_start (and what it stands on); all else here is the same for every law, but numbers. -/
def R_law : String := "StarTrackerLaw"
def lw_P (b : Addr) (xs : List Int32) (args : Array Value) (s : State) : Prop := args = #[.ref b] ∧ s.IntsAt b xs ∧ xs.length ≤ 3584 ∧ (Jvm.Cond.and given_1 narrow_1).before args s = true
def lw_Q (_ : Array Value) (s : State) (o : Outcome) (t : State) : Prop := o = .returned (some (.int 1)) ∧ Framed s o t [] 600000 7302250
def lw_Z (below : List Frame) (a : Array Value) (s : State) : State → Prop := fun t => ∃ o, t.status = .running ∧ Ended t below o ∧ lw_Q a s o t
/-- the law's own end, with 1 on the stack, nothing written that was there before, its room as the claim has it -/
theorem lw_ret {p : Program} {l : Launch} {e : Env} {s : State} {m : MethodId} {below : List Frame} {meth : Method} {c : Code} {b : Nat} (hx : p.tables.exec = Jvm.exec) (hb : c.code = code) (hr : meth.sig.returnType = ret) (hlocks : meth.locks = false) {pc : Nat} {H : Heap} {ls : Array Slot} (hdg : decode code pc = .ok (.ireturn, 1)) : W p l e room_1 s m #[Value.ref b] below meth c H [] 600000 7302250 (lw_Z below #[Value.ref b] s) (F0 m pc ls [.int 1]) := by
  intro T hT X
  obtain ⟨fs, hret, hrun, hended, hW, hframe⟩ := X.leave (v := some (.int 1)) (hlocks := hlocks) (fun h => by rw [hr] at h; cases h)
  have hmeth' : T.vm.method? m = some meth := X.method'
  refine ⟨T.setFrames fs, ?_, .returned (some (.int 1)), hrun, hended, rfl, ⟨_, rfl⟩, hW, hframe⟩
  jvm_step X.here [X.here.top, hx, hb, hdg, hmeth', hr, ret, narrow_b1]
  (try refine ⟨rfl, ?_⟩); (try refine ⟨rfl, ?_⟩)
  first | (intro acts; rw [hret _ acts rfl rfl rfl]) | rw [hret _ _ rfl rfl rfl]
  exact Steps.refl _
/-- what holds at the law's entry: the machine, the code, the tables' words (any of lw_tbl by 'hts w (by decide +kernel)'), the script of L ints xs at the cell b, what the Statement gives of the start (any of its parts by flat_of_before) -/
def lw_At (p : Program) (s : State) (m : MethodId) (meth : Method) (c : Code) (b L : Nat) (xs : Nat → Int32) : Prop :=
  p.tables.exec = Jvm.exec ∧ c.code = code ∧ meth.sig.returnType = ret ∧ c.maxLocals = 4 ∧ s.vm.findClass R_law = some m.cls ∧ (∀ w ∈ lw_tbl, w.before #[Value.ref b] s = true) ∧ va_X b L xs s s.heap ∧ b < s.heap.size ∧ meth.locks = false ∧ (Jvm.Cond.and given_1 narrow_1).before #[Value.ref b] s = true
/-! WHAT THE START GIVES -/
theorem lw_hA {s : State} : ∀ a : Nat, a < s.heap.size → ¬ (fun q : Nat => s.heap.size ≤ q) a := fun a h => Nat.not_le.mpr h
set_option maxRecDepth 100000 in
theorem lw_tab_gOrd {s : State} {b : Nat} (hts : ∀ w ∈ lw_tbl, w.before #[Value.ref b] s = true) (hgv : (Jvm.Cond.and given_1 narrow_1).before #[Value.ref b] s = true) : ∃ t : Nat, (Term.static "StarTracker" "ORDERS" "[I").eval #[Value.ref b] s none [] s = some (.ref t) ∧ gTab "StarTracker" "ORDERS" t gOrd (fun q : Nat => s.heap.size ≤ q) s s.heap := by
  have hs := flat_of_before _ hgv
  have harr : (Cond.arrayOf (.static "StarTracker" "ORDERS" "[I") .int).before #[Value.ref b] s = true := hs _ (by decide +kernel)
  have hlen : (Term.length (.static "StarTracker" "ORDERS" "[I")).eval #[Value.ref b] s none [] s = some (.int (Int32.ofNat 18)) := va_eqt (hs (Cond.eq (.length (.static "StarTracker" "ORDERS" "[I")) (.int 18)) (by decide +kernel))
  have hel : ∀ j : Nat, j < 18 → (Term.elem (.static "StarTracker" "ORDERS" "[I") (.int (Int32.ofNat j))).eval #[Value.ref b] s none [] s = some (.int (gOrd.getD j 0)) := by
    intro j hj
    rcases (show j = 0 ∨ j = 1 ∨ j = 2 ∨ j = 3 ∨ j = 4 ∨ j = 5 ∨ j = 6 ∨ j = 7 ∨ j = 8 ∨ j = 9 ∨ j = 10 ∨ j = 11 ∨ j = 12 ∨ j = 13 ∨ j = 14 ∨ j = 15 ∨ j = 16 ∨ j = 17 by omega) with rfl | rfl | rfl | rfl | rfl | rfl | rfl | rfl | rfl | rfl | rfl | rfl | rfl | rfl | rfl | rfl | rfl | rfl
    · exact va_eqt (hs (Cond.eq (.elem (.static "StarTracker" "ORDERS" "[I") (.int 0)) (.int 0)) (by decide +kernel))
    · exact va_eqt (hs (Cond.eq (.elem (.static "StarTracker" "ORDERS" "[I") (.int 1)) (.int 1)) (by decide +kernel))
    · exact va_eqt (hs (Cond.eq (.elem (.static "StarTracker" "ORDERS" "[I") (.int 2)) (.int 2)) (by decide +kernel))
    · exact va_eqt (hs (Cond.eq (.elem (.static "StarTracker" "ORDERS" "[I") (.int 3)) (.int 0)) (by decide +kernel))
    · exact va_eqt (hs (Cond.eq (.elem (.static "StarTracker" "ORDERS" "[I") (.int 4)) (.int 2)) (by decide +kernel))
    · exact va_eqt (hs (Cond.eq (.elem (.static "StarTracker" "ORDERS" "[I") (.int 5)) (.int 1)) (by decide +kernel))
    · exact va_eqt (hs (Cond.eq (.elem (.static "StarTracker" "ORDERS" "[I") (.int 6)) (.int 1)) (by decide +kernel))
    · exact va_eqt (hs (Cond.eq (.elem (.static "StarTracker" "ORDERS" "[I") (.int 7)) (.int 0)) (by decide +kernel))
    · exact va_eqt (hs (Cond.eq (.elem (.static "StarTracker" "ORDERS" "[I") (.int 8)) (.int 2)) (by decide +kernel))
    · exact va_eqt (hs (Cond.eq (.elem (.static "StarTracker" "ORDERS" "[I") (.int 9)) (.int 1)) (by decide +kernel))
    · exact va_eqt (hs (Cond.eq (.elem (.static "StarTracker" "ORDERS" "[I") (.int 10)) (.int 2)) (by decide +kernel))
    · exact va_eqt (hs (Cond.eq (.elem (.static "StarTracker" "ORDERS" "[I") (.int 11)) (.int 0)) (by decide +kernel))
    · exact va_eqt (hs (Cond.eq (.elem (.static "StarTracker" "ORDERS" "[I") (.int 12)) (.int 2)) (by decide +kernel))
    · exact va_eqt (hs (Cond.eq (.elem (.static "StarTracker" "ORDERS" "[I") (.int 13)) (.int 0)) (by decide +kernel))
    · exact va_eqt (hs (Cond.eq (.elem (.static "StarTracker" "ORDERS" "[I") (.int 14)) (.int 1)) (by decide +kernel))
    · exact va_eqt (hs (Cond.eq (.elem (.static "StarTracker" "ORDERS" "[I") (.int 15)) (.int 2)) (by decide +kernel))
    · exact va_eqt (hs (Cond.eq (.elem (.static "StarTracker" "ORDERS" "[I") (.int 16)) (.int 1)) (by decide +kernel))
    · exact va_eqt (hs (Cond.eq (.elem (.static "StarTracker" "ORDERS" "[I") (.int 17)) (.int 0)) (by decide +kernel))
  obtain ⟨t, h1, h2⟩ := va_Tof (N := 18) (f := fun j => .int (gOrd.getD j 0)) (by decide) harr hlen hel lw_hA
  exact ⟨t, h1, va_Zof (hts _ (List.mem_of_getElem? (i := 560) (by decide +kernel))) (hts _ (List.mem_of_getElem? (i := 54) (by decide +kernel))) h1 lw_hA, h2⟩
set_option maxRecDepth 100000 in
theorem lw_tab_gLow {s : State} {b : Nat} (hts : ∀ w ∈ lw_tbl, w.before #[Value.ref b] s = true) (hgv : (Jvm.Cond.and given_1 narrow_1).before #[Value.ref b] s = true) : ∃ t : Nat, (Term.static "StarTracker" "LOWEST_SETTINGS" "[I").eval #[Value.ref b] s none [] s = some (.ref t) ∧ gTab "StarTracker" "LOWEST_SETTINGS" t gLow (fun q : Nat => s.heap.size ≤ q) s s.heap := by
  have hs := flat_of_before _ hgv
  have harr : (Cond.arrayOf (.static "StarTracker" "LOWEST_SETTINGS" "[I") .int).before #[Value.ref b] s = true := hs _ (by decide +kernel)
  have hlen : (Term.length (.static "StarTracker" "LOWEST_SETTINGS" "[I")).eval #[Value.ref b] s none [] s = some (.int (Int32.ofNat 4)) := va_eqt (hs (Cond.eq (.length (.static "StarTracker" "LOWEST_SETTINGS" "[I")) (.int 4)) (by decide +kernel))
  have hel : ∀ j : Nat, j < 4 → (Term.elem (.static "StarTracker" "LOWEST_SETTINGS" "[I") (.int (Int32.ofNat j))).eval #[Value.ref b] s none [] s = some (.int (gLow.getD j 0)) := by
    intro j hj
    rcases (show j = 0 ∨ j = 1 ∨ j = 2 ∨ j = 3 by omega) with rfl | rfl | rfl | rfl
    · exact va_eqt (hs (Cond.eq (.elem (.static "StarTracker" "LOWEST_SETTINGS" "[I") (.int 0)) (.int 1)) (by decide +kernel))
    · exact va_eqt (hs (Cond.eq (.elem (.static "StarTracker" "LOWEST_SETTINGS" "[I") (.int 1)) (.int 0)) (by decide +kernel))
    · exact va_eqt (hs (Cond.eq (.elem (.static "StarTracker" "LOWEST_SETTINGS" "[I") (.int 2)) (.int 1)) (by decide +kernel))
    · exact va_eqt (hs (Cond.eq (.elem (.static "StarTracker" "LOWEST_SETTINGS" "[I") (.int 3)) (.int 0)) (by decide +kernel))
  obtain ⟨t, h1, h2⟩ := va_Tof (N := 4) (f := fun j => .int (gLow.getD j 0)) (by decide) harr hlen hel lw_hA
  exact ⟨t, h1, va_Zof (hts _ (List.mem_of_getElem? (i := 479) (by decide +kernel))) (hts _ (List.mem_of_getElem? (i := 54) (by decide +kernel))) h1 lw_hA, h2⟩
set_option maxRecDepth 100000 in
theorem lw_tab_gHigh {s : State} {b : Nat} (hts : ∀ w ∈ lw_tbl, w.before #[Value.ref b] s = true) (hgv : (Jvm.Cond.and given_1 narrow_1).before #[Value.ref b] s = true) : ∃ t : Nat, (Term.static "StarTracker" "HIGHEST_SETTINGS" "[I").eval #[Value.ref b] s none [] s = some (.ref t) ∧ gTab "StarTracker" "HIGHEST_SETTINGS" t gHigh (fun q : Nat => s.heap.size ≤ q) s s.heap := by
  have hs := flat_of_before _ hgv
  have harr : (Cond.arrayOf (.static "StarTracker" "HIGHEST_SETTINGS" "[I") .int).before #[Value.ref b] s = true := hs _ (by decide +kernel)
  have hlen : (Term.length (.static "StarTracker" "HIGHEST_SETTINGS" "[I")).eval #[Value.ref b] s none [] s = some (.int (Int32.ofNat 4)) := va_eqt (hs (Cond.eq (.length (.static "StarTracker" "HIGHEST_SETTINGS" "[I")) (.int 4)) (by decide +kernel))
  have hel : ∀ j : Nat, j < 4 → (Term.elem (.static "StarTracker" "HIGHEST_SETTINGS" "[I") (.int (Int32.ofNat j))).eval #[Value.ref b] s none [] s = some (.int (gHigh.getD j 0)) := by
    intro j hj
    rcases (show j = 0 ∨ j = 1 ∨ j = 2 ∨ j = 3 by omega) with rfl | rfl | rfl | rfl
    · exact va_eqt (hs (Cond.eq (.elem (.static "StarTracker" "HIGHEST_SETTINGS" "[I") (.int 0)) (.int 9999)) (by decide +kernel))
    · exact va_eqt (hs (Cond.eq (.elem (.static "StarTracker" "HIGHEST_SETTINGS" "[I") (.int 1)) (.int 9999)) (by decide +kernel))
    · exact va_eqt (hs (Cond.eq (.elem (.static "StarTracker" "HIGHEST_SETTINGS" "[I") (.int 2)) (.int 99)) (by decide +kernel))
    · exact va_eqt (hs (Cond.eq (.elem (.static "StarTracker" "HIGHEST_SETTINGS" "[I") (.int 3)) (.int 300)) (by decide +kernel))
  obtain ⟨t, h1, h2⟩ := va_Tof (N := 4) (f := fun j => .int (gHigh.getD j 0)) (by decide) harr hlen hel lw_hA
  exact ⟨t, h1, va_Zof (hts _ (List.mem_of_getElem? (i := 481) (by decide +kernel))) (hts _ (List.mem_of_getElem? (i := 54) (by decide +kernel))) h1 lw_hA, h2⟩
set_option maxRecDepth 100000 in
theorem lw_tab_gFirst {s : State} {b : Nat} (hts : ∀ w ∈ lw_tbl, w.before #[Value.ref b] s = true) (hgv : (Jvm.Cond.and given_1 narrow_1).before #[Value.ref b] s = true) : ∃ t : Nat, (Term.static "StarTracker" "FIRST_SETTINGS" "[I").eval #[Value.ref b] s none [] s = some (.ref t) ∧ gTab "StarTracker" "FIRST_SETTINGS" t gFirst (fun q : Nat => s.heap.size ≤ q) s s.heap := by
  have hs := flat_of_before _ hgv
  have harr : (Cond.arrayOf (.static "StarTracker" "FIRST_SETTINGS" "[I") .int).before #[Value.ref b] s = true := hs _ (by decide +kernel)
  have hlen : (Term.length (.static "StarTracker" "FIRST_SETTINGS" "[I")).eval #[Value.ref b] s none [] s = some (.int (Int32.ofNat 4)) := va_eqt (hs (Cond.eq (.length (.static "StarTracker" "FIRST_SETTINGS" "[I")) (.int 4)) (by decide +kernel))
  have hel : ∀ j : Nat, j < 4 → (Term.elem (.static "StarTracker" "FIRST_SETTINGS" "[I") (.int (Int32.ofNat j))).eval #[Value.ref b] s none [] s = some (.int (gFirst.getD j 0)) := by
    intro j hj
    rcases (show j = 0 ∨ j = 1 ∨ j = 2 ∨ j = 3 by omega) with rfl | rfl | rfl | rfl
    · exact va_eqt (hs (Cond.eq (.elem (.static "StarTracker" "FIRST_SETTINGS" "[I") (.int 0)) (.int 400)) (by decide +kernel))
    · exact va_eqt (hs (Cond.eq (.elem (.static "StarTracker" "FIRST_SETTINGS" "[I") (.int 1)) (.int 200)) (by decide +kernel))
    · exact va_eqt (hs (Cond.eq (.elem (.static "StarTracker" "FIRST_SETTINGS" "[I") (.int 2)) (.int 1)) (by decide +kernel))
    · exact va_eqt (hs (Cond.eq (.elem (.static "StarTracker" "FIRST_SETTINGS" "[I") (.int 3)) (.int 20)) (by decide +kernel))
  obtain ⟨t, h1, h2⟩ := va_Tof (N := 4) (f := fun j => .int (gFirst.getD j 0)) (by decide) harr hlen hel lw_hA
  exact ⟨t, h1, va_Zof (hts _ (List.mem_of_getElem? (i := 106) (by decide +kernel))) (hts _ (List.mem_of_getElem? (i := 54) (by decide +kernel))) h1 lw_hA, h2⟩
theorem lw_size {args : Array Value} {s : State} {t : Term} {b : Nat} {n : Nat} (hn : n < 2 ^ 31) (hv : (Term.length t).eval args s none [] s = some (.int (Int32.ofNat n))) (ht : t.eval args s none [] s = some (.ref b)) : ∃ cell : Cell, s.heap[b]? = some cell ∧ cell.slots.size = n := by
  obtain ⟨a, cell, h1, h2, h3⟩ := Term.length_spec hv
  cases ht.symm.trans h1
  have hsz : cell.slots.size < 2 ^ 31 := by
    simp only [Term.eval, ht, h2, Option.bind_eq_bind, Option.bind_some] at hv
    by_cases hlt : cell.slots.size < 2147483648
    · exact hlt
    · simp [hlt] at hv
  refine ⟨cell, (State.arrayAt?_spec h2).1, ?_⟩
  have e : nI n = nI cell.slots.size := Value.int.inj h3
  have := congrArg Int32.toNatClampNeg e
  rw [nI_clamp hn, nI_clamp hsz] at this
  exact this.symm
theorem lw_arr {s : State} {cA : ClassId} {k : Class} {comp : ClassId} {ty : FieldType} (h2 : s.vm.classes[cA]? = some k) (h3 : k.kind = .array comp ty) : ArrOfT s cA ty := fun n z => ⟨fun k h => (by cases h), k, h2, comp, h3⟩
/-- the array classes -/
theorem lw_ca {s : State} {b : Nat} (hts : ∀ w ∈ lw_tbl, w.before #[Value.ref b] s = true) : ∃ ca : Nat → Nat, gMk ca s ∧ ∀ (k : Nat) (q : ClassId × FieldType), (gT ca)[k]? = some q → ArrOfT s q.1 q.2 ∧ va_RA s q.1 q.2 := by
  have w0 : (Cond.arrayClass .int).before #[Value.ref b] s = true := hts _ (List.mem_of_getElem? (i := 104) (by decide +kernel))
  have w1 : (Cond.arrayClass .long).before #[Value.ref b] s = true := hts _ (List.mem_of_getElem? (i := 205) (by decide +kernel))
  have w2 : (Cond.arrayClass .boolean).before #[Value.ref b] s = true := hts _ (List.mem_of_getElem? (i := 934) (by decide +kernel))
  have w3 : (Cond.arrayOver (.object "StarTracker$Sheet")).before #[Value.ref b] s = true := hts _ (List.mem_of_getElem? (i := 321) (by decide +kernel))
  have w4 : (Cond.arrayOver (.object "StarTracker$Tray")).before #[Value.ref b] s = true := hts _ (List.mem_of_getElem? (i := 319) (by decide +kernel))
  have w5 : (Cond.arrayOver (.array .int)).before #[Value.ref b] s = true := hts _ (List.mem_of_getElem? (i := 169) (by decide +kernel))
  have w6 : (Cond.castable "[I" "java/lang/Cloneable").before #[Value.ref b] s = true := hts _ (List.mem_of_getElem? (i := 112) (by decide +kernel))
  obtain ⟨c0, k0, p0, f0, g0, e0⟩ := Cond.arrayClass_spec w0
  obtain ⟨c1, k1, p1, f1, g1, e1⟩ := Cond.arrayClass_spec w1
  obtain ⟨c2, k2, p2, f2, g2, e2⟩ := Cond.arrayClass_spec w2
  obtain ⟨p3, c3, k3, q3, -, g3, e3, f3⟩ := Cond.arrayOver_spec w3
  obtain ⟨p4, c4', k4, q4, -, g4, e4, f4⟩ := Cond.arrayOver_spec w4
  obtain ⟨p5, c5, k5, q5, -, g5, e5, f5⟩ := arrayOverA_spec w5
  have r0 : va_RA s c0 .int := f0
  have r1 : va_RA s c1 .long := f1
  have r2 : va_RA s c2 .boolean := f2
  have r3 : va_RA s c3 (.object "StarTracker$Sheet") := ⟨k3, p3, g3, e3, q3, f3⟩
  have r4 : va_RA s c4' (.object "StarTracker$Tray") := ⟨k4, p4, g4, e4, q4, f4⟩
  have r5 : va_RA s c5 (.array .int) := f5
  have n5 : "[" ++ (FieldType.array .int).toString = "[[I" := by decide +kernel
  rw [n5] at f5
  refine ⟨fun k => [c0, c1, c2, c3, c4', c5].getD k 0, ⟨⟨va_nm_int r0, va_nm_long r1, va_nm_boolean r2, va_nmO r3 (by decide +kernel), va_nmO r4 (by decide +kernel), f5⟩, w3, w4, w5, va_Nw.of rfl w6⟩, ?_⟩
  intro k q hk
  match k, hk with
  | 0, hk => cases hk; exact ⟨lw_arr g0 e0, r0⟩
  | 1, hk => cases hk; exact ⟨lw_arr g1 e1, r1⟩
  | 2, hk => cases hk; exact ⟨lw_arr g2 e2, r2⟩
  | 3, hk => cases hk; exact ⟨lw_arr g3 e3, r3⟩
  | 4, hk => cases hk; exact ⟨lw_arr g4 e4, r4⟩
  | 5, hk => cases hk; exact ⟨lw_arr g5 e5, r5⟩
  | k + 6, hk => simp [gT] at hk
theorem lw_K {s : State} {b : Nat} (hts : ∀ w ∈ gTG, w.before #[Value.ref b] s = true) : ∃ D : va_G, ∀ (k : Nat) (q : vw_C), vwCl[k]? = some q → u_Kn s q.1 q.2.1 q.2.2 (D.1 k) (D.2 k) := by
  obtain ⟨c0, i0, h0⟩ := u_known (C := RX0) (T := TX0) (N := 1) (n := 1) hts inX0 (hts _ w_196)
  obtain ⟨c1, i1, h1⟩ := u_known (C := RX1) (T := TX1) (N := 3) (n := 3) hts inX1 (hts _ w_86)
  obtain ⟨c2, i2, h2⟩ := u_known (C := RX2) (T := TX2) (N := 12) (n := 12) hts inX2 (hts _ w_190)
  obtain ⟨c3, i3, h3⟩ := u_known (C := RX3) (T := TX3) (N := 6) (n := 6) hts inX3 (hts _ w_115)
  obtain ⟨c4, i4, h4⟩ := u_known (C := RX4) (T := TX4) (N := 3) (n := 3) hts inX4 (hts _ w_141)
  obtain ⟨c5, i5, h5⟩ := u_known (C := RX5) (T := TX5) (N := 3) (n := 3) hts inX5 (hts _ w_341)
  obtain ⟨c6, i6, h6⟩ := u_known (C := RX6) (T := TX6) (N := 18) (n := 18) hts inX6 (hts _ w_80)
  obtain ⟨c7, i7, h7⟩ := u_known (C := RX7) (T := TX7) (N := 2) (n := 2) hts inX7 (hts _ w_175)
  obtain ⟨c8, i8, h8⟩ := u_known (C := RX8) (T := TX8) (N := 1) (n := 1) hts inX8 (hts _ w_163)
  obtain ⟨c9, i9, h9⟩ := u_known (C := RX10) (T := TX10) (N := 4) (n := 4) hts inX10 (hts _ w_322)
  obtain ⟨c10, i10, h10⟩ := u_known (C := RX11) (T := TX11) (N := 4) (n := 4) hts inX11 (hts _ w_72)
  obtain ⟨c11, i11, h11⟩ := u_known (C := RX12) (T := TX12) (N := 28) (n := 28) hts inX12 (hts _ w_844)
  refine ⟨(fun k => [c0, c1, c2, c3, c4, c5, c6, c7, c8, c9, c10, c11].getD k 0, fun k => [i0, i1, i2, i3, i4, i5, i6, i7, i8, i9, i10, i11].getD k (fun _ => 0)), ?_⟩
  intro k q hk
  match k, hk with
  | 0, hk => cases hk; exact h0
  | 1, hk => cases hk; exact h1
  | 2, hk => cases hk; exact h2
  | 3, hk => cases hk; exact h3
  | 4, hk => cases hk; exact h4
  | 5, hk => cases hk; exact h5
  | 6, hk => cases hk; exact h6
  | 7, hk => cases hk; exact h7
  | 8, hk => cases hk; exact h8
  | 9, hk => cases hk; exact h9
  | 10, hk => cases hk; exact h10
  | 11, hk => cases hk; exact h11
  | k + 12, hk => simp [vwCl] at hk
theorem lw_nest {s : State} {b : Nat} (hts : ∀ w ∈ lw_tbl, w.before #[Value.ref b] s = true) : gNest s := by
  intro w hw
  have h1 := (List.mem_filter.mp hw).1
  have h2 := (List.mem_filter.mp hw).2
  refine va_Nw.of ?_ (hts w h1)
  cases w <;> first | rfl | (simp [gIsNest] at h2)
/-- all that a method may take for granted, at the law's entry -/
theorem lw_ctx {p : Program} {s : State} {m : MethodId} {meth : Method} {c : Code} {b L : Nat} {xs : Nat → Int32} (C0 : lw_At p s m meth c b L xs) : ∃ (D : va_G) (ca ss : Nat → Nat), kX p s m #[Value.ref b] meth c (fun q : Nat => s.heap.size ≤ q) D ca ss 4 "StarTrackerLaw" cL_law ret := by
  obtain ⟨hx, hb, hr, hml, hown, hts, hX, hbl, hlocks, hgv⟩ := C0
  have hts2 : ∀ w ∈ gTG, w.before #[Value.ref b] s = true := fun w hw => hts w (List.mem_filter.mp hw).1
  obtain ⟨D, hD⟩ := lw_K hts2
  obtain ⟨ca, hMk, hAr⟩ := lw_ca hts
  obtain ⟨t0, -, T0⟩ := lw_tab_gOrd hts hgv
  obtain ⟨t1, -, T1⟩ := lw_tab_gLow hts hgv
  obtain ⟨t2, -, T2⟩ := lw_tab_gHigh hts hgv
  obtain ⟨t3, e3, T3⟩ := lw_tab_gFirst hts hgv
  refine ⟨D, ca, fun k => [t0, t1, t2, t3].getD k 0, ⟨hx, hb, hml, hown, hts2, ⟨⟨hD, hAr⟩, lw_nest hts, T0, T1, T2, T3⟩, hlocks, hr, fun q h => h⟩, hMk, ?_⟩
  have hs := flat_of_before _ hgv
  have hlen : (Term.length (.static "StarTracker" "FIRST_SETTINGS" "[I")).eval #[Value.ref b] s none [] s = some (.int (Int32.ofNat 4)) := va_eqt (hs (Cond.eq (.length (.static "StarTracker" "FIRST_SETTINGS" "[I")) (.int 4)) (by decide +kernel))
  obtain ⟨cell, g1, g2⟩ := lw_size (by decide) hlen e3
  obtain ⟨cell2, o1, o2, o3, o4⟩ := va_Oof (A := fun q : Nat => s.heap.size ≤ q) (hs (Cond.exactly (.static "StarTracker" "FIRST_SETTINGS" "[I") "[I") (by decide +kernel)) e3 lw_hA
  obtain ⟨cell3, q1, q2, q3, q4, q5, q6, q7⟩ := T3.2
  cases g1.symm.trans o1
  cases g1.symm.trans q1
  refine ⟨cell, g1, ?_, q3, q2.1, ?_, q7⟩
  · exact Option.some.inj (o3.symm.trans hMk.1.1)
  · apply Array.ext_getElem?
    intro j
    by_cases hj : j < 4
    · rw [q6 j hj]
      rcases (show j = 0 ∨ j = 1 ∨ j = 2 ∨ j = 3 by omega) with rfl | rfl | rfl | rfl <;> rfl
    · rw [Array.getElem?_eq_none (by omega), Array.getElem?_eq_none (by show 4 ≤ j; omega)]
