theorem w_71 : Cond.classLink "StarTrackerLaw" 7 RX11 ∈ gTG := gm 71 (by decide +kernel) (by decide +kernel)
theorem w_72 : Cond.instantiable RX11 4 ∈ gTG := gm 72 (by decide +kernel) (by decide +kernel)
theorem w_79 : Cond.classLink RX11 9 RX6 ∈ gTG := gm 79 (by decide +kernel) (by decide +kernel)
theorem w_80 : Cond.instantiable RX6 18 ∈ gTG := gm 80 (by decide +kernel) (by decide +kernel)
theorem w_85 : Cond.classLink RX6 9 RX1 ∈ gTG := gm 85 (by decide +kernel) (by decide +kernel)
theorem w_86 : Cond.instantiable RX1 3 ∈ gTG := gm 86 (by decide +kernel) (by decide +kernel)
theorem w_104 : Cond.arrayClass .int ∈ gTG := gm 104 (by decide +kernel) (by decide +kernel)
theorem w_113 : Cond.classLink RX6 28 "[I" ∈ gTG := gm 113 (by decide +kernel) (by decide +kernel)
theorem w_114 : Cond.classLink RX6 35 RX3 ∈ gTG := gm 114 (by decide +kernel) (by decide +kernel)
theorem w_115 : Cond.instantiable RX3 6 ∈ gTG := gm 115 (by decide +kernel) (by decide +kernel)
theorem w_140 : Cond.classLink RX6 42 RX4 ∈ gTG := gm 140 (by decide +kernel) (by decide +kernel)
theorem w_141 : Cond.instantiable RX4 3 ∈ gTG := gm 141 (by decide +kernel) (by decide +kernel)
theorem w_162 : Cond.classLink RX6 49 RX8 ∈ gTG := gm 162 (by decide +kernel) (by decide +kernel)
theorem w_163 : Cond.instantiable RX8 1 ∈ gTG := gm 163 (by decide +kernel) (by decide +kernel)
theorem w_168 : Cond.classLink RX8 9 "[[I" ∈ gTG := gm 168 (by decide +kernel) (by decide +kernel)
theorem w_174 : Cond.classLink RX6 56 RX7 ∈ gTG := gm 174 (by decide +kernel) (by decide +kernel)
theorem w_175 : Cond.instantiable RX7 2 ∈ gTG := gm 175 (by decide +kernel) (by decide +kernel)
theorem w_180 : Cond.classLink RX7 9 "[[I" ∈ gTG := gm 180 (by decide +kernel) (by decide +kernel)
theorem w_189 : Cond.classLink RX6 63 RX2 ∈ gTG := gm 189 (by decide +kernel) (by decide +kernel)
theorem w_190 : Cond.instantiable RX2 12 ∈ gTG := gm 190 (by decide +kernel) (by decide +kernel)
theorem w_195 : Cond.classLink RX2 30 RX0 ∈ gTG := gm 195 (by decide +kernel) (by decide +kernel)
theorem w_196 : Cond.instantiable RX0 1 ∈ gTG := gm 196 (by decide +kernel) (by decide +kernel)
theorem w_205 : Cond.arrayClass .long ∈ gTG := gm 205 (by decide +kernel) (by decide +kernel)
theorem w_318 : Cond.classLink RX11 16 RX10 ∈ gTG := gm 318 (by decide +kernel) (by decide +kernel)
theorem w_320 : Cond.classLink RX11 22 RX5 ∈ gTG := gm 320 (by decide +kernel) (by decide +kernel)
theorem w_322 : Cond.instantiable RX10 4 ∈ gTG := gm 322 (by decide +kernel) (by decide +kernel)
theorem w_341 : Cond.instantiable RX5 3 ∈ gTG := gm 341 (by decide +kernel) (by decide +kernel)
theorem w_843 : Cond.classLink "StarTrackerLaw" 10 RX12 ∈ gTG := gm 843 (by decide +kernel) (by decide +kernel)
theorem w_844 : Cond.instantiable RX12 28 ∈ gTG := gm 844 (by decide +kernel) (by decide +kernel)
theorem w_934 : Cond.arrayClass .boolean ∈ gTG := gm 934 (by decide +kernel) (by decide +kernel)
/-! MAKING: a world that grows, as a list -/
def gAOI (U : State) : Prop := (Cond.arrayOver (.array .int)).before #[] U = true
/-- what making needs of the state: the array classes, and what they are made over -/
def gMk (ca : Nat → Nat) (U : State) : Prop := (U.vm.findClass "[I" = some (ca 0) ∧ U.vm.findClass "[J" = some (ca 1) ∧ U.vm.findClass "[Z" = some (ca 2) ∧ U.vm.findClass "[LStarTracker$Sheet;" = some (ca 3) ∧ U.vm.findClass "[LStarTracker$Tray;" = some (ca 4) ∧ U.vm.findClass "[[I" = some (ca 5)) ∧ va_AO "StarTracker$Sheet" U ∧ va_AO "StarTracker$Tray" U ∧ gAOI U ∧ va_Nw (.castable "[I" "java/lang/Cloneable") U
theorem gMk.warm {ca : Nat → Nat} {s U : State} (hW : s.WarmedH U.vm) (h : gMk ca s) : gMk ca U := by
  obtain ⟨⟨h0, h1, h2, h3, h4, h5⟩, h6, h7, h8, h9⟩ := h
  exact ⟨⟨by rw [hW.alike.findClass]; exact h0, by rw [hW.alike.findClass]; exact h1, by rw [hW.alike.findClass]; exact h2, by rw [hW.alike.findClass]; exact h3, by rw [hW.alike.findClass]; exact h4, by rw [hW.alike.findClass]; exact h5⟩, va_AO.moved hW.alike h6, va_AO.moved hW.alike h7, over_moved (a := #[]) (a' := #[]) hW.alike h8, va_Nw.warmC hW h9⟩
theorem gMk.same {ca : Nat → Nat} {u U : State} (h : u.vm = U.vm) (hZ : gMk ca u) : gMk ca U := by
  have hal : u.vm.Alike U.vm := h ▸ Vm.Alike.refl u.vm
  obtain ⟨⟨h0, h1, h2, h3, h4, h5⟩, h6, h7, h8, h9⟩ := hZ
  exact ⟨⟨h ▸ h0, h ▸ h1, h ▸ h2, h ▸ h3, h ▸ h4, h ▸ h5⟩, va_AO.moved hal h6, va_AO.moved hal h7, over_moved (a := #[]) (a' := #[]) hal h8, va_Nw.same rfl h h9⟩
/-- the first settings, as they lie -/
def gFs (ca ss : Nat → Nat) (A : Nat → Prop) (H : Heap) : Prop := ∃ cell : Cell, H[ss 3]? = some cell ∧ cell.cls = ca 0 ∧ cell.vm ≠ .unknown ∧ (∀ k, cell.vm ≠ .statics k) ∧ cell.slots = #[.int 400, .int 200, .int 1, .int 20] ∧ ¬ A (ss 3)
theorem gFs.go {ca ss : Nat → Nat} {A B : Nat → Prop} {H H1 : Heap} (h : gFs ca ss A H) (hAB : ∀ q, B q → A q) (hq : ∀ a : Nat, a < H.size → ¬ A a → H1[a]? = H[a]?) : gFs ca ss B H1 := by
  obtain ⟨cell, h1, h2, h3, h4, h5, h6⟩ := h
  exact ⟨cell, by rw [hq _ (Array.getElem?_eq_some_iff.mp h1).1 h6]; exact h1, h2, h3, h4, h5, fun q => h6 (hAB _ q)⟩
def kPre (D : va_G) (ca ss : Nat → Nat) (w : va_W) (sz : Nat) (U : State) : Prop := U.heap.size = sz ∧ va_P D vwCl w U.heap ∧ va_D (fun _ => True) w ∧ gK D ca ss (va_A w sz) U ∧ gMk ca U ∧ gFs ca ss (va_A w sz) U.heap
theorem kPre_blind {D : va_G} {ca ss : Nat → Nat} {w : va_W} {sz : Nat} (av : List Value) : FrameBlind (va_Pc av (kPre D ca ss w sz)) := by
  intro a U g mk q
  obtain ⟨q0, q1, qP, qD, ⟨qK, qN, qS⟩, qM, qF⟩ := q
  exact ⟨q0, q1, qP, qD, ⟨va_K.moved (u := U) (U := U.calling g mk a) (Vm.Alike.refl U.vm) qK, gNest.same (u := U) (U := U.calling g mk a) rfl qN, gSt.go (u := U) (U := U.calling g mk a) qS (Vm.Alike.refl U.vm) (fun _ h => h) (fun _ _ _ => rfl)⟩, gMk.same (u := U) (U := U.calling g mk a) rfl qM, qF⟩
def kRm (d mc ms : Nat) : Room := { frames := d, cells := mc, slots := ms, locals := 45 * d }
section KJ
variable (p : Program) (l : Launch) (e : Env) (R : Room) (s : State) (m : MethodId) (args : Array Value) (below : List Frame) (meth : Method) (c : Code) (A : Nat → Prop) (Q : State → Prop) (D : va_G) (ca ss : Nat → Nat) (n : Nat)
def kJ (ws : va_W) (cells slots : Nat) (lv : List (Nat × Value)) (pc : Nat) (st : List Value) : Prop :=
  ∀ (H : Heap) (locs : List Loc) (ls : Array Slot), va_P D vwCl ws H → va_D A ws → va_S A s.heap H locs → lv_has ls n lv → W p l e R s m args below meth c H locs cells slots Q (F0 m pc ls st)
def kX (own : String) (cc : ByteArray) (ret : Option FieldType) : Prop := gX p s m args meth c A D ca ss n own cc ret ∧ gMk ca s ∧ gFs ca ss A s.heap
end KJ
/-- a making: the object at h0 becomes, with M - 1 new cells, what F says, at addresses a -/
def kMv (l : Launch) (D : va_G) (ca ss : Nat → Nat) (y : MethodName) (cc : ByteArray) (n d mc ms h0 : Nat) (e0 : va_E) (av : List Value) (M : Nat) (F : (Nat → Nat) → Nat → va_E) : Prop := ∀ sz : Nat, Met l y (wsM y cc n none) (kRm d mc ms) (va_Pc (.ref h0 :: av) (kPre D ca ss [(h0, e0)] sz)) (va_Qv (fun a : Nat → Nat => a 0 = h0) (fun a t => va_P D vwCl (gWn a M (F a)) t.heap ∧ va_D (va_A [(h0, e0)] sz) (gWn a M (F a))) (va_A [(h0, e0)] sz)) mc ms (va_A [(h0, e0)] sz)
theorem kMv_of {l : Launch} {D : va_G} {ca ss : Nat → Nat} {y : MethodName} {cc : ByteArray} {n d mc ms h0 : Nat} {e0 : va_E} {av : List Value} {M : Nat} {F : (Nat → Nat) → Nat → va_E} {lv0 : List (Nat × Value)} (hy : plainName y.cls = true) (hyn : y.name = "<init>") (hn : (lg_sl (.ref h0 :: av)).length ≤ n) (hlv : lv_args 0 (.ref h0 :: av) = lv0)
    (h : ∀ (p : Program) (e : Env) (s : State) (m : MethodId) (args : Array Value) (below : List Frame) (meth : Method) (c : Code) (A : Nat → Prop) (Q : State → Prop), kX p s m args meth c A D ca ss n y.cls cc none → meth.name = "<init>" → (∀ (a : Nat → Nat) (ws : va_W) (lv : List (Nat × Value)) (pc : Nat), ws = gWn a M (F a) → a 0 = h0 → decode cc pc = .ok (.return_, 1) → kJ p l e (kRm d mc ms) s m args below meth c A Q D n ws mc ms lv pc []) → kJ p l e (kRm d mc ms) s m args below meth c A Q D n [(h0, e0)] 0 0 lv0 0 []) : kMv l D ca ss y cc n d mc ms h0 e0 av M F := by
  intro sz
  refine Met.ofW (cc := cc) (maxL := n) (ret := none) hy rfl ?_
  intro p e s m args below meth c s₁ B hml hv
  obtain ⟨rfl, hsz, hP, hD0, hK, hMk, hFs⟩ := hv
  have hts : ∀ w ∈ gTG, w.before (.ref h0 :: av).toArray s = true := fun w hw => atoms_spec (ws := wsM y cc n none) B.pre w (List.mem_cons_of_mem _ hw)
  have hown : s.vm.findClass y.cls = some m.cls := findClass_of_methodNamed B.named
  have hin : meth.name = "<init>" := ((name_of_methodNamed B.named B.method).1).trans hyn
  have hx := B.exec
  have hb := B.bytes
  have hr := B.returns
  have hlk := B.notSynchronized
  subst hsz
  rw [lg_entry_eq]
  refine h p e s m _ below meth c (va_A [(h0, e0)] s.heap.size) _ ⟨⟨hx, hb, hml, hown, hts, hK, hlk, hr, fun q hq => Or.inr hq⟩, hMk, hFs⟩ hin ?_ _ _ _ hP (hD0.self (sz := s.heap.size)) va_S.rf (hlv ▸ lv_entry (.ref h0 :: av) hn)
  intro a ws lv pc hw ha hd H locs ls hP1 hD1 hS1 hl1
  subst hw
  exact W.vret hx hb hr (fun t ht hW => ⟨⟨a, rfl, ha, by rw [ht]; exact hP1, hD1⟩, hS1.F ht⟩) hS1.2.2 hd
section KR
variable {p : Program} {l : Launch} {e : Env} {R : Room} {s : State} {m : MethodId} {args : Array Value} {below : List Frame} {meth : Method} {c : Code} {A : Nat → Prop} {Q : State → Prop} {D : va_G} {ca ss : Nat → Nat} {n : Nat} {own : String} {cc : ByteArray} {ret : Option FieldType} {ws ws' : va_W} {cells slots : Nat} {lv lv' : List (Nat × Value)} {pc : Nat} {rest : List Value}
theorem kj_iconst (C : kX p s m args meth c A D ca ss n own cc ret) {z : Int} {v : Int32} (hv : Int32.ofInt z = v) (hd : decode cc pc = .ok (.iconst z, 1)) (k : kJ p l e R s m args below meth c A Q D n ws cells slots lv (pc + 1) (.int v :: rest)) : kJ p l e R s m args below meth c A Q D n ws cells slots lv pc (rest) := by
  intro H locs ls hP hD hS hl
  obtain ⟨⟨hx, hb, hml, hown, hts, ⟨hK, hN, hSt⟩, hlk, hr, hA⟩, hMk, hFs⟩ := C
  exact lv_iconst hx hb hd hv (k H locs ls hP hD hS hl)
theorem kj_bipush (C : kX p s m args meth c A D ca ss n own cc ret) {z : Int} {v : Int32} (hv : (Int8.ofInt z).toInt32 = v) (hd : decode cc pc = .ok (.bipush z, 2)) (k : kJ p l e R s m args below meth c A Q D n ws cells slots lv (pc + 2) (.int v :: rest)) : kJ p l e R s m args below meth c A Q D n ws cells slots lv pc (rest) := by
  intro H locs ls hP hD hS hl
  obtain ⟨⟨hx, hb, hml, hown, hts, ⟨hK, hN, hSt⟩, hlk, hr, hA⟩, hMk, hFs⟩ := C
  exact lv_bipush hx hb hd hv (k H locs ls hP hD hS hl)
theorem kj_sipush (C : kX p s m args meth c A D ca ss n own cc ret) {z : Int} {v : Int32} (hv : (Int16.ofInt z).toInt32 = v) (hd : decode cc pc = .ok (.sipush z, 3)) (k : kJ p l e R s m args below meth c A Q D n ws cells slots lv (pc + 3) (.int v :: rest)) : kJ p l e R s m args below meth c A Q D n ws cells slots lv pc (rest) := by
  intro H locs ls hP hD hS hl
  obtain ⟨⟨hx, hb, hml, hown, hts, ⟨hK, hN, hSt⟩, hlk, hr, hA⟩, hMk, hFs⟩ := C
  exact lv_sipush hx hb hd hv (k H locs ls hP hD hS hl)
theorem kj_dup (C : kX p s m args meth c A D ca ss n own cc ret) {va : Value} (hva : va.category = 1) (hd : decode cc pc = .ok (.dup, 1)) (k : kJ p l e R s m args below meth c A Q D n ws cells slots lv (pc + 1) (va :: va :: rest)) : kJ p l e R s m args below meth c A Q D n ws cells slots lv pc (va :: rest) := by
  intro H locs ls hP hD hS hl
  obtain ⟨⟨hx, hb, hml, hown, hts, ⟨hK, hN, hSt⟩, hlk, hr, hA⟩, hMk, hFs⟩ := C
  exact lv_dup hx hb hd hva (k H locs ls hP hD hS hl)
theorem kj_imul (C : kX p s m args meth c A D ca ss n own cc ret) {x y : Int32} (hd : decode cc pc = .ok (.imul, 1)) (k : kJ p l e R s m args below meth c A Q D n ws cells slots lv (pc + 1) (.int (x * y) :: rest)) : kJ p l e R s m args below meth c A Q D n ws cells slots lv pc (.int y :: .int x :: rest) := by
  intro H locs ls hP hD hS hl
  obtain ⟨⟨hx, hb, hml, hown, hts, ⟨hK, hN, hSt⟩, hlk, hr, hA⟩, hMk, hFs⟩ := C
  exact lv_imul hx hb hd  (k H locs ls hP hD hS hl)
theorem kj_iadd (C : kX p s m args meth c A D ca ss n own cc ret) {x y : Int32} (hd : decode cc pc = .ok (.iadd, 1)) (k : kJ p l e R s m args below meth c A Q D n ws cells slots lv (pc + 1) (.int (x + y) :: rest)) : kJ p l e R s m args below meth c A Q D n ws cells slots lv pc (.int y :: .int x :: rest) := by
  intro H locs ls hP hD hS hl
  obtain ⟨⟨hx, hb, hml, hown, hts, ⟨hK, hN, hSt⟩, hlk, hr, hA⟩, hMk, hFs⟩ := C
  exact lv_iadd hx hb hd  (k H locs ls hP hD hS hl)
theorem kj_isub (C : kX p s m args meth c A D ca ss n own cc ret) {x y : Int32} (hd : decode cc pc = .ok (.isub, 1)) (k : kJ p l e R s m args below meth c A Q D n ws cells slots lv (pc + 1) (.int (x - y) :: rest)) : kJ p l e R s m args below meth c A Q D n ws cells slots lv pc (.int y :: .int x :: rest) := by
  intro H locs ls hP hD hS hl
  obtain ⟨⟨hx, hb, hml, hown, hts, ⟨hK, hN, hSt⟩, hlk, hr, hA⟩, hMk, hFs⟩ := C
  exact lv_isub hx hb hd  (k H locs ls hP hD hS hl)
theorem kj_iand (C : kX p s m args meth c A D ca ss n own cc ret) {x y : Int32} (hd : decode cc pc = .ok (.iand, 1)) (k : kJ p l e R s m args below meth c A Q D n ws cells slots lv (pc + 1) (.int (x &&& y) :: rest)) : kJ p l e R s m args below meth c A Q D n ws cells slots lv pc (.int y :: .int x :: rest) := by
  intro H locs ls hP hD hS hl
  obtain ⟨⟨hx, hb, hml, hown, hts, ⟨hK, hN, hSt⟩, hlk, hr, hA⟩, hMk, hFs⟩ := C
  exact lv_iand hx hb hd  (k H locs ls hP hD hS hl)
theorem kj_iload_n (C : kX p s m args meth c A D ca ss n own cc ret) {k : Fin 4} {x : Int32} (i : Nat) (hd : decode cc pc = .ok (.iload_n k, 1)) (hi : (k : Nat) = i) (q : Nat) (hq : lv[q]? = some (i, .int x)) (kk : kJ p l e R s m args below meth c A Q D n ws cells slots lv (pc + 1) (.int x :: rest)) : kJ p l e R s m args below meth c A Q D n ws cells slots lv pc rest := by
  intro H locs ls hP hD hS hl
  obtain ⟨⟨hx, hb, hml, hown, hts, ⟨hK, hN, hSt⟩, hlk, hr, hA⟩, hMk, hFs⟩ := C
  exact lv_iload_n hx hb hd hi (lv_at hl q hq) (kk H locs ls hP hD hS hl)
theorem kj_istore_n (C : kX p s m args meth c A D ca ss n own cc ret) {k : Fin 4} {x : Int32} (i : Nat) (hd : decode cc pc = .ok (.istore_n k, 1)) (hi : (k : Nat) = i) (hn : i < n) (hl' : (i, Value.int x) :: lv.filter (fun q => !(q.1 == i) && !(q.1 + 1 == i && q.2.category == 2)) = lv') (kk : kJ p l e R s m args below meth c A Q D n ws cells slots lv' (pc + 1) rest) : kJ p l e R s m args below meth c A Q D n ws cells slots lv pc (.int x :: rest) := by
  intro H locs ls hP hD hS hl
  obtain ⟨⟨hx, hb, hml, hown, hts, ⟨hK, hN, hSt⟩, hlk, hr, hA⟩, hMk, hFs⟩ := C
  exact lv_istore_n hx hb hd hi hl hn hl' (fun ls' hl2 => kk H locs ls' hP hD hS hl2)
theorem kj_aload_n (C : kX p s m args meth c A D ca ss n own cc ret) {k : Fin 4} {x : Nat} (i : Nat) (hd : decode cc pc = .ok (.aload_n k, 1)) (hi : (k : Nat) = i) (q : Nat) (hq : lv[q]? = some (i, .ref x)) (kk : kJ p l e R s m args below meth c A Q D n ws cells slots lv (pc + 1) (.ref x :: rest)) : kJ p l e R s m args below meth c A Q D n ws cells slots lv pc rest := by
  intro H locs ls hP hD hS hl
  obtain ⟨⟨hx, hb, hml, hown, hts, ⟨hK, hN, hSt⟩, hlk, hr, hA⟩, hMk, hFs⟩ := C
  exact lv_aload_n hx hb hd hi (lv_at hl q hq) (kk H locs ls hP hD hS hl)
theorem kj_astore_n (C : kX p s m args meth c A D ca ss n own cc ret) {k : Fin 4} {x : Nat} (i : Nat) (hd : decode cc pc = .ok (.astore_n k, 1)) (hi : (k : Nat) = i) (hn : i < n) (hl' : (i, Value.ref x) :: lv.filter (fun q => !(q.1 == i) && !(q.1 + 1 == i && q.2.category == 2)) = lv') (kk : kJ p l e R s m args below meth c A Q D n ws cells slots lv' (pc + 1) rest) : kJ p l e R s m args below meth c A Q D n ws cells slots lv pc (.ref x :: rest) := by
  intro H locs ls hP hD hS hl
  obtain ⟨⟨hx, hb, hml, hown, hts, ⟨hK, hN, hSt⟩, hlk, hr, hA⟩, hMk, hFs⟩ := C
  exact lv_astore_n hx hb hd hi hl hn hl' (fun ls' hl2 => kk H locs ls' hP hD hS hl2)
theorem kj_iinc (C : kX p s m args meth c A D ca ss n own cc ret) {i : Nat} {z : Int} {x v : Int32} (hd : decode cc pc = .ok (.iinc i z, 3)) (q : Nat) (hq : lv[q]? = some (i, .int x)) (hv : x + Int32.ofInt z = v) (hn : i < n) (hl' : (i, Value.int v) :: lv.filter (fun q => !(q.1 == i) && !(q.1 + 1 == i && q.2.category == 2)) = lv') (kk : kJ p l e R s m args below meth c A Q D n ws cells slots lv' (pc + 3) rest) : kJ p l e R s m args below meth c A Q D n ws cells slots lv pc rest := by
  intro H locs ls hP hD hS hl
  obtain ⟨⟨hx, hb, hml, hown, hts, ⟨hK, hN, hSt⟩, hlk, hr, hA⟩, hMk, hFs⟩ := C
  exact lv_iinc hx hb hd hl hq hv hn hl' (fun ls' hl2 => kk H locs ls' hP hD hS hl2)
theorem kj_goto (C : kX p s m args meth c A D ca ss n own cc ret) {off : Int} (tgt : Nat) (hd : decode cc pc = .ok (.goto off, 3)) (ht : (pc : Int) + off = (tgt : Int)) (k : kJ p l e R s m args below meth c A Q D n ws cells slots lv tgt rest) : kJ p l e R s m args below meth c A Q D n ws cells slots lv pc rest := by
  intro H locs ls hP hD hS hl
  obtain ⟨⟨hx, hb, hml, hown, hts, ⟨hK, hN, hSt⟩, hlk, hr, hA⟩, hMk, hFs⟩ := C
  exact lv_goto hx hb hd ht (k H locs ls hP hD hS hl)
theorem kj_if_eq (C : kX p s m args meth c A D ca ss n own cc ret) {x : Int32} {off : Int} (tgt : Nat) (hd : decode cc pc = .ok (.ifCond .eq off, 3)) (ht : (pc : Int) + off = (tgt : Int)) (kt : x = 0 → kJ p l e R s m args below meth c A Q D n ws cells slots lv tgt rest) (kf : ¬ x = 0 → kJ p l e R s m args below meth c A Q D n ws cells slots lv (pc + 3) rest) : kJ p l e R s m args below meth c A Q D n ws cells slots lv pc (.int x :: rest) := by
  intro H locs ls hP hD hS hl
  obtain ⟨⟨hx, hb, hml, hown, hts, ⟨hK, hN, hSt⟩, hlk, hr, hA⟩, hMk, hFs⟩ := C
  exact lv_if_eq hx hb hd ht (fun h => kt h H locs ls hP hD hS hl) (fun h => kf h H locs ls hP hD hS hl)
theorem kj_icmp_eq (C : kX p s m args meth c A D ca ss n own cc ret) {x y : Int32} {off : Int} (tgt : Nat) (hd : decode cc pc = .ok (.if_icmp .eq off, 3)) (ht : (pc : Int) + off = (tgt : Int)) (kt : x = y → kJ p l e R s m args below meth c A Q D n ws cells slots lv tgt rest) (kf : ¬ x = y → kJ p l e R s m args below meth c A Q D n ws cells slots lv (pc + 3) rest) : kJ p l e R s m args below meth c A Q D n ws cells slots lv pc (.int y :: .int x :: rest) := by
  intro H locs ls hP hD hS hl
  obtain ⟨⟨hx, hb, hml, hown, hts, ⟨hK, hN, hSt⟩, hlk, hr, hA⟩, hMk, hFs⟩ := C
  exact lv_icmp_eq hx hb hd ht (fun h => kt h H locs ls hP hD hS hl) (fun h => kf h H locs ls hP hD hS hl)
theorem kj_if_ne (C : kX p s m args meth c A D ca ss n own cc ret) {x : Int32} {off : Int} (tgt : Nat) (hd : decode cc pc = .ok (.ifCond .ne off, 3)) (ht : (pc : Int) + off = (tgt : Int)) (kt : ¬ x = 0 → kJ p l e R s m args below meth c A Q D n ws cells slots lv tgt rest) (kf : x = 0 → kJ p l e R s m args below meth c A Q D n ws cells slots lv (pc + 3) rest) : kJ p l e R s m args below meth c A Q D n ws cells slots lv pc (.int x :: rest) := by
  intro H locs ls hP hD hS hl
  obtain ⟨⟨hx, hb, hml, hown, hts, ⟨hK, hN, hSt⟩, hlk, hr, hA⟩, hMk, hFs⟩ := C
  exact lv_if_ne hx hb hd ht (fun h => kt h H locs ls hP hD hS hl) (fun h => kf h H locs ls hP hD hS hl)
theorem kj_icmp_ne (C : kX p s m args meth c A D ca ss n own cc ret) {x y : Int32} {off : Int} (tgt : Nat) (hd : decode cc pc = .ok (.if_icmp .ne off, 3)) (ht : (pc : Int) + off = (tgt : Int)) (kt : ¬ x = y → kJ p l e R s m args below meth c A Q D n ws cells slots lv tgt rest) (kf : x = y → kJ p l e R s m args below meth c A Q D n ws cells slots lv (pc + 3) rest) : kJ p l e R s m args below meth c A Q D n ws cells slots lv pc (.int y :: .int x :: rest) := by
  intro H locs ls hP hD hS hl
  obtain ⟨⟨hx, hb, hml, hown, hts, ⟨hK, hN, hSt⟩, hlk, hr, hA⟩, hMk, hFs⟩ := C
  exact lv_icmp_ne hx hb hd ht (fun h => kt h H locs ls hP hD hS hl) (fun h => kf h H locs ls hP hD hS hl)
theorem kj_if_ge (C : kX p s m args meth c A D ca ss n own cc ret) {x : Int32} {off : Int} (tgt : Nat) (hd : decode cc pc = .ok (.ifCond .ge off, 3)) (ht : (pc : Int) + off = (tgt : Int)) (kt : 0 ≤ x → kJ p l e R s m args below meth c A Q D n ws cells slots lv tgt rest) (kf : ¬ 0 ≤ x → kJ p l e R s m args below meth c A Q D n ws cells slots lv (pc + 3) rest) : kJ p l e R s m args below meth c A Q D n ws cells slots lv pc (.int x :: rest) := by
  intro H locs ls hP hD hS hl
  obtain ⟨⟨hx, hb, hml, hown, hts, ⟨hK, hN, hSt⟩, hlk, hr, hA⟩, hMk, hFs⟩ := C
  exact lv_if_ge hx hb hd ht (fun h => kt h H locs ls hP hD hS hl) (fun h => kf h H locs ls hP hD hS hl)
theorem kj_icmp_ge (C : kX p s m args meth c A D ca ss n own cc ret) {x y : Int32} {off : Int} (tgt : Nat) (hd : decode cc pc = .ok (.if_icmp .ge off, 3)) (ht : (pc : Int) + off = (tgt : Int)) (kt : y ≤ x → kJ p l e R s m args below meth c A Q D n ws cells slots lv tgt rest) (kf : ¬ y ≤ x → kJ p l e R s m args below meth c A Q D n ws cells slots lv (pc + 3) rest) : kJ p l e R s m args below meth c A Q D n ws cells slots lv pc (.int y :: .int x :: rest) := by
  intro H locs ls hP hD hS hl
  obtain ⟨⟨hx, hb, hml, hown, hts, ⟨hK, hN, hSt⟩, hlk, hr, hA⟩, hMk, hFs⟩ := C
  exact lv_icmp_ge hx hb hd ht (fun h => kt h H locs ls hP hD hS hl) (fun h => kf h H locs ls hP hD hS hl)
theorem kj_if_gt (C : kX p s m args meth c A D ca ss n own cc ret) {x : Int32} {off : Int} (tgt : Nat) (hd : decode cc pc = .ok (.ifCond .gt off, 3)) (ht : (pc : Int) + off = (tgt : Int)) (kt : 0 < x → kJ p l e R s m args below meth c A Q D n ws cells slots lv tgt rest) (kf : ¬ 0 < x → kJ p l e R s m args below meth c A Q D n ws cells slots lv (pc + 3) rest) : kJ p l e R s m args below meth c A Q D n ws cells slots lv pc (.int x :: rest) := by
  intro H locs ls hP hD hS hl
  obtain ⟨⟨hx, hb, hml, hown, hts, ⟨hK, hN, hSt⟩, hlk, hr, hA⟩, hMk, hFs⟩ := C
  exact lv_if_gt hx hb hd ht (fun h => kt h H locs ls hP hD hS hl) (fun h => kf h H locs ls hP hD hS hl)
theorem kj_icmp_gt (C : kX p s m args meth c A D ca ss n own cc ret) {x y : Int32} {off : Int} (tgt : Nat) (hd : decode cc pc = .ok (.if_icmp .gt off, 3)) (ht : (pc : Int) + off = (tgt : Int)) (kt : y < x → kJ p l e R s m args below meth c A Q D n ws cells slots lv tgt rest) (kf : ¬ y < x → kJ p l e R s m args below meth c A Q D n ws cells slots lv (pc + 3) rest) : kJ p l e R s m args below meth c A Q D n ws cells slots lv pc (.int y :: .int x :: rest) := by
  intro H locs ls hP hD hS hl
  obtain ⟨⟨hx, hb, hml, hown, hts, ⟨hK, hN, hSt⟩, hlk, hr, hA⟩, hMk, hFs⟩ := C
  exact lv_icmp_gt hx hb hd ht (fun h => kt h H locs ls hP hD hS hl) (fun h => kf h H locs ls hP hD hS hl)
theorem kj_ws (h : ws = ws') (k : kJ p l e R s m args below meth c A Q D n ws' cells slots lv pc rest) : kJ p l e R s m args below meth c A Q D n ws cells slots lv pc rest := h ▸ k
theorem kj_lv (is : List Nat) (hs : is.filterMap (fun i => lv[i]?) = lv') (k : kJ p l e R s m args below meth c A Q D n ws cells slots lv' pc rest) : kJ p l e R s m args below meth c A Q D n ws cells slots lv pc rest := fun H locs ls hP hD hS hl => k H locs ls hP hD hS (lv_sub hl is hs)
theorem kj_objInit (C : kX p s m args meth c A D ca ss n own cc ret) {idx a : Nat} (h1 : Cond.methodLink own idx objectInit ∈ gTG) (hR : 1 ≤ R.frames ∧ 30 ≤ R.locals) (hw : (rest.map fun v => v.category).sum ≤ 8) (hd : decode cc pc = .ok (.invokespecial idx, 3)) (k : kJ p l e R s m args below meth c A Q D n ws cells slots lv (pc + 3) rest) : kJ p l e R s m args below meth c A Q D n ws cells slots lv pc (.ref a :: rest) := by
  intro H locs ls hP hD hS hl
  obtain ⟨⟨hx, hb, hml, hown, hts, ⟨hK, hN, hSt⟩, hlk, hr, hA⟩, hMk, hFs⟩ := C
  refine W.objInit hx hb hown (hts _ h1) (hts _ w_77) (hts _ w_78) rfl (by rw [hml]; exact hl.1) rfl hd hR.1 (by show 2 * 0 + _ + 12 ≤ _; omega) ?_
  exact W.eq (g2 := F0 m (pc + 3) ls rest) rfl (k H locs ls hP hD hS hl)
theorem kj_new (C : kX p s m args meth c A D ca ss n own cc ret) {Cn : String} {T : u_T} {NN ci index : Nat} (hin : ∀ w ∈ u_ws Cn T NN, w ∈ gTG) (ty : Nat → FieldType) (hty : ∀ k, k < NN → parseFieldDescriptor (T k).2.2.1 = some (ty k)) (h1 : Cond.classLink own index Cn ∈ gTG) (h2 : Cond.instantiable Cn NN ∈ gTG) (h3 : Cond.initialized Cn ∈ gTG) (hc : vwCl[ci]? = some (Cn, T, NN)) {fs : List Value} (hfs : ∀ j, j < NN → defaultValue (ty j) = vp_V fs j) (hcells : cells + 1 ≤ R.cells) (hslots : slots + NN ≤ R.slots) (hd : decode cc pc = .ok (.new index, 3)) (kk : ∀ q : Nat, kJ p l e R s m args below meth c A Q D n (ws ++ [(q, .inr (ci, fs))]) (cells + 1) (slots + NN) lv (pc + 3) (.ref q :: rest)) : kJ p l e R s m args below meth c A Q D n ws cells slots lv pc rest := by
  intro H locs ls hP hD hS hl
  obtain ⟨⟨hx, hb, hml, hown, hts, ⟨hK, hN, hSt⟩, hlk, hr, hA⟩, hMk, hFs⟩ := C
  exact va_new hx hb hts hin ty hty hown (hts _ h1) (hts _ h2) (hts _ h3) hK hP hD hS hA hc hfs hcells hslots hd (fun q H1 hP1 hD1 hS1 => kk q H1 locs ls hP1 hD1 hS1 hl)
theorem kj_newi (C : kX p s m args meth c A D ca ss n own cc ret) {nn : Int32} {N' : Nat} (hn : ¬ nn < 0) (hNN : nn.toNatClampNeg = N') (hbytes : N' * componentBytes .int ≤ 536870912) (hcells : cells + 1 ≤ R.cells) (hslots : slots + N' ≤ R.slots) (hd : decode cc pc = .ok (.newarray .int, 2)) (kk : ∀ q : Nat, kJ p l e R s m args below meth c A Q D n (ws ++ [(q, .inl (ca 0, N', .inl (kI 0)))]) (cells + 1) (slots + N') lv (pc + 2) (.ref q :: rest)) : kJ p l e R s m args below meth c A Q D n ws cells slots lv pc (.int nn :: rest) := by
  intro H locs ls hP hD hS hl
  obtain ⟨⟨hx, hb, hml, hown, hts, ⟨hK, hN, hSt⟩, hlk, hr, hA⟩, hMk, hFs⟩ := C
  refine va_newaK (atype := .int) hx hb (hts _ w_104) (g := F0 m pc ls (.int nn :: rest)) rfl hd rfl hn hNN hbytes hcells hslots rfl (fun H1 cA e1 z1 o1 hAr hfc => ?_)
  cases hfc.symm.trans hMk.1.1
  refine W.eq (g2 := F0 m (pc + 2) ls (.ref H.size :: rest)) rfl (kk H.size H1 locs ls ((hP.kept (fun k y hy => o1 y.1 ((hP k y hy).lt))).app (fun k y hy => ?_)) (hD.push hP rfl (hA _ hS.1)) ⟨Nat.le_trans hS.1 (by omega), fun y h1 h2 => (o1 y (Nat.lt_of_lt_of_le h1 hS.1)).trans (hS.2.1 y h1 h2), hS.2.2⟩ hl)
  have hz : k < 1 := (List.getElem?_eq_some_iff.mp hy).1
  rw [show k = 0 by omega] at hy
  cases hy
  exact e1
theorem kj_newl (C : kX p s m args meth c A D ca ss n own cc ret) {nn : Int32} {N' : Nat} (hn : ¬ nn < 0) (hNN : nn.toNatClampNeg = N') (hbytes : N' * componentBytes .long ≤ 536870912) (hcells : cells + 1 ≤ R.cells) (hslots : slots + N' ≤ R.slots) (hd : decode cc pc = .ok (.newarray .long, 2)) (kk : ∀ q : Nat, kJ p l e R s m args below meth c A Q D n (ws ++ [(q, .inl (ca 1, N', .inr (.inl kL)))]) (cells + 1) (slots + N') lv (pc + 2) (.ref q :: rest)) : kJ p l e R s m args below meth c A Q D n ws cells slots lv pc (.int nn :: rest) := by
  intro H locs ls hP hD hS hl
  obtain ⟨⟨hx, hb, hml, hown, hts, ⟨hK, hN, hSt⟩, hlk, hr, hA⟩, hMk, hFs⟩ := C
  refine va_newaK (atype := .long) hx hb (hts _ w_205) (g := F0 m pc ls (.int nn :: rest)) rfl hd rfl hn hNN hbytes hcells hslots rfl (fun H1 cA e1 z1 o1 hAr hfc => ?_)
  cases hfc.symm.trans hMk.1.2.1
  refine W.eq (g2 := F0 m (pc + 2) ls (.ref H.size :: rest)) rfl (kk H.size H1 locs ls ((hP.kept (fun k y hy => o1 y.1 ((hP k y hy).lt))).app (fun k y hy => ?_)) (hD.push hP rfl (hA _ hS.1)) ⟨Nat.le_trans hS.1 (by omega), fun y h1 h2 => (o1 y (Nat.lt_of_lt_of_le h1 hS.1)).trans (hS.2.1 y h1 h2), hS.2.2⟩ hl)
  have hz : k < 1 := (List.getElem?_eq_some_iff.mp hy).1
  rw [show k = 0 by omega] at hy
  cases hy
  exact e1
theorem kj_newz (C : kX p s m args meth c A D ca ss n own cc ret) {nn : Int32} {N' : Nat} (hn : ¬ nn < 0) (hNN : nn.toNatClampNeg = N') (hbytes : N' * componentBytes .boolean ≤ 536870912) (hcells : cells + 1 ≤ R.cells) (hslots : slots + N' ≤ R.slots) (hd : decode cc pc = .ok (.newarray .boolean, 2)) (kk : ∀ q : Nat, kJ p l e R s m args below meth c A Q D n (ws ++ [(q, .inl (ca 2, N', .inl (kI 0)))]) (cells + 1) (slots + N') lv (pc + 2) (.ref q :: rest)) : kJ p l e R s m args below meth c A Q D n ws cells slots lv pc (.int nn :: rest) := by
  intro H locs ls hP hD hS hl
  obtain ⟨⟨hx, hb, hml, hown, hts, ⟨hK, hN, hSt⟩, hlk, hr, hA⟩, hMk, hFs⟩ := C
  refine va_newaK (atype := .boolean) hx hb (hts _ w_934) (g := F0 m pc ls (.int nn :: rest)) rfl hd rfl hn hNN hbytes hcells hslots rfl (fun H1 cA e1 z1 o1 hAr hfc => ?_)
  cases hfc.symm.trans hMk.1.2.2.1
  refine W.eq (g2 := F0 m (pc + 2) ls (.ref H.size :: rest)) rfl (kk H.size H1 locs ls ((hP.kept (fun k y hy => o1 y.1 ((hP k y hy).lt))).app (fun k y hy => ?_)) (hD.push hP rfl (hA _ hS.1)) ⟨Nat.le_trans hS.1 (by omega), fun y h1 h2 => (o1 y (Nat.lt_of_lt_of_le h1 hS.1)).trans (hS.2.1 y h1 h2), hS.2.2⟩ hl)
  have hz : k < 1 := (List.getElem?_eq_some_iff.mp hy).1
  rw [show k = 0 by omega] at hy
  cases hy
  exact e1
end KR
