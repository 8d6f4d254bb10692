/-! THE LOGIC OF ONE WORLD: all cells of the system under fixed numbers k < N, at the addresses ad k, holding f k; a judgement gJ over (f, locals, pc, stack) alone. -/
abbrev vwCl : List vw_C := [(RX0, TX0, 1), (RX1, TX1, 3), (RX2, TX2, 12), (RX3, TX3, 6), (RX4, TX4, 3), (RX5, TX5, 3), (RX6, TX6, 18), (RX7, TX7, 2), (RX8, TX8, 1), (RX10, TX10, 4), (RX11, TX11, 4), (RX12, TX12, 28)]
def gTG : List Cond := lw_tbl.filter goodWord
def gIsNest : Cond → Bool
  | .fieldLinkNest .. => true
  | .methodLinkNest .. => true
  | .declares _ => true
  | _ => false
def gNW : List Cond := lw_tbl.filter gIsNest
theorem gm {w : Cond} (i : Nat) (h : lw_tbl[i]? = some w) (hg : goodWord w = true) : w ∈ gTG := List.mem_filter.mpr ⟨List.mem_of_getElem? h, hg⟩
theorem gn {w : Cond} (i : Nat) (h : lw_tbl[i]? = some w) (hg : gIsNest w = true) : w ∈ gNW := List.mem_filter.mpr ⟨List.mem_of_getElem? h, hg⟩
def gNest (U : State) : Prop := ∀ w ∈ gNW, va_Nw w U
theorem gNest.warm {s U : State} (hW : s.WarmedH U.vm) (h : gNest s) : gNest U := by
  intro w hw
  have h1 := h w hw
  have h2 := (List.mem_filter.mp hw).2
  cases w <;> first | exact va_Nw.warmF hW h1 | exact va_Nw.warmM hW h1 | exact va_Nw.warmD hW h1 | (simp [gIsNest] at h2)
theorem gNest.same {u U : State} (h : u.vm = U.vm) (hZ : gNest u) : gNest U := by
  intro w hw
  have h1 := hZ w hw
  have h2 := (List.mem_filter.mp hw).2
  refine va_Nw.same ?_ h h1
  cases w <;> first | rfl | (simp [gIsNest] at h2)
def wsM (y : MethodName) (cc : ByteArray) (n : Nat) (ret : Option FieldType) : List Cond := .code y cc n ret :: gTG
theorem gGood {y : MethodName} {cc : ByteArray} {n : Nat} {ret : Option FieldType} (h : Cond.code y cc n ret ∈ gTG) : GoodIn gTG (wsM y cc n ret) := by
  intro w hw
  have hm : w ∈ gTG := by
    rcases List.mem_cons.mp hw with rfl | h1
    · exact h
    · exact h1
  exact ⟨hm, good_of_word (List.mem_filter.mp hm).2⟩
theorem gGoodL {ws pre : List Cond} (hp : ∀ w ∈ pre, w ∈ gTG) (h : GoodIn gTG ws) : GoodIn gTG (pre ++ ws) := by
  intro w hw
  rcases List.mem_append.mp hw with h1 | h1
  · exact ⟨hp w h1, good_of_word (List.mem_filter.mp (hp w h1)).2⟩
  · exact h w h1
def Rm (d : Nat) : Room := { frames := d, cells := 0, slots := 0, locals := 45 * d }
def gT (ca : Nat → ClassId) : List (ClassId × FieldType) := [(ca 0, .int), (ca 1, .long), (ca 2, .boolean), (ca 3, .object "StarTracker$Sheet"), (ca 4, .object "StarTracker$Tray"), (ca 5, .array .int)]
def gWn (ad : Nat → Nat) (N : Nat) (f : Nat → va_E) : va_W := (List.range N).map (fun k => (ad k, f k))
theorem gWn_get {ad : Nat → Nat} {N : Nat} {f : Nat → va_E} {k : Nat} {e : va_E} (h : k < N) (he : f k = e) : (gWn ad N f)[k]? = some (ad k, e) := by
  subst he
  simp [gWn, h]
theorem gWn_inv {ad : Nat → Nat} {N : Nat} {f : Nat → va_E} {k : Nat} {q : Nat × va_E} (h : (gWn ad N f)[k]? = some q) : k < N ∧ q = (ad k, f k) := by
  unfold gWn at h
  rw [List.getElem?_map] at h
  by_cases hk : k < N
  · rw [List.getElem?_range hk] at h
    cases h
    exact ⟨hk, rfl⟩
  · have hn : (List.range N)[k]? = none := List.getElem?_eq_none (by rw [List.length_range]; omega)
    rw [hn] at h
    cases h
theorem gWn_set {ad : Nat → Nat} {N : Nat} {f : Nat → va_E} {k : Nat} (e : va_E) (h : k < N) : (gWn ad N f).set k (ad k, e) = gWn ad N (va_up f k e) := by
  apply List.ext_getElem?
  intro j
  rw [List.getElem?_set]
  by_cases hj : k = j
  · subst hj
    rw [if_pos rfl, if_pos (by simpa [gWn] using h), gWn_get h (va_up_self f k e)]
  · rw [if_neg hj]
    by_cases hN : j < N
    · rw [gWn_get hN rfl, gWn_get hN (va_up_ne f e (fun q => hj q.symm))]
    · rw [List.getElem?_eq_none (by simp [gWn]; omega), List.getElem?_eq_none (by simp [gWn]; omega)]
/-- the tables of numbers that nobody writes -/
def gOrd : List Int32 := [0, 1, 2, 0, 2, 1, 1, 0, 2, 1, 2, 0, 2, 0, 1, 2, 1, 0]
def gLow : List Int32 := [1, 0, 1, 0]
def gHigh : List Int32 := [9999, 9999, 99, 300]
def gFirst : List Int32 := [400, 200, 1, 20]
def gTab (C n : String) (t : Nat) (xs : List Int32) (A : Nat → Prop) (U : State) (H : Heap) : Prop := va_Z C n "[I" (.ref t) A U H ∧ va_T .int t xs.length (fun j => .int (xs.getD j 0)) A U H
def gSt (ss : Nat → Nat) (A : Nat → Prop) (U : State) (H : Heap) : Prop := gTab "StarTracker" "ORDERS" (ss 0) gOrd A U H ∧ gTab "StarTracker" "LOWEST_SETTINGS" (ss 1) gLow A U H ∧ gTab "StarTracker" "HIGHEST_SETTINGS" (ss 2) gHigh A U H ∧ gTab "StarTracker" "FIRST_SETTINGS" (ss 3) gFirst A U H
theorem gTab.go {C n : String} {t : Nat} {xs : List Int32} {A B : Nat → Prop} {u U : State} {H H1 : Heap} (h : gTab C n t xs A u H) (hvm : u.vm.Alike U.vm) (hAB : ∀ q, B q → A q) (hq : ∀ a : Nat, a < H.size → ¬ A a → H1[a]? = H[a]?) : gTab C n t xs B U H1 := ⟨((h.1.kept hq).moved hvm).narrow hAB, ((h.2.kept hq).moved hvm).narrow hAB⟩
theorem gSt.go {ss : Nat → Nat} {A B : Nat → Prop} {u U : State} {H H1 : Heap} (h : gSt ss A u H) (hvm : u.vm.Alike U.vm) (hAB : ∀ q, B q → A q) (hq : ∀ a : Nat, a < H.size → ¬ A a → H1[a]? = H[a]?) : gSt ss B U H1 := ⟨h.1.go hvm hAB hq, h.2.1.go hvm hAB hq, h.2.2.1.go hvm hAB hq, h.2.2.2.go hvm hAB hq⟩
/-- what a method may take for granted of the state it starts in, apart from its cells -/
def gK (D : va_G) (ca ss : Nat → Nat) (A : Nat → Prop) (U : State) : Prop := va_K D vwCl (gT ca) U ∧ gNest U ∧ gSt ss A U U.heap
def gP (D : va_G) (ca ss ad : Nat → Nat) (N : Nat) (f : Nat → va_E) (sz : Nat) (U : State) : Prop := U.heap.size = sz ∧ va_P D vwCl (gWn ad N f) U.heap ∧ va_D (fun _ => True) (gWn ad N f) ∧ gK D ca ss (va_A (gWn ad N f) sz) U
def gB (D : va_G) (ad : Nat → Nat) (N : Nat) (A : Nat → Prop) (f : Nat → va_E) (t : State) : Prop := va_P D vwCl (gWn ad N f) t.heap ∧ va_D A (gWn ad N f)
theorem gP.blind {D : va_G} {ca ss ad : Nat → Nat} {N : Nat} {f : Nat → va_E} {sz : Nat} (av : List Value) : FrameBlind (va_Pc av (gP D ca ss ad N f sz)) := by
  intro a U g mk q
  obtain ⟨q0, q1, qP, qD, qK, qN, qS⟩ := q
  exact ⟨q0, q1, qP, qD, va_K.moved (u := U) (U := U.calling g mk a) (Vm.Alike.refl U.vm) qK, gNest.same (u := U) (U := U.calling g mk a) rfl qN, gSt.go (u := U) (U := U.calling g mk a) qS (Vm.Alike.refl U.vm) (fun _ h => h) (fun _ _ _ => rfl)⟩
section GJ
variable (p : Program) (l : Launch) (e : Env) (R : Room) (s : State) (m : MethodId) (args : Array Value) (below : List Frame) (meth : Method) (c : Code) (A : Nat → Prop) (Q : State → Prop) (D : va_G) (ca ss ad : Nat → Nat) (N n : Nat)
/-- from every heap that holds f, with these locals: the machine comes to Q -/
def gJ (f : Nat → va_E) (lv : List (Nat × Value)) (pc : Nat) (st : List Value) : Prop :=
  ∀ (H : Heap) (locs : List Loc) (ls : Array Slot), va_P D vwCl (gWn ad N f) H → va_D A (gWn ad N f) → va_S A s.heap H locs → lv_has ls n lv → W p l e R s m args below meth c H locs 0 0 Q (F0 m pc ls st)
/-- what is fixed in a method's body -/
def gX (own : String) (cc : ByteArray) (ret : Option FieldType) : Prop :=
  p.tables.exec = Jvm.exec ∧ c.code = cc ∧ c.maxLocals = n ∧ s.vm.findClass own = some m.cls ∧ (∀ w ∈ gTG, w.before args s = true) ∧ gK D ca ss A s ∧ meth.locks = false ∧ meth.sig.returnType = ret ∧ ∀ q : Nat, s.heap.size ≤ q → A q
end GJ
section GM
variable (l : Launch) (D : va_G) (ca ss ad : Nat → Nat) (N : Nat) (y : MethodName) (cc : ByteArray) (n : Nat) (ret : Option FieldType) (d : Nat) (f : Nat → va_E) (av : List Value)
def gMi (post : Int32 → (Nat → va_E) → Prop) : Prop := ∀ sz : Nat, Met l y (wsM y cc n ret) (Rm d) (va_Pc av (gP D ca ss ad N f sz)) (va_Qi post (gB D ad N (va_A (gWn ad N f) sz)) (va_A (gWn ad N f) sz)) 0 0 (va_A (gWn ad N f) sz)
def gMl (post : Int64 → (Nat → va_E) → Prop) : Prop := ∀ sz : Nat, Met l y (wsM y cc n ret) (Rm d) (va_Pc av (gP D ca ss ad N f sz)) (va_Ql post (gB D ad N (va_A (gWn ad N f) sz)) (va_A (gWn ad N f) sz)) 0 0 (va_A (gWn ad N f) sz)
def gMv (post : (Nat → va_E) → Prop) : Prop := ∀ sz : Nat, Met l y (wsM y cc n ret) (Rm d) (va_Pc av (gP D ca ss ad N f sz)) (va_Qv post (gB D ad N (va_A (gWn ad N f) sz)) (va_A (gWn ad N f) sz)) 0 0 (va_A (gWn ad N f) sz)
def gMr (post : Nat → (Nat → va_E) → Prop) : Prop := ∀ sz : Nat, Met l y (wsM y cc n ret) (Rm d) (va_Pc av (gP D ca ss ad N f sz)) (va_Qr (fun _ : Nat → va_E => True) (fun u a t => post a u ∧ gB D ad N (va_A (gWn ad N f) sz) u t) (va_A (gWn ad N f) sz)) 0 0 (va_A (gWn ad N f) sz)
end GM
section GI
variable {l : Launch} {D : va_G} {ca ss ad : Nat → Nat} {N : Nat} {y : MethodName} {cc : ByteArray} {n : Nat} {ret : Option FieldType} {d : Nat} {f : Nat → va_E} {av : List Value}
theorem gM_of {Qc : (Nat → Prop) → Array Value → State → Outcome → State → Prop} (hy : plainName y.cls = true) (hn : (lg_sl av).length ≤ n)
    (h : ∀ (p : Program) (e : Env) (s : State) (m : MethodId) (below : List Frame) (meth : Method) (c : Code) (A : Nat → Prop), gX p s m av.toArray meth c A D ca ss n y.cls cc ret → gJ p l e (Rm d) s m av.toArray below meth c A (MQ below (Qc A) av.toArray s 0 0 A) D ad N n f (lv_args 0 av) 0 []) (sz : Nat) :
    Met l y (wsM y cc n ret) (Rm d) (va_Pc av (gP D ca ss ad N f sz)) (Qc (va_A (gWn ad N f) sz)) 0 0 (va_A (gWn ad N f) sz) := by
  refine Met.ofW (cc := cc) (maxL := n) (ret := ret) hy rfl ?_
  intro p e s m args below meth c s₁ B hml hv
  obtain ⟨rfl, hsz, hP, hD0, hK⟩ := hv
  have hts : ∀ w ∈ gTG, w.before av.toArray s = true := fun w hw => atoms_spec (ws := wsM y cc n ret) B.pre w (List.mem_cons_of_mem _ hw)
  have hown : s.vm.findClass y.cls = some m.cls := findClass_of_methodNamed B.named
  subst hsz
  rw [lg_entry_eq]
  exact h p e s m below meth c _ ⟨B.exec, B.bytes, hml, hown, hts, hK, B.notSynchronized, B.returns, fun q hq => Or.inr hq⟩ _ _ _ hP (hD0.self (sz := s.heap.size)) va_S.rf (lv_entry av hn)
end GI
section GR
variable {p : Program} {l : Launch} {e : Env} {R : Room} {s : State} {m : MethodId} {args : Array Value} {below : List Frame} {meth : Method} {c : Code} {A : Nat → Prop} {Q : State → Prop} {D : va_G} {ca ss ad : Nat → Nat} {N n : Nat} {own : String} {cc : ByteArray} {ret : Option FieldType} {f : Nat → va_E} {lv lv' : List (Nat × Value)} {pc : Nat} {rest : List Value}
theorem gj_iconst (C : gX p s m args meth c A D ca ss n own cc ret) {z : Int} {v : Int32} (hv : Int32.ofInt z = v) (hd : decode cc pc = .ok (.iconst z, 1)) (k : gJ p l e R s m args below meth c A Q D ad N n f lv (pc + 1) (.int v :: rest)) : gJ p l e R s m args below meth c A Q D ad N n f lv pc (rest) := by
  intro H locs ls hP hD hS hl
  obtain ⟨hx, hb, hml, hown, hts, ⟨hK, hN, hSt⟩, hlk, hr, hA⟩ := C
  exact lv_iconst hx hb hd hv (k H locs ls hP hD hS hl)
theorem gj_bipush (C : gX p s m args meth c A D ca ss n own cc ret) {z : Int} {v : Int32} (hv : (Int8.ofInt z).toInt32 = v) (hd : decode cc pc = .ok (.bipush z, 2)) (k : gJ p l e R s m args below meth c A Q D ad N n f lv (pc + 2) (.int v :: rest)) : gJ p l e R s m args below meth c A Q D ad N n f lv pc (rest) := by
  intro H locs ls hP hD hS hl
  obtain ⟨hx, hb, hml, hown, hts, ⟨hK, hN, hSt⟩, hlk, hr, hA⟩ := C
  exact lv_bipush hx hb hd hv (k H locs ls hP hD hS hl)
theorem gj_sipush (C : gX p s m args meth c A D ca ss n own cc ret) {z : Int} {v : Int32} (hv : (Int16.ofInt z).toInt32 = v) (hd : decode cc pc = .ok (.sipush z, 3)) (k : gJ p l e R s m args below meth c A Q D ad N n f lv (pc + 3) (.int v :: rest)) : gJ p l e R s m args below meth c A Q D ad N n f lv pc (rest) := by
  intro H locs ls hP hD hS hl
  obtain ⟨hx, hb, hml, hown, hts, ⟨hK, hN, hSt⟩, hlk, hr, hA⟩ := C
  exact lv_sipush hx hb hd hv (k H locs ls hP hD hS hl)
theorem gj_lconst (C : gX p s m args meth c A D ca ss n own cc ret) {z : Fin 2} {v : Int64} (hv : Int64.ofNat (z : Nat) = v) (hd : decode cc pc = .ok (.lconst z, 1)) (k : gJ p l e R s m args below meth c A Q D ad N n f lv (pc + 1) (.long v :: rest)) : gJ p l e R s m args below meth c A Q D ad N n f lv pc (rest) := by
  intro H locs ls hP hD hS hl
  obtain ⟨hx, hb, hml, hown, hts, ⟨hK, hN, hSt⟩, hlk, hr, hA⟩ := C
  exact lv_lconst hx hb hd hv (k H locs ls hP hD hS hl)
theorem gj_iload_n (C : gX p s m args meth c A D ca ss n own cc ret) {k : Fin 4} {x : Int32} (i : Nat) (hd : decode cc pc = .ok (.iload_n k, 1)) (hi : (k : Nat) = i) (q : Nat) (hq : lv[q]? = some (i, .int x)) (kk : gJ p l e R s m args below meth c A Q D ad N n f lv (pc + 1) (.int x :: rest)) : gJ p l e R s m args below meth c A Q D ad N n f lv pc rest := by
  intro H locs ls hP hD hS hl
  obtain ⟨hx, hb, hml, hown, hts, ⟨hK, hN, hSt⟩, hlk, hr, hA⟩ := C
  exact lv_iload_n hx hb hd hi (lv_at hl q hq) (kk H locs ls hP hD hS hl)
theorem gj_iload (C : gX p s m args meth c A D ca ss n own cc ret) {i : Nat} {x : Int32} (hd : decode cc pc = .ok (.iload i, 2)) (q : Nat) (hq : lv[q]? = some (i, .int x)) (kk : gJ p l e R s m args below meth c A Q D ad N n f lv (pc + 2) (.int x :: rest)) : gJ p l e R s m args below meth c A Q D ad N n f lv pc rest := by
  intro H locs ls hP hD hS hl
  obtain ⟨hx, hb, hml, hown, hts, ⟨hK, hN, hSt⟩, hlk, hr, hA⟩ := C
  exact lv_iload hx hb hd (lv_at hl q hq) (kk H locs ls hP hD hS hl)
theorem gj_istore_n (C : gX p s m args meth c A D ca ss n own cc ret) {k : Fin 4} {x : Int32} (i : Nat) (hd : decode cc pc = .ok (.istore_n k, 1)) (hi : (k : Nat) = i) (hn : i < n) (hl' : (i, Value.int x) :: lv.filter (fun q => !(q.1 == i) && !(q.1 + 1 == i && q.2.category == 2)) = lv') (kk : gJ p l e R s m args below meth c A Q D ad N n f lv' (pc + 1) rest) : gJ p l e R s m args below meth c A Q D ad N n f lv pc (.int x :: rest) := by
  intro H locs ls hP hD hS hl
  obtain ⟨hx, hb, hml, hown, hts, ⟨hK, hN, hSt⟩, hlk, hr, hA⟩ := C
  exact lv_istore_n hx hb hd hi hl hn hl' (fun ls' hl2 => kk H locs ls' hP hD hS hl2)
theorem gj_istore (C : gX p s m args meth c A D ca ss n own cc ret) {i : Nat} {x : Int32} (hd : decode cc pc = .ok (.istore i, 2)) (hn : i < n) (hl' : (i, Value.int x) :: lv.filter (fun q => !(q.1 == i) && !(q.1 + 1 == i && q.2.category == 2)) = lv') (kk : gJ p l e R s m args below meth c A Q D ad N n f lv' (pc + 2) rest) : gJ p l e R s m args below meth c A Q D ad N n f lv pc (.int x :: rest) := by
  intro H locs ls hP hD hS hl
  obtain ⟨hx, hb, hml, hown, hts, ⟨hK, hN, hSt⟩, hlk, hr, hA⟩ := C
  exact lv_istore hx hb hd hl hn hl' (fun ls' hl2 => kk H locs ls' hP hD hS hl2)
theorem gj_lload_n (C : gX p s m args meth c A D ca ss n own cc ret) {k : Fin 4} {x : Int64} (i : Nat) (hd : decode cc pc = .ok (.lload_n k, 1)) (hi : (k : Nat) = i) (q : Nat) (hq : lv[q]? = some (i, .long x)) (kk : gJ p l e R s m args below meth c A Q D ad N n f lv (pc + 1) (.long x :: rest)) : gJ p l e R s m args below meth c A Q D ad N n f lv pc rest := by
  intro H locs ls hP hD hS hl
  obtain ⟨hx, hb, hml, hown, hts, ⟨hK, hN, hSt⟩, hlk, hr, hA⟩ := C
  exact lv_lload_n hx hb hd hi (lv_at hl q hq) (kk H locs ls hP hD hS hl)
theorem gj_lload (C : gX p s m args meth c A D ca ss n own cc ret) {i : Nat} {x : Int64} (hd : decode cc pc = .ok (.lload i, 2)) (q : Nat) (hq : lv[q]? = some (i, .long x)) (kk : gJ p l e R s m args below meth c A Q D ad N n f lv (pc + 2) (.long x :: rest)) : gJ p l e R s m args below meth c A Q D ad N n f lv pc rest := by
  intro H locs ls hP hD hS hl
  obtain ⟨hx, hb, hml, hown, hts, ⟨hK, hN, hSt⟩, hlk, hr, hA⟩ := C
  exact lv_lload hx hb hd (lv_at hl q hq) (kk H locs ls hP hD hS hl)
theorem gj_lstore_n (C : gX p s m args meth c A D ca ss n own cc ret) {k : Fin 4} {x : Int64} (i : Nat) (hd : decode cc pc = .ok (.lstore_n k, 1)) (hi : (k : Nat) = i) (hn : i + 1 < n) (hl' : (i, Value.long x) :: lv.filter (fun q => !(q.1 == i) && (!(q.1 == i + 1) && !(q.1 + 1 == i && q.2.category == 2))) = lv') (kk : gJ p l e R s m args below meth c A Q D ad N n f lv' (pc + 1) rest) : gJ p l e R s m args below meth c A Q D ad N n f lv pc (.long x :: rest) := by
  intro H locs ls hP hD hS hl
  obtain ⟨hx, hb, hml, hown, hts, ⟨hK, hN, hSt⟩, hlk, hr, hA⟩ := C
  exact lv_lstore_n hx hb hd hi hl hn hl' (fun ls' hl2 => kk H locs ls' hP hD hS hl2)
theorem gj_lstore (C : gX p s m args meth c A D ca ss n own cc ret) {i : Nat} {x : Int64} (hd : decode cc pc = .ok (.lstore i, 2)) (hn : i + 1 < n) (hl' : (i, Value.long x) :: lv.filter (fun q => !(q.1 == i) && (!(q.1 == i + 1) && !(q.1 + 1 == i && q.2.category == 2))) = lv') (kk : gJ p l e R s m args below meth c A Q D ad N n f lv' (pc + 2) rest) : gJ p l e R s m args below meth c A Q D ad N n f lv pc (.long x :: rest) := by
  intro H locs ls hP hD hS hl
  obtain ⟨hx, hb, hml, hown, hts, ⟨hK, hN, hSt⟩, hlk, hr, hA⟩ := C
  exact lv_lstore hx hb hd hl hn hl' (fun ls' hl2 => kk H locs ls' hP hD hS hl2)
theorem gj_aload_n (C : gX p s m args meth c A D ca ss n own cc ret) {k : Fin 4} {x : Nat} (i : Nat) (hd : decode cc pc = .ok (.aload_n k, 1)) (hi : (k : Nat) = i) (q : Nat) (hq : lv[q]? = some (i, .ref x)) (kk : gJ p l e R s m args below meth c A Q D ad N n f lv (pc + 1) (.ref x :: rest)) : gJ p l e R s m args below meth c A Q D ad N n f lv pc rest := by
  intro H locs ls hP hD hS hl
  obtain ⟨hx, hb, hml, hown, hts, ⟨hK, hN, hSt⟩, hlk, hr, hA⟩ := C
  exact lv_aload_n hx hb hd hi (lv_at hl q hq) (kk H locs ls hP hD hS hl)
theorem gj_aload (C : gX p s m args meth c A D ca ss n own cc ret) {i : Nat} {x : Nat} (hd : decode cc pc = .ok (.aload i, 2)) (q : Nat) (hq : lv[q]? = some (i, .ref x)) (kk : gJ p l e R s m args below meth c A Q D ad N n f lv (pc + 2) (.ref x :: rest)) : gJ p l e R s m args below meth c A Q D ad N n f lv pc rest := by
  intro H locs ls hP hD hS hl
  obtain ⟨hx, hb, hml, hown, hts, ⟨hK, hN, hSt⟩, hlk, hr, hA⟩ := C
  exact lv_aload hx hb hd (lv_at hl q hq) (kk H locs ls hP hD hS hl)
theorem gj_astore_n (C : gX p s m args meth c A D ca ss n own cc ret) {k : Fin 4} {x : Nat} (i : Nat) (hd : decode cc pc = .ok (.astore_n k, 1)) (hi : (k : Nat) = i) (hn : i < n) (hl' : (i, Value.ref x) :: lv.filter (fun q => !(q.1 == i) && !(q.1 + 1 == i && q.2.category == 2)) = lv') (kk : gJ p l e R s m args below meth c A Q D ad N n f lv' (pc + 1) rest) : gJ p l e R s m args below meth c A Q D ad N n f lv pc (.ref x :: rest) := by
  intro H locs ls hP hD hS hl
  obtain ⟨hx, hb, hml, hown, hts, ⟨hK, hN, hSt⟩, hlk, hr, hA⟩ := C
  exact lv_astore_n hx hb hd hi hl hn hl' (fun ls' hl2 => kk H locs ls' hP hD hS hl2)
theorem gj_astore (C : gX p s m args meth c A D ca ss n own cc ret) {i : Nat} {x : Nat} (hd : decode cc pc = .ok (.astore i, 2)) (hn : i < n) (hl' : (i, Value.ref x) :: lv.filter (fun q => !(q.1 == i) && !(q.1 + 1 == i && q.2.category == 2)) = lv') (kk : gJ p l e R s m args below meth c A Q D ad N n f lv' (pc + 2) rest) : gJ p l e R s m args below meth c A Q D ad N n f lv pc (.ref x :: rest) := by
  intro H locs ls hP hD hS hl
  obtain ⟨hx, hb, hml, hown, hts, ⟨hK, hN, hSt⟩, hlk, hr, hA⟩ := C
  exact lv_astore hx hb hd hl hn hl' (fun ls' hl2 => kk H locs ls' hP hD hS hl2)
theorem gj_iinc (C : gX p s m args meth c A D ca ss n own cc ret) {i : Nat} {z : Int} {x v : Int32} (hd : decode cc pc = .ok (.iinc i z, 3)) (q : Nat) (hq : lv[q]? = some (i, .int x)) (hv : x + Int32.ofInt z = v) (hn : i < n) (hl' : (i, Value.int v) :: lv.filter (fun q => !(q.1 == i) && !(q.1 + 1 == i && q.2.category == 2)) = lv') (kk : gJ p l e R s m args below meth c A Q D ad N n f lv' (pc + 3) rest) : gJ p l e R s m args below meth c A Q D ad N n f lv pc rest := by
  intro H locs ls hP hD hS hl
  obtain ⟨hx, hb, hml, hown, hts, ⟨hK, hN, hSt⟩, hlk, hr, hA⟩ := C
  exact lv_iinc hx hb hd hl hq hv hn hl' (fun ls' hl2 => kk H locs ls' hP hD hS hl2)
theorem gj_iadd (C : gX p s m args meth c A D ca ss n own cc ret) {x y : Int32} (hd : decode cc pc = .ok (.iadd, 1)) (k : gJ p l e R s m args below meth c A Q D ad N n f lv (pc + 1) (.int (x + y) :: rest)) : gJ p l e R s m args below meth c A Q D ad N n f lv pc (.int y :: .int x :: rest) := by
  intro H locs ls hP hD hS hl
  obtain ⟨hx, hb, hml, hown, hts, ⟨hK, hN, hSt⟩, hlk, hr, hA⟩ := C
  exact lv_iadd hx hb hd  (k H locs ls hP hD hS hl)
theorem gj_isub (C : gX p s m args meth c A D ca ss n own cc ret) {x y : Int32} (hd : decode cc pc = .ok (.isub, 1)) (k : gJ p l e R s m args below meth c A Q D ad N n f lv (pc + 1) (.int (x - y) :: rest)) : gJ p l e R s m args below meth c A Q D ad N n f lv pc (.int y :: .int x :: rest) := by
  intro H locs ls hP hD hS hl
  obtain ⟨hx, hb, hml, hown, hts, ⟨hK, hN, hSt⟩, hlk, hr, hA⟩ := C
  exact lv_isub hx hb hd  (k H locs ls hP hD hS hl)
theorem gj_imul (C : gX p s m args meth c A D ca ss n own cc ret) {x y : Int32} (hd : decode cc pc = .ok (.imul, 1)) (k : gJ p l e R s m args below meth c A Q D ad N n f lv (pc + 1) (.int (x * y) :: rest)) : gJ p l e R s m args below meth c A Q D ad N n f lv pc (.int y :: .int x :: rest) := by
  intro H locs ls hP hD hS hl
  obtain ⟨hx, hb, hml, hown, hts, ⟨hK, hN, hSt⟩, hlk, hr, hA⟩ := C
  exact lv_imul hx hb hd  (k H locs ls hP hD hS hl)
theorem gj_iand (C : gX p s m args meth c A D ca ss n own cc ret) {x y : Int32} (hd : decode cc pc = .ok (.iand, 1)) (k : gJ p l e R s m args below meth c A Q D ad N n f lv (pc + 1) (.int (x &&& y) :: rest)) : gJ p l e R s m args below meth c A Q D ad N n f lv pc (.int y :: .int x :: rest) := by
  intro H locs ls hP hD hS hl
  obtain ⟨hx, hb, hml, hown, hts, ⟨hK, hN, hSt⟩, hlk, hr, hA⟩ := C
  exact lv_iand hx hb hd  (k H locs ls hP hD hS hl)
theorem gj_ior (C : gX p s m args meth c A D ca ss n own cc ret) {x y : Int32} (hd : decode cc pc = .ok (.ior, 1)) (k : gJ p l e R s m args below meth c A Q D ad N n f lv (pc + 1) (.int (x ||| y) :: rest)) : gJ p l e R s m args below meth c A Q D ad N n f lv pc (.int y :: .int x :: rest) := by
  intro H locs ls hP hD hS hl
  obtain ⟨hx, hb, hml, hown, hts, ⟨hK, hN, hSt⟩, hlk, hr, hA⟩ := C
  exact lv_ior hx hb hd  (k H locs ls hP hD hS hl)
theorem gj_ixor (C : gX p s m args meth c A D ca ss n own cc ret) {x y : Int32} (hd : decode cc pc = .ok (.ixor, 1)) (k : gJ p l e R s m args below meth c A Q D ad N n f lv (pc + 1) (.int (x ^^^ y) :: rest)) : gJ p l e R s m args below meth c A Q D ad N n f lv pc (.int y :: .int x :: rest) := by
  intro H locs ls hP hD hS hl
  obtain ⟨hx, hb, hml, hown, hts, ⟨hK, hN, hSt⟩, hlk, hr, hA⟩ := C
  exact lv_ixor hx hb hd  (k H locs ls hP hD hS hl)
theorem gj_ladd (C : gX p s m args meth c A D ca ss n own cc ret) {x y : Int64} (hd : decode cc pc = .ok (.ladd, 1)) (k : gJ p l e R s m args below meth c A Q D ad N n f lv (pc + 1) (.long (x + y) :: rest)) : gJ p l e R s m args below meth c A Q D ad N n f lv pc (.long y :: .long x :: rest) := by
  intro H locs ls hP hD hS hl
  obtain ⟨hx, hb, hml, hown, hts, ⟨hK, hN, hSt⟩, hlk, hr, hA⟩ := C
  exact lv_ladd hx hb hd  (k H locs ls hP hD hS hl)
theorem gj_lsub (C : gX p s m args meth c A D ca ss n own cc ret) {x y : Int64} (hd : decode cc pc = .ok (.lsub, 1)) (k : gJ p l e R s m args below meth c A Q D ad N n f lv (pc + 1) (.long (x - y) :: rest)) : gJ p l e R s m args below meth c A Q D ad N n f lv pc (.long y :: .long x :: rest) := by
  intro H locs ls hP hD hS hl
  obtain ⟨hx, hb, hml, hown, hts, ⟨hK, hN, hSt⟩, hlk, hr, hA⟩ := C
  exact lv_lsub hx hb hd  (k H locs ls hP hD hS hl)
theorem gj_lmul (C : gX p s m args meth c A D ca ss n own cc ret) {x y : Int64} (hd : decode cc pc = .ok (.lmul, 1)) (k : gJ p l e R s m args below meth c A Q D ad N n f lv (pc + 1) (.long (x * y) :: rest)) : gJ p l e R s m args below meth c A Q D ad N n f lv pc (.long y :: .long x :: rest) := by
  intro H locs ls hP hD hS hl
  obtain ⟨hx, hb, hml, hown, hts, ⟨hK, hN, hSt⟩, hlk, hr, hA⟩ := C
  exact lv_lmul hx hb hd  (k H locs ls hP hD hS hl)
theorem gj_land (C : gX p s m args meth c A D ca ss n own cc ret) {x y : Int64} (hd : decode cc pc = .ok (.land, 1)) (k : gJ p l e R s m args below meth c A Q D ad N n f lv (pc + 1) (.long (x &&& y) :: rest)) : gJ p l e R s m args below meth c A Q D ad N n f lv pc (.long y :: .long x :: rest) := by
  intro H locs ls hP hD hS hl
  obtain ⟨hx, hb, hml, hown, hts, ⟨hK, hN, hSt⟩, hlk, hr, hA⟩ := C
  exact lv_land hx hb hd  (k H locs ls hP hD hS hl)
theorem gj_lor (C : gX p s m args meth c A D ca ss n own cc ret) {x y : Int64} (hd : decode cc pc = .ok (.lor, 1)) (k : gJ p l e R s m args below meth c A Q D ad N n f lv (pc + 1) (.long (x ||| y) :: rest)) : gJ p l e R s m args below meth c A Q D ad N n f lv pc (.long y :: .long x :: rest) := by
  intro H locs ls hP hD hS hl
  obtain ⟨hx, hb, hml, hown, hts, ⟨hK, hN, hSt⟩, hlk, hr, hA⟩ := C
  exact lv_lor hx hb hd  (k H locs ls hP hD hS hl)
theorem gj_lxor (C : gX p s m args meth c A D ca ss n own cc ret) {x y : Int64} (hd : decode cc pc = .ok (.lxor, 1)) (k : gJ p l e R s m args below meth c A Q D ad N n f lv (pc + 1) (.long (x ^^^ y) :: rest)) : gJ p l e R s m args below meth c A Q D ad N n f lv pc (.long y :: .long x :: rest) := by
  intro H locs ls hP hD hS hl
  obtain ⟨hx, hb, hml, hown, hts, ⟨hK, hN, hSt⟩, hlk, hr, hA⟩ := C
  exact lv_lxor hx hb hd  (k H locs ls hP hD hS hl)
theorem gj_ineg (C : gX p s m args meth c A D ca ss n own cc ret) {x : Int32} (hd : decode cc pc = .ok (.ineg, 1)) (k : gJ p l e R s m args below meth c A Q D ad N n f lv (pc + 1) (.int (-x) :: rest)) : gJ p l e R s m args below meth c A Q D ad N n f lv pc (.int x :: rest) := by
  intro H locs ls hP hD hS hl
  obtain ⟨hx, hb, hml, hown, hts, ⟨hK, hN, hSt⟩, hlk, hr, hA⟩ := C
  exact lv_ineg hx hb hd  (k H locs ls hP hD hS hl)
theorem gj_lneg (C : gX p s m args meth c A D ca ss n own cc ret) {x : Int64} (hd : decode cc pc = .ok (.lneg, 1)) (k : gJ p l e R s m args below meth c A Q D ad N n f lv (pc + 1) (.long (-x) :: rest)) : gJ p l e R s m args below meth c A Q D ad N n f lv pc (.long x :: rest) := by
  intro H locs ls hP hD hS hl
  obtain ⟨hx, hb, hml, hown, hts, ⟨hK, hN, hSt⟩, hlk, hr, hA⟩ := C
  exact lv_lneg hx hb hd  (k H locs ls hP hD hS hl)
theorem gj_idiv (C : gX p s m args meth c A D ca ss n own cc ret) {x y : Int32} (hne : ¬ y = 0) (hd : decode cc pc = .ok (.idiv, 1)) (k : gJ p l e R s m args below meth c A Q D ad N n f lv (pc + 1) (.int (x / y) :: rest)) : gJ p l e R s m args below meth c A Q D ad N n f lv pc (.int y :: .int x :: rest) := by
  intro H locs ls hP hD hS hl
  obtain ⟨hx, hb, hml, hown, hts, ⟨hK, hN, hSt⟩, hlk, hr, hA⟩ := C
  exact lv_idiv hx hb hd hne (k H locs ls hP hD hS hl)
theorem gj_irem (C : gX p s m args meth c A D ca ss n own cc ret) {x y : Int32} (hne : ¬ y = 0) (hd : decode cc pc = .ok (.irem, 1)) (k : gJ p l e R s m args below meth c A Q D ad N n f lv (pc + 1) (.int (x - x / y * y) :: rest)) : gJ p l e R s m args below meth c A Q D ad N n f lv pc (.int y :: .int x :: rest) := by
  intro H locs ls hP hD hS hl
  obtain ⟨hx, hb, hml, hown, hts, ⟨hK, hN, hSt⟩, hlk, hr, hA⟩ := C
  exact lv_irem hx hb hd hne (k H locs ls hP hD hS hl)
theorem gj_ldiv (C : gX p s m args meth c A D ca ss n own cc ret) {x y : Int64} (hne : ¬ y = 0) (hd : decode cc pc = .ok (.ldiv, 1)) (k : gJ p l e R s m args below meth c A Q D ad N n f lv (pc + 1) (.long (x / y) :: rest)) : gJ p l e R s m args below meth c A Q D ad N n f lv pc (.long y :: .long x :: rest) := by
  intro H locs ls hP hD hS hl
  obtain ⟨hx, hb, hml, hown, hts, ⟨hK, hN, hSt⟩, hlk, hr, hA⟩ := C
  exact lv_ldiv hx hb hd hne (k H locs ls hP hD hS hl)
theorem gj_lrem (C : gX p s m args meth c A D ca ss n own cc ret) {x y : Int64} (hne : ¬ y = 0) (hd : decode cc pc = .ok (.lrem, 1)) (k : gJ p l e R s m args below meth c A Q D ad N n f lv (pc + 1) (.long (x - x / y * y) :: rest)) : gJ p l e R s m args below meth c A Q D ad N n f lv pc (.long y :: .long x :: rest) := by
  intro H locs ls hP hD hS hl
  obtain ⟨hx, hb, hml, hown, hts, ⟨hK, hN, hSt⟩, hlk, hr, hA⟩ := C
  exact lv_lrem hx hb hd hne (k H locs ls hP hD hS hl)
theorem gj_ishl (C : gX p s m args meth c A D ca ss n own cc ret) {x y : Int32} (hd : decode cc pc = .ok (.ishl, 1)) (k : gJ p l e R s m args below meth c A Q D ad N n f lv (pc + 1) (.int (x <<< (y &&& 31)) :: rest)) : gJ p l e R s m args below meth c A Q D ad N n f lv pc (.int y :: .int x :: rest) := by
  intro H locs ls hP hD hS hl
  obtain ⟨hx, hb, hml, hown, hts, ⟨hK, hN, hSt⟩, hlk, hr, hA⟩ := C
  exact lv_ishl hx hb hd  (k H locs ls hP hD hS hl)
theorem gj_ishr (C : gX p s m args meth c A D ca ss n own cc ret) {x y : Int32} (hd : decode cc pc = .ok (.ishr, 1)) (k : gJ p l e R s m args below meth c A Q D ad N n f lv (pc + 1) (.int (x >>> (y &&& 31)) :: rest)) : gJ p l e R s m args below meth c A Q D ad N n f lv pc (.int y :: .int x :: rest) := by
  intro H locs ls hP hD hS hl
  obtain ⟨hx, hb, hml, hown, hts, ⟨hK, hN, hSt⟩, hlk, hr, hA⟩ := C
  exact lv_ishr hx hb hd  (k H locs ls hP hD hS hl)
theorem gj_iushr (C : gX p s m args meth c A D ca ss n own cc ret) {x y : Int32} (hd : decode cc pc = .ok (.iushr, 1)) (k : gJ p l e R s m args below meth c A Q D ad N n f lv (pc + 1) (.int ((x.toUInt32 >>> (y.toUInt32 &&& Int32.toUInt32 31)).toInt32) :: rest)) : gJ p l e R s m args below meth c A Q D ad N n f lv pc (.int y :: .int x :: rest) := by
  intro H locs ls hP hD hS hl
  obtain ⟨hx, hb, hml, hown, hts, ⟨hK, hN, hSt⟩, hlk, hr, hA⟩ := C
  exact lv_iushr hx hb hd rfl (k H locs ls hP hD hS hl)
theorem gj_lshl (C : gX p s m args meth c A D ca ss n own cc ret) {x : Int64} {y : Int32} (hd : decode cc pc = .ok (.lshl, 1)) (k : gJ p l e R s m args below meth c A Q D ad N n f lv (pc + 1) (.long (x <<< (y.toInt64 &&& 63)) :: rest)) : gJ p l e R s m args below meth c A Q D ad N n f lv pc (.int y :: .long x :: rest) := by
  intro H locs ls hP hD hS hl
  obtain ⟨hx, hb, hml, hown, hts, ⟨hK, hN, hSt⟩, hlk, hr, hA⟩ := C
  exact lv_lshl hx hb hd rfl (k H locs ls hP hD hS hl)
theorem gj_i2l (C : gX p s m args meth c A D ca ss n own cc ret) {x : Int32} (hd : decode cc pc = .ok (.i2l, 1)) (k : gJ p l e R s m args below meth c A Q D ad N n f lv (pc + 1) (.long x.toInt64 :: rest)) : gJ p l e R s m args below meth c A Q D ad N n f lv pc (.int x :: rest) := by
  intro H locs ls hP hD hS hl
  obtain ⟨hx, hb, hml, hown, hts, ⟨hK, hN, hSt⟩, hlk, hr, hA⟩ := C
  exact lv_i2l hx hb hd rfl (k H locs ls hP hD hS hl)
theorem gj_l2i (C : gX p s m args meth c A D ca ss n own cc ret) {x : Int64} (hd : decode cc pc = .ok (.l2i, 1)) (k : gJ p l e R s m args below meth c A Q D ad N n f lv (pc + 1) (.int x.toInt32 :: rest)) : gJ p l e R s m args below meth c A Q D ad N n f lv pc (.long x :: rest) := by
  intro H locs ls hP hD hS hl
  obtain ⟨hx, hb, hml, hown, hts, ⟨hK, hN, hSt⟩, hlk, hr, hA⟩ := C
  exact lv_l2i hx hb hd rfl (k H locs ls hP hD hS hl)
theorem gj_i2b (C : gX p s m args meth c A D ca ss n own cc ret) {x : Int32} (hd : decode cc pc = .ok (.i2b, 1)) (k : gJ p l e R s m args below meth c A Q D ad N n f lv (pc + 1) (.int x.toInt8.toInt32 :: rest)) : gJ p l e R s m args below meth c A Q D ad N n f lv pc (.int x :: rest) := by
  intro H locs ls hP hD hS hl
  obtain ⟨hx, hb, hml, hown, hts, ⟨hK, hN, hSt⟩, hlk, hr, hA⟩ := C
  exact lv_i2b hx hb hd rfl (k H locs ls hP hD hS hl)
theorem gj_i2s (C : gX p s m args meth c A D ca ss n own cc ret) {x : Int32} (hd : decode cc pc = .ok (.i2s, 1)) (k : gJ p l e R s m args below meth c A Q D ad N n f lv (pc + 1) (.int x.toInt16.toInt32 :: rest)) : gJ p l e R s m args below meth c A Q D ad N n f lv pc (.int x :: rest) := by
  intro H locs ls hP hD hS hl
  obtain ⟨hx, hb, hml, hown, hts, ⟨hK, hN, hSt⟩, hlk, hr, hA⟩ := C
  exact lv_i2s hx hb hd rfl (k H locs ls hP hD hS hl)
theorem gj_dup (C : gX p s m args meth c A D ca ss n own cc ret) {va : Value} (hva : va.category = 1) (hd : decode cc pc = .ok (.dup, 1)) (k : gJ p l e R s m args below meth c A Q D ad N n f lv (pc + 1) (va :: va :: rest)) : gJ p l e R s m args below meth c A Q D ad N n f lv pc (va :: rest) := by
  intro H locs ls hP hD hS hl
  obtain ⟨hx, hb, hml, hown, hts, ⟨hK, hN, hSt⟩, hlk, hr, hA⟩ := C
  exact lv_dup hx hb hd hva (k H locs ls hP hD hS hl)
theorem gj_pop (C : gX p s m args meth c A D ca ss n own cc ret) {va : Value} (hva : va.category = 1) (hd : decode cc pc = .ok (.pop, 1)) (k : gJ p l e R s m args below meth c A Q D ad N n f lv (pc + 1) (rest)) : gJ p l e R s m args below meth c A Q D ad N n f lv pc (va :: rest) := by
  intro H locs ls hP hD hS hl
  obtain ⟨hx, hb, hml, hown, hts, ⟨hK, hN, hSt⟩, hlk, hr, hA⟩ := C
  exact lv_pop hx hb hd hva (k H locs ls hP hD hS hl)
theorem gj_dup_x1 (C : gX p s m args meth c A D ca ss n own cc ret) {va vb : Value} (hva : va.category = 1) (hvb : vb.category = 1) (hd : decode cc pc = .ok (.dup_x1, 1)) (k : gJ p l e R s m args below meth c A Q D ad N n f lv (pc + 1) (va :: vb :: va :: rest)) : gJ p l e R s m args below meth c A Q D ad N n f lv pc (va :: vb :: rest) := by
  intro H locs ls hP hD hS hl
  obtain ⟨hx, hb, hml, hown, hts, ⟨hK, hN, hSt⟩, hlk, hr, hA⟩ := C
  exact lv_dup_x1 hx hb hd hva hvb (k H locs ls hP hD hS hl)
theorem gj_dup_x2 (C : gX p s m args meth c A D ca ss n own cc ret) {va vb vd : Value} (hva : va.category = 1) (hvb : vb.category = 1) (hvd : vd.category = 1) (hd : decode cc pc = .ok (.dup_x2, 1)) (k : gJ p l e R s m args below meth c A Q D ad N n f lv (pc + 1) (va :: vb :: vd :: va :: rest)) : gJ p l e R s m args below meth c A Q D ad N n f lv pc (va :: vb :: vd :: rest) := by
  intro H locs ls hP hD hS hl
  obtain ⟨hx, hb, hml, hown, hts, ⟨hK, hN, hSt⟩, hlk, hr, hA⟩ := C
  exact lv_dup_x2 hx hb hd hva hvb hvd (k H locs ls hP hD hS hl)
theorem gj_dup2_11 (C : gX p s m args meth c A D ca ss n own cc ret) {va vb : Value} (hva : va.category = 1) (hvb : vb.category = 1) (hd : decode cc pc = .ok (.dup2, 1)) (k : gJ p l e R s m args below meth c A Q D ad N n f lv (pc + 1) (va :: vb :: va :: vb :: rest)) : gJ p l e R s m args below meth c A Q D ad N n f lv pc (va :: vb :: rest) := by
  intro H locs ls hP hD hS hl
  obtain ⟨hx, hb, hml, hown, hts, ⟨hK, hN, hSt⟩, hlk, hr, hA⟩ := C
  exact lv_dup2_11 hx hb hd hva hvb (k H locs ls hP hD hS hl)
theorem gj_dup2_2 (C : gX p s m args meth c A D ca ss n own cc ret) {va : Value} (hva : va.category = 2) (hd : decode cc pc = .ok (.dup2, 1)) (k : gJ p l e R s m args below meth c A Q D ad N n f lv (pc + 1) (va :: va :: rest)) : gJ p l e R s m args below meth c A Q D ad N n f lv pc (va :: rest) := by
  intro H locs ls hP hD hS hl
  obtain ⟨hx, hb, hml, hown, hts, ⟨hK, hN, hSt⟩, hlk, hr, hA⟩ := C
  exact lv_dup2_2 hx hb hd hva (k H locs ls hP hD hS hl)
theorem gj_lcmp (C : gX p s m args meth c A D ca ss n own cc ret) {x y : Int64} (hd : decode cc pc = .ok (.lcmp, 1)) (k : gJ p l e R s m args below meth c A Q D ad N n f lv (pc + 1) (.int (lg_cmp x y) :: rest)) : gJ p l e R s m args below meth c A Q D ad N n f lv pc (.long y :: .long x :: rest) := by
  intro H locs ls hP hD hS hl
  obtain ⟨hx, hb, hml, hown, hts, ⟨hK, hN, hSt⟩, hlk, hr, hA⟩ := C
  exact W.lcmp hx hb hd (k H locs ls hP hD hS hl)
theorem gj_if_eq (C : gX p s m args meth c A D ca ss n own cc ret) {x : Int32} {off : Int} (tgt : Nat) (hd : decode cc pc = .ok (.ifCond .eq off, 3)) (ht : (pc : Int) + off = (tgt : Int)) (kt : x = 0 → gJ p l e R s m args below meth c A Q D ad N n f lv tgt rest) (kf : ¬ x = 0 → gJ p l e R s m args below meth c A Q D ad N n f lv (pc + 3) rest) : gJ p l e R s m args below meth c A Q D ad N n f lv pc (.int x :: rest) := by
  intro H locs ls hP hD hS hl
  obtain ⟨hx, hb, -⟩ := C
  exact lv_if_eq hx hb hd ht (fun h => kt h H locs ls hP hD hS hl) (fun h => kf h H locs ls hP hD hS hl)
theorem gj_icmp_eq (C : gX p s m args meth c A D ca ss n own cc ret) {x y : Int32} {off : Int} (tgt : Nat) (hd : decode cc pc = .ok (.if_icmp .eq off, 3)) (ht : (pc : Int) + off = (tgt : Int)) (kt : x = y → gJ p l e R s m args below meth c A Q D ad N n f lv tgt rest) (kf : ¬ x = y → gJ p l e R s m args below meth c A Q D ad N n f lv (pc + 3) rest) : gJ p l e R s m args below meth c A Q D ad N n f lv pc (.int y :: .int x :: rest) := by
  intro H locs ls hP hD hS hl
  obtain ⟨hx, hb, -⟩ := C
  exact lv_icmp_eq hx hb hd ht (fun h => kt h H locs ls hP hD hS hl) (fun h => kf h H locs ls hP hD hS hl)
theorem gj_if_ne (C : gX p s m args meth c A D ca ss n own cc ret) {x : Int32} {off : Int} (tgt : Nat) (hd : decode cc pc = .ok (.ifCond .ne off, 3)) (ht : (pc : Int) + off = (tgt : Int)) (kt : ¬ x = 0 → gJ p l e R s m args below meth c A Q D ad N n f lv tgt rest) (kf : x = 0 → gJ p l e R s m args below meth c A Q D ad N n f lv (pc + 3) rest) : gJ p l e R s m args below meth c A Q D ad N n f lv pc (.int x :: rest) := by
  intro H locs ls hP hD hS hl
  obtain ⟨hx, hb, -⟩ := C
  exact lv_if_ne hx hb hd ht (fun h => kt h H locs ls hP hD hS hl) (fun h => kf h H locs ls hP hD hS hl)
theorem gj_icmp_ne (C : gX p s m args meth c A D ca ss n own cc ret) {x y : Int32} {off : Int} (tgt : Nat) (hd : decode cc pc = .ok (.if_icmp .ne off, 3)) (ht : (pc : Int) + off = (tgt : Int)) (kt : ¬ x = y → gJ p l e R s m args below meth c A Q D ad N n f lv tgt rest) (kf : x = y → gJ p l e R s m args below meth c A Q D ad N n f lv (pc + 3) rest) : gJ p l e R s m args below meth c A Q D ad N n f lv pc (.int y :: .int x :: rest) := by
  intro H locs ls hP hD hS hl
  obtain ⟨hx, hb, -⟩ := C
  exact lv_icmp_ne hx hb hd ht (fun h => kt h H locs ls hP hD hS hl) (fun h => kf h H locs ls hP hD hS hl)
theorem gj_if_lt (C : gX p s m args meth c A D ca ss n own cc ret) {x : Int32} {off : Int} (tgt : Nat) (hd : decode cc pc = .ok (.ifCond .lt off, 3)) (ht : (pc : Int) + off = (tgt : Int)) (kt : x < 0 → gJ p l e R s m args below meth c A Q D ad N n f lv tgt rest) (kf : ¬ x < 0 → gJ p l e R s m args below meth c A Q D ad N n f lv (pc + 3) rest) : gJ p l e R s m args below meth c A Q D ad N n f lv pc (.int x :: rest) := by
  intro H locs ls hP hD hS hl
  obtain ⟨hx, hb, -⟩ := C
  exact lv_if_lt hx hb hd ht (fun h => kt h H locs ls hP hD hS hl) (fun h => kf h H locs ls hP hD hS hl)
theorem gj_icmp_lt (C : gX p s m args meth c A D ca ss n own cc ret) {x y : Int32} {off : Int} (tgt : Nat) (hd : decode cc pc = .ok (.if_icmp .lt off, 3)) (ht : (pc : Int) + off = (tgt : Int)) (kt : x < y → gJ p l e R s m args below meth c A Q D ad N n f lv tgt rest) (kf : ¬ x < y → gJ p l e R s m args below meth c A Q D ad N n f lv (pc + 3) rest) : gJ p l e R s m args below meth c A Q D ad N n f lv pc (.int y :: .int x :: rest) := by
  intro H locs ls hP hD hS hl
  obtain ⟨hx, hb, -⟩ := C
  exact lv_icmp_lt hx hb hd ht (fun h => kt h H locs ls hP hD hS hl) (fun h => kf h H locs ls hP hD hS hl)
theorem gj_if_ge (C : gX p s m args meth c A D ca ss n own cc ret) {x : Int32} {off : Int} (tgt : Nat) (hd : decode cc pc = .ok (.ifCond .ge off, 3)) (ht : (pc : Int) + off = (tgt : Int)) (kt : 0 ≤ x → gJ p l e R s m args below meth c A Q D ad N n f lv tgt rest) (kf : ¬ 0 ≤ x → gJ p l e R s m args below meth c A Q D ad N n f lv (pc + 3) rest) : gJ p l e R s m args below meth c A Q D ad N n f lv pc (.int x :: rest) := by
  intro H locs ls hP hD hS hl
  obtain ⟨hx, hb, -⟩ := C
  exact lv_if_ge hx hb hd ht (fun h => kt h H locs ls hP hD hS hl) (fun h => kf h H locs ls hP hD hS hl)
theorem gj_icmp_ge (C : gX p s m args meth c A D ca ss n own cc ret) {x y : Int32} {off : Int} (tgt : Nat) (hd : decode cc pc = .ok (.if_icmp .ge off, 3)) (ht : (pc : Int) + off = (tgt : Int)) (kt : y ≤ x → gJ p l e R s m args below meth c A Q D ad N n f lv tgt rest) (kf : ¬ y ≤ x → gJ p l e R s m args below meth c A Q D ad N n f lv (pc + 3) rest) : gJ p l e R s m args below meth c A Q D ad N n f lv pc (.int y :: .int x :: rest) := by
  intro H locs ls hP hD hS hl
  obtain ⟨hx, hb, -⟩ := C
  exact lv_icmp_ge hx hb hd ht (fun h => kt h H locs ls hP hD hS hl) (fun h => kf h H locs ls hP hD hS hl)
theorem gj_if_gt (C : gX p s m args meth c A D ca ss n own cc ret) {x : Int32} {off : Int} (tgt : Nat) (hd : decode cc pc = .ok (.ifCond .gt off, 3)) (ht : (pc : Int) + off = (tgt : Int)) (kt : 0 < x → gJ p l e R s m args below meth c A Q D ad N n f lv tgt rest) (kf : ¬ 0 < x → gJ p l e R s m args below meth c A Q D ad N n f lv (pc + 3) rest) : gJ p l e R s m args below meth c A Q D ad N n f lv pc (.int x :: rest) := by
  intro H locs ls hP hD hS hl
  obtain ⟨hx, hb, -⟩ := C
  exact lv_if_gt hx hb hd ht (fun h => kt h H locs ls hP hD hS hl) (fun h => kf h H locs ls hP hD hS hl)
theorem gj_icmp_gt (C : gX p s m args meth c A D ca ss n own cc ret) {x y : Int32} {off : Int} (tgt : Nat) (hd : decode cc pc = .ok (.if_icmp .gt off, 3)) (ht : (pc : Int) + off = (tgt : Int)) (kt : y < x → gJ p l e R s m args below meth c A Q D ad N n f lv tgt rest) (kf : ¬ y < x → gJ p l e R s m args below meth c A Q D ad N n f lv (pc + 3) rest) : gJ p l e R s m args below meth c A Q D ad N n f lv pc (.int y :: .int x :: rest) := by
  intro H locs ls hP hD hS hl
  obtain ⟨hx, hb, -⟩ := C
  exact lv_icmp_gt hx hb hd ht (fun h => kt h H locs ls hP hD hS hl) (fun h => kf h H locs ls hP hD hS hl)
theorem gj_if_le (C : gX p s m args meth c A D ca ss n own cc ret) {x : Int32} {off : Int} (tgt : Nat) (hd : decode cc pc = .ok (.ifCond .le off, 3)) (ht : (pc : Int) + off = (tgt : Int)) (kt : x ≤ 0 → gJ p l e R s m args below meth c A Q D ad N n f lv tgt rest) (kf : ¬ x ≤ 0 → gJ p l e R s m args below meth c A Q D ad N n f lv (pc + 3) rest) : gJ p l e R s m args below meth c A Q D ad N n f lv pc (.int x :: rest) := by
  intro H locs ls hP hD hS hl
  obtain ⟨hx, hb, -⟩ := C
  exact lv_if_le hx hb hd ht (fun h => kt h H locs ls hP hD hS hl) (fun h => kf h H locs ls hP hD hS hl)
theorem gj_icmp_le (C : gX p s m args meth c A D ca ss n own cc ret) {x y : Int32} {off : Int} (tgt : Nat) (hd : decode cc pc = .ok (.if_icmp .le off, 3)) (ht : (pc : Int) + off = (tgt : Int)) (kt : x ≤ y → gJ p l e R s m args below meth c A Q D ad N n f lv tgt rest) (kf : ¬ x ≤ y → gJ p l e R s m args below meth c A Q D ad N n f lv (pc + 3) rest) : gJ p l e R s m args below meth c A Q D ad N n f lv pc (.int y :: .int x :: rest) := by
  intro H locs ls hP hD hS hl
  obtain ⟨hx, hb, -⟩ := C
  exact lv_icmp_le hx hb hd ht (fun h => kt h H locs ls hP hD hS hl) (fun h => kf h H locs ls hP hD hS hl)
theorem gj_goto (C : gX p s m args meth c A D ca ss n own cc ret) {off : Int} (tgt : Nat) (hd : decode cc pc = .ok (.goto off, 3)) (ht : (pc : Int) + off = (tgt : Int)) (k : gJ p l e R s m args below meth c A Q D ad N n f lv tgt rest) : gJ p l e R s m args below meth c A Q D ad N n f lv pc rest := by
  intro H locs ls hP hD hS hl
  obtain ⟨hx, hb, -⟩ := C
  exact lv_goto hx hb hd ht (k H locs ls hP hD hS hl)
theorem gj_ldc (C : gX p s m args meth c A D ca ss n own cc ret) {index : Nat} {v : Int32} (hc : Cond.constant own index v ∈ gTG) (hd : decode cc pc = .ok (.ldc index, 2)) (k : gJ p l e R s m args below meth c A Q D ad N n f lv (pc + 2) (.int v :: rest)) : gJ p l e R s m args below meth c A Q D ad N n f lv pc rest := by
  intro H locs ls hP hD hS hl
  obtain ⟨hx, hb, hml, hown, hts, ⟨hK, hN, hSt⟩, hlk, hr, hA⟩ := C
  exact lv_ldc hx hb hown (hts _ hc) hd (k H locs ls hP hD hS hl)
theorem gj_ldc2 (C : gX p s m args meth c A D ca ss n own cc ret) {index : Nat} {v : Int64} (hc : Cond.constantLong own index v ∈ gTG) (hd : decode cc pc = .ok (.ldc2_w index, 3)) (k : gJ p l e R s m args below meth c A Q D ad N n f lv (pc + 3) (.long v :: rest)) : gJ p l e R s m args below meth c A Q D ad N n f lv pc rest := by
  intro H locs ls hP hD hS hl
  obtain ⟨hx, hb, hml, hown, hts, ⟨hK, hN, hSt⟩, hlk, hr, hA⟩ := C
  exact lv_ldc2 hx hb hown (hts _ hc) hd (k H locs ls hP hD hS hl)
theorem gj_topi {x : Int32} (k : ∀ y : Int32, y = x → gJ p l e R s m args below meth c A Q D ad N n f lv pc (.int y :: rest)) : gJ p l e R s m args below meth c A Q D ad N n f lv pc (.int x :: rest) := k x rfl
theorem gj_topl {x : Int64} (k : ∀ y : Int64, y = x → gJ p l e R s m args below meth c A Q D ad N n f lv pc (.long y :: rest)) : gJ p l e R s m args below meth c A Q D ad N n f lv pc (.long x :: rest) := k x rfl
theorem gj_seti {x y : Int32} (h : x = y) (k : gJ p l e R s m args below meth c A Q D ad N n f lv pc (.int y :: rest)) : gJ p l e R s m args below meth c A Q D ad N n f lv pc (.int x :: rest) := h ▸ k
theorem gj_setl {x y : Int64} (h : x = y) (k : gJ p l e R s m args below meth c A Q D ad N n f lv pc (.long y :: rest)) : gJ p l e R s m args below meth c A Q D ad N n f lv pc (.long x :: rest) := h ▸ k
theorem gj_setv {x y : Value} (h : x = y) (k : gJ p l e R s m args below meth c A Q D ad N n f lv pc (y :: rest)) : gJ p l e R s m args below meth c A Q D ad N n f lv pc (x :: rest) := h ▸ k
theorem gj_setf {g : Nat → va_E} (h : f = g) (k : gJ p l e R s m args below meth c A Q D ad N n g lv pc rest) : gJ p l e R s m args below meth c A Q D ad N n f lv pc rest := h ▸ k
theorem gj_lv (ks : List Nat) (h : lv_pick lv ks = lv') (k : gJ p l e R s m args below meth c A Q D ad N n f lv' pc rest) : gJ p l e R s m args below meth c A Q D ad N n f lv pc rest := fun H locs ls hP hD hS hl => k H locs ls hP hD hS (lv_sub hl ks h)
theorem gj_get (C : gX p s m args meth c A D ca ss n own cc ret) {Cn : String} {T : u_T} {NN ci index : Nat} {fs : List Value} (i : Nat) (hi : i < N) (hf : f i = .inr (ci, fs)) (hin : ∀ w ∈ u_ws Cn T NN, w ∈ gTG) (hc : vwCl[ci]? = some (Cn, T, NN)) (k : Nat) (hk : k < NN) (hlink : Cond.fieldLink own index (T k).1 (T k).2.1 (T k).2.2.1 ∈ gTG) {v : Value} (hv : fs[k]? = some v) (hd : decode cc pc = .ok (.getfield index, 3)) (kk : gJ p l e R s m args below meth c A Q D ad N n f lv (pc + 3) (v :: rest)) : gJ p l e R s m args below meth c A Q D ad N n f lv pc (.ref (ad i) :: rest) := by
  intro H locs ls hP hD hS hl
  obtain ⟨hx, hb, hml, hown, hts, ⟨hK, hN, hSt⟩, hlk, hr, hA⟩ := C
  exact va_get hx hb hts hin hown hK hP i (gWn_get hi hf) hc k hk (hts _ hlink) (fun _ h9 => h9) hv hd (kk H locs ls hP hD hS hl)
theorem gj_getN (C : gX p s m args meth c A D ca ss n own cc ret) {Cn : String} {T : u_T} {NN ci index : Nat} {fs : List Value} (i : Nat) (hi : i < N) (hf : f i = .inr (ci, fs)) (hin : ∀ w ∈ u_ws Cn T NN, w ∈ gTG) (hc : vwCl[ci]? = some (Cn, T, NN)) (k : Nat) (hk : k < NN) {host : String} (hlink : Cond.fieldLinkNest own index (T k).1 (T k).2.1 (T k).2.2.1 host ∈ gNW) {v : Value} (hv : fs[k]? = some v) (hd : decode cc pc = .ok (.getfield index, 3)) (kk : gJ p l e R s m args below meth c A Q D ad N n f lv (pc + 3) (v :: rest)) : gJ p l e R s m args below meth c A Q D ad N n f lv pc (.ref (ad i) :: rest) := by
  intro H locs ls hP hD hS hl
  obtain ⟨hx, hb, hml, hown, hts, ⟨hK, hN, hSt⟩, hlk, hr, hA⟩ := C
  exact va_getN hx hb hts hin hown hK hP i (gWn_get hi hf) hc k hk (va_Nw.use rfl (hN _ hlink)) (fun _ h9 => h9) hv hd (kk H locs ls hP hD hS hl)
theorem gj_put (C : gX p s m args meth c A D ca ss n own cc ret) {Cn : String} {T : u_T} {NN ci index : Nat} {fs : List Value} (i : Nat) (hi : i < N) (hf : f i = .inr (ci, fs)) (hin : ∀ w ∈ u_ws Cn T NN, w ∈ gTG) (hc : vwCl[ci]? = some (Cn, T, NN)) (k : Nat) (hk : k < NN) (ty0 : Nat → FieldType) (hty : ∀ k, k < NN → parseFieldDescriptor (T k).2.2.1 = some (ty0 k)) (hnm : ∀ a, a < NN → ∀ b, b < NN → a ≠ b → (T a).2.1 ≠ (T b).2.1) (hlink : Cond.fieldLink own index (T k).1 (T k).2.1 (T k).2.2.1 ∈ gTG) (hfin : (T k).2.2.2 = false) {v : Value} (hn : narrow (ty0 k) v = v) (hfit : fits (ty0 k) v = true) (hlen : k < fs.length) (hd : decode cc pc = .ok (.putfield index, 3)) (kk : gJ p l e R s m args below meth c A Q D ad N n (va_up f i (.inr (ci, fs.set k v))) lv (pc + 3) rest) : gJ p l e R s m args below meth c A Q D ad N n f lv pc (v :: .ref (ad i) :: rest) := by
  intro H locs ls hP hD hS hl
  obtain ⟨hx, hb, hml, hown, hts, ⟨hK, hN, hSt⟩, hlk, hr, hA⟩ := C
  exact va_put hx hb hts hin ty0 hty hnm hown hK hP hD hS i (gWn_get hi hf) hc k hk (hts _ hlink) (fun _ h9 => h9) hfin (hty k hk) hn hfit hlen hd (fun H1 locs1 hP1 hD1 hS1 => kk H1 locs1 ls (by rw [gWn_set _ hi] at hP1; exact hP1) (by rw [gWn_set _ hi] at hD1; exact hD1) hS1 hl)
theorem gj_putN (C : gX p s m args meth c A D ca ss n own cc ret) {Cn : String} {T : u_T} {NN ci index : Nat} {fs : List Value} (i : Nat) (hi : i < N) (hf : f i = .inr (ci, fs)) (hin : ∀ w ∈ u_ws Cn T NN, w ∈ gTG) (hc : vwCl[ci]? = some (Cn, T, NN)) (k : Nat) (hk : k < NN) (ty0 : Nat → FieldType) (hty : ∀ k, k < NN → parseFieldDescriptor (T k).2.2.1 = some (ty0 k)) (hnm : ∀ a, a < NN → ∀ b, b < NN → a ≠ b → (T a).2.1 ≠ (T b).2.1) {host : String} (hlink : Cond.fieldLinkNest own index (T k).1 (T k).2.1 (T k).2.2.1 host ∈ gNW) (hfin : (T k).2.2.2 = false) {v : Value} (hn : narrow (ty0 k) v = v) (hfit : fits (ty0 k) v = true) (hlen : k < fs.length) (hd : decode cc pc = .ok (.putfield index, 3)) (kk : gJ p l e R s m args below meth c A Q D ad N n (va_up f i (.inr (ci, fs.set k v))) lv (pc + 3) rest) : gJ p l e R s m args below meth c A Q D ad N n f lv pc (v :: .ref (ad i) :: rest) := by
  intro H locs ls hP hD hS hl
  obtain ⟨hx, hb, hml, hown, hts, ⟨hK, hN, hSt⟩, hlk, hr, hA⟩ := C
  exact va_putN hx hb hts hin ty0 hty hnm hown hK hP hD hS i (gWn_get hi hf) hc k hk (va_Nw.use rfl (hN _ hlink)) (fun _ h9 => h9) hfin (hty k hk) hn hfit hlen hd (fun H1 locs1 hP1 hD1 hS1 => kk H1 locs1 ls (by rw [gWn_set _ hi] at hP1; exact hP1) (by rw [gWn_set _ hi] at hD1; exact hD1) hS1 hl)
theorem gj_iald (C : gX p s m args meth c A D ca ss n own cc ret) {nn : Nat} {g : Nat → Int32} (i : Nat) (hi : i < N) (hf : f i = .inl (ca 0, nn, .inl g)) {x : Int32} (hin : vp_in x nn) (hd : decode cc pc = .ok (.iaload, 1)) (kk : gJ p l e R s m args below meth c A Q D ad N n f lv (pc + 1) (.int (g x.toNatClampNeg) :: rest)) : gJ p l e R s m args below meth c A Q D ad N n f lv pc (.int x :: .ref (ad i) :: rest) := by
  intro H locs ls hP hD hS hl
  obtain ⟨hx, hb, hml, hown, hts, ⟨hK, hN, hSt⟩, hlk, hr, hA⟩ := C
  exact va_iald hx hb hK hP i 0 (gWn_get hi hf) rfl hin hd (kk H locs ls hP hD hS hl)
theorem gj_iast (C : gX p s m args meth c A D ca ss n own cc ret) {nn : Nat} {g : Nat → Int32} (i : Nat) (hi : i < N) (hf : f i = .inl (ca 0, nn, .inl g)) {x : Int32} {v : Int32} (hin : vp_in x nn) (hd : decode cc pc = .ok (.iastore, 1)) (kk : gJ p l e R s m args below meth c A Q D ad N n (va_up f i (.inl (ca 0, nn, .inl (upd g x.toNatClampNeg v)))) lv (pc + 1) rest) : gJ p l e R s m args below meth c A Q D ad N n f lv pc (.int v :: .int x :: .ref (ad i) :: rest) := by
  intro H locs ls hP hD hS hl
  obtain ⟨hx, hb, hml, hown, hts, ⟨hK, hN, hSt⟩, hlk, hr, hA⟩ := C
  exact va_iast hx hb hK hP hD hS i 0 (gWn_get hi hf) rfl hin hd (fun H1 locs1 hP1 hD1 hS1 => kk H1 locs1 ls (by rw [gWn_set _ hi] at hP1; exact hP1) (by rw [gWn_set _ hi] at hD1; exact hD1) hS1 hl)
theorem gj_lald (C : gX p s m args meth c A D ca ss n own cc ret) {nn : Nat} {g : Nat → Int64} (i : Nat) (hi : i < N) (hf : f i = .inl (ca 1, nn, .inr (.inl g))) {x : Int32} (hin : vp_in x nn) (hd : decode cc pc = .ok (.laload, 1)) (kk : gJ p l e R s m args below meth c A Q D ad N n f lv (pc + 1) (.long (g x.toNatClampNeg) :: rest)) : gJ p l e R s m args below meth c A Q D ad N n f lv pc (.int x :: .ref (ad i) :: rest) := by
  intro H locs ls hP hD hS hl
  obtain ⟨hx, hb, hml, hown, hts, ⟨hK, hN, hSt⟩, hlk, hr, hA⟩ := C
  exact va_lald hx hb hK hP i 1 (gWn_get hi hf) rfl hin hd (kk H locs ls hP hD hS hl)
theorem gj_last (C : gX p s m args meth c A D ca ss n own cc ret) {nn : Nat} {g : Nat → Int64} (i : Nat) (hi : i < N) (hf : f i = .inl (ca 1, nn, .inr (.inl g))) {x : Int32} {v : Int64} (hin : vp_in x nn) (hd : decode cc pc = .ok (.lastore, 1)) (kk : gJ p l e R s m args below meth c A Q D ad N n (va_up f i (.inl (ca 1, nn, .inr (.inl (vp_updL g x.toNatClampNeg v))))) lv (pc + 1) rest) : gJ p l e R s m args below meth c A Q D ad N n f lv pc (.long v :: .int x :: .ref (ad i) :: rest) := by
  intro H locs ls hP hD hS hl
  obtain ⟨hx, hb, hml, hown, hts, ⟨hK, hN, hSt⟩, hlk, hr, hA⟩ := C
  exact va_last hx hb hK hP hD hS i 1 (gWn_get hi hf) rfl hin hd (fun H1 locs1 hP1 hD1 hS1 => kk H1 locs1 ls (by rw [gWn_set _ hi] at hP1; exact hP1) (by rw [gWn_set _ hi] at hD1; exact hD1) hS1 hl)
theorem gj_zald (C : gX p s m args meth c A D ca ss n own cc ret) {nn : Nat} {g : Nat → Int32} (i : Nat) (hi : i < N) (hf : f i = .inl (ca 2, nn, .inl g)) {x : Int32} (hin : vp_in x nn) (hd : decode cc pc = .ok (.baload, 1)) (kk : gJ p l e R s m args below meth c A Q D ad N n f lv (pc + 1) (.int (g x.toNatClampNeg) :: rest)) : gJ p l e R s m args below meth c A Q D ad N n f lv pc (.int x :: .ref (ad i) :: rest) := by
  intro H locs ls hP hD hS hl
  obtain ⟨hx, hb, hml, hown, hts, ⟨hK, hN, hSt⟩, hlk, hr, hA⟩ := C
  exact va_zald hx hb hK hP i 2 (gWn_get hi hf) rfl hin hd (kk H locs ls hP hD hS hl)
theorem gj_zast (C : gX p s m args meth c A D ca ss n own cc ret) {nn : Nat} {g : Nat → Int32} (i : Nat) (hi : i < N) (hf : f i = .inl (ca 2, nn, .inl g)) {x : Int32} {v : Int32} (hin : vp_in x nn) (hd : decode cc pc = .ok (.bastore, 1)) (kk : gJ p l e R s m args below meth c A Q D ad N n (va_up f i (.inl (ca 2, nn, .inl (upd g x.toNatClampNeg (v &&& 1))))) lv (pc + 1) rest) : gJ p l e R s m args below meth c A Q D ad N n f lv pc (.int v :: .int x :: .ref (ad i) :: rest) := by
  intro H locs ls hP hD hS hl
  obtain ⟨hx, hb, hml, hown, hts, ⟨hK, hN, hSt⟩, hlk, hr, hA⟩ := C
  exact va_zast hx hb hK hP hD hS i 2 (gWn_get hi hf) rfl hin hd (fun H1 locs1 hP1 hD1 hS1 => kk H1 locs1 ls (by rw [gWn_set _ hi] at hP1; exact hP1) (by rw [gWn_set _ hi] at hD1; exact hD1) hS1 hl)
theorem gj_alen (C : gX p s m args meth c A D ca ss n own cc ret) {a : vp_A} {ci : ClassId} (t0 : Nat) {ty : FieldType} (i : Nat) (hi : i < N) (hf : f i = .inl (ci, a)) (ht : (gT ca)[t0]? = some (ci, ty)) {v : Int32} (hv : Int32.ofNat a.1 = v) (hd : decode cc pc = .ok (.arraylength, 1)) (kk : gJ p l e R s m args below meth c A Q D ad N n f lv (pc + 1) (.int v :: rest)) : gJ p l e R s m args below meth c A Q D ad N n f lv pc (.ref (ad i) :: rest) := by
  intro H locs ls hP hD hS hl
  obtain ⟨hx, hb, hml, hown, hts, ⟨hK, hN, hSt⟩, hlk, hr, hA⟩ := C
  exact va_alen hx hb hK hP i t0 (gWn_get hi hf) ht hv hd (kk H locs ls hP hD hS hl)
theorem gj_aldq (C : gX p s m args meth c A D ca ss n own cc ret) {nn : Nat} {g : Nat → Option Nat} {Cn : String} {ci : ClassId} (t0 : Nat) (i : Nat) (hi : i < N) (hf : f i = .inl (ci, nn, .inr (.inr (.inr (.inr g))))) (ht : (gT ca)[t0]? = some (ci, .object Cn)) {x : Int32} (hin : vp_in x nn) {a : Nat} (ha : g x.toNatClampNeg = some a) (hd : decode cc pc = .ok (.aaload, 1)) (kk : gJ p l e R s m args below meth c A Q D ad N n f lv (pc + 1) (.ref a :: rest)) : gJ p l e R s m args below meth c A Q D ad N n f lv pc (.int x :: .ref (ad i) :: rest) := by
  intro H locs ls hP hD hS hl
  obtain ⟨hx, hb, hml, hown, hts, ⟨hK, hN, hSt⟩, hlk, hr, hA⟩ := C
  exact va_aldq hx hb hK hP i t0 (gWn_get hi hf) ht hin hd (by rw [ha]; exact kk H locs ls hP hD hS hl)
theorem gj_alda (C : gX p s m args meth c A D ca ss n own cc ret) {nn : Nat} {g : Nat → Option Nat} {ci : ClassId} {ty : FieldType} (t0 : Nat) (i : Nat) (hi : i < N) (hf : f i = .inl (ci, nn, .inr (.inr (.inr (.inr g))))) (ht : (gT ca)[t0]? = some (ci, .array ty)) {x : Int32} (hin : vp_in x nn) {a : Nat} (ha : g x.toNatClampNeg = some a) (hd : decode cc pc = .ok (.aaload, 1)) (kk : gJ p l e R s m args below meth c A Q D ad N n f lv (pc + 1) (.ref a :: rest)) : gJ p l e R s m args below meth c A Q D ad N n f lv pc (.int x :: .ref (ad i) :: rest) := by
  intro H locs ls hP hD hS hl
  obtain ⟨hx, hb, hml, hown, hts, ⟨hK, hN, hSt⟩, hlk, hr, hA⟩ := C
  have hlt : x.toNatClampNeg < nn := Nat.not_le.mp fun q => hin (Or.inr q)
  have hq := gWn_get (ad := ad) hi hf
  exact W.aald (v := .ref a) (ty := .array ty) hx hb (hP i _ hq) ((hK.2 t0 _ ht).1 nn (fun j => va_rf (g j))) rfl (fun q => by cases q) (by show ¬ (x < 0 ∨ (arrV _ _ _).slots.size ≤ _); rw [arrV_size]; exact hin) (by show (arrV _ _ _).slots[_]? = _; rw [arrV_read _ _ hlt, ha]; rfl) rfl rfl hd (kk H locs ls hP hD hS hl)
theorem gj_gets_ORDERS (C : gX p s m args meth c A D ca ss n own cc ret) {index : Nat} (hlink : Cond.fieldLink own index "StarTracker" "ORDERS" "[I" ∈ gTG) (hd : decode cc pc = .ok (.getstatic index, 3)) (kk : gJ p l e R s m args below meth c A Q D ad N n f lv (pc + 3) (.ref (ss 0) :: rest)) : gJ p l e R s m args below meth c A Q D ad N n f lv pc rest := by
  intro H locs ls hP hD hS hl
  obtain ⟨hx, hb, hml, hown, hts, ⟨hK, hN, hSt⟩, hlk, hr, hA⟩ := C
  exact va_gets hx hb hSt.1.1 hS hown (hts _ hlink) (fun _ h9 => h9) hd (kk H locs ls hP hD hS hl)
theorem gj_getsN_ORDERS (C : gX p s m args meth c A D ca ss n own cc ret) {index : Nat} {host : String} (hlink : Cond.fieldLinkNest own index "StarTracker" "ORDERS" "[I" host ∈ gNW) (hd : decode cc pc = .ok (.getstatic index, 3)) (kk : gJ p l e R s m args below meth c A Q D ad N n f lv (pc + 3) (.ref (ss 0) :: rest)) : gJ p l e R s m args below meth c A Q D ad N n f lv pc rest := by
  intro H locs ls hP hD hS hl
  obtain ⟨hx, hb, hml, hown, hts, ⟨hK, hN, hSt⟩, hlk, hr, hA⟩ := C
  exact va_getsN hx hb hSt.1.1 hS hown (va_Nw.use rfl (hN _ hlink)) (fun _ h9 => h9) hd (kk H locs ls hP hD hS hl)
theorem gj_ti_ORDERS (C : gX p s m args meth c A D ca ss n own cc ret) {x : Int32} (hin : vp_in x gOrd.length) (hd : decode cc pc = .ok (.iaload, 1)) (kk : gJ p l e R s m args below meth c A Q D ad N n f lv (pc + 1) (.int (gOrd.getD x.toNatClampNeg 0) :: rest)) : gJ p l e R s m args below meth c A Q D ad N n f lv pc (.int x :: .ref (ss 0) :: rest) := by
  intro H locs ls hP hD hS hl
  obtain ⟨hx, hb, hml, hown, hts, ⟨hK, hN, hSt⟩, hlk, hr, hA⟩ := C
  exact va_ti hx hb hSt.1.2 hS hin rfl hd (kk H locs ls hP hD hS hl)
theorem gj_tlen_ORDERS (C : gX p s m args meth c A D ca ss n own cc ret) {v : Int32} (hv : Int32.ofNat gOrd.length = v) (hd : decode cc pc = .ok (.arraylength, 1)) (kk : gJ p l e R s m args below meth c A Q D ad N n f lv (pc + 1) (.int v :: rest)) : gJ p l e R s m args below meth c A Q D ad N n f lv pc (.ref (ss 0) :: rest) := by
  intro H locs ls hP hD hS hl
  obtain ⟨hx, hb, hml, hown, hts, ⟨hK, hN, hSt⟩, hlk, hr, hA⟩ := C
  exact va_tlen hx hb hSt.1.2 hS hv hd (kk H locs ls hP hD hS hl)
theorem gj_gets_LOWEST_SETTINGS (C : gX p s m args meth c A D ca ss n own cc ret) {index : Nat} (hlink : Cond.fieldLink own index "StarTracker" "LOWEST_SETTINGS" "[I" ∈ gTG) (hd : decode cc pc = .ok (.getstatic index, 3)) (kk : gJ p l e R s m args below meth c A Q D ad N n f lv (pc + 3) (.ref (ss 1) :: rest)) : gJ p l e R s m args below meth c A Q D ad N n f lv pc rest := by
  intro H locs ls hP hD hS hl
  obtain ⟨hx, hb, hml, hown, hts, ⟨hK, hN, hSt⟩, hlk, hr, hA⟩ := C
  exact va_gets hx hb hSt.2.1.1 hS hown (hts _ hlink) (fun _ h9 => h9) hd (kk H locs ls hP hD hS hl)
theorem gj_getsN_LOWEST_SETTINGS (C : gX p s m args meth c A D ca ss n own cc ret) {index : Nat} {host : String} (hlink : Cond.fieldLinkNest own index "StarTracker" "LOWEST_SETTINGS" "[I" host ∈ gNW) (hd : decode cc pc = .ok (.getstatic index, 3)) (kk : gJ p l e R s m args below meth c A Q D ad N n f lv (pc + 3) (.ref (ss 1) :: rest)) : gJ p l e R s m args below meth c A Q D ad N n f lv pc rest := by
  intro H locs ls hP hD hS hl
  obtain ⟨hx, hb, hml, hown, hts, ⟨hK, hN, hSt⟩, hlk, hr, hA⟩ := C
  exact va_getsN hx hb hSt.2.1.1 hS hown (va_Nw.use rfl (hN _ hlink)) (fun _ h9 => h9) hd (kk H locs ls hP hD hS hl)
theorem gj_ti_LOWEST_SETTINGS (C : gX p s m args meth c A D ca ss n own cc ret) {x : Int32} (hin : vp_in x gLow.length) (hd : decode cc pc = .ok (.iaload, 1)) (kk : gJ p l e R s m args below meth c A Q D ad N n f lv (pc + 1) (.int (gLow.getD x.toNatClampNeg 0) :: rest)) : gJ p l e R s m args below meth c A Q D ad N n f lv pc (.int x :: .ref (ss 1) :: rest) := by
  intro H locs ls hP hD hS hl
  obtain ⟨hx, hb, hml, hown, hts, ⟨hK, hN, hSt⟩, hlk, hr, hA⟩ := C
  exact va_ti hx hb hSt.2.1.2 hS hin rfl hd (kk H locs ls hP hD hS hl)
theorem gj_tlen_LOWEST_SETTINGS (C : gX p s m args meth c A D ca ss n own cc ret) {v : Int32} (hv : Int32.ofNat gLow.length = v) (hd : decode cc pc = .ok (.arraylength, 1)) (kk : gJ p l e R s m args below meth c A Q D ad N n f lv (pc + 1) (.int v :: rest)) : gJ p l e R s m args below meth c A Q D ad N n f lv pc (.ref (ss 1) :: rest) := by
  intro H locs ls hP hD hS hl
  obtain ⟨hx, hb, hml, hown, hts, ⟨hK, hN, hSt⟩, hlk, hr, hA⟩ := C
  exact va_tlen hx hb hSt.2.1.2 hS hv hd (kk H locs ls hP hD hS hl)
theorem gj_gets_HIGHEST_SETTINGS (C : gX p s m args meth c A D ca ss n own cc ret) {index : Nat} (hlink : Cond.fieldLink own index "StarTracker" "HIGHEST_SETTINGS" "[I" ∈ gTG) (hd : decode cc pc = .ok (.getstatic index, 3)) (kk : gJ p l e R s m args below meth c A Q D ad N n f lv (pc + 3) (.ref (ss 2) :: rest)) : gJ p l e R s m args below meth c A Q D ad N n f lv pc rest := by
  intro H locs ls hP hD hS hl
  obtain ⟨hx, hb, hml, hown, hts, ⟨hK, hN, hSt⟩, hlk, hr, hA⟩ := C
  exact va_gets hx hb hSt.2.2.1.1 hS hown (hts _ hlink) (fun _ h9 => h9) hd (kk H locs ls hP hD hS hl)
theorem gj_getsN_HIGHEST_SETTINGS (C : gX p s m args meth c A D ca ss n own cc ret) {index : Nat} {host : String} (hlink : Cond.fieldLinkNest own index "StarTracker" "HIGHEST_SETTINGS" "[I" host ∈ gNW) (hd : decode cc pc = .ok (.getstatic index, 3)) (kk : gJ p l e R s m args below meth c A Q D ad N n f lv (pc + 3) (.ref (ss 2) :: rest)) : gJ p l e R s m args below meth c A Q D ad N n f lv pc rest := by
  intro H locs ls hP hD hS hl
  obtain ⟨hx, hb, hml, hown, hts, ⟨hK, hN, hSt⟩, hlk, hr, hA⟩ := C
  exact va_getsN hx hb hSt.2.2.1.1 hS hown (va_Nw.use rfl (hN _ hlink)) (fun _ h9 => h9) hd (kk H locs ls hP hD hS hl)
theorem gj_ti_HIGHEST_SETTINGS (C : gX p s m args meth c A D ca ss n own cc ret) {x : Int32} (hin : vp_in x gHigh.length) (hd : decode cc pc = .ok (.iaload, 1)) (kk : gJ p l e R s m args below meth c A Q D ad N n f lv (pc + 1) (.int (gHigh.getD x.toNatClampNeg 0) :: rest)) : gJ p l e R s m args below meth c A Q D ad N n f lv pc (.int x :: .ref (ss 2) :: rest) := by
  intro H locs ls hP hD hS hl
  obtain ⟨hx, hb, hml, hown, hts, ⟨hK, hN, hSt⟩, hlk, hr, hA⟩ := C
  exact va_ti hx hb hSt.2.2.1.2 hS hin rfl hd (kk H locs ls hP hD hS hl)
theorem gj_tlen_HIGHEST_SETTINGS (C : gX p s m args meth c A D ca ss n own cc ret) {v : Int32} (hv : Int32.ofNat gHigh.length = v) (hd : decode cc pc = .ok (.arraylength, 1)) (kk : gJ p l e R s m args below meth c A Q D ad N n f lv (pc + 1) (.int v :: rest)) : gJ p l e R s m args below meth c A Q D ad N n f lv pc (.ref (ss 2) :: rest) := by
  intro H locs ls hP hD hS hl
  obtain ⟨hx, hb, hml, hown, hts, ⟨hK, hN, hSt⟩, hlk, hr, hA⟩ := C
  exact va_tlen hx hb hSt.2.2.1.2 hS hv hd (kk H locs ls hP hD hS hl)
theorem gj_gets_FIRST_SETTINGS (C : gX p s m args meth c A D ca ss n own cc ret) {index : Nat} (hlink : Cond.fieldLink own index "StarTracker" "FIRST_SETTINGS" "[I" ∈ gTG) (hd : decode cc pc = .ok (.getstatic index, 3)) (kk : gJ p l e R s m args below meth c A Q D ad N n f lv (pc + 3) (.ref (ss 3) :: rest)) : gJ p l e R s m args below meth c A Q D ad N n f lv pc rest := by
  intro H locs ls hP hD hS hl
  obtain ⟨hx, hb, hml, hown, hts, ⟨hK, hN, hSt⟩, hlk, hr, hA⟩ := C
  exact va_gets hx hb hSt.2.2.2.1 hS hown (hts _ hlink) (fun _ h9 => h9) hd (kk H locs ls hP hD hS hl)
theorem gj_getsN_FIRST_SETTINGS (C : gX p s m args meth c A D ca ss n own cc ret) {index : Nat} {host : String} (hlink : Cond.fieldLinkNest own index "StarTracker" "FIRST_SETTINGS" "[I" host ∈ gNW) (hd : decode cc pc = .ok (.getstatic index, 3)) (kk : gJ p l e R s m args below meth c A Q D ad N n f lv (pc + 3) (.ref (ss 3) :: rest)) : gJ p l e R s m args below meth c A Q D ad N n f lv pc rest := by
  intro H locs ls hP hD hS hl
  obtain ⟨hx, hb, hml, hown, hts, ⟨hK, hN, hSt⟩, hlk, hr, hA⟩ := C
  exact va_getsN hx hb hSt.2.2.2.1 hS hown (va_Nw.use rfl (hN _ hlink)) (fun _ h9 => h9) hd (kk H locs ls hP hD hS hl)
theorem gj_ti_FIRST_SETTINGS (C : gX p s m args meth c A D ca ss n own cc ret) {x : Int32} (hin : vp_in x gFirst.length) (hd : decode cc pc = .ok (.iaload, 1)) (kk : gJ p l e R s m args below meth c A Q D ad N n f lv (pc + 1) (.int (gFirst.getD x.toNatClampNeg 0) :: rest)) : gJ p l e R s m args below meth c A Q D ad N n f lv pc (.int x :: .ref (ss 3) :: rest) := by
  intro H locs ls hP hD hS hl
  obtain ⟨hx, hb, hml, hown, hts, ⟨hK, hN, hSt⟩, hlk, hr, hA⟩ := C
  exact va_ti hx hb hSt.2.2.2.2 hS hin rfl hd (kk H locs ls hP hD hS hl)
theorem gj_tlen_FIRST_SETTINGS (C : gX p s m args meth c A D ca ss n own cc ret) {v : Int32} (hv : Int32.ofNat gFirst.length = v) (hd : decode cc pc = .ok (.arraylength, 1)) (kk : gJ p l e R s m args below meth c A Q D ad N n f lv (pc + 1) (.int v :: rest)) : gJ p l e R s m args below meth c A Q D ad N n f lv pc (.ref (ss 3) :: rest) := by
  intro H locs ls hP hD hS hl
  obtain ⟨hx, hb, hml, hown, hts, ⟨hK, hN, hSt⟩, hlk, hr, hA⟩ := C
  exact va_tlen hx hb hSt.2.2.2.2 hS hv hd (kk H locs ls hP hD hS hl)
end GR
