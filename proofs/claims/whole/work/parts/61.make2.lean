/-- cells that are new, one behind another -/
theorem kD_new {A : Nat → Prop} {ws L : va_W} {D : va_G} {cl : List vw_C} {H : Heap} (hD : va_D A ws) (hP : va_P D cl ws H) (hL : ∀ (k : Nat) (x : Nat × va_E), L[k]? = some x → x.1 = H.size + k) (hA : ∀ k, A (H.size + k)) : va_D A (ws ++ L) := by
  refine va_D.app hD ⟨fun i j x y hi hj hxy => ?_, fun k x hx => ?_⟩ (fun i j x y hi hj => ?_)
  · have h1 := hL i x hi
    have h2 := hL j y hj
    omega
  · rw [hL k x hx]; exact hA k
  · have h1 := (hP i x hi).lt
    have h2 := hL j y hj
    omega
section MG
variable {p : Program} {l : Launch} {e : Env} {R : Room} {s : State} {m : MethodId} {args : Array Value} {below : List Frame} {meth : Method} {c : Code} {locs : List Loc} {cells slots : Nat}
/-- the outer row of a making: its first i places filled with the rows behind it -/
def mg_out (cO : ClassId) (N h0 i : Nat) : Cell := arrV cO N (fun j => va_rf (if j < i then some (h0 + 1 + j) else none))
/-- a row of ints, all 0 -/
def mg_row (cI : ClassId) (K : Nat) : Cell := arrV cI K (fun _ => .int 0)
/-- one row more, laid into the outer one -/
def mg_nx (cO cI : ClassId) (N K h0 i : Nat) (U : State) : State := (U.pushCell (mg_row cI K)).setCell h0 ((mg_out cO N h0 i).setSlot i (.ref (h0 + 1 + i)))
theorem mg_out0 (cO : ClassId) (N h0 : Nat) : ({ cls := cO, slots := Array.replicate N .null, vm := .none } : Cell) = mg_out cO N h0 0 := by
  rw [arrV_new]
  refine arrV_ext (fun j _ => ?_)
  show Value.null = va_rf (if j < 0 then some (h0 + 1 + j) else none)
  rw [if_neg (Nat.not_lt_zero j)]
  rfl
theorem mg_outN (cO : ClassId) (N h0 : Nat) : mg_out cO N h0 N = arrV cO N (fun j => va_rf (some (h0 + 1 + j))) := by
  refine arrV_ext (fun j hj => ?_)
  show va_rf (if j < N then some (h0 + 1 + j) else none) = _
  rw [if_pos hj]
theorem mg_outS (cO : ClassId) (N h0 i : Nat) : (mg_out cO N h0 i).setSlot i (.ref (h0 + 1 + i)) = mg_out cO N h0 (i + 1) := by
  unfold mg_out
  rw [arrV_store]
  refine arrV_ext (fun j _ => ?_)
  show (if j = i then Value.ref (h0 + 1 + i) else va_rf (if j < i then some (h0 + 1 + j) else none)) = va_rf (if j < i + 1 then some (h0 + 1 + j) else none)
  by_cases h : j = i
  · subst h
    rw [if_pos rfl, if_pos (Nat.lt_succ_self j)]
    rfl
  · rw [if_neg h]
    by_cases h2 : j < i
    · rw [if_pos h2, if_pos (by omega)]
    · rw [if_neg h2, if_neg (by omega)]
/-- what stands when i rows are made -/
def mg_I (p : Program) (l : Launch) (e : Env) (R : Room) (s : State) (m : MethodId) (args : Array Value) (below : List Frame) (meth : Method) (c : Code) (locs : List Loc) (cells slots : Nat) (H : Heap) (v1 : Vm) (cO cI : ClassId) (N K i : Nat) (U : State) : Prop :=
  Stand p l e R s m args below meth c U locs (cells + 1 + i) (slots + N + i * K) ∧ U.vm = v1 ∧ U.heap.size = H.size + 1 + i ∧ U.heap[H.size]? = some (mg_out cO N H.size i) ∧ (∀ x : Nat, x < H.size → U.heap[x]? = H[x]?) ∧ ∀ j : Nat, j < i → U.heap[H.size + 1 + j]? = some (mg_row cI K)
theorem mg_start {T : State} (X : Stand p l e R s m args below meth c T locs cells slots) (cO cI : ClassId) (N K : Nat) : mg_I p l e R s m args below meth c locs cells slots T.heap T.vm cO cI N K 0 (T.pushCell (mg_out cO N T.heap.size 0)) := by
  have h := X.pushed (mg_out cO N T.heap.size 0)
  have hz : (mg_out cO N T.heap.size 0).slots.size = N := arrV_size _ _ _
  rw [hz] at h
  refine ⟨?_, rfl, ?_, State.heap_pushCell_size _ _, fun x hx => State.heap_pushCell_of_lt _ _ hx, fun j hj => absurd hj (Nat.not_lt_zero j)⟩
  · rw [Nat.zero_mul]; exact h
  · show (T.heap.push _).size = _
    rw [Array.size_push]
theorem mg_step {H : Heap} {v1 : Vm} {cO cI : ClassId} {N K i : Nat} {U : State} (hs : s.heap.size ≤ H.size) (hI : mg_I p l e R s m args below meth c locs cells slots H v1 cO cI N K i U) : mg_I p l e R s m args below meth c locs cells slots H v1 cO cI N K (i + 1) (mg_nx cO cI N K H.size i U) := by
  obtain ⟨X, hv, hz, ho, hk, hr⟩ := hI
  have hlt : H.size < U.heap.size := by omega
  have hc1 : (U.pushCell (mg_row cI K)).heap[H.size]? = some (mg_out cO N H.size i) := (State.heap_pushCell_of_lt _ _ hlt).trans ho
  have Y := ((X.pushed (mg_row cI K)).stored hc1 i (.ref (H.size + 1 + i))).dropFresh (fun x hx => by rw [List.mem_singleton.mp hx]; exact hs)
  have hKz : (mg_row cI K).slots.size = K := arrV_size _ _ _
  rw [hKz] at Y
  refine ⟨?_, hv, ?_, ?_, fun x hx => ?_, fun j hj => ?_⟩
  · have e1 : slots + N + (i + 1) * K = slots + N + i * K + K := by rw [Nat.succ_mul]; omega
    rw [e1]
    exact Y
  · show ((U.heap.push _).setIfInBounds _ _).size = _
    rw [Array.size_setIfInBounds, Array.size_push]
    omega
  · rw [← mg_outS]
    exact State.heap_setCell_self hc1
  · exact (State.heap_setCell_other (Nat.ne_of_gt hx)).trans ((State.heap_pushCell_of_lt _ _ (Nat.lt_trans hx hlt)).trans (hk x hx))
  · refine (State.heap_setCell_other (show H.size ≠ H.size + 1 + j by omega)).trans ?_
    by_cases h : j < i
    · exact (State.heap_pushCell_of_lt _ _ (show H.size + 1 + j < U.heap.size by omega)).trans (hr j h)
    · have e1 : H.size + 1 + j = U.heap.size := by omega
      rw [e1]
      exact State.heap_pushCell_size _ _
/-- the rest of the making, from any row on: where it ends, and that it ends there -/
theorem mg_loop {g : JFrame} {H : Heap} {v1 : Vm} {cO cI : ClassId} {N K : Nat} (hs : s.heap.size ≤ H.size) : ∀ (j i : Nat) (U : State), i + j = N → mg_I p l e R s m args below meth c locs cells slots H v1 cO cI N K i U → ∃ U' : State, mg_I p l e R s m args below meth c locs cells slots H v1 cO cI N K N U' ∧ ∀ (body : Nat → PUnit → Sem (ForInStep PUnit)) (E : CtlPost), (∀ (i' : Nat) (V : State) (d : Bool) (acts : List Action) (Q : ForInStep PUnit → Pre), i' < N → mg_I p l e R s m args below meth c locs cells slots H v1 cO cI N K i' V → (∀ d' acts', Q (ForInStep.yield PUnit.unit) d' acts' ((mg_nx cO cI N K H.size i' V).setTop g)) → wp (body i' PUnit.unit) Q E e d acts (V.setTop g)) → ∀ (d : Bool) (acts : List Action) (Q : PUnit → Pre), (∀ d' acts', Q PUnit.unit d' acts' (U'.setTop g)) → wp (forIn (List.range' i j) PUnit.unit body) Q E e d acts (U.setTop g) := by
  intro j
  induction j with
  | zero =>
    intro i U hij hI
    refine ⟨U, ?_, fun body E hb d acts Q hq => ?_⟩
    · have e1 : i = N := by omega
      rw [e1] at hI
      exact hI
    · show wp (forIn ([] : List Nat) PUnit.unit body) Q E e d acts (U.setTop g)
      simp only [List.forIn_nil, wp_pure']
      exact hq _ _
  | succ j ih =>
    intro i U hij hI
    obtain ⟨U', h1, h2⟩ := ih (i + 1) _ (by omega) (mg_step hs hI)
    refine ⟨U', h1, fun body E hb d acts Q hq => ?_⟩
    rw [List.range'_succ, List.forIn_cons, wp_bind']
    exact hb i U d acts _ (by omega) hI (fun d' acts' => h2 body E hb d' acts' Q hq)
theorem mg_wpRow {E : CtlPost} {d : Bool} {acts : List Action} {U : State} {cI cc : ClassId} {kc : Class} {k : Int32} (h1 : U.vm.classes[cI]? = some kc) (h2 : kc.kind = .array cc .int) (hk : ¬ k < 0) (hl : ¬ k.toNatClampNeg > e.platform.arrayLengthLimit) (hh : ¬ k.toNatClampNeg * 4 > e.platform.maxHeapBytes) (hc : U.heap.size < e.platform.maxCells) (hu : U.slotsUsed + k.toNatClampNeg ≤ e.platform.maxSlots) {Q : Addr → Pre} (hq : ∀ acts', Q U.heap.size d acts' (U.pushCell (mg_row cI k.toNatClampNeg))) : wp (multianewarray.make cI [k]) Q E e d acts U := by
  rw [multianewarray.make]
  simp only [wp_bind', W.ite, hk, if_false, wp_pure', W.theClass, h1, h2, Option.some.injEq, exists_eq_left']
  refine W.newArray_of h1 h2 hl hh hc hu rfl (fun acts' => ?_)
  have h9 := hq acts'
  rw [show mg_row cI k.toNatClampNeg = ({ cls := cI, slots := Array.replicate k.toNatClampNeg (.int 0), vm := .none } : Cell) from (arrV_new cI k.toNatClampNeg (.int 0)).symm] at h9
  exact h9
theorem mg_make {T : State} {g : JFrame} (X : Stand p l e R s m args below meth c T locs cells slots) {cO cI cc : ClassId} {kO kc : Class} {n k : Int32} (hO : T.vm.classes[cO]? = some kO) (hOk : kO.kind = .array cI (.array .int)) (hC : T.vm.classes[cI]? = some kc) (hCk : kc.kind = .array cc .int) (hn : ¬ n < 0) (hk : ¬ k < 0) (hb1 : n.toNatClampNeg * 4 ≤ 536870912) (hb2 : k.toNatClampNeg * 4 ≤ 536870912) (hcells : cells + (1 + n.toNatClampNeg) ≤ R.cells) (hslots : slots + (n.toNatClampNeg + n.toNatClampNeg * k.toNatClampNeg) ≤ R.slots) : ∃ U : State, mg_I p l e R s m args below meth c locs cells slots T.heap T.vm cO cI n.toNatClampNeg k.toNatClampNeg n.toNatClampNeg U ∧ ∀ (E : CtlPost) (d : Bool) (acts : List Action) (Q : Addr → Pre), (∀ d' acts', Q T.heap.size d' acts' (U.setTop g)) → wp (multianewarray.make cO [n, k]) Q E e d acts (T.setTop g) := by
  obtain ⟨U, h1, h2⟩ := mg_loop (g := g) X.heapGrown n.toNatClampNeg 0 _ (Nat.zero_add _) (mg_start X cO cI n.toNatClampNeg k.toNatClampNeg)
  refine ⟨U, h1, fun E d acts Q hq => ?_⟩
  have a1 := Launch.admits_arrayLengthLimit X.admits
  have a2 := Launch.admits_maxHeapBytes X.admits
  have hl1 : ¬ n.toNatClampNeg > e.platform.arrayLengthLimit := by omega
  have hl2 : ¬ k.toNatClampNeg > e.platform.arrayLengthLimit := by omega
  have hh1 : ¬ n.toNatClampNeg * 4 > e.platform.maxHeapBytes := by omega
  have hh2 : ¬ k.toNatClampNeg * 4 > e.platform.maxHeapBytes := by omega
  obtain ⟨r1, r2⟩ := X.roomAbove (a := 1) (b := n.toNatClampNeg) (by omega) (Nat.le_trans (Nat.add_le_add_left (Nat.le_add_right _ _) _) hslots)
  have hfind : ([k].find? (· < 0)) = none := by simp [hk]
  have hfit : ∀ a : Addr, fits (.array .int) (.ref a) = true := fun a => rfl
  have e0 : (T.setTop g).pushCell { cls := cO, slots := Array.replicate n.toNatClampNeg .null } = (T.pushCell (mg_out cO n.toNatClampNeg T.heap.size 0)).setTop g := by
    rw [← mg_out0]
    rfl
  rw [multianewarray.make]
  simp only [wp_bind', W.ite, hn, if_false, wp_pure', W.theClass, State.vm_setTop, hO, hOk, Option.some.injEq, exists_eq_left']
  refine W.newArray_of (k := kO) (comp := cI) (type := .array .int) hO hOk hl1 hh1 r1 r2 rfl (fun acts' => ?_)
  rw [e0]
  simp only [hfind]
  rw [ite_self, wp_bind', Std.Legacy.Range.forIn_eq_forIn_range']
  have hsz : ([:n.toNatClampNeg] : Std.Legacy.Range).size = n.toNatClampNeg := by simp [Std.Legacy.Range.size]
  rw [hsz]
  refine h2 _ E (fun i V d1 acts1 Q1 hi hI hq1 => ?_) d acts' _ (fun d1 acts1 => ?_)
  · have hI' := hI
    obtain ⟨Y, hv, hz, ho, -, -⟩ := hI'
    have hmul : i * k.toNatClampNeg + k.toNatClampNeg ≤ n.toNatClampNeg * k.toNatClampNeg := by
      rw [← Nat.succ_mul]
      exact Nat.mul_le_mul_right _ hi
    obtain ⟨q1, q2⟩ := Y.roomAbove (a := 1) (b := k.toNatClampNeg) (by omega) (by omega)
    have hVO : V.vm.classes[cO]? = some kO := by rw [hv]; exact hO
    simp only [wp_bind']
    refine mg_wpRow (U := V.setTop g) (by rw [State.vm_setTop, hv]; exact hC) hCk hk hl2 hh2 q1 q2 (fun acts2 => ?_)
    simp only [wp_bind', W.writeLoc, wp_pure']
    refine ⟨mg_out cO n.toNatClampNeg T.heap.size i, ?_, ?_, ?_, ?_, ?_⟩
    · exact (State.heap_pushCell_of_lt V _ (show T.heap.size < V.heap.size by omega)).trans ho
    · show (VmData.none : VmData) ≠ .unknown
      intro h
      cases h
    · rw [show (mg_out cO n.toNatClampNeg T.heap.size i).slots.size = n.toNatClampNeg from arrV_size _ _ _]
      exact hi
    · show ((V.setTop g).pushCell (mg_row cI k.toNatClampNeg)).fitsSlot cO .none i (.ref (V.setTop g).heap.size) = true
      simp [State.fitsSlot, State.slotType?, hVO, hOk, hfit]
    · have h9 := hq1 true
      rw [show (mg_nx cO cI n.toNatClampNeg k.toNatClampNeg T.heap.size i V).setTop g = ((V.setTop g).pushCell (mg_row cI k.toNatClampNeg)).setCell T.heap.size ((mg_out cO n.toNatClampNeg T.heap.size i).setSlot i (.ref V.heap.size)) by rw [hz]; rfl] at h9
      exact h9 _
  · simp only [wp_pure']
    exact hq _ _
theorem mg_mna {T : State} (X : Stand p l e R s m args below meth c T locs cells slots) (hexec : p.tables.exec = Jvm.exec) {own : String} {index : Nat} (hown : s.vm.findClass own = some m.cls) (hclink : (Cond.classLink own index ("[" ++ (FieldType.array .int).toString)).before args s = true) (hover : (Cond.arrayOver (.array .int)).before args s = true) (harr : (Cond.arrayClass .int).before args s = true) {g : JFrame} (hg : g.method = m) (hd : decode c.code g.pc = .ok (.multianewarray index 2, 4)) {n k : Int32} {rest : List Value} (hst : g.stack = .int k :: .int n :: rest) (hn : ¬ n < 0) (hk : ¬ k < 0) (hb1 : n.toNatClampNeg * 4 ≤ 536870912) (hb2 : k.toNatClampNeg * 4 ≤ 536870912) (hcells : cells + (1 + n.toNatClampNeg) ≤ R.cells) (hslots : slots + (n.toNatClampNeg + n.toNatClampNeg * k.toNatClampNeg) ≤ R.slots) : ∃ (v1 : Vm) (cO cI : ClassId) (U : State), s.vm.findClass ("[" ++ (FieldType.array .int).toString) = some cO ∧ s.vm.findClass (FieldType.array .int).toString = some cI ∧ mg_I p l e R s m args below meth c locs cells slots T.heap v1 cO cI n.toNatClampNeg k.toNatClampNeg n.toNatClampNeg U ∧ ∀ target, Steps p.tables e below (U.setTop { g with pc := g.pc + 4, stack := .ref T.heap.size :: rest }) target → Steps p.tables e below (T.setTop g) target := by
  subst hg
  obtain ⟨cI, cO, kO, fI, -, hO, hOk, fO⟩ := arrayOverA_spec hover
  obtain ⟨cI', kc, cc, fI', hC, hCk⟩ := Cond.arrayClass_spec harr
  cases Option.some.inj (fI'.symm.trans fI)
  obtain ⟨c0, fc0, hcl⟩ := Cond.classLink_spec hown hclink e.platform (by rw [X.admits.platform])
  cases Option.some.inj (fO.symm.trans fc0)
  obtain ⟨hg1, hw, hr⟩ := State.classEntry (e := e) X.warmed hcl
  generalize T.vm.noted g.method.cls index (.cls cO) = v1 at hg1 hw hr
  obtain ⟨kO1, hO1, eO⟩ := hw.alike.2.2 _ _ hO
  obtain ⟨kc1, hC1, eC⟩ := hw.alike.2.2 _ _ hC
  obtain ⟨U, hU, hwp⟩ := mg_make (g := { g with stack := rest }) (X.noted hw) hO1 (show kO1.kind = .array cI (.array .int) by rw [eO]; exact hOk) hC1 (show kc1.kind = .array cc .int by rw [eC]; exact hCk) hn hk hb1 hb2 hcells hslots
  have XU := hU.1
  refine ⟨v1, cO, cI, U, fO, fI, hU, fun target hgo => ?_⟩
  jvm_step X.here [hexec, hd]
  simp only [multianewarray.sem, wp_bind', W.resolveClassAt_links (State.method?_setTop g X.here.top) hg1]
  rw [W.popN, if_neg (by decide)]
  refine ⟨g, State.topJava?_setTop' (s := T.setVm v1) g X.here.top, [.int n, .int k], rest, rfl, hst, ?_⟩
  simp only [List.mapM_cons, List.mapM_nil, wp_bind', wp_pure']
  rw [show ((T.setTop g).setVm v1).setTop { g with stack := rest } = (T.setVm v1).setTop { g with stack := rest } from State.setTop_setTop (T.setVm v1) g _]
  refine hwp _ _ _ _ (fun d' acts' => ?_)
  simp only [wp_bind', W.mark, W.pushRef, State.topJava?_setTop' _ XU.here.top, Option.some.injEq, exists_eq_left', State.setTop_setTop, State.heap_setTop]
  intro acts
  simp [jvm, XU.here.top]
  exact hgo
end MG
section KR2
variable {p : Program} {l : Launch} {e : Env} {R : Room} {s : State} {m : MethodId} {args : Array Value} {below : List Frame} {meth : Method} {c : Code} {A : Nat → Prop} {Q : State → Prop} {D : va_G} {ca ss : Nat → Nat} {n : Nat} {own : String} {cc : ByteArray} {ret : Option FieldType} {ws ws' : va_W} {cells slots : Nat} {lv lv' : List (Nat × Value)} {pc : Nat} {rest : List Value}
theorem kj_put (C : kX p s m args meth c A D ca ss n own cc ret) {Cn : String} {T : u_T} {NN ci index a : Nat} {fs : List Value} (q0 : Nat) (he : ws[q0]? = some (a, .inr (ci, fs))) (hin : ∀ w ∈ u_ws Cn T NN, w ∈ gTG) (hc : vwCl[ci]? = some (Cn, T, NN)) (k : Nat) (hk : k < NN) (ty0 : Nat → FieldType) (hty : ∀ k, k < NN → parseFieldDescriptor (T k).2.2.1 = some (ty0 k)) (hnm : ∀ a, a < NN → ∀ b, b < NN → a ≠ b → (T a).2.1 ≠ (T b).2.1) (hlink : Cond.fieldLink own index (T k).1 (T k).2.1 (T k).2.2.1 ∈ gTG) (hfin : (T k).2.2.2 = false) {v : Value} (hn : narrow (ty0 k) v = v) (hfit : fits (ty0 k) v = true) (hlen : k < fs.length) (hw : ws.set q0 (a, .inr (ci, fs.set k v)) = ws') (hd : decode cc pc = .ok (.putfield index, 3)) (kk : kJ p l e R s m args below meth c A Q D n ws' cells slots lv (pc + 3) rest) : kJ p l e R s m args below meth c A Q D n ws cells slots lv pc (v :: .ref a :: rest) := by
  intro H locs ls hP hD hS hl
  obtain ⟨⟨hx, hb, hml, hown, hts, ⟨hK, hN, hSt⟩, hlk, hr, hA⟩, hMk, hFs⟩ := C
  exact va_put hx hb hts hin ty0 hty hnm hown hK hP hD hS q0 he hc k hk (hts _ hlink) (fun _ h9 => h9) hfin (hty k hk) hn hfit hlen hd (fun H1 locs1 hP1 hD1 hS1 => kk H1 locs1 ls (hw ▸ hP1) (hw ▸ hD1) hS1 hl)
theorem kj_putF (C : kX p s m args meth c A D ca ss n own cc ret) (hin2 : meth.name = "<init>") {Cn : String} {T : u_T} {NN ci index a : Nat} {fs : List Value} (q0 : Nat) (he : ws[q0]? = some (a, .inr (ci, fs))) (hin : ∀ w ∈ u_ws Cn T NN, w ∈ gTG) (hc : vwCl[ci]? = some (Cn, T, NN)) (k : Nat) (hk : k < NN) (ty0 : Nat → FieldType) (hty : ∀ k, k < NN → parseFieldDescriptor (T k).2.2.1 = some (ty0 k)) (hnm : ∀ a, a < NN → ∀ b, b < NN → a ≠ b → (T a).2.1 ≠ (T b).2.1) (hlink : Cond.fieldLink own index (T k).1 (T k).2.1 (T k).2.2.1 ∈ gTG) (hfin : (T k).2.2.2 = true) (hdecl : (T k).1 = own) {v : Value} (hn : narrow (ty0 k) v = v) (hfit : fits (ty0 k) v = true) (hlen : k < fs.length) (hw : ws.set q0 (a, .inr (ci, fs.set k v)) = ws') (hd : decode cc pc = .ok (.putfield index, 3)) (kk : kJ p l e R s m args below meth c A Q D n ws' cells slots lv (pc + 3) rest) : kJ p l e R s m args below meth c A Q D n ws cells slots lv pc (v :: .ref a :: rest) := by
  intro H locs ls hP hD hS hl
  obtain ⟨⟨hx, hb, hml, hown, hts, ⟨hK, hN, hSt⟩, hlk, hr, hA⟩, hMk, hFs⟩ := C
  exact va_putF hx hb hts hin ty0 hty hnm hown hK hP hD hS q0 he hc k hk (hts _ hlink) (fun _ h9 => h9) hfin hin2 hdecl (hty k hk) hn hfit hlen hd (fun H1 locs1 hP1 hD1 hS1 => kk H1 locs1 ls (hw ▸ hP1) (hw ▸ hD1) hS1 hl)
theorem kj_get (C : kX p s m args meth c A D ca ss n own cc ret) {Cn : String} {T : u_T} {NN ci index a : Nat} {fs : List Value} (q0 : Nat) (he : ws[q0]? = some (a, .inr (ci, fs))) (hin : ∀ w ∈ u_ws Cn T NN, w ∈ gTG) (hc : vwCl[ci]? = some (Cn, T, NN)) (k : Nat) (hk : k < NN) (hlink : Cond.fieldLink own index (T k).1 (T k).2.1 (T k).2.2.1 ∈ gTG) {v : Value} (hv : fs[k]? = some v) (hd : decode cc pc = .ok (.getfield index, 3)) (kk : kJ p l e R s m args below meth c A Q D n ws cells slots lv (pc + 3) (v :: rest)) : kJ p l e R s m args below meth c A Q D n ws cells slots lv pc (.ref a :: rest) := by
  intro H locs ls hP hD hS hl
  obtain ⟨⟨hx, hb, hml, hown, hts, ⟨hK, hN, hSt⟩, hlk, hr, hA⟩, hMk, hFs⟩ := C
  exact va_get hx hb hts hin hown hK hP q0 he hc k hk (hts _ hlink) (fun _ h9 => h9) hv hd (kk H locs ls hP hD hS hl)
theorem kj_iast (C : kX p s m args meth c A D ca ss n own cc ret) {a nn : Nat} {g : Nat → Int32} (q0 : Nat) (he : ws[q0]? = some (a, .inl (ca 0, nn, .inl g))) {i x : Int32} (hin : vp_in i nn) (hw : ws.set q0 (a, .inl (ca 0, nn, .inl (upd g i.toNatClampNeg x))) = ws') (hd : decode cc pc = .ok (.iastore, 1)) (kk : kJ p l e R s m args below meth c A Q D n ws' cells slots lv (pc + 1) rest) : kJ p l e R s m args below meth c A Q D n ws cells slots lv pc (.int x :: .int i :: .ref a :: rest) := by
  intro H locs ls hP hD hS hl
  obtain ⟨⟨hx, hb, hml, hown, hts, ⟨hK, hN, hSt⟩, hlk, hr, hA⟩, hMk, hFs⟩ := C
  exact va_iast hx hb hK hP hD hS q0 0 he rfl hin hd (fun H1 locs1 hP1 hD1 hS1 => kk H1 locs1 ls (hw ▸ hP1) (hw ▸ hD1) hS1 hl)
theorem kj_mmax (C : kX p s m args meth c A D ca ss n own cc ret) {x y : Int32} {index : Nat} (h1 : Cond.methodLink own index Lib.Math.max.name ∈ gTG) (h2 : Cond.static Lib.Math.max.name ∈ gTG) (h3 : Cond.initialized "java/lang/Math" ∈ gTG) (h4 : Cond.code Lib.Math.max.name Lib.Math.max.code 2 (some .int) ∈ gTG) (hR : 1 ≤ R.frames ∧ 30 ≤ R.locals) (hcs : cells ≤ R.cells ∧ slots ≤ R.slots) (hw : (rest.map fun v => v.category).sum ≤ 8) (hd : decode cc pc = .ok (.invokestatic index, 3)) (kk : kJ p l e R s m args below meth c A Q D n ws cells slots lv (pc + 3) (.int (if x < y then y else x) :: rest)) : kJ p l e R s m args below meth c A Q D n ws cells slots lv pc (.int y :: .int x :: rest) := by
  intro H locs ls hP hD hS hl
  obtain ⟨⟨hx, hb, hml, hown, hts, ⟨hK, hN, hSt⟩, hlk, hr, hA⟩, hMk, hFs⟩ := C
  exact va_mmax hx hb (hml.trans hl.1.symm) hown (hts _ h1) (hts _ h2) (hts _ h3) (hts _ h4) (by omega) (by omega) hcs.1 hcs.2 hd (kk H locs ls hP hD hS hl)
theorem kj_seti {x y : Int32} (h : x = y) (k : kJ p l e R s m args below meth c A Q D n ws cells slots lv pc (.int y :: rest)) : kJ p l e R s m args below meth c A Q D n ws cells slots lv pc (.int x :: rest) := h ▸ k
theorem kj_newTray (C : kX p s m args meth c A D ca ss n own cc ret) {nn : Int32} {index N' : Nat} (h1 : Cond.classLink own index "StarTracker$Tray" ∈ gTG) (hn : ¬ nn < 0) (hNN : nn.toNatClampNeg = N') (hbytes : N' * 4 ≤ 536870912) (hcells : cells + 1 ≤ R.cells) (hslots : slots + N' ≤ R.slots) (hd : decode cc pc = .ok (.anewarray index, 3)) (kk : ∀ q : Nat, kJ p l e R s m args below meth c A Q D n (ws ++ [(q, .inl (ca 4, N', .inr (.inr (.inr (.inr (fun _ => none))))))]) (cells + 1) (slots + N') lv (pc + 3) (.ref q :: rest)) : kJ p l e R s m args below meth c A Q D n ws cells slots lv pc (.int nn :: rest) := by
  intro H locs ls hP hD hS hl
  obtain ⟨⟨hx, hb, hml, hown, hts, ⟨hK, hN, hSt⟩, hlk, hr, hA⟩, hMk, hFs⟩ := C
  subst hNN
  refine W.anew hx hb hown (hts _ h1) (va_AO.use hMk.2.2.1) (g := F0 m pc ls (.int nn :: rest)) rfl hd rfl hn hbytes hcells hslots (fun cA kA comp f1 f2 f3 f4 => ?_)
  cases f1.symm.trans hMk.1.2.2.2.2.1
  generalize hH1 : H.push ({ cls := ca 4, slots := Array.replicate nn.toNatClampNeg .null, vm := .none } : Cell) = H1
  have z1 : H1.size = H.size + 1 := by rw [← hH1, Array.size_push]
  have e1 : H1[H.size]? = some (arrV (ca 4) nn.toNatClampNeg (fun _ => .null)) := by rw [← hH1, Array.getElem?_push_size, ← arrV_new]
  have o1 : ∀ q : Nat, q < H.size → H1[q]? = H[q]? := fun q hq => by rw [← hH1, Array.getElem?_push, if_neg (Nat.ne_of_lt hq)]
  refine W.eq (g2 := F0 m (pc + 3) ls (.ref H.size :: rest)) rfl (kk H.size H1 locs ls ((hP.kept (fun k y hy => o1 y.1 ((hP k y hy).lt))).app (fun k y hy => ?_)) (hD.push hP rfl (hA _ hS.1)) ⟨Nat.le_trans hS.1 (by omega), fun y h1 h2 => (o1 y (Nat.lt_of_lt_of_le h1 hS.1)).trans (hS.2.1 y h1 h2), hS.2.2⟩ hl)
  have hz : k < 1 := (List.getElem?_eq_some_iff.mp hy).1
  rw [show k = 0 by omega] at hy
  cases hy
  exact e1
theorem kj_newSheet (C : kX p s m args meth c A D ca ss n own cc ret) {nn : Int32} {index N' : Nat} (h1 : Cond.classLink own index "StarTracker$Sheet" ∈ gTG) (hn : ¬ nn < 0) (hNN : nn.toNatClampNeg = N') (hbytes : N' * 4 ≤ 536870912) (hcells : cells + 1 ≤ R.cells) (hslots : slots + N' ≤ R.slots) (hd : decode cc pc = .ok (.anewarray index, 3)) (kk : ∀ q : Nat, kJ p l e R s m args below meth c A Q D n (ws ++ [(q, .inl (ca 3, N', .inr (.inr (.inr (.inr (fun _ => none))))))]) (cells + 1) (slots + N') lv (pc + 3) (.ref q :: rest)) : kJ p l e R s m args below meth c A Q D n ws cells slots lv pc (.int nn :: rest) := by
  intro H locs ls hP hD hS hl
  obtain ⟨⟨hx, hb, hml, hown, hts, ⟨hK, hN, hSt⟩, hlk, hr, hA⟩, hMk, hFs⟩ := C
  subst hNN
  refine W.anew hx hb hown (hts _ h1) (va_AO.use hMk.2.1) (g := F0 m pc ls (.int nn :: rest)) rfl hd rfl hn hbytes hcells hslots (fun cA kA comp f1 f2 f3 f4 => ?_)
  cases f1.symm.trans hMk.1.2.2.2.1
  generalize hH1 : H.push ({ cls := ca 3, slots := Array.replicate nn.toNatClampNeg .null, vm := .none } : Cell) = H1
  have z1 : H1.size = H.size + 1 := by rw [← hH1, Array.size_push]
  have e1 : H1[H.size]? = some (arrV (ca 3) nn.toNatClampNeg (fun _ => .null)) := by rw [← hH1, Array.getElem?_push_size, ← arrV_new]
  have o1 : ∀ q : Nat, q < H.size → H1[q]? = H[q]? := fun q hq => by rw [← hH1, Array.getElem?_push, if_neg (Nat.ne_of_lt hq)]
  refine W.eq (g2 := F0 m (pc + 3) ls (.ref H.size :: rest)) rfl (kk H.size H1 locs ls ((hP.kept (fun k y hy => o1 y.1 ((hP k y hy).lt))).app (fun k y hy => ?_)) (hD.push hP rfl (hA _ hS.1)) ⟨Nat.le_trans hS.1 (by omega), fun y h1 h2 => (o1 y (Nat.lt_of_lt_of_le h1 hS.1)).trans (hS.2.1 y h1 h2), hS.2.2⟩ hl)
  have hz : k < 1 := (List.getElem?_eq_some_iff.mp hy).1
  rw [show k = 0 by omega] at hy
  cases hy
  exact e1
theorem kj_astq (C : kX p s m args meth c A D ca ss n own cc ret) {a v nn t0 ci qk : Nat} {r : vw_C} {vs : List Value} {g : Nat → Option Nat} {cA : ClassId} (q0 : Nat) (he : ws[q0]? = some (a, .inl (cA, nn, .inr (.inr (.inr (.inr g)))))) (ht : (gT ca)[t0]? = some (cA, .object r.1)) (hv : ws[qk]? = some (v, .inr (ci, vs))) (hc : vwCl[ci]? = some r) {i : Int32} (hin : vp_in i nn) (hw : ws.set q0 (a, .inl (cA, nn, .inr (.inr (.inr (.inr (va_up g i.toNatClampNeg (some v))))))) = ws') (hd : decode cc pc = .ok (.aastore, 1)) (kk : kJ p l e R s m args below meth c A Q D n ws' cells slots lv (pc + 1) rest) : kJ p l e R s m args below meth c A Q D n ws cells slots lv pc (.ref v :: .int i :: .ref a :: rest) := by
  intro H locs ls hP hD hS hl
  obtain ⟨⟨hx, hb, hml, hown, hts, ⟨hK, hN, hSt⟩, hlk, hr, hA⟩, hMk, hFs⟩ := C
  exact va_astq hx hb hK hP hD hS q0 t0 qk ci he ht hv hc hin hd (fun H1 locs1 hP1 hD1 hS1 => kk H1 locs1 ls (hw ▸ hP1) (hw ▸ hD1) hS1 hl)
theorem kj_mna (C : kX p s m args meth c A D ca ss n own cc ret) {nn kk0 : Int32} {index N' K' : Nat} (h1 : Cond.classLink own index "[[I" ∈ gTG) (hn : ¬ nn < 0) (hk : ¬ kk0 < 0) (hNN : nn.toNatClampNeg = N') (hKK : kk0.toNatClampNeg = K') (hb1 : N' * 4 ≤ 536870912) (hb2 : K' * 4 ≤ 536870912) (hcells : cells + (1 + N') ≤ R.cells) (hslots : slots + (N' + N' * K') ≤ R.slots) (hd : decode cc pc = .ok (.multianewarray index 2, 4)) (kk : ∀ (q : Nat) (r : Nat → Nat), kJ p l e R s m args below meth c A Q D n (ws ++ ((q, .inl (ca 5, N', .inr (.inr (.inr (.inr (fun k => some (r k))))))) :: (List.range N').map (fun i => (r i, .inl (ca 0, K', .inl (kI 0)))))) (cells + 1 + N') (slots + N' + N' * K') lv (pc + 4) (.ref q :: rest)) : kJ p l e R s m args below meth c A Q D n ws cells slots lv pc (.int kk0 :: .int nn :: rest) := by
  intro H locs ls hP hD hS hl
  obtain ⟨⟨hx, hb, hml, hown, hts, ⟨hK, hN, hSt⟩, hlk, hr, hA⟩, hMk, hFs⟩ := C
  subst hNN
  subst hKK
  intro T hT Xs
  subst hT
  obtain ⟨v1, cA, comp, F, fA, fC, ⟨X', -, f1, f2, hold, hrow⟩, step⟩ := mg_mna Xs hx hown (hts _ h1) (show (Cond.arrayOver (.array .int)).before _ s = true from hMk.2.2.2.1) (hts _ w_104) (g := F0 m pc ls (.int kk0 :: .int nn :: rest)) rfl (by rw [hb]; exact hd) rfl hn hk hb1 hb2 hcells hslots
  cases fA.symm.trans hMk.1.2.2.2.2.2
  cases fC.symm.trans hMk.1.1
  rw [mg_outN] at f2
  have hw1 : ∀ (k : Nat) (x : Nat × va_E), (((T.heap.size, .inl (ca 5, nn.toNatClampNeg, .inr (.inr (.inr (.inr (fun k => some (T.heap.size + 1 + k))))))) :: (List.range nn.toNatClampNeg).map (fun i => (T.heap.size + 1 + i, .inl (ca 0, kk0.toNatClampNeg, .inl (kI 0))))) : va_W)[k]? = some x → x.1 = T.heap.size + k ∧ va_at D vwCl x F.heap := by
    intro k x hx
    match k with
    | 0 =>
      cases hx
      exact ⟨rfl, f2⟩
    | k + 1 =>
      rw [List.getElem?_cons_succ, List.getElem?_map] at hx
      by_cases h9 : k < nn.toNatClampNeg
      · rw [List.getElem?_range h9] at hx
        cases hx
        exact ⟨by show T.heap.size + 1 + k = T.heap.size + (k + 1); omega, hrow k h9⟩
      · have hn0 : (List.range nn.toNatClampNeg)[k]? = none := List.getElem?_eq_none (by rw [List.length_range]; omega)
        rw [hn0] at hx
        cases hx
  obtain ⟨t, b1, b2⟩ := kk T.heap.size (fun i => T.heap.size + 1 + i) F.heap locs ls ((hP.kept (fun k y hy => hold y.1 ((hP k y hy).lt))).app (fun k x hx => (hw1 k x hx).2)) (kD_new hD hP (fun k x hx => (hw1 k x hx).1) (fun k => hA _ (Nat.le_trans hS.1 (by omega)))) ⟨Nat.le_trans hS.1 (by omega), fun y h1 h2 => (hold y (Nat.lt_of_lt_of_le h1 hS.1)).trans (hS.2.1 y h1 h2), hS.2.2⟩ hl F rfl X'
  exact ⟨t, step t b1, b2⟩
theorem kj_gets (C : kX p s m args meth c A D ca ss n own cc ret) {index : Nat}  (hlink : Cond.fieldLink own index "StarTracker" "FIRST_SETTINGS" "[I" ∈ gTG) (hd : decode cc pc = .ok (.getstatic index, 3)) (kk : kJ p l e R s m args below meth c A Q D n ws cells slots lv (pc + 3) (.ref (ss 3) :: rest)) : kJ p l e R s m args below meth c A Q D n ws cells slots lv pc rest := by
  intro H locs ls hP hD hS hl
  obtain ⟨⟨hx, hb, hml, hown, hts, ⟨hK, hN, hSt⟩, hlk, hr, hA⟩, hMk, hFs⟩ := C
  exact va_gets hx hb hSt.2.2.2.1 hS hown (hts _ hlink) (fun _ h9 => h9) hd (kk H locs ls hP hD hS hl)
theorem kj_getsN (C : kX p s m args meth c A D ca ss n own cc ret) {index : Nat} {host : String} (hlink : Cond.fieldLinkNest own index "StarTracker" "FIRST_SETTINGS" "[I" host ∈ gNW) (hd : decode cc pc = .ok (.getstatic index, 3)) (kk : kJ p l e R s m args below meth c A Q D n ws cells slots lv (pc + 3) (.ref (ss 3) :: rest)) : kJ p l e R s m args below meth c A Q D n ws cells slots lv pc rest := by
  intro H locs ls hP hD hS hl
  obtain ⟨⟨hx, hb, hml, hown, hts, ⟨hK, hN, hSt⟩, hlk, hr, hA⟩, hMk, hFs⟩ := C
  exact va_getsN hx hb hSt.2.2.2.1 hS hown (va_Nw.use rfl (hN _ hlink)) (fun _ h9 => h9) hd (kk H locs ls hP hD hS hl)
theorem kj_clone (C : kX p s m args meth c A D ca ss n own cc ret) {index : Nat} (h1 : Cond.methodLink own index ⟨"[I", "clone", "()Ljava/lang/Object;"⟩ ∈ gTG) (hR : 1 ≤ R.frames ∧ 40 ≤ R.locals) (hcells : cells + 1 ≤ R.cells) (hslots : slots + 4 ≤ R.slots) (hw : (rest.map fun v => v.category).sum ≤ 8) (hd : decode cc pc = .ok (.invokevirtual index, 3)) (kk : ∀ q : Nat, kJ p l e R s m args below meth c A Q D n (ws ++ [(q, .inl (ca 0, 4, .inl (fun j => gFirst.getD j 0)))]) (cells + 1) (slots + 4) lv (pc + 3) (.ref q :: rest)) : kJ p l e R s m args below meth c A Q D n ws cells slots lv pc (.ref (ss 3) :: rest) := by
  intro H locs ls hP hD hS hl
  obtain ⟨⟨hx, hb, hml, hown, hts, ⟨hK, hN, hSt⟩, hlk, hr, hA⟩, hMk, hFs⟩ := C
  obtain ⟨cell, hc1, hc2, hc3, hc4, hc5, hc6⟩ := hFs
  have hcell : H[ss 3]? = some cell := (hS.2.1 _ (Array.getElem?_eq_some_iff.mp hc1).1 hc6).trans hc1
  obtain ⟨c0, t0, f1, f2, f3⟩ := Cond.castable_spec (va_Nw.use (A := args) rfl hMk.2.2.2.2)
  cases f1.symm.trans hMk.1.1
  have hnew : ({ cls := cell.cls, slots := cell.slots } : Cell) = vp_cell (ca 0) (4, .inl (fun j => gFirst.getD j 0)) := by
    rw [hc2, hc5]
    rfl
  have hcs : cell.slots.size = 4 := by rw [hc5]; rfl
  intro T hT Xs
  obtain ⟨-, kA, hkA, comp, hkind⟩ := State.isArrayOf_alike Xs.warmed.alike ((hK.2 0 _ rfl).1 0 (fun _ => .null))
  obtain ⟨-, kS, hkS, compS, hkindS⟩ := (hK.2 0 _ rfl).1 0 (fun _ => .null)
  have hfit : ∀ (i : Nat) (v : Value), cell.slots[i]? = some v → fits .int v = true := by
    intro i v hv
    rw [hc5] at hv
    match i, hv with
    | 0, hv => cases hv; rfl
    | 1, hv => cases hv; rfl
    | 2, hv => cases hv; rfl
    | 3, hv => cases hv; rfl
    | i + 4, hv => cases hv
  obtain ⟨vm', X', st⟩ := Xs.cloneArray hx hown (hts _ h1) (hts _ w_108) (hts _ w_109) (hts _ w_110) (hts _ w_111) (a := ss 3) (cell := cell) (by rw [hT]; exact hcell) hc4 hc3 (by rw [hc2]; exact hMk.1.1) f2 (by rw [hc2]; exact f3) (fun i v hv => by
      rw [hc2]
      have hk' : T.vm.classes[ca 0]? = some kA := hkA
      simpa [State.fitsSlot, State.slotType?, hk', hkind] using hfit i v hv) (g := F0 m pc ls (.ref (ss 3) :: rest)) rfl (by rw [hml]; exact hl.1) rfl (by rw [hb]; exact hd) hR.1 (by show 2 * 0 + _ + 14 ≤ _; omega) hcells (by rw [hcs]; exact hslots) (hloader := by rw [hc2]; exact Vm.clonesLoader_of_array hkS hkindS)
  rw [hnew, hcs] at X'
  generalize hH1 : H.push (vp_cell (ca 0) (4, .inl (fun j => gFirst.getD j 0))) = H1
  have z1 : H1.size = H.size + 1 := by rw [← hH1, Array.size_push]
  have e1 : H1[H.size]? = some (vp_cell (ca 0) (4, .inl (fun j => gFirst.getD j 0))) := by rw [← hH1, Array.getElem?_push_size]
  have o1 : ∀ q : Nat, q < H.size → H1[q]? = H[q]? := fun q hq => by rw [← hH1, Array.getElem?_push, if_neg (Nat.ne_of_lt hq)]
  obtain ⟨t, b1, b2⟩ := kk H.size H1 locs ls ((hP.kept (fun k y hy => o1 y.1 ((hP k y hy).lt))).app (fun k y hy => by
      have hz : k < 1 := (List.getElem?_eq_some_iff.mp hy).1
      rw [show k = 0 by omega] at hy
      cases hy
      exact e1)) (hD.push hP rfl (hA _ hS.1)) ⟨Nat.le_trans hS.1 (by omega), fun y h1 h2 => (o1 y (Nat.lt_of_lt_of_le h1 hS.1)).trans (hS.2.1 y h1 h2), hS.2.2⟩ hl ((T.setVm vm').pushCell (vp_cell (ca 0) (4, .inl (fun j => gFirst.getD j 0)))) (by rw [← hH1, ← hT]; rfl) X'
  refine ⟨t, st t ?_, b2⟩
  rw [hnew, hT]
  exact b1
theorem kj_cast (C : kX p s m args meth c A D ca ss n own cc ret) {index a : Nat} {x : vp_A} (h1 : Cond.classLink own index "[I" ∈ gTG) (q0 : Nat) (he : ws[q0]? = some (a, .inl (ca 0, x))) (hd : decode cc pc = .ok (.checkcast index, 3)) (kk : kJ p l e R s m args below meth c A Q D n ws cells slots lv (pc + 3) (.ref a :: rest)) : kJ p l e R s m args below meth c A Q D n ws cells slots lv pc (.ref a :: rest) := by
  intro H locs ls hP hD hS hl
  obtain ⟨⟨hx, hb, hml, hown, hts, ⟨hK, hN, hSt⟩, hlk, hr, hA⟩, hMk, hFs⟩ := C
  exact va_castA hx hb hown (hts _ h1) hP q0 he hMk.1.1 hd (kk H locs ls hP hD hS hl)
theorem kj_init (C : kX p s m args meth c A D ca ss n own cc ret) {y : MethodName} {cy : ByteArray} {ny d mc ms h0 index M : Nat} {e0 : va_E} {As st : List Value} {F : (Nat → Nat) → Nat → va_E} {wr : va_W} (q0 : Nat) (isR : List Nat) (hq : ws[q0]? = some (h0, e0)) (hRr : isR.map (fun i => ws[i]?) = wr.map some) (hnd : va_nd isR = true) (hdis : ∀ i ∈ isR, i ∉ [q0]) (hM : kMv l D ca ss y cy ny d mc ms h0 e0 As M F) (hlink : Cond.methodLink own index y ∈ gTG) (hin : Cond.instanceMethod y ∈ gTG) (hyn : y.name = "<init>") (hc : gCal y cy ny none As.length) (hR : d + 1 ≤ R.frames ∧ 19 + ny + 45 * d ≤ R.locals) (hcs : cells + mc ≤ R.cells ∧ slots + ms ≤ R.slots) (hst : st = As.reverse ++ .ref h0 :: rest) (hw : (rest.map fun v => v.category).sum ≤ 8) (hd : decode cc pc = .ok (.invokespecial index, 3)) (kk : ∀ a : Nat → Nat, a 0 = h0 → kJ p l e R s m args below meth c A Q D n (wr ++ gWn a M (F a)) (cells + mc) (slots + ms) lv (pc + 3) rest) : kJ p l e R s m args below meth c A Q D n ws cells slots lv pc st := by
  intro H locs ls hP hD hS hl
  obtain ⟨⟨hx, hb, hml, hown, hts, ⟨hK, hN, hSt⟩, hlk, hr, hA⟩, hMk, hFs⟩ := C
  have hC : [q0].map (fun i => ws[i]?) = [(h0, e0)].map some := by simp [hq]
  have hPc : va_P D vwCl [(h0, e0)] H := hP.sub (ws' := [(h0, e0)]) [q0] (by simp [hq])
  have hDc : va_D A [(h0, e0)] := hD.sub (ws' := [(h0, e0)]) [q0] (by simp [va_nd]) (by simp [hq])
  have hFc := va_free (wc := [(h0, e0)]) hD hS hA [q0] hC
  refine va_callv (va_runI (As := As) (rest := rest) ⟨hx, hb, hml, hown, hts⟩ (hM H.size) (cwI As.length hts (gGood hc.1) rfl rfl rfl (hts _ hc.2.1) (hts _ hlink) (hts _ hin) hyn hc.2.2 ⟨hR.1, by have := hR.2; simp only [kRm]; omega⟩) ⟨kPre_blind _, fun U hU hW => ⟨rfl, by rw [hU], by rw [hU]; exact hPc, hDc.weaken (fun _ _ _ _ => trivial), ⟨va_K.moved hW.alike hK, hN.warm hW, hSt.go hW.alike hFc (fun a h1 h2 => by rw [hU]; exact hS.2.1 a h1 h2)⟩, hMk.warm hW, hFs.go hFc (fun a h1 h2 => by rw [hU]; exact hS.2.1 a h1 h2)⟩⟩ rfl rfl hl.1 hst (lv_room hw) hd hcs) hS (fun q _ h => hFc q h) hFc (fun a t H1 locs1 ht hvm ha hB hz1 hk1 hS1 => ?_)
  obtain ⟨hP1, hD1⟩ := hB
  rw [ht] at hP1
  obtain ⟨hP2, hD2⟩ := va_join (wr := wr) (w1 := gWn a M (F a)) hP hD [q0] isR hC hRr hnd hdis hk1 hFc hP1 hD1
  exact kk a ha H1 locs1 ls hP2 hD2 hS1 hl
theorem kj_initN (C : kX p s m args meth c A D ca ss n own cc ret) {y : MethodName} {cy : ByteArray} {ny d mc ms h0 index M : Nat} {e0 : va_E} {As st : List Value} {F : (Nat → Nat) → Nat → va_E} {wr : va_W} (q0 : Nat) (isR : List Nat) (hq : ws[q0]? = some (h0, e0)) (hRr : isR.map (fun i => ws[i]?) = wr.map some) (hnd : va_nd isR = true) (hdis : ∀ i ∈ isR, i ∉ [q0]) (hM : kMv l D ca ss y cy ny d mc ms h0 e0 As M F) {host : String} (hlink : Cond.methodLinkNest own index y host ∈ gNW) (hin : Cond.instanceMethod y ∈ gTG) (hyn : y.name = "<init>") (hc : gCal y cy ny none As.length) (hR : d + 1 ≤ R.frames ∧ 19 + ny + 45 * d ≤ R.locals) (hcs : cells + mc ≤ R.cells ∧ slots + ms ≤ R.slots) (hst : st = As.reverse ++ .ref h0 :: rest) (hw : (rest.map fun v => v.category).sum ≤ 8) (hd : decode cc pc = .ok (.invokespecial index, 3)) (kk : ∀ a : Nat → Nat, a 0 = h0 → kJ p l e R s m args below meth c A Q D n (wr ++ gWn a M (F a)) (cells + mc) (slots + ms) lv (pc + 3) rest) : kJ p l e R s m args below meth c A Q D n ws cells slots lv pc st := by
  intro H locs ls hP hD hS hl
  obtain ⟨⟨hx, hb, hml, hown, hts, ⟨hK, hN, hSt⟩, hlk, hr, hA⟩, hMk, hFs⟩ := C
  have hC : [q0].map (fun i => ws[i]?) = [(h0, e0)].map some := by simp [hq]
  have hPc : va_P D vwCl [(h0, e0)] H := hP.sub (ws' := [(h0, e0)]) [q0] (by simp [hq])
  have hDc : va_D A [(h0, e0)] := hD.sub (ws' := [(h0, e0)]) [q0] (by simp [va_nd]) (by simp [hq])
  have hFc := va_free (wc := [(h0, e0)]) hD hS hA [q0] hC
  refine va_callv (va_runIN (As := As) (rest := rest) ⟨hx, hb, hml, hown, hts⟩ (hM H.size) ⟨va_cnB As.length hts (gGood hc.1) rfl rfl rfl (hN _ hlink) (hts _ hc.2.1) hc.2.2 ⟨hR.1, by have := hR.2; simp only [kRm]; omega⟩, hyn, hts _ hin⟩ ⟨kPre_blind _, fun U hU hW => ⟨rfl, by rw [hU], by rw [hU]; exact hPc, hDc.weaken (fun _ _ _ _ => trivial), ⟨va_K.moved hW.alike hK, hN.warm hW, hSt.go hW.alike hFc (fun a h1 h2 => by rw [hU]; exact hS.2.1 a h1 h2)⟩, hMk.warm hW, hFs.go hFc (fun a h1 h2 => by rw [hU]; exact hS.2.1 a h1 h2)⟩⟩ rfl rfl hl.1 hst (lv_room hw) hd hcs) hS (fun q _ h => hFc q h) hFc (fun a t H1 locs1 ht hvm ha hB hz1 hk1 hS1 => ?_)
  obtain ⟨hP1, hD1⟩ := hB
  rw [ht] at hP1
  obtain ⟨hP2, hD2⟩ := va_join (wr := wr) (w1 := gWn a M (F a)) hP hD [q0] isR hC hRr hnd hdis hk1 hFc hP1 hD1
  exact kk a ha H1 locs1 ls hP2 hD2 hS1 hl
theorem kj_ext (q0 : Nat) {a nn : Nat} {cA : ClassId} {x y : (Nat → Int32) ⊕ (Nat → Int64) ⊕ (Nat → UInt32) ⊕ (Nat → UInt64) ⊕ (Nat → Option Nat)} (he : ws[q0]? = some (a, .inl (cA, nn, x))) (hx : vp_cell cA (nn, x) = vp_cell cA (nn, y)) (hw : ws.set q0 (a, .inl (cA, nn, y)) = ws') (kk : kJ p l e R s m args below meth c A Q D n ws' cells slots lv pc rest) : kJ p l e R s m args below meth c A Q D n ws cells slots lv pc rest := by
  intro H locs ls hP hD hS hl
  subst hw
  refine kk H locs ls ?_ (hD.set he) hS hl
  have h0 := hP q0 _ he
  have hl0 := (List.getElem?_eq_some_iff.mp he).1
  intro k q hk
  rw [List.getElem?_set] at hk
  by_cases h : q0 = k
  · subst h
    rw [if_pos rfl, if_pos hl0] at hk
    cases hk
    show H[a]? = some (vp_cell cA (nn, y))
    rw [← hx]
    exact h0
  · rw [if_neg h] at hk
    exact hP k q hk
end KR2
