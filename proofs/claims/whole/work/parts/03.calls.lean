/-- what a call asks of a method's words; k: how many it takes beside the receiver -/
def gCal (y : MethodName) (cy : ByteArray) (ny : Nat) (ry : Option FieldType) (k : Nat) : Prop := Cond.code y cy ny ry ∈ gTG ∧ Cond.initialized y.cls ∈ gTG ∧ (y.cls ≠ "java/lang/invoke/MethodHandle" ∧ y.cls ≠ "java/lang/invoke/VarHandle" ∧ (parseMethodDescriptor y.desc).map (fun d => d.parameters.length) = some k)
def gIns (y : MethodName) : Prop := Cond.instanceMethod y ∈ gTG ∧ Cond.selects y.cls y y ∈ gTG
section GC
variable {p : Program} {l : Launch} {e : Env} {R : Room} {s : State} {m : MethodId} {args : Array Value} {below : List Frame} {meth : Method} {c : Code} {A : Nat → Prop} {Q : State → Prop} {D : va_G} {ca ss ad : Nat → Nat} {N n : Nat} {own : String} {cc : ByteArray} {ret : Option FieldType} {f : Nat → va_E} {lv lv' : List (Nat × Value)} {pc : Nat} {rest : List Value} {y : MethodName} {cy : ByteArray} {ny : Nat} {ry : Option FieldType} {d' : Nat} {As st : List Value} {index : Nat}
theorem gFree {H : Heap} {locs : List Loc} (hD : va_D A (gWn ad N f)) (hS : va_S A s.heap H locs) (hA : ∀ q, s.heap.size ≤ q → A q) : ∀ q, va_A (gWn ad N f) H.size q → A q := by
  intro q h
  rcases h with ⟨k, e, h⟩ | h
  · exact hD.2 k (q, e) h
  · exact hA q (Nat.le_trans hS.1 h)
theorem gPre {H : Heap} {locs : List Loc} (hP : va_P D vwCl (gWn ad N f) H) (hD : va_D A (gWn ad N f)) (hS : va_S A s.heap H locs) (hA : ∀ q, s.heap.size ≤ q → A q) (hK : gK D ca ss A s) : ∀ U : State, U.heap = H → s.WarmedH U.vm → gP D ca ss ad N f H.size U := by
  intro U hU hW
  obtain ⟨hK, hN, hSt⟩ := hK
  exact ⟨by rw [hU], by rw [hU]; exact hP, hD.weaken (fun _ _ _ _ => trivial), va_K.moved hW.alike hK, hN.warm hW, hSt.go hW.alike (gFree hD hS hA) (fun a h1 h2 => by rw [hU]; exact hS.2.1 a h1 h2)⟩
theorem gj_callVi (C : gX p s m args meth c A D ca ss n own cc ret) (hs : gIns y) (hlink : Cond.methodLink own index y ∈ gTG) (i : Nat) (hi : i < N) {ci NN : Nat} {fs : List Value} {T : u_T} (hf : f i = .inr (ci, fs)) (hcl : vwCl[ci]? = some (y.cls, T, NN)) {post : Int32 → (Nat → va_E) → Prop} (hM : gMi l D ca ss ad N y cy ny ry d' f (.ref (ad i) :: As) post) (hc : gCal y cy ny ry As.length) (hR : d' + 1 ≤ R.frames ∧ 19 + ny + 45 * d' ≤ R.locals) (hst : st = As.reverse ++ .ref (ad i) :: rest) (hw : (rest.map fun v => v.category).sum ≤ 8) (hd : decode cc pc = .ok (.invokevirtual index, 3)) (kk : ∀ (r : Int32) (u : Nat → va_E), post r u → gJ p l e R s m args below meth c A Q D ad N n u lv (pc + 3) (.int r :: rest)) : gJ p l e R s m args below meth c A Q D ad N n f lv pc st := by
  intro H locs ls hP hD hS hl
  obtain ⟨hx, hb, hml, hown, hts, hKG, hlk, hr, hA⟩ := C
  have hFc := gFree hD hS hA
  refine va_calli (va_runV (As := As) (rest := rest) ⟨hx, hb, hml, hown, hts⟩ (hM H.size) (cwV As.length hts (gGoodL (pre := [.methodLink own index y, .instanceMethod y, .selects y.cls y y, .initialized y.cls]) (fun w hw => by simp only [List.mem_cons, List.not_mem_nil, or_false] at hw; rcases hw with rfl | rfl | rfl | rfl <;> first | exact hlink | exact hs.1 | exact hs.2 | exact hc.2.1) (gGood hc.1)) rfl rfl rfl ⟨rfl, hc.2.2⟩ ⟨hR.1, by have := hR.2; simp only [Rm]; omega⟩) ⟨gP.blind _, va_recv hKG.1 hP hcl (gWn_get hi hf), fun U hU hW => ⟨rfl, gPre hP hD hS hA hKG U hU hW⟩⟩ rfl rfl hl.1 hst (lv_room hw) hd ⟨Nat.zero_le _, Nat.zero_le _⟩) hS (fun q _ h => hFc q h) hFc (fun r u t H1 locs1 ht hvm hw hB hz1 hk1 hS1 => ?_)
  obtain ⟨hP1, hD1⟩ := hB
  rw [ht] at hP1
  exact kk r u hw H1 locs1 ls hP1 (hD1.weaken (fun k q _ h => hFc q.1 h)) hS1 hl
theorem gj_callVl (C : gX p s m args meth c A D ca ss n own cc ret) (hs : gIns y) (hlink : Cond.methodLink own index y ∈ gTG) (i : Nat) (hi : i < N) {ci NN : Nat} {fs : List Value} {T : u_T} (hf : f i = .inr (ci, fs)) (hcl : vwCl[ci]? = some (y.cls, T, NN)) {post : Int64 → (Nat → va_E) → Prop} (hM : gMl l D ca ss ad N y cy ny ry d' f (.ref (ad i) :: As) post) (hc : gCal y cy ny ry As.length) (hR : d' + 1 ≤ R.frames ∧ 19 + ny + 45 * d' ≤ R.locals) (hst : st = As.reverse ++ .ref (ad i) :: rest) (hw : (rest.map fun v => v.category).sum ≤ 8) (hd : decode cc pc = .ok (.invokevirtual index, 3)) (kk : ∀ (r : Int64) (u : Nat → va_E), post r u → gJ p l e R s m args below meth c A Q D ad N n u lv (pc + 3) (.long r :: rest)) : gJ p l e R s m args below meth c A Q D ad N n f lv pc st := by
  intro H locs ls hP hD hS hl
  obtain ⟨hx, hb, hml, hown, hts, hKG, hlk, hr, hA⟩ := C
  have hFc := gFree hD hS hA
  refine va_calll (va_runV (As := As) (rest := rest) ⟨hx, hb, hml, hown, hts⟩ (hM H.size) (cwV As.length hts (gGoodL (pre := [.methodLink own index y, .instanceMethod y, .selects y.cls y y, .initialized y.cls]) (fun w hw => by simp only [List.mem_cons, List.not_mem_nil, or_false] at hw; rcases hw with rfl | rfl | rfl | rfl <;> first | exact hlink | exact hs.1 | exact hs.2 | exact hc.2.1) (gGood hc.1)) rfl rfl rfl ⟨rfl, hc.2.2⟩ ⟨hR.1, by have := hR.2; simp only [Rm]; omega⟩) ⟨gP.blind _, va_recv hKG.1 hP hcl (gWn_get hi hf), fun U hU hW => ⟨rfl, gPre hP hD hS hA hKG U hU hW⟩⟩ rfl rfl hl.1 hst (lv_room hw) hd ⟨Nat.zero_le _, Nat.zero_le _⟩) hS (fun q _ h => hFc q h) hFc (fun r u t H1 locs1 ht hvm hw hB hz1 hk1 hS1 => ?_)
  obtain ⟨hP1, hD1⟩ := hB
  rw [ht] at hP1
  exact kk r u hw H1 locs1 ls hP1 (hD1.weaken (fun k q _ h => hFc q.1 h)) hS1 hl
theorem gj_callVv (C : gX p s m args meth c A D ca ss n own cc ret) (hs : gIns y) (hlink : Cond.methodLink own index y ∈ gTG) (i : Nat) (hi : i < N) {ci NN : Nat} {fs : List Value} {T : u_T} (hf : f i = .inr (ci, fs)) (hcl : vwCl[ci]? = some (y.cls, T, NN)) {post : (Nat → va_E) → Prop} (hM : gMv l D ca ss ad N y cy ny ry d' f (.ref (ad i) :: As) post) (hc : gCal y cy ny ry As.length) (hR : d' + 1 ≤ R.frames ∧ 19 + ny + 45 * d' ≤ R.locals) (hst : st = As.reverse ++ .ref (ad i) :: rest) (hw : (rest.map fun v => v.category).sum ≤ 8) (hd : decode cc pc = .ok (.invokevirtual index, 3)) (kk : ∀ (u : Nat → va_E), post u → gJ p l e R s m args below meth c A Q D ad N n u lv (pc + 3) rest) : gJ p l e R s m args below meth c A Q D ad N n f lv pc st := by
  intro H locs ls hP hD hS hl
  obtain ⟨hx, hb, hml, hown, hts, hKG, hlk, hr, hA⟩ := C
  have hFc := gFree hD hS hA
  refine va_callv (va_runV (As := As) (rest := rest) ⟨hx, hb, hml, hown, hts⟩ (hM H.size) (cwV As.length hts (gGoodL (pre := [.methodLink own index y, .instanceMethod y, .selects y.cls y y, .initialized y.cls]) (fun w hw => by simp only [List.mem_cons, List.not_mem_nil, or_false] at hw; rcases hw with rfl | rfl | rfl | rfl <;> first | exact hlink | exact hs.1 | exact hs.2 | exact hc.2.1) (gGood hc.1)) rfl rfl rfl ⟨rfl, hc.2.2⟩ ⟨hR.1, by have := hR.2; simp only [Rm]; omega⟩) ⟨gP.blind _, va_recv hKG.1 hP hcl (gWn_get hi hf), fun U hU hW => ⟨rfl, gPre hP hD hS hA hKG U hU hW⟩⟩ rfl rfl hl.1 hst (lv_room hw) hd ⟨Nat.zero_le _, Nat.zero_le _⟩) hS (fun q _ h => hFc q h) hFc (fun u t H1 locs1 ht hvm hw hB hz1 hk1 hS1 => ?_)
  obtain ⟨hP1, hD1⟩ := hB
  rw [ht] at hP1
  exact kk u hw H1 locs1 ls hP1 (hD1.weaken (fun k q _ h => hFc q.1 h)) hS1 hl
theorem gj_callVr (C : gX p s m args meth c A D ca ss n own cc ret) (hs : gIns y) (hlink : Cond.methodLink own index y ∈ gTG) (i : Nat) (hi : i < N) {ci NN : Nat} {fs : List Value} {T : u_T} (hf : f i = .inr (ci, fs)) (hcl : vwCl[ci]? = some (y.cls, T, NN)) {post : Nat → (Nat → va_E) → Prop} (hM : gMr l D ca ss ad N y cy ny ry d' f (.ref (ad i) :: As) post) (hc : gCal y cy ny ry As.length) (hR : d' + 1 ≤ R.frames ∧ 19 + ny + 45 * d' ≤ R.locals) (hst : st = As.reverse ++ .ref (ad i) :: rest) (hw : (rest.map fun v => v.category).sum ≤ 8) (hd : decode cc pc = .ok (.invokevirtual index, 3)) (kk : ∀ (r : Nat) (u : Nat → va_E), post r u → gJ p l e R s m args below meth c A Q D ad N n u lv (pc + 3) (.ref r :: rest)) : gJ p l e R s m args below meth c A Q D ad N n f lv pc st := by
  intro H locs ls hP hD hS hl
  obtain ⟨hx, hb, hml, hown, hts, hKG, hlk, hr, hA⟩ := C
  have hFc := gFree hD hS hA
  refine va_callr (va_runV (As := As) (rest := rest) ⟨hx, hb, hml, hown, hts⟩ (hM H.size) (cwV As.length hts (gGoodL (pre := [.methodLink own index y, .instanceMethod y, .selects y.cls y y, .initialized y.cls]) (fun w hw => by simp only [List.mem_cons, List.not_mem_nil, or_false] at hw; rcases hw with rfl | rfl | rfl | rfl <;> first | exact hlink | exact hs.1 | exact hs.2 | exact hc.2.1) (gGood hc.1)) rfl rfl rfl ⟨rfl, hc.2.2⟩ ⟨hR.1, by have := hR.2; simp only [Rm]; omega⟩) ⟨gP.blind _, va_recv hKG.1 hP hcl (gWn_get hi hf), fun U hU hW => ⟨rfl, gPre hP hD hS hA hKG U hU hW⟩⟩ rfl rfl hl.1 hst (lv_room hw) hd ⟨Nat.zero_le _, Nat.zero_le _⟩) hS (fun q _ h => hFc q h) hFc (fun u r t H1 locs1 ht hvm hw0 hB0 hz1 hk1 hS1 => ?_)
  obtain ⟨hw, hB⟩ := hB0
  obtain ⟨hP1, hD1⟩ := hB
  rw [ht] at hP1
  exact kk r u hw H1 locs1 ls hP1 (hD1.weaken (fun k q _ h => hFc q.1 h)) hS1 hl
theorem gj_callSi (C : gX p s m args meth c A D ca ss n own cc ret) (hs : Cond.static y ∈ gTG) (hlink : Cond.methodLink own index y ∈ gTG) {post : Int32 → (Nat → va_E) → Prop} (hM : gMi l D ca ss ad N y cy ny ry d' f (As) post) (hc : gCal y cy ny ry As.length) (hR : d' + 1 ≤ R.frames ∧ 19 + ny + 45 * d' ≤ R.locals) (hst : st = As.reverse ++ rest) (hw : (rest.map fun v => v.category).sum ≤ 8) (hd : decode cc pc = .ok (.invokestatic index, 3)) (kk : ∀ (r : Int32) (u : Nat → va_E), post r u → gJ p l e R s m args below meth c A Q D ad N n u lv (pc + 3) (.int r :: rest)) : gJ p l e R s m args below meth c A Q D ad N n f lv pc st := by
  intro H locs ls hP hD hS hl
  obtain ⟨hx, hb, hml, hown, hts, hKG, hlk, hr, hA⟩ := C
  have hFc := gFree hD hS hA
  refine va_calli (va_runS (As := As) (rest := rest) ⟨hx, hb, hml, hown, hts⟩ (hM H.size) (va_cwS As.length hts (gGoodL (pre := [.methodLink own index y, .static y, .initialized y.cls]) (fun w hw => by simp only [List.mem_cons, List.not_mem_nil, or_false] at hw; rcases hw with rfl | rfl | rfl <;> first | exact hlink | exact hs | exact hc.2.1) (gGood hc.1)) rfl rfl rfl hc.2.2 ⟨hR.1, by have := hR.2; simp only [Rm]; omega⟩) ⟨gP.blind _, fun U hU hW => ⟨rfl, gPre hP hD hS hA hKG U hU hW⟩⟩ rfl rfl hl.1 hst (lv_room hw) hd ⟨Nat.zero_le _, Nat.zero_le _⟩) hS (fun q _ h => hFc q h) hFc (fun r u t H1 locs1 ht hvm hw hB hz1 hk1 hS1 => ?_)
  obtain ⟨hP1, hD1⟩ := hB
  rw [ht] at hP1
  exact kk r u hw H1 locs1 ls hP1 (hD1.weaken (fun k q _ h => hFc q.1 h)) hS1 hl
theorem gj_callSl (C : gX p s m args meth c A D ca ss n own cc ret) (hs : Cond.static y ∈ gTG) (hlink : Cond.methodLink own index y ∈ gTG) {post : Int64 → (Nat → va_E) → Prop} (hM : gMl l D ca ss ad N y cy ny ry d' f (As) post) (hc : gCal y cy ny ry As.length) (hR : d' + 1 ≤ R.frames ∧ 19 + ny + 45 * d' ≤ R.locals) (hst : st = As.reverse ++ rest) (hw : (rest.map fun v => v.category).sum ≤ 8) (hd : decode cc pc = .ok (.invokestatic index, 3)) (kk : ∀ (r : Int64) (u : Nat → va_E), post r u → gJ p l e R s m args below meth c A Q D ad N n u lv (pc + 3) (.long r :: rest)) : gJ p l e R s m args below meth c A Q D ad N n f lv pc st := by
  intro H locs ls hP hD hS hl
  obtain ⟨hx, hb, hml, hown, hts, hKG, hlk, hr, hA⟩ := C
  have hFc := gFree hD hS hA
  refine va_calll (va_runS (As := As) (rest := rest) ⟨hx, hb, hml, hown, hts⟩ (hM H.size) (va_cwS As.length hts (gGoodL (pre := [.methodLink own index y, .static y, .initialized y.cls]) (fun w hw => by simp only [List.mem_cons, List.not_mem_nil, or_false] at hw; rcases hw with rfl | rfl | rfl <;> first | exact hlink | exact hs | exact hc.2.1) (gGood hc.1)) rfl rfl rfl hc.2.2 ⟨hR.1, by have := hR.2; simp only [Rm]; omega⟩) ⟨gP.blind _, fun U hU hW => ⟨rfl, gPre hP hD hS hA hKG U hU hW⟩⟩ rfl rfl hl.1 hst (lv_room hw) hd ⟨Nat.zero_le _, Nat.zero_le _⟩) hS (fun q _ h => hFc q h) hFc (fun r u t H1 locs1 ht hvm hw hB hz1 hk1 hS1 => ?_)
  obtain ⟨hP1, hD1⟩ := hB
  rw [ht] at hP1
  exact kk r u hw H1 locs1 ls hP1 (hD1.weaken (fun k q _ h => hFc q.1 h)) hS1 hl
theorem gj_callSv (C : gX p s m args meth c A D ca ss n own cc ret) (hs : Cond.static y ∈ gTG) (hlink : Cond.methodLink own index y ∈ gTG) {post : (Nat → va_E) → Prop} (hM : gMv l D ca ss ad N y cy ny ry d' f (As) post) (hc : gCal y cy ny ry As.length) (hR : d' + 1 ≤ R.frames ∧ 19 + ny + 45 * d' ≤ R.locals) (hst : st = As.reverse ++ rest) (hw : (rest.map fun v => v.category).sum ≤ 8) (hd : decode cc pc = .ok (.invokestatic index, 3)) (kk : ∀ (u : Nat → va_E), post u → gJ p l e R s m args below meth c A Q D ad N n u lv (pc + 3) rest) : gJ p l e R s m args below meth c A Q D ad N n f lv pc st := by
  intro H locs ls hP hD hS hl
  obtain ⟨hx, hb, hml, hown, hts, hKG, hlk, hr, hA⟩ := C
  have hFc := gFree hD hS hA
  refine va_callv (va_runS (As := As) (rest := rest) ⟨hx, hb, hml, hown, hts⟩ (hM H.size) (va_cwS As.length hts (gGoodL (pre := [.methodLink own index y, .static y, .initialized y.cls]) (fun w hw => by simp only [List.mem_cons, List.not_mem_nil, or_false] at hw; rcases hw with rfl | rfl | rfl <;> first | exact hlink | exact hs | exact hc.2.1) (gGood hc.1)) rfl rfl rfl hc.2.2 ⟨hR.1, by have := hR.2; simp only [Rm]; omega⟩) ⟨gP.blind _, fun U hU hW => ⟨rfl, gPre hP hD hS hA hKG U hU hW⟩⟩ rfl rfl hl.1 hst (lv_room hw) hd ⟨Nat.zero_le _, Nat.zero_le _⟩) hS (fun q _ h => hFc q h) hFc (fun u t H1 locs1 ht hvm hw hB hz1 hk1 hS1 => ?_)
  obtain ⟨hP1, hD1⟩ := hB
  rw [ht] at hP1
  exact kk u hw H1 locs1 ls hP1 (hD1.weaken (fun k q _ h => hFc q.1 h)) hS1 hl
theorem gj_callSr (C : gX p s m args meth c A D ca ss n own cc ret) (hs : Cond.static y ∈ gTG) (hlink : Cond.methodLink own index y ∈ gTG) {post : Nat → (Nat → va_E) → Prop} (hM : gMr l D ca ss ad N y cy ny ry d' f (As) post) (hc : gCal y cy ny ry As.length) (hR : d' + 1 ≤ R.frames ∧ 19 + ny + 45 * d' ≤ R.locals) (hst : st = As.reverse ++ rest) (hw : (rest.map fun v => v.category).sum ≤ 8) (hd : decode cc pc = .ok (.invokestatic index, 3)) (kk : ∀ (r : Nat) (u : Nat → va_E), post r u → gJ p l e R s m args below meth c A Q D ad N n u lv (pc + 3) (.ref r :: rest)) : gJ p l e R s m args below meth c A Q D ad N n f lv pc st := by
  intro H locs ls hP hD hS hl
  obtain ⟨hx, hb, hml, hown, hts, hKG, hlk, hr, hA⟩ := C
  have hFc := gFree hD hS hA
  refine va_callr (va_runS (As := As) (rest := rest) ⟨hx, hb, hml, hown, hts⟩ (hM H.size) (va_cwS As.length hts (gGoodL (pre := [.methodLink own index y, .static y, .initialized y.cls]) (fun w hw => by simp only [List.mem_cons, List.not_mem_nil, or_false] at hw; rcases hw with rfl | rfl | rfl <;> first | exact hlink | exact hs | exact hc.2.1) (gGood hc.1)) rfl rfl rfl hc.2.2 ⟨hR.1, by have := hR.2; simp only [Rm]; omega⟩) ⟨gP.blind _, fun U hU hW => ⟨rfl, gPre hP hD hS hA hKG U hU hW⟩⟩ rfl rfl hl.1 hst (lv_room hw) hd ⟨Nat.zero_le _, Nat.zero_le _⟩) hS (fun q _ h => hFc q h) hFc (fun u r t H1 locs1 ht hvm hw0 hB0 hz1 hk1 hS1 => ?_)
  obtain ⟨hw, hB⟩ := hB0
  obtain ⟨hP1, hD1⟩ := hB
  rw [ht] at hP1
  exact kk r u hw H1 locs1 ls hP1 (hD1.weaken (fun k q _ h => hFc q.1 h)) hS1 hl
theorem gj_callSNi (C : gX p s m args meth c A D ca ss n own cc ret) (hs : Cond.static y ∈ gTG) {host : String} (hlink : Cond.methodLinkNest own index y host ∈ gNW) {post : Int32 → (Nat → va_E) → Prop} (hM : gMi l D ca ss ad N y cy ny ry d' f (As) post) (hc : gCal y cy ny ry As.length) (hR : d' + 1 ≤ R.frames ∧ 19 + ny + 45 * d' ≤ R.locals) (hst : st = As.reverse ++ rest) (hw : (rest.map fun v => v.category).sum ≤ 8) (hd : decode cc pc = .ok (.invokestatic index, 3)) (kk : ∀ (r : Int32) (u : Nat → va_E), post r u → gJ p l e R s m args below meth c A Q D ad N n u lv (pc + 3) (.int r :: rest)) : gJ p l e R s m args below meth c A Q D ad N n f lv pc st := by
  intro H locs ls hP hD hS hl
  obtain ⟨hx, hb, hml, hown, hts, hKG, hlk, hr, hA⟩ := C
  have hFc := gFree hD hS hA
  refine va_calli (va_runSN (As := As) (rest := rest) ⟨hx, hb, hml, hown, hts⟩ (hM H.size) ⟨va_cnB As.length hts (gGood hc.1) rfl rfl rfl (hKG.2.1 _ hlink) (hts _ hc.2.1) hc.2.2 ⟨hR.1, by have := hR.2; simp only [Rm]; omega⟩, hts _ hs, trivial⟩ ⟨gP.blind _, fun U hU hW => ⟨rfl, gPre hP hD hS hA hKG U hU hW⟩⟩ rfl rfl hl.1 hst (lv_room hw) hd ⟨Nat.zero_le _, Nat.zero_le _⟩) hS (fun q _ h => hFc q h) hFc (fun r u t H1 locs1 ht hvm hw hB hz1 hk1 hS1 => ?_)
  obtain ⟨hP1, hD1⟩ := hB
  rw [ht] at hP1
  exact kk r u hw H1 locs1 ls hP1 (hD1.weaken (fun k q _ h => hFc q.1 h)) hS1 hl
theorem gj_callSNl (C : gX p s m args meth c A D ca ss n own cc ret) (hs : Cond.static y ∈ gTG) {host : String} (hlink : Cond.methodLinkNest own index y host ∈ gNW) {post : Int64 → (Nat → va_E) → Prop} (hM : gMl l D ca ss ad N y cy ny ry d' f (As) post) (hc : gCal y cy ny ry As.length) (hR : d' + 1 ≤ R.frames ∧ 19 + ny + 45 * d' ≤ R.locals) (hst : st = As.reverse ++ rest) (hw : (rest.map fun v => v.category).sum ≤ 8) (hd : decode cc pc = .ok (.invokestatic index, 3)) (kk : ∀ (r : Int64) (u : Nat → va_E), post r u → gJ p l e R s m args below meth c A Q D ad N n u lv (pc + 3) (.long r :: rest)) : gJ p l e R s m args below meth c A Q D ad N n f lv pc st := by
  intro H locs ls hP hD hS hl
  obtain ⟨hx, hb, hml, hown, hts, hKG, hlk, hr, hA⟩ := C
  have hFc := gFree hD hS hA
  refine va_calll (va_runSN (As := As) (rest := rest) ⟨hx, hb, hml, hown, hts⟩ (hM H.size) ⟨va_cnB As.length hts (gGood hc.1) rfl rfl rfl (hKG.2.1 _ hlink) (hts _ hc.2.1) hc.2.2 ⟨hR.1, by have := hR.2; simp only [Rm]; omega⟩, hts _ hs, trivial⟩ ⟨gP.blind _, fun U hU hW => ⟨rfl, gPre hP hD hS hA hKG U hU hW⟩⟩ rfl rfl hl.1 hst (lv_room hw) hd ⟨Nat.zero_le _, Nat.zero_le _⟩) hS (fun q _ h => hFc q h) hFc (fun r u t H1 locs1 ht hvm hw hB hz1 hk1 hS1 => ?_)
  obtain ⟨hP1, hD1⟩ := hB
  rw [ht] at hP1
  exact kk r u hw H1 locs1 ls hP1 (hD1.weaken (fun k q _ h => hFc q.1 h)) hS1 hl
theorem gj_callSNv (C : gX p s m args meth c A D ca ss n own cc ret) (hs : Cond.static y ∈ gTG) {host : String} (hlink : Cond.methodLinkNest own index y host ∈ gNW) {post : (Nat → va_E) → Prop} (hM : gMv l D ca ss ad N y cy ny ry d' f (As) post) (hc : gCal y cy ny ry As.length) (hR : d' + 1 ≤ R.frames ∧ 19 + ny + 45 * d' ≤ R.locals) (hst : st = As.reverse ++ rest) (hw : (rest.map fun v => v.category).sum ≤ 8) (hd : decode cc pc = .ok (.invokestatic index, 3)) (kk : ∀ (u : Nat → va_E), post u → gJ p l e R s m args below meth c A Q D ad N n u lv (pc + 3) rest) : gJ p l e R s m args below meth c A Q D ad N n f lv pc st := by
  intro H locs ls hP hD hS hl
  obtain ⟨hx, hb, hml, hown, hts, hKG, hlk, hr, hA⟩ := C
  have hFc := gFree hD hS hA
  refine va_callv (va_runSN (As := As) (rest := rest) ⟨hx, hb, hml, hown, hts⟩ (hM H.size) ⟨va_cnB As.length hts (gGood hc.1) rfl rfl rfl (hKG.2.1 _ hlink) (hts _ hc.2.1) hc.2.2 ⟨hR.1, by have := hR.2; simp only [Rm]; omega⟩, hts _ hs, trivial⟩ ⟨gP.blind _, fun U hU hW => ⟨rfl, gPre hP hD hS hA hKG U hU hW⟩⟩ rfl rfl hl.1 hst (lv_room hw) hd ⟨Nat.zero_le _, Nat.zero_le _⟩) hS (fun q _ h => hFc q h) hFc (fun u t H1 locs1 ht hvm hw hB hz1 hk1 hS1 => ?_)
  obtain ⟨hP1, hD1⟩ := hB
  rw [ht] at hP1
  exact kk u hw H1 locs1 ls hP1 (hD1.weaken (fun k q _ h => hFc q.1 h)) hS1 hl
theorem gj_callSNr (C : gX p s m args meth c A D ca ss n own cc ret) (hs : Cond.static y ∈ gTG) {host : String} (hlink : Cond.methodLinkNest own index y host ∈ gNW) {post : Nat → (Nat → va_E) → Prop} (hM : gMr l D ca ss ad N y cy ny ry d' f (As) post) (hc : gCal y cy ny ry As.length) (hR : d' + 1 ≤ R.frames ∧ 19 + ny + 45 * d' ≤ R.locals) (hst : st = As.reverse ++ rest) (hw : (rest.map fun v => v.category).sum ≤ 8) (hd : decode cc pc = .ok (.invokestatic index, 3)) (kk : ∀ (r : Nat) (u : Nat → va_E), post r u → gJ p l e R s m args below meth c A Q D ad N n u lv (pc + 3) (.ref r :: rest)) : gJ p l e R s m args below meth c A Q D ad N n f lv pc st := by
  intro H locs ls hP hD hS hl
  obtain ⟨hx, hb, hml, hown, hts, hKG, hlk, hr, hA⟩ := C
  have hFc := gFree hD hS hA
  refine va_callr (va_runSN (As := As) (rest := rest) ⟨hx, hb, hml, hown, hts⟩ (hM H.size) ⟨va_cnB As.length hts (gGood hc.1) rfl rfl rfl (hKG.2.1 _ hlink) (hts _ hc.2.1) hc.2.2 ⟨hR.1, by have := hR.2; simp only [Rm]; omega⟩, hts _ hs, trivial⟩ ⟨gP.blind _, fun U hU hW => ⟨rfl, gPre hP hD hS hA hKG U hU hW⟩⟩ rfl rfl hl.1 hst (lv_room hw) hd ⟨Nat.zero_le _, Nat.zero_le _⟩) hS (fun q _ h => hFc q h) hFc (fun u r t H1 locs1 ht hvm hw0 hB0 hz1 hk1 hS1 => ?_)
  obtain ⟨hw, hB⟩ := hB0
  obtain ⟨hP1, hD1⟩ := hB
  rw [ht] at hP1
  exact kk r u hw H1 locs1 ls hP1 (hD1.weaken (fun k q _ h => hFc q.1 h)) hS1 hl
theorem gj_callVNi (C : gX p s m args meth c A D ca ss n own cc ret) (hs : gIns y) {host : String} (hlink : Cond.methodLinkNest own index y host ∈ gNW) (i : Nat) (hi : i < N) {ci NN : Nat} {fs : List Value} {T : u_T} (hf : f i = .inr (ci, fs)) (hcl : vwCl[ci]? = some (y.cls, T, NN)) {post : Int32 → (Nat → va_E) → Prop} (hM : gMi l D ca ss ad N y cy ny ry d' f (.ref (ad i) :: As) post) (hc : gCal y cy ny ry As.length) (hR : d' + 1 ≤ R.frames ∧ 19 + ny + 45 * d' ≤ R.locals) (hst : st = As.reverse ++ .ref (ad i) :: rest) (hw : (rest.map fun v => v.category).sum ≤ 8) (hd : decode cc pc = .ok (.invokevirtual index, 3)) (kk : ∀ (r : Int32) (u : Nat → va_E), post r u → gJ p l e R s m args below meth c A Q D ad N n u lv (pc + 3) (.int r :: rest)) : gJ p l e R s m args below meth c A Q D ad N n f lv pc st := by
  intro H locs ls hP hD hS hl
  obtain ⟨hx, hb, hml, hown, hts, hKG, hlk, hr, hA⟩ := C
  have hFc := gFree hD hS hA
  refine va_calli (va_runVN (As := As) (rest := rest) ⟨hx, hb, hml, hown, hts⟩ (hM H.size) ⟨va_cnB As.length hts (gGood hc.1) rfl rfl rfl (hKG.2.1 _ hlink) (hts _ hc.2.1) hc.2.2 ⟨hR.1, by have := hR.2; simp only [Rm]; omega⟩, hts _ hs.1, hts _ hs.2⟩ ⟨gP.blind _, va_recv hKG.1 hP hcl (gWn_get hi hf), fun U hU hW => ⟨rfl, gPre hP hD hS hA hKG U hU hW⟩⟩ rfl rfl hl.1 hst (lv_room hw) hd ⟨Nat.zero_le _, Nat.zero_le _⟩) hS (fun q _ h => hFc q h) hFc (fun r u t H1 locs1 ht hvm hw hB hz1 hk1 hS1 => ?_)
  obtain ⟨hP1, hD1⟩ := hB
  rw [ht] at hP1
  exact kk r u hw H1 locs1 ls hP1 (hD1.weaken (fun k q _ h => hFc q.1 h)) hS1 hl
theorem gj_callVNl (C : gX p s m args meth c A D ca ss n own cc ret) (hs : gIns y) {host : String} (hlink : Cond.methodLinkNest own index y host ∈ gNW) (i : Nat) (hi : i < N) {ci NN : Nat} {fs : List Value} {T : u_T} (hf : f i = .inr (ci, fs)) (hcl : vwCl[ci]? = some (y.cls, T, NN)) {post : Int64 → (Nat → va_E) → Prop} (hM : gMl l D ca ss ad N y cy ny ry d' f (.ref (ad i) :: As) post) (hc : gCal y cy ny ry As.length) (hR : d' + 1 ≤ R.frames ∧ 19 + ny + 45 * d' ≤ R.locals) (hst : st = As.reverse ++ .ref (ad i) :: rest) (hw : (rest.map fun v => v.category).sum ≤ 8) (hd : decode cc pc = .ok (.invokevirtual index, 3)) (kk : ∀ (r : Int64) (u : Nat → va_E), post r u → gJ p l e R s m args below meth c A Q D ad N n u lv (pc + 3) (.long r :: rest)) : gJ p l e R s m args below meth c A Q D ad N n f lv pc st := by
  intro H locs ls hP hD hS hl
  obtain ⟨hx, hb, hml, hown, hts, hKG, hlk, hr, hA⟩ := C
  have hFc := gFree hD hS hA
  refine va_calll (va_runVN (As := As) (rest := rest) ⟨hx, hb, hml, hown, hts⟩ (hM H.size) ⟨va_cnB As.length hts (gGood hc.1) rfl rfl rfl (hKG.2.1 _ hlink) (hts _ hc.2.1) hc.2.2 ⟨hR.1, by have := hR.2; simp only [Rm]; omega⟩, hts _ hs.1, hts _ hs.2⟩ ⟨gP.blind _, va_recv hKG.1 hP hcl (gWn_get hi hf), fun U hU hW => ⟨rfl, gPre hP hD hS hA hKG U hU hW⟩⟩ rfl rfl hl.1 hst (lv_room hw) hd ⟨Nat.zero_le _, Nat.zero_le _⟩) hS (fun q _ h => hFc q h) hFc (fun r u t H1 locs1 ht hvm hw hB hz1 hk1 hS1 => ?_)
  obtain ⟨hP1, hD1⟩ := hB
  rw [ht] at hP1
  exact kk r u hw H1 locs1 ls hP1 (hD1.weaken (fun k q _ h => hFc q.1 h)) hS1 hl
theorem gj_callVNv (C : gX p s m args meth c A D ca ss n own cc ret) (hs : gIns y) {host : String} (hlink : Cond.methodLinkNest own index y host ∈ gNW) (i : Nat) (hi : i < N) {ci NN : Nat} {fs : List Value} {T : u_T} (hf : f i = .inr (ci, fs)) (hcl : vwCl[ci]? = some (y.cls, T, NN)) {post : (Nat → va_E) → Prop} (hM : gMv l D ca ss ad N y cy ny ry d' f (.ref (ad i) :: As) post) (hc : gCal y cy ny ry As.length) (hR : d' + 1 ≤ R.frames ∧ 19 + ny + 45 * d' ≤ R.locals) (hst : st = As.reverse ++ .ref (ad i) :: rest) (hw : (rest.map fun v => v.category).sum ≤ 8) (hd : decode cc pc = .ok (.invokevirtual index, 3)) (kk : ∀ (u : Nat → va_E), post u → gJ p l e R s m args below meth c A Q D ad N n u lv (pc + 3) rest) : gJ p l e R s m args below meth c A Q D ad N n f lv pc st := by
  intro H locs ls hP hD hS hl
  obtain ⟨hx, hb, hml, hown, hts, hKG, hlk, hr, hA⟩ := C
  have hFc := gFree hD hS hA
  refine va_callv (va_runVN (As := As) (rest := rest) ⟨hx, hb, hml, hown, hts⟩ (hM H.size) ⟨va_cnB As.length hts (gGood hc.1) rfl rfl rfl (hKG.2.1 _ hlink) (hts _ hc.2.1) hc.2.2 ⟨hR.1, by have := hR.2; simp only [Rm]; omega⟩, hts _ hs.1, hts _ hs.2⟩ ⟨gP.blind _, va_recv hKG.1 hP hcl (gWn_get hi hf), fun U hU hW => ⟨rfl, gPre hP hD hS hA hKG U hU hW⟩⟩ rfl rfl hl.1 hst (lv_room hw) hd ⟨Nat.zero_le _, Nat.zero_le _⟩) hS (fun q _ h => hFc q h) hFc (fun u t H1 locs1 ht hvm hw hB hz1 hk1 hS1 => ?_)
  obtain ⟨hP1, hD1⟩ := hB
  rw [ht] at hP1
  exact kk u hw H1 locs1 ls hP1 (hD1.weaken (fun k q _ h => hFc q.1 h)) hS1 hl
theorem gj_callVNr (C : gX p s m args meth c A D ca ss n own cc ret) (hs : gIns y) {host : String} (hlink : Cond.methodLinkNest own index y host ∈ gNW) (i : Nat) (hi : i < N) {ci NN : Nat} {fs : List Value} {T : u_T} (hf : f i = .inr (ci, fs)) (hcl : vwCl[ci]? = some (y.cls, T, NN)) {post : Nat → (Nat → va_E) → Prop} (hM : gMr l D ca ss ad N y cy ny ry d' f (.ref (ad i) :: As) post) (hc : gCal y cy ny ry As.length) (hR : d' + 1 ≤ R.frames ∧ 19 + ny + 45 * d' ≤ R.locals) (hst : st = As.reverse ++ .ref (ad i) :: rest) (hw : (rest.map fun v => v.category).sum ≤ 8) (hd : decode cc pc = .ok (.invokevirtual index, 3)) (kk : ∀ (r : Nat) (u : Nat → va_E), post r u → gJ p l e R s m args below meth c A Q D ad N n u lv (pc + 3) (.ref r :: rest)) : gJ p l e R s m args below meth c A Q D ad N n f lv pc st := by
  intro H locs ls hP hD hS hl
  obtain ⟨hx, hb, hml, hown, hts, hKG, hlk, hr, hA⟩ := C
  have hFc := gFree hD hS hA
  refine va_callr (va_runVN (As := As) (rest := rest) ⟨hx, hb, hml, hown, hts⟩ (hM H.size) ⟨va_cnB As.length hts (gGood hc.1) rfl rfl rfl (hKG.2.1 _ hlink) (hts _ hc.2.1) hc.2.2 ⟨hR.1, by have := hR.2; simp only [Rm]; omega⟩, hts _ hs.1, hts _ hs.2⟩ ⟨gP.blind _, va_recv hKG.1 hP hcl (gWn_get hi hf), fun U hU hW => ⟨rfl, gPre hP hD hS hA hKG U hU hW⟩⟩ rfl rfl hl.1 hst (lv_room hw) hd ⟨Nat.zero_le _, Nat.zero_le _⟩) hS (fun q _ h => hFc q h) hFc (fun u r t H1 locs1 ht hvm hw0 hB0 hz1 hk1 hS1 => ?_)
  obtain ⟨hw, hB⟩ := hB0
  obtain ⟨hP1, hD1⟩ := hB
  rw [ht] at hP1
  exact kk r u hw H1 locs1 ls hP1 (hD1.weaken (fun k q _ h => hFc q.1 h)) hS1 hl
theorem gj_callAv (C : gX p s m args meth c A D ca ss n own cc ret) {x : MethodName} {Cr : String} (hx1 : Cond.methodLink own index x ∈ gTG) (hx2 : Cond.sameMethod x.cls x.cls x.name x.desc ∈ gTG) (hx3 : Cond.selects Cr x y ∈ gTG) (hx4 : Cond.instanceMethod y ∈ gTG) (hx5 : Cond.declares ⟨x.cls, x.name, x.desc⟩ ∈ gNW) (hx6 : x.cls ≠ "java/lang/invoke/MethodHandle" ∧ x.cls ≠ "java/lang/invoke/VarHandle" ∧ (parseMethodDescriptor x.desc).map (fun d => d.parameters.length) = some As.length) (i : Nat) (hi : i < N) {ci NN : Nat} {fs : List Value} {T : u_T} (hf : f i = .inr (ci, fs)) (hcl : vwCl[ci]? = some (Cr, T, NN)) {post : (Nat → va_E) → Prop} (hM : gMv l D ca ss ad N y cy ny ry d' f (.ref (ad i) :: As) post) (hc : gCal y cy ny ry As.length) (hR : d' + 1 ≤ R.frames ∧ 19 + ny + 45 * d' ≤ R.locals) (hst : st = As.reverse ++ .ref (ad i) :: rest) (hw : (rest.map fun v => v.category).sum ≤ 8) (hd : decode cc pc = .ok (.invokevirtual index, 3)) (kk : ∀ (u : Nat → va_E), post u → gJ p l e R s m args below meth c A Q D ad N n u lv (pc + 3) rest) : gJ p l e R s m args below meth c A Q D ad N n f lv pc st := by
  intro H locs ls hP hD hS hl
  obtain ⟨hx, hb, hml, hown, hts, hKG, hlk, hr, hA⟩ := C
  have hFc := gFree hD hS hA
  refine va_callv (va_runU (As := As) (rest := rest) ⟨hx, hb, hml, hown, hts⟩ (hM H.size) (va_cwA As.length hts (gGoodL (pre := [.methodLink own index x, .sameMethod x.cls x.cls x.name x.desc, .selects Cr x y, .instanceMethod y, .initialized y.cls]) (fun w hw => by simp only [List.mem_cons, List.not_mem_nil, or_false] at hw; rcases hw with rfl | rfl | rfl | rfl | rfl <;> first | exact hx1 | exact hx2 | exact hx3 | exact hx4 | exact hc.2.1) (gGood hc.1)) rfl rfl rfl (hKG.2.1 _ hx5) hx6 ⟨hR.1, by have := hR.2; simp only [Rm]; omega⟩) ⟨gP.blind _, va_recv hKG.1 hP hcl (gWn_get hi hf), fun U hU hW => ⟨rfl, gPre hP hD hS hA hKG U hU hW⟩⟩ rfl rfl hl.1 hst (lv_room hw) hd ⟨Nat.zero_le _, Nat.zero_le _⟩) hS (fun q _ h => hFc q h) hFc (fun u t H1 locs1 ht hvm hw hB hz1 hk1 hS1 => ?_)
  obtain ⟨hP1, hD1⟩ := hB
  rw [ht] at hP1
  exact kk u hw H1 locs1 ls hP1 (hD1.weaken (fun k q _ h => hFc q.1 h)) hS1 hl
theorem gj_iret {post : Int32 → (Nat → va_E) → Prop} {v : Int32} (C : gX p s m args meth c A D ca ss n own cc (some .int)) (hp : post v f) (hd : decode cc pc = .ok (.ireturn, 1)) : gJ p l e R s m args below meth c A (MQ below (va_Qi post (gB D ad N A) A) args s 0 0 A) D ad N n f lv pc [.int v] := by
  intro H locs ls hP hD hS hl
  obtain ⟨hx, hb, hml, hown, hts, hKG, hlk, hr, hA⟩ := C
  exact W.iret hx hb hr (fun t ht hW => ⟨⟨v, f, rfl, hp, by rw [ht]; exact hP, hD⟩, hS.F ht⟩) hS.2.2 hd hlk
theorem gj_zret {post : Int32 → (Nat → va_E) → Prop} {v : Int32} (C : gX p s m args meth c A D ca ss n own cc (some .boolean)) (hn : v = 0 ∨ v = 1) (hp : post v f) (hd : decode cc pc = .ok (.ireturn, 1)) : gJ p l e R s m args below meth c A (MQ below (va_Qi post (gB D ad N A) A) args s 0 0 A) D ad N n f lv pc [.int v] := by
  intro H locs ls hP hD hS hl
  obtain ⟨hx, hb, hml, hown, hts, hKG, hlk, hr, hA⟩ := C
  exact W.zret (ty := .boolean) hx hb hr (by rcases hn with rfl | rfl <;> decide) (fun t ht hW => ⟨⟨v, f, rfl, hp, by rw [ht]; exact hP, hD⟩, hS.F ht⟩) hS.2.2 hd hlk
theorem gj_lret {post : Int64 → (Nat → va_E) → Prop} {v : Int64} (C : gX p s m args meth c A D ca ss n own cc (some .long)) (hp : post v f) (hd : decode cc pc = .ok (.lreturn, 1)) : gJ p l e R s m args below meth c A (MQ below (va_Ql post (gB D ad N A) A) args s 0 0 A) D ad N n f lv pc [.long v] := by
  intro H locs ls hP hD hS hl
  obtain ⟨hx, hb, hml, hown, hts, hKG, hlk, hr, hA⟩ := C
  exact W.lret hx hb hr (fun t ht hW => ⟨⟨v, f, rfl, hp, by rw [ht]; exact hP, hD⟩, hS.F ht⟩) hS.2.2 hd hlk
theorem gj_vret {post : (Nat → va_E) → Prop} (C : gX p s m args meth c A D ca ss n own cc none) (hp : post f) (hd : decode cc pc = .ok (.return_, 1)) : gJ p l e R s m args below meth c A (MQ below (va_Qv post (gB D ad N A) A) args s 0 0 A) D ad N n f lv pc [] := by
  intro H locs ls hP hD hS hl
  obtain ⟨hx, hb, hml, hown, hts, hKG, hlk, hr, hA⟩ := C
  exact W.vret hx hb hr (fun t ht hW => ⟨⟨f, rfl, hp, by rw [ht]; exact hP, hD⟩, hS.F ht⟩) hS.2.2 hd hlk
theorem gj_aret {post : Nat → (Nat → va_E) → Prop} {v : Nat} {rt : FieldType} (C : gX p s m args meth c A D ca ss n own cc (some rt)) (hrt : (∃ n, rt = .object n) ∨ ∃ t, rt = .array t) (hp : post v f) (hd : decode cc pc = .ok (.areturn, 1)) : gJ p l e R s m args below meth c A (MQ below (va_Qr (fun _ : Nat → va_E => True) (fun u a t => post a u ∧ gB D ad N A u t) A) args s 0 0 A) D ad N n f lv pc [.ref v] := by
  intro H locs ls hP hD hS hl
  obtain ⟨hx, hb, hml, hown, hts, hKG, hlk, hr, hA⟩ := C
  exact W.aret hx hb hr hrt (Or.inr ⟨v, rfl⟩) (fun t ht hW => ⟨⟨f, v, rfl, trivial, hp, by rw [ht]; exact hP, hD⟩, hS.F ht⟩) hS.2.2 hd hlk
theorem gj_mmax (C : gX p s m args meth c A D ca ss n own cc ret) {x y : Int32} (h1 : Cond.methodLink own index Lib.Math.max.name ∈ gTG) (h2 : Cond.static Lib.Math.max.name ∈ gTG) (h3 : Cond.initialized "java/lang/Math" ∈ gTG) (h4 : Cond.code Lib.Math.max.name Lib.Math.max.code 2 (some .int) ∈ gTG) (hR : 1 ≤ R.frames ∧ 30 ≤ R.locals) (hw : (rest.map fun v => v.category).sum ≤ 8) (hd : decode cc pc = .ok (.invokestatic index, 3)) (kk : gJ p l e R s m args below meth c A Q D ad N n f lv (pc + 3) (.int (if x < y then y else x) :: rest)) : gJ p l e R s m args below meth c A Q D ad N n f lv pc (.int y :: .int x :: rest) := by
  intro H locs ls hP hD hS hl
  obtain ⟨hx, hb, hml, hown, hts, hKG, hlk, hr, hA⟩ := C
  exact va_mmax hx hb (hml.trans hl.1.symm) hown (hts _ h1) (hts _ h2) (hts _ h3) (hts _ h4) (by omega) (by omega) (Nat.zero_le _) (Nat.zero_le _) hd (kk H locs ls hP hD hS hl)
theorem gj_mmin (C : gX p s m args meth c A D ca ss n own cc ret) {x y : Int32} (h1 : Cond.methodLink own index Lib.Math.min.name ∈ gTG) (h2 : Cond.static Lib.Math.min.name ∈ gTG) (h3 : Cond.initialized "java/lang/Math" ∈ gTG) (h4 : Cond.code Lib.Math.min.name Lib.Math.min.code 2 (some .int) ∈ gTG) (hR : 1 ≤ R.frames ∧ 30 ≤ R.locals) (hw : (rest.map fun v => v.category).sum ≤ 8) (hd : decode cc pc = .ok (.invokestatic index, 3)) (kk : gJ p l e R s m args below meth c A Q D ad N n f lv (pc + 3) (.int (if y < x then y else x) :: rest)) : gJ p l e R s m args below meth c A Q D ad N n f lv pc (.int y :: .int x :: rest) := by
  intro H locs ls hP hD hS hl
  obtain ⟨hx, hb, hml, hown, hts, hKG, hlk, hr, hA⟩ := C
  exact va_mmin hx hb (hml.trans hl.1.symm) hown (hts _ h1) (hts _ h2) (hts _ h3) (hts _ h4) (by omega) (by omega) (Nat.zero_le _) (Nat.zero_le _) hd (kk H locs ls hP hD hS hl)
theorem gj_mabs (C : gX p s m args meth c A D ca ss n own cc ret) {x : Int32} (h1 : Cond.methodLink own index Lib.Math.abs.name ∈ gTG) (h2 : Cond.static Lib.Math.abs.name ∈ gTG) (h3 : Cond.initialized "java/lang/Math" ∈ gTG) (h4 : Cond.code Lib.Math.abs.name Lib.Math.abs.code 1 (some .int) ∈ gTG) (hR : 1 ≤ R.frames ∧ 30 ≤ R.locals) (hw : (rest.map fun v => v.category).sum ≤ 8) (hd : decode cc pc = .ok (.invokestatic index, 3)) (kk : gJ p l e R s m args below meth c A Q D ad N n f lv (pc + 3) (.int (if 0 ≤ x then x else 0 - x) :: rest)) : gJ p l e R s m args below meth c A Q D ad N n f lv pc (.int x :: rest) := by
  intro H locs ls hP hD hS hl
  obtain ⟨hx, hb, hml, hown, hts, hKG, hlk, hr, hA⟩ := C
  exact va_mabs hx hb (hml.trans hl.1.symm) hown (hts _ h1) (hts _ h2) (hts _ h3) (hts _ h4) (by omega) (by omega) (Nat.zero_le _) (Nat.zero_le _) hd (kk H locs ls hP hD hS hl)
theorem gj_mabsl (C : gX p s m args meth c A D ca ss n own cc ret) {x : Int64} (h1 : Cond.methodLink own index Lib.MathLoose.abs_long.x ∈ gTG) (h2 : Cond.static Lib.MathLoose.abs_long.x ∈ gTG) (h3 : Cond.initialized "java/lang/Math" ∈ gTG) (h4 : Cond.code Lib.MathLoose.abs_long.x Lib.MathLoose.abs_long.code 2 (some .long) ∈ gTG) (hR : 1 ≤ R.frames ∧ 30 ≤ R.locals) (hw : (rest.map fun v => v.category).sum ≤ 8) (hd : decode cc pc = .ok (.invokestatic index, 3)) (kk : gJ p l e R s m args below meth c A Q D ad N n f lv (pc + 3) (.long (if 0 < x then x else -x) :: rest)) : gJ p l e R s m args below meth c A Q D ad N n f lv pc (.long x :: rest) := by
  intro H locs ls hP hD hS hl
  obtain ⟨hx, hb, hml, hown, hts, hKG, hlk, hr, hA⟩ := C
  exact va_mabs_long hx hb (hml.trans hl.1.symm) hown (hts _ h1) (hts _ h2) (hts _ h3) (hts _ h4) (by omega) (by omega) (Nat.zero_le _) (Nat.zero_le _) hd (kk H locs ls hP hD hS hl)
end GC
section GC2
variable {p : Program} {l : Launch} {e : Env} {R : Room} {s : State} {m : MethodId} {args : Array Value} {below : List Frame} {meth : Method} {c : Code} {A : Nat → Prop} {Q : State → Prop} {D : va_G} {ca ss ad : Nat → Nat} {N n : Nat} {own : String} {cc : ByteArray} {ret : Option FieldType} {f : Nat → va_E} {lv lv' : List (Nat × Value)} {pc : Nat} {rest : List Value} {index : Nat}
theorem gj_copyi (C : gX p s m args meth c A D ca ss n own cc ret) {n0 n1 : Nat} {g0 g1 : Nat → Int32} (i0 i1 : Nat) (hi0 : i0 < N) (hi1 : i1 < N) (hf0 : f i0 = .inl (ca 0, n0, .inl g0)) (hf1 : f i1 = .inl (ca 0, n1, .inl g1)) {sp dp z : Int32} (h1 : ¬ sp < 0) (h2 : ¬ dp < 0) (h3 : ¬ z < 0) (h4 : sp.toNatClampNeg + z.toNatClampNeg ≤ n0) (h5 : dp.toNatClampNeg + z.toNatClampNeg ≤ n1) (k1 : Cond.methodLink own index arraycopyName ∈ gTG) (k2 : Cond.native arraycopyName ∈ gTG) (k3 : Cond.static arraycopyName ∈ gTG) (k4 : Cond.initialized "java/lang/System" ∈ gTG) (hR : 1 ≤ R.frames ∧ 40 ≤ R.locals) (hw : (rest.map fun v => v.category).sum ≤ 8) (hd : decode cc pc = .ok (.invokestatic index, 3)) (kk : gJ p l e R s m args below meth c A Q D ad N n (va_up f i1 (.inl (ca 0, n1, .inl (va_cpy g0 g1 sp.toNatClampNeg dp.toNatClampNeg z.toNatClampNeg)))) lv (pc + 3) rest) : gJ p l e R s m args below meth c A Q D ad N n f lv pc (.int z :: .int dp :: .ref (ad i1) :: .int sp :: .ref (ad i0) :: rest) := by
  intro H locs ls hP hD hS hl
  obtain ⟨hx, hb, hml, hown, hts, ⟨hK, hN, hSt⟩, hlk, hr, hA⟩ := C
  exact va_copyi hx hb (hml.trans hl.1.symm) hown (hts _ k1) (hts _ k2) (hts _ k3) (hts _ k4) hK hP hD hS i0 i1 0 0 (gWn_get hi0 hf0) (gWn_get hi1 hf1) rfl rfl rfl h1 h2 h3 h4 h5 (fun _ _ => rfl) hR.1 (Nat.le_trans (Nat.add_le_add hw (show nativeFrameWords "java/lang/System" "arraycopy" 5 + 11 ≤ 32 by decide +kernel)) hR.2) hd (fun H1 locs1 hP1 hD1 hS1 => kk H1 locs1 ls (by rw [gWn_set _ hi1] at hP1; exact hP1) (by rw [gWn_set _ hi1] at hD1; exact hD1) hS1 hl)
theorem gj_tableOut (C : gX p s m args meth c A D ca ss n own cc ret) {dflt lo hi : Int} {offs : Array Int} {len : Nat} {x : Int32} (tgt : Nat) (hd : decode cc pc = .ok (.tableswitch dflt lo hi offs, len)) (h : x.toInt < lo ∨ hi < x.toInt) (ht : (pc : Int) + dflt = (tgt : Int)) (k : gJ p l e R s m args below meth c A Q D ad N n f lv tgt rest) : gJ p l e R s m args below meth c A Q D ad N n f lv pc (.int x :: rest) := by
  intro H locs ls hP hD hS hl
  obtain ⟨hx, hb, -⟩ := C
  exact lv_tableOut hx hb hd h ht (k H locs ls hP hD hS hl)
theorem gj_tableIn (C : gX p s m args meth c A D ca ss n own cc ret) {dflt lo hi off : Int} {offs : Array Int} {len : Nat} {x : Int32} (tgt : Nat) (hd : decode cc pc = .ok (.tableswitch dflt lo hi offs, len)) (h1 : ¬ x.toInt < lo) (h2 : ¬ hi < x.toInt) (ho : offs[(x.toInt - lo).toNat]? = some off) (ht : (pc : Int) + off = (tgt : Int)) (k : gJ p l e R s m args below meth c A Q D ad N n f lv tgt rest) : gJ p l e R s m args below meth c A Q D ad N n f lv pc (.int x :: rest) := by
  intro H locs ls hP hD hS hl
  obtain ⟨hx, hb, -⟩ := C
  exact lv_tableIn hx hb hd h1 h2 ho ht (k H locs ls hP hD hS hl)
end GC2
section GO
variable {l : Launch} {D : va_G} {ca ss ad : Nat → Nat} {N : Nat} {y : MethodName} {cc : ByteArray} {n : Nat} {ret : Option FieldType} {d : Nat} {f : Nat → va_E} {av : List Value} {lv0 : List (Nat × Value)}
theorem gMi_of {post : Int32 → (Nat → va_E) → Prop} (hy : plainName y.cls = true) (hn : (lg_sl av).length ≤ n) (hlv : lv_args 0 av = lv0) (h : ∀ (p : Program) (e : Env) (s : State) (m : MethodId) (below : List Frame) (meth : Method) (c : Code) (A : Nat → Prop), gX p s m av.toArray meth c A D ca ss n y.cls cc ret → gJ p l e (Rm d) s m av.toArray below meth c A (MQ below (va_Qi post (gB D ad N A) A) av.toArray s 0 0 A) D ad N n f lv0 0 []) : gMi l D ca ss ad N y cc n ret d f av post := fun sz => gM_of (Qc := fun A => va_Qi post (gB D ad N A) A) hy hn (fun p e s m below meth c A C => hlv ▸ h p e s m below meth c A C) sz
theorem gMl_of {post : Int64 → (Nat → va_E) → Prop} (hy : plainName y.cls = true) (hn : (lg_sl av).length ≤ n) (hlv : lv_args 0 av = lv0) (h : ∀ (p : Program) (e : Env) (s : State) (m : MethodId) (below : List Frame) (meth : Method) (c : Code) (A : Nat → Prop), gX p s m av.toArray meth c A D ca ss n y.cls cc ret → gJ p l e (Rm d) s m av.toArray below meth c A (MQ below (va_Ql post (gB D ad N A) A) av.toArray s 0 0 A) D ad N n f lv0 0 []) : gMl l D ca ss ad N y cc n ret d f av post := fun sz => gM_of (Qc := fun A => va_Ql post (gB D ad N A) A) hy hn (fun p e s m below meth c A C => hlv ▸ h p e s m below meth c A C) sz
theorem gMv_of {post : (Nat → va_E) → Prop} (hy : plainName y.cls = true) (hn : (lg_sl av).length ≤ n) (hlv : lv_args 0 av = lv0) (h : ∀ (p : Program) (e : Env) (s : State) (m : MethodId) (below : List Frame) (meth : Method) (c : Code) (A : Nat → Prop), gX p s m av.toArray meth c A D ca ss n y.cls cc ret → gJ p l e (Rm d) s m av.toArray below meth c A (MQ below (va_Qv post (gB D ad N A) A) av.toArray s 0 0 A) D ad N n f lv0 0 []) : gMv l D ca ss ad N y cc n ret d f av post := fun sz => gM_of (Qc := fun A => va_Qv post (gB D ad N A) A) hy hn (fun p e s m below meth c A C => hlv ▸ h p e s m below meth c A C) sz
theorem gMr_of {post : Nat → (Nat → va_E) → Prop} (hy : plainName y.cls = true) (hn : (lg_sl av).length ≤ n) (hlv : lv_args 0 av = lv0) (h : ∀ (p : Program) (e : Env) (s : State) (m : MethodId) (below : List Frame) (meth : Method) (c : Code) (A : Nat → Prop), gX p s m av.toArray meth c A D ca ss n y.cls cc ret → gJ p l e (Rm d) s m av.toArray below meth c A (MQ below (va_Qr (fun _ : Nat → va_E => True) (fun u a t => post a u ∧ gB D ad N A u t) A) av.toArray s 0 0 A) D ad N n f lv0 0 []) : gMr l D ca ss ad N y cc n ret d f av post := fun sz => gM_of (Qc := fun A => va_Qr (fun _ : Nat → va_E => True) (fun u a t => post a u ∧ gB D ad N A u t) A) hy hn (fun p e s m below meth c A C => hlv ▸ h p e s m below meth c A C) sz
end GO
theorem up_comm {α : Type} {g : Nat → α} {i k : Nat} {b c : α} (h : i ≠ k) : va_up (va_up g k c) i b = va_up (va_up g i b) k c := by
  funext j
  unfold va_up
  by_cases h1 : j = i
  · have h2 : ¬ j = k := fun q => h (h1.symm.trans q)
    rw [if_pos h1, if_neg h2, if_pos h1]
  · rw [if_neg h1, if_neg h1]
theorem up_un {α : Type} {g1 g2 : Nat → α} {k : Nat} {c : α} (h : g1 = g2) : va_up g1 k c = va_up g2 k c := by rw [h]
theorem up_id {α : Type} {g : Nat → α} {k : Nat} {c : α} (h : g k = c) : va_up g k c = g := by
  funext j
  by_cases hj : j = k
  · subst hj; rw [va_up_self, h]
  · rw [va_up_ne _ _ hj]
theorem up_nx {α : Type} {g : Nat → α} {k j : Nat} {c e : α} (h : j ≠ k) (he : g j = e) : va_up g k c j = e := (va_up_ne g c h).trans he
