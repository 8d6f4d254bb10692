section GP
variable {p : Program} {l : Launch} {e : Env} {R : Room} {s : State} {m : MethodId} {args : Array Value} {below : List Frame} {meth : Method} {c : Code} {A : Nat → Prop} {Q : State → Prop} {D : va_G} {ca ss ad : Nat → Nat} {N n : Nat} {own : String} {cc : ByteArray} {ret : Option FieldType} {f : Nat → va_E} {lv lv' : List (Nat × Value)} {pc : Nat} {rest : List Value}
theorem gj_putS (C : gX p s m args meth c A D ca ss n own cc ret) {Cn : String} {T : u_T} {NN ci index : Nat} {fs fs' : List Value} (i : Nat) (hi : i < N) (hf : f i = .inr (ci, fs)) (hin : ∀ w ∈ u_ws Cn T NN, w ∈ gTG) (hc : vwCl[ci]? = some (Cn, T, NN)) (k : Nat) (hk : k < NN) (ty0 : Nat → FieldType) (hty : ∀ k, k < NN → parseFieldDescriptor (T k).2.2.1 = some (ty0 k)) (hnm : ∀ a, a < NN → ∀ b, b < NN → a ≠ b → (T a).2.1 ≠ (T b).2.1) (hlink : Cond.fieldLink own index (T k).1 (T k).2.1 (T k).2.2.1 ∈ gTG) (hfin : (T k).2.2.2 = false) {v : Value} (hn : narrow (ty0 k) v = v) (hfit : fits (ty0 k) v = true) (hlen : k < fs.length) (hfs : fs.set k v = fs') (hd : decode cc pc = .ok (.putfield index, 3)) (kk : gJ p l e R s m args below meth c A Q D ad N n (va_up f i (.inr (ci, fs'))) lv (pc + 3) rest) : gJ p l e R s m args below meth c A Q D ad N n f lv pc (v :: .ref (ad i) :: rest) := gj_put C i hi hf hin hc k hk ty0 hty hnm hlink hfin hn hfit hlen hd (by rw [hfs]; exact kk)
theorem gj_putNS (C : gX p s m args meth c A D ca ss n own cc ret) {Cn : String} {T : u_T} {NN ci index : Nat} {fs fs' : List Value} (i : Nat) (hi : i < N) (hf : f i = .inr (ci, fs)) (hin : ∀ w ∈ u_ws Cn T NN, w ∈ gTG) (hc : vwCl[ci]? = some (Cn, T, NN)) (k : Nat) (hk : k < NN) (ty0 : Nat → FieldType) (hty : ∀ k, k < NN → parseFieldDescriptor (T k).2.2.1 = some (ty0 k)) (hnm : ∀ a, a < NN → ∀ b, b < NN → a ≠ b → (T a).2.1 ≠ (T b).2.1) {host : String} (hlink : Cond.fieldLinkNest own index (T k).1 (T k).2.1 (T k).2.2.1 host ∈ gNW) (hfin : (T k).2.2.2 = false) {v : Value} (hn : narrow (ty0 k) v = v) (hfit : fits (ty0 k) v = true) (hlen : k < fs.length) (hfs : fs.set k v = fs') (hd : decode cc pc = .ok (.putfield index, 3)) (kk : gJ p l e R s m args below meth c A Q D ad N n (va_up f i (.inr (ci, fs'))) lv (pc + 3) rest) : gJ p l e R s m args below meth c A Q D ad N n f lv pc (v :: .ref (ad i) :: rest) := gj_putN C i hi hf hin hc k hk ty0 hty hnm hlink hfin hn hfit hlen hd (by rw [hfs]; exact kk)
end GP
section GK
variable {l : Launch} {D : va_G} {ca ss ad : Nat → Nat} {N : Nat} {y : MethodName} {cc : ByteArray} {n : Nat} {d : Nat} {f : Nat → va_E} {av : List Value} {lv0 : List (Nat × Value)}
theorem gMi_ofK {post : Int32 → (Nat → va_E) → Prop} (hy : plainName y.cls = true) (hn : (lg_sl av).length ≤ n) (hlv : lv_args 0 av = lv0) (h : ∀ (p : Program) (e : Env) (s : State) (m : MethodId) (args : Array Value) (below : List Frame) (meth : Method) (c : Code) (A : Nat → Prop) (Q : State → Prop), gX p s m args meth c A D ca ss n y.cls cc (some .int) → (∀ (f : Nat → va_E) (lv : List (Nat × Value)) (pc : Nat) (v : Int32) , post v f → decode cc pc = .ok (.ireturn, 1) → gJ p l e (Rm d) s m args below meth c A Q D ad N n f lv pc [.int v]) → gJ p l e (Rm d) s m args below meth c A Q D ad N n f lv0 0 []) : gMi l D ca ss ad N y cc n (some .int) d f av post := gMi_of hy hn hlv (fun p e s m below meth c A C => h p e s m _ below meth c A _ C (fun f lv pc v hp hd => gj_iret C hp hd))
theorem gMz_ofK {post : Int32 → (Nat → va_E) → Prop} (hy : plainName y.cls = true) (hn : (lg_sl av).length ≤ n) (hlv : lv_args 0 av = lv0) (h : ∀ (p : Program) (e : Env) (s : State) (m : MethodId) (args : Array Value) (below : List Frame) (meth : Method) (c : Code) (A : Nat → Prop) (Q : State → Prop), gX p s m args meth c A D ca ss n y.cls cc (some .boolean) → (∀ (f : Nat → va_E) (lv : List (Nat × Value)) (pc : Nat) (v : Int32) , (v = 0 ∨ v = 1) → post v f → decode cc pc = .ok (.ireturn, 1) → gJ p l e (Rm d) s m args below meth c A Q D ad N n f lv pc [.int v]) → gJ p l e (Rm d) s m args below meth c A Q D ad N n f lv0 0 []) : gMi l D ca ss ad N y cc n (some .boolean) d f av post := gMi_of hy hn hlv (fun p e s m below meth c A C => h p e s m _ below meth c A _ C (fun f lv pc v h01 hp hd => gj_zret C h01 hp hd))
theorem gMl_ofK {post : Int64 → (Nat → va_E) → Prop} (hy : plainName y.cls = true) (hn : (lg_sl av).length ≤ n) (hlv : lv_args 0 av = lv0) (h : ∀ (p : Program) (e : Env) (s : State) (m : MethodId) (args : Array Value) (below : List Frame) (meth : Method) (c : Code) (A : Nat → Prop) (Q : State → Prop), gX p s m args meth c A D ca ss n y.cls cc (some .long) → (∀ (f : Nat → va_E) (lv : List (Nat × Value)) (pc : Nat) (v : Int64) , post v f → decode cc pc = .ok (.lreturn, 1) → gJ p l e (Rm d) s m args below meth c A Q D ad N n f lv pc [.long v]) → gJ p l e (Rm d) s m args below meth c A Q D ad N n f lv0 0 []) : gMl l D ca ss ad N y cc n (some .long) d f av post := gMl_of hy hn hlv (fun p e s m below meth c A C => h p e s m _ below meth c A _ C (fun f lv pc v hp hd => gj_lret C hp hd))
theorem gMv_ofK {post : (Nat → va_E) → Prop} (hy : plainName y.cls = true) (hn : (lg_sl av).length ≤ n) (hlv : lv_args 0 av = lv0) (h : ∀ (p : Program) (e : Env) (s : State) (m : MethodId) (args : Array Value) (below : List Frame) (meth : Method) (c : Code) (A : Nat → Prop) (Q : State → Prop), gX p s m args meth c A D ca ss n y.cls cc none → (∀ (f : Nat → va_E) (lv : List (Nat × Value)) (pc : Nat) , post f → decode cc pc = .ok (.return_, 1) → gJ p l e (Rm d) s m args below meth c A Q D ad N n f lv pc []) → gJ p l e (Rm d) s m args below meth c A Q D ad N n f lv0 0 []) : gMv l D ca ss ad N y cc n none d f av post := gMv_of hy hn hlv (fun p e s m below meth c A C => h p e s m _ below meth c A _ C (fun f lv pc hp hd => gj_vret C hp hd))
theorem gMr_ofK {rt : FieldType} (hrt : (∃ n, rt = .object n) ∨ ∃ t, rt = .array t) {post : Nat → (Nat → va_E) → Prop} (hy : plainName y.cls = true) (hn : (lg_sl av).length ≤ n) (hlv : lv_args 0 av = lv0) (h : ∀ (p : Program) (e : Env) (s : State) (m : MethodId) (args : Array Value) (below : List Frame) (meth : Method) (c : Code) (A : Nat → Prop) (Q : State → Prop), gX p s m args meth c A D ca ss n y.cls cc (some rt) → (∀ (f : Nat → va_E) (lv : List (Nat × Value)) (pc : Nat) (v : Nat) , post v f → decode cc pc = .ok (.areturn, 1) → gJ p l e (Rm d) s m args below meth c A Q D ad N n f lv pc [.ref v]) → gJ p l e (Rm d) s m args below meth c A Q D ad N n f lv0 0 []) : gMr l D ca ss ad N y cc n (some rt) d f av post := gMr_of hy hn hlv (fun p e s m below meth c A C => h p e s m _ below meth c A _ C (fun f lv pc v hp hd => gj_aret C hrt hp hd))
end GK

def s_X11_isWithin (v : Int32) (lo : Int32) (hi : Int32)  : Int32 := if v < lo then (0) else (if hi < v then (0) else (1))
theorem b_X11_isWithin (v : Int32) (lo : Int32) (hi : Int32)  : s_X11_isWithin v lo hi = 0 ∨ s_X11_isWithin v lo hi = 1 := by
  unfold s_X11_isWithin
  repeat' split
  all_goals first | exact Or.inl rfl | exact Or.inr rfl
set_option maxHeartbeats 4000000 in
set_option maxRecDepth 100000 in
theorem c_X11_isWithin {l : Launch} {D : va_G} {ca ss ad : Nat → Nat} {f : Nat → va_E} (v : Int32) (lo : Int32) (hi : Int32)   : gMi l D ca ss ad 108 yX11_isWithin cX11_isWithin 3 (some .boolean) 0 f [.int v, .int lo, .int hi] (fun r u => r = s_X11_isWithin v lo hi ∧ u = f) := by
  refine gMz_ofK (by decide +kernel) (Nat.le_of_ble_eq_true rfl) (lv0 := [(0, .int v), (1, .int lo), (2, .int hi)]) rfl (fun p e s m args below meth c A Q C RT => ?_)
  have C : gX p s m _ meth c A D ca ss 3 RX11 cX11_isWithin (some .boolean) := C
  refine gj_iload_n C 0 dX11_isWithin_0 rfl 0 rfl ?_
  refine gj_iload_n C 1 dX11_isWithin_1 rfl 1 rfl ?_
  refine gj_icmp_lt C 14 dX11_isWithin_2 (by decide) (fun c_1 => ?_) (fun c_1 => ?_)
  · refine gj_iconst C (v := 0) (by decide) dX11_isWithin_14 ?_
    exact RT _ _ _ _ (by decide) ⟨by unfold s_X11_isWithin; rw [if_pos c_1], rfl⟩ dX11_isWithin_15
  · refine gj_iload_n C 0 dX11_isWithin_5 rfl 0 rfl ?_
    refine gj_iload_n C 2 dX11_isWithin_6 rfl 2 rfl ?_
    refine gj_icmp_gt C 14 dX11_isWithin_7 (by decide) (fun c_2 => ?_) (fun c_2 => ?_)
    · refine gj_iconst C (v := 0) (by decide) dX11_isWithin_14 ?_
      exact RT _ _ _ _ (by decide) ⟨by unfold s_X11_isWithin; rw [if_neg c_1, if_pos c_2], rfl⟩ dX11_isWithin_15
    · refine gj_iconst C (v := 1) (by decide) dX11_isWithin_10 ?_
      refine gj_goto C 15 dX11_isWithin_11 (by decide) ?_
      exact RT _ _ _ _ (by decide) ⟨by unfold s_X11_isWithin; rw [if_neg c_1, if_neg c_2], rfl⟩ dX11_isWithin_15
def s_X11_isKind (k : Int32)  : Int32 := if k = 0 then (1) else (if k = 1 then (1) else (0))
theorem b_X11_isKind (k : Int32)  : s_X11_isKind k = 0 ∨ s_X11_isKind k = 1 := by
  unfold s_X11_isKind
  repeat' split
  all_goals first | exact Or.inl rfl | exact Or.inr rfl
set_option maxHeartbeats 4000000 in
set_option maxRecDepth 100000 in
theorem c_X11_isKind {l : Launch} {D : va_G} {ca ss ad : Nat → Nat} {f : Nat → va_E} (k : Int32)   : gMi l D ca ss ad 108 yX11_isKind cX11_isKind 1 (some .boolean) 0 f [.int k] (fun r u => r = s_X11_isKind k ∧ u = f) := by
  refine gMz_ofK (by decide +kernel) (Nat.le_of_ble_eq_true rfl) (lv0 := [(0, .int k)]) rfl (fun p e s m args below meth c A Q C RT => ?_)
  have C : gX p s m _ meth c A D ca ss 1 RX11 cX11_isKind (some .boolean) := C
  refine gj_iload_n C 0 dX11_isKind_0 rfl 0 rfl ?_
  refine gj_if_eq C 9 dX11_isKind_1 (by decide) (fun c_1 => ?_) (fun c_1 => ?_)
  · refine gj_iconst C (v := 1) (by decide) dX11_isKind_9 ?_
    refine gj_goto C 14 dX11_isKind_10 (by decide) ?_
    exact RT _ _ _ _ (by decide) ⟨by unfold s_X11_isKind; rw [if_pos c_1], rfl⟩ dX11_isKind_14
  · refine gj_iload_n C 0 dX11_isKind_4 rfl 0 rfl ?_
    refine gj_iconst C (v := 1) (by decide) dX11_isKind_5 ?_
    refine gj_icmp_ne C 13 dX11_isKind_6 (by decide) (fun c_2 => ?_) (fun c_2 => ?_)
    · refine gj_iconst C (v := 0) (by decide) dX11_isKind_13 ?_
      exact RT _ _ _ _ (by decide) ⟨by unfold s_X11_isKind; rw [if_neg c_1, if_neg c_2], rfl⟩ dX11_isKind_14
    · refine gj_iconst C (v := 1) (by decide) dX11_isKind_9 ?_
      refine gj_goto C 14 dX11_isKind_10 (by decide) ?_
      exact RT _ _ _ _ (by decide) ⟨by unfold s_X11_isKind; rw [if_neg c_1, if_pos c_2], rfl⟩ dX11_isKind_14
def s_X11_isTray (k : Int32)  : Int32 := s_X11_isWithin k (0 : Int32) (3 : Int32)
theorem b_X11_isTray (k : Int32)  : s_X11_isTray k = 0 ∨ s_X11_isTray k = 1 := by
  unfold s_X11_isTray
  repeat' split
  all_goals first | exact Or.inl rfl | exact Or.inr rfl | apply b_X11_isWithin
set_option maxHeartbeats 4000000 in
set_option maxRecDepth 100000 in
theorem c_X11_isTray {l : Launch} {D : va_G} {ca ss ad : Nat → Nat} {f : Nat → va_E} (k : Int32)   : gMi l D ca ss ad 108 yX11_isTray cX11_isTray 1 (some .boolean) 1 f [.int k] (fun r u => r = s_X11_isTray k ∧ u = f) := by
  refine gMz_ofK (by decide +kernel) (Nat.le_of_ble_eq_true rfl) (lv0 := [(0, .int k)]) rfl (fun p e s m args below meth c A Q C RT => ?_)
  have C : gX p s m _ meth c A D ca ss 1 RX11 cX11_isTray (some .boolean) := C
  refine gj_iload_n C 0 dX11_isTray_0 rfl 0 rfl ?_
  refine gj_iconst C (v := 0) (by decide) dX11_isTray_1 ?_
  refine gj_iconst C (v := 3) (by decide) dX11_isTray_2 ?_
  refine gj_callSi C w_381 w_380 (c_X11_isWithin k (0 : Int32) (3 : Int32)) mc_X11_isWithin ⟨Nat.le_of_ble_eq_true rfl, Nat.le_of_ble_eq_true rfl⟩ (rest := []) rfl (Nat.le_of_ble_eq_true rfl) dX11_isTray_3 (fun r u h => ?_)
  obtain ⟨rfl, rfl⟩ := h
  exact RT _ _ _ _ (b_X11_isWithin k (0 : Int32) (3 : Int32)) ⟨rfl, rfl⟩ dX11_isTray_6
def s_X11_isSheet (k : Int32)  : Int32 := s_X11_isWithin k (0 : Int32) (3 : Int32)
theorem b_X11_isSheet (k : Int32)  : s_X11_isSheet k = 0 ∨ s_X11_isSheet k = 1 := by
  unfold s_X11_isSheet
  repeat' split
  all_goals first | exact Or.inl rfl | exact Or.inr rfl | apply b_X11_isWithin
set_option maxHeartbeats 4000000 in
set_option maxRecDepth 100000 in
theorem c_X11_isSheet {l : Launch} {D : va_G} {ca ss ad : Nat → Nat} {f : Nat → va_E} (k : Int32)   : gMi l D ca ss ad 108 yX11_isSheet cX11_isSheet 1 (some .boolean) 1 f [.int k] (fun r u => r = s_X11_isSheet k ∧ u = f) := by
  refine gMz_ofK (by decide +kernel) (Nat.le_of_ble_eq_true rfl) (lv0 := [(0, .int k)]) rfl (fun p e s m args below meth c A Q C RT => ?_)
  have C : gX p s m _ meth c A D ca ss 1 RX11 cX11_isSheet (some .boolean) := C
  refine gj_iload_n C 0 dX11_isSheet_0 rfl 0 rfl ?_
  refine gj_iconst C (v := 0) (by decide) dX11_isSheet_1 ?_
  refine gj_iconst C (v := 3) (by decide) dX11_isSheet_2 ?_
  refine gj_callSi C w_381 w_380 (c_X11_isWithin k (0 : Int32) (3 : Int32)) mc_X11_isWithin ⟨Nat.le_of_ble_eq_true rfl, Nat.le_of_ble_eq_true rfl⟩ (rest := []) rfl (Nat.le_of_ble_eq_true rfl) dX11_isSheet_3 (fun r u h => ?_)
  obtain ⟨rfl, rfl⟩ := h
  exact RT _ _ _ _ (b_X11_isWithin k (0 : Int32) (3 : Int32)) ⟨rfl, rfl⟩ dX11_isSheet_6
def s_X11_isForm (k : Int32)  : Int32 := s_X11_isWithin k (0 : Int32) (2 : Int32)
theorem b_X11_isForm (k : Int32)  : s_X11_isForm k = 0 ∨ s_X11_isForm k = 1 := by
  unfold s_X11_isForm
  repeat' split
  all_goals first | exact Or.inl rfl | exact Or.inr rfl | apply b_X11_isWithin
set_option maxHeartbeats 4000000 in
set_option maxRecDepth 100000 in
theorem c_X11_isForm {l : Launch} {D : va_G} {ca ss ad : Nat → Nat} {f : Nat → va_E} (k : Int32)   : gMi l D ca ss ad 108 yX11_isForm cX11_isForm 1 (some .boolean) 1 f [.int k] (fun r u => r = s_X11_isForm k ∧ u = f) := by
  refine gMz_ofK (by decide +kernel) (Nat.le_of_ble_eq_true rfl) (lv0 := [(0, .int k)]) rfl (fun p e s m args below meth c A Q C RT => ?_)
  have C : gX p s m _ meth c A D ca ss 1 RX11 cX11_isForm (some .boolean) := C
  refine gj_iload_n C 0 dX11_isForm_0 rfl 0 rfl ?_
  refine gj_iconst C (v := 0) (by decide) dX11_isForm_1 ?_
  refine gj_iconst C (v := 2) (by decide) dX11_isForm_2 ?_
  refine gj_callSi C w_381 w_380 (c_X11_isWithin k (0 : Int32) (2 : Int32)) mc_X11_isWithin ⟨Nat.le_of_ble_eq_true rfl, Nat.le_of_ble_eq_true rfl⟩ (rest := []) rfl (Nat.le_of_ble_eq_true rfl) dX11_isForm_3 (fun r u h => ?_)
  obtain ⟨rfl, rfl⟩ := h
  exact RT _ _ _ _ (b_X11_isWithin k (0 : Int32) (2 : Int32)) ⟨rfl, rfl⟩ dX11_isForm_6
def s_X11_mayBeDirection (x : Int32) (y : Int32) (z : Int32)  : Int32 := if (s_X11_isWithin x (-100 : Int32) (100 : Int32)) = 0 then (0) else (if (s_X11_isWithin y (-100 : Int32) (100 : Int32)) = 0 then (0) else (if (s_X11_isWithin z (-100 : Int32) (100 : Int32)) = 0 then (0) else (if x = 0 then (if y = 0 then (if z = 0 then (0) else (1)) else (1)) else (1))))
theorem b_X11_mayBeDirection (x : Int32) (y : Int32) (z : Int32)  : s_X11_mayBeDirection x y z = 0 ∨ s_X11_mayBeDirection x y z = 1 := by
  unfold s_X11_mayBeDirection
  repeat' split
  all_goals first | exact Or.inl rfl | exact Or.inr rfl | apply b_X11_isWithin
set_option maxHeartbeats 4000000 in
set_option maxRecDepth 100000 in
theorem c_X11_mayBeDirection {l : Launch} {D : va_G} {ca ss ad : Nat → Nat} {f : Nat → va_E} (x : Int32) (y : Int32) (z : Int32)   : gMi l D ca ss ad 108 yX11_mayBeDirection cX11_mayBeDirection 3 (some .boolean) 1 f [.int x, .int y, .int z] (fun r u => r = s_X11_mayBeDirection x y z ∧ u = f) := by
  refine gMz_ofK (by decide +kernel) (Nat.le_of_ble_eq_true rfl) (lv0 := [(0, .int x), (1, .int y), (2, .int z)]) rfl (fun p e s m args below meth c A Q C RT => ?_)
  have C : gX p s m _ meth c A D ca ss 3 RX11 cX11_mayBeDirection (some .boolean) := C
  refine gj_iload_n C 0 dX11_mayBeDirection_0 rfl 0 rfl ?_
  refine gj_bipush C (v := (-100)) (by decide) dX11_mayBeDirection_1 ?_
  refine gj_bipush C (v := 100) (by decide) dX11_mayBeDirection_3 ?_
  refine gj_callSi C w_381 w_380 (c_X11_isWithin x (-100 : Int32) (100 : Int32)) mc_X11_isWithin ⟨Nat.le_of_ble_eq_true rfl, Nat.le_of_ble_eq_true rfl⟩ (rest := []) rfl (Nat.le_of_ble_eq_true rfl) dX11_mayBeDirection_5 (fun r u h => ?_)
  obtain ⟨rfl, rfl⟩ := h
  refine gj_if_eq C 49 dX11_mayBeDirection_8 (by decide) (fun c_1 => ?_) (fun c_1 => ?_)
  · refine gj_iconst C (v := 0) (by decide) dX11_mayBeDirection_49 ?_
    exact RT _ _ _ _ (by decide) ⟨by unfold s_X11_mayBeDirection; rw [if_pos c_1], rfl⟩ dX11_mayBeDirection_50
  · refine gj_iload_n C 1 dX11_mayBeDirection_11 rfl 1 rfl ?_
    refine gj_bipush C (v := (-100)) (by decide) dX11_mayBeDirection_12 ?_
    refine gj_bipush C (v := 100) (by decide) dX11_mayBeDirection_14 ?_
    refine gj_callSi C w_381 w_380 (c_X11_isWithin y (-100 : Int32) (100 : Int32)) mc_X11_isWithin ⟨Nat.le_of_ble_eq_true rfl, Nat.le_of_ble_eq_true rfl⟩ (rest := []) rfl (Nat.le_of_ble_eq_true rfl) dX11_mayBeDirection_16 (fun r u h => ?_)
    obtain ⟨rfl, rfl⟩ := h
    refine gj_if_eq C 49 dX11_mayBeDirection_19 (by decide) (fun c_2 => ?_) (fun c_2 => ?_)
    · refine gj_iconst C (v := 0) (by decide) dX11_mayBeDirection_49 ?_
      exact RT _ _ _ _ (by decide) ⟨by unfold s_X11_mayBeDirection; rw [if_neg c_1, if_pos c_2], rfl⟩ dX11_mayBeDirection_50
    · refine gj_iload_n C 2 dX11_mayBeDirection_22 rfl 2 rfl ?_
      refine gj_bipush C (v := (-100)) (by decide) dX11_mayBeDirection_23 ?_
      refine gj_bipush C (v := 100) (by decide) dX11_mayBeDirection_25 ?_
      refine gj_callSi C w_381 w_380 (c_X11_isWithin z (-100 : Int32) (100 : Int32)) mc_X11_isWithin ⟨Nat.le_of_ble_eq_true rfl, Nat.le_of_ble_eq_true rfl⟩ (rest := []) rfl (Nat.le_of_ble_eq_true rfl) dX11_mayBeDirection_27 (fun r u h => ?_)
      obtain ⟨rfl, rfl⟩ := h
      refine gj_if_eq C 49 dX11_mayBeDirection_30 (by decide) (fun c_3 => ?_) (fun c_3 => ?_)
      · refine gj_iconst C (v := 0) (by decide) dX11_mayBeDirection_49 ?_
        exact RT _ _ _ _ (by decide) ⟨by unfold s_X11_mayBeDirection; rw [if_neg c_1, if_neg c_2, if_pos c_3], rfl⟩ dX11_mayBeDirection_50
      · refine gj_iload_n C 0 dX11_mayBeDirection_33 rfl 0 rfl ?_
        refine gj_if_ne C 45 dX11_mayBeDirection_34 (by decide) (fun c_4 => ?_) (fun c_4 => ?_)
        · refine gj_iconst C (v := 1) (by decide) dX11_mayBeDirection_45 ?_
          refine gj_goto C 50 dX11_mayBeDirection_46 (by decide) ?_
          exact RT _ _ _ _ (by decide) ⟨by unfold s_X11_mayBeDirection; rw [if_neg c_1, if_neg c_2, if_neg c_3, if_neg c_4], rfl⟩ dX11_mayBeDirection_50
        · refine gj_iload_n C 1 dX11_mayBeDirection_37 rfl 1 rfl ?_
          refine gj_if_ne C 45 dX11_mayBeDirection_38 (by decide) (fun c_5 => ?_) (fun c_5 => ?_)
          · refine gj_iconst C (v := 1) (by decide) dX11_mayBeDirection_45 ?_
            refine gj_goto C 50 dX11_mayBeDirection_46 (by decide) ?_
            exact RT _ _ _ _ (by decide) ⟨by unfold s_X11_mayBeDirection; rw [if_neg c_1, if_neg c_2, if_neg c_3, if_pos c_4, if_neg c_5], rfl⟩ dX11_mayBeDirection_50
          · refine gj_iload_n C 2 dX11_mayBeDirection_41 rfl 2 rfl ?_
            refine gj_if_eq C 49 dX11_mayBeDirection_42 (by decide) (fun c_6 => ?_) (fun c_6 => ?_)
            · refine gj_iconst C (v := 0) (by decide) dX11_mayBeDirection_49 ?_
              exact RT _ _ _ _ (by decide) ⟨by unfold s_X11_mayBeDirection; rw [if_neg c_1, if_neg c_2, if_neg c_3, if_pos c_4, if_pos c_5, if_pos c_6], rfl⟩ dX11_mayBeDirection_50
            · refine gj_iconst C (v := 1) (by decide) dX11_mayBeDirection_45 ?_
              refine gj_goto C 50 dX11_mayBeDirection_46 (by decide) ?_
              exact RT _ _ _ _ (by decide) ⟨by unfold s_X11_mayBeDirection; rw [if_neg c_1, if_neg c_2, if_neg c_3, if_pos c_4, if_pos c_5, if_neg c_6], rfl⟩ dX11_mayBeDirection_50
def s_X11_trianglesOf (k : Int32)  : Int32 := ((k * (k - 1)) * (k - 2)) / 6
set_option maxHeartbeats 4000000 in
set_option maxRecDepth 100000 in
theorem c_X11_trianglesOf {l : Launch} {D : va_G} {ca ss ad : Nat → Nat} {f : Nat → va_E} (k : Int32)   : gMi l D ca ss ad 108 yX11_trianglesOf cX11_trianglesOf 1 (some .int) 0 f [.int k] (fun r u => r = s_X11_trianglesOf k ∧ u = f) := by
  refine gMi_ofK (by decide +kernel) (Nat.le_of_ble_eq_true rfl) (lv0 := [(0, .int k)]) rfl (fun p e s m args below meth c A Q C RT => ?_)
  have C : gX p s m _ meth c A D ca ss 1 RX11 cX11_trianglesOf (some .int) := C
  refine gj_iload_n C 0 dX11_trianglesOf_0 rfl 0 rfl ?_
  refine gj_iload_n C 0 dX11_trianglesOf_1 rfl 0 rfl ?_
  refine gj_iconst C (v := 1) (by decide) dX11_trianglesOf_2 ?_
  refine gj_isub C dX11_trianglesOf_3 ?_
  refine gj_imul C dX11_trianglesOf_4 ?_
  refine gj_iload_n C 0 dX11_trianglesOf_5 rfl 0 rfl ?_
  refine gj_iconst C (v := 2) (by decide) dX11_trianglesOf_6 ?_
  refine gj_isub C dX11_trianglesOf_7 ?_
  refine gj_imul C dX11_trianglesOf_8 ?_
  refine gj_bipush C (v := 6) (by decide) dX11_trianglesOf_9 ?_
  refine gj_idiv C (by decide) dX11_trianglesOf_11 ?_
  exact RT _ _ _ _ ⟨rfl, rfl⟩ dX11_trianglesOf_12
def s_X11_pairOf (a : Int32) (b : Int32)  : Int32 := (a * 12) + b
set_option maxHeartbeats 4000000 in
set_option maxRecDepth 100000 in
theorem c_X11_pairOf {l : Launch} {D : va_G} {ca ss ad : Nat → Nat} {f : Nat → va_E} (a : Int32) (b : Int32)   : gMi l D ca ss ad 108 yX11_pairOf cX11_pairOf 2 (some .int) 0 f [.int a, .int b] (fun r u => r = s_X11_pairOf a b ∧ u = f) := by
  refine gMi_ofK (by decide +kernel) (Nat.le_of_ble_eq_true rfl) (lv0 := [(0, .int a), (1, .int b)]) rfl (fun p e s m args below meth c A Q C RT => ?_)
  have C : gX p s m _ meth c A D ca ss 2 RX11 cX11_pairOf (some .int) := C
  refine gj_iload_n C 0 dX11_pairOf_0 rfl 0 rfl ?_
  refine gj_bipush C (v := 12) (by decide) dX11_pairOf_1 ?_
  refine gj_imul C dX11_pairOf_3 ?_
  refine gj_iload_n C 1 dX11_pairOf_4 rfl 1 rfl ?_
  refine gj_iadd C dX11_pairOf_5 ?_
  exact RT _ _ _ _ ⟨rfl, rfl⟩ dX11_pairOf_6
def s_X12_in (v : Int64) (lo : Int64) (hi : Int64)  : Int32 := if (lg_cmp v lo) < 0 then (0) else (if 0 < (lg_cmp v hi) then (0) else (1))
theorem b_X12_in (v : Int64) (lo : Int64) (hi : Int64)  : s_X12_in v lo hi = 0 ∨ s_X12_in v lo hi = 1 := by
  unfold s_X12_in
  repeat' split
  all_goals first | exact Or.inl rfl | exact Or.inr rfl
set_option maxHeartbeats 4000000 in
set_option maxRecDepth 100000 in
theorem c_X12_in {l : Launch} {D : va_G} {ca ss ad : Nat → Nat} {f : Nat → va_E} (v : Int64) (lo : Int64) (hi : Int64)   : gMi l D ca ss ad 108 yX12_in cX12_in 6 (some .boolean) 0 f [.long v, .long lo, .long hi] (fun r u => r = s_X12_in v lo hi ∧ u = f) := by
  refine gMz_ofK (by decide +kernel) (Nat.le_of_ble_eq_true rfl) (lv0 := [(0, .long v), (2, .long lo), (4, .long hi)]) rfl (fun p e s m args below meth c A Q C RT => ?_)
  have C : gX p s m _ meth c A D ca ss 6 RX12 cX12_in (some .boolean) := C
  refine gj_lload_n C 0 dX12_in_0 rfl 0 rfl ?_
  refine gj_lload_n C 2 dX12_in_1 rfl 1 rfl ?_
  refine gj_lcmp C dX12_in_2 ?_
  refine gj_if_lt C 17 dX12_in_3 (by decide) (fun c_1 => ?_) (fun c_1 => ?_)
  · refine gj_iconst C (v := 0) (by decide) dX12_in_17 ?_
    exact RT _ _ _ _ (by decide) ⟨by unfold s_X12_in; rw [if_pos c_1], rfl⟩ dX12_in_18
  · refine gj_lload_n C 0 dX12_in_6 rfl 0 rfl ?_
    refine gj_lload C dX12_in_7 2 rfl ?_
    refine gj_lcmp C dX12_in_9 ?_
    refine gj_if_gt C 17 dX12_in_10 (by decide) (fun c_2 => ?_) (fun c_2 => ?_)
    · refine gj_iconst C (v := 0) (by decide) dX12_in_17 ?_
      exact RT _ _ _ _ (by decide) ⟨by unfold s_X12_in; rw [if_neg c_1, if_pos c_2], rfl⟩ dX12_in_18
    · refine gj_iconst C (v := 1) (by decide) dX12_in_13 ?_
      refine gj_goto C 18 dX12_in_14 (by decide) ?_
      exact RT _ _ _ _ (by decide) ⟨by unfold s_X12_in; rw [if_neg c_1, if_neg c_2], rfl⟩ dX12_in_18
def s_X12_isTwo (k : Int32)  : Int32 := s_X12_in k.toInt64 (0 : Int64) (1 : Int64)
theorem b_X12_isTwo (k : Int32)  : s_X12_isTwo k = 0 ∨ s_X12_isTwo k = 1 := by
  unfold s_X12_isTwo
  repeat' split
  all_goals first | exact Or.inl rfl | exact Or.inr rfl | apply b_X12_in
set_option maxHeartbeats 4000000 in
set_option maxRecDepth 100000 in
theorem c_X12_isTwo {l : Launch} {D : va_G} {ca ss ad : Nat → Nat} {f : Nat → va_E} (k : Int32)   : gMi l D ca ss ad 108 yX12_isTwo cX12_isTwo 1 (some .boolean) 1 f [.int k] (fun r u => r = s_X12_isTwo k ∧ u = f) := by
  refine gMz_ofK (by decide +kernel) (Nat.le_of_ble_eq_true rfl) (lv0 := [(0, .int k)]) rfl (fun p e s m args below meth c A Q C RT => ?_)
  have C : gX p s m _ meth c A D ca ss 1 RX12 cX12_isTwo (some .boolean) := C
  refine gj_iload_n C 0 dX12_isTwo_0 rfl 0 rfl ?_
  refine gj_i2l C dX12_isTwo_1 ?_
  refine gj_lconst C (v := 0) rfl dX12_isTwo_2 ?_
  refine gj_lconst C (v := 1) rfl dX12_isTwo_3 ?_
  refine gj_callSi C w_944 w_943 (c_X12_in k.toInt64 (0 : Int64) (1 : Int64)) mc_X12_in ⟨Nat.le_of_ble_eq_true rfl, Nat.le_of_ble_eq_true rfl⟩ (rest := []) rfl (Nat.le_of_ble_eq_true rfl) dX12_isTwo_4 (fun r u h => ?_)
  obtain ⟨rfl, rfl⟩ := h
  exact RT _ _ _ _ (b_X12_in k.toInt64 (0 : Int64) (1 : Int64)) ⟨rfl, rfl⟩ dX12_isTwo_7
def s_X12_isIn (a : Int32) (b : Int32)  : Int32 := if ((a >>> (b &&& 31)) &&& 1) = 1 then (1) else (0)
theorem b_X12_isIn (a : Int32) (b : Int32)  : s_X12_isIn a b = 0 ∨ s_X12_isIn a b = 1 := by
  unfold s_X12_isIn
  repeat' split
  all_goals first | exact Or.inl rfl | exact Or.inr rfl
set_option maxHeartbeats 4000000 in
set_option maxRecDepth 100000 in
theorem c_X12_isIn {l : Launch} {D : va_G} {ca ss ad : Nat → Nat} {f : Nat → va_E} (a : Int32) (b : Int32)   : gMi l D ca ss ad 108 yX12_isIn cX12_isIn 2 (some .boolean) 0 f [.int a, .int b] (fun r u => r = s_X12_isIn a b ∧ u = f) := by
  refine gMz_ofK (by decide +kernel) (Nat.le_of_ble_eq_true rfl) (lv0 := [(0, .int a), (1, .int b)]) rfl (fun p e s m args below meth c A Q C RT => ?_)
  have C : gX p s m _ meth c A D ca ss 2 RX12 cX12_isIn (some .boolean) := C
  refine gj_iload_n C 0 dX12_isIn_0 rfl 0 rfl ?_
  refine gj_iload_n C 1 dX12_isIn_1 rfl 1 rfl ?_
  refine gj_ishr C dX12_isIn_2 ?_
  refine gj_iconst C (v := 1) (by decide) dX12_isIn_3 ?_
  refine gj_iand C dX12_isIn_4 ?_
  refine gj_iconst C (v := 1) (by decide) dX12_isIn_5 ?_
  refine gj_icmp_ne C 13 dX12_isIn_6 (by decide) (fun c_1 => ?_) (fun c_1 => ?_)
  · refine gj_iconst C (v := 0) (by decide) dX12_isIn_13 ?_
    exact RT _ _ _ _ (by decide) ⟨by unfold s_X12_isIn; rw [if_neg c_1], rfl⟩ dX12_isIn_14
  · refine gj_iconst C (v := 1) (by decide) dX12_isIn_9 ?_
    refine gj_goto C 14 dX12_isIn_10 (by decide) ?_
    exact RT _ _ _ _ (by decide) ⟨by unfold s_X12_isIn; rw [if_pos c_1], rfl⟩ dX12_isIn_14
def s_X12_lesser (a : Int32) (b : Int32)  : Int32 := if b ≤ a then (b) else (a)
set_option maxHeartbeats 4000000 in
set_option maxRecDepth 100000 in
theorem c_X12_lesser {l : Launch} {D : va_G} {ca ss ad : Nat → Nat} {f : Nat → va_E} (a : Int32) (b : Int32)   : gMi l D ca ss ad 108 yX12_lesser cX12_lesser 2 (some .int) 0 f [.int a, .int b] (fun r u => r = s_X12_lesser a b ∧ u = f) := by
  refine gMi_ofK (by decide +kernel) (Nat.le_of_ble_eq_true rfl) (lv0 := [(0, .int a), (1, .int b)]) rfl (fun p e s m args below meth c A Q C RT => ?_)
  have C : gX p s m _ meth c A D ca ss 2 RX12 cX12_lesser (some .int) := C
  refine gj_iload_n C 0 dX12_lesser_0 rfl 0 rfl ?_
  refine gj_iload_n C 1 dX12_lesser_1 rfl 1 rfl ?_
  refine gj_icmp_ge C 9 dX12_lesser_2 (by decide) (fun c_1 => ?_) (fun c_1 => ?_)
  · refine gj_iload_n C 1 dX12_lesser_9 rfl 1 rfl ?_
    exact RT _ _ _ _ ⟨by unfold s_X12_lesser; rw [if_pos c_1], rfl⟩ dX12_lesser_10
  · refine gj_iload_n C 0 dX12_lesser_5 rfl 0 rfl ?_
    refine gj_goto C 10 dX12_lesser_6 (by decide) ?_
    exact RT _ _ _ _ ⟨by unfold s_X12_lesser; rw [if_neg c_1], rfl⟩ dX12_lesser_10
def s_X12_greater (a : Int32) (b : Int32)  : Int32 := if a ≤ b then (b) else (a)
set_option maxHeartbeats 4000000 in
set_option maxRecDepth 100000 in
theorem c_X12_greater {l : Launch} {D : va_G} {ca ss ad : Nat → Nat} {f : Nat → va_E} (a : Int32) (b : Int32)   : gMi l D ca ss ad 108 yX12_greater cX12_greater 2 (some .int) 0 f [.int a, .int b] (fun r u => r = s_X12_greater a b ∧ u = f) := by
  refine gMi_ofK (by decide +kernel) (Nat.le_of_ble_eq_true rfl) (lv0 := [(0, .int a), (1, .int b)]) rfl (fun p e s m args below meth c A Q C RT => ?_)
  have C : gX p s m _ meth c A D ca ss 2 RX12 cX12_greater (some .int) := C
  refine gj_iload_n C 0 dX12_greater_0 rfl 0 rfl ?_
  refine gj_iload_n C 1 dX12_greater_1 rfl 1 rfl ?_
  refine gj_icmp_le C 9 dX12_greater_2 (by decide) (fun c_1 => ?_) (fun c_1 => ?_)
  · refine gj_iload_n C 1 dX12_greater_9 rfl 1 rfl ?_
    exact RT _ _ _ _ ⟨by unfold s_X12_greater; rw [if_pos c_1], rfl⟩ dX12_greater_10
  · refine gj_iload_n C 0 dX12_greater_5 rfl 0 rfl ?_
    refine gj_goto C 10 dX12_greater_6 (by decide) ?_
    exact RT _ _ _ _ ⟨by unfold s_X12_greater; rw [if_neg c_1], rfl⟩ dX12_greater_10
def s_X12_isSheet (k : Int32)  : Int32 := s_X12_in k.toInt64 (0 : Int64) (3 : Int64)
theorem b_X12_isSheet (k : Int32)  : s_X12_isSheet k = 0 ∨ s_X12_isSheet k = 1 := by
  unfold s_X12_isSheet
  repeat' split
  all_goals first | exact Or.inl rfl | exact Or.inr rfl | apply b_X12_in
set_option maxHeartbeats 4000000 in
set_option maxRecDepth 100000 in
theorem c_X12_isSheet {l : Launch} {D : va_G} {ca ss ad : Nat → Nat} {f : Nat → va_E} (k : Int32)   : gMi l D ca ss ad 108 yX12_isSheet cX12_isSheet 1 (some .boolean) 1 f [.int k] (fun r u => r = s_X12_isSheet k ∧ u = f) := by
  refine gMz_ofK (by decide +kernel) (Nat.le_of_ble_eq_true rfl) (lv0 := [(0, .int k)]) rfl (fun p e s m args below meth c A Q C RT => ?_)
  have C : gX p s m _ meth c A D ca ss 1 RX12 cX12_isSheet (some .boolean) := C
  refine gj_iload_n C 0 dX12_isSheet_0 rfl 0 rfl ?_
  refine gj_i2l C dX12_isSheet_1 ?_
  refine gj_lconst C (v := 0) rfl dX12_isSheet_2 ?_
  refine gj_ldc2 C (v := 3) w_942 dX12_isSheet_3 ?_
  refine gj_callSi C w_944 w_943 (c_X12_in k.toInt64 (0 : Int64) (3 : Int64)) mc_X12_in ⟨Nat.le_of_ble_eq_true rfl, Nat.le_of_ble_eq_true rfl⟩ (rest := []) rfl (Nat.le_of_ble_eq_true rfl) dX12_isSheet_6 (fun r u h => ?_)
  obtain ⟨rfl, rfl⟩ := h
  exact RT _ _ _ _ (b_X12_in k.toInt64 (0 : Int64) (3 : Int64)) ⟨rfl, rfl⟩ dX12_isSheet_9
def s_X12_cut (a : Int32) (b : Int32)  : Int32 := if a = 0 then (b.toInt8.toInt32) else (if a = 1 then (b.toInt16.toInt32) else (b))
set_option maxHeartbeats 4000000 in
set_option maxRecDepth 100000 in
theorem c_X12_cut {l : Launch} {D : va_G} {ca ss ad : Nat → Nat} {f : Nat → va_E} (a : Int32) (b : Int32)   : gMi l D ca ss ad 108 yX12_cut cX12_cut 2 (some .int) 0 f [.int a, .int b] (fun r u => r = s_X12_cut a b ∧ u = f) := by
  refine gMi_ofK (by decide +kernel) (Nat.le_of_ble_eq_true rfl) (lv0 := [(0, .int a), (1, .int b)]) rfl (fun p e s m args below meth c A Q C RT => ?_)
  have C : gX p s m _ meth c A D ca ss 2 RX12 cX12_cut (some .int) := C
  refine gj_iload_n C 0 dX12_cut_0 rfl 0 rfl ?_
  refine gj_if_ne C 9 dX12_cut_1 (by decide) (fun c_1 => ?_) (fun c_1 => ?_)
  · refine gj_iload_n C 0 dX12_cut_9 rfl 0 rfl ?_
    refine gj_iconst C (v := 1) (by decide) dX12_cut_10 ?_
    refine gj_icmp_ne C 19 dX12_cut_11 (by decide) (fun c_2 => ?_) (fun c_2 => ?_)
    · refine gj_iload_n C 1 dX12_cut_19 rfl 1 rfl ?_
      exact RT _ _ _ _ ⟨by unfold s_X12_cut; rw [if_neg c_1, if_neg c_2], rfl⟩ dX12_cut_20
    · refine gj_iload_n C 1 dX12_cut_14 rfl 1 rfl ?_
      refine gj_i2s C dX12_cut_15 ?_
      refine gj_goto C 20 dX12_cut_16 (by decide) ?_
      exact RT _ _ _ _ ⟨by unfold s_X12_cut; rw [if_neg c_1, if_pos c_2], rfl⟩ dX12_cut_20
  · refine gj_iload_n C 1 dX12_cut_4 rfl 1 rfl ?_
    refine gj_i2b C dX12_cut_5 ?_
    refine gj_goto C 20 dX12_cut_6 (by decide) ?_
    exact RT _ _ _ _ ⟨by unfold s_X12_cut; rw [if_pos c_1], rfl⟩ dX12_cut_20
def s_X12_isDirection (x : Int32) (y : Int32) (z : Int32)  : Int32 := if (s_X12_in x.toInt64 (-100 : Int64) (100 : Int64)) = 0 then (0) else (if (s_X12_in y.toInt64 (-100 : Int64) (100 : Int64)) = 0 then (0) else (if (s_X12_in z.toInt64 (-100 : Int64) (100 : Int64)) = 0 then (0) else (if x = 0 then (if y = 0 then (if z = 0 then (0) else (1)) else (1)) else (1))))
theorem b_X12_isDirection (x : Int32) (y : Int32) (z : Int32)  : s_X12_isDirection x y z = 0 ∨ s_X12_isDirection x y z = 1 := by
  unfold s_X12_isDirection
  repeat' split
  all_goals first | exact Or.inl rfl | exact Or.inr rfl | apply b_X12_in
set_option maxHeartbeats 4000000 in
set_option maxRecDepth 100000 in
theorem c_X12_isDirection {l : Launch} {D : va_G} {ca ss ad : Nat → Nat} {f : Nat → va_E} (x : Int32) (y : Int32) (z : Int32)   : gMi l D ca ss ad 108 yX12_isDirection cX12_isDirection 3 (some .boolean) 1 f [.int x, .int y, .int z] (fun r u => r = s_X12_isDirection x y z ∧ u = f) := by
  refine gMz_ofK (by decide +kernel) (Nat.le_of_ble_eq_true rfl) (lv0 := [(0, .int x), (1, .int y), (2, .int z)]) rfl (fun p e s m args below meth c A Q C RT => ?_)
  have C : gX p s m _ meth c A D ca ss 3 RX12 cX12_isDirection (some .boolean) := C
  refine gj_iload_n C 0 dX12_isDirection_0 rfl 0 rfl ?_
  refine gj_i2l C dX12_isDirection_1 ?_
  refine gj_ldc2 C (v := (-100)) w_985 dX12_isDirection_2 ?_
  refine gj_ldc2 C (v := 100) w_986 dX12_isDirection_5 ?_
  refine gj_callSi C w_944 w_943 (c_X12_in x.toInt64 (-100 : Int64) (100 : Int64)) mc_X12_in ⟨Nat.le_of_ble_eq_true rfl, Nat.le_of_ble_eq_true rfl⟩ (rest := []) rfl (Nat.le_of_ble_eq_true rfl) dX12_isDirection_8 (fun r u h => ?_)
  obtain ⟨rfl, rfl⟩ := h
  refine gj_if_eq C 58 dX12_isDirection_11 (by decide) (fun c_1 => ?_) (fun c_1 => ?_)
  · refine gj_iconst C (v := 0) (by decide) dX12_isDirection_58 ?_
    exact RT _ _ _ _ (by decide) ⟨by unfold s_X12_isDirection; rw [if_pos c_1], rfl⟩ dX12_isDirection_59
  · refine gj_iload_n C 1 dX12_isDirection_14 rfl 1 rfl ?_
    refine gj_i2l C dX12_isDirection_15 ?_
    refine gj_ldc2 C (v := (-100)) w_985 dX12_isDirection_16 ?_
    refine gj_ldc2 C (v := 100) w_986 dX12_isDirection_19 ?_
    refine gj_callSi C w_944 w_943 (c_X12_in y.toInt64 (-100 : Int64) (100 : Int64)) mc_X12_in ⟨Nat.le_of_ble_eq_true rfl, Nat.le_of_ble_eq_true rfl⟩ (rest := []) rfl (Nat.le_of_ble_eq_true rfl) dX12_isDirection_22 (fun r u h => ?_)
    obtain ⟨rfl, rfl⟩ := h
    refine gj_if_eq C 58 dX12_isDirection_25 (by decide) (fun c_2 => ?_) (fun c_2 => ?_)
    · refine gj_iconst C (v := 0) (by decide) dX12_isDirection_58 ?_
      exact RT _ _ _ _ (by decide) ⟨by unfold s_X12_isDirection; rw [if_neg c_1, if_pos c_2], rfl⟩ dX12_isDirection_59
    · refine gj_iload_n C 2 dX12_isDirection_28 rfl 2 rfl ?_
      refine gj_i2l C dX12_isDirection_29 ?_
      refine gj_ldc2 C (v := (-100)) w_985 dX12_isDirection_30 ?_
      refine gj_ldc2 C (v := 100) w_986 dX12_isDirection_33 ?_
      refine gj_callSi C w_944 w_943 (c_X12_in z.toInt64 (-100 : Int64) (100 : Int64)) mc_X12_in ⟨Nat.le_of_ble_eq_true rfl, Nat.le_of_ble_eq_true rfl⟩ (rest := []) rfl (Nat.le_of_ble_eq_true rfl) dX12_isDirection_36 (fun r u h => ?_)
      obtain ⟨rfl, rfl⟩ := h
      refine gj_if_eq C 58 dX12_isDirection_39 (by decide) (fun c_3 => ?_) (fun c_3 => ?_)
      · refine gj_iconst C (v := 0) (by decide) dX12_isDirection_58 ?_
        exact RT _ _ _ _ (by decide) ⟨by unfold s_X12_isDirection; rw [if_neg c_1, if_neg c_2, if_pos c_3], rfl⟩ dX12_isDirection_59
      · refine gj_iload_n C 0 dX12_isDirection_42 rfl 0 rfl ?_
        refine gj_if_ne C 54 dX12_isDirection_43 (by decide) (fun c_4 => ?_) (fun c_4 => ?_)
        · refine gj_iconst C (v := 1) (by decide) dX12_isDirection_54 ?_
          refine gj_goto C 59 dX12_isDirection_55 (by decide) ?_
          exact RT _ _ _ _ (by decide) ⟨by unfold s_X12_isDirection; rw [if_neg c_1, if_neg c_2, if_neg c_3, if_neg c_4], rfl⟩ dX12_isDirection_59
        · refine gj_iload_n C 1 dX12_isDirection_46 rfl 1 rfl ?_
          refine gj_if_ne C 54 dX12_isDirection_47 (by decide) (fun c_5 => ?_) (fun c_5 => ?_)
          · refine gj_iconst C (v := 1) (by decide) dX12_isDirection_54 ?_
            refine gj_goto C 59 dX12_isDirection_55 (by decide) ?_
            exact RT _ _ _ _ (by decide) ⟨by unfold s_X12_isDirection; rw [if_neg c_1, if_neg c_2, if_neg c_3, if_pos c_4, if_neg c_5], rfl⟩ dX12_isDirection_59
          · refine gj_iload_n C 2 dX12_isDirection_50 rfl 2 rfl ?_
            refine gj_if_eq C 58 dX12_isDirection_51 (by decide) (fun c_6 => ?_) (fun c_6 => ?_)
            · refine gj_iconst C (v := 0) (by decide) dX12_isDirection_58 ?_
              exact RT _ _ _ _ (by decide) ⟨by unfold s_X12_isDirection; rw [if_neg c_1, if_neg c_2, if_neg c_3, if_pos c_4, if_pos c_5, if_pos c_6], rfl⟩ dX12_isDirection_59
            · refine gj_iconst C (v := 1) (by decide) dX12_isDirection_54 ?_
              refine gj_goto C 59 dX12_isDirection_55 (by decide) ?_
              exact RT _ _ _ _ (by decide) ⟨by unfold s_X12_isDirection; rw [if_neg c_1, if_neg c_2, if_neg c_3, if_pos c_4, if_pos c_5, if_neg c_6], rfl⟩ dX12_isDirection_59
def s_X12_most (k : Int32)  : Int32 := if k = 0 then (12) else (8)
set_option maxHeartbeats 4000000 in
set_option maxRecDepth 100000 in
theorem c_X12_most {l : Launch} {D : va_G} {ca ss ad : Nat → Nat} {f : Nat → va_E} (k : Int32)   : gMi l D ca ss ad 108 yX12_most cX12_most 1 (some .int) 0 f [.int k] (fun r u => r = s_X12_most k ∧ u = f) := by
  refine gMi_ofK (by decide +kernel) (Nat.le_of_ble_eq_true rfl) (lv0 := [(0, .int k)]) rfl (fun p e s m args below meth c A Q C RT => ?_)
  have C : gX p s m _ meth c A D ca ss 1 RX12 cX12_most (some .int) := C
  refine gj_iload_n C 0 dX12_most_0 rfl 0 rfl ?_
  refine gj_if_ne C 9 dX12_most_1 (by decide) (fun c_1 => ?_) (fun c_1 => ?_)
  · refine gj_bipush C (v := 8) (by decide) dX12_most_9 ?_
    exact RT _ _ _ _ ⟨by unfold s_X12_most; rw [if_neg c_1], rfl⟩ dX12_most_11
  · refine gj_bipush C (v := 12) (by decide) dX12_most_4 ?_
    refine gj_goto C 11 dX12_most_6 (by decide) ?_
    exact RT _ _ _ _ ⟨by unfold s_X12_most; rw [if_pos c_1], rfl⟩ dX12_most_11
def s_X12_apart (a : Int32) (b : Int32)  : Int32 := if b ≤ a then (a - b) else (b - a)
set_option maxHeartbeats 4000000 in
set_option maxRecDepth 100000 in
theorem c_X12_apart {l : Launch} {D : va_G} {ca ss ad : Nat → Nat} {f : Nat → va_E} (a : Int32) (b : Int32)   : gMi l D ca ss ad 108 yX12_apart cX12_apart 2 (some .int) 0 f [.int a, .int b] (fun r u => r = s_X12_apart a b ∧ u = f) := by
  refine gMi_ofK (by decide +kernel) (Nat.le_of_ble_eq_true rfl) (lv0 := [(0, .int a), (1, .int b)]) rfl (fun p e s m args below meth c A Q C RT => ?_)
  have C : gX p s m _ meth c A D ca ss 2 RX12 cX12_apart (some .int) := C
  refine gj_iload_n C 0 dX12_apart_0 rfl 0 rfl ?_
  refine gj_iload_n C 1 dX12_apart_1 rfl 1 rfl ?_
  refine gj_icmp_ge C 11 dX12_apart_2 (by decide) (fun c_1 => ?_) (fun c_1 => ?_)
  · refine gj_iload_n C 0 dX12_apart_11 rfl 0 rfl ?_
    refine gj_iload_n C 1 dX12_apart_12 rfl 1 rfl ?_
    refine gj_isub C dX12_apart_13 ?_
    exact RT _ _ _ _ ⟨by unfold s_X12_apart; rw [if_pos c_1], rfl⟩ dX12_apart_14
  · refine gj_iload_n C 1 dX12_apart_5 rfl 1 rfl ?_
    refine gj_iload_n C 0 dX12_apart_6 rfl 0 rfl ?_
    refine gj_isub C dX12_apart_7 ?_
    refine gj_goto C 14 dX12_apart_8 (by decide) ?_
    exact RT _ _ _ _ ⟨by unfold s_X12_apart; rw [if_neg c_1], rfl⟩ dX12_apart_14
def s_X12_threes (k : Int32)  : Int32 := ((k * (k - 1)) * (k - 2)) / 6
set_option maxHeartbeats 4000000 in
set_option maxRecDepth 100000 in
theorem c_X12_threes {l : Launch} {D : va_G} {ca ss ad : Nat → Nat} {f : Nat → va_E} (k : Int32)   : gMi l D ca ss ad 108 yX12_threes cX12_threes 1 (some .int) 0 f [.int k] (fun r u => r = s_X12_threes k ∧ u = f) := by
  refine gMi_ofK (by decide +kernel) (Nat.le_of_ble_eq_true rfl) (lv0 := [(0, .int k)]) rfl (fun p e s m args below meth c A Q C RT => ?_)
  have C : gX p s m _ meth c A D ca ss 1 RX12 cX12_threes (some .int) := C
  refine gj_iload_n C 0 dX12_threes_0 rfl 0 rfl ?_
  refine gj_iload_n C 0 dX12_threes_1 rfl 0 rfl ?_
  refine gj_iconst C (v := 1) (by decide) dX12_threes_2 ?_
  refine gj_isub C dX12_threes_3 ?_
  refine gj_imul C dX12_threes_4 ?_
  refine gj_iload_n C 0 dX12_threes_5 rfl 0 rfl ?_
  refine gj_iconst C (v := 2) (by decide) dX12_threes_6 ?_
  refine gj_isub C dX12_threes_7 ?_
  refine gj_imul C dX12_threes_8 ?_
  refine gj_bipush C (v := 6) (by decide) dX12_threes_9 ?_
  refine gj_idiv C (by decide) dX12_threes_11 ?_
  exact RT _ _ _ _ ⟨rfl, rfl⟩ dX12_threes_12
def s_X12_isTray (k : Int32)  : Int32 := s_X12_in k.toInt64 (0 : Int64) (3 : Int64)
theorem b_X12_isTray (k : Int32)  : s_X12_isTray k = 0 ∨ s_X12_isTray k = 1 := by
  unfold s_X12_isTray
  repeat' split
  all_goals first | exact Or.inl rfl | exact Or.inr rfl | apply b_X12_in
set_option maxHeartbeats 4000000 in
set_option maxRecDepth 100000 in
theorem c_X12_isTray {l : Launch} {D : va_G} {ca ss ad : Nat → Nat} {f : Nat → va_E} (k : Int32)   : gMi l D ca ss ad 108 yX12_isTray cX12_isTray 1 (some .boolean) 1 f [.int k] (fun r u => r = s_X12_isTray k ∧ u = f) := by
  refine gMz_ofK (by decide +kernel) (Nat.le_of_ble_eq_true rfl) (lv0 := [(0, .int k)]) rfl (fun p e s m args below meth c A Q C RT => ?_)
  have C : gX p s m _ meth c A D ca ss 1 RX12 cX12_isTray (some .boolean) := C
  refine gj_iload_n C 0 dX12_isTray_0 rfl 0 rfl ?_
  refine gj_i2l C dX12_isTray_1 ?_
  refine gj_lconst C (v := 0) rfl dX12_isTray_2 ?_
  refine gj_ldc2 C (v := 3) w_942 dX12_isTray_3 ?_
  refine gj_callSi C w_944 w_943 (c_X12_in k.toInt64 (0 : Int64) (3 : Int64)) mc_X12_in ⟨Nat.le_of_ble_eq_true rfl, Nat.le_of_ble_eq_true rfl⟩ (rest := []) rfl (Nat.le_of_ble_eq_true rfl) dX12_isTray_6 (fun r u h => ?_)
  obtain ⟨rfl, rfl⟩ := h
  exact RT _ _ _ _ (b_X12_in k.toInt64 (0 : Int64) (3 : Int64)) ⟨rfl, rfl⟩ dX12_isTray_9
