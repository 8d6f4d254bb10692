section GW
variable {p : Program} {l : Launch} {e : Env} {R : Room} {s : State} {m : MethodId} {args : Array Value} {below : List Frame} {meth : Method} {c : Code} {A : Nat → Prop} {Q : State → Prop} {D : va_G} {ca ss ad : Nat → Nat} {N n : Nat} {own : String} {cc : ByteArray} {ret : Option FieldType} {f : Nat → va_E} {lv : List (Nat × Value)} {pc : Nat} {rest : List Value}
theorem gj_ldcw (C : gX p s m args meth c A D ca ss n own cc ret) {index : Nat} {v : Int32} (hc : Cond.constant own index v ∈ gTG) (hd : decode cc pc = .ok (.ldc_w index, 3)) (k : gJ p l e R s m args below meth c A Q D ad N n f lv (pc + 3) (.int v :: rest)) : gJ p l e R s m args below meth c A Q D ad N n f lv pc rest := by
  intro H locs ls hP hD hS hl
  obtain ⟨hx, hb, hml, hown, hts, ⟨hK, hN, hSt⟩, hlk, hr, hA⟩ := C
  exact lv_ldcw hx hb hown (hts _ hc) hd (k H locs ls hP hD hS hl)
end GW
theorem fdPlain : plainFor yJ9_floorDiv_f86c9 = true := by decide +kernel
theorem gMet_ofWF {l : Launch} {y : MethodName} {ws ws' : List Cond} {rm : Room} {Pc : Array Value → State → Prop} {Qc : Array Value → State → Outcome → State → Prop} {mc ms : Nat} {free : Addr → Prop} {cc : ByteArray} {maxL : Nat} {ret : Option FieldType}
    (hy : plainFor y = true) (hw : ws = Cond.code y cc maxL ret :: ws')
    (body : ∀ p e s m args below meth c s₁, BodyLoose p l y (headSpec ws rm) cc maxL ret e s m args below meth c s₁ → c.maxLocals = maxL → Pc args s →
      W p l e (headSpec ws rm).room s m args below meth c s.heap [] 0 0 (MQ below Qc args s mc ms free) (entryFrame m args maxL)) : Met l y ws rm Pc Qc mc ms free := by
  refine MetFree.of_bodySF (code := cc) (maxLocals := maxL) (ret := ret) hy ?_ ?_
  · intro args s m h hn
    obtain ⟨meth, c, h1, h2, h3, h4, h5, h6, -, -⟩ := Cond.code_spec hn (atoms_spec (ws := ws) h _ (by rw [hw]; exact List.mem_cons_self))
    exact ⟨meth, c, h1, h2, h3, h4, h5, h6⟩
  · intro p e s m args below meth c s₁ B hml hP _
    have hh0 : s₁.heap = s.heap := by rw [B.state]; rfl
    obtain ⟨t, a1, o, b1, b2, b3⟩ := body p e s m args below meth c s₁ B hml hP s₁ hh0 (Stand.of_body B)
    exact ⟨t, o, a1, b1, b2, ⟨b3.1, b3.2⟩⟩
section GF
variable {l : Launch} {D : va_G} {ca ss ad : Nat → Nat} {N : Nat} {y : MethodName} {cc : ByteArray} {n : Nat} {ret : Option FieldType} {d : Nat} {f : Nat → va_E} {av : List Value} {lv0 : List (Nat × Value)}
theorem gM_ofF {Qc : (Nat → Prop) → Array Value → State → Outcome → State → Prop} (hy : plainFor y = true) (hn : (lg_sl av).length ≤ n)
    (h : ∀ (p : Program) (e : Env) (s : State) (m : MethodId) (below : List Frame) (meth : Method) (c : Code) (A : Nat → Prop), gX p s m av.toArray meth c A D ca ss n y.cls cc ret → gJ p l e (Rm d) s m av.toArray below meth c A (MQ below (Qc A) av.toArray s 0 0 A) D ad N n f (lv_args 0 av) 0 []) (sz : Nat) :
    Met l y (wsM y cc n ret) (Rm d) (va_Pc av (gP D ca ss ad N f sz)) (Qc (va_A (gWn ad N f) sz)) 0 0 (va_A (gWn ad N f) sz) := by
  refine gMet_ofWF (cc := cc) (maxL := n) (ret := ret) hy rfl ?_
  intro p e s m args below meth c s₁ B hml hv
  obtain ⟨rfl, hsz, hP, hD0, hK⟩ := hv
  have hts : ∀ w ∈ gTG, w.before av.toArray s = true := fun w hw => atoms_spec (ws := wsM y cc n ret) B.pre w (List.mem_cons_of_mem _ hw)
  have hown : s.vm.findClass y.cls = some m.cls := findClass_of_methodNamed B.named
  subst hsz
  rw [lg_entry_eq]
  exact h p e s m below meth c _ ⟨B.exec, B.bytes, hml, hown, hts, hK, B.notSynchronized, B.returns, fun q hq => Or.inr hq⟩ _ _ _ hP (hD0.self (sz := s.heap.size)) va_S.rf (lv_entry av hn)
theorem gMl_ofKF {post : Int64 → (Nat → va_E) → Prop} (hy : plainFor y = true) (hn : (lg_sl av).length ≤ n) (hlv : lv_args 0 av = lv0) (h : ∀ (p : Program) (e : Env) (s : State) (m : MethodId) (args : Array Value) (below : List Frame) (meth : Method) (c : Code) (A : Nat → Prop) (Q : State → Prop), gX p s m args meth c A D ca ss n y.cls cc (some .long) → (∀ (f : Nat → va_E) (lv : List (Nat × Value)) (pc : Nat) (v : Int64) , post v f → decode cc pc = .ok (.lreturn, 1) → gJ p l e (Rm d) s m args below meth c A Q D ad N n f lv pc [.long v]) → gJ p l e (Rm d) s m args below meth c A Q D ad N n f lv0 0 []) : gMl l D ca ss ad N y cc n (some .long) d f av post := fun sz => gM_ofF (Qc := fun A => va_Ql post (gB D ad N A) A) hy hn (fun p e s m below meth c A C => hlv ▸ h p e s m _ below meth c A _ C (fun f lv pc v hp hd => gj_lret C hp hd)) sz
end GF
def s_J9_floorDiv_f86c9 (x : Int64) (y : Int64) : Int64 := if 0 ≤ (lg_cmp (x ^^^ y) 0) then (x / y) else (if (lg_cmp ((x / y) * y) x) = 0 then (x / y) else ((x / y) - 1))
set_option maxHeartbeats 400000 in
set_option maxRecDepth 100000 in
theorem c_J9_floorDiv_f86c9 {l : Launch} {D : va_G} {ca ss ad : Nat → Nat} {f : Nat → va_E}  (x : Int64) (y : Int64)   (hz : ¬ y = 0) : gMl l D ca ss ad 108 yJ9_floorDiv_f86c9 cJ9_floorDiv_f86c9 6 (some .long) 0 f [.long x, .long y] (fun r u => r = s_J9_floorDiv_f86c9 x y ∧ u = f) := by
  refine gMl_ofKF fdPlain (Nat.le_of_ble_eq_true rfl) (lv0 := [(0, .long x), (2, .long y)]) rfl (fun pT eT sT mT aT below meth cT AT QT C RT => ?_)
  have C : gX pT sT mT aT meth cT AT D ca ss 6 RJ9 cJ9_floorDiv_f86c9 (some .long) := C
  refine gj_lload_n C 0 dJ9_floorDiv_f86c9_0 rfl 0 rfl ?_
  refine gj_lload_n C 2 dJ9_floorDiv_f86c9_1 rfl 1 rfl ?_
  refine gj_ldiv C hz dJ9_floorDiv_f86c9_2 ?_
  refine gj_lstore C (lv' := [(4, .long (x / y)), (0, .long x), (2, .long y)]) dJ9_floorDiv_f86c9_3 (by decide) rfl ?_
  refine gj_lload_n C 0 dJ9_floorDiv_f86c9_5 rfl 1 rfl ?_
  refine gj_lload_n C 2 dJ9_floorDiv_f86c9_6 rfl 2 rfl ?_
  refine gj_lxor C dJ9_floorDiv_f86c9_7 ?_
  refine gj_lconst C (v := 0) rfl dJ9_floorDiv_f86c9_8 ?_
  refine gj_lcmp C dJ9_floorDiv_f86c9_9 ?_
  refine gj_if_ge C 27 dJ9_floorDiv_f86c9_10 (by decide) (fun c_1 => ?_) (fun c_1 => ?_)
  · refine gj_lload C dJ9_floorDiv_f86c9_27 0 rfl ?_
    exact RT _ _ _ _ ⟨by unfold s_J9_floorDiv_f86c9; rw [if_pos c_1], rfl⟩ dJ9_floorDiv_f86c9_29
  · refine gj_lload C dJ9_floorDiv_f86c9_13 0 rfl ?_
    refine gj_lload_n C 2 dJ9_floorDiv_f86c9_15 rfl 2 rfl ?_
    refine gj_lmul C dJ9_floorDiv_f86c9_16 ?_
    refine gj_lload_n C 0 dJ9_floorDiv_f86c9_17 rfl 1 rfl ?_
    refine gj_lcmp C dJ9_floorDiv_f86c9_18 ?_
    refine gj_if_eq C 27 dJ9_floorDiv_f86c9_19 (by decide) (fun c_2 => ?_) (fun c_2 => ?_)
    · refine gj_lload C dJ9_floorDiv_f86c9_27 0 rfl ?_
      exact RT _ _ _ _ ⟨by unfold s_J9_floorDiv_f86c9; rw [if_neg c_1, if_pos c_2], rfl⟩ dJ9_floorDiv_f86c9_29
    · refine gj_lload C dJ9_floorDiv_f86c9_22 0 rfl ?_
      refine gj_lconst C (v := 1) rfl dJ9_floorDiv_f86c9_24 ?_
      refine gj_lsub C dJ9_floorDiv_f86c9_25 ?_
      exact RT _ _ _ _ ⟨by unfold s_J9_floorDiv_f86c9; rw [if_neg c_1, if_neg c_2], rfl⟩ dJ9_floorDiv_f86c9_26
def s_J6_bitCount_0f7a4 (x : Int32) : Int32 := (((((((x - (((x.toUInt32 >>> ((1 : Int32).toUInt32 &&& Int32.toUInt32 31)).toInt32) &&& 1431655765)) &&& 858993459) + ((((x - (((x.toUInt32 >>> ((1 : Int32).toUInt32 &&& Int32.toUInt32 31)).toInt32) &&& 1431655765)).toUInt32 >>> ((2 : Int32).toUInt32 &&& Int32.toUInt32 31)).toInt32) &&& 858993459)) + (((((x - (((x.toUInt32 >>> ((1 : Int32).toUInt32 &&& Int32.toUInt32 31)).toInt32) &&& 1431655765)) &&& 858993459) + ((((x - (((x.toUInt32 >>> ((1 : Int32).toUInt32 &&& Int32.toUInt32 31)).toInt32) &&& 1431655765)).toUInt32 >>> ((2 : Int32).toUInt32 &&& Int32.toUInt32 31)).toInt32) &&& 858993459)).toUInt32 >>> ((4 : Int32).toUInt32 &&& Int32.toUInt32 31)).toInt32)) &&& 252645135) + (((((((x - (((x.toUInt32 >>> ((1 : Int32).toUInt32 &&& Int32.toUInt32 31)).toInt32) &&& 1431655765)) &&& 858993459) + ((((x - (((x.toUInt32 >>> ((1 : Int32).toUInt32 &&& Int32.toUInt32 31)).toInt32) &&& 1431655765)).toUInt32 >>> ((2 : Int32).toUInt32 &&& Int32.toUInt32 31)).toInt32) &&& 858993459)) + (((((x - (((x.toUInt32 >>> ((1 : Int32).toUInt32 &&& Int32.toUInt32 31)).toInt32) &&& 1431655765)) &&& 858993459) + ((((x - (((x.toUInt32 >>> ((1 : Int32).toUInt32 &&& Int32.toUInt32 31)).toInt32) &&& 1431655765)).toUInt32 >>> ((2 : Int32).toUInt32 &&& Int32.toUInt32 31)).toInt32) &&& 858993459)).toUInt32 >>> ((4 : Int32).toUInt32 &&& Int32.toUInt32 31)).toInt32)) &&& 252645135).toUInt32 >>> ((8 : Int32).toUInt32 &&& Int32.toUInt32 31)).toInt32)) + ((((((((x - (((x.toUInt32 >>> ((1 : Int32).toUInt32 &&& Int32.toUInt32 31)).toInt32) &&& 1431655765)) &&& 858993459) + ((((x - (((x.toUInt32 >>> ((1 : Int32).toUInt32 &&& Int32.toUInt32 31)).toInt32) &&& 1431655765)).toUInt32 >>> ((2 : Int32).toUInt32 &&& Int32.toUInt32 31)).toInt32) &&& 858993459)) + (((((x - (((x.toUInt32 >>> ((1 : Int32).toUInt32 &&& Int32.toUInt32 31)).toInt32) &&& 1431655765)) &&& 858993459) + ((((x - (((x.toUInt32 >>> ((1 : Int32).toUInt32 &&& Int32.toUInt32 31)).toInt32) &&& 1431655765)).toUInt32 >>> ((2 : Int32).toUInt32 &&& Int32.toUInt32 31)).toInt32) &&& 858993459)).toUInt32 >>> ((4 : Int32).toUInt32 &&& Int32.toUInt32 31)).toInt32)) &&& 252645135) + (((((((x - (((x.toUInt32 >>> ((1 : Int32).toUInt32 &&& Int32.toUInt32 31)).toInt32) &&& 1431655765)) &&& 858993459) + ((((x - (((x.toUInt32 >>> ((1 : Int32).toUInt32 &&& Int32.toUInt32 31)).toInt32) &&& 1431655765)).toUInt32 >>> ((2 : Int32).toUInt32 &&& Int32.toUInt32 31)).toInt32) &&& 858993459)) + (((((x - (((x.toUInt32 >>> ((1 : Int32).toUInt32 &&& Int32.toUInt32 31)).toInt32) &&& 1431655765)) &&& 858993459) + ((((x - (((x.toUInt32 >>> ((1 : Int32).toUInt32 &&& Int32.toUInt32 31)).toInt32) &&& 1431655765)).toUInt32 >>> ((2 : Int32).toUInt32 &&& Int32.toUInt32 31)).toInt32) &&& 858993459)).toUInt32 >>> ((4 : Int32).toUInt32 &&& Int32.toUInt32 31)).toInt32)) &&& 252645135).toUInt32 >>> ((8 : Int32).toUInt32 &&& Int32.toUInt32 31)).toInt32)).toUInt32 >>> ((16 : Int32).toUInt32 &&& Int32.toUInt32 31)).toInt32)) &&& 63
set_option maxHeartbeats 400000 in
set_option maxRecDepth 100000 in
theorem c_J6_bitCount_0f7a4 {l : Launch} {D : va_G} {ca ss ad : Nat → Nat} {f : Nat → va_E}  (x : Int32)    : gMi l D ca ss ad 108 yJ6_bitCount_0f7a4 cJ6_bitCount_0f7a4 1 (some .int) 0 f [.int x] (fun r u => r = s_J6_bitCount_0f7a4 x ∧ u = f) := by
  refine gMi_ofK (by decide +kernel) (Nat.le_of_ble_eq_true rfl) (lv0 := [(0, .int x)]) rfl (fun pT eT sT mT aT below meth cT AT QT C RT => ?_)
  have C : gX pT sT mT aT meth cT AT D ca ss 1 RJ6 cJ6_bitCount_0f7a4 (some .int) := C
  refine gj_iload_n C 0 dJ6_bitCount_0f7a4_0 rfl 0 rfl ?_
  refine gj_iload_n C 0 dJ6_bitCount_0f7a4_1 rfl 0 rfl ?_
  refine gj_iconst C (v := 1) (by decide) dJ6_bitCount_0f7a4_2 ?_
  refine gj_iushr C dJ6_bitCount_0f7a4_3 ?_
  refine gj_ldcw C (v := 1431655765) w_821 dJ6_bitCount_0f7a4_4 ?_
  refine gj_iand C dJ6_bitCount_0f7a4_7 ?_
  refine gj_isub C dJ6_bitCount_0f7a4_8 ?_
  refine gj_istore_n C (lv' := [(0, .int (x - (((x.toUInt32 >>> ((1 : Int32).toUInt32 &&& Int32.toUInt32 31)).toInt32) &&& 1431655765)))]) 0 dJ6_bitCount_0f7a4_9 rfl (by decide) rfl ?_
  refine gj_iload_n C 0 dJ6_bitCount_0f7a4_10 rfl 0 rfl ?_
  refine gj_ldcw C (v := 858993459) w_822 dJ6_bitCount_0f7a4_11 ?_
  refine gj_iand C dJ6_bitCount_0f7a4_14 ?_
  refine gj_iload_n C 0 dJ6_bitCount_0f7a4_15 rfl 0 rfl ?_
  refine gj_iconst C (v := 2) (by decide) dJ6_bitCount_0f7a4_16 ?_
  refine gj_iushr C dJ6_bitCount_0f7a4_17 ?_
  refine gj_ldcw C (v := 858993459) w_822 dJ6_bitCount_0f7a4_18 ?_
  refine gj_iand C dJ6_bitCount_0f7a4_21 ?_
  refine gj_iadd C dJ6_bitCount_0f7a4_22 ?_
  refine gj_istore_n C (lv' := [(0, .int (((x - (((x.toUInt32 >>> ((1 : Int32).toUInt32 &&& Int32.toUInt32 31)).toInt32) &&& 1431655765)) &&& 858993459) + ((((x - (((x.toUInt32 >>> ((1 : Int32).toUInt32 &&& Int32.toUInt32 31)).toInt32) &&& 1431655765)).toUInt32 >>> ((2 : Int32).toUInt32 &&& Int32.toUInt32 31)).toInt32) &&& 858993459)))]) 0 dJ6_bitCount_0f7a4_23 rfl (by decide) rfl ?_
  refine gj_iload_n C 0 dJ6_bitCount_0f7a4_24 rfl 0 rfl ?_
  refine gj_iload_n C 0 dJ6_bitCount_0f7a4_25 rfl 0 rfl ?_
  refine gj_iconst C (v := 4) (by decide) dJ6_bitCount_0f7a4_26 ?_
  refine gj_iushr C dJ6_bitCount_0f7a4_27 ?_
  refine gj_iadd C dJ6_bitCount_0f7a4_28 ?_
  refine gj_ldcw C (v := 252645135) w_823 dJ6_bitCount_0f7a4_29 ?_
  refine gj_iand C dJ6_bitCount_0f7a4_32 ?_
  refine gj_istore_n C (lv' := [(0, .int (((((x - (((x.toUInt32 >>> ((1 : Int32).toUInt32 &&& Int32.toUInt32 31)).toInt32) &&& 1431655765)) &&& 858993459) + ((((x - (((x.toUInt32 >>> ((1 : Int32).toUInt32 &&& Int32.toUInt32 31)).toInt32) &&& 1431655765)).toUInt32 >>> ((2 : Int32).toUInt32 &&& Int32.toUInt32 31)).toInt32) &&& 858993459)) + (((((x - (((x.toUInt32 >>> ((1 : Int32).toUInt32 &&& Int32.toUInt32 31)).toInt32) &&& 1431655765)) &&& 858993459) + ((((x - (((x.toUInt32 >>> ((1 : Int32).toUInt32 &&& Int32.toUInt32 31)).toInt32) &&& 1431655765)).toUInt32 >>> ((2 : Int32).toUInt32 &&& Int32.toUInt32 31)).toInt32) &&& 858993459)).toUInt32 >>> ((4 : Int32).toUInt32 &&& Int32.toUInt32 31)).toInt32)) &&& 252645135))]) 0 dJ6_bitCount_0f7a4_33 rfl (by decide) rfl ?_
  refine gj_iload_n C 0 dJ6_bitCount_0f7a4_34 rfl 0 rfl ?_
  refine gj_iload_n C 0 dJ6_bitCount_0f7a4_35 rfl 0 rfl ?_
  refine gj_bipush C (v := 8) (by decide) dJ6_bitCount_0f7a4_36 ?_
  refine gj_iushr C dJ6_bitCount_0f7a4_38 ?_
  refine gj_iadd C dJ6_bitCount_0f7a4_39 ?_
  refine gj_istore_n C (lv' := [(0, .int ((((((x - (((x.toUInt32 >>> ((1 : Int32).toUInt32 &&& Int32.toUInt32 31)).toInt32) &&& 1431655765)) &&& 858993459) + ((((x - (((x.toUInt32 >>> ((1 : Int32).toUInt32 &&& Int32.toUInt32 31)).toInt32) &&& 1431655765)).toUInt32 >>> ((2 : Int32).toUInt32 &&& Int32.toUInt32 31)).toInt32) &&& 858993459)) + (((((x - (((x.toUInt32 >>> ((1 : Int32).toUInt32 &&& Int32.toUInt32 31)).toInt32) &&& 1431655765)) &&& 858993459) + ((((x - (((x.toUInt32 >>> ((1 : Int32).toUInt32 &&& Int32.toUInt32 31)).toInt32) &&& 1431655765)).toUInt32 >>> ((2 : Int32).toUInt32 &&& Int32.toUInt32 31)).toInt32) &&& 858993459)).toUInt32 >>> ((4 : Int32).toUInt32 &&& Int32.toUInt32 31)).toInt32)) &&& 252645135) + (((((((x - (((x.toUInt32 >>> ((1 : Int32).toUInt32 &&& Int32.toUInt32 31)).toInt32) &&& 1431655765)) &&& 858993459) + ((((x - (((x.toUInt32 >>> ((1 : Int32).toUInt32 &&& Int32.toUInt32 31)).toInt32) &&& 1431655765)).toUInt32 >>> ((2 : Int32).toUInt32 &&& Int32.toUInt32 31)).toInt32) &&& 858993459)) + (((((x - (((x.toUInt32 >>> ((1 : Int32).toUInt32 &&& Int32.toUInt32 31)).toInt32) &&& 1431655765)) &&& 858993459) + ((((x - (((x.toUInt32 >>> ((1 : Int32).toUInt32 &&& Int32.toUInt32 31)).toInt32) &&& 1431655765)).toUInt32 >>> ((2 : Int32).toUInt32 &&& Int32.toUInt32 31)).toInt32) &&& 858993459)).toUInt32 >>> ((4 : Int32).toUInt32 &&& Int32.toUInt32 31)).toInt32)) &&& 252645135).toUInt32 >>> ((8 : Int32).toUInt32 &&& Int32.toUInt32 31)).toInt32)))]) 0 dJ6_bitCount_0f7a4_40 rfl (by decide) rfl ?_
  refine gj_iload_n C 0 dJ6_bitCount_0f7a4_41 rfl 0 rfl ?_
  refine gj_iload_n C 0 dJ6_bitCount_0f7a4_42 rfl 0 rfl ?_
  refine gj_bipush C (v := 16) (by decide) dJ6_bitCount_0f7a4_43 ?_
  refine gj_iushr C dJ6_bitCount_0f7a4_45 ?_
  refine gj_iadd C dJ6_bitCount_0f7a4_46 ?_
  refine gj_istore_n C (lv' := [(0, .int (((((((x - (((x.toUInt32 >>> ((1 : Int32).toUInt32 &&& Int32.toUInt32 31)).toInt32) &&& 1431655765)) &&& 858993459) + ((((x - (((x.toUInt32 >>> ((1 : Int32).toUInt32 &&& Int32.toUInt32 31)).toInt32) &&& 1431655765)).toUInt32 >>> ((2 : Int32).toUInt32 &&& Int32.toUInt32 31)).toInt32) &&& 858993459)) + (((((x - (((x.toUInt32 >>> ((1 : Int32).toUInt32 &&& Int32.toUInt32 31)).toInt32) &&& 1431655765)) &&& 858993459) + ((((x - (((x.toUInt32 >>> ((1 : Int32).toUInt32 &&& Int32.toUInt32 31)).toInt32) &&& 1431655765)).toUInt32 >>> ((2 : Int32).toUInt32 &&& Int32.toUInt32 31)).toInt32) &&& 858993459)).toUInt32 >>> ((4 : Int32).toUInt32 &&& Int32.toUInt32 31)).toInt32)) &&& 252645135) + (((((((x - (((x.toUInt32 >>> ((1 : Int32).toUInt32 &&& Int32.toUInt32 31)).toInt32) &&& 1431655765)) &&& 858993459) + ((((x - (((x.toUInt32 >>> ((1 : Int32).toUInt32 &&& Int32.toUInt32 31)).toInt32) &&& 1431655765)).toUInt32 >>> ((2 : Int32).toUInt32 &&& Int32.toUInt32 31)).toInt32) &&& 858993459)) + (((((x - (((x.toUInt32 >>> ((1 : Int32).toUInt32 &&& Int32.toUInt32 31)).toInt32) &&& 1431655765)) &&& 858993459) + ((((x - (((x.toUInt32 >>> ((1 : Int32).toUInt32 &&& Int32.toUInt32 31)).toInt32) &&& 1431655765)).toUInt32 >>> ((2 : Int32).toUInt32 &&& Int32.toUInt32 31)).toInt32) &&& 858993459)).toUInt32 >>> ((4 : Int32).toUInt32 &&& Int32.toUInt32 31)).toInt32)) &&& 252645135).toUInt32 >>> ((8 : Int32).toUInt32 &&& Int32.toUInt32 31)).toInt32)) + ((((((((x - (((x.toUInt32 >>> ((1 : Int32).toUInt32 &&& Int32.toUInt32 31)).toInt32) &&& 1431655765)) &&& 858993459) + ((((x - (((x.toUInt32 >>> ((1 : Int32).toUInt32 &&& Int32.toUInt32 31)).toInt32) &&& 1431655765)).toUInt32 >>> ((2 : Int32).toUInt32 &&& Int32.toUInt32 31)).toInt32) &&& 858993459)) + (((((x - (((x.toUInt32 >>> ((1 : Int32).toUInt32 &&& Int32.toUInt32 31)).toInt32) &&& 1431655765)) &&& 858993459) + ((((x - (((x.toUInt32 >>> ((1 : Int32).toUInt32 &&& Int32.toUInt32 31)).toInt32) &&& 1431655765)).toUInt32 >>> ((2 : Int32).toUInt32 &&& Int32.toUInt32 31)).toInt32) &&& 858993459)).toUInt32 >>> ((4 : Int32).toUInt32 &&& Int32.toUInt32 31)).toInt32)) &&& 252645135) + (((((((x - (((x.toUInt32 >>> ((1 : Int32).toUInt32 &&& Int32.toUInt32 31)).toInt32) &&& 1431655765)) &&& 858993459) + ((((x - (((x.toUInt32 >>> ((1 : Int32).toUInt32 &&& Int32.toUInt32 31)).toInt32) &&& 1431655765)).toUInt32 >>> ((2 : Int32).toUInt32 &&& Int32.toUInt32 31)).toInt32) &&& 858993459)) + (((((x - (((x.toUInt32 >>> ((1 : Int32).toUInt32 &&& Int32.toUInt32 31)).toInt32) &&& 1431655765)) &&& 858993459) + ((((x - (((x.toUInt32 >>> ((1 : Int32).toUInt32 &&& Int32.toUInt32 31)).toInt32) &&& 1431655765)).toUInt32 >>> ((2 : Int32).toUInt32 &&& Int32.toUInt32 31)).toInt32) &&& 858993459)).toUInt32 >>> ((4 : Int32).toUInt32 &&& Int32.toUInt32 31)).toInt32)) &&& 252645135).toUInt32 >>> ((8 : Int32).toUInt32 &&& Int32.toUInt32 31)).toInt32)).toUInt32 >>> ((16 : Int32).toUInt32 &&& Int32.toUInt32 31)).toInt32)))]) 0 dJ6_bitCount_0f7a4_47 rfl (by decide) rfl ?_
  refine gj_iload_n C 0 dJ6_bitCount_0f7a4_48 rfl 0 rfl ?_
  refine gj_bipush C (v := 63) (by decide) dJ6_bitCount_0f7a4_49 ?_
  refine gj_iand C dJ6_bitCount_0f7a4_51 ?_
  exact RT _ _ _ _ ⟨rfl, rfl⟩ dJ6_bitCount_0f7a4_52
/-! THE FIX OF THE CLASS -/
theorem pairN (p i : Nat) : s_X11_pairOf (nI p) (nI i) = nI (12 * p + i) := by
  unfold s_X11_pairOf
  rw [show (12 : Int32) = nI 12 from rfl]
  exact m_lin
/-- the surest pair so far, and its votes: over the first stars of the spot p -/
def cB1 (us : Int32) (vo : Nat → Int32) (p : Nat) (X : Int32 × Int32) : Nat → Int32 × Int32
  | 0 => X
  | i + 1 => if (us >>> (nI i &&& 31)) &&& 1 = 0 then (if vo (12 * p + i) ≤ (cB1 us vo p X i).2 then cB1 us vo p X i else (nI (12 * p + i), vo (12 * p + i))) else cB1 us vo p X i
def cB2 (ts : Nat → Int32) (us : Int32) (vo : Nat → Int32) (n0 : Nat) (le : Int32) : Nat → Int32 × Int32
  | 0 => (-1, le - 1)
  | p + 1 => if ts p = -1 then cB1 us vo p (cB2 ts us vo n0 le p) n0 else cB2 ts us vo n0 le p
theorem cB1_in (us : Int32) (vo : Nat → Int32) (p : Nat) (X : Int32 × Int32) : ∀ i, cB1 us vo p X i = X ∨ ∃ b, b < i ∧ (us >>> (nI b &&& 31)) &&& 1 = 0 ∧ cB1 us vo p X i = (nI (12 * p + b), vo (12 * p + b))
  | 0 => Or.inl rfl
  | i + 1 => by
    have ih := cB1_in us vo p X i
    have keep : cB1 us vo p X (i + 1) = cB1 us vo p X i → (cB1 us vo p X (i + 1) = X ∨ ∃ b, b < i + 1 ∧ (us >>> (nI b &&& 31)) &&& 1 = 0 ∧ cB1 us vo p X (i + 1) = (nI (12 * p + b), vo (12 * p + b))) := by
      intro e
      rw [e]
      rcases ih with h | ⟨b, h1, h2⟩
      · exact Or.inl h
      · exact Or.inr ⟨b, by omega, h2⟩
    by_cases h1 : (us >>> (nI i &&& 31)) &&& 1 = 0
    · by_cases h2 : vo (12 * p + i) ≤ (cB1 us vo p X i).2
      · exact keep ((if_pos h1).trans (if_pos h2))
      · exact Or.inr ⟨i, by omega, h1, (if_pos h1).trans (if_neg h2)⟩
    · exact keep (if_neg h1)
theorem cB2_in (ts : Nat → Int32) (us : Int32) (vo : Nat → Int32) (n0 : Nat) (le : Int32) : ∀ p, cB2 ts us vo n0 le p = (-1, le - 1) ∨ ∃ a b, a < p ∧ b < n0 ∧ ts a = -1 ∧ (us >>> (nI b &&& 31)) &&& 1 = 0 ∧ cB2 ts us vo n0 le p = (nI (12 * a + b), vo (12 * a + b))
  | 0 => Or.inl rfl
  | p + 1 => by
    have ih := cB2_in ts us vo n0 le p
    have keep : cB2 ts us vo n0 le (p + 1) = cB2 ts us vo n0 le p → (cB2 ts us vo n0 le (p + 1) = (-1, le - 1) ∨ ∃ a b, a < p + 1 ∧ b < n0 ∧ ts a = -1 ∧ (us >>> (nI b &&& 31)) &&& 1 = 0 ∧ cB2 ts us vo n0 le (p + 1) = (nI (12 * a + b), vo (12 * a + b))) := by
      intro e
      rw [e]
      rcases ih with h | ⟨a, b, h1, h2⟩
      · exact Or.inl h
      · exact Or.inr ⟨a, b, by omega, h2⟩
    by_cases h : ts p = -1
    · have e : cB2 ts us vo n0 le (p + 1) = cB1 us vo p (cB2 ts us vo n0 le p) n0 := if_pos h
      rcases cB1_in us vo p (cB2 ts us vo n0 le p) n0 with q | ⟨b, h1, h2, h3⟩
      · exact keep (e.trans q)
      · exact Or.inr ⟨p, b, by omega, h1, h, h2, e.trans h3⟩
    · exact keep (if_neg h)
theorem cB2_n {ts : Nat → Int32} {us : Int32} {vo : Nat → Int32} {n0 : Nat} {le : Int32} {n1 : Nat} (hn : n0 ≤ 12) (hn1 : n1 ≤ 8) (h : ¬ (cB2 ts us vo n0 le n1).1 = -1) : ∃ b, b < 96 ∧ (cB2 ts us vo n0 le n1).1 = nI b := by
  rcases cB2_in ts us vo n0 le n1 with e | ⟨a, b, h1, h2, -, -, e⟩
  · rw [e] at h; exact absurd rfl h
  · exact ⟨12 * a + b, by omega, by rw [e]⟩
/-- stars, ranks, spots by rank, used stars as bits, how many -/
abbrev cTS : Type := (Nat → Int32) × (Nat → Int32) × (Nat → Int32) × Int32 × Int32
abbrev cTb (vo : Nat → Int32) (le : Int32) (n0 n1 : Nat) (T : cTS) : Int32 := (cB2 T.1 T.2.2.2.1 vo n0 le n1).1
def cTk (vo : Nat → Int32) (le : Int32) (n0 n1 r : Nat) (T : cTS) : cTS := if cTb vo le n0 n1 T = -1 then T else (upd T.1 (cTb vo le n0 n1 T / 12).toNatClampNeg (cTb vo le n0 n1 T - cTb vo le n0 n1 T / 12 * 12), upd T.2.1 (cTb vo le n0 n1 T / 12).toNatClampNeg (nI r), upd T.2.2.1 r (cTb vo le n0 n1 T / 12), T.2.2.2.1 ||| (1 <<< ((cTb vo le n0 n1 T - cTb vo le n0 n1 T / 12 * 12) &&& 31)), T.2.2.2.2 + 1)
def cTn (vo : Nat → Int32) (le : Int32) (n0 n1 : Nat) (T : cTS) : Nat → cTS
  | 0 => T
  | r + 1 => cTk vo le n0 n1 r (cTn vo le n0 n1 T r)
def cTake (vo : Nat → Int32) (le : Int32) (n0 n1 : Nat) (tp : Nat → Int32) : cTS := cTn vo le n0 n1 (kI (-1), kI (-1), tp, 0, 0) n1
theorem cTn_stay {vo : Nat → Int32} {le : Int32} {n0 n1 : Nat} {T : cTS} {r : Nat} (h : cTb vo le n0 n1 (cTn vo le n0 n1 T r) = -1) : ∀ m, cTn vo le n0 n1 T (r + m) = cTn vo le n0 n1 T r
  | 0 => rfl
  | m + 1 => by
    show cTk vo le n0 n1 (r + m) (cTn vo le n0 n1 T (r + m)) = _
    rw [cTn_stay h m]
    exact if_pos h
theorem cTn_end {vo : Nat → Int32} {le : Int32} {n0 n1 : Nat} {T : cTS} {r : Nat} (hr : r ≤ n1) (h : cTb vo le n0 n1 (cTn vo le n0 n1 T r) = -1) : cTn vo le n0 n1 T n1 = cTn vo le n0 n1 T r := by
  have := cTn_stay h (n1 - r)
  rwa [show r + (n1 - r) = n1 by omega] at this
theorem c_dv {v : Int32} {b : Nat} (e : v = nI b) (hb : b < 96) : vp_in (v / 12) 8 := by rw [e]; exact dv12_in hb
/-- the places -/
def cAll (sta : Nat → Int64) : Int64 := s_X0_square 0 sta * s_X0_square 1 sta
def cSum (sta spa : Nat → Int64) (x y z : Int32) (w : Nat) : Int64 := ((s_X0_times 0 x y z sta * s_X0_square 1 sta) * s_X0_part 0 w spa + (s_X0_times 1 x y z sta * s_X0_square 0 sta) * s_X0_part 1 w spa) + s_X0_times 2 x y z sta * s_X0_part 2 w spa
def cPv (sta spa : Nat → Int64) (x y z : Int32) (w : Nat) : Int32 := if 0 ≤ lg_cmp (cAll sta) 1 then (s_J9_floorDiv_f86c9 (2 * cSum sta spa x y z w + cAll sta) (2 * cAll sta)).toInt32 else 0
theorem all_nz {a : Int64} (h : 0 ≤ lg_cmp a 1) : ¬ 2 * a = 0 := by
  intro e
  have h1 : 1 ≤ a := by
    rw [lg_cmp_ge] at h
    exact h
  rw [i64_le] at h1
  have e1 : (1 : Int64).toInt = 1 := rfl
  have r := Int64.toInt_lt a
  have q : (2 * a).toInt = 0 := by rw [e]; rfl
  rw [Int64.toInt_mul] at q
  have e2 : (2 : Int64).toInt = 2 := rfl
  rw [e2, Int.bmod_def] at q
  omega
/-- x, y, z of a direction of the class -/
abbrev cOf (g : Nat → Int32) (n : Nat) (i w : Int32) : Int32 := s_X1_part i w (nI n) g
abbrev cOfL (g : Nat → Int32) (n : Nat) (i : Int32) : Nat → Int64 := t3 (s_X1_part i (0 : Int32) (nI n) g).toInt64 (s_X1_part i (1 : Int32) (nI n) g).toInt64 (s_X1_part i (2 : Int32) (nI n) g).toInt64
def cPn (sta spa : Nat → Int64) (gS : Nat → Int32) (n0 : Nat) (pl : Nat → Int32) : Nat → Nat → Int32
  | 0 => pl
  | i + 1 => w3 (cPn sta spa gS n0 pl i) i (cPv sta spa (cOf gS n0 (nI i) 0) (cOf gS n0 (nI i) 1) (cOf gS n0 (nI i) 2) 0) (cPv sta spa (cOf gS n0 (nI i) 0) (cOf gS n0 (nI i) 1) (cOf gS n0 (nI i) 2) 1) (cPv sta spa (cOf gS n0 (nI i) 0) (cOf gS n0 (nI i) 1) (cOf gS n0 (nI i) 2) 2)
abbrev cUS : Type := Int32 × (Nat → Int64) × (Nat → Int64) × (Nat → Int32)
abbrev cSPA (gP : Nat → Int32) (n1 : Nat) (tp : Nat → Int32) (spa : Nat → Int64) : Nat → Int64 := armC spa (cOfL gP n1 (tp 0)) (cOfL gP n1 (tp 1))
abbrev cSTA (gS : Nat → Int32) (n0 : Nat) (ts tp : Nat → Int32) (sta : Nat → Int64) : Nat → Int64 := armC sta (cOfL gS n0 (ts (tp 0).toNatClampNeg)) (cOfL gS n0 (ts (tp 1).toNatClampNeg))
/-- turned, the star arms, the spot arms, the places -/
def cTurn (gS gP : Nat → Int32) (n0 n1 : Nat) (ts tp : Nat → Int32) (tc : Int32) (sta spa : Nat → Int64) (pl : Nat → Int32) : cUS :=
  if 2 ≤ tc then (if s_X0_isFlat (cSPA gP n1 tp spa) = 0 then (if s_X0_isFlat (cSTA gS n0 ts tp sta) = 0 then (1, cSTA gS n0 ts tp sta, cSPA gP n1 tp spa, cPn (cSTA gS n0 ts tp sta) (cSPA gP n1 tp spa) gS n0 pl n0) else (0, cSTA gS n0 ts tp sta, cSPA gP n1 tp spa, pl)) else (0, cSTA gS n0 ts tp sta, cSPA gP n1 tp spa, pl)) else (0, sta, spa, pl)
/-- the star that is nearest, of the first i, and how far it is -/
def cFar (pl : Nat → Int32) (i : Nat) (x y z : Int32) : Int64 := (if 0 < ((pl (3 * i)).toInt64 - x.toInt64) then ((pl (3 * i)).toInt64 - x.toInt64) else -((pl (3 * i)).toInt64 - x.toInt64)) + (if 0 < ((pl (3 * i + 1)).toInt64 - y.toInt64) then ((pl (3 * i + 1)).toInt64 - y.toInt64) else -((pl (3 * i + 1)).toInt64 - y.toInt64)) + (if 0 < ((pl (3 * i + 2)).toInt64 - z.toInt64) then ((pl (3 * i + 2)).toInt64 - z.toInt64) else -((pl (3 * i + 2)).toInt64 - z.toInt64))
def cC1 (pl : Nat → Int32) (us ne x y z : Int32) : Nat → Int32 × Int64
  | 0 => (-1, ne.toInt64 + 1)
  | i + 1 => if (us >>> (nI i &&& 31)) &&& 1 = 0 then (if 0 ≤ lg_cmp (cFar pl i x y z) (cC1 pl us ne x y z i).2 then cC1 pl us ne x y z i else (nI i, cFar pl i x y z)) else cC1 pl us ne x y z i
theorem cC1_in (pl : Nat → Int32) (us ne x y z : Int32) : ∀ k, cC1 pl us ne x y z k = (-1, ne.toInt64 + 1) ∨ ∃ b, b < k ∧ cC1 pl us ne x y z k = (nI b, cFar pl b x y z)
  | 0 => Or.inl rfl
  | i + 1 => by
    have ih := cC1_in pl us ne x y z i
    have keep : cC1 pl us ne x y z (i + 1) = cC1 pl us ne x y z i → (cC1 pl us ne x y z (i + 1) = (-1, ne.toInt64 + 1) ∨ ∃ b, b < i + 1 ∧ cC1 pl us ne x y z (i + 1) = (nI b, cFar pl b x y z)) := by
      intro e
      rw [e]
      rcases ih with h | ⟨b, h1, h2⟩
      · exact Or.inl h
      · exact Or.inr ⟨b, by omega, h2⟩
    by_cases h1 : (us >>> (nI i &&& 31)) &&& 1 = 0
    · by_cases h2 : 0 ≤ lg_cmp (cFar pl i x y z) (cC1 pl us ne x y z i).2
      · exact keep ((if_pos h1).trans (if_pos h2))
      · exact Or.inr ⟨i, by omega, (if_pos h1).trans (if_neg h2)⟩
    · exact keep (if_neg h1)
theorem cC1_n {pl : Nat → Int32} {us ne x y z v : Int32} {n : Nat} (e : v = (cC1 pl us ne x y z n).1) (h : ¬ v = -1) : ∃ b, b < n ∧ v = nI b := by
  rcases cC1_in pl us ne x y z n with q | ⟨b, h1, h2⟩
  · rw [e, q] at h; exact absurd rfl h
  · exact ⟨b, h1, by rw [e, h2]⟩
/-- used stars, who confirms, how far, how many -/
abbrev cCS : Type := Int32 × (Nat → Int32) × (Nat → Int32) × Int32
abbrev cNr (gP : Nat → Int32) (n0 n1 : Nat) (pl : Nat → Int32) (ne : Int32) (p : Nat) (us : Int32) : Int32 × Int64 := cC1 pl us ne (cOf gP n1 (nI p) 0) (cOf gP n1 (nI p) 1) (cOf gP n1 (nI p) 2) n0
def cCs (gP : Nat → Int32) (n0 n1 : Nat) (pl : Nat → Int32) (ne go : Int32) (p : Nat) (X : cCS) : cCS := if nI p = go then X else if (cNr gP n0 n1 pl ne p X.1).1 = -1 then X else (X.1 ||| (1 <<< ((cNr gP n0 n1 pl ne p X.1).1 &&& 31)), upd X.2.1 p (cNr gP n0 n1 pl ne p X.1).1, upd X.2.2.1 p (cFar pl (cNr gP n0 n1 pl ne p X.1).1.toNatClampNeg (cOf gP n1 (nI p) 0) (cOf gP n1 (nI p) 1) (cOf gP n1 (nI p) 2)).toInt32, X.2.2.2 + 1)
def cCn (gP : Nat → Int32) (n0 n1 : Nat) (pl : Nat → Int32) (ne go : Int32) (X : cCS) : Nat → cCS
  | 0 => X
  | p + 1 => cCs gP n0 n1 pl ne go p (cCn gP n0 n1 pl ne go X p)
def cConf (gP : Nat → Int32) (n0 n1 : Nat) (pl : Nat → Int32) (ne go tu : Int32) : cCS := if tu = 0 then (0, kI (-1), kI (-1), 0) else cCn gP n0 n1 pl ne go (0, kI (-1), kI (-1), 0) n1
def cWb (ts cs : Nat → Int32) : Nat → Int32
  | 0 => 0
  | p + 1 => if ts p = -1 then cWb ts cs p else if ts p = cs p then cWb ts cs p else cWb ts cs p ||| (1 <<< (nI p &&& 31))

set_option maxHeartbeats 400000 in
set_option maxRecDepth 100000 in
theorem c_surest_47 {l : Launch} {D : va_G} {ca ss ad : Nat → Nat} {f : Nat → va_E} (n0 n1 tb : Nat) (le : Int32) (us tc cc tu : Int32) (ts : Nat → Int32) (vo : Nat → Int32) (hc47 : f 47 = .inr (2, [.ref (ad 48), .ref (ad 49), .ref (ad 50), .ref (ad 51), .ref (ad 52), .ref (ad 53), .ref (ad 54), .ref (ad 56), .int us, .int tc, .int cc, .int tu])) (hc48 : f 48 = .inl (ca 0, 8, .inl ts)) (hctb : f tb = .inl (ca 0, 96, .inl vo)) (hn0 : n0 ≤ 12) (hn1 : n1 ≤ 8) (htb : 12 < tb ∧ tb < 47) : gMi l D ca ss ad 108 yX2_surestPair cX2_surestPair 10 (some .int) 1 f [.ref (ad 47), .int (nI n0), .int (nI n1), .ref (ad tb), .int le] (fun r u => r = (cB2 ts us vo n0 le n1).1 ∧ u = f) := by
  refine gMi_ofK (by decide +kernel) (Nat.le_of_ble_eq_true rfl) (lv0 := [(0, .ref (ad 47)), (1, .int (nI n0)), (2, .int (nI n1)), (3, .ref (ad tb)), (4, .int le)]) rfl (fun pT eT sT mT aT below meth cT AT QT C RT => ?_)
  have C : gX pT sT mT aT meth cT AT D ca ss 10 RX2 cX2_surestPair (some .int) := C
  refine gj_iconst C (v := (-1)) (by decide) dX2_surestPair_0 ?_
  refine gj_istore C (lv' := [(5, .int (-1)), (0, .ref (ad 47)), (1, .int (nI n0)), (2, .int (nI n1)), (3, .ref (ad tb)), (4, .int le)]) dX2_surestPair_1 (by decide) rfl ?_
  refine gj_iload C dX2_surestPair_3 5 rfl ?_
  refine gj_iconst C (v := 1) (by decide) dX2_surestPair_5 ?_
  refine gj_isub C dX2_surestPair_6 ?_
  refine gj_istore C (lv' := [(6, .int (le - 1)), (5, .int (-1)), (0, .ref (ad 47)), (1, .int (nI n0)), (2, .int (nI n1)), (3, .ref (ad tb)), (4, .int le)]) dX2_surestPair_7 (by decide) rfl ?_
  refine gj_iconst C (v := 0) (by decide) dX2_surestPair_9 ?_
  refine gj_seti (y := nI 0) rfl ?_
  refine gj_istore C (lv' := [(7, .int (nI 0)), (6, .int (le - 1)), (5, .int (-1)), (0, .ref (ad 47)), (1, .int (nI n0)), (2, .int (nI n1)), (3, .ref (ad tb)), (4, .int le)]) dX2_surestPair_10 (by decide) rfl ?_
  refine gj_lvs (lv' := [(7, .int (nI 0)), (6, .int ((cB2 ts us vo n0 le 0).2)), (5, .int ((cB2 ts us vo n0 le 0).1)), (0, .ref (ad 47)), (1, .int (nI n0)), (2, .int (nI n1)), (3, .ref (ad tb)), (4, .int le)]) rfl ?_
  have loop_1 : ∀ (m0 t0 : Nat), t0 + m0 = n1 → gJ pT l eT (Rm 1) sT mT aT below meth cT AT QT D ad 108 10 (f) [(7, .int (nI t0)), (6, .int ((cB2 ts us vo n0 le t0).2)), (5, .int ((cB2 ts us vo n0 le t0).1)), (0, .ref (ad 47)), (1, .int (nI n0)), (2, .int (nI n1)), (3, .ref (ad tb)), (4, .int le)] 12 [] := by
    intro m0
    induction m0 with
    | zero =>
      intro t0 hk_t0  
      refine gj_iload C dX2_surestPair_12 0 rfl ?_
      refine gj_iload_n C 2 dX2_surestPair_14 rfl 5 rfl ?_
      refine gj_icmp_ge C 90 dX2_surestPair_15 (by decide) (fun c_3 => ?_) (fun c_3 => absurd (nI_le (by omega) (by omega)) c_3)
      refine gj_iload C dX2_surestPair_90 2 rfl ?_
      exact RT _ _ _ _ ⟨by obtain rfl : t0 = n1 := (by omega); rfl, rfl⟩ dX2_surestPair_92
    | succ m0 ih_2 =>
      intro t0 hk_t0  
      refine gj_iload C dX2_surestPair_12 0 rfl ?_
      refine gj_iload_n C 2 dX2_surestPair_14 rfl 5 rfl ?_
      refine gj_icmp_ge C 90 dX2_surestPair_15 (by decide) (fun c_4 => absurd c_4 (nI_ge (by omega) (by omega))) (fun c_4 => ?_)
      refine gj_iconst C (v := 0) (by decide) dX2_surestPair_18 ?_
      refine gj_seti (y := nI 0) rfl ?_
      refine gj_istore C (lv' := [(8, .int (nI 0)), (7, .int (nI t0)), (6, .int ((cB2 ts us vo n0 le t0).2)), (5, .int ((cB2 ts us vo n0 le t0).1)), (0, .ref (ad 47)), (1, .int (nI n0)), (2, .int (nI n1)), (3, .ref (ad tb)), (4, .int le)]) dX2_surestPair_19 (by decide) rfl ?_
      by_cases hts : ts t0 = -1
      · refine gj_lvs (lv' := [(8, .int (nI 0)), (7, .int (nI t0)), (6, .int ((cB1 us vo t0 (cB2 ts us vo n0 le t0) 0).2)), (5, .int ((cB1 us vo t0 (cB2 ts us vo n0 le t0) 0).1)), (0, .ref (ad 47)), (1, .int (nI n0)), (2, .int (nI n1)), (3, .ref (ad tb)), (4, .int le)]) rfl ?_
        have loop_5 : ∀ (m1 t1 : Nat), t1 + m1 = n0 → gJ pT l eT (Rm 1) sT mT aT below meth cT AT QT D ad 108 10 (f) [(8, .int (nI t1)), (7, .int (nI t0)), (6, .int ((cB1 us vo t0 (cB2 ts us vo n0 le t0) t1).2)), (5, .int ((cB1 us vo t0 (cB2 ts us vo n0 le t0) t1).1)), (0, .ref (ad 47)), (1, .int (nI n0)), (2, .int (nI n1)), (3, .ref (ad tb)), (4, .int le)] 21 [] := by
          intro m1
          induction m1 with
          | zero =>
            intro t1 hk_t1  
            refine gj_iload C dX2_surestPair_21 0 rfl ?_
            refine gj_iload_n C 1 dX2_surestPair_23 rfl 5 rfl ?_
            refine gj_icmp_ge C 84 dX2_surestPair_24 (by decide) (fun c_7 => ?_) (fun c_7 => absurd (nI_le (by omega) (by omega)) c_7)
            refine gj_iinc C (v := nI (t0 + 1)) (lv' := [(7, .int (nI (t0 + 1))), (8, .int (nI t1)), (6, .int ((cB1 us vo t0 (cB2 ts us vo n0 le t0) t1).2)), (5, .int ((cB1 us vo t0 (cB2 ts us vo n0 le t0) t1).1)), (0, .ref (ad 47)), (1, .int (nI n0)), (2, .int (nI n1)), (3, .ref (ad tb)), (4, .int le)]) dX2_surestPair_84 1 rfl (nI_1 _) (by decide) rfl ?_
            refine gj_goto C 12 dX2_surestPair_87 (by decide) ?_
            refine gj_lvs (lv' := [(7, .int (nI (t0 + 1))), (8, .int (nI t1)), (6, .int ((cB2 ts us vo n0 le (t0 + 1)).2)), (5, .int ((cB2 ts us vo n0 le (t0 + 1)).1)), (0, .ref (ad 47)), (1, .int (nI n0)), (2, .int (nI n1)), (3, .ref (ad tb)), (4, .int le)]) (by rw [show (cB2 ts us vo n0 le (t0 + 1)) = (cB1 us vo t0 (cB2 ts us vo n0 le t0) t1) from (if_pos hts).trans (by obtain rfl : t1 = n0 := (by omega); rfl)]) ?_
            refine gj_lv [0, 2, 3, 4, 5, 6, 7, 8] rfl ?_
            exact ih_2 (t0 + 1) (by omega)
          | succ m1 ih_6 =>
            intro t1 hk_t1  
            refine gj_iload C dX2_surestPair_21 0 rfl ?_
            refine gj_iload_n C 1 dX2_surestPair_23 rfl 5 rfl ?_
            refine gj_icmp_ge C 84 dX2_surestPair_24 (by decide) (fun c_8 => absurd c_8 (nI_ge (by omega) (by omega))) (fun c_8 => ?_)
            refine gj_aload_n C 0 dX2_surestPair_27 rfl 4 rfl ?_
            refine gj_get C 47 (by decide) hc47 inX2 rfl 0 (by decide) w_206 (v := .ref (ad 48)) rfl dX2_surestPair_28 ?_
            refine gj_iload C dX2_surestPair_31 1 rfl ?_
            refine gj_iald C 48 (by decide) hc48 (vp_in_nI (by omega) (by omega)) dX2_surestPair_33 ?_
            refine gj_seti (y := ts t0) (congrArg _ (nI_clamp (show t0 < 2 ^ 31 by omega))) ?_
            refine gj_iconst C (v := (-1)) (by decide) dX2_surestPair_34 ?_
            refine gj_icmp_ne C 84 dX2_surestPair_35 (by decide) (fun c_9 => absurd hts c_9) (fun c_9 => ?_)
            refine gj_iload C dX2_surestPair_38 1 rfl ?_
            refine gj_iload C dX2_surestPair_40 0 rfl ?_
            refine gj_callSNi C w_557 w_588 (c_X11_pairOf (nI t0) (nI t1)) mc_X11_pairOf ⟨Nat.le_of_ble_eq_true rfl, Nat.le_of_ble_eq_true rfl⟩ (rest := []) rfl (Nat.le_of_ble_eq_true rfl) dX2_surestPair_42 (fun r u h => ?_)
            obtain ⟨hr_, h⟩ := h; rw [hr_]
            rw [h]
            refine gj_seti (y := nI (12 * t0 + t1)) (pairN t0 t1) ?_
            refine gj_istore C (lv' := [(9, .int (nI (12 * t0 + t1))), (8, .int (nI t1)), (7, .int (nI t0)), (6, .int ((cB1 us vo t0 (cB2 ts us vo n0 le t0) t1).2)), (5, .int ((cB1 us vo t0 (cB2 ts us vo n0 le t0) t1).1)), (0, .ref (ad 47)), (1, .int (nI n0)), (2, .int (nI n1)), (3, .ref (ad tb)), (4, .int le)]) dX2_surestPair_45 (by decide) rfl ?_
            refine gj_aload_n C 0 dX2_surestPair_47 rfl 5 rfl ?_
            refine gj_get C 47 (by decide) hc47 inX2 rfl 8 (by decide) w_219 (v := .int us) rfl dX2_surestPair_48 ?_
            refine gj_iload C dX2_surestPair_51 1 rfl ?_
            refine gj_ishr C dX2_surestPair_53 ?_
            refine gj_iconst C (v := 1) (by decide) dX2_surestPair_54 ?_
            refine gj_iand C dX2_surestPair_55 ?_
            refine gj_if_ne C 78 dX2_surestPair_56 (by decide) (fun c_10 => ?_) (fun c_10 => ?_)
            · refine gj_iinc C (v := nI (t1 + 1)) (lv' := [(8, .int (nI (t1 + 1))), (9, .int (nI (12 * t0 + t1))), (7, .int (nI t0)), (6, .int ((cB1 us vo t0 (cB2 ts us vo n0 le t0) t1).2)), (5, .int ((cB1 us vo t0 (cB2 ts us vo n0 le t0) t1).1)), (0, .ref (ad 47)), (1, .int (nI n0)), (2, .int (nI n1)), (3, .ref (ad tb)), (4, .int le)]) dX2_surestPair_78 1 rfl (nI_1 _) (by decide) rfl ?_
              refine gj_goto C 21 dX2_surestPair_81 (by decide) ?_
              refine gj_lvs (lv' := [(8, .int (nI (t1 + 1))), (9, .int (nI (12 * t0 + t1))), (7, .int (nI t0)), (6, .int ((cB1 us vo t0 (cB2 ts us vo n0 le t0) (t1 + 1)).2)), (5, .int ((cB1 us vo t0 (cB2 ts us vo n0 le t0) (t1 + 1)).1)), (0, .ref (ad 47)), (1, .int (nI n0)), (2, .int (nI n1)), (3, .ref (ad tb)), (4, .int le)]) (by rw [show (cB1 us vo t0 (cB2 ts us vo n0 le t0) (t1 + 1)) = _ from (if_neg c_10).trans (rfl)]) ?_
              refine gj_lv [0, 2, 3, 4, 5, 6, 7, 8, 9] rfl ?_
              exact ih_6 (t1 + 1) (by omega)
            · refine gj_aload_n C 3 dX2_surestPair_59 rfl 8 rfl ?_
              refine gj_iload C dX2_surestPair_60 0 rfl ?_
              refine gj_iald C tb (by omega) hctb (vp_in_nI (by omega) (by omega)) dX2_surestPair_62 ?_
              refine gj_seti (y := vo (12 * t0 + t1)) (congrArg _ (nI_clamp (show (12 * t0 + t1) < 2 ^ 31 by omega))) ?_
              refine gj_iload C dX2_surestPair_63 3 rfl ?_
              refine gj_icmp_le C 78 dX2_surestPair_65 (by decide) (fun c_11 => ?_) (fun c_11 => ?_)
              · refine gj_iinc C (v := nI (t1 + 1)) (lv' := [(8, .int (nI (t1 + 1))), (9, .int (nI (12 * t0 + t1))), (7, .int (nI t0)), (6, .int ((cB1 us vo t0 (cB2 ts us vo n0 le t0) t1).2)), (5, .int ((cB1 us vo t0 (cB2 ts us vo n0 le t0) t1).1)), (0, .ref (ad 47)), (1, .int (nI n0)), (2, .int (nI n1)), (3, .ref (ad tb)), (4, .int le)]) dX2_surestPair_78 1 rfl (nI_1 _) (by decide) rfl ?_
                refine gj_goto C 21 dX2_surestPair_81 (by decide) ?_
                refine gj_lvs (lv' := [(8, .int (nI (t1 + 1))), (9, .int (nI (12 * t0 + t1))), (7, .int (nI t0)), (6, .int ((cB1 us vo t0 (cB2 ts us vo n0 le t0) (t1 + 1)).2)), (5, .int ((cB1 us vo t0 (cB2 ts us vo n0 le t0) (t1 + 1)).1)), (0, .ref (ad 47)), (1, .int (nI n0)), (2, .int (nI n1)), (3, .ref (ad tb)), (4, .int le)]) (by rw [show (cB1 us vo t0 (cB2 ts us vo n0 le t0) (t1 + 1)) = _ from (if_pos c_10).trans ((if_pos c_11).trans (rfl))]) ?_
                refine gj_lv [0, 2, 3, 4, 5, 6, 7, 8, 9] rfl ?_
                exact ih_6 (t1 + 1) (by omega)
              · refine gj_iload C dX2_surestPair_68 0 rfl ?_
                refine gj_istore C (lv' := [(5, .int (nI (12 * t0 + t1))), (9, .int (nI (12 * t0 + t1))), (8, .int (nI t1)), (7, .int (nI t0)), (6, .int ((cB1 us vo t0 (cB2 ts us vo n0 le t0) t1).2)), (0, .ref (ad 47)), (1, .int (nI n0)), (2, .int (nI n1)), (3, .ref (ad tb)), (4, .int le)]) dX2_surestPair_70 (by decide) rfl ?_
                refine gj_aload_n C 3 dX2_surestPair_72 rfl 8 rfl ?_
                refine gj_iload C dX2_surestPair_73 1 rfl ?_
                refine gj_iald C tb (by omega) hctb (vp_in_nI (by omega) (by omega)) dX2_surestPair_75 ?_
                refine gj_seti (y := vo (12 * t0 + t1)) (congrArg _ (nI_clamp (show (12 * t0 + t1) < 2 ^ 31 by omega))) ?_
                refine gj_istore C (lv' := [(6, .int (vo (12 * t0 + t1))), (5, .int (nI (12 * t0 + t1))), (9, .int (nI (12 * t0 + t1))), (8, .int (nI t1)), (7, .int (nI t0)), (0, .ref (ad 47)), (1, .int (nI n0)), (2, .int (nI n1)), (3, .ref (ad tb)), (4, .int le)]) dX2_surestPair_76 (by decide) rfl ?_
                refine gj_iinc C (v := nI (t1 + 1)) (lv' := [(8, .int (nI (t1 + 1))), (6, .int (vo (12 * t0 + t1))), (5, .int (nI (12 * t0 + t1))), (9, .int (nI (12 * t0 + t1))), (7, .int (nI t0)), (0, .ref (ad 47)), (1, .int (nI n0)), (2, .int (nI n1)), (3, .ref (ad tb)), (4, .int le)]) dX2_surestPair_78 3 rfl (nI_1 _) (by decide) rfl ?_
                refine gj_goto C 21 dX2_surestPair_81 (by decide) ?_
                refine gj_lvs (lv' := [(8, .int (nI (t1 + 1))), (6, .int ((cB1 us vo t0 (cB2 ts us vo n0 le t0) (t1 + 1)).2)), (5, .int ((cB1 us vo t0 (cB2 ts us vo n0 le t0) (t1 + 1)).1)), (9, .int (nI (12 * t0 + t1))), (7, .int (nI t0)), (0, .ref (ad 47)), (1, .int (nI n0)), (2, .int (nI n1)), (3, .ref (ad tb)), (4, .int le)]) (by rw [show (cB1 us vo t0 (cB2 ts us vo n0 le t0) (t1 + 1)) = _ from (if_pos c_10).trans ((if_neg c_11).trans (rfl))]) ?_
                refine gj_lv [0, 4, 1, 2, 5, 6, 7, 8, 9] rfl ?_
                exact ih_6 (t1 + 1) (by omega)
        refine gj_lv [0, 1, 2, 3, 4, 5, 6, 7, 8] rfl ?_
        exact loop_5 (n0 - 0) 0 (by omega)
      · refine gj_iload C dX2_surestPair_21 0 rfl ?_
        refine gj_iload_n C 1 dX2_surestPair_23 rfl 5 rfl ?_
        refine gj_icmp_ge C 84 dX2_surestPair_24 (by decide) (fun c_12 => ?_) (fun c_12 => ?_)
        · refine gj_iinc C (v := nI (t0 + 1)) (lv' := [(7, .int (nI (t0 + 1))), (8, .int (nI 0)), (6, .int ((cB2 ts us vo n0 le t0).2)), (5, .int ((cB2 ts us vo n0 le t0).1)), (0, .ref (ad 47)), (1, .int (nI n0)), (2, .int (nI n1)), (3, .ref (ad tb)), (4, .int le)]) dX2_surestPair_84 1 rfl (nI_1 _) (by decide) rfl ?_
          refine gj_goto C 12 dX2_surestPair_87 (by decide) ?_
          refine gj_lvs (lv' := [(7, .int (nI (t0 + 1))), (8, .int (nI 0)), (6, .int ((cB2 ts us vo n0 le (t0 + 1)).2)), (5, .int ((cB2 ts us vo n0 le (t0 + 1)).1)), (0, .ref (ad 47)), (1, .int (nI n0)), (2, .int (nI n1)), (3, .ref (ad tb)), (4, .int le)]) (by rw [show (cB2 ts us vo n0 le (t0 + 1)) = (cB2 ts us vo n0 le t0) from if_neg hts]) ?_
          refine gj_lv [0, 2, 3, 4, 5, 6, 7, 8] rfl ?_
          exact ih_2 (t0 + 1) (by omega)
        · refine gj_aload_n C 0 dX2_surestPair_27 rfl 4 rfl ?_
          refine gj_get C 47 (by decide) hc47 inX2 rfl 0 (by decide) w_206 (v := .ref (ad 48)) rfl dX2_surestPair_28 ?_
          refine gj_iload C dX2_surestPair_31 1 rfl ?_
          refine gj_iald C 48 (by decide) hc48 (vp_in_nI (by omega) (by omega)) dX2_surestPair_33 ?_
          refine gj_seti (y := ts t0) (congrArg _ (nI_clamp (show t0 < 2 ^ 31 by omega))) ?_
          refine gj_iconst C (v := (-1)) (by decide) dX2_surestPair_34 ?_
          refine gj_icmp_ne C 84 dX2_surestPair_35 (by decide) (fun c_13 => ?_) (fun c_13 => absurd c_13 hts)
          refine gj_iinc C (v := nI (t0 + 1)) (lv' := [(7, .int (nI (t0 + 1))), (8, .int (nI 0)), (6, .int ((cB2 ts us vo n0 le t0).2)), (5, .int ((cB2 ts us vo n0 le t0).1)), (0, .ref (ad 47)), (1, .int (nI n0)), (2, .int (nI n1)), (3, .ref (ad tb)), (4, .int le)]) dX2_surestPair_84 1 rfl (nI_1 _) (by decide) rfl ?_
          refine gj_goto C 12 dX2_surestPair_87 (by decide) ?_
          refine gj_lvs (lv' := [(7, .int (nI (t0 + 1))), (8, .int (nI 0)), (6, .int ((cB2 ts us vo n0 le (t0 + 1)).2)), (5, .int ((cB2 ts us vo n0 le (t0 + 1)).1)), (0, .ref (ad 47)), (1, .int (nI n0)), (2, .int (nI n1)), (3, .ref (ad tb)), (4, .int le)]) (by rw [show (cB2 ts us vo n0 le (t0 + 1)) = (cB2 ts us vo n0 le t0) from if_neg hts]) ?_
          refine gj_lv [0, 2, 3, 4, 5, 6, 7, 8] rfl ?_
          exact ih_2 (t0 + 1) (by omega)
  refine gj_lv [0, 1, 2, 3, 4, 5, 6, 7] rfl ?_
  exact loop_1 (n1 - 0) 0 (by omega)
set_option maxHeartbeats 400000 in
set_option maxRecDepth 100000 in
theorem c_takePairs_47 {l : Launch} {D : va_G} {ca ss ad : Nat → Nat} {f : Nat → va_E} (n0 n1 tb : Nat) (le : Int32) (us tc cc tu : Int32) (ts : Nat → Int32) (tr : Nat → Int32) (tp : Nat → Int32) (vo : Nat → Int32) (hc47 : f 47 = .inr (2, [.ref (ad 48), .ref (ad 49), .ref (ad 50), .ref (ad 51), .ref (ad 52), .ref (ad 53), .ref (ad 54), .ref (ad 56), .int us, .int tc, .int cc, .int tu])) (hc48 : f 48 = .inl (ca 0, 8, .inl ts)) (hc49 : f 49 = .inl (ca 0, 8, .inl tr)) (hc50 : f 50 = .inl (ca 0, 8, .inl tp)) (hctb : f tb = .inl (ca 0, 96, .inl vo)) (hn0 : n0 ≤ 12) (hn1 : n1 ≤ 8) (htb : 12 < tb ∧ tb < 47) : gMv l D ca ss ad 108 yX2_takePairs cX2_takePairs 9 none 2 f [.ref (ad 47), .int (nI n0), .int (nI n1), .ref (ad tb), .int le] (fun u => u = va_up (va_up (va_up (va_up (f) 48 (.inl (ca 0, 8, .inl ((cTake vo le n0 n1 tp).1)))) 49 (.inl (ca 0, 8, .inl ((cTake vo le n0 n1 tp).2.1)))) 47 (.inr (2, [.ref (ad 48), .ref (ad 49), .ref (ad 50), .ref (ad 51), .ref (ad 52), .ref (ad 53), .ref (ad 54), .ref (ad 56), .int ((cTake vo le n0 n1 tp).2.2.2.1), .int ((cTake vo le n0 n1 tp).2.2.2.2), .int cc, .int tu]))) 50 (.inl (ca 0, 8, .inl ((cTake vo le n0 n1 tp).2.2.1)))) := by
  refine gMv_ofK (by decide +kernel) (Nat.le_of_ble_eq_true rfl) (lv0 := [(0, .ref (ad 47)), (1, .int (nI n0)), (2, .int (nI n1)), (3, .ref (ad tb)), (4, .int le)]) rfl (fun pT eT sT mT aT below meth cT AT QT C RT => ?_)
  have C : gX pT sT mT aT meth cT AT D ca ss 9 RX2 cX2_takePairs none := C
  refine gj_aload_n C 0 dX2_takePairs_0 rfl 0 rfl ?_
  refine gj_get C 47 (by decide) hc47 inX2 rfl 0 (by decide) w_206 (v := .ref (ad 48)) rfl dX2_takePairs_1 ?_
  refine gj_iconst C (v := (-1)) (by decide) dX2_takePairs_4 ?_
  refine gj_callSv C w_516 w_583 (c_J7_fill_53178 48 (-1 : Int32) 8 ts hc48 (by decide) (by decide)) mc_J7_fill_53178 ⟨Nat.le_of_ble_eq_true rfl, Nat.le_of_ble_eq_true rfl⟩ (rest := []) rfl (Nat.le_of_ble_eq_true rfl) dX2_takePairs_5 (fun u h => ?_)
  subst h
  refine gj_aload_n C 0 dX2_takePairs_8 rfl 0 rfl ?_
  refine gj_get C 47 (by decide) (up_nx (by decide) (hc47)) inX2 rfl 1 (by decide) w_208 (v := .ref (ad 49)) rfl dX2_takePairs_9 ?_
  refine gj_iconst C (v := (-1)) (by decide) dX2_takePairs_12 ?_
  refine gj_callSv C w_516 w_583 (c_J7_fill_53178 49 (-1 : Int32) 8 tr (up_nx (by decide) (hc49)) (by decide) (by decide)) mc_J7_fill_53178 ⟨Nat.le_of_ble_eq_true rfl, Nat.le_of_ble_eq_true rfl⟩ (rest := []) rfl (Nat.le_of_ble_eq_true rfl) dX2_takePairs_13 (fun u h => ?_)
  subst h
  refine gj_aload_n C 0 dX2_takePairs_16 rfl 0 rfl ?_
  refine gj_iconst C (v := 0) (by decide) dX2_takePairs_17 ?_
  refine gj_putS C 47 (by decide) (up_nx (by decide) (up_nx (by decide) (hc47))) inX2 rfl 8 (by decide) tyX2 tyX2_ok nmX2 w_219 rfl (v := .int 0) (fs' := [.ref (ad 48), .ref (ad 49), .ref (ad 50), .ref (ad 51), .ref (ad 52), .ref (ad 53), .ref (ad 54), .ref (ad 56), .int 0, .int tc, .int cc, .int tu]) rfl rfl (Nat.le_of_ble_eq_true rfl) rfl dX2_takePairs_18 ?_
  refine gj_aload_n C 0 dX2_takePairs_21 rfl 0 rfl ?_
  refine gj_iconst C (v := 0) (by decide) dX2_takePairs_22 ?_
  refine gj_putS C 47 (by decide) (va_up_self _ _ _) inX2 rfl 9 (by decide) tyX2 tyX2_ok nmX2 w_220 rfl (v := .int 0) (fs' := [.ref (ad 48), .ref (ad 49), .ref (ad 50), .ref (ad 51), .ref (ad 52), .ref (ad 53), .ref (ad 54), .ref (ad 56), .int 0, .int 0, .int cc, .int tu]) rfl rfl (Nat.le_of_ble_eq_true rfl) rfl dX2_takePairs_23 ?_
  refine gj_setf (bx_uu _ _ _ _) ?_
  refine gj_iconst C (v := 0) (by decide) dX2_takePairs_26 ?_
  refine gj_seti (y := nI 0) rfl ?_
  refine gj_istore C (lv' := [(5, .int (nI 0)), (0, .ref (ad 47)), (1, .int (nI n0)), (2, .int (nI n1)), (3, .ref (ad tb)), (4, .int le)]) dX2_takePairs_27 (by decide) rfl ?_
  refine gj_setf (up_id (up_nx (by decide) (up_nx (by decide) (up_nx (by decide) (hc50))))).symm ?_
  refine gj_setf (g := va_up (va_up (va_up (va_up f 48 (.inl (ca 0, 8, .inl ((cTn vo le n0 n1 (kI (-1), kI (-1), tp, 0, 0) 0).1)))) 49 (.inl (ca 0, 8, .inl ((cTn vo le n0 n1 (kI (-1), kI (-1), tp, 0, 0) 0).2.1)))) 47 (.inr (2, [.ref (ad 48), .ref (ad 49), .ref (ad 50), .ref (ad 51), .ref (ad 52), .ref (ad 53), .ref (ad 54), .ref (ad 56), .int ((cTn vo le n0 n1 (kI (-1), kI (-1), tp, 0, 0) 0).2.2.2.1), .int ((cTn vo le n0 n1 (kI (-1), kI (-1), tp, 0, 0) 0).2.2.2.2), .int cc, .int tu]))) 50 (.inl (ca 0, 8, .inl ((cTn vo le n0 n1 (kI (-1), kI (-1), tp, 0, 0) 0).2.2.1)))) rfl ?_
  have loop_1 : ∀ (m0 t0 : Nat), t0 + m0 = n1 → gJ pT l eT (Rm 2) sT mT aT below meth cT AT QT D ad 108 9 (va_up (va_up (va_up (va_up f 48 (.inl (ca 0, 8, .inl ((cTn vo le n0 n1 (kI (-1), kI (-1), tp, 0, 0) t0).1)))) 49 (.inl (ca 0, 8, .inl ((cTn vo le n0 n1 (kI (-1), kI (-1), tp, 0, 0) t0).2.1)))) 47 (.inr (2, [.ref (ad 48), .ref (ad 49), .ref (ad 50), .ref (ad 51), .ref (ad 52), .ref (ad 53), .ref (ad 54), .ref (ad 56), .int ((cTn vo le n0 n1 (kI (-1), kI (-1), tp, 0, 0) t0).2.2.2.1), .int ((cTn vo le n0 n1 (kI (-1), kI (-1), tp, 0, 0) t0).2.2.2.2), .int cc, .int tu]))) 50 (.inl (ca 0, 8, .inl ((cTn vo le n0 n1 (kI (-1), kI (-1), tp, 0, 0) t0).2.2.1)))) [(5, .int (nI t0)), (0, .ref (ad 47)), (1, .int (nI n0)), (2, .int (nI n1)), (3, .ref (ad tb)), (4, .int le)] 29 [] := by
    intro m0
    induction m0 with
    | zero =>
      intro t0 hk_t0  
      refine gj_iload C dX2_takePairs_29 0 rfl ?_
      refine gj_iload_n C 2 dX2_takePairs_31 rfl 3 rfl ?_
      refine gj_icmp_ge C 125 dX2_takePairs_32 (by decide) (fun c_3 => ?_) (fun c_3 => absurd (nI_le (by omega) (by omega)) c_3)
      exact RT _ _ _ (by obtain rfl : t0 = n1 := (by omega); rfl) dX2_takePairs_125
    | succ m0 ih_2 =>
      intro t0 hk_t0  
      refine gj_iload C dX2_takePairs_29 0 rfl ?_
      refine gj_iload_n C 2 dX2_takePairs_31 rfl 3 rfl ?_
      refine gj_icmp_ge C 125 dX2_takePairs_32 (by decide) (fun c_4 => absurd c_4 (nI_ge (by omega) (by omega))) (fun c_4 => ?_)
      refine gj_aload_n C 0 dX2_takePairs_35 rfl 1 rfl ?_
      refine gj_iload_n C 1 dX2_takePairs_36 rfl 2 rfl ?_
      refine gj_iload_n C 2 dX2_takePairs_37 rfl 3 rfl ?_
      refine gj_aload_n C 3 dX2_takePairs_38 rfl 4 rfl ?_
      refine gj_iload C dX2_takePairs_39 5 rfl ?_
      refine gj_callVi C mi_X2_surestPair w_584 47 (by decide) (up_nx (by decide) (va_up_self _ _ _)) rfl (c_surest_47 n0 n1 tb le ((cTn vo le n0 n1 (kI (-1), kI (-1), tp, 0, 0) t0).2.2.2.1) ((cTn vo le n0 n1 (kI (-1), kI (-1), tp, 0, 0) t0).2.2.2.2) cc tu ((cTn vo le n0 n1 (kI (-1), kI (-1), tp, 0, 0) t0).1) vo (up_nx (by decide) (va_up_self _ _ _)) (up_nx (by decide) (up_nx (by decide) (up_nx (by decide) (va_up_self _ _ _)))) (up_nx (by omega) (up_nx (by omega) (up_nx (by omega) (up_nx (by omega) (hctb))))) hn0 hn1 htb) mc_X2_surestPair ⟨Nat.le_of_ble_eq_true rfl, Nat.le_of_ble_eq_true rfl⟩ (rest := []) rfl (Nat.le_of_ble_eq_true rfl) dX2_takePairs_41 (fun r u h => ?_)
      obtain ⟨hr_, hu_⟩ := h; rw [hr_]; subst hu_
      refine gj_seti (y := (cTb vo le n0 n1 (cTn vo le n0 n1 (kI (-1), kI (-1), tp, 0, 0) t0))) rfl ?_
      refine gj_istore C (lv' := [(6, .int (cTb vo le n0 n1 (cTn vo le n0 n1 (kI (-1), kI (-1), tp, 0, 0) t0))), (5, .int (nI t0)), (0, .ref (ad 47)), (1, .int (nI n0)), (2, .int (nI n1)), (3, .ref (ad tb)), (4, .int le)]) dX2_takePairs_44 (by decide) rfl ?_
      refine gj_iload C dX2_takePairs_46 0 rfl ?_
      refine gj_iconst C (v := (-1)) (by decide) dX2_takePairs_48 ?_
      refine gj_icmp_ne C 55 dX2_takePairs_49 (by decide) (fun c_5 => ?_) (fun c_5 => ?_)
      · obtain ⟨bN, hbN, eb⟩ := cB2_n hn0 hn1 c_5
        refine gj_iload C dX2_takePairs_55 0 rfl ?_
        refine gj_bipush C (v := 12) (by decide) dX2_takePairs_57 ?_
        refine gj_idiv C (by decide) dX2_takePairs_59 ?_
        refine gj_istore C (lv' := [(7, .int ((cTb vo le n0 n1 (cTn vo le n0 n1 (kI (-1), kI (-1), tp, 0, 0) t0)) / 12)), (6, .int (cTb vo le n0 n1 (cTn vo le n0 n1 (kI (-1), kI (-1), tp, 0, 0) t0))), (5, .int (nI t0)), (0, .ref (ad 47)), (1, .int (nI n0)), (2, .int (nI n1)), (3, .ref (ad tb)), (4, .int le)]) dX2_takePairs_60 (by decide) rfl ?_
        refine gj_iload C dX2_takePairs_62 1 rfl ?_
        refine gj_bipush C (v := 12) (by decide) dX2_takePairs_64 ?_
        refine gj_irem C (by decide) dX2_takePairs_66 ?_
        refine gj_istore C (lv' := [(8, .int ((cTb vo le n0 n1 (cTn vo le n0 n1 (kI (-1), kI (-1), tp, 0, 0) t0)) - (cTb vo le n0 n1 (cTn vo le n0 n1 (kI (-1), kI (-1), tp, 0, 0) t0)) / 12 * 12)), (7, .int ((cTb vo le n0 n1 (cTn vo le n0 n1 (kI (-1), kI (-1), tp, 0, 0) t0)) / 12)), (6, .int (cTb vo le n0 n1 (cTn vo le n0 n1 (kI (-1), kI (-1), tp, 0, 0) t0))), (5, .int (nI t0)), (0, .ref (ad 47)), (1, .int (nI n0)), (2, .int (nI n1)), (3, .ref (ad tb)), (4, .int le)]) dX2_takePairs_67 (by decide) rfl ?_
        refine gj_aload_n C 0 dX2_takePairs_69 rfl 4 rfl ?_
        refine gj_get C 47 (by decide) (up_nx (by decide) (va_up_self _ _ _)) inX2 rfl 0 (by decide) w_206 (v := .ref (ad 48)) rfl dX2_takePairs_70 ?_
        refine gj_iload C dX2_takePairs_73 1 rfl ?_
        refine gj_iload C dX2_takePairs_75 0 rfl ?_
        refine gj_iast C 48 (by decide) (up_nx (by decide) (up_nx (by decide) (up_nx (by decide) (va_up_self _ _ _)))) (c_dv eb hbN) dX2_takePairs_77 ?_
        refine gj_setf ((up_comm (by decide)).trans (up_un ((up_comm (by decide)).trans (up_un ((up_comm (by decide)).trans (up_un (bx_uu _ _ _ _))))))) ?_
        refine gj_aload_n C 0 dX2_takePairs_78 rfl 4 rfl ?_
        refine gj_get C 47 (by decide) (up_nx (by decide) (va_up_self _ _ _)) inX2 rfl 1 (by decide) w_208 (v := .ref (ad 49)) rfl dX2_takePairs_79 ?_
        refine gj_iload C dX2_takePairs_82 1 rfl ?_
        refine gj_iload C dX2_takePairs_84 3 rfl ?_
        refine gj_iast C 49 (by decide) (up_nx (by decide) (up_nx (by decide) (va_up_self _ _ _))) (c_dv eb hbN) dX2_takePairs_86 ?_
        refine gj_setf ((up_comm (by decide)).trans (up_un ((up_comm (by decide)).trans (up_un (bx_uu _ _ _ _))))) ?_
        refine gj_aload_n C 0 dX2_takePairs_87 rfl 4 rfl ?_
        refine gj_get C 47 (by decide) (up_nx (by decide) (va_up_self _ _ _)) inX2 rfl 2 (by decide) w_210 (v := .ref (ad 50)) rfl dX2_takePairs_88 ?_
        refine gj_iload C dX2_takePairs_91 3 rfl ?_
        refine gj_iload C dX2_takePairs_93 1 rfl ?_
        refine gj_iast C 50 (by decide) (va_up_self _ _ _) (vp_in_nI (by omega) (by omega)) dX2_takePairs_95 ?_
        refine gj_setf (bx_uu _ _ _ _) ?_
        refine gj_setf (g := va_up (va_up (va_up (va_up f 48 (.inl (ca 0, 8, .inl (upd ((cTn vo le n0 n1 (kI (-1), kI (-1), tp, 0, 0) t0).1) ((cTb vo le n0 n1 (cTn vo le n0 n1 (kI (-1), kI (-1), tp, 0, 0) t0)) / 12).toNatClampNeg ((cTb vo le n0 n1 (cTn vo le n0 n1 (kI (-1), kI (-1), tp, 0, 0) t0)) - (cTb vo le n0 n1 (cTn vo le n0 n1 (kI (-1), kI (-1), tp, 0, 0) t0)) / 12 * 12))))) 49 (.inl (ca 0, 8, .inl (upd ((cTn vo le n0 n1 (kI (-1), kI (-1), tp, 0, 0) t0).2.1) ((cTb vo le n0 n1 (cTn vo le n0 n1 (kI (-1), kI (-1), tp, 0, 0) t0)) / 12).toNatClampNeg (nI t0))))) 47 (.inr (2, [.ref (ad 48), .ref (ad 49), .ref (ad 50), .ref (ad 51), .ref (ad 52), .ref (ad 53), .ref (ad 54), .ref (ad 56), .int ((cTn vo le n0 n1 (kI (-1), kI (-1), tp, 0, 0) t0).2.2.2.1), .int ((cTn vo le n0 n1 (kI (-1), kI (-1), tp, 0, 0) t0).2.2.2.2), .int cc, .int tu]))) 50 (.inl (ca 0, 8, .inl (upd ((cTn vo le n0 n1 (kI (-1), kI (-1), tp, 0, 0) t0).2.2.1) t0 ((cTb vo le n0 n1 (cTn vo le n0 n1 (kI (-1), kI (-1), tp, 0, 0) t0)) / 12))))) (by rw [nI_clamp (show t0 < 2 ^ 31 by omega)]) ?_
        refine gj_aload_n C 0 dX2_takePairs_96 rfl 4 rfl ?_
        refine gj_dup C rfl dX2_takePairs_97 ?_
        refine gj_get C 47 (by decide) (up_nx (by decide) (va_up_self _ _ _)) inX2 rfl 8 (by decide) w_219 (v := .int ((cTn vo le n0 n1 (kI (-1), kI (-1), tp, 0, 0) t0).2.2.2.1)) rfl dX2_takePairs_98 ?_
        refine gj_iconst C (v := 1) (by decide) dX2_takePairs_101 ?_
        refine gj_iload C dX2_takePairs_102 0 rfl ?_
        refine gj_ishl C dX2_takePairs_104 ?_
        refine gj_ior C dX2_takePairs_105 ?_
        refine gj_putS C 47 (by decide) (up_nx (by decide) (va_up_self _ _ _)) inX2 rfl 8 (by decide) tyX2 tyX2_ok nmX2 w_219 rfl (v := .int (((cTn vo le n0 n1 (kI (-1), kI (-1), tp, 0, 0) t0).2.2.2.1) ||| (1 <<< (((cTb vo le n0 n1 (cTn vo le n0 n1 (kI (-1), kI (-1), tp, 0, 0) t0)) - (cTb vo le n0 n1 (cTn vo le n0 n1 (kI (-1), kI (-1), tp, 0, 0) t0)) / 12 * 12) &&& 31)))) (fs' := [.ref (ad 48), .ref (ad 49), .ref (ad 50), .ref (ad 51), .ref (ad 52), .ref (ad 53), .ref (ad 54), .ref (ad 56), .int (((cTn vo le n0 n1 (kI (-1), kI (-1), tp, 0, 0) t0).2.2.2.1) ||| (1 <<< (((cTb vo le n0 n1 (cTn vo le n0 n1 (kI (-1), kI (-1), tp, 0, 0) t0)) - (cTb vo le n0 n1 (cTn vo le n0 n1 (kI (-1), kI (-1), tp, 0, 0) t0)) / 12 * 12) &&& 31))), .int ((cTn vo le n0 n1 (kI (-1), kI (-1), tp, 0, 0) t0).2.2.2.2), .int cc, .int tu]) rfl rfl (Nat.le_of_ble_eq_true rfl) rfl dX2_takePairs_106 ?_
        refine gj_setf ((up_comm (by decide)).trans (up_un (bx_uu _ _ _ _))) ?_
        refine gj_aload_n C 0 dX2_takePairs_109 rfl 4 rfl ?_
        refine gj_dup C rfl dX2_takePairs_110 ?_
        refine gj_get C 47 (by decide) (up_nx (by decide) (va_up_self _ _ _)) inX2 rfl 9 (by decide) w_220 (v := .int ((cTn vo le n0 n1 (kI (-1), kI (-1), tp, 0, 0) t0).2.2.2.2)) rfl dX2_takePairs_111 ?_
        refine gj_iconst C (v := 1) (by decide) dX2_takePairs_114 ?_
        refine gj_iadd C dX2_takePairs_115 ?_
        refine gj_putS C 47 (by decide) (up_nx (by decide) (va_up_self _ _ _)) inX2 rfl 9 (by decide) tyX2 tyX2_ok nmX2 w_220 rfl (v := .int (((cTn vo le n0 n1 (kI (-1), kI (-1), tp, 0, 0) t0).2.2.2.2) + 1)) (fs' := [.ref (ad 48), .ref (ad 49), .ref (ad 50), .ref (ad 51), .ref (ad 52), .ref (ad 53), .ref (ad 54), .ref (ad 56), .int (((cTn vo le n0 n1 (kI (-1), kI (-1), tp, 0, 0) t0).2.2.2.1) ||| (1 <<< (((cTb vo le n0 n1 (cTn vo le n0 n1 (kI (-1), kI (-1), tp, 0, 0) t0)) - (cTb vo le n0 n1 (cTn vo le n0 n1 (kI (-1), kI (-1), tp, 0, 0) t0)) / 12 * 12) &&& 31))), .int (((cTn vo le n0 n1 (kI (-1), kI (-1), tp, 0, 0) t0).2.2.2.2) + 1), .int cc, .int tu]) rfl rfl (Nat.le_of_ble_eq_true rfl) rfl dX2_takePairs_116 ?_
        refine gj_setf ((up_comm (by decide)).trans (up_un (bx_uu _ _ _ _))) ?_
        refine gj_iinc C (v := nI (t0 + 1)) (lv' := [(5, .int (nI (t0 + 1))), (8, .int ((cTb vo le n0 n1 (cTn vo le n0 n1 (kI (-1), kI (-1), tp, 0, 0) t0)) - (cTb vo le n0 n1 (cTn vo le n0 n1 (kI (-1), kI (-1), tp, 0, 0) t0)) / 12 * 12)), (7, .int ((cTb vo le n0 n1 (cTn vo le n0 n1 (kI (-1), kI (-1), tp, 0, 0) t0)) / 12)), (6, .int (cTb vo le n0 n1 (cTn vo le n0 n1 (kI (-1), kI (-1), tp, 0, 0) t0))), (0, .ref (ad 47)), (1, .int (nI n0)), (2, .int (nI n1)), (3, .ref (ad tb)), (4, .int le)]) dX2_takePairs_119 3 rfl (nI_1 _) (by decide) rfl ?_
        refine gj_goto C 29 dX2_takePairs_122 (by decide) ?_
        refine gj_setf (g := va_up (va_up (va_up (va_up f 48 (.inl (ca 0, 8, .inl ((cTn vo le n0 n1 (kI (-1), kI (-1), tp, 0, 0) (t0 + 1)).1)))) 49 (.inl (ca 0, 8, .inl ((cTn vo le n0 n1 (kI (-1), kI (-1), tp, 0, 0) (t0 + 1)).2.1)))) 47 (.inr (2, [.ref (ad 48), .ref (ad 49), .ref (ad 50), .ref (ad 51), .ref (ad 52), .ref (ad 53), .ref (ad 54), .ref (ad 56), .int ((cTn vo le n0 n1 (kI (-1), kI (-1), tp, 0, 0) (t0 + 1)).2.2.2.1), .int ((cTn vo le n0 n1 (kI (-1), kI (-1), tp, 0, 0) (t0 + 1)).2.2.2.2), .int cc, .int tu]))) 50 (.inl (ca 0, 8, .inl ((cTn vo le n0 n1 (kI (-1), kI (-1), tp, 0, 0) (t0 + 1)).2.2.1)))) (by rw [show (cTn vo le n0 n1 (kI (-1), kI (-1), tp, 0, 0) (t0 + 1)) = _ from if_neg c_5]) ?_
        refine gj_lv [0, 4, 5, 6, 7, 8] rfl ?_
        exact ih_2 (t0 + 1) (by omega)
      · refine gj_goto C 125 dX2_takePairs_52 (by decide) ?_
        exact RT _ _ _ (by unfold cTake; rw [cTn_end (by omega) c_5]) dX2_takePairs_125
  refine gj_lv [0, 1, 2, 3, 4, 5] rfl ?_
  exact loop_1 (n1 - 0) 0 (by omega)
set_option maxHeartbeats 400000 in
set_option maxRecDepth 100000 in
theorem c_findPlace_47 {l : Launch} {D : va_G} {ca ss ad : Nat → Nat} {f : Nat → va_E} (iN : Nat) (x y z : Int32) (us tc cc tu : Int32) (pl : Nat → Int32) (sta : Nat → Int64) (spa : Nat → Int64) (hc47 : f 47 = .inr (2, [.ref (ad 48), .ref (ad 49), .ref (ad 50), .ref (ad 51), .ref (ad 52), .ref (ad 53), .ref (ad 54), .ref (ad 56), .int us, .int tc, .int cc, .int tu])) (hc53 : f 53 = .inl (ca 0, 36, .inl pl)) (hc55 : f 55 = .inl (ca 1, 12, .inr (.inl sta))) (hc57 : f 57 = .inl (ca 1, 12, .inr (.inl spa))) (hc54 : f 54 = .inr (0, [.ref (ad 55)])) (hc56 : f 56 = .inr (0, [.ref (ad 57)])) (hi : iN < 12) : gMv l D ca ss ad 108 yX2_findPlace cX2_findPlace 20 none 1 f [.ref (ad 47), .int (nI iN), .int x, .int y, .int z] (fun u => u = va_up f 53 (.inl (ca 0, 36, .inl (w3 pl iN (cPv sta spa x y z 0) (cPv sta spa x y z 1) (cPv sta spa x y z 2))))) := by
  refine gMv_ofK (by decide +kernel) (Nat.le_of_ble_eq_true rfl) (lv0 := [(0, .ref (ad 47)), (1, .int (nI iN)), (2, .int x), (3, .int y), (4, .int z)]) rfl (fun pT eT sT mT aT below meth cT AT QT C RT => ?_)
  have C : gX pT sT mT aT meth cT AT D ca ss 20 RX2 cX2_findPlace none := C
  refine gj_aload_n C 0 dX2_findPlace_0 rfl 0 rfl ?_
  refine gj_get C 47 (by decide) hc47 inX2 rfl 6 (by decide) w_217 (v := .ref (ad 54)) rfl dX2_findPlace_1 ?_
  refine gj_iconst C (v := 0) (by decide) dX2_findPlace_4 ?_
  refine gj_callVl C mi_X0_square w_611 54 (by decide) hc54 rfl (c_X0_square 54 55 0 sta hc54 hc55 (by decide) (by decide) (by decide) (by omega)) mc_X0_square ⟨Nat.le_of_ble_eq_true rfl, Nat.le_of_ble_eq_true rfl⟩ (rest := []) rfl (Nat.le_of_ble_eq_true rfl) dX2_findPlace_5 (fun r u h => ?_)
  obtain ⟨hr_, h⟩ := h; rw [hr_]
  rw [h]
  refine gj_lstore C (lv' := [(5, .long (s_X0_square 0 sta)), (0, .ref (ad 47)), (1, .int (nI iN)), (2, .int x), (3, .int y), (4, .int z)]) dX2_findPlace_8 (by decide) rfl ?_
  refine gj_aload_n C 0 dX2_findPlace_10 rfl 1 rfl ?_
  refine gj_get C 47 (by decide) hc47 inX2 rfl 6 (by decide) w_217 (v := .ref (ad 54)) rfl dX2_findPlace_11 ?_
  refine gj_iconst C (v := 1) (by decide) dX2_findPlace_14 ?_
  refine gj_callVl C mi_X0_square w_611 54 (by decide) hc54 rfl (c_X0_square 54 55 1 sta hc54 hc55 (by decide) (by decide) (by decide) (by omega)) mc_X0_square ⟨Nat.le_of_ble_eq_true rfl, Nat.le_of_ble_eq_true rfl⟩ (rest := []) rfl (Nat.le_of_ble_eq_true rfl) dX2_findPlace_15 (fun r u h => ?_)
  obtain ⟨hr_, h⟩ := h; rw [hr_]
  rw [h]
  refine gj_lstore C (lv' := [(7, .long (s_X0_square 1 sta)), (5, .long (s_X0_square 0 sta)), (0, .ref (ad 47)), (1, .int (nI iN)), (2, .int x), (3, .int y), (4, .int z)]) dX2_findPlace_18 (by decide) rfl ?_
  refine gj_lload C dX2_findPlace_20 1 rfl ?_
  refine gj_lload C dX2_findPlace_22 0 rfl ?_
  refine gj_lmul C dX2_findPlace_24 ?_
  refine gj_lstore C (lv' := [(9, .long ((s_X0_square 0 sta) * (s_X0_square 1 sta))), (7, .long (s_X0_square 1 sta)), (5, .long (s_X0_square 0 sta)), (0, .ref (ad 47)), (1, .int (nI iN)), (2, .int x), (3, .int y), (4, .int z)]) dX2_findPlace_25 (by decide) rfl ?_
  refine gj_aload_n C 0 dX2_findPlace_27 rfl 3 rfl ?_
  refine gj_get C 47 (by decide) hc47 inX2 rfl 6 (by decide) w_217 (v := .ref (ad 54)) rfl dX2_findPlace_28 ?_
  refine gj_iconst C (v := 0) (by decide) dX2_findPlace_31 ?_
  refine gj_iload_n C 2 dX2_findPlace_32 rfl 5 rfl ?_
  refine gj_iload_n C 3 dX2_findPlace_33 rfl 6 rfl ?_
  refine gj_iload C dX2_findPlace_34 7 rfl ?_
  refine gj_callVl C mi_X0_times w_615 54 (by decide) hc54 rfl (c_X0_times 54 55 0 x y z sta hc54 hc55 (by decide) (by decide) (by decide) (by omega)) mc_X0_times ⟨Nat.le_of_ble_eq_true rfl, Nat.le_of_ble_eq_true rfl⟩ (rest := []) rfl (Nat.le_of_ble_eq_true rfl) dX2_findPlace_36 (fun r u h => ?_)
  obtain ⟨hr_, h⟩ := h; rw [hr_]
  rw [h]
  refine gj_lload C dX2_findPlace_39 1 rfl ?_
  refine gj_lmul C dX2_findPlace_41 ?_
  refine gj_lstore C (lv' := [(11, .long ((s_X0_times 0 x y z sta) * (s_X0_square 1 sta))), (9, .long ((s_X0_square 0 sta) * (s_X0_square 1 sta))), (7, .long (s_X0_square 1 sta)), (5, .long (s_X0_square 0 sta)), (0, .ref (ad 47)), (1, .int (nI iN)), (2, .int x), (3, .int y), (4, .int z)]) dX2_findPlace_42 (by decide) rfl ?_
  refine gj_aload_n C 0 dX2_findPlace_44 rfl 4 rfl ?_
  refine gj_get C 47 (by decide) hc47 inX2 rfl 6 (by decide) w_217 (v := .ref (ad 54)) rfl dX2_findPlace_45 ?_
  refine gj_iconst C (v := 1) (by decide) dX2_findPlace_48 ?_
  refine gj_iload_n C 2 dX2_findPlace_49 rfl 6 rfl ?_
  refine gj_iload_n C 3 dX2_findPlace_50 rfl 7 rfl ?_
  refine gj_iload C dX2_findPlace_51 8 rfl ?_
  refine gj_callVl C mi_X0_times w_615 54 (by decide) hc54 rfl (c_X0_times 54 55 1 x y z sta hc54 hc55 (by decide) (by decide) (by decide) (by omega)) mc_X0_times ⟨Nat.le_of_ble_eq_true rfl, Nat.le_of_ble_eq_true rfl⟩ (rest := []) rfl (Nat.le_of_ble_eq_true rfl) dX2_findPlace_53 (fun r u h => ?_)
  obtain ⟨hr_, h⟩ := h; rw [hr_]
  rw [h]
  refine gj_lload C dX2_findPlace_56 3 rfl ?_
  refine gj_lmul C dX2_findPlace_58 ?_
  refine gj_lstore C (lv' := [(13, .long ((s_X0_times 1 x y z sta) * (s_X0_square 0 sta))), (11, .long ((s_X0_times 0 x y z sta) * (s_X0_square 1 sta))), (9, .long ((s_X0_square 0 sta) * (s_X0_square 1 sta))), (7, .long (s_X0_square 1 sta)), (5, .long (s_X0_square 0 sta)), (0, .ref (ad 47)), (1, .int (nI iN)), (2, .int x), (3, .int y), (4, .int z)]) dX2_findPlace_59 (by decide) rfl ?_
  refine gj_aload_n C 0 dX2_findPlace_61 rfl 5 rfl ?_
  refine gj_get C 47 (by decide) hc47 inX2 rfl 6 (by decide) w_217 (v := .ref (ad 54)) rfl dX2_findPlace_62 ?_
  refine gj_iconst C (v := 2) (by decide) dX2_findPlace_65 ?_
  refine gj_iload_n C 2 dX2_findPlace_66 rfl 7 rfl ?_
  refine gj_iload_n C 3 dX2_findPlace_67 rfl 8 rfl ?_
  refine gj_iload C dX2_findPlace_68 9 rfl ?_
  refine gj_callVl C mi_X0_times w_615 54 (by decide) hc54 rfl (c_X0_times 54 55 2 x y z sta hc54 hc55 (by decide) (by decide) (by decide) (by omega)) mc_X0_times ⟨Nat.le_of_ble_eq_true rfl, Nat.le_of_ble_eq_true rfl⟩ (rest := []) rfl (Nat.le_of_ble_eq_true rfl) dX2_findPlace_70 (fun r u h => ?_)
  obtain ⟨hr_, h⟩ := h; rw [hr_]
  rw [h]
  refine gj_lstore C (lv' := [(15, .long (s_X0_times 2 x y z sta)), (13, .long ((s_X0_times 1 x y z sta) * (s_X0_square 0 sta))), (11, .long ((s_X0_times 0 x y z sta) * (s_X0_square 1 sta))), (9, .long ((s_X0_square 0 sta) * (s_X0_square 1 sta))), (7, .long (s_X0_square 1 sta)), (5, .long (s_X0_square 0 sta)), (0, .ref (ad 47)), (1, .int (nI iN)), (2, .int x), (3, .int y), (4, .int z)]) dX2_findPlace_73 (by decide) rfl ?_
  refine gj_iconst C (v := 0) (by decide) dX2_findPlace_75 ?_
  refine gj_istore C (lv' := [(17, .int 0), (15, .long (s_X0_times 2 x y z sta)), (13, .long ((s_X0_times 1 x y z sta) * (s_X0_square 0 sta))), (11, .long ((s_X0_times 0 x y z sta) * (s_X0_square 1 sta))), (9, .long ((s_X0_square 0 sta) * (s_X0_square 1 sta))), (7, .long (s_X0_square 1 sta)), (5, .long (s_X0_square 0 sta)), (0, .ref (ad 47)), (1, .int (nI iN)), (2, .int x), (3, .int y), (4, .int z)]) dX2_findPlace_76 (by decide) rfl ?_
  refine gj_iload C dX2_findPlace_78 0 rfl ?_
  refine gj_iconst C (v := 3) (by decide) dX2_findPlace_80 ?_
  refine gj_icmp_ge C 174 dX2_findPlace_81 (by decide) (fun c_1 => absurd c_1 (by decide)) (fun c_1 => ?_)
  refine gj_lload C dX2_findPlace_84 3 rfl ?_
  refine gj_aload_n C 0 dX2_findPlace_86 rfl 7 rfl ?_
  refine gj_get C 47 (by decide) hc47 inX2 rfl 7 (by decide) w_218 (v := .ref (ad 56)) rfl dX2_findPlace_87 ?_
  refine gj_iconst C (v := 0) (by decide) dX2_findPlace_90 ?_
  refine gj_iload C dX2_findPlace_91 0 rfl ?_
  refine gj_callVl C mi_X0_part w_619 56 (by decide) hc56 rfl (c_X0_part 56 57 0 0 spa hc56 hc57 (by decide) (by decide) (by decide) (by omega) (by omega)) mc_X0_part ⟨Nat.le_of_ble_eq_true rfl, Nat.le_of_ble_eq_true rfl⟩ (rest := [.long ((s_X0_times 0 x y z sta) * (s_X0_square 1 sta))]) rfl (Nat.le_of_ble_eq_true rfl) dX2_findPlace_93 (fun r u h => ?_)
  obtain ⟨hr_, h⟩ := h; rw [hr_]
  rw [h]
  refine gj_lmul C dX2_findPlace_96 ?_
  refine gj_lload C dX2_findPlace_97 2 rfl ?_
  refine gj_aload_n C 0 dX2_findPlace_99 rfl 7 rfl ?_
  refine gj_get C 47 (by decide) hc47 inX2 rfl 7 (by decide) w_218 (v := .ref (ad 56)) rfl dX2_findPlace_100 ?_
  refine gj_iconst C (v := 1) (by decide) dX2_findPlace_103 ?_
  refine gj_iload C dX2_findPlace_104 0 rfl ?_
  refine gj_callVl C mi_X0_part w_619 56 (by decide) hc56 rfl (c_X0_part 56 57 1 0 spa hc56 hc57 (by decide) (by decide) (by decide) (by omega) (by omega)) mc_X0_part ⟨Nat.le_of_ble_eq_true rfl, Nat.le_of_ble_eq_true rfl⟩ (rest := [.long ((s_X0_times 1 x y z sta) * (s_X0_square 0 sta)), .long (((s_X0_times 0 x y z sta) * (s_X0_square 1 sta)) * (s_X0_part 0 0 spa))]) rfl (Nat.le_of_ble_eq_true rfl) dX2_findPlace_106 (fun r u h => ?_)
  obtain ⟨hr_, h⟩ := h; rw [hr_]
  rw [h]
  refine gj_lmul C dX2_findPlace_109 ?_
  refine gj_ladd C dX2_findPlace_110 ?_
  refine gj_lload C dX2_findPlace_111 1 rfl ?_
  refine gj_aload_n C 0 dX2_findPlace_113 rfl 7 rfl ?_
  refine gj_get C 47 (by decide) hc47 inX2 rfl 7 (by decide) w_218 (v := .ref (ad 56)) rfl dX2_findPlace_114 ?_
  refine gj_iconst C (v := 2) (by decide) dX2_findPlace_117 ?_
  refine gj_iload C dX2_findPlace_118 0 rfl ?_
  refine gj_callVl C mi_X0_part w_619 56 (by decide) hc56 rfl (c_X0_part 56 57 2 0 spa hc56 hc57 (by decide) (by decide) (by decide) (by omega) (by omega)) mc_X0_part ⟨Nat.le_of_ble_eq_true rfl, Nat.le_of_ble_eq_true rfl⟩ (rest := [.long (s_X0_times 2 x y z sta), .long ((((s_X0_times 0 x y z sta) * (s_X0_square 1 sta)) * (s_X0_part 0 0 spa)) + (((s_X0_times 1 x y z sta) * (s_X0_square 0 sta)) * (s_X0_part 1 0 spa)))]) rfl (Nat.le_of_ble_eq_true rfl) dX2_findPlace_120 (fun r u h => ?_)
  obtain ⟨hr_, h⟩ := h; rw [hr_]
  rw [h]
  refine gj_lmul C dX2_findPlace_123 ?_
  refine gj_ladd C dX2_findPlace_124 ?_
  refine gj_lstore C (lv' := [(18, .long (((((s_X0_times 0 x y z sta) * (s_X0_square 1 sta)) * (s_X0_part 0 0 spa)) + (((s_X0_times 1 x y z sta) * (s_X0_square 0 sta)) * (s_X0_part 1 0 spa))) + ((s_X0_times 2 x y z sta) * (s_X0_part 2 0 spa)))), (17, .int 0), (15, .long (s_X0_times 2 x y z sta)), (13, .long ((s_X0_times 1 x y z sta) * (s_X0_square 0 sta))), (11, .long ((s_X0_times 0 x y z sta) * (s_X0_square 1 sta))), (9, .long ((s_X0_square 0 sta) * (s_X0_square 1 sta))), (7, .long (s_X0_square 1 sta)), (5, .long (s_X0_square 0 sta)), (0, .ref (ad 47)), (1, .int (nI iN)), (2, .int x), (3, .int y), (4, .int z)]) dX2_findPlace_125 (by decide) rfl ?_
  refine gj_aload_n C 0 dX2_findPlace_127 rfl 8 rfl ?_
  refine gj_get C 47 (by decide) hc47 inX2 rfl 5 (by decide) w_215 (v := .ref (ad 53)) rfl dX2_findPlace_128 ?_
  refine gj_iconst C (v := 3) (by decide) dX2_findPlace_131 ?_
  refine gj_iload_n C 1 dX2_findPlace_132 rfl 9 rfl ?_
  refine gj_imul C dX2_findPlace_133 ?_
  refine gj_iload C dX2_findPlace_134 1 rfl ?_
  refine gj_iadd C dX2_findPlace_136 ?_
  refine gj_seti (y := nI (3 * iN)) ((Int32.add_zero _).trans (i3_0 iN)) ?_
  refine gj_lload C dX2_findPlace_137 5 rfl ?_
  refine gj_lconst C (v := 1) rfl dX2_findPlace_139 ?_
  refine gj_lcmp C dX2_findPlace_140 ?_
  have hj_3 : gJ pT l eT (Rm 1) sT mT aT below meth cT AT QT D ad 108 20 (f) [(18, .long (((((s_X0_times 0 x y z sta) * (s_X0_square 1 sta)) * (s_X0_part 0 0 spa)) + (((s_X0_times 1 x y z sta) * (s_X0_square 0 sta)) * (s_X0_part 1 0 spa))) + ((s_X0_times 2 x y z sta) * (s_X0_part 2 0 spa)))), (17, .int 0), (15, .long (s_X0_times 2 x y z sta)), (13, .long ((s_X0_times 1 x y z sta) * (s_X0_square 0 sta))), (11, .long ((s_X0_times 0 x y z sta) * (s_X0_square 1 sta))), (9, .long ((s_X0_square 0 sta) * (s_X0_square 1 sta))), (7, .long (s_X0_square 1 sta)), (5, .long (s_X0_square 0 sta)), (0, .ref (ad 47)), (1, .int (nI iN)), (2, .int x), (3, .int y), (4, .int z)] 167 [.int (if 0 ≤ (lg_cmp ((s_X0_square 0 sta) * (s_X0_square 1 sta)) 1) then ((s_J9_floorDiv_f86c9 ((2 * (((((s_X0_times 0 x y z sta) * (s_X0_square 1 sta)) * (s_X0_part 0 0 spa)) + (((s_X0_times 1 x y z sta) * (s_X0_square 0 sta)) * (s_X0_part 1 0 spa))) + ((s_X0_times 2 x y z sta) * (s_X0_part 2 0 spa)))) + ((s_X0_square 0 sta) * (s_X0_square 1 sta))) (2 * ((s_X0_square 0 sta) * (s_X0_square 1 sta)))).toInt32 : Int32) else (0 : Int32)), .int (nI (3 * iN)), .ref (ad 53)] := by
    refine gj_seti (y := cPv sta spa x y z 0) rfl ?_
    refine gj_iast C 53 (by decide) hc53 (vp_in_nI (by omega) (by omega)) dX2_findPlace_167 ?_
    refine gj_setf (g := va_up f 53 (.inl (ca 0, 36, .inl (upd pl (3 * iN) (cPv sta spa x y z 0))))) (by rw [nI_clamp (show (3 * iN) < 2 ^ 31 by omega)]) ?_
    refine gj_iinc C (v := 1) (lv' := [(17, .int 1), (18, .long (((((s_X0_times 0 x y z sta) * (s_X0_square 1 sta)) * (s_X0_part 0 0 spa)) + (((s_X0_times 1 x y z sta) * (s_X0_square 0 sta)) * (s_X0_part 1 0 spa))) + ((s_X0_times 2 x y z sta) * (s_X0_part 2 0 spa)))), (15, .long (s_X0_times 2 x y z sta)), (13, .long ((s_X0_times 1 x y z sta) * (s_X0_square 0 sta))), (11, .long ((s_X0_times 0 x y z sta) * (s_X0_square 1 sta))), (9, .long ((s_X0_square 0 sta) * (s_X0_square 1 sta))), (7, .long (s_X0_square 1 sta)), (5, .long (s_X0_square 0 sta)), (0, .ref (ad 47)), (1, .int (nI iN)), (2, .int x), (3, .int y), (4, .int z)]) dX2_findPlace_168 1 rfl (by decide) (by decide) rfl ?_
    refine gj_goto C 78 dX2_findPlace_171 (by decide) ?_
    refine gj_iload C dX2_findPlace_78 0 rfl ?_
    refine gj_iconst C (v := 3) (by decide) dX2_findPlace_80 ?_
    refine gj_icmp_ge C 174 dX2_findPlace_81 (by decide) (fun c_4 => absurd c_4 (by decide)) (fun c_4 => ?_)
    refine gj_lload C dX2_findPlace_84 4 rfl ?_
    refine gj_aload_n C 0 dX2_findPlace_86 rfl 8 rfl ?_
    refine gj_get C 47 (by decide) (up_nx (by decide) (hc47)) inX2 rfl 7 (by decide) w_218 (v := .ref (ad 56)) rfl dX2_findPlace_87 ?_
    refine gj_iconst C (v := 0) (by decide) dX2_findPlace_90 ?_
    refine gj_iload C dX2_findPlace_91 0 rfl ?_
    refine gj_callVl C mi_X0_part w_619 56 (by decide) (up_nx (by decide) (hc56)) rfl (c_X0_part 56 57 0 1 spa (up_nx (by decide) (hc56)) (up_nx (by decide) (hc57)) (by decide) (by decide) (by decide) (by omega) (by omega)) mc_X0_part ⟨Nat.le_of_ble_eq_true rfl, Nat.le_of_ble_eq_true rfl⟩ (rest := [.long ((s_X0_times 0 x y z sta) * (s_X0_square 1 sta))]) rfl (Nat.le_of_ble_eq_true rfl) dX2_findPlace_93 (fun r u h => ?_)
    obtain ⟨hr_, hu_⟩ := h; rw [hr_]; subst hu_
    refine gj_lmul C dX2_findPlace_96 ?_
    refine gj_lload C dX2_findPlace_97 3 rfl ?_
    refine gj_aload_n C 0 dX2_findPlace_99 rfl 8 rfl ?_
    refine gj_get C 47 (by decide) (up_nx (by decide) (hc47)) inX2 rfl 7 (by decide) w_218 (v := .ref (ad 56)) rfl dX2_findPlace_100 ?_
    refine gj_iconst C (v := 1) (by decide) dX2_findPlace_103 ?_
    refine gj_iload C dX2_findPlace_104 0 rfl ?_
    refine gj_callVl C mi_X0_part w_619 56 (by decide) (up_nx (by decide) (hc56)) rfl (c_X0_part 56 57 1 1 spa (up_nx (by decide) (hc56)) (up_nx (by decide) (hc57)) (by decide) (by decide) (by decide) (by omega) (by omega)) mc_X0_part ⟨Nat.le_of_ble_eq_true rfl, Nat.le_of_ble_eq_true rfl⟩ (rest := [.long ((s_X0_times 1 x y z sta) * (s_X0_square 0 sta)), .long (((s_X0_times 0 x y z sta) * (s_X0_square 1 sta)) * (s_X0_part 0 1 spa))]) rfl (Nat.le_of_ble_eq_true rfl) dX2_findPlace_106 (fun r u h => ?_)
    obtain ⟨hr_, hu_⟩ := h; rw [hr_]; subst hu_
    refine gj_lmul C dX2_findPlace_109 ?_
    refine gj_ladd C dX2_findPlace_110 ?_
    refine gj_lload C dX2_findPlace_111 2 rfl ?_
    refine gj_aload_n C 0 dX2_findPlace_113 rfl 8 rfl ?_
    refine gj_get C 47 (by decide) (up_nx (by decide) (hc47)) inX2 rfl 7 (by decide) w_218 (v := .ref (ad 56)) rfl dX2_findPlace_114 ?_
    refine gj_iconst C (v := 2) (by decide) dX2_findPlace_117 ?_
    refine gj_iload C dX2_findPlace_118 0 rfl ?_
    refine gj_callVl C mi_X0_part w_619 56 (by decide) (up_nx (by decide) (hc56)) rfl (c_X0_part 56 57 2 1 spa (up_nx (by decide) (hc56)) (up_nx (by decide) (hc57)) (by decide) (by decide) (by decide) (by omega) (by omega)) mc_X0_part ⟨Nat.le_of_ble_eq_true rfl, Nat.le_of_ble_eq_true rfl⟩ (rest := [.long (s_X0_times 2 x y z sta), .long ((((s_X0_times 0 x y z sta) * (s_X0_square 1 sta)) * (s_X0_part 0 1 spa)) + (((s_X0_times 1 x y z sta) * (s_X0_square 0 sta)) * (s_X0_part 1 1 spa)))]) rfl (Nat.le_of_ble_eq_true rfl) dX2_findPlace_120 (fun r u h => ?_)
    obtain ⟨hr_, hu_⟩ := h; rw [hr_]; subst hu_
    refine gj_lmul C dX2_findPlace_123 ?_
    refine gj_ladd C dX2_findPlace_124 ?_
    refine gj_lstore C (lv' := [(18, .long (((((s_X0_times 0 x y z sta) * (s_X0_square 1 sta)) * (s_X0_part 0 1 spa)) + (((s_X0_times 1 x y z sta) * (s_X0_square 0 sta)) * (s_X0_part 1 1 spa))) + ((s_X0_times 2 x y z sta) * (s_X0_part 2 1 spa)))), (17, .int 1), (15, .long (s_X0_times 2 x y z sta)), (13, .long ((s_X0_times 1 x y z sta) * (s_X0_square 0 sta))), (11, .long ((s_X0_times 0 x y z sta) * (s_X0_square 1 sta))), (9, .long ((s_X0_square 0 sta) * (s_X0_square 1 sta))), (7, .long (s_X0_square 1 sta)), (5, .long (s_X0_square 0 sta)), (0, .ref (ad 47)), (1, .int (nI iN)), (2, .int x), (3, .int y), (4, .int z)]) dX2_findPlace_125 (by decide) rfl ?_
    refine gj_aload_n C 0 dX2_findPlace_127 rfl 8 rfl ?_
    refine gj_get C 47 (by decide) (up_nx (by decide) (hc47)) inX2 rfl 5 (by decide) w_215 (v := .ref (ad 53)) rfl dX2_findPlace_128 ?_
    refine gj_iconst C (v := 3) (by decide) dX2_findPlace_131 ?_
    refine gj_iload_n C 1 dX2_findPlace_132 rfl 9 rfl ?_
    refine gj_imul C dX2_findPlace_133 ?_
    refine gj_iload C dX2_findPlace_134 1 rfl ?_
    refine gj_iadd C dX2_findPlace_136 ?_
    refine gj_seti (y := nI (3 * iN + 1)) (i3_c iN 1) ?_
    refine gj_lload C dX2_findPlace_137 5 rfl ?_
    refine gj_lconst C (v := 1) rfl dX2_findPlace_139 ?_
    refine gj_lcmp C dX2_findPlace_140 ?_
    have hj_6 : gJ pT l eT (Rm 1) sT mT aT below meth cT AT QT D ad 108 20 (va_up f 53 (.inl (ca 0, 36, .inl (upd pl (3 * iN) (cPv sta spa x y z 0))))) [(18, .long (((((s_X0_times 0 x y z sta) * (s_X0_square 1 sta)) * (s_X0_part 0 1 spa)) + (((s_X0_times 1 x y z sta) * (s_X0_square 0 sta)) * (s_X0_part 1 1 spa))) + ((s_X0_times 2 x y z sta) * (s_X0_part 2 1 spa)))), (17, .int 1), (15, .long (s_X0_times 2 x y z sta)), (13, .long ((s_X0_times 1 x y z sta) * (s_X0_square 0 sta))), (11, .long ((s_X0_times 0 x y z sta) * (s_X0_square 1 sta))), (9, .long ((s_X0_square 0 sta) * (s_X0_square 1 sta))), (7, .long (s_X0_square 1 sta)), (5, .long (s_X0_square 0 sta)), (0, .ref (ad 47)), (1, .int (nI iN)), (2, .int x), (3, .int y), (4, .int z)] 167 [.int (if 0 ≤ (lg_cmp ((s_X0_square 0 sta) * (s_X0_square 1 sta)) 1) then ((s_J9_floorDiv_f86c9 ((2 * (((((s_X0_times 0 x y z sta) * (s_X0_square 1 sta)) * (s_X0_part 0 1 spa)) + (((s_X0_times 1 x y z sta) * (s_X0_square 0 sta)) * (s_X0_part 1 1 spa))) + ((s_X0_times 2 x y z sta) * (s_X0_part 2 1 spa)))) + ((s_X0_square 0 sta) * (s_X0_square 1 sta))) (2 * ((s_X0_square 0 sta) * (s_X0_square 1 sta)))).toInt32 : Int32) else (0 : Int32)), .int (nI (3 * iN + 1)), .ref (ad 53)] := by
      refine gj_seti (y := cPv sta spa x y z 1) rfl ?_
      refine gj_iast C 53 (by decide) (va_up_self _ _ _) (vp_in_nI (by omega) (by omega)) dX2_findPlace_167 ?_
      refine gj_setf (bx_uu _ _ _ _) ?_
      refine gj_setf (g := va_up f 53 (.inl (ca 0, 36, .inl (upd (upd pl (3 * iN) (cPv sta spa x y z 0)) (3 * iN + 1) (cPv sta spa x y z 1))))) (by rw [nI_clamp (show (3 * iN + 1) < 2 ^ 31 by omega)]) ?_
      refine gj_iinc C (v := 2) (lv' := [(17, .int 2), (18, .long (((((s_X0_times 0 x y z sta) * (s_X0_square 1 sta)) * (s_X0_part 0 1 spa)) + (((s_X0_times 1 x y z sta) * (s_X0_square 0 sta)) * (s_X0_part 1 1 spa))) + ((s_X0_times 2 x y z sta) * (s_X0_part 2 1 spa)))), (15, .long (s_X0_times 2 x y z sta)), (13, .long ((s_X0_times 1 x y z sta) * (s_X0_square 0 sta))), (11, .long ((s_X0_times 0 x y z sta) * (s_X0_square 1 sta))), (9, .long ((s_X0_square 0 sta) * (s_X0_square 1 sta))), (7, .long (s_X0_square 1 sta)), (5, .long (s_X0_square 0 sta)), (0, .ref (ad 47)), (1, .int (nI iN)), (2, .int x), (3, .int y), (4, .int z)]) dX2_findPlace_168 1 rfl (by decide) (by decide) rfl ?_
      refine gj_goto C 78 dX2_findPlace_171 (by decide) ?_
      refine gj_iload C dX2_findPlace_78 0 rfl ?_
      refine gj_iconst C (v := 3) (by decide) dX2_findPlace_80 ?_
      refine gj_icmp_ge C 174 dX2_findPlace_81 (by decide) (fun c_7 => absurd c_7 (by decide)) (fun c_7 => ?_)
      refine gj_lload C dX2_findPlace_84 4 rfl ?_
      refine gj_aload_n C 0 dX2_findPlace_86 rfl 8 rfl ?_
      refine gj_get C 47 (by decide) (up_nx (by decide) (hc47)) inX2 rfl 7 (by decide) w_218 (v := .ref (ad 56)) rfl dX2_findPlace_87 ?_
      refine gj_iconst C (v := 0) (by decide) dX2_findPlace_90 ?_
      refine gj_iload C dX2_findPlace_91 0 rfl ?_
      refine gj_callVl C mi_X0_part w_619 56 (by decide) (up_nx (by decide) (hc56)) rfl (c_X0_part 56 57 0 2 spa (up_nx (by decide) (hc56)) (up_nx (by decide) (hc57)) (by decide) (by decide) (by decide) (by omega) (by omega)) mc_X0_part ⟨Nat.le_of_ble_eq_true rfl, Nat.le_of_ble_eq_true rfl⟩ (rest := [.long ((s_X0_times 0 x y z sta) * (s_X0_square 1 sta))]) rfl (Nat.le_of_ble_eq_true rfl) dX2_findPlace_93 (fun r u h => ?_)
      obtain ⟨hr_, hu_⟩ := h; rw [hr_]; subst hu_
      refine gj_lmul C dX2_findPlace_96 ?_
      refine gj_lload C dX2_findPlace_97 3 rfl ?_
      refine gj_aload_n C 0 dX2_findPlace_99 rfl 8 rfl ?_
      refine gj_get C 47 (by decide) (up_nx (by decide) (hc47)) inX2 rfl 7 (by decide) w_218 (v := .ref (ad 56)) rfl dX2_findPlace_100 ?_
      refine gj_iconst C (v := 1) (by decide) dX2_findPlace_103 ?_
      refine gj_iload C dX2_findPlace_104 0 rfl ?_
      refine gj_callVl C mi_X0_part w_619 56 (by decide) (up_nx (by decide) (hc56)) rfl (c_X0_part 56 57 1 2 spa (up_nx (by decide) (hc56)) (up_nx (by decide) (hc57)) (by decide) (by decide) (by decide) (by omega) (by omega)) mc_X0_part ⟨Nat.le_of_ble_eq_true rfl, Nat.le_of_ble_eq_true rfl⟩ (rest := [.long ((s_X0_times 1 x y z sta) * (s_X0_square 0 sta)), .long (((s_X0_times 0 x y z sta) * (s_X0_square 1 sta)) * (s_X0_part 0 2 spa))]) rfl (Nat.le_of_ble_eq_true rfl) dX2_findPlace_106 (fun r u h => ?_)
      obtain ⟨hr_, hu_⟩ := h; rw [hr_]; subst hu_
      refine gj_lmul C dX2_findPlace_109 ?_
      refine gj_ladd C dX2_findPlace_110 ?_
      refine gj_lload C dX2_findPlace_111 2 rfl ?_
      refine gj_aload_n C 0 dX2_findPlace_113 rfl 8 rfl ?_
      refine gj_get C 47 (by decide) (up_nx (by decide) (hc47)) inX2 rfl 7 (by decide) w_218 (v := .ref (ad 56)) rfl dX2_findPlace_114 ?_
      refine gj_iconst C (v := 2) (by decide) dX2_findPlace_117 ?_
      refine gj_iload C dX2_findPlace_118 0 rfl ?_
      refine gj_callVl C mi_X0_part w_619 56 (by decide) (up_nx (by decide) (hc56)) rfl (c_X0_part 56 57 2 2 spa (up_nx (by decide) (hc56)) (up_nx (by decide) (hc57)) (by decide) (by decide) (by decide) (by omega) (by omega)) mc_X0_part ⟨Nat.le_of_ble_eq_true rfl, Nat.le_of_ble_eq_true rfl⟩ (rest := [.long (s_X0_times 2 x y z sta), .long ((((s_X0_times 0 x y z sta) * (s_X0_square 1 sta)) * (s_X0_part 0 2 spa)) + (((s_X0_times 1 x y z sta) * (s_X0_square 0 sta)) * (s_X0_part 1 2 spa)))]) rfl (Nat.le_of_ble_eq_true rfl) dX2_findPlace_120 (fun r u h => ?_)
      obtain ⟨hr_, hu_⟩ := h; rw [hr_]; subst hu_
      refine gj_lmul C dX2_findPlace_123 ?_
      refine gj_ladd C dX2_findPlace_124 ?_
      refine gj_lstore C (lv' := [(18, .long (((((s_X0_times 0 x y z sta) * (s_X0_square 1 sta)) * (s_X0_part 0 2 spa)) + (((s_X0_times 1 x y z sta) * (s_X0_square 0 sta)) * (s_X0_part 1 2 spa))) + ((s_X0_times 2 x y z sta) * (s_X0_part 2 2 spa)))), (17, .int 2), (15, .long (s_X0_times 2 x y z sta)), (13, .long ((s_X0_times 1 x y z sta) * (s_X0_square 0 sta))), (11, .long ((s_X0_times 0 x y z sta) * (s_X0_square 1 sta))), (9, .long ((s_X0_square 0 sta) * (s_X0_square 1 sta))), (7, .long (s_X0_square 1 sta)), (5, .long (s_X0_square 0 sta)), (0, .ref (ad 47)), (1, .int (nI iN)), (2, .int x), (3, .int y), (4, .int z)]) dX2_findPlace_125 (by decide) rfl ?_
      refine gj_aload_n C 0 dX2_findPlace_127 rfl 8 rfl ?_
      refine gj_get C 47 (by decide) (up_nx (by decide) (hc47)) inX2 rfl 5 (by decide) w_215 (v := .ref (ad 53)) rfl dX2_findPlace_128 ?_
      refine gj_iconst C (v := 3) (by decide) dX2_findPlace_131 ?_
      refine gj_iload_n C 1 dX2_findPlace_132 rfl 9 rfl ?_
      refine gj_imul C dX2_findPlace_133 ?_
      refine gj_iload C dX2_findPlace_134 1 rfl ?_
      refine gj_iadd C dX2_findPlace_136 ?_
      refine gj_seti (y := nI (3 * iN + 2)) (i3_c iN 2) ?_
      refine gj_lload C dX2_findPlace_137 5 rfl ?_
      refine gj_lconst C (v := 1) rfl dX2_findPlace_139 ?_
      refine gj_lcmp C dX2_findPlace_140 ?_
      have hj_9 : gJ pT l eT (Rm 1) sT mT aT below meth cT AT QT D ad 108 20 (va_up f 53 (.inl (ca 0, 36, .inl (upd (upd pl (3 * iN) (cPv sta spa x y z 0)) (3 * iN + 1) (cPv sta spa x y z 1))))) [(18, .long (((((s_X0_times 0 x y z sta) * (s_X0_square 1 sta)) * (s_X0_part 0 2 spa)) + (((s_X0_times 1 x y z sta) * (s_X0_square 0 sta)) * (s_X0_part 1 2 spa))) + ((s_X0_times 2 x y z sta) * (s_X0_part 2 2 spa)))), (17, .int 2), (15, .long (s_X0_times 2 x y z sta)), (13, .long ((s_X0_times 1 x y z sta) * (s_X0_square 0 sta))), (11, .long ((s_X0_times 0 x y z sta) * (s_X0_square 1 sta))), (9, .long ((s_X0_square 0 sta) * (s_X0_square 1 sta))), (7, .long (s_X0_square 1 sta)), (5, .long (s_X0_square 0 sta)), (0, .ref (ad 47)), (1, .int (nI iN)), (2, .int x), (3, .int y), (4, .int z)] 167 [.int (if 0 ≤ (lg_cmp ((s_X0_square 0 sta) * (s_X0_square 1 sta)) 1) then ((s_J9_floorDiv_f86c9 ((2 * (((((s_X0_times 0 x y z sta) * (s_X0_square 1 sta)) * (s_X0_part 0 2 spa)) + (((s_X0_times 1 x y z sta) * (s_X0_square 0 sta)) * (s_X0_part 1 2 spa))) + ((s_X0_times 2 x y z sta) * (s_X0_part 2 2 spa)))) + ((s_X0_square 0 sta) * (s_X0_square 1 sta))) (2 * ((s_X0_square 0 sta) * (s_X0_square 1 sta)))).toInt32 : Int32) else (0 : Int32)), .int (nI (3 * iN + 2)), .ref (ad 53)] := by
        refine gj_seti (y := cPv sta spa x y z 2) rfl ?_
        refine gj_iast C 53 (by decide) (va_up_self _ _ _) (vp_in_nI (by omega) (by omega)) dX2_findPlace_167 ?_
        refine gj_setf (bx_uu _ _ _ _) ?_
        refine gj_setf (g := va_up f 53 (.inl (ca 0, 36, .inl (upd (upd (upd pl (3 * iN) (cPv sta spa x y z 0)) (3 * iN + 1) (cPv sta spa x y z 1)) (3 * iN + 2) (cPv sta spa x y z 2))))) (by rw [nI_clamp (show (3 * iN + 2) < 2 ^ 31 by omega)]) ?_
        refine gj_iinc C (v := 3) (lv' := [(17, .int 3), (18, .long (((((s_X0_times 0 x y z sta) * (s_X0_square 1 sta)) * (s_X0_part 0 2 spa)) + (((s_X0_times 1 x y z sta) * (s_X0_square 0 sta)) * (s_X0_part 1 2 spa))) + ((s_X0_times 2 x y z sta) * (s_X0_part 2 2 spa)))), (15, .long (s_X0_times 2 x y z sta)), (13, .long ((s_X0_times 1 x y z sta) * (s_X0_square 0 sta))), (11, .long ((s_X0_times 0 x y z sta) * (s_X0_square 1 sta))), (9, .long ((s_X0_square 0 sta) * (s_X0_square 1 sta))), (7, .long (s_X0_square 1 sta)), (5, .long (s_X0_square 0 sta)), (0, .ref (ad 47)), (1, .int (nI iN)), (2, .int x), (3, .int y), (4, .int z)]) dX2_findPlace_168 1 rfl (by decide) (by decide) rfl ?_
        refine gj_goto C 78 dX2_findPlace_171 (by decide) ?_
        refine gj_iload C dX2_findPlace_78 0 rfl ?_
        refine gj_iconst C (v := 3) (by decide) dX2_findPlace_80 ?_
        refine gj_icmp_ge C 174 dX2_findPlace_81 (by decide) (fun c_10 => ?_) (fun c_10 => absurd (by decide) c_10)
        exact RT _ _ _ (by rw [w3_new]) dX2_findPlace_174
      refine gj_if_ge C 148 dX2_findPlace_141 (by decide) (fun c_8 => ?_) (fun c_8 => ?_)
      · refine gj_ldc2 C (v := 2) w_623 dX2_findPlace_148 ?_
        refine gj_lload C dX2_findPlace_151 0 rfl ?_
        refine gj_lmul C dX2_findPlace_153 ?_
        refine gj_lload C dX2_findPlace_154 5 rfl ?_
        refine gj_ladd C dX2_findPlace_156 ?_
        refine gj_ldc2 C (v := 2) w_623 dX2_findPlace_157 ?_
        refine gj_lload C dX2_findPlace_160 5 rfl ?_
        refine gj_lmul C dX2_findPlace_162 ?_
        refine gj_callSl C w_625 w_624 (c_J9_floorDiv_f86c9 ((2 * (((((s_X0_times 0 x y z sta) * (s_X0_square 1 sta)) * (s_X0_part 0 2 spa)) + (((s_X0_times 1 x y z sta) * (s_X0_square 0 sta)) * (s_X0_part 1 2 spa))) + ((s_X0_times 2 x y z sta) * (s_X0_part 2 2 spa)))) + ((s_X0_square 0 sta) * (s_X0_square 1 sta))) (2 * ((s_X0_square 0 sta) * (s_X0_square 1 sta))) (all_nz c_8)) mc_J9_floorDiv_f86c9 ⟨Nat.le_of_ble_eq_true rfl, Nat.le_of_ble_eq_true rfl⟩ (rest := [.int (nI (3 * iN + 2)), .ref (ad 53)]) rfl (Nat.le_of_ble_eq_true rfl) dX2_findPlace_163 (fun r u h => ?_)
        obtain ⟨hr_, hu_⟩ := h; rw [hr_]; subst hu_
        refine gj_l2i C dX2_findPlace_166 ?_
        exact gj_seti (if_pos c_8).symm hj_9
      · refine gj_iconst C (v := 0) (by decide) dX2_findPlace_144 ?_
        refine gj_goto C 167 dX2_findPlace_145 (by decide) ?_
        exact gj_seti (if_neg c_8).symm hj_9
    refine gj_if_ge C 148 dX2_findPlace_141 (by decide) (fun c_5 => ?_) (fun c_5 => ?_)
    · refine gj_ldc2 C (v := 2) w_623 dX2_findPlace_148 ?_
      refine gj_lload C dX2_findPlace_151 0 rfl ?_
      refine gj_lmul C dX2_findPlace_153 ?_
      refine gj_lload C dX2_findPlace_154 5 rfl ?_
      refine gj_ladd C dX2_findPlace_156 ?_
      refine gj_ldc2 C (v := 2) w_623 dX2_findPlace_157 ?_
      refine gj_lload C dX2_findPlace_160 5 rfl ?_
      refine gj_lmul C dX2_findPlace_162 ?_
      refine gj_callSl C w_625 w_624 (c_J9_floorDiv_f86c9 ((2 * (((((s_X0_times 0 x y z sta) * (s_X0_square 1 sta)) * (s_X0_part 0 1 spa)) + (((s_X0_times 1 x y z sta) * (s_X0_square 0 sta)) * (s_X0_part 1 1 spa))) + ((s_X0_times 2 x y z sta) * (s_X0_part 2 1 spa)))) + ((s_X0_square 0 sta) * (s_X0_square 1 sta))) (2 * ((s_X0_square 0 sta) * (s_X0_square 1 sta))) (all_nz c_5)) mc_J9_floorDiv_f86c9 ⟨Nat.le_of_ble_eq_true rfl, Nat.le_of_ble_eq_true rfl⟩ (rest := [.int (nI (3 * iN + 1)), .ref (ad 53)]) rfl (Nat.le_of_ble_eq_true rfl) dX2_findPlace_163 (fun r u h => ?_)
      obtain ⟨hr_, hu_⟩ := h; rw [hr_]; subst hu_
      refine gj_l2i C dX2_findPlace_166 ?_
      exact gj_seti (if_pos c_5).symm hj_6
    · refine gj_iconst C (v := 0) (by decide) dX2_findPlace_144 ?_
      refine gj_goto C 167 dX2_findPlace_145 (by decide) ?_
      exact gj_seti (if_neg c_5).symm hj_6
  refine gj_if_ge C 148 dX2_findPlace_141 (by decide) (fun c_2 => ?_) (fun c_2 => ?_)
  · refine gj_ldc2 C (v := 2) w_623 dX2_findPlace_148 ?_
    refine gj_lload C dX2_findPlace_151 0 rfl ?_
    refine gj_lmul C dX2_findPlace_153 ?_
    refine gj_lload C dX2_findPlace_154 5 rfl ?_
    refine gj_ladd C dX2_findPlace_156 ?_
    refine gj_ldc2 C (v := 2) w_623 dX2_findPlace_157 ?_
    refine gj_lload C dX2_findPlace_160 5 rfl ?_
    refine gj_lmul C dX2_findPlace_162 ?_
    refine gj_callSl C w_625 w_624 (c_J9_floorDiv_f86c9 ((2 * (((((s_X0_times 0 x y z sta) * (s_X0_square 1 sta)) * (s_X0_part 0 0 spa)) + (((s_X0_times 1 x y z sta) * (s_X0_square 0 sta)) * (s_X0_part 1 0 spa))) + ((s_X0_times 2 x y z sta) * (s_X0_part 2 0 spa)))) + ((s_X0_square 0 sta) * (s_X0_square 1 sta))) (2 * ((s_X0_square 0 sta) * (s_X0_square 1 sta))) (all_nz c_2)) mc_J9_floorDiv_f86c9 ⟨Nat.le_of_ble_eq_true rfl, Nat.le_of_ble_eq_true rfl⟩ (rest := [.int (nI (3 * iN)), .ref (ad 53)]) rfl (Nat.le_of_ble_eq_true rfl) dX2_findPlace_163 (fun r u h => ?_)
    obtain ⟨hr_, h⟩ := h; rw [hr_]
    rw [h]
    refine gj_l2i C dX2_findPlace_166 ?_
    exact gj_seti (if_pos c_2).symm hj_3
  · refine gj_iconst C (v := 0) (by decide) dX2_findPlace_144 ?_
    refine gj_goto C 167 dX2_findPlace_145 (by decide) ?_
    exact gj_seti (if_neg c_2).symm hj_3
set_option maxHeartbeats 400000 in
set_option maxRecDepth 100000 in
theorem c_surest_58 {l : Launch} {D : va_G} {ca ss ad : Nat → Nat} {f : Nat → va_E} (n0 n1 tb : Nat) (le : Int32) (us tc cc tu : Int32) (ts : Nat → Int32) (vo : Nat → Int32) (hc58 : f 58 = .inr (2, [.ref (ad 59), .ref (ad 60), .ref (ad 61), .ref (ad 62), .ref (ad 63), .ref (ad 64), .ref (ad 65), .ref (ad 67), .int us, .int tc, .int cc, .int tu])) (hc59 : f 59 = .inl (ca 0, 8, .inl ts)) (hctb : f tb = .inl (ca 0, 96, .inl vo)) (hn0 : n0 ≤ 12) (hn1 : n1 ≤ 8) (htb : 12 < tb ∧ tb < 47) : gMi l D ca ss ad 108 yX2_surestPair cX2_surestPair 10 (some .int) 1 f [.ref (ad 58), .int (nI n0), .int (nI n1), .ref (ad tb), .int le] (fun r u => r = (cB2 ts us vo n0 le n1).1 ∧ u = f) := by
  refine gMi_ofK (by decide +kernel) (Nat.le_of_ble_eq_true rfl) (lv0 := [(0, .ref (ad 58)), (1, .int (nI n0)), (2, .int (nI n1)), (3, .ref (ad tb)), (4, .int le)]) rfl (fun pT eT sT mT aT below meth cT AT QT C RT => ?_)
  have C : gX pT sT mT aT meth cT AT D ca ss 10 RX2 cX2_surestPair (some .int) := C
  refine gj_iconst C (v := (-1)) (by decide) dX2_surestPair_0 ?_
  refine gj_istore C (lv' := [(5, .int (-1)), (0, .ref (ad 58)), (1, .int (nI n0)), (2, .int (nI n1)), (3, .ref (ad tb)), (4, .int le)]) dX2_surestPair_1 (by decide) rfl ?_
  refine gj_iload C dX2_surestPair_3 5 rfl ?_
  refine gj_iconst C (v := 1) (by decide) dX2_surestPair_5 ?_
  refine gj_isub C dX2_surestPair_6 ?_
  refine gj_istore C (lv' := [(6, .int (le - 1)), (5, .int (-1)), (0, .ref (ad 58)), (1, .int (nI n0)), (2, .int (nI n1)), (3, .ref (ad tb)), (4, .int le)]) dX2_surestPair_7 (by decide) rfl ?_
  refine gj_iconst C (v := 0) (by decide) dX2_surestPair_9 ?_
  refine gj_seti (y := nI 0) rfl ?_
  refine gj_istore C (lv' := [(7, .int (nI 0)), (6, .int (le - 1)), (5, .int (-1)), (0, .ref (ad 58)), (1, .int (nI n0)), (2, .int (nI n1)), (3, .ref (ad tb)), (4, .int le)]) dX2_surestPair_10 (by decide) rfl ?_
  refine gj_lvs (lv' := [(7, .int (nI 0)), (6, .int ((cB2 ts us vo n0 le 0).2)), (5, .int ((cB2 ts us vo n0 le 0).1)), (0, .ref (ad 58)), (1, .int (nI n0)), (2, .int (nI n1)), (3, .ref (ad tb)), (4, .int le)]) rfl ?_
  have loop_1 : ∀ (m0 t0 : Nat), t0 + m0 = n1 → gJ pT l eT (Rm 1) sT mT aT below meth cT AT QT D ad 108 10 (f) [(7, .int (nI t0)), (6, .int ((cB2 ts us vo n0 le t0).2)), (5, .int ((cB2 ts us vo n0 le t0).1)), (0, .ref (ad 58)), (1, .int (nI n0)), (2, .int (nI n1)), (3, .ref (ad tb)), (4, .int le)] 12 [] := by
    intro m0
    induction m0 with
    | zero =>
      intro t0 hk_t0  
      refine gj_iload C dX2_surestPair_12 0 rfl ?_
      refine gj_iload_n C 2 dX2_surestPair_14 rfl 5 rfl ?_
      refine gj_icmp_ge C 90 dX2_surestPair_15 (by decide) (fun c_3 => ?_) (fun c_3 => absurd (nI_le (by omega) (by omega)) c_3)
      refine gj_iload C dX2_surestPair_90 2 rfl ?_
      exact RT _ _ _ _ ⟨by obtain rfl : t0 = n1 := (by omega); rfl, rfl⟩ dX2_surestPair_92
    | succ m0 ih_2 =>
      intro t0 hk_t0  
      refine gj_iload C dX2_surestPair_12 0 rfl ?_
      refine gj_iload_n C 2 dX2_surestPair_14 rfl 5 rfl ?_
      refine gj_icmp_ge C 90 dX2_surestPair_15 (by decide) (fun c_4 => absurd c_4 (nI_ge (by omega) (by omega))) (fun c_4 => ?_)
      refine gj_iconst C (v := 0) (by decide) dX2_surestPair_18 ?_
      refine gj_seti (y := nI 0) rfl ?_
      refine gj_istore C (lv' := [(8, .int (nI 0)), (7, .int (nI t0)), (6, .int ((cB2 ts us vo n0 le t0).2)), (5, .int ((cB2 ts us vo n0 le t0).1)), (0, .ref (ad 58)), (1, .int (nI n0)), (2, .int (nI n1)), (3, .ref (ad tb)), (4, .int le)]) dX2_surestPair_19 (by decide) rfl ?_
      by_cases hts : ts t0 = -1
      · refine gj_lvs (lv' := [(8, .int (nI 0)), (7, .int (nI t0)), (6, .int ((cB1 us vo t0 (cB2 ts us vo n0 le t0) 0).2)), (5, .int ((cB1 us vo t0 (cB2 ts us vo n0 le t0) 0).1)), (0, .ref (ad 58)), (1, .int (nI n0)), (2, .int (nI n1)), (3, .ref (ad tb)), (4, .int le)]) rfl ?_
        have loop_5 : ∀ (m1 t1 : Nat), t1 + m1 = n0 → gJ pT l eT (Rm 1) sT mT aT below meth cT AT QT D ad 108 10 (f) [(8, .int (nI t1)), (7, .int (nI t0)), (6, .int ((cB1 us vo t0 (cB2 ts us vo n0 le t0) t1).2)), (5, .int ((cB1 us vo t0 (cB2 ts us vo n0 le t0) t1).1)), (0, .ref (ad 58)), (1, .int (nI n0)), (2, .int (nI n1)), (3, .ref (ad tb)), (4, .int le)] 21 [] := by
          intro m1
          induction m1 with
          | zero =>
            intro t1 hk_t1  
            refine gj_iload C dX2_surestPair_21 0 rfl ?_
            refine gj_iload_n C 1 dX2_surestPair_23 rfl 5 rfl ?_
            refine gj_icmp_ge C 84 dX2_surestPair_24 (by decide) (fun c_7 => ?_) (fun c_7 => absurd (nI_le (by omega) (by omega)) c_7)
            refine gj_iinc C (v := nI (t0 + 1)) (lv' := [(7, .int (nI (t0 + 1))), (8, .int (nI t1)), (6, .int ((cB1 us vo t0 (cB2 ts us vo n0 le t0) t1).2)), (5, .int ((cB1 us vo t0 (cB2 ts us vo n0 le t0) t1).1)), (0, .ref (ad 58)), (1, .int (nI n0)), (2, .int (nI n1)), (3, .ref (ad tb)), (4, .int le)]) dX2_surestPair_84 1 rfl (nI_1 _) (by decide) rfl ?_
            refine gj_goto C 12 dX2_surestPair_87 (by decide) ?_
            refine gj_lvs (lv' := [(7, .int (nI (t0 + 1))), (8, .int (nI t1)), (6, .int ((cB2 ts us vo n0 le (t0 + 1)).2)), (5, .int ((cB2 ts us vo n0 le (t0 + 1)).1)), (0, .ref (ad 58)), (1, .int (nI n0)), (2, .int (nI n1)), (3, .ref (ad tb)), (4, .int le)]) (by rw [show (cB2 ts us vo n0 le (t0 + 1)) = (cB1 us vo t0 (cB2 ts us vo n0 le t0) t1) from (if_pos hts).trans (by obtain rfl : t1 = n0 := (by omega); rfl)]) ?_
            refine gj_lv [0, 2, 3, 4, 5, 6, 7, 8] rfl ?_
            exact ih_2 (t0 + 1) (by omega)
          | succ m1 ih_6 =>
            intro t1 hk_t1  
            refine gj_iload C dX2_surestPair_21 0 rfl ?_
            refine gj_iload_n C 1 dX2_surestPair_23 rfl 5 rfl ?_
            refine gj_icmp_ge C 84 dX2_surestPair_24 (by decide) (fun c_8 => absurd c_8 (nI_ge (by omega) (by omega))) (fun c_8 => ?_)
            refine gj_aload_n C 0 dX2_surestPair_27 rfl 4 rfl ?_
            refine gj_get C 58 (by decide) hc58 inX2 rfl 0 (by decide) w_206 (v := .ref (ad 59)) rfl dX2_surestPair_28 ?_
            refine gj_iload C dX2_surestPair_31 1 rfl ?_
            refine gj_iald C 59 (by decide) hc59 (vp_in_nI (by omega) (by omega)) dX2_surestPair_33 ?_
            refine gj_seti (y := ts t0) (congrArg _ (nI_clamp (show t0 < 2 ^ 31 by omega))) ?_
            refine gj_iconst C (v := (-1)) (by decide) dX2_surestPair_34 ?_
            refine gj_icmp_ne C 84 dX2_surestPair_35 (by decide) (fun c_9 => absurd hts c_9) (fun c_9 => ?_)
            refine gj_iload C dX2_surestPair_38 1 rfl ?_
            refine gj_iload C dX2_surestPair_40 0 rfl ?_
            refine gj_callSNi C w_557 w_588 (c_X11_pairOf (nI t0) (nI t1)) mc_X11_pairOf ⟨Nat.le_of_ble_eq_true rfl, Nat.le_of_ble_eq_true rfl⟩ (rest := []) rfl (Nat.le_of_ble_eq_true rfl) dX2_surestPair_42 (fun r u h => ?_)
            obtain ⟨hr_, h⟩ := h; rw [hr_]
            rw [h]
            refine gj_seti (y := nI (12 * t0 + t1)) (pairN t0 t1) ?_
            refine gj_istore C (lv' := [(9, .int (nI (12 * t0 + t1))), (8, .int (nI t1)), (7, .int (nI t0)), (6, .int ((cB1 us vo t0 (cB2 ts us vo n0 le t0) t1).2)), (5, .int ((cB1 us vo t0 (cB2 ts us vo n0 le t0) t1).1)), (0, .ref (ad 58)), (1, .int (nI n0)), (2, .int (nI n1)), (3, .ref (ad tb)), (4, .int le)]) dX2_surestPair_45 (by decide) rfl ?_
            refine gj_aload_n C 0 dX2_surestPair_47 rfl 5 rfl ?_
            refine gj_get C 58 (by decide) hc58 inX2 rfl 8 (by decide) w_219 (v := .int us) rfl dX2_surestPair_48 ?_
            refine gj_iload C dX2_surestPair_51 1 rfl ?_
            refine gj_ishr C dX2_surestPair_53 ?_
            refine gj_iconst C (v := 1) (by decide) dX2_surestPair_54 ?_
            refine gj_iand C dX2_surestPair_55 ?_
            refine gj_if_ne C 78 dX2_surestPair_56 (by decide) (fun c_10 => ?_) (fun c_10 => ?_)
            · refine gj_iinc C (v := nI (t1 + 1)) (lv' := [(8, .int (nI (t1 + 1))), (9, .int (nI (12 * t0 + t1))), (7, .int (nI t0)), (6, .int ((cB1 us vo t0 (cB2 ts us vo n0 le t0) t1).2)), (5, .int ((cB1 us vo t0 (cB2 ts us vo n0 le t0) t1).1)), (0, .ref (ad 58)), (1, .int (nI n0)), (2, .int (nI n1)), (3, .ref (ad tb)), (4, .int le)]) dX2_surestPair_78 1 rfl (nI_1 _) (by decide) rfl ?_
              refine gj_goto C 21 dX2_surestPair_81 (by decide) ?_
              refine gj_lvs (lv' := [(8, .int (nI (t1 + 1))), (9, .int (nI (12 * t0 + t1))), (7, .int (nI t0)), (6, .int ((cB1 us vo t0 (cB2 ts us vo n0 le t0) (t1 + 1)).2)), (5, .int ((cB1 us vo t0 (cB2 ts us vo n0 le t0) (t1 + 1)).1)), (0, .ref (ad 58)), (1, .int (nI n0)), (2, .int (nI n1)), (3, .ref (ad tb)), (4, .int le)]) (by rw [show (cB1 us vo t0 (cB2 ts us vo n0 le t0) (t1 + 1)) = _ from (if_neg c_10).trans (rfl)]) ?_
              refine gj_lv [0, 2, 3, 4, 5, 6, 7, 8, 9] rfl ?_
              exact ih_6 (t1 + 1) (by omega)
            · refine gj_aload_n C 3 dX2_surestPair_59 rfl 8 rfl ?_
              refine gj_iload C dX2_surestPair_60 0 rfl ?_
              refine gj_iald C tb (by omega) hctb (vp_in_nI (by omega) (by omega)) dX2_surestPair_62 ?_
              refine gj_seti (y := vo (12 * t0 + t1)) (congrArg _ (nI_clamp (show (12 * t0 + t1) < 2 ^ 31 by omega))) ?_
              refine gj_iload C dX2_surestPair_63 3 rfl ?_
              refine gj_icmp_le C 78 dX2_surestPair_65 (by decide) (fun c_11 => ?_) (fun c_11 => ?_)
              · refine gj_iinc C (v := nI (t1 + 1)) (lv' := [(8, .int (nI (t1 + 1))), (9, .int (nI (12 * t0 + t1))), (7, .int (nI t0)), (6, .int ((cB1 us vo t0 (cB2 ts us vo n0 le t0) t1).2)), (5, .int ((cB1 us vo t0 (cB2 ts us vo n0 le t0) t1).1)), (0, .ref (ad 58)), (1, .int (nI n0)), (2, .int (nI n1)), (3, .ref (ad tb)), (4, .int le)]) dX2_surestPair_78 1 rfl (nI_1 _) (by decide) rfl ?_
                refine gj_goto C 21 dX2_surestPair_81 (by decide) ?_
                refine gj_lvs (lv' := [(8, .int (nI (t1 + 1))), (9, .int (nI (12 * t0 + t1))), (7, .int (nI t0)), (6, .int ((cB1 us vo t0 (cB2 ts us vo n0 le t0) (t1 + 1)).2)), (5, .int ((cB1 us vo t0 (cB2 ts us vo n0 le t0) (t1 + 1)).1)), (0, .ref (ad 58)), (1, .int (nI n0)), (2, .int (nI n1)), (3, .ref (ad tb)), (4, .int le)]) (by rw [show (cB1 us vo t0 (cB2 ts us vo n0 le t0) (t1 + 1)) = _ from (if_pos c_10).trans ((if_pos c_11).trans (rfl))]) ?_
                refine gj_lv [0, 2, 3, 4, 5, 6, 7, 8, 9] rfl ?_
                exact ih_6 (t1 + 1) (by omega)
              · refine gj_iload C dX2_surestPair_68 0 rfl ?_
                refine gj_istore C (lv' := [(5, .int (nI (12 * t0 + t1))), (9, .int (nI (12 * t0 + t1))), (8, .int (nI t1)), (7, .int (nI t0)), (6, .int ((cB1 us vo t0 (cB2 ts us vo n0 le t0) t1).2)), (0, .ref (ad 58)), (1, .int (nI n0)), (2, .int (nI n1)), (3, .ref (ad tb)), (4, .int le)]) dX2_surestPair_70 (by decide) rfl ?_
                refine gj_aload_n C 3 dX2_surestPair_72 rfl 8 rfl ?_
                refine gj_iload C dX2_surestPair_73 1 rfl ?_
                refine gj_iald C tb (by omega) hctb (vp_in_nI (by omega) (by omega)) dX2_surestPair_75 ?_
                refine gj_seti (y := vo (12 * t0 + t1)) (congrArg _ (nI_clamp (show (12 * t0 + t1) < 2 ^ 31 by omega))) ?_
                refine gj_istore C (lv' := [(6, .int (vo (12 * t0 + t1))), (5, .int (nI (12 * t0 + t1))), (9, .int (nI (12 * t0 + t1))), (8, .int (nI t1)), (7, .int (nI t0)), (0, .ref (ad 58)), (1, .int (nI n0)), (2, .int (nI n1)), (3, .ref (ad tb)), (4, .int le)]) dX2_surestPair_76 (by decide) rfl ?_
                refine gj_iinc C (v := nI (t1 + 1)) (lv' := [(8, .int (nI (t1 + 1))), (6, .int (vo (12 * t0 + t1))), (5, .int (nI (12 * t0 + t1))), (9, .int (nI (12 * t0 + t1))), (7, .int (nI t0)), (0, .ref (ad 58)), (1, .int (nI n0)), (2, .int (nI n1)), (3, .ref (ad tb)), (4, .int le)]) dX2_surestPair_78 3 rfl (nI_1 _) (by decide) rfl ?_
                refine gj_goto C 21 dX2_surestPair_81 (by decide) ?_
                refine gj_lvs (lv' := [(8, .int (nI (t1 + 1))), (6, .int ((cB1 us vo t0 (cB2 ts us vo n0 le t0) (t1 + 1)).2)), (5, .int ((cB1 us vo t0 (cB2 ts us vo n0 le t0) (t1 + 1)).1)), (9, .int (nI (12 * t0 + t1))), (7, .int (nI t0)), (0, .ref (ad 58)), (1, .int (nI n0)), (2, .int (nI n1)), (3, .ref (ad tb)), (4, .int le)]) (by rw [show (cB1 us vo t0 (cB2 ts us vo n0 le t0) (t1 + 1)) = _ from (if_pos c_10).trans ((if_neg c_11).trans (rfl))]) ?_
                refine gj_lv [0, 4, 1, 2, 5, 6, 7, 8, 9] rfl ?_
                exact ih_6 (t1 + 1) (by omega)
        refine gj_lv [0, 1, 2, 3, 4, 5, 6, 7, 8] rfl ?_
        exact loop_5 (n0 - 0) 0 (by omega)
      · refine gj_iload C dX2_surestPair_21 0 rfl ?_
        refine gj_iload_n C 1 dX2_surestPair_23 rfl 5 rfl ?_
        refine gj_icmp_ge C 84 dX2_surestPair_24 (by decide) (fun c_12 => ?_) (fun c_12 => ?_)
        · refine gj_iinc C (v := nI (t0 + 1)) (lv' := [(7, .int (nI (t0 + 1))), (8, .int (nI 0)), (6, .int ((cB2 ts us vo n0 le t0).2)), (5, .int ((cB2 ts us vo n0 le t0).1)), (0, .ref (ad 58)), (1, .int (nI n0)), (2, .int (nI n1)), (3, .ref (ad tb)), (4, .int le)]) dX2_surestPair_84 1 rfl (nI_1 _) (by decide) rfl ?_
          refine gj_goto C 12 dX2_surestPair_87 (by decide) ?_
          refine gj_lvs (lv' := [(7, .int (nI (t0 + 1))), (8, .int (nI 0)), (6, .int ((cB2 ts us vo n0 le (t0 + 1)).2)), (5, .int ((cB2 ts us vo n0 le (t0 + 1)).1)), (0, .ref (ad 58)), (1, .int (nI n0)), (2, .int (nI n1)), (3, .ref (ad tb)), (4, .int le)]) (by rw [show (cB2 ts us vo n0 le (t0 + 1)) = (cB2 ts us vo n0 le t0) from if_neg hts]) ?_
          refine gj_lv [0, 2, 3, 4, 5, 6, 7, 8] rfl ?_
          exact ih_2 (t0 + 1) (by omega)
        · refine gj_aload_n C 0 dX2_surestPair_27 rfl 4 rfl ?_
          refine gj_get C 58 (by decide) hc58 inX2 rfl 0 (by decide) w_206 (v := .ref (ad 59)) rfl dX2_surestPair_28 ?_
          refine gj_iload C dX2_surestPair_31 1 rfl ?_
          refine gj_iald C 59 (by decide) hc59 (vp_in_nI (by omega) (by omega)) dX2_surestPair_33 ?_
          refine gj_seti (y := ts t0) (congrArg _ (nI_clamp (show t0 < 2 ^ 31 by omega))) ?_
          refine gj_iconst C (v := (-1)) (by decide) dX2_surestPair_34 ?_
          refine gj_icmp_ne C 84 dX2_surestPair_35 (by decide) (fun c_13 => ?_) (fun c_13 => absurd c_13 hts)
          refine gj_iinc C (v := nI (t0 + 1)) (lv' := [(7, .int (nI (t0 + 1))), (8, .int (nI 0)), (6, .int ((cB2 ts us vo n0 le t0).2)), (5, .int ((cB2 ts us vo n0 le t0).1)), (0, .ref (ad 58)), (1, .int (nI n0)), (2, .int (nI n1)), (3, .ref (ad tb)), (4, .int le)]) dX2_surestPair_84 1 rfl (nI_1 _) (by decide) rfl ?_
          refine gj_goto C 12 dX2_surestPair_87 (by decide) ?_
          refine gj_lvs (lv' := [(7, .int (nI (t0 + 1))), (8, .int (nI 0)), (6, .int ((cB2 ts us vo n0 le (t0 + 1)).2)), (5, .int ((cB2 ts us vo n0 le (t0 + 1)).1)), (0, .ref (ad 58)), (1, .int (nI n0)), (2, .int (nI n1)), (3, .ref (ad tb)), (4, .int le)]) (by rw [show (cB2 ts us vo n0 le (t0 + 1)) = (cB2 ts us vo n0 le t0) from if_neg hts]) ?_
          refine gj_lv [0, 2, 3, 4, 5, 6, 7, 8] rfl ?_
          exact ih_2 (t0 + 1) (by omega)
  refine gj_lv [0, 1, 2, 3, 4, 5, 6, 7] rfl ?_
  exact loop_1 (n1 - 0) 0 (by omega)
set_option maxHeartbeats 400000 in
set_option maxRecDepth 100000 in
theorem c_takePairs_58 {l : Launch} {D : va_G} {ca ss ad : Nat → Nat} {f : Nat → va_E} (n0 n1 tb : Nat) (le : Int32) (us tc cc tu : Int32) (ts : Nat → Int32) (tr : Nat → Int32) (tp : Nat → Int32) (vo : Nat → Int32) (hc58 : f 58 = .inr (2, [.ref (ad 59), .ref (ad 60), .ref (ad 61), .ref (ad 62), .ref (ad 63), .ref (ad 64), .ref (ad 65), .ref (ad 67), .int us, .int tc, .int cc, .int tu])) (hc59 : f 59 = .inl (ca 0, 8, .inl ts)) (hc60 : f 60 = .inl (ca 0, 8, .inl tr)) (hc61 : f 61 = .inl (ca 0, 8, .inl tp)) (hctb : f tb = .inl (ca 0, 96, .inl vo)) (hn0 : n0 ≤ 12) (hn1 : n1 ≤ 8) (htb : 12 < tb ∧ tb < 47) : gMv l D ca ss ad 108 yX2_takePairs cX2_takePairs 9 none 2 f [.ref (ad 58), .int (nI n0), .int (nI n1), .ref (ad tb), .int le] (fun u => u = va_up (va_up (va_up (va_up (f) 59 (.inl (ca 0, 8, .inl ((cTake vo le n0 n1 tp).1)))) 60 (.inl (ca 0, 8, .inl ((cTake vo le n0 n1 tp).2.1)))) 58 (.inr (2, [.ref (ad 59), .ref (ad 60), .ref (ad 61), .ref (ad 62), .ref (ad 63), .ref (ad 64), .ref (ad 65), .ref (ad 67), .int ((cTake vo le n0 n1 tp).2.2.2.1), .int ((cTake vo le n0 n1 tp).2.2.2.2), .int cc, .int tu]))) 61 (.inl (ca 0, 8, .inl ((cTake vo le n0 n1 tp).2.2.1)))) := by
  refine gMv_ofK (by decide +kernel) (Nat.le_of_ble_eq_true rfl) (lv0 := [(0, .ref (ad 58)), (1, .int (nI n0)), (2, .int (nI n1)), (3, .ref (ad tb)), (4, .int le)]) rfl (fun pT eT sT mT aT below meth cT AT QT C RT => ?_)
  have C : gX pT sT mT aT meth cT AT D ca ss 9 RX2 cX2_takePairs none := C
  refine gj_aload_n C 0 dX2_takePairs_0 rfl 0 rfl ?_
  refine gj_get C 58 (by decide) hc58 inX2 rfl 0 (by decide) w_206 (v := .ref (ad 59)) rfl dX2_takePairs_1 ?_
  refine gj_iconst C (v := (-1)) (by decide) dX2_takePairs_4 ?_
  refine gj_callSv C w_516 w_583 (c_J7_fill_53178 59 (-1 : Int32) 8 ts hc59 (by decide) (by decide)) mc_J7_fill_53178 ⟨Nat.le_of_ble_eq_true rfl, Nat.le_of_ble_eq_true rfl⟩ (rest := []) rfl (Nat.le_of_ble_eq_true rfl) dX2_takePairs_5 (fun u h => ?_)
  subst h
  refine gj_aload_n C 0 dX2_takePairs_8 rfl 0 rfl ?_
  refine gj_get C 58 (by decide) (up_nx (by decide) (hc58)) inX2 rfl 1 (by decide) w_208 (v := .ref (ad 60)) rfl dX2_takePairs_9 ?_
  refine gj_iconst C (v := (-1)) (by decide) dX2_takePairs_12 ?_
  refine gj_callSv C w_516 w_583 (c_J7_fill_53178 60 (-1 : Int32) 8 tr (up_nx (by decide) (hc60)) (by decide) (by decide)) mc_J7_fill_53178 ⟨Nat.le_of_ble_eq_true rfl, Nat.le_of_ble_eq_true rfl⟩ (rest := []) rfl (Nat.le_of_ble_eq_true rfl) dX2_takePairs_13 (fun u h => ?_)
  subst h
  refine gj_aload_n C 0 dX2_takePairs_16 rfl 0 rfl ?_
  refine gj_iconst C (v := 0) (by decide) dX2_takePairs_17 ?_
  refine gj_putS C 58 (by decide) (up_nx (by decide) (up_nx (by decide) (hc58))) inX2 rfl 8 (by decide) tyX2 tyX2_ok nmX2 w_219 rfl (v := .int 0) (fs' := [.ref (ad 59), .ref (ad 60), .ref (ad 61), .ref (ad 62), .ref (ad 63), .ref (ad 64), .ref (ad 65), .ref (ad 67), .int 0, .int tc, .int cc, .int tu]) rfl rfl (Nat.le_of_ble_eq_true rfl) rfl dX2_takePairs_18 ?_
  refine gj_aload_n C 0 dX2_takePairs_21 rfl 0 rfl ?_
  refine gj_iconst C (v := 0) (by decide) dX2_takePairs_22 ?_
  refine gj_putS C 58 (by decide) (va_up_self _ _ _) inX2 rfl 9 (by decide) tyX2 tyX2_ok nmX2 w_220 rfl (v := .int 0) (fs' := [.ref (ad 59), .ref (ad 60), .ref (ad 61), .ref (ad 62), .ref (ad 63), .ref (ad 64), .ref (ad 65), .ref (ad 67), .int 0, .int 0, .int cc, .int tu]) rfl rfl (Nat.le_of_ble_eq_true rfl) rfl dX2_takePairs_23 ?_
  refine gj_setf (bx_uu _ _ _ _) ?_
  refine gj_iconst C (v := 0) (by decide) dX2_takePairs_26 ?_
  refine gj_seti (y := nI 0) rfl ?_
  refine gj_istore C (lv' := [(5, .int (nI 0)), (0, .ref (ad 58)), (1, .int (nI n0)), (2, .int (nI n1)), (3, .ref (ad tb)), (4, .int le)]) dX2_takePairs_27 (by decide) rfl ?_
  refine gj_setf (up_id (up_nx (by decide) (up_nx (by decide) (up_nx (by decide) (hc61))))).symm ?_
  refine gj_setf (g := va_up (va_up (va_up (va_up f 59 (.inl (ca 0, 8, .inl ((cTn vo le n0 n1 (kI (-1), kI (-1), tp, 0, 0) 0).1)))) 60 (.inl (ca 0, 8, .inl ((cTn vo le n0 n1 (kI (-1), kI (-1), tp, 0, 0) 0).2.1)))) 58 (.inr (2, [.ref (ad 59), .ref (ad 60), .ref (ad 61), .ref (ad 62), .ref (ad 63), .ref (ad 64), .ref (ad 65), .ref (ad 67), .int ((cTn vo le n0 n1 (kI (-1), kI (-1), tp, 0, 0) 0).2.2.2.1), .int ((cTn vo le n0 n1 (kI (-1), kI (-1), tp, 0, 0) 0).2.2.2.2), .int cc, .int tu]))) 61 (.inl (ca 0, 8, .inl ((cTn vo le n0 n1 (kI (-1), kI (-1), tp, 0, 0) 0).2.2.1)))) rfl ?_
  have loop_1 : ∀ (m0 t0 : Nat), t0 + m0 = n1 → gJ pT l eT (Rm 2) sT mT aT below meth cT AT QT D ad 108 9 (va_up (va_up (va_up (va_up f 59 (.inl (ca 0, 8, .inl ((cTn vo le n0 n1 (kI (-1), kI (-1), tp, 0, 0) t0).1)))) 60 (.inl (ca 0, 8, .inl ((cTn vo le n0 n1 (kI (-1), kI (-1), tp, 0, 0) t0).2.1)))) 58 (.inr (2, [.ref (ad 59), .ref (ad 60), .ref (ad 61), .ref (ad 62), .ref (ad 63), .ref (ad 64), .ref (ad 65), .ref (ad 67), .int ((cTn vo le n0 n1 (kI (-1), kI (-1), tp, 0, 0) t0).2.2.2.1), .int ((cTn vo le n0 n1 (kI (-1), kI (-1), tp, 0, 0) t0).2.2.2.2), .int cc, .int tu]))) 61 (.inl (ca 0, 8, .inl ((cTn vo le n0 n1 (kI (-1), kI (-1), tp, 0, 0) t0).2.2.1)))) [(5, .int (nI t0)), (0, .ref (ad 58)), (1, .int (nI n0)), (2, .int (nI n1)), (3, .ref (ad tb)), (4, .int le)] 29 [] := by
    intro m0
    induction m0 with
    | zero =>
      intro t0 hk_t0  
      refine gj_iload C dX2_takePairs_29 0 rfl ?_
      refine gj_iload_n C 2 dX2_takePairs_31 rfl 3 rfl ?_
      refine gj_icmp_ge C 125 dX2_takePairs_32 (by decide) (fun c_3 => ?_) (fun c_3 => absurd (nI_le (by omega) (by omega)) c_3)
      exact RT _ _ _ (by obtain rfl : t0 = n1 := (by omega); rfl) dX2_takePairs_125
    | succ m0 ih_2 =>
      intro t0 hk_t0  
      refine gj_iload C dX2_takePairs_29 0 rfl ?_
      refine gj_iload_n C 2 dX2_takePairs_31 rfl 3 rfl ?_
      refine gj_icmp_ge C 125 dX2_takePairs_32 (by decide) (fun c_4 => absurd c_4 (nI_ge (by omega) (by omega))) (fun c_4 => ?_)
      refine gj_aload_n C 0 dX2_takePairs_35 rfl 1 rfl ?_
      refine gj_iload_n C 1 dX2_takePairs_36 rfl 2 rfl ?_
      refine gj_iload_n C 2 dX2_takePairs_37 rfl 3 rfl ?_
      refine gj_aload_n C 3 dX2_takePairs_38 rfl 4 rfl ?_
      refine gj_iload C dX2_takePairs_39 5 rfl ?_
      refine gj_callVi C mi_X2_surestPair w_584 58 (by decide) (up_nx (by decide) (va_up_self _ _ _)) rfl (c_surest_58 n0 n1 tb le ((cTn vo le n0 n1 (kI (-1), kI (-1), tp, 0, 0) t0).2.2.2.1) ((cTn vo le n0 n1 (kI (-1), kI (-1), tp, 0, 0) t0).2.2.2.2) cc tu ((cTn vo le n0 n1 (kI (-1), kI (-1), tp, 0, 0) t0).1) vo (up_nx (by decide) (va_up_self _ _ _)) (up_nx (by decide) (up_nx (by decide) (up_nx (by decide) (va_up_self _ _ _)))) (up_nx (by omega) (up_nx (by omega) (up_nx (by omega) (up_nx (by omega) (hctb))))) hn0 hn1 htb) mc_X2_surestPair ⟨Nat.le_of_ble_eq_true rfl, Nat.le_of_ble_eq_true rfl⟩ (rest := []) rfl (Nat.le_of_ble_eq_true rfl) dX2_takePairs_41 (fun r u h => ?_)
      obtain ⟨hr_, hu_⟩ := h; rw [hr_]; subst hu_
      refine gj_seti (y := (cTb vo le n0 n1 (cTn vo le n0 n1 (kI (-1), kI (-1), tp, 0, 0) t0))) rfl ?_
      refine gj_istore C (lv' := [(6, .int (cTb vo le n0 n1 (cTn vo le n0 n1 (kI (-1), kI (-1), tp, 0, 0) t0))), (5, .int (nI t0)), (0, .ref (ad 58)), (1, .int (nI n0)), (2, .int (nI n1)), (3, .ref (ad tb)), (4, .int le)]) dX2_takePairs_44 (by decide) rfl ?_
      refine gj_iload C dX2_takePairs_46 0 rfl ?_
      refine gj_iconst C (v := (-1)) (by decide) dX2_takePairs_48 ?_
      refine gj_icmp_ne C 55 dX2_takePairs_49 (by decide) (fun c_5 => ?_) (fun c_5 => ?_)
      · obtain ⟨bN, hbN, eb⟩ := cB2_n hn0 hn1 c_5
        refine gj_iload C dX2_takePairs_55 0 rfl ?_
        refine gj_bipush C (v := 12) (by decide) dX2_takePairs_57 ?_
        refine gj_idiv C (by decide) dX2_takePairs_59 ?_
        refine gj_istore C (lv' := [(7, .int ((cTb vo le n0 n1 (cTn vo le n0 n1 (kI (-1), kI (-1), tp, 0, 0) t0)) / 12)), (6, .int (cTb vo le n0 n1 (cTn vo le n0 n1 (kI (-1), kI (-1), tp, 0, 0) t0))), (5, .int (nI t0)), (0, .ref (ad 58)), (1, .int (nI n0)), (2, .int (nI n1)), (3, .ref (ad tb)), (4, .int le)]) dX2_takePairs_60 (by decide) rfl ?_
        refine gj_iload C dX2_takePairs_62 1 rfl ?_
        refine gj_bipush C (v := 12) (by decide) dX2_takePairs_64 ?_
        refine gj_irem C (by decide) dX2_takePairs_66 ?_
        refine gj_istore C (lv' := [(8, .int ((cTb vo le n0 n1 (cTn vo le n0 n1 (kI (-1), kI (-1), tp, 0, 0) t0)) - (cTb vo le n0 n1 (cTn vo le n0 n1 (kI (-1), kI (-1), tp, 0, 0) t0)) / 12 * 12)), (7, .int ((cTb vo le n0 n1 (cTn vo le n0 n1 (kI (-1), kI (-1), tp, 0, 0) t0)) / 12)), (6, .int (cTb vo le n0 n1 (cTn vo le n0 n1 (kI (-1), kI (-1), tp, 0, 0) t0))), (5, .int (nI t0)), (0, .ref (ad 58)), (1, .int (nI n0)), (2, .int (nI n1)), (3, .ref (ad tb)), (4, .int le)]) dX2_takePairs_67 (by decide) rfl ?_
        refine gj_aload_n C 0 dX2_takePairs_69 rfl 4 rfl ?_
        refine gj_get C 58 (by decide) (up_nx (by decide) (va_up_self _ _ _)) inX2 rfl 0 (by decide) w_206 (v := .ref (ad 59)) rfl dX2_takePairs_70 ?_
        refine gj_iload C dX2_takePairs_73 1 rfl ?_
        refine gj_iload C dX2_takePairs_75 0 rfl ?_
        refine gj_iast C 59 (by decide) (up_nx (by decide) (up_nx (by decide) (up_nx (by decide) (va_up_self _ _ _)))) (c_dv eb hbN) dX2_takePairs_77 ?_
        refine gj_setf ((up_comm (by decide)).trans (up_un ((up_comm (by decide)).trans (up_un ((up_comm (by decide)).trans (up_un (bx_uu _ _ _ _))))))) ?_
        refine gj_aload_n C 0 dX2_takePairs_78 rfl 4 rfl ?_
        refine gj_get C 58 (by decide) (up_nx (by decide) (va_up_self _ _ _)) inX2 rfl 1 (by decide) w_208 (v := .ref (ad 60)) rfl dX2_takePairs_79 ?_
        refine gj_iload C dX2_takePairs_82 1 rfl ?_
        refine gj_iload C dX2_takePairs_84 3 rfl ?_
        refine gj_iast C 60 (by decide) (up_nx (by decide) (up_nx (by decide) (va_up_self _ _ _))) (c_dv eb hbN) dX2_takePairs_86 ?_
        refine gj_setf ((up_comm (by decide)).trans (up_un ((up_comm (by decide)).trans (up_un (bx_uu _ _ _ _))))) ?_
        refine gj_aload_n C 0 dX2_takePairs_87 rfl 4 rfl ?_
        refine gj_get C 58 (by decide) (up_nx (by decide) (va_up_self _ _ _)) inX2 rfl 2 (by decide) w_210 (v := .ref (ad 61)) rfl dX2_takePairs_88 ?_
        refine gj_iload C dX2_takePairs_91 3 rfl ?_
        refine gj_iload C dX2_takePairs_93 1 rfl ?_
        refine gj_iast C 61 (by decide) (va_up_self _ _ _) (vp_in_nI (by omega) (by omega)) dX2_takePairs_95 ?_
        refine gj_setf (bx_uu _ _ _ _) ?_
        refine gj_setf (g := va_up (va_up (va_up (va_up f 59 (.inl (ca 0, 8, .inl (upd ((cTn vo le n0 n1 (kI (-1), kI (-1), tp, 0, 0) t0).1) ((cTb vo le n0 n1 (cTn vo le n0 n1 (kI (-1), kI (-1), tp, 0, 0) t0)) / 12).toNatClampNeg ((cTb vo le n0 n1 (cTn vo le n0 n1 (kI (-1), kI (-1), tp, 0, 0) t0)) - (cTb vo le n0 n1 (cTn vo le n0 n1 (kI (-1), kI (-1), tp, 0, 0) t0)) / 12 * 12))))) 60 (.inl (ca 0, 8, .inl (upd ((cTn vo le n0 n1 (kI (-1), kI (-1), tp, 0, 0) t0).2.1) ((cTb vo le n0 n1 (cTn vo le n0 n1 (kI (-1), kI (-1), tp, 0, 0) t0)) / 12).toNatClampNeg (nI t0))))) 58 (.inr (2, [.ref (ad 59), .ref (ad 60), .ref (ad 61), .ref (ad 62), .ref (ad 63), .ref (ad 64), .ref (ad 65), .ref (ad 67), .int ((cTn vo le n0 n1 (kI (-1), kI (-1), tp, 0, 0) t0).2.2.2.1), .int ((cTn vo le n0 n1 (kI (-1), kI (-1), tp, 0, 0) t0).2.2.2.2), .int cc, .int tu]))) 61 (.inl (ca 0, 8, .inl (upd ((cTn vo le n0 n1 (kI (-1), kI (-1), tp, 0, 0) t0).2.2.1) t0 ((cTb vo le n0 n1 (cTn vo le n0 n1 (kI (-1), kI (-1), tp, 0, 0) t0)) / 12))))) (by rw [nI_clamp (show t0 < 2 ^ 31 by omega)]) ?_
        refine gj_aload_n C 0 dX2_takePairs_96 rfl 4 rfl ?_
        refine gj_dup C rfl dX2_takePairs_97 ?_
        refine gj_get C 58 (by decide) (up_nx (by decide) (va_up_self _ _ _)) inX2 rfl 8 (by decide) w_219 (v := .int ((cTn vo le n0 n1 (kI (-1), kI (-1), tp, 0, 0) t0).2.2.2.1)) rfl dX2_takePairs_98 ?_
        refine gj_iconst C (v := 1) (by decide) dX2_takePairs_101 ?_
        refine gj_iload C dX2_takePairs_102 0 rfl ?_
        refine gj_ishl C dX2_takePairs_104 ?_
        refine gj_ior C dX2_takePairs_105 ?_
        refine gj_putS C 58 (by decide) (up_nx (by decide) (va_up_self _ _ _)) inX2 rfl 8 (by decide) tyX2 tyX2_ok nmX2 w_219 rfl (v := .int (((cTn vo le n0 n1 (kI (-1), kI (-1), tp, 0, 0) t0).2.2.2.1) ||| (1 <<< (((cTb vo le n0 n1 (cTn vo le n0 n1 (kI (-1), kI (-1), tp, 0, 0) t0)) - (cTb vo le n0 n1 (cTn vo le n0 n1 (kI (-1), kI (-1), tp, 0, 0) t0)) / 12 * 12) &&& 31)))) (fs' := [.ref (ad 59), .ref (ad 60), .ref (ad 61), .ref (ad 62), .ref (ad 63), .ref (ad 64), .ref (ad 65), .ref (ad 67), .int (((cTn vo le n0 n1 (kI (-1), kI (-1), tp, 0, 0) t0).2.2.2.1) ||| (1 <<< (((cTb vo le n0 n1 (cTn vo le n0 n1 (kI (-1), kI (-1), tp, 0, 0) t0)) - (cTb vo le n0 n1 (cTn vo le n0 n1 (kI (-1), kI (-1), tp, 0, 0) t0)) / 12 * 12) &&& 31))), .int ((cTn vo le n0 n1 (kI (-1), kI (-1), tp, 0, 0) t0).2.2.2.2), .int cc, .int tu]) rfl rfl (Nat.le_of_ble_eq_true rfl) rfl dX2_takePairs_106 ?_
        refine gj_setf ((up_comm (by decide)).trans (up_un (bx_uu _ _ _ _))) ?_
        refine gj_aload_n C 0 dX2_takePairs_109 rfl 4 rfl ?_
        refine gj_dup C rfl dX2_takePairs_110 ?_
        refine gj_get C 58 (by decide) (up_nx (by decide) (va_up_self _ _ _)) inX2 rfl 9 (by decide) w_220 (v := .int ((cTn vo le n0 n1 (kI (-1), kI (-1), tp, 0, 0) t0).2.2.2.2)) rfl dX2_takePairs_111 ?_
        refine gj_iconst C (v := 1) (by decide) dX2_takePairs_114 ?_
        refine gj_iadd C dX2_takePairs_115 ?_
        refine gj_putS C 58 (by decide) (up_nx (by decide) (va_up_self _ _ _)) inX2 rfl 9 (by decide) tyX2 tyX2_ok nmX2 w_220 rfl (v := .int (((cTn vo le n0 n1 (kI (-1), kI (-1), tp, 0, 0) t0).2.2.2.2) + 1)) (fs' := [.ref (ad 59), .ref (ad 60), .ref (ad 61), .ref (ad 62), .ref (ad 63), .ref (ad 64), .ref (ad 65), .ref (ad 67), .int (((cTn vo le n0 n1 (kI (-1), kI (-1), tp, 0, 0) t0).2.2.2.1) ||| (1 <<< (((cTb vo le n0 n1 (cTn vo le n0 n1 (kI (-1), kI (-1), tp, 0, 0) t0)) - (cTb vo le n0 n1 (cTn vo le n0 n1 (kI (-1), kI (-1), tp, 0, 0) t0)) / 12 * 12) &&& 31))), .int (((cTn vo le n0 n1 (kI (-1), kI (-1), tp, 0, 0) t0).2.2.2.2) + 1), .int cc, .int tu]) rfl rfl (Nat.le_of_ble_eq_true rfl) rfl dX2_takePairs_116 ?_
        refine gj_setf ((up_comm (by decide)).trans (up_un (bx_uu _ _ _ _))) ?_
        refine gj_iinc C (v := nI (t0 + 1)) (lv' := [(5, .int (nI (t0 + 1))), (8, .int ((cTb vo le n0 n1 (cTn vo le n0 n1 (kI (-1), kI (-1), tp, 0, 0) t0)) - (cTb vo le n0 n1 (cTn vo le n0 n1 (kI (-1), kI (-1), tp, 0, 0) t0)) / 12 * 12)), (7, .int ((cTb vo le n0 n1 (cTn vo le n0 n1 (kI (-1), kI (-1), tp, 0, 0) t0)) / 12)), (6, .int (cTb vo le n0 n1 (cTn vo le n0 n1 (kI (-1), kI (-1), tp, 0, 0) t0))), (0, .ref (ad 58)), (1, .int (nI n0)), (2, .int (nI n1)), (3, .ref (ad tb)), (4, .int le)]) dX2_takePairs_119 3 rfl (nI_1 _) (by decide) rfl ?_
        refine gj_goto C 29 dX2_takePairs_122 (by decide) ?_
        refine gj_setf (g := va_up (va_up (va_up (va_up f 59 (.inl (ca 0, 8, .inl ((cTn vo le n0 n1 (kI (-1), kI (-1), tp, 0, 0) (t0 + 1)).1)))) 60 (.inl (ca 0, 8, .inl ((cTn vo le n0 n1 (kI (-1), kI (-1), tp, 0, 0) (t0 + 1)).2.1)))) 58 (.inr (2, [.ref (ad 59), .ref (ad 60), .ref (ad 61), .ref (ad 62), .ref (ad 63), .ref (ad 64), .ref (ad 65), .ref (ad 67), .int ((cTn vo le n0 n1 (kI (-1), kI (-1), tp, 0, 0) (t0 + 1)).2.2.2.1), .int ((cTn vo le n0 n1 (kI (-1), kI (-1), tp, 0, 0) (t0 + 1)).2.2.2.2), .int cc, .int tu]))) 61 (.inl (ca 0, 8, .inl ((cTn vo le n0 n1 (kI (-1), kI (-1), tp, 0, 0) (t0 + 1)).2.2.1)))) (by rw [show (cTn vo le n0 n1 (kI (-1), kI (-1), tp, 0, 0) (t0 + 1)) = _ from if_neg c_5]) ?_
        refine gj_lv [0, 4, 5, 6, 7, 8] rfl ?_
        exact ih_2 (t0 + 1) (by omega)
      · refine gj_goto C 125 dX2_takePairs_52 (by decide) ?_
        exact RT _ _ _ (by unfold cTake; rw [cTn_end (by omega) c_5]) dX2_takePairs_125
  refine gj_lv [0, 1, 2, 3, 4, 5] rfl ?_
  exact loop_1 (n1 - 0) 0 (by omega)
set_option maxHeartbeats 400000 in
set_option maxRecDepth 100000 in
theorem c_findPlace_58 {l : Launch} {D : va_G} {ca ss ad : Nat → Nat} {f : Nat → va_E} (iN : Nat) (x y z : Int32) (us tc cc tu : Int32) (pl : Nat → Int32) (sta : Nat → Int64) (spa : Nat → Int64) (hc58 : f 58 = .inr (2, [.ref (ad 59), .ref (ad 60), .ref (ad 61), .ref (ad 62), .ref (ad 63), .ref (ad 64), .ref (ad 65), .ref (ad 67), .int us, .int tc, .int cc, .int tu])) (hc64 : f 64 = .inl (ca 0, 36, .inl pl)) (hc66 : f 66 = .inl (ca 1, 12, .inr (.inl sta))) (hc68 : f 68 = .inl (ca 1, 12, .inr (.inl spa))) (hc65 : f 65 = .inr (0, [.ref (ad 66)])) (hc67 : f 67 = .inr (0, [.ref (ad 68)])) (hi : iN < 12) : gMv l D ca ss ad 108 yX2_findPlace cX2_findPlace 20 none 1 f [.ref (ad 58), .int (nI iN), .int x, .int y, .int z] (fun u => u = va_up f 64 (.inl (ca 0, 36, .inl (w3 pl iN (cPv sta spa x y z 0) (cPv sta spa x y z 1) (cPv sta spa x y z 2))))) := by
  refine gMv_ofK (by decide +kernel) (Nat.le_of_ble_eq_true rfl) (lv0 := [(0, .ref (ad 58)), (1, .int (nI iN)), (2, .int x), (3, .int y), (4, .int z)]) rfl (fun pT eT sT mT aT below meth cT AT QT C RT => ?_)
  have C : gX pT sT mT aT meth cT AT D ca ss 20 RX2 cX2_findPlace none := C
  refine gj_aload_n C 0 dX2_findPlace_0 rfl 0 rfl ?_
  refine gj_get C 58 (by decide) hc58 inX2 rfl 6 (by decide) w_217 (v := .ref (ad 65)) rfl dX2_findPlace_1 ?_
  refine gj_iconst C (v := 0) (by decide) dX2_findPlace_4 ?_
  refine gj_callVl C mi_X0_square w_611 65 (by decide) hc65 rfl (c_X0_square 65 66 0 sta hc65 hc66 (by decide) (by decide) (by decide) (by omega)) mc_X0_square ⟨Nat.le_of_ble_eq_true rfl, Nat.le_of_ble_eq_true rfl⟩ (rest := []) rfl (Nat.le_of_ble_eq_true rfl) dX2_findPlace_5 (fun r u h => ?_)
  obtain ⟨hr_, h⟩ := h; rw [hr_]
  rw [h]
  refine gj_lstore C (lv' := [(5, .long (s_X0_square 0 sta)), (0, .ref (ad 58)), (1, .int (nI iN)), (2, .int x), (3, .int y), (4, .int z)]) dX2_findPlace_8 (by decide) rfl ?_
  refine gj_aload_n C 0 dX2_findPlace_10 rfl 1 rfl ?_
  refine gj_get C 58 (by decide) hc58 inX2 rfl 6 (by decide) w_217 (v := .ref (ad 65)) rfl dX2_findPlace_11 ?_
  refine gj_iconst C (v := 1) (by decide) dX2_findPlace_14 ?_
  refine gj_callVl C mi_X0_square w_611 65 (by decide) hc65 rfl (c_X0_square 65 66 1 sta hc65 hc66 (by decide) (by decide) (by decide) (by omega)) mc_X0_square ⟨Nat.le_of_ble_eq_true rfl, Nat.le_of_ble_eq_true rfl⟩ (rest := []) rfl (Nat.le_of_ble_eq_true rfl) dX2_findPlace_15 (fun r u h => ?_)
  obtain ⟨hr_, h⟩ := h; rw [hr_]
  rw [h]
  refine gj_lstore C (lv' := [(7, .long (s_X0_square 1 sta)), (5, .long (s_X0_square 0 sta)), (0, .ref (ad 58)), (1, .int (nI iN)), (2, .int x), (3, .int y), (4, .int z)]) dX2_findPlace_18 (by decide) rfl ?_
  refine gj_lload C dX2_findPlace_20 1 rfl ?_
  refine gj_lload C dX2_findPlace_22 0 rfl ?_
  refine gj_lmul C dX2_findPlace_24 ?_
  refine gj_lstore C (lv' := [(9, .long ((s_X0_square 0 sta) * (s_X0_square 1 sta))), (7, .long (s_X0_square 1 sta)), (5, .long (s_X0_square 0 sta)), (0, .ref (ad 58)), (1, .int (nI iN)), (2, .int x), (3, .int y), (4, .int z)]) dX2_findPlace_25 (by decide) rfl ?_
  refine gj_aload_n C 0 dX2_findPlace_27 rfl 3 rfl ?_
  refine gj_get C 58 (by decide) hc58 inX2 rfl 6 (by decide) w_217 (v := .ref (ad 65)) rfl dX2_findPlace_28 ?_
  refine gj_iconst C (v := 0) (by decide) dX2_findPlace_31 ?_
  refine gj_iload_n C 2 dX2_findPlace_32 rfl 5 rfl ?_
  refine gj_iload_n C 3 dX2_findPlace_33 rfl 6 rfl ?_
  refine gj_iload C dX2_findPlace_34 7 rfl ?_
  refine gj_callVl C mi_X0_times w_615 65 (by decide) hc65 rfl (c_X0_times 65 66 0 x y z sta hc65 hc66 (by decide) (by decide) (by decide) (by omega)) mc_X0_times ⟨Nat.le_of_ble_eq_true rfl, Nat.le_of_ble_eq_true rfl⟩ (rest := []) rfl (Nat.le_of_ble_eq_true rfl) dX2_findPlace_36 (fun r u h => ?_)
  obtain ⟨hr_, h⟩ := h; rw [hr_]
  rw [h]
  refine gj_lload C dX2_findPlace_39 1 rfl ?_
  refine gj_lmul C dX2_findPlace_41 ?_
  refine gj_lstore C (lv' := [(11, .long ((s_X0_times 0 x y z sta) * (s_X0_square 1 sta))), (9, .long ((s_X0_square 0 sta) * (s_X0_square 1 sta))), (7, .long (s_X0_square 1 sta)), (5, .long (s_X0_square 0 sta)), (0, .ref (ad 58)), (1, .int (nI iN)), (2, .int x), (3, .int y), (4, .int z)]) dX2_findPlace_42 (by decide) rfl ?_
  refine gj_aload_n C 0 dX2_findPlace_44 rfl 4 rfl ?_
  refine gj_get C 58 (by decide) hc58 inX2 rfl 6 (by decide) w_217 (v := .ref (ad 65)) rfl dX2_findPlace_45 ?_
  refine gj_iconst C (v := 1) (by decide) dX2_findPlace_48 ?_
  refine gj_iload_n C 2 dX2_findPlace_49 rfl 6 rfl ?_
  refine gj_iload_n C 3 dX2_findPlace_50 rfl 7 rfl ?_
  refine gj_iload C dX2_findPlace_51 8 rfl ?_
  refine gj_callVl C mi_X0_times w_615 65 (by decide) hc65 rfl (c_X0_times 65 66 1 x y z sta hc65 hc66 (by decide) (by decide) (by decide) (by omega)) mc_X0_times ⟨Nat.le_of_ble_eq_true rfl, Nat.le_of_ble_eq_true rfl⟩ (rest := []) rfl (Nat.le_of_ble_eq_true rfl) dX2_findPlace_53 (fun r u h => ?_)
  obtain ⟨hr_, h⟩ := h; rw [hr_]
  rw [h]
  refine gj_lload C dX2_findPlace_56 3 rfl ?_
  refine gj_lmul C dX2_findPlace_58 ?_
  refine gj_lstore C (lv' := [(13, .long ((s_X0_times 1 x y z sta) * (s_X0_square 0 sta))), (11, .long ((s_X0_times 0 x y z sta) * (s_X0_square 1 sta))), (9, .long ((s_X0_square 0 sta) * (s_X0_square 1 sta))), (7, .long (s_X0_square 1 sta)), (5, .long (s_X0_square 0 sta)), (0, .ref (ad 58)), (1, .int (nI iN)), (2, .int x), (3, .int y), (4, .int z)]) dX2_findPlace_59 (by decide) rfl ?_
  refine gj_aload_n C 0 dX2_findPlace_61 rfl 5 rfl ?_
  refine gj_get C 58 (by decide) hc58 inX2 rfl 6 (by decide) w_217 (v := .ref (ad 65)) rfl dX2_findPlace_62 ?_
  refine gj_iconst C (v := 2) (by decide) dX2_findPlace_65 ?_
  refine gj_iload_n C 2 dX2_findPlace_66 rfl 7 rfl ?_
  refine gj_iload_n C 3 dX2_findPlace_67 rfl 8 rfl ?_
  refine gj_iload C dX2_findPlace_68 9 rfl ?_
  refine gj_callVl C mi_X0_times w_615 65 (by decide) hc65 rfl (c_X0_times 65 66 2 x y z sta hc65 hc66 (by decide) (by decide) (by decide) (by omega)) mc_X0_times ⟨Nat.le_of_ble_eq_true rfl, Nat.le_of_ble_eq_true rfl⟩ (rest := []) rfl (Nat.le_of_ble_eq_true rfl) dX2_findPlace_70 (fun r u h => ?_)
  obtain ⟨hr_, h⟩ := h; rw [hr_]
  rw [h]
  refine gj_lstore C (lv' := [(15, .long (s_X0_times 2 x y z sta)), (13, .long ((s_X0_times 1 x y z sta) * (s_X0_square 0 sta))), (11, .long ((s_X0_times 0 x y z sta) * (s_X0_square 1 sta))), (9, .long ((s_X0_square 0 sta) * (s_X0_square 1 sta))), (7, .long (s_X0_square 1 sta)), (5, .long (s_X0_square 0 sta)), (0, .ref (ad 58)), (1, .int (nI iN)), (2, .int x), (3, .int y), (4, .int z)]) dX2_findPlace_73 (by decide) rfl ?_
  refine gj_iconst C (v := 0) (by decide) dX2_findPlace_75 ?_
  refine gj_istore C (lv' := [(17, .int 0), (15, .long (s_X0_times 2 x y z sta)), (13, .long ((s_X0_times 1 x y z sta) * (s_X0_square 0 sta))), (11, .long ((s_X0_times 0 x y z sta) * (s_X0_square 1 sta))), (9, .long ((s_X0_square 0 sta) * (s_X0_square 1 sta))), (7, .long (s_X0_square 1 sta)), (5, .long (s_X0_square 0 sta)), (0, .ref (ad 58)), (1, .int (nI iN)), (2, .int x), (3, .int y), (4, .int z)]) dX2_findPlace_76 (by decide) rfl ?_
  refine gj_iload C dX2_findPlace_78 0 rfl ?_
  refine gj_iconst C (v := 3) (by decide) dX2_findPlace_80 ?_
  refine gj_icmp_ge C 174 dX2_findPlace_81 (by decide) (fun c_1 => absurd c_1 (by decide)) (fun c_1 => ?_)
  refine gj_lload C dX2_findPlace_84 3 rfl ?_
  refine gj_aload_n C 0 dX2_findPlace_86 rfl 7 rfl ?_
  refine gj_get C 58 (by decide) hc58 inX2 rfl 7 (by decide) w_218 (v := .ref (ad 67)) rfl dX2_findPlace_87 ?_
  refine gj_iconst C (v := 0) (by decide) dX2_findPlace_90 ?_
  refine gj_iload C dX2_findPlace_91 0 rfl ?_
  refine gj_callVl C mi_X0_part w_619 67 (by decide) hc67 rfl (c_X0_part 67 68 0 0 spa hc67 hc68 (by decide) (by decide) (by decide) (by omega) (by omega)) mc_X0_part ⟨Nat.le_of_ble_eq_true rfl, Nat.le_of_ble_eq_true rfl⟩ (rest := [.long ((s_X0_times 0 x y z sta) * (s_X0_square 1 sta))]) rfl (Nat.le_of_ble_eq_true rfl) dX2_findPlace_93 (fun r u h => ?_)
  obtain ⟨hr_, h⟩ := h; rw [hr_]
  rw [h]
  refine gj_lmul C dX2_findPlace_96 ?_
  refine gj_lload C dX2_findPlace_97 2 rfl ?_
  refine gj_aload_n C 0 dX2_findPlace_99 rfl 7 rfl ?_
  refine gj_get C 58 (by decide) hc58 inX2 rfl 7 (by decide) w_218 (v := .ref (ad 67)) rfl dX2_findPlace_100 ?_
  refine gj_iconst C (v := 1) (by decide) dX2_findPlace_103 ?_
  refine gj_iload C dX2_findPlace_104 0 rfl ?_
  refine gj_callVl C mi_X0_part w_619 67 (by decide) hc67 rfl (c_X0_part 67 68 1 0 spa hc67 hc68 (by decide) (by decide) (by decide) (by omega) (by omega)) mc_X0_part ⟨Nat.le_of_ble_eq_true rfl, Nat.le_of_ble_eq_true rfl⟩ (rest := [.long ((s_X0_times 1 x y z sta) * (s_X0_square 0 sta)), .long (((s_X0_times 0 x y z sta) * (s_X0_square 1 sta)) * (s_X0_part 0 0 spa))]) rfl (Nat.le_of_ble_eq_true rfl) dX2_findPlace_106 (fun r u h => ?_)
  obtain ⟨hr_, h⟩ := h; rw [hr_]
  rw [h]
  refine gj_lmul C dX2_findPlace_109 ?_
  refine gj_ladd C dX2_findPlace_110 ?_
  refine gj_lload C dX2_findPlace_111 1 rfl ?_
  refine gj_aload_n C 0 dX2_findPlace_113 rfl 7 rfl ?_
  refine gj_get C 58 (by decide) hc58 inX2 rfl 7 (by decide) w_218 (v := .ref (ad 67)) rfl dX2_findPlace_114 ?_
  refine gj_iconst C (v := 2) (by decide) dX2_findPlace_117 ?_
  refine gj_iload C dX2_findPlace_118 0 rfl ?_
  refine gj_callVl C mi_X0_part w_619 67 (by decide) hc67 rfl (c_X0_part 67 68 2 0 spa hc67 hc68 (by decide) (by decide) (by decide) (by omega) (by omega)) mc_X0_part ⟨Nat.le_of_ble_eq_true rfl, Nat.le_of_ble_eq_true rfl⟩ (rest := [.long (s_X0_times 2 x y z sta), .long ((((s_X0_times 0 x y z sta) * (s_X0_square 1 sta)) * (s_X0_part 0 0 spa)) + (((s_X0_times 1 x y z sta) * (s_X0_square 0 sta)) * (s_X0_part 1 0 spa)))]) rfl (Nat.le_of_ble_eq_true rfl) dX2_findPlace_120 (fun r u h => ?_)
  obtain ⟨hr_, h⟩ := h; rw [hr_]
  rw [h]
  refine gj_lmul C dX2_findPlace_123 ?_
  refine gj_ladd C dX2_findPlace_124 ?_
  refine gj_lstore C (lv' := [(18, .long (((((s_X0_times 0 x y z sta) * (s_X0_square 1 sta)) * (s_X0_part 0 0 spa)) + (((s_X0_times 1 x y z sta) * (s_X0_square 0 sta)) * (s_X0_part 1 0 spa))) + ((s_X0_times 2 x y z sta) * (s_X0_part 2 0 spa)))), (17, .int 0), (15, .long (s_X0_times 2 x y z sta)), (13, .long ((s_X0_times 1 x y z sta) * (s_X0_square 0 sta))), (11, .long ((s_X0_times 0 x y z sta) * (s_X0_square 1 sta))), (9, .long ((s_X0_square 0 sta) * (s_X0_square 1 sta))), (7, .long (s_X0_square 1 sta)), (5, .long (s_X0_square 0 sta)), (0, .ref (ad 58)), (1, .int (nI iN)), (2, .int x), (3, .int y), (4, .int z)]) dX2_findPlace_125 (by decide) rfl ?_
  refine gj_aload_n C 0 dX2_findPlace_127 rfl 8 rfl ?_
  refine gj_get C 58 (by decide) hc58 inX2 rfl 5 (by decide) w_215 (v := .ref (ad 64)) rfl dX2_findPlace_128 ?_
  refine gj_iconst C (v := 3) (by decide) dX2_findPlace_131 ?_
  refine gj_iload_n C 1 dX2_findPlace_132 rfl 9 rfl ?_
  refine gj_imul C dX2_findPlace_133 ?_
  refine gj_iload C dX2_findPlace_134 1 rfl ?_
  refine gj_iadd C dX2_findPlace_136 ?_
  refine gj_seti (y := nI (3 * iN)) ((Int32.add_zero _).trans (i3_0 iN)) ?_
  refine gj_lload C dX2_findPlace_137 5 rfl ?_
  refine gj_lconst C (v := 1) rfl dX2_findPlace_139 ?_
  refine gj_lcmp C dX2_findPlace_140 ?_
  have hj_3 : gJ pT l eT (Rm 1) sT mT aT below meth cT AT QT D ad 108 20 (f) [(18, .long (((((s_X0_times 0 x y z sta) * (s_X0_square 1 sta)) * (s_X0_part 0 0 spa)) + (((s_X0_times 1 x y z sta) * (s_X0_square 0 sta)) * (s_X0_part 1 0 spa))) + ((s_X0_times 2 x y z sta) * (s_X0_part 2 0 spa)))), (17, .int 0), (15, .long (s_X0_times 2 x y z sta)), (13, .long ((s_X0_times 1 x y z sta) * (s_X0_square 0 sta))), (11, .long ((s_X0_times 0 x y z sta) * (s_X0_square 1 sta))), (9, .long ((s_X0_square 0 sta) * (s_X0_square 1 sta))), (7, .long (s_X0_square 1 sta)), (5, .long (s_X0_square 0 sta)), (0, .ref (ad 58)), (1, .int (nI iN)), (2, .int x), (3, .int y), (4, .int z)] 167 [.int (if 0 ≤ (lg_cmp ((s_X0_square 0 sta) * (s_X0_square 1 sta)) 1) then ((s_J9_floorDiv_f86c9 ((2 * (((((s_X0_times 0 x y z sta) * (s_X0_square 1 sta)) * (s_X0_part 0 0 spa)) + (((s_X0_times 1 x y z sta) * (s_X0_square 0 sta)) * (s_X0_part 1 0 spa))) + ((s_X0_times 2 x y z sta) * (s_X0_part 2 0 spa)))) + ((s_X0_square 0 sta) * (s_X0_square 1 sta))) (2 * ((s_X0_square 0 sta) * (s_X0_square 1 sta)))).toInt32 : Int32) else (0 : Int32)), .int (nI (3 * iN)), .ref (ad 64)] := by
    refine gj_seti (y := cPv sta spa x y z 0) rfl ?_
    refine gj_iast C 64 (by decide) hc64 (vp_in_nI (by omega) (by omega)) dX2_findPlace_167 ?_
    refine gj_setf (g := va_up f 64 (.inl (ca 0, 36, .inl (upd pl (3 * iN) (cPv sta spa x y z 0))))) (by rw [nI_clamp (show (3 * iN) < 2 ^ 31 by omega)]) ?_
    refine gj_iinc C (v := 1) (lv' := [(17, .int 1), (18, .long (((((s_X0_times 0 x y z sta) * (s_X0_square 1 sta)) * (s_X0_part 0 0 spa)) + (((s_X0_times 1 x y z sta) * (s_X0_square 0 sta)) * (s_X0_part 1 0 spa))) + ((s_X0_times 2 x y z sta) * (s_X0_part 2 0 spa)))), (15, .long (s_X0_times 2 x y z sta)), (13, .long ((s_X0_times 1 x y z sta) * (s_X0_square 0 sta))), (11, .long ((s_X0_times 0 x y z sta) * (s_X0_square 1 sta))), (9, .long ((s_X0_square 0 sta) * (s_X0_square 1 sta))), (7, .long (s_X0_square 1 sta)), (5, .long (s_X0_square 0 sta)), (0, .ref (ad 58)), (1, .int (nI iN)), (2, .int x), (3, .int y), (4, .int z)]) dX2_findPlace_168 1 rfl (by decide) (by decide) rfl ?_
    refine gj_goto C 78 dX2_findPlace_171 (by decide) ?_
    refine gj_iload C dX2_findPlace_78 0 rfl ?_
    refine gj_iconst C (v := 3) (by decide) dX2_findPlace_80 ?_
    refine gj_icmp_ge C 174 dX2_findPlace_81 (by decide) (fun c_4 => absurd c_4 (by decide)) (fun c_4 => ?_)
    refine gj_lload C dX2_findPlace_84 4 rfl ?_
    refine gj_aload_n C 0 dX2_findPlace_86 rfl 8 rfl ?_
    refine gj_get C 58 (by decide) (up_nx (by decide) (hc58)) inX2 rfl 7 (by decide) w_218 (v := .ref (ad 67)) rfl dX2_findPlace_87 ?_
    refine gj_iconst C (v := 0) (by decide) dX2_findPlace_90 ?_
    refine gj_iload C dX2_findPlace_91 0 rfl ?_
    refine gj_callVl C mi_X0_part w_619 67 (by decide) (up_nx (by decide) (hc67)) rfl (c_X0_part 67 68 0 1 spa (up_nx (by decide) (hc67)) (up_nx (by decide) (hc68)) (by decide) (by decide) (by decide) (by omega) (by omega)) mc_X0_part ⟨Nat.le_of_ble_eq_true rfl, Nat.le_of_ble_eq_true rfl⟩ (rest := [.long ((s_X0_times 0 x y z sta) * (s_X0_square 1 sta))]) rfl (Nat.le_of_ble_eq_true rfl) dX2_findPlace_93 (fun r u h => ?_)
    obtain ⟨hr_, hu_⟩ := h; rw [hr_]; subst hu_
    refine gj_lmul C dX2_findPlace_96 ?_
    refine gj_lload C dX2_findPlace_97 3 rfl ?_
    refine gj_aload_n C 0 dX2_findPlace_99 rfl 8 rfl ?_
    refine gj_get C 58 (by decide) (up_nx (by decide) (hc58)) inX2 rfl 7 (by decide) w_218 (v := .ref (ad 67)) rfl dX2_findPlace_100 ?_
    refine gj_iconst C (v := 1) (by decide) dX2_findPlace_103 ?_
    refine gj_iload C dX2_findPlace_104 0 rfl ?_
    refine gj_callVl C mi_X0_part w_619 67 (by decide) (up_nx (by decide) (hc67)) rfl (c_X0_part 67 68 1 1 spa (up_nx (by decide) (hc67)) (up_nx (by decide) (hc68)) (by decide) (by decide) (by decide) (by omega) (by omega)) mc_X0_part ⟨Nat.le_of_ble_eq_true rfl, Nat.le_of_ble_eq_true rfl⟩ (rest := [.long ((s_X0_times 1 x y z sta) * (s_X0_square 0 sta)), .long (((s_X0_times 0 x y z sta) * (s_X0_square 1 sta)) * (s_X0_part 0 1 spa))]) rfl (Nat.le_of_ble_eq_true rfl) dX2_findPlace_106 (fun r u h => ?_)
    obtain ⟨hr_, hu_⟩ := h; rw [hr_]; subst hu_
    refine gj_lmul C dX2_findPlace_109 ?_
    refine gj_ladd C dX2_findPlace_110 ?_
    refine gj_lload C dX2_findPlace_111 2 rfl ?_
    refine gj_aload_n C 0 dX2_findPlace_113 rfl 8 rfl ?_
    refine gj_get C 58 (by decide) (up_nx (by decide) (hc58)) inX2 rfl 7 (by decide) w_218 (v := .ref (ad 67)) rfl dX2_findPlace_114 ?_
    refine gj_iconst C (v := 2) (by decide) dX2_findPlace_117 ?_
    refine gj_iload C dX2_findPlace_118 0 rfl ?_
    refine gj_callVl C mi_X0_part w_619 67 (by decide) (up_nx (by decide) (hc67)) rfl (c_X0_part 67 68 2 1 spa (up_nx (by decide) (hc67)) (up_nx (by decide) (hc68)) (by decide) (by decide) (by decide) (by omega) (by omega)) mc_X0_part ⟨Nat.le_of_ble_eq_true rfl, Nat.le_of_ble_eq_true rfl⟩ (rest := [.long (s_X0_times 2 x y z sta), .long ((((s_X0_times 0 x y z sta) * (s_X0_square 1 sta)) * (s_X0_part 0 1 spa)) + (((s_X0_times 1 x y z sta) * (s_X0_square 0 sta)) * (s_X0_part 1 1 spa)))]) rfl (Nat.le_of_ble_eq_true rfl) dX2_findPlace_120 (fun r u h => ?_)
    obtain ⟨hr_, hu_⟩ := h; rw [hr_]; subst hu_
    refine gj_lmul C dX2_findPlace_123 ?_
    refine gj_ladd C dX2_findPlace_124 ?_
    refine gj_lstore C (lv' := [(18, .long (((((s_X0_times 0 x y z sta) * (s_X0_square 1 sta)) * (s_X0_part 0 1 spa)) + (((s_X0_times 1 x y z sta) * (s_X0_square 0 sta)) * (s_X0_part 1 1 spa))) + ((s_X0_times 2 x y z sta) * (s_X0_part 2 1 spa)))), (17, .int 1), (15, .long (s_X0_times 2 x y z sta)), (13, .long ((s_X0_times 1 x y z sta) * (s_X0_square 0 sta))), (11, .long ((s_X0_times 0 x y z sta) * (s_X0_square 1 sta))), (9, .long ((s_X0_square 0 sta) * (s_X0_square 1 sta))), (7, .long (s_X0_square 1 sta)), (5, .long (s_X0_square 0 sta)), (0, .ref (ad 58)), (1, .int (nI iN)), (2, .int x), (3, .int y), (4, .int z)]) dX2_findPlace_125 (by decide) rfl ?_
    refine gj_aload_n C 0 dX2_findPlace_127 rfl 8 rfl ?_
    refine gj_get C 58 (by decide) (up_nx (by decide) (hc58)) inX2 rfl 5 (by decide) w_215 (v := .ref (ad 64)) rfl dX2_findPlace_128 ?_
    refine gj_iconst C (v := 3) (by decide) dX2_findPlace_131 ?_
    refine gj_iload_n C 1 dX2_findPlace_132 rfl 9 rfl ?_
    refine gj_imul C dX2_findPlace_133 ?_
    refine gj_iload C dX2_findPlace_134 1 rfl ?_
    refine gj_iadd C dX2_findPlace_136 ?_
    refine gj_seti (y := nI (3 * iN + 1)) (i3_c iN 1) ?_
    refine gj_lload C dX2_findPlace_137 5 rfl ?_
    refine gj_lconst C (v := 1) rfl dX2_findPlace_139 ?_
    refine gj_lcmp C dX2_findPlace_140 ?_
    have hj_6 : gJ pT l eT (Rm 1) sT mT aT below meth cT AT QT D ad 108 20 (va_up f 64 (.inl (ca 0, 36, .inl (upd pl (3 * iN) (cPv sta spa x y z 0))))) [(18, .long (((((s_X0_times 0 x y z sta) * (s_X0_square 1 sta)) * (s_X0_part 0 1 spa)) + (((s_X0_times 1 x y z sta) * (s_X0_square 0 sta)) * (s_X0_part 1 1 spa))) + ((s_X0_times 2 x y z sta) * (s_X0_part 2 1 spa)))), (17, .int 1), (15, .long (s_X0_times 2 x y z sta)), (13, .long ((s_X0_times 1 x y z sta) * (s_X0_square 0 sta))), (11, .long ((s_X0_times 0 x y z sta) * (s_X0_square 1 sta))), (9, .long ((s_X0_square 0 sta) * (s_X0_square 1 sta))), (7, .long (s_X0_square 1 sta)), (5, .long (s_X0_square 0 sta)), (0, .ref (ad 58)), (1, .int (nI iN)), (2, .int x), (3, .int y), (4, .int z)] 167 [.int (if 0 ≤ (lg_cmp ((s_X0_square 0 sta) * (s_X0_square 1 sta)) 1) then ((s_J9_floorDiv_f86c9 ((2 * (((((s_X0_times 0 x y z sta) * (s_X0_square 1 sta)) * (s_X0_part 0 1 spa)) + (((s_X0_times 1 x y z sta) * (s_X0_square 0 sta)) * (s_X0_part 1 1 spa))) + ((s_X0_times 2 x y z sta) * (s_X0_part 2 1 spa)))) + ((s_X0_square 0 sta) * (s_X0_square 1 sta))) (2 * ((s_X0_square 0 sta) * (s_X0_square 1 sta)))).toInt32 : Int32) else (0 : Int32)), .int (nI (3 * iN + 1)), .ref (ad 64)] := by
      refine gj_seti (y := cPv sta spa x y z 1) rfl ?_
      refine gj_iast C 64 (by decide) (va_up_self _ _ _) (vp_in_nI (by omega) (by omega)) dX2_findPlace_167 ?_
      refine gj_setf (bx_uu _ _ _ _) ?_
      refine gj_setf (g := va_up f 64 (.inl (ca 0, 36, .inl (upd (upd pl (3 * iN) (cPv sta spa x y z 0)) (3 * iN + 1) (cPv sta spa x y z 1))))) (by rw [nI_clamp (show (3 * iN + 1) < 2 ^ 31 by omega)]) ?_
      refine gj_iinc C (v := 2) (lv' := [(17, .int 2), (18, .long (((((s_X0_times 0 x y z sta) * (s_X0_square 1 sta)) * (s_X0_part 0 1 spa)) + (((s_X0_times 1 x y z sta) * (s_X0_square 0 sta)) * (s_X0_part 1 1 spa))) + ((s_X0_times 2 x y z sta) * (s_X0_part 2 1 spa)))), (15, .long (s_X0_times 2 x y z sta)), (13, .long ((s_X0_times 1 x y z sta) * (s_X0_square 0 sta))), (11, .long ((s_X0_times 0 x y z sta) * (s_X0_square 1 sta))), (9, .long ((s_X0_square 0 sta) * (s_X0_square 1 sta))), (7, .long (s_X0_square 1 sta)), (5, .long (s_X0_square 0 sta)), (0, .ref (ad 58)), (1, .int (nI iN)), (2, .int x), (3, .int y), (4, .int z)]) dX2_findPlace_168 1 rfl (by decide) (by decide) rfl ?_
      refine gj_goto C 78 dX2_findPlace_171 (by decide) ?_
      refine gj_iload C dX2_findPlace_78 0 rfl ?_
      refine gj_iconst C (v := 3) (by decide) dX2_findPlace_80 ?_
      refine gj_icmp_ge C 174 dX2_findPlace_81 (by decide) (fun c_7 => absurd c_7 (by decide)) (fun c_7 => ?_)
      refine gj_lload C dX2_findPlace_84 4 rfl ?_
      refine gj_aload_n C 0 dX2_findPlace_86 rfl 8 rfl ?_
      refine gj_get C 58 (by decide) (up_nx (by decide) (hc58)) inX2 rfl 7 (by decide) w_218 (v := .ref (ad 67)) rfl dX2_findPlace_87 ?_
      refine gj_iconst C (v := 0) (by decide) dX2_findPlace_90 ?_
      refine gj_iload C dX2_findPlace_91 0 rfl ?_
      refine gj_callVl C mi_X0_part w_619 67 (by decide) (up_nx (by decide) (hc67)) rfl (c_X0_part 67 68 0 2 spa (up_nx (by decide) (hc67)) (up_nx (by decide) (hc68)) (by decide) (by decide) (by decide) (by omega) (by omega)) mc_X0_part ⟨Nat.le_of_ble_eq_true rfl, Nat.le_of_ble_eq_true rfl⟩ (rest := [.long ((s_X0_times 0 x y z sta) * (s_X0_square 1 sta))]) rfl (Nat.le_of_ble_eq_true rfl) dX2_findPlace_93 (fun r u h => ?_)
      obtain ⟨hr_, hu_⟩ := h; rw [hr_]; subst hu_
      refine gj_lmul C dX2_findPlace_96 ?_
      refine gj_lload C dX2_findPlace_97 3 rfl ?_
      refine gj_aload_n C 0 dX2_findPlace_99 rfl 8 rfl ?_
      refine gj_get C 58 (by decide) (up_nx (by decide) (hc58)) inX2 rfl 7 (by decide) w_218 (v := .ref (ad 67)) rfl dX2_findPlace_100 ?_
      refine gj_iconst C (v := 1) (by decide) dX2_findPlace_103 ?_
      refine gj_iload C dX2_findPlace_104 0 rfl ?_
      refine gj_callVl C mi_X0_part w_619 67 (by decide) (up_nx (by decide) (hc67)) rfl (c_X0_part 67 68 1 2 spa (up_nx (by decide) (hc67)) (up_nx (by decide) (hc68)) (by decide) (by decide) (by decide) (by omega) (by omega)) mc_X0_part ⟨Nat.le_of_ble_eq_true rfl, Nat.le_of_ble_eq_true rfl⟩ (rest := [.long ((s_X0_times 1 x y z sta) * (s_X0_square 0 sta)), .long (((s_X0_times 0 x y z sta) * (s_X0_square 1 sta)) * (s_X0_part 0 2 spa))]) rfl (Nat.le_of_ble_eq_true rfl) dX2_findPlace_106 (fun r u h => ?_)
      obtain ⟨hr_, hu_⟩ := h; rw [hr_]; subst hu_
      refine gj_lmul C dX2_findPlace_109 ?_
      refine gj_ladd C dX2_findPlace_110 ?_
      refine gj_lload C dX2_findPlace_111 2 rfl ?_
      refine gj_aload_n C 0 dX2_findPlace_113 rfl 8 rfl ?_
      refine gj_get C 58 (by decide) (up_nx (by decide) (hc58)) inX2 rfl 7 (by decide) w_218 (v := .ref (ad 67)) rfl dX2_findPlace_114 ?_
      refine gj_iconst C (v := 2) (by decide) dX2_findPlace_117 ?_
      refine gj_iload C dX2_findPlace_118 0 rfl ?_
      refine gj_callVl C mi_X0_part w_619 67 (by decide) (up_nx (by decide) (hc67)) rfl (c_X0_part 67 68 2 2 spa (up_nx (by decide) (hc67)) (up_nx (by decide) (hc68)) (by decide) (by decide) (by decide) (by omega) (by omega)) mc_X0_part ⟨Nat.le_of_ble_eq_true rfl, Nat.le_of_ble_eq_true rfl⟩ (rest := [.long (s_X0_times 2 x y z sta), .long ((((s_X0_times 0 x y z sta) * (s_X0_square 1 sta)) * (s_X0_part 0 2 spa)) + (((s_X0_times 1 x y z sta) * (s_X0_square 0 sta)) * (s_X0_part 1 2 spa)))]) rfl (Nat.le_of_ble_eq_true rfl) dX2_findPlace_120 (fun r u h => ?_)
      obtain ⟨hr_, hu_⟩ := h; rw [hr_]; subst hu_
      refine gj_lmul C dX2_findPlace_123 ?_
      refine gj_ladd C dX2_findPlace_124 ?_
      refine gj_lstore C (lv' := [(18, .long (((((s_X0_times 0 x y z sta) * (s_X0_square 1 sta)) * (s_X0_part 0 2 spa)) + (((s_X0_times 1 x y z sta) * (s_X0_square 0 sta)) * (s_X0_part 1 2 spa))) + ((s_X0_times 2 x y z sta) * (s_X0_part 2 2 spa)))), (17, .int 2), (15, .long (s_X0_times 2 x y z sta)), (13, .long ((s_X0_times 1 x y z sta) * (s_X0_square 0 sta))), (11, .long ((s_X0_times 0 x y z sta) * (s_X0_square 1 sta))), (9, .long ((s_X0_square 0 sta) * (s_X0_square 1 sta))), (7, .long (s_X0_square 1 sta)), (5, .long (s_X0_square 0 sta)), (0, .ref (ad 58)), (1, .int (nI iN)), (2, .int x), (3, .int y), (4, .int z)]) dX2_findPlace_125 (by decide) rfl ?_
      refine gj_aload_n C 0 dX2_findPlace_127 rfl 8 rfl ?_
      refine gj_get C 58 (by decide) (up_nx (by decide) (hc58)) inX2 rfl 5 (by decide) w_215 (v := .ref (ad 64)) rfl dX2_findPlace_128 ?_
      refine gj_iconst C (v := 3) (by decide) dX2_findPlace_131 ?_
      refine gj_iload_n C 1 dX2_findPlace_132 rfl 9 rfl ?_
      refine gj_imul C dX2_findPlace_133 ?_
      refine gj_iload C dX2_findPlace_134 1 rfl ?_
      refine gj_iadd C dX2_findPlace_136 ?_
      refine gj_seti (y := nI (3 * iN + 2)) (i3_c iN 2) ?_
      refine gj_lload C dX2_findPlace_137 5 rfl ?_
      refine gj_lconst C (v := 1) rfl dX2_findPlace_139 ?_
      refine gj_lcmp C dX2_findPlace_140 ?_
      have hj_9 : gJ pT l eT (Rm 1) sT mT aT below meth cT AT QT D ad 108 20 (va_up f 64 (.inl (ca 0, 36, .inl (upd (upd pl (3 * iN) (cPv sta spa x y z 0)) (3 * iN + 1) (cPv sta spa x y z 1))))) [(18, .long (((((s_X0_times 0 x y z sta) * (s_X0_square 1 sta)) * (s_X0_part 0 2 spa)) + (((s_X0_times 1 x y z sta) * (s_X0_square 0 sta)) * (s_X0_part 1 2 spa))) + ((s_X0_times 2 x y z sta) * (s_X0_part 2 2 spa)))), (17, .int 2), (15, .long (s_X0_times 2 x y z sta)), (13, .long ((s_X0_times 1 x y z sta) * (s_X0_square 0 sta))), (11, .long ((s_X0_times 0 x y z sta) * (s_X0_square 1 sta))), (9, .long ((s_X0_square 0 sta) * (s_X0_square 1 sta))), (7, .long (s_X0_square 1 sta)), (5, .long (s_X0_square 0 sta)), (0, .ref (ad 58)), (1, .int (nI iN)), (2, .int x), (3, .int y), (4, .int z)] 167 [.int (if 0 ≤ (lg_cmp ((s_X0_square 0 sta) * (s_X0_square 1 sta)) 1) then ((s_J9_floorDiv_f86c9 ((2 * (((((s_X0_times 0 x y z sta) * (s_X0_square 1 sta)) * (s_X0_part 0 2 spa)) + (((s_X0_times 1 x y z sta) * (s_X0_square 0 sta)) * (s_X0_part 1 2 spa))) + ((s_X0_times 2 x y z sta) * (s_X0_part 2 2 spa)))) + ((s_X0_square 0 sta) * (s_X0_square 1 sta))) (2 * ((s_X0_square 0 sta) * (s_X0_square 1 sta)))).toInt32 : Int32) else (0 : Int32)), .int (nI (3 * iN + 2)), .ref (ad 64)] := by
        refine gj_seti (y := cPv sta spa x y z 2) rfl ?_
        refine gj_iast C 64 (by decide) (va_up_self _ _ _) (vp_in_nI (by omega) (by omega)) dX2_findPlace_167 ?_
        refine gj_setf (bx_uu _ _ _ _) ?_
        refine gj_setf (g := va_up f 64 (.inl (ca 0, 36, .inl (upd (upd (upd pl (3 * iN) (cPv sta spa x y z 0)) (3 * iN + 1) (cPv sta spa x y z 1)) (3 * iN + 2) (cPv sta spa x y z 2))))) (by rw [nI_clamp (show (3 * iN + 2) < 2 ^ 31 by omega)]) ?_
        refine gj_iinc C (v := 3) (lv' := [(17, .int 3), (18, .long (((((s_X0_times 0 x y z sta) * (s_X0_square 1 sta)) * (s_X0_part 0 2 spa)) + (((s_X0_times 1 x y z sta) * (s_X0_square 0 sta)) * (s_X0_part 1 2 spa))) + ((s_X0_times 2 x y z sta) * (s_X0_part 2 2 spa)))), (15, .long (s_X0_times 2 x y z sta)), (13, .long ((s_X0_times 1 x y z sta) * (s_X0_square 0 sta))), (11, .long ((s_X0_times 0 x y z sta) * (s_X0_square 1 sta))), (9, .long ((s_X0_square 0 sta) * (s_X0_square 1 sta))), (7, .long (s_X0_square 1 sta)), (5, .long (s_X0_square 0 sta)), (0, .ref (ad 58)), (1, .int (nI iN)), (2, .int x), (3, .int y), (4, .int z)]) dX2_findPlace_168 1 rfl (by decide) (by decide) rfl ?_
        refine gj_goto C 78 dX2_findPlace_171 (by decide) ?_
        refine gj_iload C dX2_findPlace_78 0 rfl ?_
        refine gj_iconst C (v := 3) (by decide) dX2_findPlace_80 ?_
        refine gj_icmp_ge C 174 dX2_findPlace_81 (by decide) (fun c_10 => ?_) (fun c_10 => absurd (by decide) c_10)
        exact RT _ _ _ (by rw [w3_new]) dX2_findPlace_174
      refine gj_if_ge C 148 dX2_findPlace_141 (by decide) (fun c_8 => ?_) (fun c_8 => ?_)
      · refine gj_ldc2 C (v := 2) w_623 dX2_findPlace_148 ?_
        refine gj_lload C dX2_findPlace_151 0 rfl ?_
        refine gj_lmul C dX2_findPlace_153 ?_
        refine gj_lload C dX2_findPlace_154 5 rfl ?_
        refine gj_ladd C dX2_findPlace_156 ?_
        refine gj_ldc2 C (v := 2) w_623 dX2_findPlace_157 ?_
        refine gj_lload C dX2_findPlace_160 5 rfl ?_
        refine gj_lmul C dX2_findPlace_162 ?_
        refine gj_callSl C w_625 w_624 (c_J9_floorDiv_f86c9 ((2 * (((((s_X0_times 0 x y z sta) * (s_X0_square 1 sta)) * (s_X0_part 0 2 spa)) + (((s_X0_times 1 x y z sta) * (s_X0_square 0 sta)) * (s_X0_part 1 2 spa))) + ((s_X0_times 2 x y z sta) * (s_X0_part 2 2 spa)))) + ((s_X0_square 0 sta) * (s_X0_square 1 sta))) (2 * ((s_X0_square 0 sta) * (s_X0_square 1 sta))) (all_nz c_8)) mc_J9_floorDiv_f86c9 ⟨Nat.le_of_ble_eq_true rfl, Nat.le_of_ble_eq_true rfl⟩ (rest := [.int (nI (3 * iN + 2)), .ref (ad 64)]) rfl (Nat.le_of_ble_eq_true rfl) dX2_findPlace_163 (fun r u h => ?_)
        obtain ⟨hr_, hu_⟩ := h; rw [hr_]; subst hu_
        refine gj_l2i C dX2_findPlace_166 ?_
        exact gj_seti (if_pos c_8).symm hj_9
      · refine gj_iconst C (v := 0) (by decide) dX2_findPlace_144 ?_
        refine gj_goto C 167 dX2_findPlace_145 (by decide) ?_
        exact gj_seti (if_neg c_8).symm hj_9
    refine gj_if_ge C 148 dX2_findPlace_141 (by decide) (fun c_5 => ?_) (fun c_5 => ?_)
    · refine gj_ldc2 C (v := 2) w_623 dX2_findPlace_148 ?_
      refine gj_lload C dX2_findPlace_151 0 rfl ?_
      refine gj_lmul C dX2_findPlace_153 ?_
      refine gj_lload C dX2_findPlace_154 5 rfl ?_
      refine gj_ladd C dX2_findPlace_156 ?_
      refine gj_ldc2 C (v := 2) w_623 dX2_findPlace_157 ?_
      refine gj_lload C dX2_findPlace_160 5 rfl ?_
      refine gj_lmul C dX2_findPlace_162 ?_
      refine gj_callSl C w_625 w_624 (c_J9_floorDiv_f86c9 ((2 * (((((s_X0_times 0 x y z sta) * (s_X0_square 1 sta)) * (s_X0_part 0 1 spa)) + (((s_X0_times 1 x y z sta) * (s_X0_square 0 sta)) * (s_X0_part 1 1 spa))) + ((s_X0_times 2 x y z sta) * (s_X0_part 2 1 spa)))) + ((s_X0_square 0 sta) * (s_X0_square 1 sta))) (2 * ((s_X0_square 0 sta) * (s_X0_square 1 sta))) (all_nz c_5)) mc_J9_floorDiv_f86c9 ⟨Nat.le_of_ble_eq_true rfl, Nat.le_of_ble_eq_true rfl⟩ (rest := [.int (nI (3 * iN + 1)), .ref (ad 64)]) rfl (Nat.le_of_ble_eq_true rfl) dX2_findPlace_163 (fun r u h => ?_)
      obtain ⟨hr_, hu_⟩ := h; rw [hr_]; subst hu_
      refine gj_l2i C dX2_findPlace_166 ?_
      exact gj_seti (if_pos c_5).symm hj_6
    · refine gj_iconst C (v := 0) (by decide) dX2_findPlace_144 ?_
      refine gj_goto C 167 dX2_findPlace_145 (by decide) ?_
      exact gj_seti (if_neg c_5).symm hj_6
  refine gj_if_ge C 148 dX2_findPlace_141 (by decide) (fun c_2 => ?_) (fun c_2 => ?_)
  · refine gj_ldc2 C (v := 2) w_623 dX2_findPlace_148 ?_
    refine gj_lload C dX2_findPlace_151 0 rfl ?_
    refine gj_lmul C dX2_findPlace_153 ?_
    refine gj_lload C dX2_findPlace_154 5 rfl ?_
    refine gj_ladd C dX2_findPlace_156 ?_
    refine gj_ldc2 C (v := 2) w_623 dX2_findPlace_157 ?_
    refine gj_lload C dX2_findPlace_160 5 rfl ?_
    refine gj_lmul C dX2_findPlace_162 ?_
    refine gj_callSl C w_625 w_624 (c_J9_floorDiv_f86c9 ((2 * (((((s_X0_times 0 x y z sta) * (s_X0_square 1 sta)) * (s_X0_part 0 0 spa)) + (((s_X0_times 1 x y z sta) * (s_X0_square 0 sta)) * (s_X0_part 1 0 spa))) + ((s_X0_times 2 x y z sta) * (s_X0_part 2 0 spa)))) + ((s_X0_square 0 sta) * (s_X0_square 1 sta))) (2 * ((s_X0_square 0 sta) * (s_X0_square 1 sta))) (all_nz c_2)) mc_J9_floorDiv_f86c9 ⟨Nat.le_of_ble_eq_true rfl, Nat.le_of_ble_eq_true rfl⟩ (rest := [.int (nI (3 * iN)), .ref (ad 64)]) rfl (Nat.le_of_ble_eq_true rfl) dX2_findPlace_163 (fun r u h => ?_)
    obtain ⟨hr_, h⟩ := h; rw [hr_]
    rw [h]
    refine gj_l2i C dX2_findPlace_166 ?_
    exact gj_seti (if_pos c_2).symm hj_3
  · refine gj_iconst C (v := 0) (by decide) dX2_findPlace_144 ?_
    refine gj_goto C 167 dX2_findPlace_145 (by decide) ?_
    exact gj_seti (if_neg c_2).symm hj_3
