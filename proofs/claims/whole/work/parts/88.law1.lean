/-! THE LAW: its own rows -/
section KLW
variable {p : Program} {l : Launch} {e : Env} {R : Room} {s : State} {m : MethodId} {args : Array Value} {below : List Frame} {meth : Method} {c : Code} {A : Nat → Prop} {Q : State → Prop} {D : va_G} {ca ss : Nat → Nat} {n : Nat} {own : String} {cc : ByteArray} {ret : Option FieldType} {ws ws' : va_W} {cells slots : Nat} {lv lv' : List (Nat × Value)} {pc : Nat} {rest : List Value} {b L : Nat} {xs : Nat → Int32}
theorem kj_slen (C : kX p s m args meth c A D ca ss n own cc ret) (hX : va_X b L xs s s.heap) (hbl : b < s.heap.size) (hbA : ¬ A b) (hd : decode cc pc = .ok (.arraylength, 1)) (k : kJ p l e R s m args below meth c A Q D n ws cells slots lv (pc + 1) (.int (nI L) :: rest)) : kJ p l e R s m args below meth c A Q D n ws cells slots lv pc (.ref b :: rest) := by
  intro H locs ls hP hD hS hl
  obtain ⟨⟨hx, hb, hml, hown, hts, ⟨hK, hN, hSt⟩, hlk, hr, hA⟩, hMk, hFs⟩ := C
  exact va_slen hx hb hX hbl hbA hS hd (k H locs ls hP hD hS hl)
theorem kj_sld (C : kX p s m args meth c A D ca ss n own cc ret) (hX : va_X b L xs s s.heap) (hbl : b < s.heap.size) (hbA : ¬ A b) {i : Int32} (hin : vp_in i L) (hd : decode cc pc = .ok (.iaload, 1)) (k : kJ p l e R s m args below meth c A Q D n ws cells slots lv (pc + 1) (.int (xs i.toNatClampNeg) :: rest)) : kJ p l e R s m args below meth c A Q D n ws cells slots lv pc (.int i :: .ref b :: rest) := by
  intro H locs ls hP hD hS hl
  obtain ⟨⟨hx, hb, hml, hown, hts, ⟨hK, hN, hSt⟩, hlk, hr, hA⟩, hMk, hFs⟩ := C
  exact va_sld hx hb hX hbl hbA hS hin hd (k H locs ls hP hD hS hl)
theorem kj_lcmp (C : kX p s m args meth c A D ca ss n own cc ret) {x y : Int64} (hd : decode cc pc = .ok (.lcmp, 1)) (k : kJ p l e R s m args below meth c A Q D n ws cells slots lv (pc + 1) (.int (lg_cmp x y) :: rest)) : kJ p l e R s m args below meth c A Q D n ws cells slots lv pc (.long y :: .long x :: rest) := by
  intro H locs ls hP hD hS hl
  obtain ⟨⟨hx, hb, hml, hown, hts, ⟨hK, hN, hSt⟩, hlk, hr, hA⟩, hMk, hFs⟩ := C
  exact W.lcmp hx hb hd (k H locs ls hP hD hS hl)
theorem kj_tableOut (C : kX p s m args meth c A D ca ss n own cc ret) {dflt lo hi : Int} {offs : Array Int} {len : Nat} {x : Int32} (tgt : Nat) (hd : decode cc pc = .ok (.tableswitch dflt lo hi offs, len)) (h : x.toInt < lo ∨ hi < x.toInt) (ht : (pc : Int) + dflt = (tgt : Int)) (k : kJ p l e R s m args below meth c A Q D n ws cells slots lv tgt rest) : kJ p l e R s m args below meth c A Q D n ws cells slots lv pc (.int x :: rest) := by
  intro H locs ls hP hD hS hl
  obtain ⟨⟨hx, hb, hml, hown, hts, ⟨hK, hN, hSt⟩, hlk, hr, hA⟩, hMk, hFs⟩ := C
  exact lv_tableOut hx hb hd h ht (k H locs ls hP hD hS hl)
theorem kj_tableIn (C : kX p s m args meth c A D ca ss n own cc ret) {dflt lo hi off : Int} {offs : Array Int} {len : Nat} {x : Int32} (tgt : Nat) (hd : decode cc pc = .ok (.tableswitch dflt lo hi offs, len)) (h1 : ¬ x.toInt < lo) (h2 : ¬ hi < x.toInt) (ho : offs[(x.toInt - lo).toNat]? = some off) (ht : (pc : Int) + off = (tgt : Int)) (k : kJ p l e R s m args below meth c A Q D n ws cells slots lv tgt rest) : kJ p l e R s m args below meth c A Q D n ws cells slots lv pc (.int x :: rest) := by
  intro H locs ls hP hD hS hl
  obtain ⟨⟨hx, hb, hml, hown, hts, ⟨hK, hN, hSt⟩, hlk, hr, hA⟩, hMk, hFs⟩ := C
  exact lv_tableIn hx hb hd h1 h2 ho ht (k H locs ls hP hD hS hl)
theorem kj_callVi (C : kX p s m args meth c A D ca ss n own cc ret) {ad : Nat → Nat} {N : Nat} {f : Nat → va_E} {y : MethodName} {cy : ByteArray} {ny : Nat} {ry : Option FieldType} {d' : Nat} {As st : List Value} {index : Nat} (hs : gIns y) (hlink : Cond.methodLink own index y ∈ gTG) (i : Nat) (hi : i < N) {ci NN : Nat} {fs : List Value} {T : u_T} (hf : f i = .inr (ci, fs)) (hcl : vwCl[ci]? = some (y.cls, T, NN)) {post : Int32 → (Nat → va_E) → Prop} (hM : gMi l D ca ss ad N y cy ny ry d' f (.ref (ad i) :: As) post) (hc : gCal y cy ny ry As.length) (hR : d' + 1 ≤ R.frames ∧ 19 + ny + 45 * d' ≤ R.locals) (hcs : cells ≤ R.cells ∧ slots ≤ R.slots) (hst : st = As.reverse ++ .ref (ad i) :: rest) (hw : (rest.map fun v => v.category).sum ≤ 8) (hd : decode cc pc = .ok (.invokevirtual index, 3)) (kk : ∀ (r : Int32) (u : Nat → va_E), post r u → kJ p l e R s m args below meth c A Q D n (gWn ad N u) cells slots lv (pc + 3) (.int r :: rest)) : kJ p l e R s m args below meth c A Q D n (gWn ad N f) cells slots lv pc st := by
  intro H locs ls hP hD hS hl
  obtain ⟨⟨hx, hb, hml, hown, hts, hKG, hlk, hr, hA⟩, hMk, hFs⟩ := C
  have hFc := gFree hD hS hA
  refine va_calli (va_runV (As := As) (rest := rest) ⟨hx, hb, hml, hown, hts⟩ (hM H.size) (cwV As.length hts (gGoodL (pre := [.methodLink own index y, .instanceMethod y, .selects y.cls y y, .initialized y.cls]) (fun w hw => by simp only [List.mem_cons, List.not_mem_nil, or_false] at hw; rcases hw with rfl | rfl | rfl | rfl <;> first | exact hlink | exact hs.1 | exact hs.2 | exact hc.2.1) (gGood hc.1)) rfl rfl rfl ⟨rfl, hc.2.2⟩ ⟨hR.1, by have := hR.2; simp only [Rm]; omega⟩) ⟨gP.blind _, va_recv hKG.1 hP hcl (gWn_get hi hf), fun U hU hW => ⟨rfl, gPre hP hD hS hA hKG U hU hW⟩⟩ rfl rfl hl.1 hst (lv_room hw) hd hcs) hS (fun q _ h => hFc q h) hFc (fun r u t H1 locs1 ht hvm hw hB hz1 hk1 hS1 => ?_)
  obtain ⟨hP1, hD1⟩ := hB
  rw [ht] at hP1
  exact kk r u hw H1 locs1 ls hP1 (hD1.weaken (fun k q _ h => hFc q.1 h)) hS1 hl
theorem kj_callVl (C : kX p s m args meth c A D ca ss n own cc ret) {ad : Nat → Nat} {N : Nat} {f : Nat → va_E} {y : MethodName} {cy : ByteArray} {ny : Nat} {ry : Option FieldType} {d' : Nat} {As st : List Value} {index : Nat} (hs : gIns y) (hlink : Cond.methodLink own index y ∈ gTG) (i : Nat) (hi : i < N) {ci NN : Nat} {fs : List Value} {T : u_T} (hf : f i = .inr (ci, fs)) (hcl : vwCl[ci]? = some (y.cls, T, NN)) {post : Int64 → (Nat → va_E) → Prop} (hM : gMl l D ca ss ad N y cy ny ry d' f (.ref (ad i) :: As) post) (hc : gCal y cy ny ry As.length) (hR : d' + 1 ≤ R.frames ∧ 19 + ny + 45 * d' ≤ R.locals) (hcs : cells ≤ R.cells ∧ slots ≤ R.slots) (hst : st = As.reverse ++ .ref (ad i) :: rest) (hw : (rest.map fun v => v.category).sum ≤ 8) (hd : decode cc pc = .ok (.invokevirtual index, 3)) (kk : ∀ (r : Int64) (u : Nat → va_E), post r u → kJ p l e R s m args below meth c A Q D n (gWn ad N u) cells slots lv (pc + 3) (.long r :: rest)) : kJ p l e R s m args below meth c A Q D n (gWn ad N f) cells slots lv pc st := by
  intro H locs ls hP hD hS hl
  obtain ⟨⟨hx, hb, hml, hown, hts, hKG, hlk, hr, hA⟩, hMk, hFs⟩ := C
  have hFc := gFree hD hS hA
  refine va_calll (va_runV (As := As) (rest := rest) ⟨hx, hb, hml, hown, hts⟩ (hM H.size) (cwV As.length hts (gGoodL (pre := [.methodLink own index y, .instanceMethod y, .selects y.cls y y, .initialized y.cls]) (fun w hw => by simp only [List.mem_cons, List.not_mem_nil, or_false] at hw; rcases hw with rfl | rfl | rfl | rfl <;> first | exact hlink | exact hs.1 | exact hs.2 | exact hc.2.1) (gGood hc.1)) rfl rfl rfl ⟨rfl, hc.2.2⟩ ⟨hR.1, by have := hR.2; simp only [Rm]; omega⟩) ⟨gP.blind _, va_recv hKG.1 hP hcl (gWn_get hi hf), fun U hU hW => ⟨rfl, gPre hP hD hS hA hKG U hU hW⟩⟩ rfl rfl hl.1 hst (lv_room hw) hd hcs) hS (fun q _ h => hFc q h) hFc (fun r u t H1 locs1 ht hvm hw hB hz1 hk1 hS1 => ?_)
  obtain ⟨hP1, hD1⟩ := hB
  rw [ht] at hP1
  exact kk r u hw H1 locs1 ls hP1 (hD1.weaken (fun k q _ h => hFc q.1 h)) hS1 hl
theorem law_arg (C : kX p s m args meth c A D ca ss 4 own cc ret) (hX : va_X b L xs s s.heap) (hbl : b < s.heap.size) (hbA : ¬ A b) {i x1 x2 : Nat} (j : Nat) (hi : i + j < L) (hL : L ≤ 3584) {z : Int} (hz : Int32.ofInt z = nI j) (hd0 : decode cc pc = .ok (.aload_n 0, 1)) (hd1 : decode cc (pc + 1) = .ok (.iload_n 3, 1)) (hd2 : decode cc (pc + 1 + 1) = .ok (.iconst z, 1)) (hd3 : decode cc (pc + 1 + 1 + 1) = .ok (.iadd, 1)) (hd4 : decode cc (pc + 1 + 1 + 1 + 1) = .ok (.iaload, 1)) (k : kJ p l e R s m args below meth c A Q D 4 ws cells slots [(3, .int (nI i)), (2, .ref x2), (1, .ref x1), (0, .ref b)] (pc + 1 + 1 + 1 + 1 + 1) (.int (xs (i + j)) :: rest)) : kJ p l e R s m args below meth c A Q D 4 ws cells slots [(3, .int (nI i)), (2, .ref x2), (1, .ref x1), (0, .ref b)] pc rest := by
  refine kj_aload_n C 0 hd0 rfl 3 rfl ?_
  refine kj_iload_n C 3 hd1 rfl 0 rfl ?_
  refine kj_iconst C hz hd2 ?_
  refine kj_iadd C hd3 ?_
  refine kj_seti (nI_add i j) ?_
  refine kj_sld C hX hbl hbA (vin (by rw [nI_toInt (by omega)]; omega) (by rw [nI_toInt (by omega)]; omega)) hd4 ?_
  rw [nI_clamp (show i + j < 2 ^ 31 by omega)]
  exact k
theorem law_argB (C : kX p s m args meth c A D ca ss 4 own cc ret) (hX : va_X b L xs s s.heap) (hbl : b < s.heap.size) (hbA : ¬ A b) {i x1 x2 : Nat} (j : Nat) (hi : i + j < L) (hL : L ≤ 3584) {z : Int} (hz : (Int8.ofInt z).toInt32 = nI j) (hd0 : decode cc pc = .ok (.aload_n 0, 1)) (hd1 : decode cc (pc + 1) = .ok (.iload_n 3, 1)) (hd2 : decode cc (pc + 1 + 1) = .ok (.bipush z, 2)) (hd3 : decode cc (pc + 1 + 1 + 2) = .ok (.iadd, 1)) (hd4 : decode cc (pc + 1 + 1 + 2 + 1) = .ok (.iaload, 1)) (k : kJ p l e R s m args below meth c A Q D 4 ws cells slots [(3, .int (nI i)), (2, .ref x2), (1, .ref x1), (0, .ref b)] (pc + 1 + 1 + 2 + 1 + 1) (.int (xs (i + j)) :: rest)) : kJ p l e R s m args below meth c A Q D 4 ws cells slots [(3, .int (nI i)), (2, .ref x2), (1, .ref x1), (0, .ref b)] pc rest := by
  refine kj_aload_n C 0 hd0 rfl 3 rfl ?_
  refine kj_iload_n C 3 hd1 rfl 0 rfl ?_
  refine kj_bipush C hz hd2 ?_
  refine kj_iadd C hd3 ?_
  refine kj_seti (nI_add i j) ?_
  refine kj_sld C hX hbl hbA (vin (by rw [nI_toInt (by omega)]; omega) (by rw [nI_toInt (by omega)]; omega)) hd4 ?_
  rw [nI_clamp (show i + j < 2 ^ 31 by omega)]
  exact k
end KLW
theorem JJ_0 {ca ad : Nat → Nat} {f : Nat → va_E} (h : JJ ca ad f) : ∃ fs, f 0 = .inr (10, fs) := by
  obtain ⟨la, n0, n1, gS, gP, se, tS, tP, tZ, tG, fm, ln, sG, mn, tr, tm, ho, fo, sz, it, hC, hM, hR⟩ := h
  exact ⟨_, hC.1⟩
