/-- cells that are new, one behind another -/
theorem kD_new {A : Nat → Prop} {ws L : va_W} {D : va_G} {cl : List vw_C} {H : Heap} (hD : va_D A ws) (hP : va_P D cl ws H) (hL : ∀ (k : Nat) (x : Nat × va_E), L[k]? = some x → x.1 = H.size + k) (hA : ∀ k, A (H.size + k)) : va_D A (ws ++ L) := by
  refine va_D.app hD ⟨fun i j x y hi hj hxy => ?_, fun k x hx => ?_⟩ (fun i j x y hi hj => ?_)
  · have h1 := hL i x hi
    have h2 := hL j y hj
    omega
  · rw [hL k x hx]; exact hA k
  · have h1 := (hP i x hi).lt
    have h2 := hL j y hj
    omega
theorem k_outI (c : ClassId) (N h0 : Nat) : ∀ i : Nat, Jvm.Free.Multi.outerC c N h0 i = arrV c N (fun j => va_rf (if j < i then some (h0 + 1 + j) else none))
  | 0 => by
    show ({ cls := c, slots := Array.replicate N .null, vm := .none } : Cell) = _
    rw [arrV_new]
    exact congrArg (arrV c N) (funext fun j => by rw [if_neg (Nat.not_lt_zero j)]; rfl)
  | i + 1 => by
    show (Jvm.Free.Multi.outerC c N h0 i).setSlot i (.ref (h0 + 1 + i)) = _
    rw [k_outI c N h0 i, arrV_store]
    refine congrArg (arrV c N) (funext fun j => ?_)
    unfold updV
    by_cases h : j = i
    · subst h
      rw [if_pos rfl, if_pos (by omega)]
      rfl
    · rw [if_neg h]
      show va_rf (if j < i then some (h0 + 1 + j) else none) = _
      by_cases h2 : j < i
      · rw [if_pos h2, if_pos (by omega)]
      · rw [if_neg h2, if_neg (by omega)]
theorem k_outerV (c : ClassId) (N h0 : Nat) : Jvm.Free.Multi.outerC c N h0 N = arrV c N (fun j => va_rf (some (h0 + 1 + j))) := by
  rw [k_outI]
  exact arrV_ext (fun j hj => by rw [if_pos hj])
section KR2
variable {p : Program} {l : Launch} {e : Env} {R : Room} {s : State} {m : MethodId} {args : Array Value} {below : List Frame} {meth : Method} {c : Code} {A : Nat → Prop} {Q : State → Prop} {D : va_G} {ca ss : Nat → Nat} {n : Nat} {own : String} {cc : ByteArray} {ret : Option FieldType} {ws ws' : va_W} {cells slots : Nat} {lv lv' : List (Nat × Value)} {pc : Nat} {rest : List Value}
theorem kj_put (C : kX p s m args meth c A D ca ss n own cc ret) {Cn : String} {T : u_T} {NN ci index a : Nat} {fs : List Value} (q0 : Nat) (he : ws[q0]? = some (a, .inr (ci, fs))) (hin : ∀ w ∈ u_ws Cn T NN, w ∈ gTG) (hc : vwCl[ci]? = some (Cn, T, NN)) (k : Nat) (hk : k < NN) (ty0 : Nat → FieldType) (hty : ∀ k, k < NN → parseFieldDescriptor (T k).2.2.1 = some (ty0 k)) (hnm : ∀ a, a < NN → ∀ b, b < NN → a ≠ b → (T a).2.1 ≠ (T b).2.1) (hlink : Cond.fieldLink own index (T k).1 (T k).2.1 (T k).2.2.1 ∈ gTG) (hfin : (T k).2.2.2 = false) {v : Value} (hn : narrow (ty0 k) v = v) (hfit : fits (ty0 k) v = true) (hlen : k < fs.length) (hw : ws.set q0 (a, .inr (ci, fs.set k v)) = ws') (hd : decode cc pc = .ok (.putfield index, 3)) (kk : kJ p l e R s m args below meth c A Q D n ws' cells slots lv (pc + 3) rest) : kJ p l e R s m args below meth c A Q D n ws cells slots lv pc (v :: .ref a :: rest) := by
  intro H locs ls hP hD hS hl
  obtain ⟨⟨hx, hb, hml, hown, hts, ⟨hK, hN, hSt⟩, hlk, hr, hA⟩, hMk, hFs⟩ := C
  exact va_put hx hb hts hin ty0 hty hnm hown hK hP hD hS q0 he hc k hk (hts _ hlink) (fun _ h9 => h9) hfin (hty k hk) hn hfit hlen hd (fun H1 locs1 hP1 hD1 hS1 => kk H1 locs1 ls (hw ▸ hP1) (hw ▸ hD1) hS1 hl)
theorem kj_putF (C : kX p s m args meth c A D ca ss n own cc ret) (hin2 : meth.name = "<init>") {Cn : String} {T : u_T} {NN ci index a : Nat} {fs : List Value} (q0 : Nat) (he : ws[q0]? = some (a, .inr (ci, fs))) (hin : ∀ w ∈ u_ws Cn T NN, w ∈ gTG) (hc : vwCl[ci]? = some (Cn, T, NN)) (k : Nat) (hk : k < NN) (ty0 : Nat → FieldType) (hty : ∀ k, k < NN → parseFieldDescriptor (T k).2.2.1 = some (ty0 k)) (hnm : ∀ a, a < NN → ∀ b, b < NN → a ≠ b → (T a).2.1 ≠ (T b).2.1) (hlink : Cond.fieldLink own index (T k).1 (T k).2.1 (T k).2.2.1 ∈ gTG) (hfin : (T k).2.2.2 = true) (hdecl : (T k).1 = own) {v : Value} (hn : narrow (ty0 k) v = v) (hfit : fits (ty0 k) v = true) (hlen : k < fs.length) (hw : ws.set q0 (a, .inr (ci, fs.set k v)) = ws') (hd : decode cc pc = .ok (.putfield index, 3)) (kk : kJ p l e R s m args below meth c A Q D n ws' cells slots lv (pc + 3) rest) : kJ p l e R s m args below meth c A Q D n ws cells slots lv pc (v :: .ref a :: rest) := by
  intro H locs ls hP hD hS hl
  obtain ⟨⟨hx, hb, hml, hown, hts, ⟨hK, hN, hSt⟩, hlk, hr, hA⟩, hMk, hFs⟩ := C
  exact va_putF hx hb hts hin ty0 hty hnm hown hK hP hD hS q0 he hc k hk (hts _ hlink) (fun _ h9 => h9) hfin hin2 hdecl (hty k hk) hn hfit hlen hd (fun H1 locs1 hP1 hD1 hS1 => kk H1 locs1 ls (hw ▸ hP1) (hw ▸ hD1) hS1 hl)
theorem kj_get (C : kX p s m args meth c A D ca ss n own cc ret) {Cn : String} {T : u_T} {NN ci index a : Nat} {fs : List Value} (q0 : Nat) (he : ws[q0]? = some (a, .inr (ci, fs))) (hin : ∀ w ∈ u_ws Cn T NN, w ∈ gTG) (hc : vwCl[ci]? = some (Cn, T, NN)) (k : Nat) (hk : k < NN) (hlink : Cond.fieldLink own index (T k).1 (T k).2.1 (T k).2.2.1 ∈ gTG) {v : Value} (hv : fs[k]? = some v) (hd : decode cc pc = .ok (.getfield index, 3)) (kk : kJ p l e R s m args below meth c A Q D n ws cells slots lv (pc + 3) (v :: rest)) : kJ p l e R s m args below meth c A Q D n ws cells slots lv pc (.ref a :: rest) := by
  intro H locs ls hP hD hS hl
  obtain ⟨⟨hx, hb, hml, hown, hts, ⟨hK, hN, hSt⟩, hlk, hr, hA⟩, hMk, hFs⟩ := C
  exact va_get hx hb hts hin hown hK hP q0 he hc k hk (hts _ hlink) (fun _ h9 => h9) hv hd (kk H locs ls hP hD hS hl)
theorem kj_iast (C : kX p s m args meth c A D ca ss n own cc ret) {a nn : Nat} {g : Nat → Int32} (q0 : Nat) (he : ws[q0]? = some (a, .inl (ca 0, nn, .inl g))) {i x : Int32} (hin : vp_in i nn) (hw : ws.set q0 (a, .inl (ca 0, nn, .inl (upd g i.toNatClampNeg x))) = ws') (hd : decode cc pc = .ok (.iastore, 1)) (kk : kJ p l e R s m args below meth c A Q D n ws' cells slots lv (pc + 1) rest) : kJ p l e R s m args below meth c A Q D n ws cells slots lv pc (.int x :: .int i :: .ref a :: rest) := by
  intro H locs ls hP hD hS hl
  obtain ⟨⟨hx, hb, hml, hown, hts, ⟨hK, hN, hSt⟩, hlk, hr, hA⟩, hMk, hFs⟩ := C
  exact va_iast hx hb hK hP hD hS q0 0 he rfl hin hd (fun H1 locs1 hP1 hD1 hS1 => kk H1 locs1 ls (hw ▸ hP1) (hw ▸ hD1) hS1 hl)
theorem kj_mmax (C : kX p s m args meth c A D ca ss n own cc ret) {x y : Int32} {index : Nat} (h1 : Cond.methodLink own index Lib.Math.max.name ∈ gTG) (h2 : Cond.static Lib.Math.max.name ∈ gTG) (h3 : Cond.initialized "java/lang/Math" ∈ gTG) (h4 : Cond.code Lib.Math.max.name Lib.Math.max.code 2 (some .int) ∈ gTG) (hR : 1 ≤ R.frames ∧ 30 ≤ R.locals) (hcs : cells ≤ R.cells ∧ slots ≤ R.slots) (hw : (rest.map fun v => v.category).sum ≤ 8) (hd : decode cc pc = .ok (.invokestatic index, 3)) (kk : kJ p l e R s m args below meth c A Q D n ws cells slots lv (pc + 3) (.int (if x < y then y else x) :: rest)) : kJ p l e R s m args below meth c A Q D n ws cells slots lv pc (.int y :: .int x :: rest) := by
  intro H locs ls hP hD hS hl
  obtain ⟨⟨hx, hb, hml, hown, hts, ⟨hK, hN, hSt⟩, hlk, hr, hA⟩, hMk, hFs⟩ := C
  exact va_mmax hx hb (hml.trans hl.1.symm) hown (hts _ h1) (hts _ h2) (hts _ h3) (hts _ h4) (by omega) (by omega) hcs.1 hcs.2 hd (kk H locs ls hP hD hS hl)
theorem kj_seti {x y : Int32} (h : x = y) (k : kJ p l e R s m args below meth c A Q D n ws cells slots lv pc (.int y :: rest)) : kJ p l e R s m args below meth c A Q D n ws cells slots lv pc (.int x :: rest) := h ▸ k
theorem kj_newTray (C : kX p s m args meth c A D ca ss n own cc ret) {nn : Int32} {index N' : Nat} (h1 : Cond.classLink own index "StarTracker$Tray" ∈ gTG) (hn : ¬ nn < 0) (hNN : nn.toNatClampNeg = N') (hbytes : N' * 4 ≤ 536870912) (hcells : cells + 1 ≤ R.cells) (hslots : slots + N' ≤ R.slots) (hd : decode cc pc = .ok (.anewarray index, 3)) (kk : ∀ q : Nat, kJ p l e R s m args below meth c A Q D n (ws ++ [(q, .inl (ca 4, N', .inr (.inr (.inr (.inr (fun _ => none))))))]) (cells + 1) (slots + N') lv (pc + 3) (.ref q :: rest)) : kJ p l e R s m args below meth c A Q D n ws cells slots lv pc (.int nn :: rest) := by
  intro H locs ls hP hD hS hl
  obtain ⟨⟨hx, hb, hml, hown, hts, ⟨hK, hN, hSt⟩, hlk, hr, hA⟩, hMk, hFs⟩ := C
  subst hNN
  refine W.anew hx hb hown (hts _ h1) (va_AO.use hMk.2.2.1) (g := F0 m pc ls (.int nn :: rest)) rfl hd rfl hn hbytes hcells hslots (fun cA kA comp f1 f2 f3 f4 => ?_)
  cases f1.symm.trans hMk.1.2.2.2.2.1
  generalize hH1 : H.push ({ cls := ca 4, slots := Array.replicate nn.toNatClampNeg .null, vm := .none } : Cell) = H1
  have z1 : H1.size = H.size + 1 := by rw [← hH1, Array.size_push]
  have e1 : H1[H.size]? = some (arrV (ca 4) nn.toNatClampNeg (fun _ => .null)) := by rw [← hH1, Array.getElem?_push_size, ← arrV_new]
  have o1 : ∀ q : Nat, q < H.size → H1[q]? = H[q]? := fun q hq => by rw [← hH1, Array.getElem?_push, if_neg (Nat.ne_of_lt hq)]
  refine W.eq (g2 := F0 m (pc + 3) ls (.ref H.size :: rest)) rfl (kk H.size H1 locs ls ((hP.kept (fun k y hy => o1 y.1 ((hP k y hy).lt))).app (fun k y hy => ?_)) (hD.push hP rfl (hA _ hS.1)) ⟨Nat.le_trans hS.1 (by omega), fun y h1 h2 => (o1 y (Nat.lt_of_lt_of_le h1 hS.1)).trans (hS.2.1 y h1 h2), hS.2.2⟩ hl)
  have hz : k < 1 := (List.getElem?_eq_some_iff.mp hy).1
  rw [show k = 0 by omega] at hy
  cases hy
  exact e1
theorem kj_newSheet (C : kX p s m args meth c A D ca ss n own cc ret) {nn : Int32} {index N' : Nat} (h1 : Cond.classLink own index "StarTracker$Sheet" ∈ gTG) (hn : ¬ nn < 0) (hNN : nn.toNatClampNeg = N') (hbytes : N' * 4 ≤ 536870912) (hcells : cells + 1 ≤ R.cells) (hslots : slots + N' ≤ R.slots) (hd : decode cc pc = .ok (.anewarray index, 3)) (kk : ∀ q : Nat, kJ p l e R s m args below meth c A Q D n (ws ++ [(q, .inl (ca 3, N', .inr (.inr (.inr (.inr (fun _ => none))))))]) (cells + 1) (slots + N') lv (pc + 3) (.ref q :: rest)) : kJ p l e R s m args below meth c A Q D n ws cells slots lv pc (.int nn :: rest) := by
  intro H locs ls hP hD hS hl
  obtain ⟨⟨hx, hb, hml, hown, hts, ⟨hK, hN, hSt⟩, hlk, hr, hA⟩, hMk, hFs⟩ := C
  subst hNN
  refine W.anew hx hb hown (hts _ h1) (va_AO.use hMk.2.1) (g := F0 m pc ls (.int nn :: rest)) rfl hd rfl hn hbytes hcells hslots (fun cA kA comp f1 f2 f3 f4 => ?_)
  cases f1.symm.trans hMk.1.2.2.2.1
  generalize hH1 : H.push ({ cls := ca 3, slots := Array.replicate nn.toNatClampNeg .null, vm := .none } : Cell) = H1
  have z1 : H1.size = H.size + 1 := by rw [← hH1, Array.size_push]
  have e1 : H1[H.size]? = some (arrV (ca 3) nn.toNatClampNeg (fun _ => .null)) := by rw [← hH1, Array.getElem?_push_size, ← arrV_new]
  have o1 : ∀ q : Nat, q < H.size → H1[q]? = H[q]? := fun q hq => by rw [← hH1, Array.getElem?_push, if_neg (Nat.ne_of_lt hq)]
  refine W.eq (g2 := F0 m (pc + 3) ls (.ref H.size :: rest)) rfl (kk H.size H1 locs ls ((hP.kept (fun k y hy => o1 y.1 ((hP k y hy).lt))).app (fun k y hy => ?_)) (hD.push hP rfl (hA _ hS.1)) ⟨Nat.le_trans hS.1 (by omega), fun y h1 h2 => (o1 y (Nat.lt_of_lt_of_le h1 hS.1)).trans (hS.2.1 y h1 h2), hS.2.2⟩ hl)
  have hz : k < 1 := (List.getElem?_eq_some_iff.mp hy).1
  rw [show k = 0 by omega] at hy
  cases hy
  exact e1
theorem kj_astq (C : kX p s m args meth c A D ca ss n own cc ret) {a v nn t0 ci qk : Nat} {r : vw_C} {vs : List Value} {g : Nat → Option Nat} {cA : ClassId} (q0 : Nat) (he : ws[q0]? = some (a, .inl (cA, nn, .inr (.inr (.inr (.inr g)))))) (ht : (gT ca)[t0]? = some (cA, .object r.1)) (hv : ws[qk]? = some (v, .inr (ci, vs))) (hc : vwCl[ci]? = some r) {i : Int32} (hin : vp_in i nn) (hw : ws.set q0 (a, .inl (cA, nn, .inr (.inr (.inr (.inr (va_up g i.toNatClampNeg (some v))))))) = ws') (hd : decode cc pc = .ok (.aastore, 1)) (kk : kJ p l e R s m args below meth c A Q D n ws' cells slots lv (pc + 1) rest) : kJ p l e R s m args below meth c A Q D n ws cells slots lv pc (.ref v :: .int i :: .ref a :: rest) := by
  intro H locs ls hP hD hS hl
  obtain ⟨⟨hx, hb, hml, hown, hts, ⟨hK, hN, hSt⟩, hlk, hr, hA⟩, hMk, hFs⟩ := C
  exact va_astq hx hb hK hP hD hS q0 t0 qk ci he ht hv hc hin hd (fun H1 locs1 hP1 hD1 hS1 => kk H1 locs1 ls (hw ▸ hP1) (hw ▸ hD1) hS1 hl)
theorem kj_mna (C : kX p s m args meth c A D ca ss n own cc ret) {nn kk0 : Int32} {index N' K' : Nat} (h1 : Cond.classLink own index "[[I" ∈ gTG) (hn : ¬ nn < 0) (hk : ¬ kk0 < 0) (hNN : nn.toNatClampNeg = N') (hKK : kk0.toNatClampNeg = K') (hb1 : N' * 4 ≤ 536870912) (hb2 : K' * 4 ≤ 536870912) (hcells : cells + (1 + N') ≤ R.cells) (hslots : slots + (N' + N' * K') ≤ R.slots) (hd : decode cc pc = .ok (.multianewarray index 2, 4)) (kk : ∀ (q : Nat) (r : Nat → Nat), kJ p l e R s m args below meth c A Q D n (ws ++ ((q, .inl (ca 5, N', .inr (.inr (.inr (.inr (fun k => some (r k))))))) :: (List.range N').map (fun i => (r i, .inl (ca 0, K', .inl (kI 0)))))) (cells + 1 + N') (slots + N' + N' * K') lv (pc + 4) (.ref q :: rest)) : kJ p l e R s m args below meth c A Q D n ws cells slots lv pc (.int kk0 :: .int nn :: rest) := by
  intro H locs ls hP hD hS hl
  obtain ⟨⟨hx, hb, hml, hown, hts, ⟨hK, hN, hSt⟩, hlk, hr, hA⟩, hMk, hFs⟩ := C
  subst hNN
  subst hKK
  intro T hT Xs
  obtain ⟨vm₁, cA, comp, -, fA, fC, -, -, X', step⟩ := Xs.multianewarray2F hx (ty := .int) hown (hts _ h1) (show (Cond.arrayOver (.array .int)).before _ s = true from hMk.2.2.2.1) (hts _ w_104) (g := F0 m pc ls (.int kk0 :: .int nn :: rest)) rfl (by rw [hb]; exact hd) rfl hn hk hb1 hb2 (by omega) (by decide) (by decide) hcells hslots
  cases fA.symm.trans hMk.1.2.2.2.2.2
  cases fC.symm.trans hMk.1.1
  generalize hF : Jvm.Free.Multi.fill (T.setVm vm₁) (ca 5) (ca 0) nn.toNatClampNeg kk0.toNatClampNeg (defaultValue .int) nn.toNatClampNeg = F at X' step
  have hTh : (T.setVm vm₁).heap = H := hT
  obtain ⟨f1, f2, -, -⟩ := Jvm.Free.Multi.fill_facts (T.setVm vm₁) (ca 5) (ca 0) nn.toNatClampNeg kk0.toNatClampNeg (defaultValue .int) nn.toNatClampNeg
  rw [hF, hTh] at f1 f2
  have hold : ∀ x : Nat, x < H.size → F.heap[x]? = H[x]? := fun x hx => by
    have := Jvm.Free.Multi.fill_old (T.setVm vm₁) (ca 5) (ca 0) nn.toNatClampNeg kk0.toNatClampNeg (defaultValue .int) (a := x) (by rw [hTh]; exact hx) nn.toNatClampNeg
    rw [hF, hTh] at this
    exact this
  have hrow : ∀ j : Nat, j < nn.toNatClampNeg → F.heap[H.size + 1 + j]? = some (vp_cell (ca 0) (kk0.toNatClampNeg, .inl (kI 0))) := fun j hj => by
    have := Jvm.Free.Multi.fill_inner (T.setVm vm₁) (ca 5) (ca 0) nn.toNatClampNeg kk0.toNatClampNeg (defaultValue .int) nn.toNatClampNeg j hj
    rw [hF, hTh] at this
    rw [this]
    exact congrArg some (arrV_new (ca 0) kk0.toNatClampNeg (.int 0))
  rw [k_outerV] at f2
  have hw1 : ∀ (k : Nat) (x : Nat × va_E), (((H.size, .inl (ca 5, nn.toNatClampNeg, .inr (.inr (.inr (.inr (fun k => some (H.size + 1 + k))))))) :: (List.range nn.toNatClampNeg).map (fun i => (H.size + 1 + i, .inl (ca 0, kk0.toNatClampNeg, .inl (kI 0))))) : va_W)[k]? = some x → x.1 = H.size + k ∧ va_at D vwCl x F.heap := by
    intro k x hx
    match k with
    | 0 =>
      cases hx
      exact ⟨rfl, f2⟩
    | k + 1 =>
      rw [List.getElem?_cons_succ, List.getElem?_map] at hx
      by_cases h9 : k < nn.toNatClampNeg
      · rw [List.getElem?_range h9] at hx
        cases hx
        exact ⟨by show H.size + 1 + k = H.size + (k + 1); omega, hrow k h9⟩
      · have hn0 : (List.range nn.toNatClampNeg)[k]? = none := List.getElem?_eq_none (by rw [List.length_range]; omega)
        rw [hn0] at hx
        cases hx
  obtain ⟨t, b1, b2⟩ := kk H.size (fun i => H.size + 1 + i) F.heap locs ls ((hP.kept (fun k y hy => hold y.1 ((hP k y hy).lt))).app (fun k x hx => (hw1 k x hx).2)) (kD_new hD hP (fun k x hx => (hw1 k x hx).1) (fun k => hA _ (Nat.le_trans hS.1 (by omega)))) ⟨Nat.le_trans hS.1 (by omega), fun y h1 h2 => (hold y (Nat.lt_of_lt_of_le h1 hS.1)).trans (hS.2.1 y h1 h2), hS.2.2⟩ hl F rfl X'
  refine ⟨t, step t ?_, b2⟩
  rw [hT]
  exact b1
theorem kj_gets (C : kX p s m args meth c A D ca ss n own cc ret) {index : Nat}  (hlink : Cond.fieldLink own index "StarTracker" "FIRST_SETTINGS" "[I" ∈ gTG) (hd : decode cc pc = .ok (.getstatic index, 3)) (kk : kJ p l e R s m args below meth c A Q D n ws cells slots lv (pc + 3) (.ref (ss 3) :: rest)) : kJ p l e R s m args below meth c A Q D n ws cells slots lv pc rest := by
  intro H locs ls hP hD hS hl
  obtain ⟨⟨hx, hb, hml, hown, hts, ⟨hK, hN, hSt⟩, hlk, hr, hA⟩, hMk, hFs⟩ := C
  exact va_gets hx hb hSt.2.2.2.1 hS hown (hts _ hlink) (fun _ h9 => h9) hd (kk H locs ls hP hD hS hl)
theorem kj_getsN (C : kX p s m args meth c A D ca ss n own cc ret) {index : Nat} {host : String} (hlink : Cond.fieldLinkNest own index "StarTracker" "FIRST_SETTINGS" "[I" host ∈ gNW) (hd : decode cc pc = .ok (.getstatic index, 3)) (kk : kJ p l e R s m args below meth c A Q D n ws cells slots lv (pc + 3) (.ref (ss 3) :: rest)) : kJ p l e R s m args below meth c A Q D n ws cells slots lv pc rest := by
  intro H locs ls hP hD hS hl
  obtain ⟨⟨hx, hb, hml, hown, hts, ⟨hK, hN, hSt⟩, hlk, hr, hA⟩, hMk, hFs⟩ := C
  exact va_getsN hx hb hSt.2.2.2.1 hS hown (va_Nw.use rfl (hN _ hlink)) (fun _ h9 => h9) hd (kk H locs ls hP hD hS hl)
theorem kj_clone (C : kX p s m args meth c A D ca ss n own cc ret) {index : Nat} (h1 : Cond.methodLink own index ⟨"[I", "clone", "()Ljava/lang/Object;"⟩ ∈ gTG) (hR : 1 ≤ R.frames ∧ 40 ≤ R.locals) (hcells : cells + 1 ≤ R.cells) (hslots : slots + 4 ≤ R.slots) (hw : (rest.map fun v => v.category).sum ≤ 8) (hd : decode cc pc = .ok (.invokevirtual index, 3)) (kk : ∀ q : Nat, kJ p l e R s m args below meth c A Q D n (ws ++ [(q, .inl (ca 0, 4, .inl (fun j => gFirst.getD j 0)))]) (cells + 1) (slots + 4) lv (pc + 3) (.ref q :: rest)) : kJ p l e R s m args below meth c A Q D n ws cells slots lv pc (.ref (ss 3) :: rest) := by
  intro H locs ls hP hD hS hl
  obtain ⟨⟨hx, hb, hml, hown, hts, ⟨hK, hN, hSt⟩, hlk, hr, hA⟩, hMk, hFs⟩ := C
  obtain ⟨cell, hc1, hc2, hc3, hc4, hc5, hc6⟩ := hFs
  have hcell : H[ss 3]? = some cell := (hS.2.1 _ (Array.getElem?_eq_some_iff.mp hc1).1 hc6).trans hc1
  obtain ⟨c0, t0, f1, f2, f3⟩ := Cond.castable_spec (va_Nw.use (A := args) rfl hMk.2.2.2.2)
  cases f1.symm.trans hMk.1.1
  have hnew : ({ cls := cell.cls, slots := cell.slots } : Cell) = vp_cell (ca 0) (4, .inl (fun j => gFirst.getD j 0)) := by
    rw [hc2, hc5]
    rfl
  have hcs : cell.slots.size = 4 := by rw [hc5]; rfl
  intro T hT Xs
  obtain ⟨-, kA, hkA, comp, hkind⟩ := State.isArrayOf_alike Xs.warmed.alike ((hK.2 0 _ rfl).1 0 (fun _ => .null))
  obtain ⟨-, kS, hkS, compS, hkindS⟩ := (hK.2 0 _ rfl).1 0 (fun _ => .null)
  have hfit : ∀ (i : Nat) (v : Value), cell.slots[i]? = some v → fits .int v = true := by
    intro i v hv
    rw [hc5] at hv
    match i, hv with
    | 0, hv => cases hv; rfl
    | 1, hv => cases hv; rfl
    | 2, hv => cases hv; rfl
    | 3, hv => cases hv; rfl
    | i + 4, hv => cases hv
  obtain ⟨vm', X', st⟩ := Xs.cloneArray hx hown (hts _ h1) (hts _ w_108) (hts _ w_109) (hts _ w_110) (hts _ w_111) (a := ss 3) (cell := cell) (by rw [hT]; exact hcell) hc4 hc3 (by rw [hc2]; exact hMk.1.1) f2 (by rw [hc2]; exact f3) (fun i v hv => by
      rw [hc2]
      have hk' : T.vm.classes[ca 0]? = some kA := hkA
      simpa [State.fitsSlot, State.slotType?, hk', hkind] using hfit i v hv) (g := F0 m pc ls (.ref (ss 3) :: rest)) rfl (by rw [hml]; exact hl.1) rfl (by rw [hb]; exact hd) hR.1 (by show 2 * 0 + _ + 14 ≤ _; omega) hcells (by rw [hcs]; exact hslots) (hloader := by rw [hc2]; exact Vm.clonesLoader_of_array hkS hkindS)
  rw [hnew, hcs] at X'
  generalize hH1 : H.push (vp_cell (ca 0) (4, .inl (fun j => gFirst.getD j 0))) = H1
  have z1 : H1.size = H.size + 1 := by rw [← hH1, Array.size_push]
  have e1 : H1[H.size]? = some (vp_cell (ca 0) (4, .inl (fun j => gFirst.getD j 0))) := by rw [← hH1, Array.getElem?_push_size]
  have o1 : ∀ q : Nat, q < H.size → H1[q]? = H[q]? := fun q hq => by rw [← hH1, Array.getElem?_push, if_neg (Nat.ne_of_lt hq)]
  obtain ⟨t, b1, b2⟩ := kk H.size H1 locs ls ((hP.kept (fun k y hy => o1 y.1 ((hP k y hy).lt))).app (fun k y hy => by
      have hz : k < 1 := (List.getElem?_eq_some_iff.mp hy).1
      rw [show k = 0 by omega] at hy
      cases hy
      exact e1)) (hD.push hP rfl (hA _ hS.1)) ⟨Nat.le_trans hS.1 (by omega), fun y h1 h2 => (o1 y (Nat.lt_of_lt_of_le h1 hS.1)).trans (hS.2.1 y h1 h2), hS.2.2⟩ hl ((T.setVm vm').pushCell (vp_cell (ca 0) (4, .inl (fun j => gFirst.getD j 0)))) (by rw [← hH1, ← hT]; rfl) X'
  refine ⟨t, st t ?_, b2⟩
  rw [hnew, hT]
  exact b1
theorem kj_cast (C : kX p s m args meth c A D ca ss n own cc ret) {index a : Nat} {x : vp_A} (h1 : Cond.classLink own index "[I" ∈ gTG) (q0 : Nat) (he : ws[q0]? = some (a, .inl (ca 0, x))) (hd : decode cc pc = .ok (.checkcast index, 3)) (kk : kJ p l e R s m args below meth c A Q D n ws cells slots lv (pc + 3) (.ref a :: rest)) : kJ p l e R s m args below meth c A Q D n ws cells slots lv pc (.ref a :: rest) := by
  intro H locs ls hP hD hS hl
  obtain ⟨⟨hx, hb, hml, hown, hts, ⟨hK, hN, hSt⟩, hlk, hr, hA⟩, hMk, hFs⟩ := C
  exact va_castA hx hb hown (hts _ h1) hP q0 he hMk.1.1 hd (kk H locs ls hP hD hS hl)
theorem kj_init (C : kX p s m args meth c A D ca ss n own cc ret) {y : MethodName} {cy : ByteArray} {ny d mc ms h0 index M : Nat} {e0 : va_E} {As st : List Value} {F : (Nat → Nat) → Nat → va_E} {wr : va_W} (q0 : Nat) (isR : List Nat) (hq : ws[q0]? = some (h0, e0)) (hRr : isR.map (fun i => ws[i]?) = wr.map some) (hnd : va_nd isR = true) (hdis : ∀ i ∈ isR, i ∉ [q0]) (hM : kMv l D ca ss y cy ny d mc ms h0 e0 As M F) (hlink : Cond.methodLink own index y ∈ gTG) (hin : Cond.instanceMethod y ∈ gTG) (hyn : y.name = "<init>") (hc : gCal y cy ny none As.length) (hR : d + 1 ≤ R.frames ∧ 19 + ny + 45 * d ≤ R.locals) (hcs : cells + mc ≤ R.cells ∧ slots + ms ≤ R.slots) (hst : st = As.reverse ++ .ref h0 :: rest) (hw : (rest.map fun v => v.category).sum ≤ 8) (hd : decode cc pc = .ok (.invokespecial index, 3)) (kk : ∀ a : Nat → Nat, a 0 = h0 → kJ p l e R s m args below meth c A Q D n (wr ++ gWn a M (F a)) (cells + mc) (slots + ms) lv (pc + 3) rest) : kJ p l e R s m args below meth c A Q D n ws cells slots lv pc st := by
  intro H locs ls hP hD hS hl
  obtain ⟨⟨hx, hb, hml, hown, hts, ⟨hK, hN, hSt⟩, hlk, hr, hA⟩, hMk, hFs⟩ := C
  have hC : [q0].map (fun i => ws[i]?) = [(h0, e0)].map some := by simp [hq]
  have hPc : va_P D vwCl [(h0, e0)] H := hP.sub (ws' := [(h0, e0)]) [q0] (by simp [hq])
  have hDc : va_D A [(h0, e0)] := hD.sub (ws' := [(h0, e0)]) [q0] (by simp [va_nd]) (by simp [hq])
  have hFc := va_free (wc := [(h0, e0)]) hD hS hA [q0] hC
  refine va_callv (va_runI (As := As) (rest := rest) ⟨hx, hb, hml, hown, hts⟩ (hM H.size) (cwI As.length hts (gGood hc.1) rfl rfl rfl (hts _ hc.2.1) (hts _ hlink) (hts _ hin) hyn hc.2.2 ⟨hR.1, by have := hR.2; simp only [kRm]; omega⟩) ⟨kPre_blind _, fun U hU hW => ⟨rfl, by rw [hU], by rw [hU]; exact hPc, hDc.weaken (fun _ _ _ _ => trivial), ⟨va_K.moved hW.alike hK, hN.warm hW, hSt.go hW.alike hFc (fun a h1 h2 => by rw [hU]; exact hS.2.1 a h1 h2)⟩, hMk.warm hW, hFs.go hFc (fun a h1 h2 => by rw [hU]; exact hS.2.1 a h1 h2)⟩⟩ rfl rfl hl.1 hst (lv_room hw) hd hcs) hS (fun q _ h => hFc q h) hFc (fun a t H1 locs1 ht hvm ha hB hz1 hk1 hS1 => ?_)
  obtain ⟨hP1, hD1⟩ := hB
  rw [ht] at hP1
  obtain ⟨hP2, hD2⟩ := va_join (wr := wr) (w1 := gWn a M (F a)) hP hD [q0] isR hC hRr hnd hdis hk1 hFc hP1 hD1
  exact kk a ha H1 locs1 ls hP2 hD2 hS1 hl
theorem kj_initN (C : kX p s m args meth c A D ca ss n own cc ret) {y : MethodName} {cy : ByteArray} {ny d mc ms h0 index M : Nat} {e0 : va_E} {As st : List Value} {F : (Nat → Nat) → Nat → va_E} {wr : va_W} (q0 : Nat) (isR : List Nat) (hq : ws[q0]? = some (h0, e0)) (hRr : isR.map (fun i => ws[i]?) = wr.map some) (hnd : va_nd isR = true) (hdis : ∀ i ∈ isR, i ∉ [q0]) (hM : kMv l D ca ss y cy ny d mc ms h0 e0 As M F) {host : String} (hlink : Cond.methodLinkNest own index y host ∈ gNW) (hin : Cond.instanceMethod y ∈ gTG) (hyn : y.name = "<init>") (hc : gCal y cy ny none As.length) (hR : d + 1 ≤ R.frames ∧ 19 + ny + 45 * d ≤ R.locals) (hcs : cells + mc ≤ R.cells ∧ slots + ms ≤ R.slots) (hst : st = As.reverse ++ .ref h0 :: rest) (hw : (rest.map fun v => v.category).sum ≤ 8) (hd : decode cc pc = .ok (.invokespecial index, 3)) (kk : ∀ a : Nat → Nat, a 0 = h0 → kJ p l e R s m args below meth c A Q D n (wr ++ gWn a M (F a)) (cells + mc) (slots + ms) lv (pc + 3) rest) : kJ p l e R s m args below meth c A Q D n ws cells slots lv pc st := by
  intro H locs ls hP hD hS hl
  obtain ⟨⟨hx, hb, hml, hown, hts, ⟨hK, hN, hSt⟩, hlk, hr, hA⟩, hMk, hFs⟩ := C
  have hC : [q0].map (fun i => ws[i]?) = [(h0, e0)].map some := by simp [hq]
  have hPc : va_P D vwCl [(h0, e0)] H := hP.sub (ws' := [(h0, e0)]) [q0] (by simp [hq])
  have hDc : va_D A [(h0, e0)] := hD.sub (ws' := [(h0, e0)]) [q0] (by simp [va_nd]) (by simp [hq])
  have hFc := va_free (wc := [(h0, e0)]) hD hS hA [q0] hC
  refine va_callv (va_runIN (As := As) (rest := rest) ⟨hx, hb, hml, hown, hts⟩ (hM H.size) ⟨va_cnB As.length hts (gGood hc.1) rfl rfl rfl (hN _ hlink) (hts _ hc.2.1) hc.2.2 ⟨hR.1, by have := hR.2; simp only [kRm]; omega⟩, hyn, hts _ hin⟩ ⟨kPre_blind _, fun U hU hW => ⟨rfl, by rw [hU], by rw [hU]; exact hPc, hDc.weaken (fun _ _ _ _ => trivial), ⟨va_K.moved hW.alike hK, hN.warm hW, hSt.go hW.alike hFc (fun a h1 h2 => by rw [hU]; exact hS.2.1 a h1 h2)⟩, hMk.warm hW, hFs.go hFc (fun a h1 h2 => by rw [hU]; exact hS.2.1 a h1 h2)⟩⟩ rfl rfl hl.1 hst (lv_room hw) hd hcs) hS (fun q _ h => hFc q h) hFc (fun a t H1 locs1 ht hvm ha hB hz1 hk1 hS1 => ?_)
  obtain ⟨hP1, hD1⟩ := hB
  rw [ht] at hP1
  obtain ⟨hP2, hD2⟩ := va_join (wr := wr) (w1 := gWn a M (F a)) hP hD [q0] isR hC hRr hnd hdis hk1 hFc hP1 hD1
  exact kk a ha H1 locs1 ls hP2 hD2 hS1 hl
theorem kj_ext (q0 : Nat) {a nn : Nat} {cA : ClassId} {x y : (Nat → Int32) ⊕ (Nat → Int64) ⊕ (Nat → UInt32) ⊕ (Nat → UInt64) ⊕ (Nat → Option Nat)} (he : ws[q0]? = some (a, .inl (cA, nn, x))) (hx : vp_cell cA (nn, x) = vp_cell cA (nn, y)) (hw : ws.set q0 (a, .inl (cA, nn, y)) = ws') (kk : kJ p l e R s m args below meth c A Q D n ws' cells slots lv pc rest) : kJ p l e R s m args below meth c A Q D n ws cells slots lv pc rest := by
  intro H locs ls hP hD hS hl
  subst hw
  refine kk H locs ls ?_ (hD.set he) hS hl
  have h0 := hP q0 _ he
  have hl0 := (List.getElem?_eq_some_iff.mp he).1
  intro k q hk
  rw [List.getElem?_set] at hk
  by_cases h : q0 = k
  · subst h
    rw [if_pos rfl, if_pos hl0] at hk
    cases hk
    show H[a]? = some (vp_cell cA (nn, y))
    rw [← hx]
    exact h0
  · rw [if_neg h] at hk
    exact hP k q hk
end KR2
