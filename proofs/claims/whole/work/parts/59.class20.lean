def eg1 (la : Int32) (tZ : Nat → Int32) (n0 n1 : Nat) (gS gP se : Nat → Int32) : Int64 := (hh (hh (hh (hh (hh (hh (hh (hh 17 (s_count (0 : Int32) la tZ n0 n1 gS gP se)) (s_count (1 : Int32) la tZ n0 n1 gS gP se)) (s_count (2 : Int32) la tZ n0 n1 gS gP se)) (s_count (3 : Int32) la tZ n0 n1 gS gP se)) (s_count (4 : Int32) la tZ n0 n1 gS gP se)) (s_count (5 : Int32) la tZ n0 n1 gS gP se)) (s_count (6 : Int32) la tZ n0 n1 gS gP se)) (s_count (7 : Int32) la tZ n0 n1 gS gP se))
def eg2 (la : Int32) (tZ : Nat → Int32) (n0 n1 : Nat) (gS gP se : Nat → Int32) : Int64 := (hh (hh (hh (hh (eg1 la tZ n0 n1 gS gP se) (s_looks (0 : Int32) n0 n1 gS gP se)) (s_looks (1 : Int32) n0 n1 gS gP se)) (s_looks (2 : Int32) n0 n1 gS gP se)) (s_looks (3 : Int32) n0 n1 gS gP se))
def eV (n0 n1 : Nat) (gS gP se : Nat → Int32) (p : Nat) (h : Int64) : Nat → Int64
  | 0 => h
  | i + 1 => hh (eV n0 n1 gS gP se p h i) (s_votes (nI p) (nI i) n0 n1 gS gP se)
def eS (n0 n1 : Nat) (gS gP se : Nat → Int32) (h : Int64) : Nat → Int64
  | 0 => h
  | p + 1 => eV n0 n1 gS gP se p (hh (hh (hh (hh (eS n0 n1 gS gP se h p) (s_taken (nI p) (0 : Int32) n0 n1 gS gP se)) (s_taken (nI p) (1 : Int32) n0 n1 gS gP se)) (s_confirmed (nI p) (0 : Int32) n0 n1 gS gP se)) (s_confirmed (nI p) (1 : Int32) n0 n1 gS gP se)) n0
def eB (n0 n1 : Nat) (gS gP se : Nat → Int32) (h : Int64) : Nat → Int64
  | 0 => h
  | i + 1 => (hh (hh (hh (hh (hh (hh (eB n0 n1 gS gP se h i) (s_place (nI i) (0 : Int32) n0 n1 gS gP se)) (s_place (nI i) (1 : Int32) n0 n1 gS gP se)) (s_place (nI i) (2 : Int32) n0 n1 gS gP se)) (s_key0 (0 : Int32) (1 : Int32) (nI i) (0 : Int32) n0 gS se)) (s_key0 (0 : Int32) (1 : Int32) (nI i) (1 : Int32) n0 gS se)) (s_key0 (0 : Int32) (1 : Int32) (nI i) (2 : Int32) n0 gS se))
def eT3 (tZ : Nat → Int32) (tG : Nat → Nat → Int32) (t i : Nat) (h : Int64) : Nat → Int64
  | 0 => h
  | j + 1 => hh (eT3 tZ tG t i h j) (s_thing (nI i) (nI j) (tZ t) (tG t))
def eT2 (tZ : Nat → Int32) (tG : Nat → Nat → Int32) (t : Nat) (h : Int64) : Nat → Int64
  | 0 => h
  | i + 1 => hh (eT3 tZ tG t i (eT2 tZ tG t h i) 4) (s_share (0 : Int32) (nI i) (tZ t) (tG t))
def eT1 (tZ : Nat → Int32) (tG : Nat → Nat → Int32) (h : Int64) : Nat → Int64
  | 0 => h
  | t + 1 => eT2 tZ tG t (eT1 tZ tG h t) 4
def eg3 (la : Int32) (tZ : Nat → Int32) (n0 n1 : Nat) (gS gP se : Nat → Int32) : Int64 := eB n0 n1 gS gP se (eS n0 n1 gS gP se (eg2 la tZ n0 n1 gS gP se) n1) n0
def eg4 (la : Int32) (tZ : Nat → Int32) (n0 n1 : Nat) (gS gP se : Nat → Int32) : Int64 := (hh (hh (hh (hh (hh (hh (eg3 la tZ n0 n1 gS gP se) (s_turn n0 n1 gS gP se)) (s_wrong n0 n1 gS gP se)) (s_better (0 : Int32) n0 n1 gS gP se)) (s_better (1 : Int32) n0 n1 gS gP se)) (s_spare (0 : Int32) n0 n1 gS gP se)) (s_spare (1 : Int32) n0 n1 gS gP se))
def s_digest (la : Int32) (tZ : Nat → Int32) (n0 n1 : Nat) (gS gP se : Nat → Int32) (tG : Nat → Nat → Int32) : Int64 := eT1 tZ tG (eg4 la tZ n0 n1 gS gP se) 4
set_option maxHeartbeats 400000 in
set_option maxRecDepth 100000 in
theorem c_digest {l : Launch} {D : va_G} {ca ss ad : Nat → Nat} {f : Nat → va_E}  (la : Int32) (n0 n1 : Nat) (gS gP se : Nat → Int32) (tS tP tZ : Nat → Int32) (tG : Nat → Nat → Int32) (hc0 : f 0 = .inr (10, [.ref (ad 1), .ref (ad 69), .ref (ad 70), .int la])) (hI : cSI ca ad n0 n1 gS gP se f) (hT : cTr ca ad tS tP tZ tG f) (hX : cHK n0 n1 gS gP se) (hB : cHB n0 n1 gS gP se) (hB0 : ¬ kBet n0 n1 gS gP se 0 ≤ -1) (hS : cHS n0 n1 gS gP se) (hq : ∀ t, t < 4 → trOkC (tZ t) (tG t)) : gMl l D ca ss ad 108 yX11_digest cX11_digest 6 (some .long) 7 f [.ref (ad 0)] (fun r u => r = s_digest la tZ n0 n1 gS gP se tG ∧ cSI ca ad n0 n1 gS gP se u ∧ ∀ k, k = 0 ∨ 69 ≤ k → u k = f k) := by
  refine gMl_ofK (by decide +kernel) (Nat.le_of_ble_eq_true rfl) (lv0 := [(0, .ref (ad 0))]) rfl (fun pT eT sT mT aT below meth cT AT QT C RT => ?_)
  have C : gX pT sT mT aT meth cT AT D ca ss 6 RX11 cX11_digest (some .long) := C
  have hI0 := hI
  obtain ⟨⟨hn0, hn1, hc2, hc3, hc4, hc5, hc6⟩, ⟨hM, hP, hStp, hR, hF, hG⟩, lo, ma, bt, bc, sp, sc, fk, bk, sk, hc1, hfk, hbk, hsk⟩ := hI
  have hI := hI0
  have hc00 := hc0
  have hT0 := hT
  have hsm : ∀ k, k = 0 ∨ 69 ≤ k → f k = f k := fun k _ => rfl
  refine gj_ldc2 C (v := 17) w_828 dX11_digest_0 ?_
  refine gj_lstore_n C (lv' := [(1, .long 17), (0, .ref (ad 0))]) 1 dX11_digest_3 rfl (by decide) rfl ?_
  refine gj_iconst C (v := 0) (by decide) dX11_digest_4 ?_
  refine gj_istore_n C (lv' := [(3, .int 0), (1, .long 17), (0, .ref (ad 0))]) 3 dX11_digest_5 rfl (by decide) rfl ?_
  refine gj_iload_n C 3 dX11_digest_6 rfl 0 rfl ?_
  refine gj_bipush C (v := 7) (by decide) dX11_digest_7 ?_
  refine gj_icmp_gt C 31 dX11_digest_9 (by decide) (fun c_1 => absurd c_1 (by decide)) (fun c_1 => ?_)
  refine gj_ldc2 C (v := 31) w_829 dX11_digest_12 ?_
  refine gj_lload_n C 1 dX11_digest_15 rfl 1 rfl ?_
  refine gj_lmul C dX11_digest_16 ?_
  refine gj_aload_n C 0 dX11_digest_17 rfl 2 rfl ?_
  refine gj_iload_n C 3 dX11_digest_18 rfl 0 rfl ?_
  refine gj_callVi C mi_X11_count w_830 0 (by decide) hc0 rfl (c_count (0 : Int32) la n0 n1 gS gP se tS tP tZ tG hc0 hI hT hX) mc_X11_count ⟨Nat.le_of_ble_eq_true rfl, Nat.le_of_ble_eq_true rfl⟩ (rest := [.long (31 * 17)]) rfl (Nat.le_of_ble_eq_true rfl) dX11_digest_19 (fun r uD h => ?_)
  obtain ⟨hr_, hI, hsD⟩ := h; rw [hr_]
  have hc0 := (hsD 0 (Or.inl rfl)).trans hc0
  have hT := cTr_c hT (fun k a b => hsD k (Or.inr a))
  have hsm : ∀ k, k = 0 ∨ 69 ≤ k → uD k = f k := fun k hk => (hsD k hk).trans (hsm k hk)
  have hI_ := hI
  obtain ⟨⟨-, -, hd2, hd3, hd4, hd5, hd6⟩, -, lo, ma, bt, bc, sp, sc, fk, bk, sk, hd1, -⟩ := hI_
  refine gj_i2l C dX11_digest_22 ?_
  refine gj_ladd C dX11_digest_23 ?_
  refine gj_setl (y := hh 17 (s_count (0 : Int32) la tZ n0 n1 gS gP se)) rfl ?_
  refine gj_lstore_n C (lv' := [(1, .long (hh 17 (s_count (0 : Int32) la tZ n0 n1 gS gP se))), (3, .int 0), (0, .ref (ad 0))]) 1 dX11_digest_24 rfl (by decide) rfl ?_
  refine gj_iinc C (v := 1) (lv' := [(3, .int 1), (1, .long (hh 17 (s_count (0 : Int32) la tZ n0 n1 gS gP se))), (0, .ref (ad 0))]) dX11_digest_25 1 rfl (by decide) (by decide) rfl ?_
  refine gj_goto C 6 dX11_digest_28 (by decide) ?_
  refine gj_iload_n C 3 dX11_digest_6 rfl 0 rfl ?_
  refine gj_bipush C (v := 7) (by decide) dX11_digest_7 ?_
  refine gj_icmp_gt C 31 dX11_digest_9 (by decide) (fun c_2 => absurd c_2 (by decide)) (fun c_2 => ?_)
  refine gj_ldc2 C (v := 31) w_829 dX11_digest_12 ?_
  refine gj_lload_n C 1 dX11_digest_15 rfl 1 rfl ?_
  refine gj_lmul C dX11_digest_16 ?_
  refine gj_aload_n C 0 dX11_digest_17 rfl 2 rfl ?_
  refine gj_iload_n C 3 dX11_digest_18 rfl 0 rfl ?_
  refine gj_callVi C mi_X11_count w_830 0 (by decide) hc0 rfl (c_count (1 : Int32) la n0 n1 gS gP se tS tP tZ tG hc0 hI hT hX) mc_X11_count ⟨Nat.le_of_ble_eq_true rfl, Nat.le_of_ble_eq_true rfl⟩ (rest := [.long (31 * (hh 17 (s_count (0 : Int32) la tZ n0 n1 gS gP se)))]) rfl (Nat.le_of_ble_eq_true rfl) dX11_digest_19 (fun r uD h => ?_)
  obtain ⟨hr_, hI, hsD⟩ := h; rw [hr_]
  have hc0 := (hsD 0 (Or.inl rfl)).trans hc0
  have hT := cTr_c hT (fun k a b => hsD k (Or.inr a))
  have hsm : ∀ k, k = 0 ∨ 69 ≤ k → uD k = f k := fun k hk => (hsD k hk).trans (hsm k hk)
  have hI_ := hI
  obtain ⟨⟨-, -, hd2, hd3, hd4, hd5, hd6⟩, -, lo, ma, bt, bc, sp, sc, fk, bk, sk, hd1, -⟩ := hI_
  refine gj_i2l C dX11_digest_22 ?_
  refine gj_ladd C dX11_digest_23 ?_
  refine gj_setl (y := hh (hh 17 (s_count (0 : Int32) la tZ n0 n1 gS gP se)) (s_count (1 : Int32) la tZ n0 n1 gS gP se)) rfl ?_
  refine gj_lstore_n C (lv' := [(1, .long (hh (hh 17 (s_count (0 : Int32) la tZ n0 n1 gS gP se)) (s_count (1 : Int32) la tZ n0 n1 gS gP se))), (3, .int 1), (0, .ref (ad 0))]) 1 dX11_digest_24 rfl (by decide) rfl ?_
  refine gj_iinc C (v := 2) (lv' := [(3, .int 2), (1, .long (hh (hh 17 (s_count (0 : Int32) la tZ n0 n1 gS gP se)) (s_count (1 : Int32) la tZ n0 n1 gS gP se))), (0, .ref (ad 0))]) dX11_digest_25 1 rfl (by decide) (by decide) rfl ?_
  refine gj_goto C 6 dX11_digest_28 (by decide) ?_
  refine gj_iload_n C 3 dX11_digest_6 rfl 0 rfl ?_
  refine gj_bipush C (v := 7) (by decide) dX11_digest_7 ?_
  refine gj_icmp_gt C 31 dX11_digest_9 (by decide) (fun c_3 => absurd c_3 (by decide)) (fun c_3 => ?_)
  refine gj_ldc2 C (v := 31) w_829 dX11_digest_12 ?_
  refine gj_lload_n C 1 dX11_digest_15 rfl 1 rfl ?_
  refine gj_lmul C dX11_digest_16 ?_
  refine gj_aload_n C 0 dX11_digest_17 rfl 2 rfl ?_
  refine gj_iload_n C 3 dX11_digest_18 rfl 0 rfl ?_
  refine gj_callVi C mi_X11_count w_830 0 (by decide) hc0 rfl (c_count (2 : Int32) la n0 n1 gS gP se tS tP tZ tG hc0 hI hT hX) mc_X11_count ⟨Nat.le_of_ble_eq_true rfl, Nat.le_of_ble_eq_true rfl⟩ (rest := [.long (31 * (hh (hh 17 (s_count (0 : Int32) la tZ n0 n1 gS gP se)) (s_count (1 : Int32) la tZ n0 n1 gS gP se)))]) rfl (Nat.le_of_ble_eq_true rfl) dX11_digest_19 (fun r uD h => ?_)
  obtain ⟨hr_, hI, hsD⟩ := h; rw [hr_]
  have hc0 := (hsD 0 (Or.inl rfl)).trans hc0
  have hT := cTr_c hT (fun k a b => hsD k (Or.inr a))
  have hsm : ∀ k, k = 0 ∨ 69 ≤ k → uD k = f k := fun k hk => (hsD k hk).trans (hsm k hk)
  have hI_ := hI
  obtain ⟨⟨-, -, hd2, hd3, hd4, hd5, hd6⟩, -, lo, ma, bt, bc, sp, sc, fk, bk, sk, hd1, -⟩ := hI_
  refine gj_i2l C dX11_digest_22 ?_
  refine gj_ladd C dX11_digest_23 ?_
  refine gj_setl (y := hh (hh (hh 17 (s_count (0 : Int32) la tZ n0 n1 gS gP se)) (s_count (1 : Int32) la tZ n0 n1 gS gP se)) (s_count (2 : Int32) la tZ n0 n1 gS gP se)) rfl ?_
  refine gj_lstore_n C (lv' := [(1, .long (hh (hh (hh 17 (s_count (0 : Int32) la tZ n0 n1 gS gP se)) (s_count (1 : Int32) la tZ n0 n1 gS gP se)) (s_count (2 : Int32) la tZ n0 n1 gS gP se))), (3, .int 2), (0, .ref (ad 0))]) 1 dX11_digest_24 rfl (by decide) rfl ?_
  refine gj_iinc C (v := 3) (lv' := [(3, .int 3), (1, .long (hh (hh (hh 17 (s_count (0 : Int32) la tZ n0 n1 gS gP se)) (s_count (1 : Int32) la tZ n0 n1 gS gP se)) (s_count (2 : Int32) la tZ n0 n1 gS gP se))), (0, .ref (ad 0))]) dX11_digest_25 1 rfl (by decide) (by decide) rfl ?_
  refine gj_goto C 6 dX11_digest_28 (by decide) ?_
  refine gj_iload_n C 3 dX11_digest_6 rfl 0 rfl ?_
  refine gj_bipush C (v := 7) (by decide) dX11_digest_7 ?_
  refine gj_icmp_gt C 31 dX11_digest_9 (by decide) (fun c_4 => absurd c_4 (by decide)) (fun c_4 => ?_)
  refine gj_ldc2 C (v := 31) w_829 dX11_digest_12 ?_
  refine gj_lload_n C 1 dX11_digest_15 rfl 1 rfl ?_
  refine gj_lmul C dX11_digest_16 ?_
  refine gj_aload_n C 0 dX11_digest_17 rfl 2 rfl ?_
  refine gj_iload_n C 3 dX11_digest_18 rfl 0 rfl ?_
  refine gj_callVi C mi_X11_count w_830 0 (by decide) hc0 rfl (c_count (3 : Int32) la n0 n1 gS gP se tS tP tZ tG hc0 hI hT hX) mc_X11_count ⟨Nat.le_of_ble_eq_true rfl, Nat.le_of_ble_eq_true rfl⟩ (rest := [.long (31 * (hh (hh (hh 17 (s_count (0 : Int32) la tZ n0 n1 gS gP se)) (s_count (1 : Int32) la tZ n0 n1 gS gP se)) (s_count (2 : Int32) la tZ n0 n1 gS gP se)))]) rfl (Nat.le_of_ble_eq_true rfl) dX11_digest_19 (fun r uD h => ?_)
  obtain ⟨hr_, hI, hsD⟩ := h; rw [hr_]
  have hc0 := (hsD 0 (Or.inl rfl)).trans hc0
  have hT := cTr_c hT (fun k a b => hsD k (Or.inr a))
  have hsm : ∀ k, k = 0 ∨ 69 ≤ k → uD k = f k := fun k hk => (hsD k hk).trans (hsm k hk)
  have hI_ := hI
  obtain ⟨⟨-, -, hd2, hd3, hd4, hd5, hd6⟩, -, lo, ma, bt, bc, sp, sc, fk, bk, sk, hd1, -⟩ := hI_
  refine gj_i2l C dX11_digest_22 ?_
  refine gj_ladd C dX11_digest_23 ?_
  refine gj_setl (y := hh (hh (hh (hh 17 (s_count (0 : Int32) la tZ n0 n1 gS gP se)) (s_count (1 : Int32) la tZ n0 n1 gS gP se)) (s_count (2 : Int32) la tZ n0 n1 gS gP se)) (s_count (3 : Int32) la tZ n0 n1 gS gP se)) rfl ?_
  refine gj_lstore_n C (lv' := [(1, .long (hh (hh (hh (hh 17 (s_count (0 : Int32) la tZ n0 n1 gS gP se)) (s_count (1 : Int32) la tZ n0 n1 gS gP se)) (s_count (2 : Int32) la tZ n0 n1 gS gP se)) (s_count (3 : Int32) la tZ n0 n1 gS gP se))), (3, .int 3), (0, .ref (ad 0))]) 1 dX11_digest_24 rfl (by decide) rfl ?_
  refine gj_iinc C (v := 4) (lv' := [(3, .int 4), (1, .long (hh (hh (hh (hh 17 (s_count (0 : Int32) la tZ n0 n1 gS gP se)) (s_count (1 : Int32) la tZ n0 n1 gS gP se)) (s_count (2 : Int32) la tZ n0 n1 gS gP se)) (s_count (3 : Int32) la tZ n0 n1 gS gP se))), (0, .ref (ad 0))]) dX11_digest_25 1 rfl (by decide) (by decide) rfl ?_
  refine gj_goto C 6 dX11_digest_28 (by decide) ?_
  refine gj_iload_n C 3 dX11_digest_6 rfl 0 rfl ?_
  refine gj_bipush C (v := 7) (by decide) dX11_digest_7 ?_
  refine gj_icmp_gt C 31 dX11_digest_9 (by decide) (fun c_5 => absurd c_5 (by decide)) (fun c_5 => ?_)
  refine gj_ldc2 C (v := 31) w_829 dX11_digest_12 ?_
  refine gj_lload_n C 1 dX11_digest_15 rfl 1 rfl ?_
  refine gj_lmul C dX11_digest_16 ?_
  refine gj_aload_n C 0 dX11_digest_17 rfl 2 rfl ?_
  refine gj_iload_n C 3 dX11_digest_18 rfl 0 rfl ?_
  refine gj_callVi C mi_X11_count w_830 0 (by decide) hc0 rfl (c_count (4 : Int32) la n0 n1 gS gP se tS tP tZ tG hc0 hI hT hX) mc_X11_count ⟨Nat.le_of_ble_eq_true rfl, Nat.le_of_ble_eq_true rfl⟩ (rest := [.long (31 * (hh (hh (hh (hh 17 (s_count (0 : Int32) la tZ n0 n1 gS gP se)) (s_count (1 : Int32) la tZ n0 n1 gS gP se)) (s_count (2 : Int32) la tZ n0 n1 gS gP se)) (s_count (3 : Int32) la tZ n0 n1 gS gP se)))]) rfl (Nat.le_of_ble_eq_true rfl) dX11_digest_19 (fun r uD h => ?_)
  obtain ⟨hr_, hI, hsD⟩ := h; rw [hr_]
  have hc0 := (hsD 0 (Or.inl rfl)).trans hc0
  have hT := cTr_c hT (fun k a b => hsD k (Or.inr a))
  have hsm : ∀ k, k = 0 ∨ 69 ≤ k → uD k = f k := fun k hk => (hsD k hk).trans (hsm k hk)
  have hI_ := hI
  obtain ⟨⟨-, -, hd2, hd3, hd4, hd5, hd6⟩, -, lo, ma, bt, bc, sp, sc, fk, bk, sk, hd1, -⟩ := hI_
  refine gj_i2l C dX11_digest_22 ?_
  refine gj_ladd C dX11_digest_23 ?_
  refine gj_setl (y := hh (hh (hh (hh (hh 17 (s_count (0 : Int32) la tZ n0 n1 gS gP se)) (s_count (1 : Int32) la tZ n0 n1 gS gP se)) (s_count (2 : Int32) la tZ n0 n1 gS gP se)) (s_count (3 : Int32) la tZ n0 n1 gS gP se)) (s_count (4 : Int32) la tZ n0 n1 gS gP se)) rfl ?_
  refine gj_lstore_n C (lv' := [(1, .long (hh (hh (hh (hh (hh 17 (s_count (0 : Int32) la tZ n0 n1 gS gP se)) (s_count (1 : Int32) la tZ n0 n1 gS gP se)) (s_count (2 : Int32) la tZ n0 n1 gS gP se)) (s_count (3 : Int32) la tZ n0 n1 gS gP se)) (s_count (4 : Int32) la tZ n0 n1 gS gP se))), (3, .int 4), (0, .ref (ad 0))]) 1 dX11_digest_24 rfl (by decide) rfl ?_
  refine gj_iinc C (v := 5) (lv' := [(3, .int 5), (1, .long (hh (hh (hh (hh (hh 17 (s_count (0 : Int32) la tZ n0 n1 gS gP se)) (s_count (1 : Int32) la tZ n0 n1 gS gP se)) (s_count (2 : Int32) la tZ n0 n1 gS gP se)) (s_count (3 : Int32) la tZ n0 n1 gS gP se)) (s_count (4 : Int32) la tZ n0 n1 gS gP se))), (0, .ref (ad 0))]) dX11_digest_25 1 rfl (by decide) (by decide) rfl ?_
  refine gj_goto C 6 dX11_digest_28 (by decide) ?_
  refine gj_iload_n C 3 dX11_digest_6 rfl 0 rfl ?_
  refine gj_bipush C (v := 7) (by decide) dX11_digest_7 ?_
  refine gj_icmp_gt C 31 dX11_digest_9 (by decide) (fun c_6 => absurd c_6 (by decide)) (fun c_6 => ?_)
  refine gj_ldc2 C (v := 31) w_829 dX11_digest_12 ?_
  refine gj_lload_n C 1 dX11_digest_15 rfl 1 rfl ?_
  refine gj_lmul C dX11_digest_16 ?_
  refine gj_aload_n C 0 dX11_digest_17 rfl 2 rfl ?_
  refine gj_iload_n C 3 dX11_digest_18 rfl 0 rfl ?_
  refine gj_callVi C mi_X11_count w_830 0 (by decide) hc0 rfl (c_count (5 : Int32) la n0 n1 gS gP se tS tP tZ tG hc0 hI hT hX) mc_X11_count ⟨Nat.le_of_ble_eq_true rfl, Nat.le_of_ble_eq_true rfl⟩ (rest := [.long (31 * (hh (hh (hh (hh (hh 17 (s_count (0 : Int32) la tZ n0 n1 gS gP se)) (s_count (1 : Int32) la tZ n0 n1 gS gP se)) (s_count (2 : Int32) la tZ n0 n1 gS gP se)) (s_count (3 : Int32) la tZ n0 n1 gS gP se)) (s_count (4 : Int32) la tZ n0 n1 gS gP se)))]) rfl (Nat.le_of_ble_eq_true rfl) dX11_digest_19 (fun r uD h => ?_)
  obtain ⟨hr_, hI, hsD⟩ := h; rw [hr_]
  have hc0 := (hsD 0 (Or.inl rfl)).trans hc0
  have hT := cTr_c hT (fun k a b => hsD k (Or.inr a))
  have hsm : ∀ k, k = 0 ∨ 69 ≤ k → uD k = f k := fun k hk => (hsD k hk).trans (hsm k hk)
  have hI_ := hI
  obtain ⟨⟨-, -, hd2, hd3, hd4, hd5, hd6⟩, -, lo, ma, bt, bc, sp, sc, fk, bk, sk, hd1, -⟩ := hI_
  refine gj_i2l C dX11_digest_22 ?_
  refine gj_ladd C dX11_digest_23 ?_
  refine gj_setl (y := hh (hh (hh (hh (hh (hh 17 (s_count (0 : Int32) la tZ n0 n1 gS gP se)) (s_count (1 : Int32) la tZ n0 n1 gS gP se)) (s_count (2 : Int32) la tZ n0 n1 gS gP se)) (s_count (3 : Int32) la tZ n0 n1 gS gP se)) (s_count (4 : Int32) la tZ n0 n1 gS gP se)) (s_count (5 : Int32) la tZ n0 n1 gS gP se)) rfl ?_
  refine gj_lstore_n C (lv' := [(1, .long (hh (hh (hh (hh (hh (hh 17 (s_count (0 : Int32) la tZ n0 n1 gS gP se)) (s_count (1 : Int32) la tZ n0 n1 gS gP se)) (s_count (2 : Int32) la tZ n0 n1 gS gP se)) (s_count (3 : Int32) la tZ n0 n1 gS gP se)) (s_count (4 : Int32) la tZ n0 n1 gS gP se)) (s_count (5 : Int32) la tZ n0 n1 gS gP se))), (3, .int 5), (0, .ref (ad 0))]) 1 dX11_digest_24 rfl (by decide) rfl ?_
  refine gj_iinc C (v := 6) (lv' := [(3, .int 6), (1, .long (hh (hh (hh (hh (hh (hh 17 (s_count (0 : Int32) la tZ n0 n1 gS gP se)) (s_count (1 : Int32) la tZ n0 n1 gS gP se)) (s_count (2 : Int32) la tZ n0 n1 gS gP se)) (s_count (3 : Int32) la tZ n0 n1 gS gP se)) (s_count (4 : Int32) la tZ n0 n1 gS gP se)) (s_count (5 : Int32) la tZ n0 n1 gS gP se))), (0, .ref (ad 0))]) dX11_digest_25 1 rfl (by decide) (by decide) rfl ?_
  refine gj_goto C 6 dX11_digest_28 (by decide) ?_
  refine gj_iload_n C 3 dX11_digest_6 rfl 0 rfl ?_
  refine gj_bipush C (v := 7) (by decide) dX11_digest_7 ?_
  refine gj_icmp_gt C 31 dX11_digest_9 (by decide) (fun c_7 => absurd c_7 (by decide)) (fun c_7 => ?_)
  refine gj_ldc2 C (v := 31) w_829 dX11_digest_12 ?_
  refine gj_lload_n C 1 dX11_digest_15 rfl 1 rfl ?_
  refine gj_lmul C dX11_digest_16 ?_
  refine gj_aload_n C 0 dX11_digest_17 rfl 2 rfl ?_
  refine gj_iload_n C 3 dX11_digest_18 rfl 0 rfl ?_
  refine gj_callVi C mi_X11_count w_830 0 (by decide) hc0 rfl (c_count (6 : Int32) la n0 n1 gS gP se tS tP tZ tG hc0 hI hT hX) mc_X11_count ⟨Nat.le_of_ble_eq_true rfl, Nat.le_of_ble_eq_true rfl⟩ (rest := [.long (31 * (hh (hh (hh (hh (hh (hh 17 (s_count (0 : Int32) la tZ n0 n1 gS gP se)) (s_count (1 : Int32) la tZ n0 n1 gS gP se)) (s_count (2 : Int32) la tZ n0 n1 gS gP se)) (s_count (3 : Int32) la tZ n0 n1 gS gP se)) (s_count (4 : Int32) la tZ n0 n1 gS gP se)) (s_count (5 : Int32) la tZ n0 n1 gS gP se)))]) rfl (Nat.le_of_ble_eq_true rfl) dX11_digest_19 (fun r uD h => ?_)
  obtain ⟨hr_, hI, hsD⟩ := h; rw [hr_]
  have hc0 := (hsD 0 (Or.inl rfl)).trans hc0
  have hT := cTr_c hT (fun k a b => hsD k (Or.inr a))
  have hsm : ∀ k, k = 0 ∨ 69 ≤ k → uD k = f k := fun k hk => (hsD k hk).trans (hsm k hk)
  have hI_ := hI
  obtain ⟨⟨-, -, hd2, hd3, hd4, hd5, hd6⟩, -, lo, ma, bt, bc, sp, sc, fk, bk, sk, hd1, -⟩ := hI_
  refine gj_i2l C dX11_digest_22 ?_
  refine gj_ladd C dX11_digest_23 ?_
  refine gj_setl (y := hh (hh (hh (hh (hh (hh (hh 17 (s_count (0 : Int32) la tZ n0 n1 gS gP se)) (s_count (1 : Int32) la tZ n0 n1 gS gP se)) (s_count (2 : Int32) la tZ n0 n1 gS gP se)) (s_count (3 : Int32) la tZ n0 n1 gS gP se)) (s_count (4 : Int32) la tZ n0 n1 gS gP se)) (s_count (5 : Int32) la tZ n0 n1 gS gP se)) (s_count (6 : Int32) la tZ n0 n1 gS gP se)) rfl ?_
  refine gj_lstore_n C (lv' := [(1, .long (hh (hh (hh (hh (hh (hh (hh 17 (s_count (0 : Int32) la tZ n0 n1 gS gP se)) (s_count (1 : Int32) la tZ n0 n1 gS gP se)) (s_count (2 : Int32) la tZ n0 n1 gS gP se)) (s_count (3 : Int32) la tZ n0 n1 gS gP se)) (s_count (4 : Int32) la tZ n0 n1 gS gP se)) (s_count (5 : Int32) la tZ n0 n1 gS gP se)) (s_count (6 : Int32) la tZ n0 n1 gS gP se))), (3, .int 6), (0, .ref (ad 0))]) 1 dX11_digest_24 rfl (by decide) rfl ?_
  refine gj_iinc C (v := 7) (lv' := [(3, .int 7), (1, .long (hh (hh (hh (hh (hh (hh (hh 17 (s_count (0 : Int32) la tZ n0 n1 gS gP se)) (s_count (1 : Int32) la tZ n0 n1 gS gP se)) (s_count (2 : Int32) la tZ n0 n1 gS gP se)) (s_count (3 : Int32) la tZ n0 n1 gS gP se)) (s_count (4 : Int32) la tZ n0 n1 gS gP se)) (s_count (5 : Int32) la tZ n0 n1 gS gP se)) (s_count (6 : Int32) la tZ n0 n1 gS gP se))), (0, .ref (ad 0))]) dX11_digest_25 1 rfl (by decide) (by decide) rfl ?_
  refine gj_goto C 6 dX11_digest_28 (by decide) ?_
  refine gj_iload_n C 3 dX11_digest_6 rfl 0 rfl ?_
  refine gj_bipush C (v := 7) (by decide) dX11_digest_7 ?_
  refine gj_icmp_gt C 31 dX11_digest_9 (by decide) (fun c_8 => absurd c_8 (by decide)) (fun c_8 => ?_)
  refine gj_ldc2 C (v := 31) w_829 dX11_digest_12 ?_
  refine gj_lload_n C 1 dX11_digest_15 rfl 1 rfl ?_
  refine gj_lmul C dX11_digest_16 ?_
  refine gj_aload_n C 0 dX11_digest_17 rfl 2 rfl ?_
  refine gj_iload_n C 3 dX11_digest_18 rfl 0 rfl ?_
  refine gj_callVi C mi_X11_count w_830 0 (by decide) hc0 rfl (c_count (7 : Int32) la n0 n1 gS gP se tS tP tZ tG hc0 hI hT hX) mc_X11_count ⟨Nat.le_of_ble_eq_true rfl, Nat.le_of_ble_eq_true rfl⟩ (rest := [.long (31 * (hh (hh (hh (hh (hh (hh (hh 17 (s_count (0 : Int32) la tZ n0 n1 gS gP se)) (s_count (1 : Int32) la tZ n0 n1 gS gP se)) (s_count (2 : Int32) la tZ n0 n1 gS gP se)) (s_count (3 : Int32) la tZ n0 n1 gS gP se)) (s_count (4 : Int32) la tZ n0 n1 gS gP se)) (s_count (5 : Int32) la tZ n0 n1 gS gP se)) (s_count (6 : Int32) la tZ n0 n1 gS gP se)))]) rfl (Nat.le_of_ble_eq_true rfl) dX11_digest_19 (fun r uD h => ?_)
  obtain ⟨hr_, hI, hsD⟩ := h; rw [hr_]
  have hc0 := (hsD 0 (Or.inl rfl)).trans hc0
  have hT := cTr_c hT (fun k a b => hsD k (Or.inr a))
  have hsm : ∀ k, k = 0 ∨ 69 ≤ k → uD k = f k := fun k hk => (hsD k hk).trans (hsm k hk)
  have hI_ := hI
  obtain ⟨⟨-, -, hd2, hd3, hd4, hd5, hd6⟩, -, lo, ma, bt, bc, sp, sc, fk, bk, sk, hd1, -⟩ := hI_
  refine gj_i2l C dX11_digest_22 ?_
  refine gj_ladd C dX11_digest_23 ?_
  refine gj_setl (y := hh (hh (hh (hh (hh (hh (hh (hh 17 (s_count (0 : Int32) la tZ n0 n1 gS gP se)) (s_count (1 : Int32) la tZ n0 n1 gS gP se)) (s_count (2 : Int32) la tZ n0 n1 gS gP se)) (s_count (3 : Int32) la tZ n0 n1 gS gP se)) (s_count (4 : Int32) la tZ n0 n1 gS gP se)) (s_count (5 : Int32) la tZ n0 n1 gS gP se)) (s_count (6 : Int32) la tZ n0 n1 gS gP se)) (s_count (7 : Int32) la tZ n0 n1 gS gP se)) rfl ?_
  refine gj_lstore_n C (lv' := [(1, .long (hh (hh (hh (hh (hh (hh (hh (hh 17 (s_count (0 : Int32) la tZ n0 n1 gS gP se)) (s_count (1 : Int32) la tZ n0 n1 gS gP se)) (s_count (2 : Int32) la tZ n0 n1 gS gP se)) (s_count (3 : Int32) la tZ n0 n1 gS gP se)) (s_count (4 : Int32) la tZ n0 n1 gS gP se)) (s_count (5 : Int32) la tZ n0 n1 gS gP se)) (s_count (6 : Int32) la tZ n0 n1 gS gP se)) (s_count (7 : Int32) la tZ n0 n1 gS gP se))), (3, .int 7), (0, .ref (ad 0))]) 1 dX11_digest_24 rfl (by decide) rfl ?_
  refine gj_iinc C (v := 8) (lv' := [(3, .int 8), (1, .long (hh (hh (hh (hh (hh (hh (hh (hh 17 (s_count (0 : Int32) la tZ n0 n1 gS gP se)) (s_count (1 : Int32) la tZ n0 n1 gS gP se)) (s_count (2 : Int32) la tZ n0 n1 gS gP se)) (s_count (3 : Int32) la tZ n0 n1 gS gP se)) (s_count (4 : Int32) la tZ n0 n1 gS gP se)) (s_count (5 : Int32) la tZ n0 n1 gS gP se)) (s_count (6 : Int32) la tZ n0 n1 gS gP se)) (s_count (7 : Int32) la tZ n0 n1 gS gP se))), (0, .ref (ad 0))]) dX11_digest_25 1 rfl (by decide) (by decide) rfl ?_
  refine gj_goto C 6 dX11_digest_28 (by decide) ?_
  refine gj_iload_n C 3 dX11_digest_6 rfl 0 rfl ?_
  refine gj_bipush C (v := 7) (by decide) dX11_digest_7 ?_
  refine gj_icmp_gt C 31 dX11_digest_9 (by decide) (fun c_9 => ?_) (fun c_9 => absurd (by decide) c_9)
  refine gj_lvs (lv' := [(3, .int 8), (1, .long (eg1 la tZ n0 n1 gS gP se)), (0, .ref (ad 0))]) rfl ?_
  refine gj_iconst C (v := 0) (by decide) dX11_digest_31 ?_
  refine gj_istore_n C (lv' := [(3, .int 0), (1, .long (eg1 la tZ n0 n1 gS gP se)), (0, .ref (ad 0))]) 3 dX11_digest_32 rfl (by decide) rfl ?_
  refine gj_iload_n C 3 dX11_digest_33 rfl 0 rfl ?_
  refine gj_iconst C (v := 3) (by decide) dX11_digest_34 ?_
  refine gj_icmp_gt C 57 dX11_digest_35 (by decide) (fun c_10 => absurd c_10 (by decide)) (fun c_10 => ?_)
  refine gj_ldc2 C (v := 31) w_829 dX11_digest_38 ?_
  refine gj_lload_n C 1 dX11_digest_41 rfl 1 rfl ?_
  refine gj_lmul C dX11_digest_42 ?_
  refine gj_aload_n C 0 dX11_digest_43 rfl 2 rfl ?_
  refine gj_iload_n C 3 dX11_digest_44 rfl 0 rfl ?_
  refine gj_callVi C mi_X11_looks w_831 0 (by decide) hc0 rfl (c_looks (0 : Int32) la n0 n1 gS gP se hc0 hI hX) mc_X11_looks ⟨Nat.le_of_ble_eq_true rfl, Nat.le_of_ble_eq_true rfl⟩ (rest := [.long (31 * (eg1 la tZ n0 n1 gS gP se))]) rfl (Nat.le_of_ble_eq_true rfl) dX11_digest_45 (fun r uD h => ?_)
  obtain ⟨hr_, hI, hsD⟩ := h; rw [hr_]
  have hc0 := (hsD 0 (Or.inl rfl)).trans hc0
  have hT := cTr_c hT (fun k a b => hsD k (Or.inr a))
  have hsm : ∀ k, k = 0 ∨ 69 ≤ k → uD k = f k := fun k hk => (hsD k hk).trans (hsm k hk)
  have hI_ := hI
  obtain ⟨⟨-, -, hd2, hd3, hd4, hd5, hd6⟩, -, lo, ma, bt, bc, sp, sc, fk, bk, sk, hd1, -⟩ := hI_
  refine gj_i2l C dX11_digest_48 ?_
  refine gj_ladd C dX11_digest_49 ?_
  refine gj_setl (y := hh (eg1 la tZ n0 n1 gS gP se) (s_looks (0 : Int32) n0 n1 gS gP se)) rfl ?_
  refine gj_lstore_n C (lv' := [(1, .long (hh (eg1 la tZ n0 n1 gS gP se) (s_looks (0 : Int32) n0 n1 gS gP se))), (3, .int 0), (0, .ref (ad 0))]) 1 dX11_digest_50 rfl (by decide) rfl ?_
  refine gj_iinc C (v := 1) (lv' := [(3, .int 1), (1, .long (hh (eg1 la tZ n0 n1 gS gP se) (s_looks (0 : Int32) n0 n1 gS gP se))), (0, .ref (ad 0))]) dX11_digest_51 1 rfl (by decide) (by decide) rfl ?_
  refine gj_goto C 33 dX11_digest_54 (by decide) ?_
  refine gj_iload_n C 3 dX11_digest_33 rfl 0 rfl ?_
  refine gj_iconst C (v := 3) (by decide) dX11_digest_34 ?_
  refine gj_icmp_gt C 57 dX11_digest_35 (by decide) (fun c_11 => absurd c_11 (by decide)) (fun c_11 => ?_)
  refine gj_ldc2 C (v := 31) w_829 dX11_digest_38 ?_
  refine gj_lload_n C 1 dX11_digest_41 rfl 1 rfl ?_
  refine gj_lmul C dX11_digest_42 ?_
  refine gj_aload_n C 0 dX11_digest_43 rfl 2 rfl ?_
  refine gj_iload_n C 3 dX11_digest_44 rfl 0 rfl ?_
  refine gj_callVi C mi_X11_looks w_831 0 (by decide) hc0 rfl (c_looks (1 : Int32) la n0 n1 gS gP se hc0 hI hX) mc_X11_looks ⟨Nat.le_of_ble_eq_true rfl, Nat.le_of_ble_eq_true rfl⟩ (rest := [.long (31 * (hh (eg1 la tZ n0 n1 gS gP se) (s_looks (0 : Int32) n0 n1 gS gP se)))]) rfl (Nat.le_of_ble_eq_true rfl) dX11_digest_45 (fun r uD h => ?_)
  obtain ⟨hr_, hI, hsD⟩ := h; rw [hr_]
  have hc0 := (hsD 0 (Or.inl rfl)).trans hc0
  have hT := cTr_c hT (fun k a b => hsD k (Or.inr a))
  have hsm : ∀ k, k = 0 ∨ 69 ≤ k → uD k = f k := fun k hk => (hsD k hk).trans (hsm k hk)
  have hI_ := hI
  obtain ⟨⟨-, -, hd2, hd3, hd4, hd5, hd6⟩, -, lo, ma, bt, bc, sp, sc, fk, bk, sk, hd1, -⟩ := hI_
  refine gj_i2l C dX11_digest_48 ?_
  refine gj_ladd C dX11_digest_49 ?_
  refine gj_setl (y := hh (hh (eg1 la tZ n0 n1 gS gP se) (s_looks (0 : Int32) n0 n1 gS gP se)) (s_looks (1 : Int32) n0 n1 gS gP se)) rfl ?_
  refine gj_lstore_n C (lv' := [(1, .long (hh (hh (eg1 la tZ n0 n1 gS gP se) (s_looks (0 : Int32) n0 n1 gS gP se)) (s_looks (1 : Int32) n0 n1 gS gP se))), (3, .int 1), (0, .ref (ad 0))]) 1 dX11_digest_50 rfl (by decide) rfl ?_
  refine gj_iinc C (v := 2) (lv' := [(3, .int 2), (1, .long (hh (hh (eg1 la tZ n0 n1 gS gP se) (s_looks (0 : Int32) n0 n1 gS gP se)) (s_looks (1 : Int32) n0 n1 gS gP se))), (0, .ref (ad 0))]) dX11_digest_51 1 rfl (by decide) (by decide) rfl ?_
  refine gj_goto C 33 dX11_digest_54 (by decide) ?_
  refine gj_iload_n C 3 dX11_digest_33 rfl 0 rfl ?_
  refine gj_iconst C (v := 3) (by decide) dX11_digest_34 ?_
  refine gj_icmp_gt C 57 dX11_digest_35 (by decide) (fun c_12 => absurd c_12 (by decide)) (fun c_12 => ?_)
  refine gj_ldc2 C (v := 31) w_829 dX11_digest_38 ?_
  refine gj_lload_n C 1 dX11_digest_41 rfl 1 rfl ?_
  refine gj_lmul C dX11_digest_42 ?_
  refine gj_aload_n C 0 dX11_digest_43 rfl 2 rfl ?_
  refine gj_iload_n C 3 dX11_digest_44 rfl 0 rfl ?_
  refine gj_callVi C mi_X11_looks w_831 0 (by decide) hc0 rfl (c_looks (2 : Int32) la n0 n1 gS gP se hc0 hI hX) mc_X11_looks ⟨Nat.le_of_ble_eq_true rfl, Nat.le_of_ble_eq_true rfl⟩ (rest := [.long (31 * (hh (hh (eg1 la tZ n0 n1 gS gP se) (s_looks (0 : Int32) n0 n1 gS gP se)) (s_looks (1 : Int32) n0 n1 gS gP se)))]) rfl (Nat.le_of_ble_eq_true rfl) dX11_digest_45 (fun r uD h => ?_)
  obtain ⟨hr_, hI, hsD⟩ := h; rw [hr_]
  have hc0 := (hsD 0 (Or.inl rfl)).trans hc0
  have hT := cTr_c hT (fun k a b => hsD k (Or.inr a))
  have hsm : ∀ k, k = 0 ∨ 69 ≤ k → uD k = f k := fun k hk => (hsD k hk).trans (hsm k hk)
  have hI_ := hI
  obtain ⟨⟨-, -, hd2, hd3, hd4, hd5, hd6⟩, -, lo, ma, bt, bc, sp, sc, fk, bk, sk, hd1, -⟩ := hI_
  refine gj_i2l C dX11_digest_48 ?_
  refine gj_ladd C dX11_digest_49 ?_
  refine gj_setl (y := hh (hh (hh (eg1 la tZ n0 n1 gS gP se) (s_looks (0 : Int32) n0 n1 gS gP se)) (s_looks (1 : Int32) n0 n1 gS gP se)) (s_looks (2 : Int32) n0 n1 gS gP se)) rfl ?_
  refine gj_lstore_n C (lv' := [(1, .long (hh (hh (hh (eg1 la tZ n0 n1 gS gP se) (s_looks (0 : Int32) n0 n1 gS gP se)) (s_looks (1 : Int32) n0 n1 gS gP se)) (s_looks (2 : Int32) n0 n1 gS gP se))), (3, .int 2), (0, .ref (ad 0))]) 1 dX11_digest_50 rfl (by decide) rfl ?_
  refine gj_iinc C (v := 3) (lv' := [(3, .int 3), (1, .long (hh (hh (hh (eg1 la tZ n0 n1 gS gP se) (s_looks (0 : Int32) n0 n1 gS gP se)) (s_looks (1 : Int32) n0 n1 gS gP se)) (s_looks (2 : Int32) n0 n1 gS gP se))), (0, .ref (ad 0))]) dX11_digest_51 1 rfl (by decide) (by decide) rfl ?_
  refine gj_goto C 33 dX11_digest_54 (by decide) ?_
  refine gj_iload_n C 3 dX11_digest_33 rfl 0 rfl ?_
  refine gj_iconst C (v := 3) (by decide) dX11_digest_34 ?_
  refine gj_icmp_gt C 57 dX11_digest_35 (by decide) (fun c_13 => absurd c_13 (by decide)) (fun c_13 => ?_)
  refine gj_ldc2 C (v := 31) w_829 dX11_digest_38 ?_
  refine gj_lload_n C 1 dX11_digest_41 rfl 1 rfl ?_
  refine gj_lmul C dX11_digest_42 ?_
  refine gj_aload_n C 0 dX11_digest_43 rfl 2 rfl ?_
  refine gj_iload_n C 3 dX11_digest_44 rfl 0 rfl ?_
  refine gj_callVi C mi_X11_looks w_831 0 (by decide) hc0 rfl (c_looks (3 : Int32) la n0 n1 gS gP se hc0 hI hX) mc_X11_looks ⟨Nat.le_of_ble_eq_true rfl, Nat.le_of_ble_eq_true rfl⟩ (rest := [.long (31 * (hh (hh (hh (eg1 la tZ n0 n1 gS gP se) (s_looks (0 : Int32) n0 n1 gS gP se)) (s_looks (1 : Int32) n0 n1 gS gP se)) (s_looks (2 : Int32) n0 n1 gS gP se)))]) rfl (Nat.le_of_ble_eq_true rfl) dX11_digest_45 (fun r uD h => ?_)
  obtain ⟨hr_, hI, hsD⟩ := h; rw [hr_]
  have hc0 := (hsD 0 (Or.inl rfl)).trans hc0
  have hT := cTr_c hT (fun k a b => hsD k (Or.inr a))
  have hsm : ∀ k, k = 0 ∨ 69 ≤ k → uD k = f k := fun k hk => (hsD k hk).trans (hsm k hk)
  have hI_ := hI
  obtain ⟨⟨-, -, hd2, hd3, hd4, hd5, hd6⟩, -, lo, ma, bt, bc, sp, sc, fk, bk, sk, hd1, -⟩ := hI_
  refine gj_i2l C dX11_digest_48 ?_
  refine gj_ladd C dX11_digest_49 ?_
  refine gj_setl (y := hh (hh (hh (hh (eg1 la tZ n0 n1 gS gP se) (s_looks (0 : Int32) n0 n1 gS gP se)) (s_looks (1 : Int32) n0 n1 gS gP se)) (s_looks (2 : Int32) n0 n1 gS gP se)) (s_looks (3 : Int32) n0 n1 gS gP se)) rfl ?_
  refine gj_lstore_n C (lv' := [(1, .long (hh (hh (hh (hh (eg1 la tZ n0 n1 gS gP se) (s_looks (0 : Int32) n0 n1 gS gP se)) (s_looks (1 : Int32) n0 n1 gS gP se)) (s_looks (2 : Int32) n0 n1 gS gP se)) (s_looks (3 : Int32) n0 n1 gS gP se))), (3, .int 3), (0, .ref (ad 0))]) 1 dX11_digest_50 rfl (by decide) rfl ?_
  refine gj_iinc C (v := 4) (lv' := [(3, .int 4), (1, .long (hh (hh (hh (hh (eg1 la tZ n0 n1 gS gP se) (s_looks (0 : Int32) n0 n1 gS gP se)) (s_looks (1 : Int32) n0 n1 gS gP se)) (s_looks (2 : Int32) n0 n1 gS gP se)) (s_looks (3 : Int32) n0 n1 gS gP se))), (0, .ref (ad 0))]) dX11_digest_51 1 rfl (by decide) (by decide) rfl ?_
  refine gj_goto C 33 dX11_digest_54 (by decide) ?_
  refine gj_iload_n C 3 dX11_digest_33 rfl 0 rfl ?_
  refine gj_iconst C (v := 3) (by decide) dX11_digest_34 ?_
  refine gj_icmp_gt C 57 dX11_digest_35 (by decide) (fun c_14 => ?_) (fun c_14 => absurd (by decide) c_14)
  refine gj_lvs (lv' := [(3, .int 4), (1, .long (eg2 la tZ n0 n1 gS gP se)), (0, .ref (ad 0))]) rfl ?_
  refine gj_iconst C (v := 0) (by decide) dX11_digest_57 ?_
  refine gj_seti (y := nI 0) rfl ?_
  refine gj_istore_n C (lv' := [(3, .int (nI 0)), (1, .long (eg2 la tZ n0 n1 gS gP se)), (0, .ref (ad 0))]) 3 dX11_digest_58 rfl (by decide) rfl ?_
  refine gj_lvs (lv' := [(3, .int (nI 0)), (1, .long (eS n0 n1 gS gP se (eg2 la tZ n0 n1 gS gP se) 0)), (0, .ref (ad 0))]) rfl ?_
  have loop_15 : ∀ (m0 t0 : Nat), t0 + m0 = n1 → ∀ gA : Nat → va_E, (cSI ca ad n0 n1 gS gP se gA ∧ ∀ k, k = 0 ∨ 69 ≤ k → gA k = f k) → gJ pT l eT (Rm 7) sT mT aT below meth cT AT QT D ad 108 6 (gA) [(3, .int (nI t0)), (1, .long (eS n0 n1 gS gP se (eg2 la tZ n0 n1 gS gP se) t0)), (0, .ref (ad 0))] 59 [] := by
    intro m0
    induction m0 with
    | zero =>
      intro t0 hk_t0 gA hg
      obtain ⟨hI, hsm⟩ := hg
      have hc0 := (hsm 0 (Or.inl rfl)).trans hc00
      have hT := cTr_c hT0 (fun k a b => hsm k (Or.inr a))
      have hI_ := hI
      obtain ⟨⟨-, -, hd2, hd3, hd4, hd5, hd6⟩, -, lo, ma, bt, bc, sp, sc, fk, bk, sk, hd1, -⟩ := hI_
      refine gj_iload_n C 3 dX11_digest_59 rfl 0 rfl ?_
      refine gj_aload_n C 0 dX11_digest_60 rfl 2 rfl ?_
      refine gj_get C 0 (by decide) hc0 inX11 rfl 0 (by decide) w_357 (v := .ref (ad 1)) rfl dX11_digest_61 ?_
      refine gj_getN C 1 (by decide) hd1 inX6 rfl 1 (by decide) w_255 (v := .ref (ad 4)) rfl dX11_digest_64 ?_
      refine gj_callVi C mi_X1_size w_400 4 (by decide) hd4 rfl (c_X1_size 4 5 (8 : Int32) (nI n1) 24 gP hd4 hd5 (by decide) (by decide) (by decide)) mc_X1_size ⟨Nat.le_of_ble_eq_true rfl, Nat.le_of_ble_eq_true rfl⟩ (rest := [.int (nI t0)]) rfl (Nat.le_of_ble_eq_true rfl) dX11_digest_67 (fun r u h => ?_)
      obtain ⟨hr_, h⟩ := h; rw [hr_]
      rw [h]
      refine gj_seti (y := nI n1) rfl ?_
      refine gj_icmp_ge C 174 dX11_digest_70 (by decide) (fun c_17 => ?_) (fun c_17 => absurd (nI_le (by omega) (by omega)) c_17)
      refine gj_iconst C (v := 0) (by decide) dX11_digest_174 ?_
      refine gj_seti (y := nI 0) rfl ?_
      refine gj_istore_n C (lv' := [(3, .int (nI 0)), (1, .long (eS n0 n1 gS gP se (eg2 la tZ n0 n1 gS gP se) t0)), (0, .ref (ad 0))]) 3 dX11_digest_175 rfl (by decide) rfl ?_
      refine gj_lvs (lv' := [(3, .int (nI 0)), (1, .long (eB n0 n1 gS gP se (eS n0 n1 gS gP se (eg2 la tZ n0 n1 gS gP se) n1) 0)), (0, .ref (ad 0))]) (by obtain rfl : t0 = n1 := (by omega); rfl) ?_
      have loop_18 : ∀ (m0 t0 : Nat), t0 + m0 = n0 → ∀ gC : Nat → va_E, (cSI ca ad n0 n1 gS gP se gC ∧ ∀ k, k = 0 ∨ 69 ≤ k → gC k = f k) → gJ pT l eT (Rm 7) sT mT aT below meth cT AT QT D ad 108 6 (gC) [(3, .int (nI t0)), (1, .long (eB n0 n1 gS gP se (eS n0 n1 gS gP se (eg2 la tZ n0 n1 gS gP se) n1) t0)), (0, .ref (ad 0))] 176 [] := by
        intro m0
        induction m0 with
        | zero =>
          intro t0 hk_t0 gC hg
          obtain ⟨hI, hsm⟩ := hg
          have hc0 := (hsm 0 (Or.inl rfl)).trans hc00
          have hT := cTr_c hT0 (fun k a b => hsm k (Or.inr a))
          have hI_ := hI
          obtain ⟨⟨-, -, hd2, hd3, hd4, hd5, hd6⟩, -, lo, ma, bt, bc, sp, sc, fk, bk, sk, hd1, -⟩ := hI_
          refine gj_iload_n C 3 dX11_digest_176 rfl 0 rfl ?_
          refine gj_aload_n C 0 dX11_digest_177 rfl 2 rfl ?_
          refine gj_get C 0 (by decide) hc0 inX11 rfl 0 (by decide) w_357 (v := .ref (ad 1)) rfl dX11_digest_178 ?_
          refine gj_getN C 1 (by decide) hd1 inX6 rfl 0 (by decide) w_253 (v := .ref (ad 2)) rfl dX11_digest_181 ?_
          refine gj_callVi C mi_X1_size w_400 2 (by decide) hd2 rfl (c_X1_size 2 3 (12 : Int32) (nI n0) 36 gS hd2 hd3 (by decide) (by decide) (by decide)) mc_X1_size ⟨Nat.le_of_ble_eq_true rfl, Nat.le_of_ble_eq_true rfl⟩ (rest := [.int (nI t0)]) rfl (Nat.le_of_ble_eq_true rfl) dX11_digest_184 (fun r u h => ?_)
          obtain ⟨hr_, h⟩ := h; rw [hr_]
          rw [h]
          refine gj_seti (y := nI n0) rfl ?_
          refine gj_icmp_ge C 259 dX11_digest_187 (by decide) (fun c_20 => ?_) (fun c_20 => absurd (nI_le (by omega) (by omega)) c_20)
          refine gj_lvs (lv' := [(3, .int (nI t0)), (1, .long (eg3 la tZ n0 n1 gS gP se)), (0, .ref (ad 0))]) (by obtain rfl : t0 = n0 := (by omega); rfl) ?_
          refine gj_ldc2 C (v := 31) w_829 dX11_digest_259 ?_
          refine gj_lload_n C 1 dX11_digest_262 rfl 1 rfl ?_
          refine gj_lmul C dX11_digest_263 ?_
          refine gj_aload_n C 0 dX11_digest_264 rfl 2 rfl ?_
          refine gj_callVi C mi_X11_turn w_837 0 (by decide) hc0 rfl (c_turn  la n0 n1 gS gP se hc0 hI hX) mc_X11_turn ⟨Nat.le_of_ble_eq_true rfl, Nat.le_of_ble_eq_true rfl⟩ (rest := [.long (31 * (eg3 la tZ n0 n1 gS gP se))]) rfl (Nat.le_of_ble_eq_true rfl) dX11_digest_265 (fun r uD h => ?_)
          obtain ⟨hr_, hI, hsD⟩ := h; rw [hr_]
          have hc0 := (hsD 0 (Or.inl rfl)).trans hc0
          have hT := cTr_c hT (fun k a b => hsD k (Or.inr a))
          have hsm : ∀ k, k = 0 ∨ 69 ≤ k → uD k = f k := fun k hk => (hsD k hk).trans (hsm k hk)
          have hI_ := hI
          obtain ⟨⟨-, -, hd2, hd3, hd4, hd5, hd6⟩, -, lo, ma, bt, bc, sp, sc, fk, bk, sk, hd1, -⟩ := hI_
          refine gj_i2l C dX11_digest_268 ?_
          refine gj_ladd C dX11_digest_269 ?_
          refine gj_setl (y := hh (eg3 la tZ n0 n1 gS gP se) (s_turn  n0 n1 gS gP se)) rfl ?_
          refine gj_lstore_n C (lv' := [(1, .long (hh (eg3 la tZ n0 n1 gS gP se) (s_turn  n0 n1 gS gP se))), (3, .int (nI t0)), (0, .ref (ad 0))]) 1 dX11_digest_270 rfl (by decide) rfl ?_
          refine gj_ldc2 C (v := 31) w_829 dX11_digest_271 ?_
          refine gj_lload_n C 1 dX11_digest_274 rfl 0 rfl ?_
          refine gj_lmul C dX11_digest_275 ?_
          refine gj_aload_n C 0 dX11_digest_276 rfl 2 rfl ?_
          refine gj_callVi C mi_X11_wrong w_838 0 (by decide) hc0 rfl (c_wrong  la n0 n1 gS gP se hc0 hI hX) mc_X11_wrong ⟨Nat.le_of_ble_eq_true rfl, Nat.le_of_ble_eq_true rfl⟩ (rest := [.long (31 * (hh (eg3 la tZ n0 n1 gS gP se) (s_turn  n0 n1 gS gP se)))]) rfl (Nat.le_of_ble_eq_true rfl) dX11_digest_277 (fun r uD h => ?_)
          obtain ⟨hr_, hI, hsD⟩ := h; rw [hr_]
          have hc0 := (hsD 0 (Or.inl rfl)).trans hc0
          have hT := cTr_c hT (fun k a b => hsD k (Or.inr a))
          have hsm : ∀ k, k = 0 ∨ 69 ≤ k → uD k = f k := fun k hk => (hsD k hk).trans (hsm k hk)
          have hI_ := hI
          obtain ⟨⟨-, -, hd2, hd3, hd4, hd5, hd6⟩, -, lo, ma, bt, bc, sp, sc, fk, bk, sk, hd1, -⟩ := hI_
          refine gj_i2l C dX11_digest_280 ?_
          refine gj_ladd C dX11_digest_281 ?_
          refine gj_setl (y := hh (hh (eg3 la tZ n0 n1 gS gP se) (s_turn  n0 n1 gS gP se)) (s_wrong  n0 n1 gS gP se)) rfl ?_
          refine gj_lstore_n C (lv' := [(1, .long (hh (hh (eg3 la tZ n0 n1 gS gP se) (s_turn  n0 n1 gS gP se)) (s_wrong  n0 n1 gS gP se))), (3, .int (nI t0)), (0, .ref (ad 0))]) 1 dX11_digest_282 rfl (by decide) rfl ?_
          refine gj_ldc2 C (v := 31) w_829 dX11_digest_283 ?_
          refine gj_lload_n C 1 dX11_digest_286 rfl 0 rfl ?_
          refine gj_lmul C dX11_digest_287 ?_
          refine gj_aload_n C 0 dX11_digest_288 rfl 2 rfl ?_
          refine gj_iconst C (v := 0) (by decide) dX11_digest_289 ?_
          refine gj_callVi C mi_X11_better w_839 0 (by decide) hc0 rfl (c_better (0 : Int32) la n0 n1 gS gP se hc0 hI hB hB0) mc_X11_better ⟨Nat.le_of_ble_eq_true rfl, Nat.le_of_ble_eq_true rfl⟩ (rest := [.long (31 * (hh (hh (eg3 la tZ n0 n1 gS gP se) (s_turn  n0 n1 gS gP se)) (s_wrong  n0 n1 gS gP se)))]) rfl (Nat.le_of_ble_eq_true rfl) dX11_digest_290 (fun r uD h => ?_)
          obtain ⟨hr_, hI, hsD⟩ := h; rw [hr_]
          have hc0 := (hsD 0 (Or.inl rfl)).trans hc0
          have hT := cTr_c hT (fun k a b => hsD k (Or.inr a))
          have hsm : ∀ k, k = 0 ∨ 69 ≤ k → uD k = f k := fun k hk => (hsD k hk).trans (hsm k hk)
          have hI_ := hI
          obtain ⟨⟨-, -, hd2, hd3, hd4, hd5, hd6⟩, -, lo, ma, bt, bc, sp, sc, fk, bk, sk, hd1, -⟩ := hI_
          refine gj_i2l C dX11_digest_293 ?_
          refine gj_ladd C dX11_digest_294 ?_
          refine gj_setl (y := hh (hh (hh (eg3 la tZ n0 n1 gS gP se) (s_turn  n0 n1 gS gP se)) (s_wrong  n0 n1 gS gP se)) (s_better (0 : Int32) n0 n1 gS gP se)) rfl ?_
          refine gj_lstore_n C (lv' := [(1, .long (hh (hh (hh (eg3 la tZ n0 n1 gS gP se) (s_turn  n0 n1 gS gP se)) (s_wrong  n0 n1 gS gP se)) (s_better (0 : Int32) n0 n1 gS gP se))), (3, .int (nI t0)), (0, .ref (ad 0))]) 1 dX11_digest_295 rfl (by decide) rfl ?_
          refine gj_ldc2 C (v := 31) w_829 dX11_digest_296 ?_
          refine gj_lload_n C 1 dX11_digest_299 rfl 0 rfl ?_
          refine gj_lmul C dX11_digest_300 ?_
          refine gj_aload_n C 0 dX11_digest_301 rfl 2 rfl ?_
          refine gj_iconst C (v := 1) (by decide) dX11_digest_302 ?_
          refine gj_callVi C mi_X11_better w_839 0 (by decide) hc0 rfl (c_better (1 : Int32) la n0 n1 gS gP se hc0 hI hB hB0) mc_X11_better ⟨Nat.le_of_ble_eq_true rfl, Nat.le_of_ble_eq_true rfl⟩ (rest := [.long (31 * (hh (hh (hh (eg3 la tZ n0 n1 gS gP se) (s_turn  n0 n1 gS gP se)) (s_wrong  n0 n1 gS gP se)) (s_better (0 : Int32) n0 n1 gS gP se)))]) rfl (Nat.le_of_ble_eq_true rfl) dX11_digest_303 (fun r uD h => ?_)
          obtain ⟨hr_, hI, hsD⟩ := h; rw [hr_]
          have hc0 := (hsD 0 (Or.inl rfl)).trans hc0
          have hT := cTr_c hT (fun k a b => hsD k (Or.inr a))
          have hsm : ∀ k, k = 0 ∨ 69 ≤ k → uD k = f k := fun k hk => (hsD k hk).trans (hsm k hk)
          have hI_ := hI
          obtain ⟨⟨-, -, hd2, hd3, hd4, hd5, hd6⟩, -, lo, ma, bt, bc, sp, sc, fk, bk, sk, hd1, -⟩ := hI_
          refine gj_i2l C dX11_digest_306 ?_
          refine gj_ladd C dX11_digest_307 ?_
          refine gj_setl (y := hh (hh (hh (hh (eg3 la tZ n0 n1 gS gP se) (s_turn  n0 n1 gS gP se)) (s_wrong  n0 n1 gS gP se)) (s_better (0 : Int32) n0 n1 gS gP se)) (s_better (1 : Int32) n0 n1 gS gP se)) rfl ?_
          refine gj_lstore_n C (lv' := [(1, .long (hh (hh (hh (hh (eg3 la tZ n0 n1 gS gP se) (s_turn  n0 n1 gS gP se)) (s_wrong  n0 n1 gS gP se)) (s_better (0 : Int32) n0 n1 gS gP se)) (s_better (1 : Int32) n0 n1 gS gP se))), (3, .int (nI t0)), (0, .ref (ad 0))]) 1 dX11_digest_308 rfl (by decide) rfl ?_
          refine gj_ldc2 C (v := 31) w_829 dX11_digest_309 ?_
          refine gj_lload_n C 1 dX11_digest_312 rfl 0 rfl ?_
          refine gj_lmul C dX11_digest_313 ?_
          refine gj_aload_n C 0 dX11_digest_314 rfl 2 rfl ?_
          refine gj_iconst C (v := 0) (by decide) dX11_digest_315 ?_
          refine gj_callVi C mi_X11_spare w_840 0 (by decide) hc0 rfl (c_spare (0 : Int32) la n0 n1 gS gP se hc0 hI hS) mc_X11_spare ⟨Nat.le_of_ble_eq_true rfl, Nat.le_of_ble_eq_true rfl⟩ (rest := [.long (31 * (hh (hh (hh (hh (eg3 la tZ n0 n1 gS gP se) (s_turn  n0 n1 gS gP se)) (s_wrong  n0 n1 gS gP se)) (s_better (0 : Int32) n0 n1 gS gP se)) (s_better (1 : Int32) n0 n1 gS gP se)))]) rfl (Nat.le_of_ble_eq_true rfl) dX11_digest_316 (fun r uD h => ?_)
          obtain ⟨hr_, hI, hsD⟩ := h; rw [hr_]
          have hc0 := (hsD 0 (Or.inl rfl)).trans hc0
          have hT := cTr_c hT (fun k a b => hsD k (Or.inr a))
          have hsm : ∀ k, k = 0 ∨ 69 ≤ k → uD k = f k := fun k hk => (hsD k hk).trans (hsm k hk)
          have hI_ := hI
          obtain ⟨⟨-, -, hd2, hd3, hd4, hd5, hd6⟩, -, lo, ma, bt, bc, sp, sc, fk, bk, sk, hd1, -⟩ := hI_
          refine gj_i2l C dX11_digest_319 ?_
          refine gj_ladd C dX11_digest_320 ?_
          refine gj_setl (y := hh (hh (hh (hh (hh (eg3 la tZ n0 n1 gS gP se) (s_turn  n0 n1 gS gP se)) (s_wrong  n0 n1 gS gP se)) (s_better (0 : Int32) n0 n1 gS gP se)) (s_better (1 : Int32) n0 n1 gS gP se)) (s_spare (0 : Int32) n0 n1 gS gP se)) rfl ?_
          refine gj_lstore_n C (lv' := [(1, .long (hh (hh (hh (hh (hh (eg3 la tZ n0 n1 gS gP se) (s_turn  n0 n1 gS gP se)) (s_wrong  n0 n1 gS gP se)) (s_better (0 : Int32) n0 n1 gS gP se)) (s_better (1 : Int32) n0 n1 gS gP se)) (s_spare (0 : Int32) n0 n1 gS gP se))), (3, .int (nI t0)), (0, .ref (ad 0))]) 1 dX11_digest_321 rfl (by decide) rfl ?_
          refine gj_ldc2 C (v := 31) w_829 dX11_digest_322 ?_
          refine gj_lload_n C 1 dX11_digest_325 rfl 0 rfl ?_
          refine gj_lmul C dX11_digest_326 ?_
          refine gj_aload_n C 0 dX11_digest_327 rfl 2 rfl ?_
          refine gj_iconst C (v := 1) (by decide) dX11_digest_328 ?_
          refine gj_callVi C mi_X11_spare w_840 0 (by decide) hc0 rfl (c_spare (1 : Int32) la n0 n1 gS gP se hc0 hI hS) mc_X11_spare ⟨Nat.le_of_ble_eq_true rfl, Nat.le_of_ble_eq_true rfl⟩ (rest := [.long (31 * (hh (hh (hh (hh (hh (eg3 la tZ n0 n1 gS gP se) (s_turn  n0 n1 gS gP se)) (s_wrong  n0 n1 gS gP se)) (s_better (0 : Int32) n0 n1 gS gP se)) (s_better (1 : Int32) n0 n1 gS gP se)) (s_spare (0 : Int32) n0 n1 gS gP se)))]) rfl (Nat.le_of_ble_eq_true rfl) dX11_digest_329 (fun r uD h => ?_)
          obtain ⟨hr_, hI, hsD⟩ := h; rw [hr_]
          have hc0 := (hsD 0 (Or.inl rfl)).trans hc0
          have hT := cTr_c hT (fun k a b => hsD k (Or.inr a))
          have hsm : ∀ k, k = 0 ∨ 69 ≤ k → uD k = f k := fun k hk => (hsD k hk).trans (hsm k hk)
          have hI_ := hI
          obtain ⟨⟨-, -, hd2, hd3, hd4, hd5, hd6⟩, -, lo, ma, bt, bc, sp, sc, fk, bk, sk, hd1, -⟩ := hI_
          refine gj_i2l C dX11_digest_332 ?_
          refine gj_ladd C dX11_digest_333 ?_
          refine gj_setl (y := hh (hh (hh (hh (hh (hh (eg3 la tZ n0 n1 gS gP se) (s_turn  n0 n1 gS gP se)) (s_wrong  n0 n1 gS gP se)) (s_better (0 : Int32) n0 n1 gS gP se)) (s_better (1 : Int32) n0 n1 gS gP se)) (s_spare (0 : Int32) n0 n1 gS gP se)) (s_spare (1 : Int32) n0 n1 gS gP se)) rfl ?_
          refine gj_lstore_n C (lv' := [(1, .long (hh (hh (hh (hh (hh (hh (eg3 la tZ n0 n1 gS gP se) (s_turn  n0 n1 gS gP se)) (s_wrong  n0 n1 gS gP se)) (s_better (0 : Int32) n0 n1 gS gP se)) (s_better (1 : Int32) n0 n1 gS gP se)) (s_spare (0 : Int32) n0 n1 gS gP se)) (s_spare (1 : Int32) n0 n1 gS gP se))), (3, .int (nI t0)), (0, .ref (ad 0))]) 1 dX11_digest_334 rfl (by decide) rfl ?_
          refine gj_lvs (lv' := [(1, .long (eg4 la tZ n0 n1 gS gP se)), (3, .int (nI t0)), (0, .ref (ad 0))]) rfl ?_
          refine gj_iconst C (v := 0) (by decide) dX11_digest_335 ?_
          refine gj_seti (y := nI 0) rfl ?_
          refine gj_istore_n C (lv' := [(3, .int (nI 0)), (1, .long (eg4 la tZ n0 n1 gS gP se)), (0, .ref (ad 0))]) 3 dX11_digest_336 rfl (by decide) rfl ?_
          refine gj_lvs (lv' := [(3, .int (nI 0)), (1, .long (eT1 tZ tG (eg4 la tZ n0 n1 gS gP se) 0)), (0, .ref (ad 0))]) rfl ?_
          have loop_21 : ∀ (m0 t0 : Nat), t0 + m0 = 4 → gJ pT l eT (Rm 7) sT mT aT below meth cT AT QT D ad 108 6 (uD) [(3, .int (nI t0)), (1, .long (eT1 tZ tG (eg4 la tZ n0 n1 gS gP se) t0)), (0, .ref (ad 0))] 337 [] := by
            intro m0
            induction m0 with
            | zero =>
              intro t0 hk_t0  
              obtain rfl : t0 = 4 := (by omega)
              refine gj_iload_n C 3 dX11_digest_337 rfl 0 rfl ?_
              refine gj_iconst C (v := 4) (by decide) dX11_digest_338 ?_
              refine gj_icmp_ge C 411 dX11_digest_339 (by decide) (fun c_23 => ?_) (fun c_23 => absurd (Int32.le_refl _) c_23)
              refine gj_lload_n C 1 dX11_digest_411 rfl 1 rfl ?_
              exact RT _ _ _ _ ⟨rfl, hI, hsm⟩ dX11_digest_412
            | succ m0 ih_22 =>
              intro t0 hk_t0  
              refine gj_iload_n C 3 dX11_digest_337 rfl 0 rfl ?_
              refine gj_iconst C (v := 4) (by decide) dX11_digest_338 ?_
              refine gj_icmp_ge C 411 dX11_digest_339 (by decide) (fun c_24 => absurd c_24 (show ¬ (4 : Int32) ≤ nI t0 from nI_ge (b := 4) (by omega) (by omega))) (fun c_24 => ?_)
              refine gj_iconst C (v := 0) (by decide) dX11_digest_342 ?_
              refine gj_seti (y := nI 0) rfl ?_
              refine gj_istore C (lv' := [(4, .int (nI 0)), (3, .int (nI t0)), (1, .long (eT1 tZ tG (eg4 la tZ n0 n1 gS gP se) t0)), (0, .ref (ad 0))]) dX11_digest_343 (by decide) rfl ?_
              refine gj_lvs (lv' := [(4, .int (nI 0)), (3, .int (nI t0)), (1, .long (eT2 tZ tG t0 (eT1 tZ tG (eg4 la tZ n0 n1 gS gP se) t0) 0)), (0, .ref (ad 0))]) rfl ?_
              have loop_25 : ∀ (m1 t1 : Nat), t1 + m1 = 4 → gJ pT l eT (Rm 7) sT mT aT below meth cT AT QT D ad 108 6 (uD) [(4, .int (nI t1)), (3, .int (nI t0)), (1, .long (eT2 tZ tG t0 (eT1 tZ tG (eg4 la tZ n0 n1 gS gP se) t0) t1)), (0, .ref (ad 0))] 345 [] := by
                intro m1
                induction m1 with
                | zero =>
                  intro t1 hk_t1  
                  obtain rfl : t1 = 4 := (by omega)
                  refine gj_iload C dX11_digest_345 0 rfl ?_
                  refine gj_iconst C (v := 3) (by decide) dX11_digest_347 ?_
                  refine gj_icmp_gt C 405 dX11_digest_348 (by decide) (fun c_27 => ?_) (fun c_27 => absurd (by decide) c_27)
                  refine gj_iinc C (v := nI (t0 + 1)) (lv' := [(3, .int (nI (t0 + 1))), (4, .int (nI 4)), (1, .long (eT2 tZ tG t0 (eT1 tZ tG (eg4 la tZ n0 n1 gS gP se) t0) 4)), (0, .ref (ad 0))]) dX11_digest_405 1 rfl (nI_1 _) (by decide) rfl ?_
                  refine gj_goto C 337 dX11_digest_408 (by decide) ?_
                  refine gj_lvs (lv' := [(3, .int (nI (t0 + 1))), (4, .int (nI 4)), (1, .long (eT1 tZ tG (eg4 la tZ n0 n1 gS gP se) (t0 + 1))), (0, .ref (ad 0))]) rfl ?_
                  refine gj_lv [0, 2, 3] rfl ?_
                  exact ih_22 (t0 + 1) (by omega)
                | succ m1 ih_26 =>
                  intro t1 hk_t1  
                  refine gj_iload C dX11_digest_345 0 rfl ?_
                  refine gj_iconst C (v := 3) (by decide) dX11_digest_347 ?_
                  refine gj_icmp_gt C 405 dX11_digest_348 (by decide) (fun c_28 => absurd c_28 (show ¬ (3 : Int32) < nI t1 from nI_nlt (a := 3) (by omega) (by omega))) (fun c_28 => ?_)
                  refine gj_iconst C (v := 0) (by decide) dX11_digest_351 ?_
                  refine gj_seti (y := nI 0) rfl ?_
                  refine gj_istore C (lv' := [(5, .int (nI 0)), (4, .int (nI t1)), (3, .int (nI t0)), (1, .long (eT2 tZ tG t0 (eT1 tZ tG (eg4 la tZ n0 n1 gS gP se) t0) t1)), (0, .ref (ad 0))]) dX11_digest_352 (by decide) rfl ?_
                  refine gj_lvs (lv' := [(5, .int (nI 0)), (4, .int (nI t1)), (3, .int (nI t0)), (1, .long (eT3 tZ tG t0 t1 (eT2 tZ tG t0 (eT1 tZ tG (eg4 la tZ n0 n1 gS gP se) t0) t1) 0)), (0, .ref (ad 0))]) rfl ?_
                  have loop_29 : ∀ (m2 t2 : Nat), t2 + m2 = 4 → gJ pT l eT (Rm 7) sT mT aT below meth cT AT QT D ad 108 6 (uD) [(5, .int (nI t2)), (4, .int (nI t1)), (3, .int (nI t0)), (1, .long (eT3 tZ tG t0 t1 (eT2 tZ tG t0 (eT1 tZ tG (eg4 la tZ n0 n1 gS gP se) t0) t1) t2)), (0, .ref (ad 0))] 354 [] := by
                    intro m2
                    induction m2 with
                    | zero =>
                      intro t2 hk_t2  
                      obtain rfl : t2 = 4 := (by omega)
                      refine gj_iload C dX11_digest_354 0 rfl ?_
                      refine gj_iconst C (v := 3) (by decide) dX11_digest_356 ?_
                      refine gj_icmp_gt C 383 dX11_digest_357 (by decide) (fun c_31 => ?_) (fun c_31 => absurd (by decide) c_31)
                      refine gj_ldc2 C (v := 31) w_829 dX11_digest_383 ?_
                      refine gj_lload_n C 1 dX11_digest_386 rfl 3 rfl ?_
                      refine gj_lmul C dX11_digest_387 ?_
                      refine gj_aload_n C 0 dX11_digest_388 rfl 4 rfl ?_
                      refine gj_iload_n C 3 dX11_digest_389 rfl 2 rfl ?_
                      refine gj_iconst C (v := 0) (by decide) dX11_digest_390 ?_
                      refine gj_iload C dX11_digest_391 1 rfl ?_
                      refine gj_callVi C mi_X11_share w_842 0 (by decide) hc0 rfl (c_share t0 (0 : Int32) (nI t1) (by omega) la tS tP tZ tG hc0 hT (hq t0 (by omega))) mc_X11_share ⟨Nat.le_of_ble_eq_true rfl, Nat.le_of_ble_eq_true rfl⟩ (rest := [.long (31 * (eT3 tZ tG t0 t1 (eT2 tZ tG t0 (eT1 tZ tG (eg4 la tZ n0 n1 gS gP se) t0) t1) 4))]) rfl (Nat.le_of_ble_eq_true rfl) dX11_digest_393 (fun r uE h => ?_)
                      obtain ⟨hr_, hu_⟩ := h; rw [hr_, hu_]
                      refine gj_i2l C dX11_digest_396 ?_
                      refine gj_ladd C dX11_digest_397 ?_
                      refine gj_setl (y := hh (eT3 tZ tG t0 t1 (eT2 tZ tG t0 (eT1 tZ tG (eg4 la tZ n0 n1 gS gP se) t0) t1) 4) (s_share (0 : Int32) (nI t1) (tZ t0) (tG t0))) rfl ?_
                      refine gj_lstore_n C (lv' := [(1, .long (hh (eT3 tZ tG t0 t1 (eT2 tZ tG t0 (eT1 tZ tG (eg4 la tZ n0 n1 gS gP se) t0) t1) 4) (s_share (0 : Int32) (nI t1) (tZ t0) (tG t0)))), (5, .int (nI 4)), (4, .int (nI t1)), (3, .int (nI t0)), (0, .ref (ad 0))]) 1 dX11_digest_398 rfl (by decide) rfl ?_
                      refine gj_iinc C (v := nI (t1 + 1)) (lv' := [(4, .int (nI (t1 + 1))), (1, .long (hh (eT3 tZ tG t0 t1 (eT2 tZ tG t0 (eT1 tZ tG (eg4 la tZ n0 n1 gS gP se) t0) t1) 4) (s_share (0 : Int32) (nI t1) (tZ t0) (tG t0)))), (5, .int (nI 4)), (3, .int (nI t0)), (0, .ref (ad 0))]) dX11_digest_399 2 rfl (nI_1 _) (by decide) rfl ?_
                      refine gj_goto C 345 dX11_digest_402 (by decide) ?_
                      refine gj_lvs (lv' := [(4, .int (nI (t1 + 1))), (1, .long (eT2 tZ tG t0 (eT1 tZ tG (eg4 la tZ n0 n1 gS gP se) t0) (t1 + 1))), (5, .int (nI 4)), (3, .int (nI t0)), (0, .ref (ad 0))]) rfl ?_
                      refine gj_lv [0, 3, 1, 4] rfl ?_
                      exact ih_26 (t1 + 1) (by omega)
                    | succ m2 ih_30 =>
                      intro t2 hk_t2  
                      refine gj_iload C dX11_digest_354 0 rfl ?_
                      refine gj_iconst C (v := 3) (by decide) dX11_digest_356 ?_
                      refine gj_icmp_gt C 383 dX11_digest_357 (by decide) (fun c_32 => absurd c_32 (show ¬ (3 : Int32) < nI t2 from nI_nlt (a := 3) (by omega) (by omega))) (fun c_32 => ?_)
                      refine gj_ldc2 C (v := 31) w_829 dX11_digest_360 ?_
                      refine gj_lload_n C 1 dX11_digest_363 rfl 3 rfl ?_
                      refine gj_lmul C dX11_digest_364 ?_
                      refine gj_aload_n C 0 dX11_digest_365 rfl 4 rfl ?_
                      refine gj_iload_n C 3 dX11_digest_366 rfl 2 rfl ?_
                      refine gj_iload C dX11_digest_367 1 rfl ?_
                      refine gj_iload C dX11_digest_369 0 rfl ?_
                      refine gj_callVi C mi_X11_thing w_841 0 (by decide) hc0 rfl (c_thing t0 (nI t1) (nI t2) (by omega) la tS tP tZ tG hc0 hT ) mc_X11_thing ⟨Nat.le_of_ble_eq_true rfl, Nat.le_of_ble_eq_true rfl⟩ (rest := [.long (31 * (eT3 tZ tG t0 t1 (eT2 tZ tG t0 (eT1 tZ tG (eg4 la tZ n0 n1 gS gP se) t0) t1) t2))]) rfl (Nat.le_of_ble_eq_true rfl) dX11_digest_371 (fun r uE h => ?_)
                      obtain ⟨hr_, hu_⟩ := h; rw [hr_, hu_]
                      refine gj_i2l C dX11_digest_374 ?_
                      refine gj_ladd C dX11_digest_375 ?_
                      refine gj_setl (y := hh (eT3 tZ tG t0 t1 (eT2 tZ tG t0 (eT1 tZ tG (eg4 la tZ n0 n1 gS gP se) t0) t1) t2) (s_thing (nI t1) (nI t2) (tZ t0) (tG t0))) rfl ?_
                      refine gj_lstore_n C (lv' := [(1, .long (hh (eT3 tZ tG t0 t1 (eT2 tZ tG t0 (eT1 tZ tG (eg4 la tZ n0 n1 gS gP se) t0) t1) t2) (s_thing (nI t1) (nI t2) (tZ t0) (tG t0)))), (5, .int (nI t2)), (4, .int (nI t1)), (3, .int (nI t0)), (0, .ref (ad 0))]) 1 dX11_digest_376 rfl (by decide) rfl ?_
                      refine gj_iinc C (v := nI (t2 + 1)) (lv' := [(5, .int (nI (t2 + 1))), (1, .long (hh (eT3 tZ tG t0 t1 (eT2 tZ tG t0 (eT1 tZ tG (eg4 la tZ n0 n1 gS gP se) t0) t1) t2) (s_thing (nI t1) (nI t2) (tZ t0) (tG t0)))), (4, .int (nI t1)), (3, .int (nI t0)), (0, .ref (ad 0))]) dX11_digest_377 1 rfl (nI_1 _) (by decide) rfl ?_
                      refine gj_goto C 354 dX11_digest_380 (by decide) ?_
                      refine gj_lvs (lv' := [(5, .int (nI (t2 + 1))), (1, .long (eT3 tZ tG t0 t1 (eT2 tZ tG t0 (eT1 tZ tG (eg4 la tZ n0 n1 gS gP se) t0) t1) (t2 + 1))), (4, .int (nI t1)), (3, .int (nI t0)), (0, .ref (ad 0))]) rfl ?_
                      refine gj_lv [0, 2, 3, 1, 4] rfl ?_
                      exact ih_30 (t2 + 1) (by omega)
                  refine gj_lv [0, 1, 2, 3, 4] rfl ?_
                  exact loop_29 (4 - 0) 0 (by omega)
              refine gj_lv [0, 1, 2, 3] rfl ?_
              exact loop_25 (4 - 0) 0 (by omega)
          refine gj_lv [0, 1, 2] rfl ?_
          exact loop_21 (4 - 0) 0 (by omega)
        | succ m0 ih_19 =>
          intro t0 hk_t0 gC hg
          obtain ⟨hI, hsm⟩ := hg
          have hc0 := (hsm 0 (Or.inl rfl)).trans hc00
          have hT := cTr_c hT0 (fun k a b => hsm k (Or.inr a))
          have hI_ := hI
          obtain ⟨⟨-, -, hd2, hd3, hd4, hd5, hd6⟩, -, lo, ma, bt, bc, sp, sc, fk, bk, sk, hd1, -⟩ := hI_
          refine gj_iload_n C 3 dX11_digest_176 rfl 0 rfl ?_
          refine gj_aload_n C 0 dX11_digest_177 rfl 2 rfl ?_
          refine gj_get C 0 (by decide) hc0 inX11 rfl 0 (by decide) w_357 (v := .ref (ad 1)) rfl dX11_digest_178 ?_
          refine gj_getN C 1 (by decide) hd1 inX6 rfl 0 (by decide) w_253 (v := .ref (ad 2)) rfl dX11_digest_181 ?_
          refine gj_callVi C mi_X1_size w_400 2 (by decide) hd2 rfl (c_X1_size 2 3 (12 : Int32) (nI n0) 36 gS hd2 hd3 (by decide) (by decide) (by decide)) mc_X1_size ⟨Nat.le_of_ble_eq_true rfl, Nat.le_of_ble_eq_true rfl⟩ (rest := [.int (nI t0)]) rfl (Nat.le_of_ble_eq_true rfl) dX11_digest_184 (fun r u h => ?_)
          obtain ⟨hr_, h⟩ := h; rw [hr_]
          rw [h]
          refine gj_seti (y := nI n0) rfl ?_
          refine gj_icmp_ge C 259 dX11_digest_187 (by decide) (fun c_33 => absurd c_33 (nI_ge (by omega) (by omega))) (fun c_33 => ?_)
          refine gj_iconst C (v := 0) (by decide) dX11_digest_190 ?_
          refine gj_istore C (lv' := [(4, .int 0), (3, .int (nI t0)), (1, .long (eB n0 n1 gS gP se (eS n0 n1 gS gP se (eg2 la tZ n0 n1 gS gP se) n1) t0)), (0, .ref (ad 0))]) dX11_digest_191 (by decide) rfl ?_
          refine gj_iload C dX11_digest_193 0 rfl ?_
          refine gj_iconst C (v := 2) (by decide) dX11_digest_195 ?_
          refine gj_icmp_gt C 220 dX11_digest_196 (by decide) (fun c_34 => absurd c_34 (by decide)) (fun c_34 => ?_)
          refine gj_ldc2 C (v := 31) w_829 dX11_digest_199 ?_
          refine gj_lload_n C 1 dX11_digest_202 rfl 2 rfl ?_
          refine gj_lmul C dX11_digest_203 ?_
          refine gj_aload_n C 0 dX11_digest_204 rfl 3 rfl ?_
          refine gj_iload_n C 3 dX11_digest_205 rfl 1 rfl ?_
          refine gj_iload C dX11_digest_206 0 rfl ?_
          refine gj_callVi C mi_X11_place w_835 0 (by decide) hc0 rfl (c_place (nI t0) (0 : Int32) la n0 n1 gS gP se hc0 hI hX) mc_X11_place ⟨Nat.le_of_ble_eq_true rfl, Nat.le_of_ble_eq_true rfl⟩ (rest := [.long (31 * (eB n0 n1 gS gP se (eS n0 n1 gS gP se (eg2 la tZ n0 n1 gS gP se) n1) t0))]) rfl (Nat.le_of_ble_eq_true rfl) dX11_digest_208 (fun r uD h => ?_)
          obtain ⟨hr_, hI, hsD⟩ := h; rw [hr_]
          have hc0 := (hsD 0 (Or.inl rfl)).trans hc0
          have hT := cTr_c hT (fun k a b => hsD k (Or.inr a))
          have hsm : ∀ k, k = 0 ∨ 69 ≤ k → uD k = f k := fun k hk => (hsD k hk).trans (hsm k hk)
          have hI_ := hI
          obtain ⟨⟨-, -, hd2, hd3, hd4, hd5, hd6⟩, -, lo, ma, bt, bc, sp, sc, fk, bk, sk, hd1, -⟩ := hI_
          refine gj_i2l C dX11_digest_211 ?_
          refine gj_ladd C dX11_digest_212 ?_
          refine gj_setl (y := hh (eB n0 n1 gS gP se (eS n0 n1 gS gP se (eg2 la tZ n0 n1 gS gP se) n1) t0) (s_place (nI t0) (0 : Int32) n0 n1 gS gP se)) rfl ?_
          refine gj_lstore_n C (lv' := [(1, .long (hh (eB n0 n1 gS gP se (eS n0 n1 gS gP se (eg2 la tZ n0 n1 gS gP se) n1) t0) (s_place (nI t0) (0 : Int32) n0 n1 gS gP se))), (4, .int 0), (3, .int (nI t0)), (0, .ref (ad 0))]) 1 dX11_digest_213 rfl (by decide) rfl ?_
          refine gj_iinc C (v := 1) (lv' := [(4, .int 1), (1, .long (hh (eB n0 n1 gS gP se (eS n0 n1 gS gP se (eg2 la tZ n0 n1 gS gP se) n1) t0) (s_place (nI t0) (0 : Int32) n0 n1 gS gP se))), (3, .int (nI t0)), (0, .ref (ad 0))]) dX11_digest_214 1 rfl (by decide) (by decide) rfl ?_
          refine gj_goto C 193 dX11_digest_217 (by decide) ?_
          refine gj_iload C dX11_digest_193 0 rfl ?_
          refine gj_iconst C (v := 2) (by decide) dX11_digest_195 ?_
          refine gj_icmp_gt C 220 dX11_digest_196 (by decide) (fun c_35 => absurd c_35 (by decide)) (fun c_35 => ?_)
          refine gj_ldc2 C (v := 31) w_829 dX11_digest_199 ?_
          refine gj_lload_n C 1 dX11_digest_202 rfl 1 rfl ?_
          refine gj_lmul C dX11_digest_203 ?_
          refine gj_aload_n C 0 dX11_digest_204 rfl 3 rfl ?_
          refine gj_iload_n C 3 dX11_digest_205 rfl 2 rfl ?_
          refine gj_iload C dX11_digest_206 0 rfl ?_
          refine gj_callVi C mi_X11_place w_835 0 (by decide) hc0 rfl (c_place (nI t0) (1 : Int32) la n0 n1 gS gP se hc0 hI hX) mc_X11_place ⟨Nat.le_of_ble_eq_true rfl, Nat.le_of_ble_eq_true rfl⟩ (rest := [.long (31 * (hh (eB n0 n1 gS gP se (eS n0 n1 gS gP se (eg2 la tZ n0 n1 gS gP se) n1) t0) (s_place (nI t0) (0 : Int32) n0 n1 gS gP se)))]) rfl (Nat.le_of_ble_eq_true rfl) dX11_digest_208 (fun r uD h => ?_)
          obtain ⟨hr_, hI, hsD⟩ := h; rw [hr_]
          have hc0 := (hsD 0 (Or.inl rfl)).trans hc0
          have hT := cTr_c hT (fun k a b => hsD k (Or.inr a))
          have hsm : ∀ k, k = 0 ∨ 69 ≤ k → uD k = f k := fun k hk => (hsD k hk).trans (hsm k hk)
          have hI_ := hI
          obtain ⟨⟨-, -, hd2, hd3, hd4, hd5, hd6⟩, -, lo, ma, bt, bc, sp, sc, fk, bk, sk, hd1, -⟩ := hI_
          refine gj_i2l C dX11_digest_211 ?_
          refine gj_ladd C dX11_digest_212 ?_
          refine gj_setl (y := hh (hh (eB n0 n1 gS gP se (eS n0 n1 gS gP se (eg2 la tZ n0 n1 gS gP se) n1) t0) (s_place (nI t0) (0 : Int32) n0 n1 gS gP se)) (s_place (nI t0) (1 : Int32) n0 n1 gS gP se)) rfl ?_
          refine gj_lstore_n C (lv' := [(1, .long (hh (hh (eB n0 n1 gS gP se (eS n0 n1 gS gP se (eg2 la tZ n0 n1 gS gP se) n1) t0) (s_place (nI t0) (0 : Int32) n0 n1 gS gP se)) (s_place (nI t0) (1 : Int32) n0 n1 gS gP se))), (4, .int 1), (3, .int (nI t0)), (0, .ref (ad 0))]) 1 dX11_digest_213 rfl (by decide) rfl ?_
          refine gj_iinc C (v := 2) (lv' := [(4, .int 2), (1, .long (hh (hh (eB n0 n1 gS gP se (eS n0 n1 gS gP se (eg2 la tZ n0 n1 gS gP se) n1) t0) (s_place (nI t0) (0 : Int32) n0 n1 gS gP se)) (s_place (nI t0) (1 : Int32) n0 n1 gS gP se))), (3, .int (nI t0)), (0, .ref (ad 0))]) dX11_digest_214 1 rfl (by decide) (by decide) rfl ?_
          refine gj_goto C 193 dX11_digest_217 (by decide) ?_
          refine gj_iload C dX11_digest_193 0 rfl ?_
          refine gj_iconst C (v := 2) (by decide) dX11_digest_195 ?_
          refine gj_icmp_gt C 220 dX11_digest_196 (by decide) (fun c_36 => absurd c_36 (by decide)) (fun c_36 => ?_)
          refine gj_ldc2 C (v := 31) w_829 dX11_digest_199 ?_
          refine gj_lload_n C 1 dX11_digest_202 rfl 1 rfl ?_
          refine gj_lmul C dX11_digest_203 ?_
          refine gj_aload_n C 0 dX11_digest_204 rfl 3 rfl ?_
          refine gj_iload_n C 3 dX11_digest_205 rfl 2 rfl ?_
          refine gj_iload C dX11_digest_206 0 rfl ?_
          refine gj_callVi C mi_X11_place w_835 0 (by decide) hc0 rfl (c_place (nI t0) (2 : Int32) la n0 n1 gS gP se hc0 hI hX) mc_X11_place ⟨Nat.le_of_ble_eq_true rfl, Nat.le_of_ble_eq_true rfl⟩ (rest := [.long (31 * (hh (hh (eB n0 n1 gS gP se (eS n0 n1 gS gP se (eg2 la tZ n0 n1 gS gP se) n1) t0) (s_place (nI t0) (0 : Int32) n0 n1 gS gP se)) (s_place (nI t0) (1 : Int32) n0 n1 gS gP se)))]) rfl (Nat.le_of_ble_eq_true rfl) dX11_digest_208 (fun r uD h => ?_)
          obtain ⟨hr_, hI, hsD⟩ := h; rw [hr_]
          have hc0 := (hsD 0 (Or.inl rfl)).trans hc0
          have hT := cTr_c hT (fun k a b => hsD k (Or.inr a))
          have hsm : ∀ k, k = 0 ∨ 69 ≤ k → uD k = f k := fun k hk => (hsD k hk).trans (hsm k hk)
          have hI_ := hI
          obtain ⟨⟨-, -, hd2, hd3, hd4, hd5, hd6⟩, -, lo, ma, bt, bc, sp, sc, fk, bk, sk, hd1, -⟩ := hI_
          refine gj_i2l C dX11_digest_211 ?_
          refine gj_ladd C dX11_digest_212 ?_
          refine gj_setl (y := hh (hh (hh (eB n0 n1 gS gP se (eS n0 n1 gS gP se (eg2 la tZ n0 n1 gS gP se) n1) t0) (s_place (nI t0) (0 : Int32) n0 n1 gS gP se)) (s_place (nI t0) (1 : Int32) n0 n1 gS gP se)) (s_place (nI t0) (2 : Int32) n0 n1 gS gP se)) rfl ?_
          refine gj_lstore_n C (lv' := [(1, .long (hh (hh (hh (eB n0 n1 gS gP se (eS n0 n1 gS gP se (eg2 la tZ n0 n1 gS gP se) n1) t0) (s_place (nI t0) (0 : Int32) n0 n1 gS gP se)) (s_place (nI t0) (1 : Int32) n0 n1 gS gP se)) (s_place (nI t0) (2 : Int32) n0 n1 gS gP se))), (4, .int 2), (3, .int (nI t0)), (0, .ref (ad 0))]) 1 dX11_digest_213 rfl (by decide) rfl ?_
          refine gj_iinc C (v := 3) (lv' := [(4, .int 3), (1, .long (hh (hh (hh (eB n0 n1 gS gP se (eS n0 n1 gS gP se (eg2 la tZ n0 n1 gS gP se) n1) t0) (s_place (nI t0) (0 : Int32) n0 n1 gS gP se)) (s_place (nI t0) (1 : Int32) n0 n1 gS gP se)) (s_place (nI t0) (2 : Int32) n0 n1 gS gP se))), (3, .int (nI t0)), (0, .ref (ad 0))]) dX11_digest_214 1 rfl (by decide) (by decide) rfl ?_
          refine gj_goto C 193 dX11_digest_217 (by decide) ?_
          refine gj_iload C dX11_digest_193 0 rfl ?_
          refine gj_iconst C (v := 2) (by decide) dX11_digest_195 ?_
          refine gj_icmp_gt C 220 dX11_digest_196 (by decide) (fun c_37 => ?_) (fun c_37 => absurd (by decide) c_37)
          refine gj_iconst C (v := 0) (by decide) dX11_digest_220 ?_
          refine gj_istore C (lv' := [(4, .int 0), (1, .long (hh (hh (hh (eB n0 n1 gS gP se (eS n0 n1 gS gP se (eg2 la tZ n0 n1 gS gP se) n1) t0) (s_place (nI t0) (0 : Int32) n0 n1 gS gP se)) (s_place (nI t0) (1 : Int32) n0 n1 gS gP se)) (s_place (nI t0) (2 : Int32) n0 n1 gS gP se))), (3, .int (nI t0)), (0, .ref (ad 0))]) dX11_digest_221 (by decide) rfl ?_
          refine gj_iload C dX11_digest_223 0 rfl ?_
          refine gj_iconst C (v := 2) (by decide) dX11_digest_225 ?_
          refine gj_icmp_gt C 253 dX11_digest_226 (by decide) (fun c_38 => absurd c_38 (by decide)) (fun c_38 => ?_)
          refine gj_ldc2 C (v := 31) w_829 dX11_digest_229 ?_
          refine gj_lload_n C 1 dX11_digest_232 rfl 1 rfl ?_
          refine gj_lmul C dX11_digest_233 ?_
          refine gj_aload_n C 0 dX11_digest_234 rfl 3 rfl ?_
          refine gj_iconst C (v := 0) (by decide) dX11_digest_235 ?_
          refine gj_iconst C (v := 0) (by decide) dX11_digest_236 ?_
          refine gj_iconst C (v := 1) (by decide) dX11_digest_237 ?_
          refine gj_iload_n C 3 dX11_digest_238 rfl 2 rfl ?_
          refine gj_iload C dX11_digest_239 0 rfl ?_
          refine gj_callVi C mi_X11_key w_836 0 (by decide) hc0 rfl (c_key0 (0 : Int32) (1 : Int32) (nI t0) (0 : Int32) la lo ma bt bc sp sc fk bk sk n0 n1 gS gP se hc0 hd1 hd2 hd3 hd4 hd5 hd6 (by first | assumption | omega) (by first | assumption | omega)) mc_X11_key ⟨Nat.le_of_ble_eq_true rfl, Nat.le_of_ble_eq_true rfl⟩ (rest := [.long (31 * (hh (hh (hh (eB n0 n1 gS gP se (eS n0 n1 gS gP se (eg2 la tZ n0 n1 gS gP se) n1) t0) (s_place (nI t0) (0 : Int32) n0 n1 gS gP se)) (s_place (nI t0) (1 : Int32) n0 n1 gS gP se)) (s_place (nI t0) (2 : Int32) n0 n1 gS gP se)))]) rfl (Nat.le_of_ble_eq_true rfl) dX11_digest_241 (fun r uE h => ?_)
          obtain ⟨hr_, hu_⟩ := h; rw [hr_, hu_]
          refine gj_i2l C dX11_digest_244 ?_
          refine gj_ladd C dX11_digest_245 ?_
          refine gj_setl (y := hh (hh (hh (hh (eB n0 n1 gS gP se (eS n0 n1 gS gP se (eg2 la tZ n0 n1 gS gP se) n1) t0) (s_place (nI t0) (0 : Int32) n0 n1 gS gP se)) (s_place (nI t0) (1 : Int32) n0 n1 gS gP se)) (s_place (nI t0) (2 : Int32) n0 n1 gS gP se)) (s_key0 (0 : Int32) (1 : Int32) (nI t0) (0 : Int32) n0 gS se)) rfl ?_
          refine gj_lstore_n C (lv' := [(1, .long (hh (hh (hh (hh (eB n0 n1 gS gP se (eS n0 n1 gS gP se (eg2 la tZ n0 n1 gS gP se) n1) t0) (s_place (nI t0) (0 : Int32) n0 n1 gS gP se)) (s_place (nI t0) (1 : Int32) n0 n1 gS gP se)) (s_place (nI t0) (2 : Int32) n0 n1 gS gP se)) (s_key0 (0 : Int32) (1 : Int32) (nI t0) (0 : Int32) n0 gS se))), (4, .int 0), (3, .int (nI t0)), (0, .ref (ad 0))]) 1 dX11_digest_246 rfl (by decide) rfl ?_
          refine gj_iinc C (v := 1) (lv' := [(4, .int 1), (1, .long (hh (hh (hh (hh (eB n0 n1 gS gP se (eS n0 n1 gS gP se (eg2 la tZ n0 n1 gS gP se) n1) t0) (s_place (nI t0) (0 : Int32) n0 n1 gS gP se)) (s_place (nI t0) (1 : Int32) n0 n1 gS gP se)) (s_place (nI t0) (2 : Int32) n0 n1 gS gP se)) (s_key0 (0 : Int32) (1 : Int32) (nI t0) (0 : Int32) n0 gS se))), (3, .int (nI t0)), (0, .ref (ad 0))]) dX11_digest_247 1 rfl (by decide) (by decide) rfl ?_
          refine gj_goto C 223 dX11_digest_250 (by decide) ?_
          refine gj_iload C dX11_digest_223 0 rfl ?_
          refine gj_iconst C (v := 2) (by decide) dX11_digest_225 ?_
          refine gj_icmp_gt C 253 dX11_digest_226 (by decide) (fun c_39 => absurd c_39 (by decide)) (fun c_39 => ?_)
          refine gj_ldc2 C (v := 31) w_829 dX11_digest_229 ?_
          refine gj_lload_n C 1 dX11_digest_232 rfl 1 rfl ?_
          refine gj_lmul C dX11_digest_233 ?_
          refine gj_aload_n C 0 dX11_digest_234 rfl 3 rfl ?_
          refine gj_iconst C (v := 0) (by decide) dX11_digest_235 ?_
          refine gj_iconst C (v := 0) (by decide) dX11_digest_236 ?_
          refine gj_iconst C (v := 1) (by decide) dX11_digest_237 ?_
          refine gj_iload_n C 3 dX11_digest_238 rfl 2 rfl ?_
          refine gj_iload C dX11_digest_239 0 rfl ?_
          refine gj_callVi C mi_X11_key w_836 0 (by decide) hc0 rfl (c_key0 (0 : Int32) (1 : Int32) (nI t0) (1 : Int32) la lo ma bt bc sp sc fk bk sk n0 n1 gS gP se hc0 hd1 hd2 hd3 hd4 hd5 hd6 (by first | assumption | omega) (by first | assumption | omega)) mc_X11_key ⟨Nat.le_of_ble_eq_true rfl, Nat.le_of_ble_eq_true rfl⟩ (rest := [.long (31 * (hh (hh (hh (hh (eB n0 n1 gS gP se (eS n0 n1 gS gP se (eg2 la tZ n0 n1 gS gP se) n1) t0) (s_place (nI t0) (0 : Int32) n0 n1 gS gP se)) (s_place (nI t0) (1 : Int32) n0 n1 gS gP se)) (s_place (nI t0) (2 : Int32) n0 n1 gS gP se)) (s_key0 (0 : Int32) (1 : Int32) (nI t0) (0 : Int32) n0 gS se)))]) rfl (Nat.le_of_ble_eq_true rfl) dX11_digest_241 (fun r uE h => ?_)
          obtain ⟨hr_, hu_⟩ := h; rw [hr_, hu_]
          refine gj_i2l C dX11_digest_244 ?_
          refine gj_ladd C dX11_digest_245 ?_
          refine gj_setl (y := hh (hh (hh (hh (hh (eB n0 n1 gS gP se (eS n0 n1 gS gP se (eg2 la tZ n0 n1 gS gP se) n1) t0) (s_place (nI t0) (0 : Int32) n0 n1 gS gP se)) (s_place (nI t0) (1 : Int32) n0 n1 gS gP se)) (s_place (nI t0) (2 : Int32) n0 n1 gS gP se)) (s_key0 (0 : Int32) (1 : Int32) (nI t0) (0 : Int32) n0 gS se)) (s_key0 (0 : Int32) (1 : Int32) (nI t0) (1 : Int32) n0 gS se)) rfl ?_
          refine gj_lstore_n C (lv' := [(1, .long (hh (hh (hh (hh (hh (eB n0 n1 gS gP se (eS n0 n1 gS gP se (eg2 la tZ n0 n1 gS gP se) n1) t0) (s_place (nI t0) (0 : Int32) n0 n1 gS gP se)) (s_place (nI t0) (1 : Int32) n0 n1 gS gP se)) (s_place (nI t0) (2 : Int32) n0 n1 gS gP se)) (s_key0 (0 : Int32) (1 : Int32) (nI t0) (0 : Int32) n0 gS se)) (s_key0 (0 : Int32) (1 : Int32) (nI t0) (1 : Int32) n0 gS se))), (4, .int 1), (3, .int (nI t0)), (0, .ref (ad 0))]) 1 dX11_digest_246 rfl (by decide) rfl ?_
          refine gj_iinc C (v := 2) (lv' := [(4, .int 2), (1, .long (hh (hh (hh (hh (hh (eB n0 n1 gS gP se (eS n0 n1 gS gP se (eg2 la tZ n0 n1 gS gP se) n1) t0) (s_place (nI t0) (0 : Int32) n0 n1 gS gP se)) (s_place (nI t0) (1 : Int32) n0 n1 gS gP se)) (s_place (nI t0) (2 : Int32) n0 n1 gS gP se)) (s_key0 (0 : Int32) (1 : Int32) (nI t0) (0 : Int32) n0 gS se)) (s_key0 (0 : Int32) (1 : Int32) (nI t0) (1 : Int32) n0 gS se))), (3, .int (nI t0)), (0, .ref (ad 0))]) dX11_digest_247 1 rfl (by decide) (by decide) rfl ?_
          refine gj_goto C 223 dX11_digest_250 (by decide) ?_
          refine gj_iload C dX11_digest_223 0 rfl ?_
          refine gj_iconst C (v := 2) (by decide) dX11_digest_225 ?_
          refine gj_icmp_gt C 253 dX11_digest_226 (by decide) (fun c_40 => absurd c_40 (by decide)) (fun c_40 => ?_)
          refine gj_ldc2 C (v := 31) w_829 dX11_digest_229 ?_
          refine gj_lload_n C 1 dX11_digest_232 rfl 1 rfl ?_
          refine gj_lmul C dX11_digest_233 ?_
          refine gj_aload_n C 0 dX11_digest_234 rfl 3 rfl ?_
          refine gj_iconst C (v := 0) (by decide) dX11_digest_235 ?_
          refine gj_iconst C (v := 0) (by decide) dX11_digest_236 ?_
          refine gj_iconst C (v := 1) (by decide) dX11_digest_237 ?_
          refine gj_iload_n C 3 dX11_digest_238 rfl 2 rfl ?_
          refine gj_iload C dX11_digest_239 0 rfl ?_
          refine gj_callVi C mi_X11_key w_836 0 (by decide) hc0 rfl (c_key0 (0 : Int32) (1 : Int32) (nI t0) (2 : Int32) la lo ma bt bc sp sc fk bk sk n0 n1 gS gP se hc0 hd1 hd2 hd3 hd4 hd5 hd6 (by first | assumption | omega) (by first | assumption | omega)) mc_X11_key ⟨Nat.le_of_ble_eq_true rfl, Nat.le_of_ble_eq_true rfl⟩ (rest := [.long (31 * (hh (hh (hh (hh (hh (eB n0 n1 gS gP se (eS n0 n1 gS gP se (eg2 la tZ n0 n1 gS gP se) n1) t0) (s_place (nI t0) (0 : Int32) n0 n1 gS gP se)) (s_place (nI t0) (1 : Int32) n0 n1 gS gP se)) (s_place (nI t0) (2 : Int32) n0 n1 gS gP se)) (s_key0 (0 : Int32) (1 : Int32) (nI t0) (0 : Int32) n0 gS se)) (s_key0 (0 : Int32) (1 : Int32) (nI t0) (1 : Int32) n0 gS se)))]) rfl (Nat.le_of_ble_eq_true rfl) dX11_digest_241 (fun r uE h => ?_)
          obtain ⟨hr_, hu_⟩ := h; rw [hr_, hu_]
          refine gj_i2l C dX11_digest_244 ?_
          refine gj_ladd C dX11_digest_245 ?_
          refine gj_setl (y := hh (hh (hh (hh (hh (hh (eB n0 n1 gS gP se (eS n0 n1 gS gP se (eg2 la tZ n0 n1 gS gP se) n1) t0) (s_place (nI t0) (0 : Int32) n0 n1 gS gP se)) (s_place (nI t0) (1 : Int32) n0 n1 gS gP se)) (s_place (nI t0) (2 : Int32) n0 n1 gS gP se)) (s_key0 (0 : Int32) (1 : Int32) (nI t0) (0 : Int32) n0 gS se)) (s_key0 (0 : Int32) (1 : Int32) (nI t0) (1 : Int32) n0 gS se)) (s_key0 (0 : Int32) (1 : Int32) (nI t0) (2 : Int32) n0 gS se)) rfl ?_
          refine gj_lstore_n C (lv' := [(1, .long (hh (hh (hh (hh (hh (hh (eB n0 n1 gS gP se (eS n0 n1 gS gP se (eg2 la tZ n0 n1 gS gP se) n1) t0) (s_place (nI t0) (0 : Int32) n0 n1 gS gP se)) (s_place (nI t0) (1 : Int32) n0 n1 gS gP se)) (s_place (nI t0) (2 : Int32) n0 n1 gS gP se)) (s_key0 (0 : Int32) (1 : Int32) (nI t0) (0 : Int32) n0 gS se)) (s_key0 (0 : Int32) (1 : Int32) (nI t0) (1 : Int32) n0 gS se)) (s_key0 (0 : Int32) (1 : Int32) (nI t0) (2 : Int32) n0 gS se))), (4, .int 2), (3, .int (nI t0)), (0, .ref (ad 0))]) 1 dX11_digest_246 rfl (by decide) rfl ?_
          refine gj_iinc C (v := 3) (lv' := [(4, .int 3), (1, .long (hh (hh (hh (hh (hh (hh (eB n0 n1 gS gP se (eS n0 n1 gS gP se (eg2 la tZ n0 n1 gS gP se) n1) t0) (s_place (nI t0) (0 : Int32) n0 n1 gS gP se)) (s_place (nI t0) (1 : Int32) n0 n1 gS gP se)) (s_place (nI t0) (2 : Int32) n0 n1 gS gP se)) (s_key0 (0 : Int32) (1 : Int32) (nI t0) (0 : Int32) n0 gS se)) (s_key0 (0 : Int32) (1 : Int32) (nI t0) (1 : Int32) n0 gS se)) (s_key0 (0 : Int32) (1 : Int32) (nI t0) (2 : Int32) n0 gS se))), (3, .int (nI t0)), (0, .ref (ad 0))]) dX11_digest_247 1 rfl (by decide) (by decide) rfl ?_
          refine gj_goto C 223 dX11_digest_250 (by decide) ?_
          refine gj_iload C dX11_digest_223 0 rfl ?_
          refine gj_iconst C (v := 2) (by decide) dX11_digest_225 ?_
          refine gj_icmp_gt C 253 dX11_digest_226 (by decide) (fun c_41 => ?_) (fun c_41 => absurd (by decide) c_41)
          refine gj_iinc C (v := nI (t0 + 1)) (lv' := [(3, .int (nI (t0 + 1))), (4, .int 3), (1, .long (hh (hh (hh (hh (hh (hh (eB n0 n1 gS gP se (eS n0 n1 gS gP se (eg2 la tZ n0 n1 gS gP se) n1) t0) (s_place (nI t0) (0 : Int32) n0 n1 gS gP se)) (s_place (nI t0) (1 : Int32) n0 n1 gS gP se)) (s_place (nI t0) (2 : Int32) n0 n1 gS gP se)) (s_key0 (0 : Int32) (1 : Int32) (nI t0) (0 : Int32) n0 gS se)) (s_key0 (0 : Int32) (1 : Int32) (nI t0) (1 : Int32) n0 gS se)) (s_key0 (0 : Int32) (1 : Int32) (nI t0) (2 : Int32) n0 gS se))), (0, .ref (ad 0))]) dX11_digest_253 2 rfl (nI_1 _) (by decide) rfl ?_
          refine gj_goto C 176 dX11_digest_256 (by decide) ?_
          refine gj_lvs (lv' := [(3, .int (nI (t0 + 1))), (4, .int 3), (1, .long (eB n0 n1 gS gP se (eS n0 n1 gS gP se (eg2 la tZ n0 n1 gS gP se) n1) (t0 + 1))), (0, .ref (ad 0))]) rfl ?_
          refine gj_lv [0, 2, 3] rfl ?_
          exact ih_19 (t0 + 1) (by omega) _ ⟨hI, hsm⟩
      refine gj_lv [0, 1, 2] rfl ?_
      exact loop_18 n0 0 (by omega) _ ⟨hI, hsm⟩
    | succ m0 ih_16 =>
      intro t0 hk_t0 gA hg
      obtain ⟨hI, hsm⟩ := hg
      have hc0 := (hsm 0 (Or.inl rfl)).trans hc00
      have hT := cTr_c hT0 (fun k a b => hsm k (Or.inr a))
      have hI_ := hI
      obtain ⟨⟨-, -, hd2, hd3, hd4, hd5, hd6⟩, -, lo, ma, bt, bc, sp, sc, fk, bk, sk, hd1, -⟩ := hI_
      refine gj_iload_n C 3 dX11_digest_59 rfl 0 rfl ?_
      refine gj_aload_n C 0 dX11_digest_60 rfl 2 rfl ?_
      refine gj_get C 0 (by decide) hc0 inX11 rfl 0 (by decide) w_357 (v := .ref (ad 1)) rfl dX11_digest_61 ?_
      refine gj_getN C 1 (by decide) hd1 inX6 rfl 1 (by decide) w_255 (v := .ref (ad 4)) rfl dX11_digest_64 ?_
      refine gj_callVi C mi_X1_size w_400 4 (by decide) hd4 rfl (c_X1_size 4 5 (8 : Int32) (nI n1) 24 gP hd4 hd5 (by decide) (by decide) (by decide)) mc_X1_size ⟨Nat.le_of_ble_eq_true rfl, Nat.le_of_ble_eq_true rfl⟩ (rest := [.int (nI t0)]) rfl (Nat.le_of_ble_eq_true rfl) dX11_digest_67 (fun r u h => ?_)
      obtain ⟨hr_, h⟩ := h; rw [hr_]
      rw [h]
      refine gj_seti (y := nI n1) rfl ?_
      refine gj_icmp_ge C 174 dX11_digest_70 (by decide) (fun c_42 => absurd c_42 (nI_ge (by omega) (by omega))) (fun c_42 => ?_)
      refine gj_ldc2 C (v := 31) w_829 dX11_digest_73 ?_
      refine gj_lload_n C 1 dX11_digest_76 rfl 1 rfl ?_
      refine gj_lmul C dX11_digest_77 ?_
      refine gj_aload_n C 0 dX11_digest_78 rfl 2 rfl ?_
      refine gj_iload_n C 3 dX11_digest_79 rfl 0 rfl ?_
      refine gj_iconst C (v := 0) (by decide) dX11_digest_80 ?_
      refine gj_callVi C mi_X11_taken w_832 0 (by decide) hc0 rfl (c_taken (nI t0) (0 : Int32) la n0 n1 gS gP se hc0 hI hX) mc_X11_taken ⟨Nat.le_of_ble_eq_true rfl, Nat.le_of_ble_eq_true rfl⟩ (rest := [.long (31 * (eS n0 n1 gS gP se (eg2 la tZ n0 n1 gS gP se) t0))]) rfl (Nat.le_of_ble_eq_true rfl) dX11_digest_81 (fun r uD h => ?_)
      obtain ⟨hr_, hI, hsD⟩ := h; rw [hr_]
      have hc0 := (hsD 0 (Or.inl rfl)).trans hc0
      have hT := cTr_c hT (fun k a b => hsD k (Or.inr a))
      have hsm : ∀ k, k = 0 ∨ 69 ≤ k → uD k = f k := fun k hk => (hsD k hk).trans (hsm k hk)
      have hI_ := hI
      obtain ⟨⟨-, -, hd2, hd3, hd4, hd5, hd6⟩, -, lo, ma, bt, bc, sp, sc, fk, bk, sk, hd1, -⟩ := hI_
      refine gj_i2l C dX11_digest_84 ?_
      refine gj_ladd C dX11_digest_85 ?_
      refine gj_setl (y := hh (eS n0 n1 gS gP se (eg2 la tZ n0 n1 gS gP se) t0) (s_taken (nI t0) (0 : Int32) n0 n1 gS gP se)) rfl ?_
      refine gj_lstore_n C (lv' := [(1, .long (hh (eS n0 n1 gS gP se (eg2 la tZ n0 n1 gS gP se) t0) (s_taken (nI t0) (0 : Int32) n0 n1 gS gP se))), (3, .int (nI t0)), (0, .ref (ad 0))]) 1 dX11_digest_86 rfl (by decide) rfl ?_
      refine gj_ldc2 C (v := 31) w_829 dX11_digest_87 ?_
      refine gj_lload_n C 1 dX11_digest_90 rfl 0 rfl ?_
      refine gj_lmul C dX11_digest_91 ?_
      refine gj_aload_n C 0 dX11_digest_92 rfl 2 rfl ?_
      refine gj_iload_n C 3 dX11_digest_93 rfl 1 rfl ?_
      refine gj_iconst C (v := 1) (by decide) dX11_digest_94 ?_
      refine gj_callVi C mi_X11_taken w_832 0 (by decide) hc0 rfl (c_taken (nI t0) (1 : Int32) la n0 n1 gS gP se hc0 hI hX) mc_X11_taken ⟨Nat.le_of_ble_eq_true rfl, Nat.le_of_ble_eq_true rfl⟩ (rest := [.long (31 * (hh (eS n0 n1 gS gP se (eg2 la tZ n0 n1 gS gP se) t0) (s_taken (nI t0) (0 : Int32) n0 n1 gS gP se)))]) rfl (Nat.le_of_ble_eq_true rfl) dX11_digest_95 (fun r uD h => ?_)
      obtain ⟨hr_, hI, hsD⟩ := h; rw [hr_]
      have hc0 := (hsD 0 (Or.inl rfl)).trans hc0
      have hT := cTr_c hT (fun k a b => hsD k (Or.inr a))
      have hsm : ∀ k, k = 0 ∨ 69 ≤ k → uD k = f k := fun k hk => (hsD k hk).trans (hsm k hk)
      have hI_ := hI
      obtain ⟨⟨-, -, hd2, hd3, hd4, hd5, hd6⟩, -, lo, ma, bt, bc, sp, sc, fk, bk, sk, hd1, -⟩ := hI_
      refine gj_i2l C dX11_digest_98 ?_
      refine gj_ladd C dX11_digest_99 ?_
      refine gj_setl (y := hh (hh (eS n0 n1 gS gP se (eg2 la tZ n0 n1 gS gP se) t0) (s_taken (nI t0) (0 : Int32) n0 n1 gS gP se)) (s_taken (nI t0) (1 : Int32) n0 n1 gS gP se)) rfl ?_
      refine gj_lstore_n C (lv' := [(1, .long (hh (hh (eS n0 n1 gS gP se (eg2 la tZ n0 n1 gS gP se) t0) (s_taken (nI t0) (0 : Int32) n0 n1 gS gP se)) (s_taken (nI t0) (1 : Int32) n0 n1 gS gP se))), (3, .int (nI t0)), (0, .ref (ad 0))]) 1 dX11_digest_100 rfl (by decide) rfl ?_
      refine gj_ldc2 C (v := 31) w_829 dX11_digest_101 ?_
      refine gj_lload_n C 1 dX11_digest_104 rfl 0 rfl ?_
      refine gj_lmul C dX11_digest_105 ?_
      refine gj_aload_n C 0 dX11_digest_106 rfl 2 rfl ?_
      refine gj_iload_n C 3 dX11_digest_107 rfl 1 rfl ?_
      refine gj_iconst C (v := 0) (by decide) dX11_digest_108 ?_
      refine gj_callVi C mi_X11_confirmed w_833 0 (by decide) hc0 rfl (c_confirmed (nI t0) (0 : Int32) la n0 n1 gS gP se hc0 hI hX) mc_X11_confirmed ⟨Nat.le_of_ble_eq_true rfl, Nat.le_of_ble_eq_true rfl⟩ (rest := [.long (31 * (hh (hh (eS n0 n1 gS gP se (eg2 la tZ n0 n1 gS gP se) t0) (s_taken (nI t0) (0 : Int32) n0 n1 gS gP se)) (s_taken (nI t0) (1 : Int32) n0 n1 gS gP se)))]) rfl (Nat.le_of_ble_eq_true rfl) dX11_digest_109 (fun r uD h => ?_)
      obtain ⟨hr_, hI, hsD⟩ := h; rw [hr_]
      have hc0 := (hsD 0 (Or.inl rfl)).trans hc0
      have hT := cTr_c hT (fun k a b => hsD k (Or.inr a))
      have hsm : ∀ k, k = 0 ∨ 69 ≤ k → uD k = f k := fun k hk => (hsD k hk).trans (hsm k hk)
      have hI_ := hI
      obtain ⟨⟨-, -, hd2, hd3, hd4, hd5, hd6⟩, -, lo, ma, bt, bc, sp, sc, fk, bk, sk, hd1, -⟩ := hI_
      refine gj_i2l C dX11_digest_112 ?_
      refine gj_ladd C dX11_digest_113 ?_
      refine gj_setl (y := hh (hh (hh (eS n0 n1 gS gP se (eg2 la tZ n0 n1 gS gP se) t0) (s_taken (nI t0) (0 : Int32) n0 n1 gS gP se)) (s_taken (nI t0) (1 : Int32) n0 n1 gS gP se)) (s_confirmed (nI t0) (0 : Int32) n0 n1 gS gP se)) rfl ?_
      refine gj_lstore_n C (lv' := [(1, .long (hh (hh (hh (eS n0 n1 gS gP se (eg2 la tZ n0 n1 gS gP se) t0) (s_taken (nI t0) (0 : Int32) n0 n1 gS gP se)) (s_taken (nI t0) (1 : Int32) n0 n1 gS gP se)) (s_confirmed (nI t0) (0 : Int32) n0 n1 gS gP se))), (3, .int (nI t0)), (0, .ref (ad 0))]) 1 dX11_digest_114 rfl (by decide) rfl ?_
      refine gj_ldc2 C (v := 31) w_829 dX11_digest_115 ?_
      refine gj_lload_n C 1 dX11_digest_118 rfl 0 rfl ?_
      refine gj_lmul C dX11_digest_119 ?_
      refine gj_aload_n C 0 dX11_digest_120 rfl 2 rfl ?_
      refine gj_iload_n C 3 dX11_digest_121 rfl 1 rfl ?_
      refine gj_iconst C (v := 1) (by decide) dX11_digest_122 ?_
      refine gj_callVi C mi_X11_confirmed w_833 0 (by decide) hc0 rfl (c_confirmed (nI t0) (1 : Int32) la n0 n1 gS gP se hc0 hI hX) mc_X11_confirmed ⟨Nat.le_of_ble_eq_true rfl, Nat.le_of_ble_eq_true rfl⟩ (rest := [.long (31 * (hh (hh (hh (eS n0 n1 gS gP se (eg2 la tZ n0 n1 gS gP se) t0) (s_taken (nI t0) (0 : Int32) n0 n1 gS gP se)) (s_taken (nI t0) (1 : Int32) n0 n1 gS gP se)) (s_confirmed (nI t0) (0 : Int32) n0 n1 gS gP se)))]) rfl (Nat.le_of_ble_eq_true rfl) dX11_digest_123 (fun r uD h => ?_)
      obtain ⟨hr_, hI, hsD⟩ := h; rw [hr_]
      have hc0 := (hsD 0 (Or.inl rfl)).trans hc0
      have hT := cTr_c hT (fun k a b => hsD k (Or.inr a))
      have hsm : ∀ k, k = 0 ∨ 69 ≤ k → uD k = f k := fun k hk => (hsD k hk).trans (hsm k hk)
      have hI_ := hI
      obtain ⟨⟨-, -, hd2, hd3, hd4, hd5, hd6⟩, -, lo, ma, bt, bc, sp, sc, fk, bk, sk, hd1, -⟩ := hI_
      refine gj_i2l C dX11_digest_126 ?_
      refine gj_ladd C dX11_digest_127 ?_
      refine gj_setl (y := hh (hh (hh (hh (eS n0 n1 gS gP se (eg2 la tZ n0 n1 gS gP se) t0) (s_taken (nI t0) (0 : Int32) n0 n1 gS gP se)) (s_taken (nI t0) (1 : Int32) n0 n1 gS gP se)) (s_confirmed (nI t0) (0 : Int32) n0 n1 gS gP se)) (s_confirmed (nI t0) (1 : Int32) n0 n1 gS gP se)) rfl ?_
      refine gj_lstore_n C (lv' := [(1, .long (hh (hh (hh (hh (eS n0 n1 gS gP se (eg2 la tZ n0 n1 gS gP se) t0) (s_taken (nI t0) (0 : Int32) n0 n1 gS gP se)) (s_taken (nI t0) (1 : Int32) n0 n1 gS gP se)) (s_confirmed (nI t0) (0 : Int32) n0 n1 gS gP se)) (s_confirmed (nI t0) (1 : Int32) n0 n1 gS gP se))), (3, .int (nI t0)), (0, .ref (ad 0))]) 1 dX11_digest_128 rfl (by decide) rfl ?_
      refine gj_iconst C (v := 0) (by decide) dX11_digest_129 ?_
      refine gj_seti (y := nI 0) rfl ?_
      refine gj_istore C (lv' := [(4, .int (nI 0)), (1, .long (hh (hh (hh (hh (eS n0 n1 gS gP se (eg2 la tZ n0 n1 gS gP se) t0) (s_taken (nI t0) (0 : Int32) n0 n1 gS gP se)) (s_taken (nI t0) (1 : Int32) n0 n1 gS gP se)) (s_confirmed (nI t0) (0 : Int32) n0 n1 gS gP se)) (s_confirmed (nI t0) (1 : Int32) n0 n1 gS gP se))), (3, .int (nI t0)), (0, .ref (ad 0))]) dX11_digest_130 (by decide) rfl ?_
      refine gj_lvs (lv' := [(4, .int (nI 0)), (1, .long (eV n0 n1 gS gP se t0 (hh (hh (hh (hh (eS n0 n1 gS gP se (eg2 la tZ n0 n1 gS gP se) t0) (s_taken (nI t0) (0 : Int32) n0 n1 gS gP se)) (s_taken (nI t0) (1 : Int32) n0 n1 gS gP se)) (s_confirmed (nI t0) (0 : Int32) n0 n1 gS gP se)) (s_confirmed (nI t0) (1 : Int32) n0 n1 gS gP se)) 0)), (3, .int (nI t0)), (0, .ref (ad 0))]) rfl ?_
      have loop_43 : ∀ (m1 t1 : Nat), t1 + m1 = n0 → ∀ gB : Nat → va_E, (cSI ca ad n0 n1 gS gP se gB ∧ ∀ k, k = 0 ∨ 69 ≤ k → gB k = f k) → gJ pT l eT (Rm 7) sT mT aT below meth cT AT QT D ad 108 6 (gB) [(4, .int (nI t1)), (1, .long (eV n0 n1 gS gP se t0 (hh (hh (hh (hh (eS n0 n1 gS gP se (eg2 la tZ n0 n1 gS gP se) t0) (s_taken (nI t0) (0 : Int32) n0 n1 gS gP se)) (s_taken (nI t0) (1 : Int32) n0 n1 gS gP se)) (s_confirmed (nI t0) (0 : Int32) n0 n1 gS gP se)) (s_confirmed (nI t0) (1 : Int32) n0 n1 gS gP se)) t1)), (3, .int (nI t0)), (0, .ref (ad 0))] 132 [] := by
        intro m1
        induction m1 with
        | zero =>
          intro t1 hk_t1 gB hg
          obtain ⟨hI, hsm⟩ := hg
          have hc0 := (hsm 0 (Or.inl rfl)).trans hc00
          have hT := cTr_c hT0 (fun k a b => hsm k (Or.inr a))
          have hI_ := hI
          obtain ⟨⟨-, -, hd2, hd3, hd4, hd5, hd6⟩, -, lo, ma, bt, bc, sp, sc, fk, bk, sk, hd1, -⟩ := hI_
          refine gj_iload C dX11_digest_132 0 rfl ?_
          refine gj_aload_n C 0 dX11_digest_134 rfl 3 rfl ?_
          refine gj_get C 0 (by decide) hc0 inX11 rfl 0 (by decide) w_357 (v := .ref (ad 1)) rfl dX11_digest_135 ?_
          refine gj_getN C 1 (by decide) hd1 inX6 rfl 0 (by decide) w_253 (v := .ref (ad 2)) rfl dX11_digest_138 ?_
          refine gj_callVi C mi_X1_size w_400 2 (by decide) hd2 rfl (c_X1_size 2 3 (12 : Int32) (nI n0) 36 gS hd2 hd3 (by decide) (by decide) (by decide)) mc_X1_size ⟨Nat.le_of_ble_eq_true rfl, Nat.le_of_ble_eq_true rfl⟩ (rest := [.int (nI t1)]) rfl (Nat.le_of_ble_eq_true rfl) dX11_digest_141 (fun r u h => ?_)
          obtain ⟨hr_, h⟩ := h; rw [hr_]
          rw [h]
          refine gj_seti (y := nI n0) rfl ?_
          refine gj_icmp_ge C 168 dX11_digest_144 (by decide) (fun c_45 => ?_) (fun c_45 => absurd (nI_le (by omega) (by omega)) c_45)
          refine gj_iinc C (v := nI (t0 + 1)) (lv' := [(3, .int (nI (t0 + 1))), (4, .int (nI t1)), (1, .long (eV n0 n1 gS gP se t0 (hh (hh (hh (hh (eS n0 n1 gS gP se (eg2 la tZ n0 n1 gS gP se) t0) (s_taken (nI t0) (0 : Int32) n0 n1 gS gP se)) (s_taken (nI t0) (1 : Int32) n0 n1 gS gP se)) (s_confirmed (nI t0) (0 : Int32) n0 n1 gS gP se)) (s_confirmed (nI t0) (1 : Int32) n0 n1 gS gP se)) t1)), (0, .ref (ad 0))]) dX11_digest_168 2 rfl (nI_1 _) (by decide) rfl ?_
          refine gj_goto C 59 dX11_digest_171 (by decide) ?_
          refine gj_lvs (lv' := [(3, .int (nI (t0 + 1))), (4, .int (nI t1)), (1, .long (eS n0 n1 gS gP se (eg2 la tZ n0 n1 gS gP se) (t0 + 1))), (0, .ref (ad 0))]) (by obtain rfl : t1 = n0 := (by omega); rfl) ?_
          refine gj_lv [0, 2, 3] rfl ?_
          exact ih_16 (t0 + 1) (by omega) _ ⟨hI, hsm⟩
        | succ m1 ih_44 =>
          intro t1 hk_t1 gB hg
          obtain ⟨hI, hsm⟩ := hg
          have hc0 := (hsm 0 (Or.inl rfl)).trans hc00
          have hT := cTr_c hT0 (fun k a b => hsm k (Or.inr a))
          have hI_ := hI
          obtain ⟨⟨-, -, hd2, hd3, hd4, hd5, hd6⟩, -, lo, ma, bt, bc, sp, sc, fk, bk, sk, hd1, -⟩ := hI_
          refine gj_iload C dX11_digest_132 0 rfl ?_
          refine gj_aload_n C 0 dX11_digest_134 rfl 3 rfl ?_
          refine gj_get C 0 (by decide) hc0 inX11 rfl 0 (by decide) w_357 (v := .ref (ad 1)) rfl dX11_digest_135 ?_
          refine gj_getN C 1 (by decide) hd1 inX6 rfl 0 (by decide) w_253 (v := .ref (ad 2)) rfl dX11_digest_138 ?_
          refine gj_callVi C mi_X1_size w_400 2 (by decide) hd2 rfl (c_X1_size 2 3 (12 : Int32) (nI n0) 36 gS hd2 hd3 (by decide) (by decide) (by decide)) mc_X1_size ⟨Nat.le_of_ble_eq_true rfl, Nat.le_of_ble_eq_true rfl⟩ (rest := [.int (nI t1)]) rfl (Nat.le_of_ble_eq_true rfl) dX11_digest_141 (fun r u h => ?_)
          obtain ⟨hr_, h⟩ := h; rw [hr_]
          rw [h]
          refine gj_seti (y := nI n0) rfl ?_
          refine gj_icmp_ge C 168 dX11_digest_144 (by decide) (fun c_46 => absurd c_46 (nI_ge (by omega) (by omega))) (fun c_46 => ?_)
          refine gj_ldc2 C (v := 31) w_829 dX11_digest_147 ?_
          refine gj_lload_n C 1 dX11_digest_150 rfl 1 rfl ?_
          refine gj_lmul C dX11_digest_151 ?_
          refine gj_aload_n C 0 dX11_digest_152 rfl 3 rfl ?_
          refine gj_iload_n C 3 dX11_digest_153 rfl 2 rfl ?_
          refine gj_iload C dX11_digest_154 0 rfl ?_
          refine gj_callVi C mi_X11_votes w_834 0 (by decide) hc0 rfl (c_votes (nI t0) (nI t1) la n0 n1 gS gP se hc0 hI hX) mc_X11_votes ⟨Nat.le_of_ble_eq_true rfl, Nat.le_of_ble_eq_true rfl⟩ (rest := [.long (31 * (eV n0 n1 gS gP se t0 (hh (hh (hh (hh (eS n0 n1 gS gP se (eg2 la tZ n0 n1 gS gP se) t0) (s_taken (nI t0) (0 : Int32) n0 n1 gS gP se)) (s_taken (nI t0) (1 : Int32) n0 n1 gS gP se)) (s_confirmed (nI t0) (0 : Int32) n0 n1 gS gP se)) (s_confirmed (nI t0) (1 : Int32) n0 n1 gS gP se)) t1))]) rfl (Nat.le_of_ble_eq_true rfl) dX11_digest_156 (fun r uD h => ?_)
          obtain ⟨hr_, hI, hsD⟩ := h; rw [hr_]
          have hc0 := (hsD 0 (Or.inl rfl)).trans hc0
          have hT := cTr_c hT (fun k a b => hsD k (Or.inr a))
          have hsm : ∀ k, k = 0 ∨ 69 ≤ k → uD k = f k := fun k hk => (hsD k hk).trans (hsm k hk)
          have hI_ := hI
          obtain ⟨⟨-, -, hd2, hd3, hd4, hd5, hd6⟩, -, lo, ma, bt, bc, sp, sc, fk, bk, sk, hd1, -⟩ := hI_
          refine gj_i2l C dX11_digest_159 ?_
          refine gj_ladd C dX11_digest_160 ?_
          refine gj_setl (y := hh (eV n0 n1 gS gP se t0 (hh (hh (hh (hh (eS n0 n1 gS gP se (eg2 la tZ n0 n1 gS gP se) t0) (s_taken (nI t0) (0 : Int32) n0 n1 gS gP se)) (s_taken (nI t0) (1 : Int32) n0 n1 gS gP se)) (s_confirmed (nI t0) (0 : Int32) n0 n1 gS gP se)) (s_confirmed (nI t0) (1 : Int32) n0 n1 gS gP se)) t1) (s_votes (nI t0) (nI t1) n0 n1 gS gP se)) rfl ?_
          refine gj_lstore_n C (lv' := [(1, .long (hh (eV n0 n1 gS gP se t0 (hh (hh (hh (hh (eS n0 n1 gS gP se (eg2 la tZ n0 n1 gS gP se) t0) (s_taken (nI t0) (0 : Int32) n0 n1 gS gP se)) (s_taken (nI t0) (1 : Int32) n0 n1 gS gP se)) (s_confirmed (nI t0) (0 : Int32) n0 n1 gS gP se)) (s_confirmed (nI t0) (1 : Int32) n0 n1 gS gP se)) t1) (s_votes (nI t0) (nI t1) n0 n1 gS gP se))), (4, .int (nI t1)), (3, .int (nI t0)), (0, .ref (ad 0))]) 1 dX11_digest_161 rfl (by decide) rfl ?_
          refine gj_iinc C (v := nI (t1 + 1)) (lv' := [(4, .int (nI (t1 + 1))), (1, .long (hh (eV n0 n1 gS gP se t0 (hh (hh (hh (hh (eS n0 n1 gS gP se (eg2 la tZ n0 n1 gS gP se) t0) (s_taken (nI t0) (0 : Int32) n0 n1 gS gP se)) (s_taken (nI t0) (1 : Int32) n0 n1 gS gP se)) (s_confirmed (nI t0) (0 : Int32) n0 n1 gS gP se)) (s_confirmed (nI t0) (1 : Int32) n0 n1 gS gP se)) t1) (s_votes (nI t0) (nI t1) n0 n1 gS gP se))), (3, .int (nI t0)), (0, .ref (ad 0))]) dX11_digest_162 1 rfl (nI_1 _) (by decide) rfl ?_
          refine gj_goto C 132 dX11_digest_165 (by decide) ?_
          refine gj_lvs (lv' := [(4, .int (nI (t1 + 1))), (1, .long (eV n0 n1 gS gP se t0 (hh (hh (hh (hh (eS n0 n1 gS gP se (eg2 la tZ n0 n1 gS gP se) t0) (s_taken (nI t0) (0 : Int32) n0 n1 gS gP se)) (s_taken (nI t0) (1 : Int32) n0 n1 gS gP se)) (s_confirmed (nI t0) (0 : Int32) n0 n1 gS gP se)) (s_confirmed (nI t0) (1 : Int32) n0 n1 gS gP se)) (t1 + 1))), (3, .int (nI t0)), (0, .ref (ad 0))]) rfl ?_
          refine gj_lv [0, 1, 2, 3] rfl ?_
          exact ih_44 (t1 + 1) (by omega) _ ⟨hI, hsm⟩
      refine gj_lv [0, 1, 2, 3] rfl ?_
      exact loop_43 n0 0 (by omega) _ ⟨hI, hsm⟩
  refine gj_lv [0, 1, 2] rfl ?_
  exact loop_15 n1 0 (by omega) _ ⟨hI, hsm⟩
