/-! THE METHODS OF THE CLASS: stars, spots, settings -/
theorem notfull {n r : Nat} (hr : r < 2 ^ 31) (hn : n < 2 ^ 31) (h : s_X1_isFull (nI r) (nI n) = 0) : n < r := by
  unfold s_X1_isFull at h
  by_cases q : nI n < nI r
  · rw [i32_lt, nI_toInt hr, nI_toInt hn] at q; omega
  · rw [if_neg q] at h; exact absurd h (by decide)
theorem full {n r : Nat} (hr : r < 2 ^ 31) (hn : n < 2 ^ 31) (h : ¬ s_X1_isFull (nI r) (nI n) = 0) : ¬ n < r := by
  unfold s_X1_isFull at h
  by_cases q : nI n < nI r
  · rw [if_pos q] at h; exact absurd rfl h
  · rw [i32_lt, nI_toInt hr, nI_toInt hn] at q; omega
theorem apk {n nn : Nat} (h : n * 3 + 3 ≤ nn) (hn : nn ≤ 36) : 0 ≤ (nI n).toInt ∧ 3 * (nI n).toInt + 3 ≤ nn ∧ nn ≤ 36 := by
  rw [nI_toInt (by omega)]; omega
theorem app_w3 (g : Nat → Int32) {n : Nat} (hn : n ≤ 12) (x y z : Int32) : upd (upd (upd g (3 * nI n).toNatClampNeg x) ((3 * nI n) + 1).toNatClampNeg y) ((3 * nI n) + 2).toNatClampNeg z = w3 g n x y z := by
  rw [show (3 * nI n) + 1 = nI (3 * n + 1) from i3_c n 1, show (3 * nI n) + 2 = nI (3 * n + 2) from i3_c n 2, i3_0, nI_clamp (by omega), nI_clamp (by omega), nI_clamp (by omega), w3_new]
theorem sz_pos {n : Nat} (hn : n < 2 ^ 31) (h : ¬ s_X1_size (nI n) = 0) : 0 < n ∧ ¬ nI n ≤ 0 := by
  unfold s_X1_size at h
  rw [i32_eq, nI_toInt hn] at h
  have e0 : (0 : Int32).toInt = 0 := rfl
  rw [i32_le, nI_toInt hn]
  omega
theorem w03 {w : Int32} (h : ¬ s_X11_isWithin w (0 : Int32) (3 : Int32) = 0) : 0 ≤ w.toInt ∧ w.toInt ≤ 3 := in_yes.mp h

def s_isOne0 (x : Int32) (n0 : Nat) : Int32 := if (s_X1_has x (nI n0)) = 0 then (0) else (1)
theorem b_isOne0 (x : Int32) (n0 : Nat) : s_isOne0 x n0 = 0 ∨ s_isOne0 x n0 = 1 := by
  unfold s_isOne0
  repeat' split
  all_goals first | exact Or.inl rfl | exact Or.inr rfl | apply b_X1_has
set_option maxHeartbeats 400000 in
set_option maxRecDepth 100000 in
theorem c_isOne0 {l : Launch} {D : va_G} {ca ss ad : Nat → Nat} {f : Nat → va_E}  (x : Int32) (la : Int32) (lo : Int32) (ma : Int32) (bt : Int32) (bc : Int32) (sp : Int32) (sc : Int32) (fk : Int32) (bk : Int32) (sk : Int32) (n0 : Nat) (n1 : Nat) (gS : Nat → Int32) (gP : Nat → Int32) (se : Nat → Int32) (hc0 : f 0 = .inr (10, [.ref (ad 1), .ref (ad 69), .ref (ad 70), .int la])) (hc1 : f 1 = .inr (6, sgF ad lo ma bt bc sp sc fk bk sk)) (hc2 : f 2 = .inr (1, [.ref (ad 3), .int 12, .int (nI n0)])) (hc3 : f 3 = .inl (ca 0, 36, .inl gS)) (hc4 : f 4 = .inr (1, [.ref (ad 5), .int 8, .int (nI n1)])) (hc5 : f 5 = .inl (ca 0, 24, .inl gP)) (hc6 : f 6 = .inl (ca 0, 4, .inl se)) (hn0 : n0 ≤ 12) (hn1 : n1 ≤ 8) : gMi l D ca ss ad 108 yX11_isOne cX11_isOne 3 (some .boolean) 1 f [.ref (ad 0), .int 0, .int x] (fun r u => r = s_isOne0 x n0 ∧ u = f) := by
  refine gMz_ofK (by decide +kernel) (Nat.le_of_ble_eq_true rfl) (lv0 := [(0, .ref (ad 0)), (1, .int 0), (2, .int x)]) rfl (fun pT eT sT mT aT below meth cT AT QT C RT => ?_)
  have C : gX pT sT mT aT meth cT AT D ca ss 3 RX11 cX11_isOne (some .boolean) := C
  refine gj_iload_n C 1 dX11_isOne_0 rfl 1 rfl ?_
  refine gj_callSi C w_375 w_374 (c_X11_isKind (0 : Int32)) mc_X11_isKind ⟨Nat.le_of_ble_eq_true rfl, Nat.le_of_ble_eq_true rfl⟩ (rest := []) rfl (Nat.le_of_ble_eq_true rfl) dX11_isOne_1 (fun r u h => ?_)
  obtain ⟨hr_, h⟩ := h; rw [hr_]
  rw [h]
  refine gj_seti (y := 1) (by decide) ?_
  refine gj_if_eq C 26 dX11_isOne_4 (by decide) (fun c_1 => absurd c_1 (by decide)) (fun c_1 => ?_)
  refine gj_aload_n C 0 dX11_isOne_7 rfl 0 rfl ?_
  refine gj_get C 0 (by decide) hc0 inX11 rfl 0 (by decide) w_357 (v := .ref (ad 1)) rfl dX11_isOne_8 ?_
  refine gj_iload_n C 1 dX11_isOne_11 rfl 1 rfl ?_
  refine gj_callVr C mi_X6_rowOf w_383 1 (by decide) hc1 rfl (c_rowOf0 lo ma bt bc sp sc fk bk sk hc1) mc_X6_rowOf ⟨Nat.le_of_ble_eq_true rfl, Nat.le_of_ble_eq_true rfl⟩ (rest := []) rfl (Nat.le_of_ble_eq_true rfl) dX11_isOne_12 (fun r u h => ?_)
  obtain ⟨hr_, h⟩ := h; rw [hr_]
  rw [h]
  refine gj_iload_n C 2 dX11_isOne_15 rfl 2 rfl ?_
  refine gj_callVi C mi_X1_has w_420 2 (by decide) hc2 rfl (c_X1_has 2 3 x (12 : Int32) (nI n0) 36 gS hc2 hc3 (by decide) (by decide) (by decide)) mc_X1_has ⟨Nat.le_of_ble_eq_true rfl, Nat.le_of_ble_eq_true rfl⟩ (rest := []) rfl (Nat.le_of_ble_eq_true rfl) dX11_isOne_16 (fun r u h => ?_)
  obtain ⟨hr_, h⟩ := h; rw [hr_]
  rw [h]
  refine gj_if_eq C 26 dX11_isOne_19 (by decide) (fun c_2 => ?_) (fun c_2 => ?_)
  · refine gj_iconst C (v := 0) (by decide) dX11_isOne_26 ?_
    exact RT _ _ _ _ (by decide) ⟨by unfold s_isOne0; rw [if_pos c_2], rfl⟩ dX11_isOne_27
  · refine gj_iconst C (v := 1) (by decide) dX11_isOne_22 ?_
    refine gj_goto C 27 dX11_isOne_23 (by decide) ?_
    exact RT _ _ _ _ (by decide) ⟨by unfold s_isOne0; rw [if_neg c_2], rfl⟩ dX11_isOne_27
def s_isOne1 (x : Int32) (n1 : Nat) : Int32 := if (s_X1_has x (nI n1)) = 0 then (0) else (1)
theorem b_isOne1 (x : Int32) (n1 : Nat) : s_isOne1 x n1 = 0 ∨ s_isOne1 x n1 = 1 := by
  unfold s_isOne1
  repeat' split
  all_goals first | exact Or.inl rfl | exact Or.inr rfl | apply b_X1_has
set_option maxHeartbeats 400000 in
set_option maxRecDepth 100000 in
theorem c_isOne1 {l : Launch} {D : va_G} {ca ss ad : Nat → Nat} {f : Nat → va_E}  (x : Int32) (la : Int32) (lo : Int32) (ma : Int32) (bt : Int32) (bc : Int32) (sp : Int32) (sc : Int32) (fk : Int32) (bk : Int32) (sk : Int32) (n0 : Nat) (n1 : Nat) (gS : Nat → Int32) (gP : Nat → Int32) (se : Nat → Int32) (hc0 : f 0 = .inr (10, [.ref (ad 1), .ref (ad 69), .ref (ad 70), .int la])) (hc1 : f 1 = .inr (6, sgF ad lo ma bt bc sp sc fk bk sk)) (hc2 : f 2 = .inr (1, [.ref (ad 3), .int 12, .int (nI n0)])) (hc3 : f 3 = .inl (ca 0, 36, .inl gS)) (hc4 : f 4 = .inr (1, [.ref (ad 5), .int 8, .int (nI n1)])) (hc5 : f 5 = .inl (ca 0, 24, .inl gP)) (hc6 : f 6 = .inl (ca 0, 4, .inl se)) (hn0 : n0 ≤ 12) (hn1 : n1 ≤ 8) : gMi l D ca ss ad 108 yX11_isOne cX11_isOne 3 (some .boolean) 1 f [.ref (ad 0), .int 1, .int x] (fun r u => r = s_isOne1 x n1 ∧ u = f) := by
  refine gMz_ofK (by decide +kernel) (Nat.le_of_ble_eq_true rfl) (lv0 := [(0, .ref (ad 0)), (1, .int 1), (2, .int x)]) rfl (fun pT eT sT mT aT below meth cT AT QT C RT => ?_)
  have C : gX pT sT mT aT meth cT AT D ca ss 3 RX11 cX11_isOne (some .boolean) := C
  refine gj_iload_n C 1 dX11_isOne_0 rfl 1 rfl ?_
  refine gj_callSi C w_375 w_374 (c_X11_isKind (1 : Int32)) mc_X11_isKind ⟨Nat.le_of_ble_eq_true rfl, Nat.le_of_ble_eq_true rfl⟩ (rest := []) rfl (Nat.le_of_ble_eq_true rfl) dX11_isOne_1 (fun r u h => ?_)
  obtain ⟨hr_, h⟩ := h; rw [hr_]
  rw [h]
  refine gj_seti (y := 1) (by decide) ?_
  refine gj_if_eq C 26 dX11_isOne_4 (by decide) (fun c_1 => absurd c_1 (by decide)) (fun c_1 => ?_)
  refine gj_aload_n C 0 dX11_isOne_7 rfl 0 rfl ?_
  refine gj_get C 0 (by decide) hc0 inX11 rfl 0 (by decide) w_357 (v := .ref (ad 1)) rfl dX11_isOne_8 ?_
  refine gj_iload_n C 1 dX11_isOne_11 rfl 1 rfl ?_
  refine gj_callVr C mi_X6_rowOf w_383 1 (by decide) hc1 rfl (c_rowOf1 lo ma bt bc sp sc fk bk sk hc1) mc_X6_rowOf ⟨Nat.le_of_ble_eq_true rfl, Nat.le_of_ble_eq_true rfl⟩ (rest := []) rfl (Nat.le_of_ble_eq_true rfl) dX11_isOne_12 (fun r u h => ?_)
  obtain ⟨hr_, h⟩ := h; rw [hr_]
  rw [h]
  refine gj_iload_n C 2 dX11_isOne_15 rfl 2 rfl ?_
  refine gj_callVi C mi_X1_has w_420 4 (by decide) hc4 rfl (c_X1_has 4 5 x (8 : Int32) (nI n1) 24 gP hc4 hc5 (by decide) (by decide) (by decide)) mc_X1_has ⟨Nat.le_of_ble_eq_true rfl, Nat.le_of_ble_eq_true rfl⟩ (rest := []) rfl (Nat.le_of_ble_eq_true rfl) dX11_isOne_16 (fun r u h => ?_)
  obtain ⟨hr_, h⟩ := h; rw [hr_]
  rw [h]
  refine gj_if_eq C 26 dX11_isOne_19 (by decide) (fun c_2 => ?_) (fun c_2 => ?_)
  · refine gj_iconst C (v := 0) (by decide) dX11_isOne_26 ?_
    exact RT _ _ _ _ (by decide) ⟨by unfold s_isOne1; rw [if_pos c_2], rfl⟩ dX11_isOne_27
  · refine gj_iconst C (v := 1) (by decide) dX11_isOne_22 ?_
    refine gj_goto C 27 dX11_isOne_23 (by decide) ?_
    exact RT _ _ _ _ (by decide) ⟨by unfold s_isOne1; rw [if_neg c_2], rfl⟩ dX11_isOne_27
set_option maxHeartbeats 400000 in
set_option maxRecDepth 100000 in
theorem c_isOneB {l : Launch} {D : va_G} {ca ss ad : Nat → Nat} {f : Nat → va_E} (k : Int32) (x : Int32) (la : Int32) (hc0 : f 0 = .inr (10, [.ref (ad 1), .ref (ad 69), .ref (ad 70), .int la])) (hk : s_X11_isKind k = 0) : gMi l D ca ss ad 108 yX11_isOne cX11_isOne 3 (some .boolean) 1 f [.ref (ad 0), .int k, .int x] (fun r u => r = 0 ∧ u = f) := by
  refine gMz_ofK (by decide +kernel) (Nat.le_of_ble_eq_true rfl) (lv0 := [(0, .ref (ad 0)), (1, .int k), (2, .int x)]) rfl (fun pT eT sT mT aT below meth cT AT QT C RT => ?_)
  have C : gX pT sT mT aT meth cT AT D ca ss 3 RX11 cX11_isOne (some .boolean) := C
  refine gj_iload_n C 1 dX11_isOne_0 rfl 1 rfl ?_
  refine gj_callSi C w_375 w_374 (c_X11_isKind k) mc_X11_isKind ⟨Nat.le_of_ble_eq_true rfl, Nat.le_of_ble_eq_true rfl⟩ (rest := []) rfl (Nat.le_of_ble_eq_true rfl) dX11_isOne_1 (fun r u h => ?_)
  obtain ⟨hr_, h⟩ := h; rw [hr_]
  rw [h]
  refine gj_if_eq C 26 dX11_isOne_4 (by decide) (fun c_1 => ?_) (fun c_1 => absurd hk c_1)
  refine gj_iconst C (v := 0) (by decide) dX11_isOne_26 ?_
  exact RT _ _ _ _ (by decide) ⟨rfl, rfl⟩ dX11_isOne_27
def s_at0 (i : Int32) (w : Int32) (n0 : Nat) (gS : Nat → Int32) : Int32 := if (s_isOne0 i n0) = 0 then ((-2147483648)) else (if (s_X11_isWithin w (0 : Int32) (2 : Int32)) = 0 then ((-2147483648)) else (s_X1_part i w (nI n0) gS))
set_option maxHeartbeats 400000 in
set_option maxRecDepth 100000 in
theorem c_at0 {l : Launch} {D : va_G} {ca ss ad : Nat → Nat} {f : Nat → va_E}  (i : Int32) (w : Int32) (la : Int32) (lo : Int32) (ma : Int32) (bt : Int32) (bc : Int32) (sp : Int32) (sc : Int32) (fk : Int32) (bk : Int32) (sk : Int32) (n0 : Nat) (n1 : Nat) (gS : Nat → Int32) (gP : Nat → Int32) (se : Nat → Int32) (hc0 : f 0 = .inr (10, [.ref (ad 1), .ref (ad 69), .ref (ad 70), .int la])) (hc1 : f 1 = .inr (6, sgF ad lo ma bt bc sp sc fk bk sk)) (hc2 : f 2 = .inr (1, [.ref (ad 3), .int 12, .int (nI n0)])) (hc3 : f 3 = .inl (ca 0, 36, .inl gS)) (hc4 : f 4 = .inr (1, [.ref (ad 5), .int 8, .int (nI n1)])) (hc5 : f 5 = .inl (ca 0, 24, .inl gP)) (hc6 : f 6 = .inl (ca 0, 4, .inl se)) (hn0 : n0 ≤ 12) (hn1 : n1 ≤ 8) : gMi l D ca ss ad 108 yX11_at cX11_at 4 (some .int) 2 f [.ref (ad 0), .int 0, .int i, .int w] (fun r u => r = s_at0 i w n0 gS ∧ u = f) := by
  refine gMi_ofK (by decide +kernel) (Nat.le_of_ble_eq_true rfl) (lv0 := [(0, .ref (ad 0)), (1, .int 0), (2, .int i), (3, .int w)]) rfl (fun pT eT sT mT aT below meth cT AT QT C RT => ?_)
  have C : gX pT sT mT aT meth cT AT D ca ss 4 RX11 cX11_at (some .int) := C
  refine gj_aload_n C 0 dX11_at_0 rfl 0 rfl ?_
  refine gj_iload_n C 1 dX11_at_1 rfl 1 rfl ?_
  refine gj_iload_n C 2 dX11_at_2 rfl 2 rfl ?_
  refine gj_callVi C mi_X11_isOne w_416 0 (by decide) hc0 rfl (c_isOne0 i la lo ma bt bc sp sc fk bk sk n0 n1 gS gP se hc0 hc1 hc2 hc3 hc4 hc5 hc6 (by first | assumption | omega) (by first | assumption | omega)) mc_X11_isOne ⟨Nat.le_of_ble_eq_true rfl, Nat.le_of_ble_eq_true rfl⟩ (rest := []) rfl (Nat.le_of_ble_eq_true rfl) dX11_at_3 (fun r u h => ?_)
  obtain ⟨hr_, h⟩ := h; rw [hr_]
  rw [h]
  refine gj_if_eq C 18 dX11_at_6 (by decide) (fun c_1 => ?_) (fun c_1 => ?_)
  · refine gj_ldc C (v := (-2147483648)) w_424 dX11_at_18 ?_
    exact RT _ _ _ _ ⟨by unfold s_at0; rw [if_pos c_1], rfl⟩ dX11_at_20
  · refine gj_iload_n C 3 dX11_at_9 rfl 3 rfl ?_
    refine gj_iconst C (v := 0) (by decide) dX11_at_10 ?_
    refine gj_iconst C (v := 2) (by decide) dX11_at_11 ?_
    refine gj_callSi C w_381 w_380 (c_X11_isWithin w (0 : Int32) (2 : Int32)) mc_X11_isWithin ⟨Nat.le_of_ble_eq_true rfl, Nat.le_of_ble_eq_true rfl⟩ (rest := []) rfl (Nat.le_of_ble_eq_true rfl) dX11_at_12 (fun r u h => ?_)
    obtain ⟨hr_, h⟩ := h; rw [hr_]
    rw [h]
    refine gj_if_ne C 21 dX11_at_15 (by decide) (fun c_2 => ?_) (fun c_2 => ?_)
    · refine gj_aload_n C 0 dX11_at_21 rfl 0 rfl ?_
      refine gj_get C 0 (by decide) hc0 inX11 rfl 0 (by decide) w_357 (v := .ref (ad 1)) rfl dX11_at_22 ?_
      refine gj_iload_n C 1 dX11_at_25 rfl 1 rfl ?_
      refine gj_callVr C mi_X6_rowOf w_383 1 (by decide) hc1 rfl (c_rowOf0 lo ma bt bc sp sc fk bk sk hc1) mc_X6_rowOf ⟨Nat.le_of_ble_eq_true rfl, Nat.le_of_ble_eq_true rfl⟩ (rest := []) rfl (Nat.le_of_ble_eq_true rfl) dX11_at_26 (fun r u h => ?_)
      obtain ⟨hr_, h⟩ := h; rw [hr_]
      rw [h]
      refine gj_iload_n C 2 dX11_at_29 rfl 2 rfl ?_
      refine gj_iload_n C 3 dX11_at_30 rfl 3 rfl ?_
      refine gj_callVi C mi_X1_part w_425 2 (by decide) hc2 rfl (c_X1_part 2 3 i w (12 : Int32) (nI n0) 36 gS hc2 hc3 (by decide) (by decide) (by decide) (szk (by omega) (by omega))) mc_X1_part ⟨Nat.le_of_ble_eq_true rfl, Nat.le_of_ble_eq_true rfl⟩ (rest := []) rfl (Nat.le_of_ble_eq_true rfl) dX11_at_31 (fun r u h => ?_)
      obtain ⟨hr_, h⟩ := h; rw [hr_]
      rw [h]
      exact RT _ _ _ _ ⟨by unfold s_at0; rw [if_neg c_1, if_neg c_2], rfl⟩ dX11_at_34
    · refine gj_ldc C (v := (-2147483648)) w_424 dX11_at_18 ?_
      exact RT _ _ _ _ ⟨by unfold s_at0; rw [if_neg c_1, if_pos c_2], rfl⟩ dX11_at_20
def s_at1 (i : Int32) (w : Int32) (n1 : Nat) (gP : Nat → Int32) : Int32 := if (s_isOne1 i n1) = 0 then ((-2147483648)) else (if (s_X11_isWithin w (0 : Int32) (2 : Int32)) = 0 then ((-2147483648)) else (s_X1_part i w (nI n1) gP))
set_option maxHeartbeats 400000 in
set_option maxRecDepth 100000 in
theorem c_at1 {l : Launch} {D : va_G} {ca ss ad : Nat → Nat} {f : Nat → va_E}  (i : Int32) (w : Int32) (la : Int32) (lo : Int32) (ma : Int32) (bt : Int32) (bc : Int32) (sp : Int32) (sc : Int32) (fk : Int32) (bk : Int32) (sk : Int32) (n0 : Nat) (n1 : Nat) (gS : Nat → Int32) (gP : Nat → Int32) (se : Nat → Int32) (hc0 : f 0 = .inr (10, [.ref (ad 1), .ref (ad 69), .ref (ad 70), .int la])) (hc1 : f 1 = .inr (6, sgF ad lo ma bt bc sp sc fk bk sk)) (hc2 : f 2 = .inr (1, [.ref (ad 3), .int 12, .int (nI n0)])) (hc3 : f 3 = .inl (ca 0, 36, .inl gS)) (hc4 : f 4 = .inr (1, [.ref (ad 5), .int 8, .int (nI n1)])) (hc5 : f 5 = .inl (ca 0, 24, .inl gP)) (hc6 : f 6 = .inl (ca 0, 4, .inl se)) (hn0 : n0 ≤ 12) (hn1 : n1 ≤ 8) : gMi l D ca ss ad 108 yX11_at cX11_at 4 (some .int) 2 f [.ref (ad 0), .int 1, .int i, .int w] (fun r u => r = s_at1 i w n1 gP ∧ u = f) := by
  refine gMi_ofK (by decide +kernel) (Nat.le_of_ble_eq_true rfl) (lv0 := [(0, .ref (ad 0)), (1, .int 1), (2, .int i), (3, .int w)]) rfl (fun pT eT sT mT aT below meth cT AT QT C RT => ?_)
  have C : gX pT sT mT aT meth cT AT D ca ss 4 RX11 cX11_at (some .int) := C
  refine gj_aload_n C 0 dX11_at_0 rfl 0 rfl ?_
  refine gj_iload_n C 1 dX11_at_1 rfl 1 rfl ?_
  refine gj_iload_n C 2 dX11_at_2 rfl 2 rfl ?_
  refine gj_callVi C mi_X11_isOne w_416 0 (by decide) hc0 rfl (c_isOne1 i la lo ma bt bc sp sc fk bk sk n0 n1 gS gP se hc0 hc1 hc2 hc3 hc4 hc5 hc6 (by first | assumption | omega) (by first | assumption | omega)) mc_X11_isOne ⟨Nat.le_of_ble_eq_true rfl, Nat.le_of_ble_eq_true rfl⟩ (rest := []) rfl (Nat.le_of_ble_eq_true rfl) dX11_at_3 (fun r u h => ?_)
  obtain ⟨hr_, h⟩ := h; rw [hr_]
  rw [h]
  refine gj_if_eq C 18 dX11_at_6 (by decide) (fun c_1 => ?_) (fun c_1 => ?_)
  · refine gj_ldc C (v := (-2147483648)) w_424 dX11_at_18 ?_
    exact RT _ _ _ _ ⟨by unfold s_at1; rw [if_pos c_1], rfl⟩ dX11_at_20
  · refine gj_iload_n C 3 dX11_at_9 rfl 3 rfl ?_
    refine gj_iconst C (v := 0) (by decide) dX11_at_10 ?_
    refine gj_iconst C (v := 2) (by decide) dX11_at_11 ?_
    refine gj_callSi C w_381 w_380 (c_X11_isWithin w (0 : Int32) (2 : Int32)) mc_X11_isWithin ⟨Nat.le_of_ble_eq_true rfl, Nat.le_of_ble_eq_true rfl⟩ (rest := []) rfl (Nat.le_of_ble_eq_true rfl) dX11_at_12 (fun r u h => ?_)
    obtain ⟨hr_, h⟩ := h; rw [hr_]
    rw [h]
    refine gj_if_ne C 21 dX11_at_15 (by decide) (fun c_2 => ?_) (fun c_2 => ?_)
    · refine gj_aload_n C 0 dX11_at_21 rfl 0 rfl ?_
      refine gj_get C 0 (by decide) hc0 inX11 rfl 0 (by decide) w_357 (v := .ref (ad 1)) rfl dX11_at_22 ?_
      refine gj_iload_n C 1 dX11_at_25 rfl 1 rfl ?_
      refine gj_callVr C mi_X6_rowOf w_383 1 (by decide) hc1 rfl (c_rowOf1 lo ma bt bc sp sc fk bk sk hc1) mc_X6_rowOf ⟨Nat.le_of_ble_eq_true rfl, Nat.le_of_ble_eq_true rfl⟩ (rest := []) rfl (Nat.le_of_ble_eq_true rfl) dX11_at_26 (fun r u h => ?_)
      obtain ⟨hr_, h⟩ := h; rw [hr_]
      rw [h]
      refine gj_iload_n C 2 dX11_at_29 rfl 2 rfl ?_
      refine gj_iload_n C 3 dX11_at_30 rfl 3 rfl ?_
      refine gj_callVi C mi_X1_part w_425 4 (by decide) hc4 rfl (c_X1_part 4 5 i w (8 : Int32) (nI n1) 24 gP hc4 hc5 (by decide) (by decide) (by decide) (szk (by omega) (by omega))) mc_X1_part ⟨Nat.le_of_ble_eq_true rfl, Nat.le_of_ble_eq_true rfl⟩ (rest := []) rfl (Nat.le_of_ble_eq_true rfl) dX11_at_31 (fun r u h => ?_)
      obtain ⟨hr_, h⟩ := h; rw [hr_]
      rw [h]
      exact RT _ _ _ _ ⟨by unfold s_at1; rw [if_neg c_1, if_neg c_2], rfl⟩ dX11_at_34
    · refine gj_ldc C (v := (-2147483648)) w_424 dX11_at_18 ?_
      exact RT _ _ _ _ ⟨by unfold s_at1; rw [if_neg c_1, if_pos c_2], rfl⟩ dX11_at_20
def s_side0 (i : Int32) (j : Int32) (n0 : Nat) (gS : Nat → Int32) : Int32 := if (s_isOne0 i n0) = 0 then ((-2)) else (if (s_isOne0 j n0) = 0 then ((-2)) else (s_X1_sideOf i j (nI n0) gS))
set_option maxHeartbeats 400000 in
set_option maxRecDepth 100000 in
theorem c_side0 {l : Launch} {D : va_G} {ca ss ad : Nat → Nat} {f : Nat → va_E}  (i : Int32) (j : Int32) (la : Int32) (lo : Int32) (ma : Int32) (bt : Int32) (bc : Int32) (sp : Int32) (sc : Int32) (fk : Int32) (bk : Int32) (sk : Int32) (n0 : Nat) (n1 : Nat) (gS : Nat → Int32) (gP : Nat → Int32) (se : Nat → Int32) (hc0 : f 0 = .inr (10, [.ref (ad 1), .ref (ad 69), .ref (ad 70), .int la])) (hc1 : f 1 = .inr (6, sgF ad lo ma bt bc sp sc fk bk sk)) (hc2 : f 2 = .inr (1, [.ref (ad 3), .int 12, .int (nI n0)])) (hc3 : f 3 = .inl (ca 0, 36, .inl gS)) (hc4 : f 4 = .inr (1, [.ref (ad 5), .int 8, .int (nI n1)])) (hc5 : f 5 = .inl (ca 0, 24, .inl gP)) (hc6 : f 6 = .inl (ca 0, 4, .inl se)) (hn0 : n0 ≤ 12) (hn1 : n1 ≤ 8) : gMi l D ca ss ad 108 yX11_side cX11_side 4 (some .int) 3 f [.ref (ad 0), .int 0, .int i, .int j] (fun r u => r = s_side0 i j n0 gS ∧ u = f) := by
  refine gMi_ofK (by decide +kernel) (Nat.le_of_ble_eq_true rfl) (lv0 := [(0, .ref (ad 0)), (1, .int 0), (2, .int i), (3, .int j)]) rfl (fun pT eT sT mT aT below meth cT AT QT C RT => ?_)
  have C : gX pT sT mT aT meth cT AT D ca ss 4 RX11 cX11_side (some .int) := C
  refine gj_aload_n C 0 dX11_side_0 rfl 0 rfl ?_
  refine gj_iload_n C 1 dX11_side_1 rfl 1 rfl ?_
  refine gj_iload_n C 2 dX11_side_2 rfl 2 rfl ?_
  refine gj_callVi C mi_X11_isOne w_416 0 (by decide) hc0 rfl (c_isOne0 i la lo ma bt bc sp sc fk bk sk n0 n1 gS gP se hc0 hc1 hc2 hc3 hc4 hc5 hc6 (by first | assumption | omega) (by first | assumption | omega)) mc_X11_isOne ⟨Nat.le_of_ble_eq_true rfl, Nat.le_of_ble_eq_true rfl⟩ (rest := []) rfl (Nat.le_of_ble_eq_true rfl) dX11_side_3 (fun r u h => ?_)
  obtain ⟨hr_, h⟩ := h; rw [hr_]
  rw [h]
  refine gj_if_eq C 18 dX11_side_6 (by decide) (fun c_1 => ?_) (fun c_1 => ?_)
  · refine gj_bipush C (v := (-2)) (by decide) dX11_side_18 ?_
    exact RT _ _ _ _ ⟨by unfold s_side0; rw [if_pos c_1], rfl⟩ dX11_side_20
  · refine gj_aload_n C 0 dX11_side_9 rfl 0 rfl ?_
    refine gj_iload_n C 1 dX11_side_10 rfl 1 rfl ?_
    refine gj_iload_n C 3 dX11_side_11 rfl 3 rfl ?_
    refine gj_callVi C mi_X11_isOne w_416 0 (by decide) hc0 rfl (c_isOne0 j la lo ma bt bc sp sc fk bk sk n0 n1 gS gP se hc0 hc1 hc2 hc3 hc4 hc5 hc6 (by first | assumption | omega) (by first | assumption | omega)) mc_X11_isOne ⟨Nat.le_of_ble_eq_true rfl, Nat.le_of_ble_eq_true rfl⟩ (rest := []) rfl (Nat.le_of_ble_eq_true rfl) dX11_side_12 (fun r u h => ?_)
    obtain ⟨hr_, h⟩ := h; rw [hr_]
    rw [h]
    refine gj_if_ne C 21 dX11_side_15 (by decide) (fun c_2 => ?_) (fun c_2 => ?_)
    · refine gj_aload_n C 0 dX11_side_21 rfl 0 rfl ?_
      refine gj_get C 0 (by decide) hc0 inX11 rfl 0 (by decide) w_357 (v := .ref (ad 1)) rfl dX11_side_22 ?_
      refine gj_iload_n C 1 dX11_side_25 rfl 1 rfl ?_
      refine gj_callVr C mi_X6_rowOf w_383 1 (by decide) hc1 rfl (c_rowOf0 lo ma bt bc sp sc fk bk sk hc1) mc_X6_rowOf ⟨Nat.le_of_ble_eq_true rfl, Nat.le_of_ble_eq_true rfl⟩ (rest := []) rfl (Nat.le_of_ble_eq_true rfl) dX11_side_26 (fun r u h => ?_)
      obtain ⟨hr_, h⟩ := h; rw [hr_]
      rw [h]
      refine gj_iload_n C 2 dX11_side_29 rfl 2 rfl ?_
      refine gj_iload_n C 3 dX11_side_30 rfl 3 rfl ?_
      refine gj_callVi C mi_X1_sideOf w_486 2 (by decide) hc2 rfl (c_X1_sideOf 2 3 i j (12 : Int32) (nI n0) 36 gS hc2 hc3 (by decide) (by decide) (by decide) (szk (by omega) (by omega))) mc_X1_sideOf ⟨Nat.le_of_ble_eq_true rfl, Nat.le_of_ble_eq_true rfl⟩ (rest := []) rfl (Nat.le_of_ble_eq_true rfl) dX11_side_31 (fun r u h => ?_)
      obtain ⟨hr_, h⟩ := h; rw [hr_]
      rw [h]
      exact RT _ _ _ _ ⟨by unfold s_side0; rw [if_neg c_1, if_neg c_2], rfl⟩ dX11_side_34
    · refine gj_bipush C (v := (-2)) (by decide) dX11_side_18 ?_
      exact RT _ _ _ _ ⟨by unfold s_side0; rw [if_neg c_1, if_pos c_2], rfl⟩ dX11_side_20
def s_side1 (i : Int32) (j : Int32) (n1 : Nat) (gP : Nat → Int32) : Int32 := if (s_isOne1 i n1) = 0 then ((-2)) else (if (s_isOne1 j n1) = 0 then ((-2)) else (s_X1_sideOf i j (nI n1) gP))
set_option maxHeartbeats 400000 in
set_option maxRecDepth 100000 in
theorem c_side1 {l : Launch} {D : va_G} {ca ss ad : Nat → Nat} {f : Nat → va_E}  (i : Int32) (j : Int32) (la : Int32) (lo : Int32) (ma : Int32) (bt : Int32) (bc : Int32) (sp : Int32) (sc : Int32) (fk : Int32) (bk : Int32) (sk : Int32) (n0 : Nat) (n1 : Nat) (gS : Nat → Int32) (gP : Nat → Int32) (se : Nat → Int32) (hc0 : f 0 = .inr (10, [.ref (ad 1), .ref (ad 69), .ref (ad 70), .int la])) (hc1 : f 1 = .inr (6, sgF ad lo ma bt bc sp sc fk bk sk)) (hc2 : f 2 = .inr (1, [.ref (ad 3), .int 12, .int (nI n0)])) (hc3 : f 3 = .inl (ca 0, 36, .inl gS)) (hc4 : f 4 = .inr (1, [.ref (ad 5), .int 8, .int (nI n1)])) (hc5 : f 5 = .inl (ca 0, 24, .inl gP)) (hc6 : f 6 = .inl (ca 0, 4, .inl se)) (hn0 : n0 ≤ 12) (hn1 : n1 ≤ 8) : gMi l D ca ss ad 108 yX11_side cX11_side 4 (some .int) 3 f [.ref (ad 0), .int 1, .int i, .int j] (fun r u => r = s_side1 i j n1 gP ∧ u = f) := by
  refine gMi_ofK (by decide +kernel) (Nat.le_of_ble_eq_true rfl) (lv0 := [(0, .ref (ad 0)), (1, .int 1), (2, .int i), (3, .int j)]) rfl (fun pT eT sT mT aT below meth cT AT QT C RT => ?_)
  have C : gX pT sT mT aT meth cT AT D ca ss 4 RX11 cX11_side (some .int) := C
  refine gj_aload_n C 0 dX11_side_0 rfl 0 rfl ?_
  refine gj_iload_n C 1 dX11_side_1 rfl 1 rfl ?_
  refine gj_iload_n C 2 dX11_side_2 rfl 2 rfl ?_
  refine gj_callVi C mi_X11_isOne w_416 0 (by decide) hc0 rfl (c_isOne1 i la lo ma bt bc sp sc fk bk sk n0 n1 gS gP se hc0 hc1 hc2 hc3 hc4 hc5 hc6 (by first | assumption | omega) (by first | assumption | omega)) mc_X11_isOne ⟨Nat.le_of_ble_eq_true rfl, Nat.le_of_ble_eq_true rfl⟩ (rest := []) rfl (Nat.le_of_ble_eq_true rfl) dX11_side_3 (fun r u h => ?_)
  obtain ⟨hr_, h⟩ := h; rw [hr_]
  rw [h]
  refine gj_if_eq C 18 dX11_side_6 (by decide) (fun c_1 => ?_) (fun c_1 => ?_)
  · refine gj_bipush C (v := (-2)) (by decide) dX11_side_18 ?_
    exact RT _ _ _ _ ⟨by unfold s_side1; rw [if_pos c_1], rfl⟩ dX11_side_20
  · refine gj_aload_n C 0 dX11_side_9 rfl 0 rfl ?_
    refine gj_iload_n C 1 dX11_side_10 rfl 1 rfl ?_
    refine gj_iload_n C 3 dX11_side_11 rfl 3 rfl ?_
    refine gj_callVi C mi_X11_isOne w_416 0 (by decide) hc0 rfl (c_isOne1 j la lo ma bt bc sp sc fk bk sk n0 n1 gS gP se hc0 hc1 hc2 hc3 hc4 hc5 hc6 (by first | assumption | omega) (by first | assumption | omega)) mc_X11_isOne ⟨Nat.le_of_ble_eq_true rfl, Nat.le_of_ble_eq_true rfl⟩ (rest := []) rfl (Nat.le_of_ble_eq_true rfl) dX11_side_12 (fun r u h => ?_)
    obtain ⟨hr_, h⟩ := h; rw [hr_]
    rw [h]
    refine gj_if_ne C 21 dX11_side_15 (by decide) (fun c_2 => ?_) (fun c_2 => ?_)
    · refine gj_aload_n C 0 dX11_side_21 rfl 0 rfl ?_
      refine gj_get C 0 (by decide) hc0 inX11 rfl 0 (by decide) w_357 (v := .ref (ad 1)) rfl dX11_side_22 ?_
      refine gj_iload_n C 1 dX11_side_25 rfl 1 rfl ?_
      refine gj_callVr C mi_X6_rowOf w_383 1 (by decide) hc1 rfl (c_rowOf1 lo ma bt bc sp sc fk bk sk hc1) mc_X6_rowOf ⟨Nat.le_of_ble_eq_true rfl, Nat.le_of_ble_eq_true rfl⟩ (rest := []) rfl (Nat.le_of_ble_eq_true rfl) dX11_side_26 (fun r u h => ?_)
      obtain ⟨hr_, h⟩ := h; rw [hr_]
      rw [h]
      refine gj_iload_n C 2 dX11_side_29 rfl 2 rfl ?_
      refine gj_iload_n C 3 dX11_side_30 rfl 3 rfl ?_
      refine gj_callVi C mi_X1_sideOf w_486 4 (by decide) hc4 rfl (c_X1_sideOf 4 5 i j (8 : Int32) (nI n1) 24 gP hc4 hc5 (by decide) (by decide) (by decide) (szk (by omega) (by omega))) mc_X1_sideOf ⟨Nat.le_of_ble_eq_true rfl, Nat.le_of_ble_eq_true rfl⟩ (rest := []) rfl (Nat.le_of_ble_eq_true rfl) dX11_side_31 (fun r u h => ?_)
      obtain ⟨hr_, h⟩ := h; rw [hr_]
      rw [h]
      exact RT _ _ _ _ ⟨by unfold s_side1; rw [if_neg c_1, if_neg c_2], rfl⟩ dX11_side_34
    · refine gj_bipush C (v := (-2)) (by decide) dX11_side_18 ?_
      exact RT _ _ _ _ ⟨by unfold s_side1; rw [if_neg c_1, if_pos c_2], rfl⟩ dX11_side_20
def s_key0 (a : Int32) (b : Int32) (c : Int32) (w : Int32) (n0 : Nat) (gS : Nat → Int32) (se : Nat → Int32) : Int32 := if (s_isOne0 a n0) = 0 then ((-2)) else (if (s_isOne0 b n0) = 0 then ((-2)) else (if (s_isOne0 c n0) = 0 then ((-2)) else (if (s_X11_isWithin w (0 : Int32) (2 : Int32)) = 0 then ((-2)) else (if a = b then ((-2)) else (if b = c then ((-2)) else (if a = c then ((-2)) else (s_X11_keyNumber w (s_X1_sideOf a b (nI n0) gS) (s_X1_sideOf b c (nI n0) gS) (s_X1_sideOf a c (nI n0) gS) (se 0))))))))
set_option maxHeartbeats 400000 in
set_option maxRecDepth 100000 in
theorem c_key0 {l : Launch} {D : va_G} {ca ss ad : Nat → Nat} {f : Nat → va_E}  (a : Int32) (b : Int32) (c : Int32) (w : Int32) (la : Int32) (lo : Int32) (ma : Int32) (bt : Int32) (bc : Int32) (sp : Int32) (sc : Int32) (fk : Int32) (bk : Int32) (sk : Int32) (n0 : Nat) (n1 : Nat) (gS : Nat → Int32) (gP : Nat → Int32) (se : Nat → Int32) (hc0 : f 0 = .inr (10, [.ref (ad 1), .ref (ad 69), .ref (ad 70), .int la])) (hc1 : f 1 = .inr (6, sgF ad lo ma bt bc sp sc fk bk sk)) (hc2 : f 2 = .inr (1, [.ref (ad 3), .int 12, .int (nI n0)])) (hc3 : f 3 = .inl (ca 0, 36, .inl gS)) (hc4 : f 4 = .inr (1, [.ref (ad 5), .int 8, .int (nI n1)])) (hc5 : f 5 = .inl (ca 0, 24, .inl gP)) (hc6 : f 6 = .inl (ca 0, 4, .inl se)) (hn0 : n0 ≤ 12) (hn1 : n1 ≤ 8) : gMi l D ca ss ad 108 yX11_key cX11_key 7 (some .int) 3 f [.ref (ad 0), .int 0, .int a, .int b, .int c, .int w] (fun r u => r = s_key0 a b c w n0 gS se ∧ u = f) := by
  refine gMi_ofK (by decide +kernel) (Nat.le_of_ble_eq_true rfl) (lv0 := [(0, .ref (ad 0)), (1, .int 0), (2, .int a), (3, .int b), (4, .int c), (5, .int w)]) rfl (fun pT eT sT mT aT below meth cT AT QT C RT => ?_)
  have C : gX pT sT mT aT meth cT AT D ca ss 7 RX11 cX11_key (some .int) := C
  refine gj_aload_n C 0 dX11_key_0 rfl 0 rfl ?_
  refine gj_iload_n C 1 dX11_key_1 rfl 1 rfl ?_
  refine gj_iload_n C 2 dX11_key_2 rfl 2 rfl ?_
  refine gj_callVi C mi_X11_isOne w_416 0 (by decide) hc0 rfl (c_isOne0 a la lo ma bt bc sp sc fk bk sk n0 n1 gS gP se hc0 hc1 hc2 hc3 hc4 hc5 hc6 (by first | assumption | omega) (by first | assumption | omega)) mc_X11_isOne ⟨Nat.le_of_ble_eq_true rfl, Nat.le_of_ble_eq_true rfl⟩ (rest := []) rfl (Nat.le_of_ble_eq_true rfl) dX11_key_3 (fun r u h => ?_)
  obtain ⟨hr_, h⟩ := h; rw [hr_]
  rw [h]
  refine gj_if_eq C 38 dX11_key_6 (by decide) (fun c_1 => ?_) (fun c_1 => ?_)
  · refine gj_bipush C (v := (-2)) (by decide) dX11_key_38 ?_
    exact RT _ _ _ _ ⟨by unfold s_key0; rw [if_pos c_1], rfl⟩ dX11_key_40
  · refine gj_aload_n C 0 dX11_key_9 rfl 0 rfl ?_
    refine gj_iload_n C 1 dX11_key_10 rfl 1 rfl ?_
    refine gj_iload_n C 3 dX11_key_11 rfl 3 rfl ?_
    refine gj_callVi C mi_X11_isOne w_416 0 (by decide) hc0 rfl (c_isOne0 b la lo ma bt bc sp sc fk bk sk n0 n1 gS gP se hc0 hc1 hc2 hc3 hc4 hc5 hc6 (by first | assumption | omega) (by first | assumption | omega)) mc_X11_isOne ⟨Nat.le_of_ble_eq_true rfl, Nat.le_of_ble_eq_true rfl⟩ (rest := []) rfl (Nat.le_of_ble_eq_true rfl) dX11_key_12 (fun r u h => ?_)
    obtain ⟨hr_, h⟩ := h; rw [hr_]
    rw [h]
    refine gj_if_eq C 38 dX11_key_15 (by decide) (fun c_2 => ?_) (fun c_2 => ?_)
    · refine gj_bipush C (v := (-2)) (by decide) dX11_key_38 ?_
      exact RT _ _ _ _ ⟨by unfold s_key0; rw [if_neg c_1, if_pos c_2], rfl⟩ dX11_key_40
    · refine gj_aload_n C 0 dX11_key_18 rfl 0 rfl ?_
      refine gj_iload_n C 1 dX11_key_19 rfl 1 rfl ?_
      refine gj_iload C dX11_key_20 4 rfl ?_
      refine gj_callVi C mi_X11_isOne w_416 0 (by decide) hc0 rfl (c_isOne0 c la lo ma bt bc sp sc fk bk sk n0 n1 gS gP se hc0 hc1 hc2 hc3 hc4 hc5 hc6 (by first | assumption | omega) (by first | assumption | omega)) mc_X11_isOne ⟨Nat.le_of_ble_eq_true rfl, Nat.le_of_ble_eq_true rfl⟩ (rest := []) rfl (Nat.le_of_ble_eq_true rfl) dX11_key_22 (fun r u h => ?_)
      obtain ⟨hr_, h⟩ := h; rw [hr_]
      rw [h]
      refine gj_if_eq C 38 dX11_key_25 (by decide) (fun c_3 => ?_) (fun c_3 => ?_)
      · refine gj_bipush C (v := (-2)) (by decide) dX11_key_38 ?_
        exact RT _ _ _ _ ⟨by unfold s_key0; rw [if_neg c_1, if_neg c_2, if_pos c_3], rfl⟩ dX11_key_40
      · refine gj_iload C dX11_key_28 5 rfl ?_
        refine gj_iconst C (v := 0) (by decide) dX11_key_30 ?_
        refine gj_iconst C (v := 2) (by decide) dX11_key_31 ?_
        refine gj_callSi C w_381 w_380 (c_X11_isWithin w (0 : Int32) (2 : Int32)) mc_X11_isWithin ⟨Nat.le_of_ble_eq_true rfl, Nat.le_of_ble_eq_true rfl⟩ (rest := []) rfl (Nat.le_of_ble_eq_true rfl) dX11_key_32 (fun r u h => ?_)
        obtain ⟨hr_, h⟩ := h; rw [hr_]
        rw [h]
        refine gj_if_ne C 41 dX11_key_35 (by decide) (fun c_4 => ?_) (fun c_4 => ?_)
        · refine gj_iload_n C 2 dX11_key_41 rfl 2 rfl ?_
          refine gj_iload_n C 3 dX11_key_42 rfl 3 rfl ?_
          refine gj_icmp_eq C 58 dX11_key_43 (by decide) (fun c_5 => ?_) (fun c_5 => ?_)
          · refine gj_bipush C (v := (-2)) (by decide) dX11_key_58 ?_
            exact RT _ _ _ _ ⟨by unfold s_key0; rw [if_neg c_1, if_neg c_2, if_neg c_3, if_neg c_4, if_pos c_5], rfl⟩ dX11_key_60
          · refine gj_iload_n C 3 dX11_key_46 rfl 3 rfl ?_
            refine gj_iload C dX11_key_47 4 rfl ?_
            refine gj_icmp_eq C 58 dX11_key_49 (by decide) (fun c_6 => ?_) (fun c_6 => ?_)
            · refine gj_bipush C (v := (-2)) (by decide) dX11_key_58 ?_
              exact RT _ _ _ _ ⟨by unfold s_key0; rw [if_neg c_1, if_neg c_2, if_neg c_3, if_neg c_4, if_neg c_5, if_pos c_6], rfl⟩ dX11_key_60
            · refine gj_iload_n C 2 dX11_key_52 rfl 2 rfl ?_
              refine gj_iload C dX11_key_53 4 rfl ?_
              refine gj_icmp_ne C 61 dX11_key_55 (by decide) (fun c_7 => ?_) (fun c_7 => ?_)
              · refine gj_aload_n C 0 dX11_key_61 rfl 0 rfl ?_
                refine gj_get C 0 (by decide) hc0 inX11 rfl 0 (by decide) w_357 (v := .ref (ad 1)) rfl dX11_key_62 ?_
                refine gj_iload_n C 1 dX11_key_65 rfl 1 rfl ?_
                refine gj_callVr C mi_X6_rowOf w_383 1 (by decide) hc1 rfl (c_rowOf0 lo ma bt bc sp sc fk bk sk hc1) mc_X6_rowOf ⟨Nat.le_of_ble_eq_true rfl, Nat.le_of_ble_eq_true rfl⟩ (rest := []) rfl (Nat.le_of_ble_eq_true rfl) dX11_key_66 (fun r u h => ?_)
                obtain ⟨hr_, h⟩ := h; rw [hr_]
                rw [h]
                refine gj_astore C (lv' := [(6, .ref (ad 2)), (0, .ref (ad 0)), (1, .int 0), (2, .int a), (3, .int b), (4, .int c), (5, .int w)]) dX11_key_69 (by decide) rfl ?_
                refine gj_iload C dX11_key_71 6 rfl ?_
                refine gj_aload C dX11_key_73 0 rfl ?_
                refine gj_iload_n C 2 dX11_key_75 rfl 3 rfl ?_
                refine gj_iload_n C 3 dX11_key_76 rfl 4 rfl ?_
                refine gj_callVi C mi_X1_sideOf w_486 2 (by decide) hc2 rfl (c_X1_sideOf 2 3 a b (12 : Int32) (nI n0) 36 gS hc2 hc3 (by decide) (by decide) (by decide) (szk (by omega) (by omega))) mc_X1_sideOf ⟨Nat.le_of_ble_eq_true rfl, Nat.le_of_ble_eq_true rfl⟩ (rest := [.int w]) rfl (Nat.le_of_ble_eq_true rfl) dX11_key_77 (fun r u h => ?_)
                obtain ⟨hr_, h⟩ := h; rw [hr_]
                rw [h]
                refine gj_aload C dX11_key_80 0 rfl ?_
                refine gj_iload_n C 3 dX11_key_82 rfl 4 rfl ?_
                refine gj_iload C dX11_key_83 5 rfl ?_
                refine gj_callVi C mi_X1_sideOf w_486 2 (by decide) hc2 rfl (c_X1_sideOf 2 3 b c (12 : Int32) (nI n0) 36 gS hc2 hc3 (by decide) (by decide) (by decide) (szk (by omega) (by omega))) mc_X1_sideOf ⟨Nat.le_of_ble_eq_true rfl, Nat.le_of_ble_eq_true rfl⟩ (rest := [.int (s_X1_sideOf a b (nI n0) gS), .int w]) rfl (Nat.le_of_ble_eq_true rfl) dX11_key_85 (fun r u h => ?_)
                obtain ⟨hr_, h⟩ := h; rw [hr_]
                rw [h]
                refine gj_aload C dX11_key_88 0 rfl ?_
                refine gj_iload_n C 2 dX11_key_90 rfl 3 rfl ?_
                refine gj_iload C dX11_key_91 5 rfl ?_
                refine gj_callVi C mi_X1_sideOf w_486 2 (by decide) hc2 rfl (c_X1_sideOf 2 3 a c (12 : Int32) (nI n0) 36 gS hc2 hc3 (by decide) (by decide) (by decide) (szk (by omega) (by omega))) mc_X1_sideOf ⟨Nat.le_of_ble_eq_true rfl, Nat.le_of_ble_eq_true rfl⟩ (rest := [.int (s_X1_sideOf b c (nI n0) gS), .int (s_X1_sideOf a b (nI n0) gS), .int w]) rfl (Nat.le_of_ble_eq_true rfl) dX11_key_93 (fun r u h => ?_)
                obtain ⟨hr_, h⟩ := h; rw [hr_]
                rw [h]
                refine gj_aload_n C 0 dX11_key_96 rfl 1 rfl ?_
                refine gj_get C 0 (by decide) hc0 inX11 rfl 0 (by decide) w_357 (v := .ref (ad 1)) rfl dX11_key_97 ?_
                refine gj_getN C 1 (by decide) hc1 inX6 rfl 2 (by decide) w_257 (v := .ref (ad 6)) rfl dX11_key_100 ?_
                refine gj_iconst C (v := 0) (by decide) dX11_key_103 ?_
                refine gj_iald C 6 (by decide) hc6 (by unfold vp_in; decide) dX11_key_104 ?_
                refine gj_seti (y := se 0) rfl ?_
                refine gj_callSi C w_496 w_495 (c_X11_keyNumber w (s_X1_sideOf a b (nI n0) gS) (s_X1_sideOf b c (nI n0) gS) (s_X1_sideOf a c (nI n0) gS) (se 0)) mc_X11_keyNumber ⟨Nat.le_of_ble_eq_true rfl, Nat.le_of_ble_eq_true rfl⟩ (rest := []) rfl (Nat.le_of_ble_eq_true rfl) dX11_key_105 (fun r u h => ?_)
                obtain ⟨hr_, h⟩ := h; rw [hr_]
                rw [h]
                exact RT _ _ _ _ ⟨by unfold s_key0; rw [if_neg c_1, if_neg c_2, if_neg c_3, if_neg c_4, if_neg c_5, if_neg c_6, if_neg c_7], rfl⟩ dX11_key_108
              · refine gj_bipush C (v := (-2)) (by decide) dX11_key_58 ?_
                exact RT _ _ _ _ ⟨by unfold s_key0; rw [if_neg c_1, if_neg c_2, if_neg c_3, if_neg c_4, if_neg c_5, if_neg c_6, if_pos c_7], rfl⟩ dX11_key_60
        · refine gj_bipush C (v := (-2)) (by decide) dX11_key_38 ?_
          exact RT _ _ _ _ ⟨by unfold s_key0; rw [if_neg c_1, if_neg c_2, if_neg c_3, if_pos c_4], rfl⟩ dX11_key_40
def s_key1 (a : Int32) (b : Int32) (c : Int32) (w : Int32) (n1 : Nat) (gP : Nat → Int32) (se : Nat → Int32) : Int32 := if (s_isOne1 a n1) = 0 then ((-2)) else (if (s_isOne1 b n1) = 0 then ((-2)) else (if (s_isOne1 c n1) = 0 then ((-2)) else (if (s_X11_isWithin w (0 : Int32) (2 : Int32)) = 0 then ((-2)) else (if a = b then ((-2)) else (if b = c then ((-2)) else (if a = c then ((-2)) else (s_X11_keyNumber w (s_X1_sideOf a b (nI n1) gP) (s_X1_sideOf b c (nI n1) gP) (s_X1_sideOf a c (nI n1) gP) (se 0))))))))
set_option maxHeartbeats 400000 in
set_option maxRecDepth 100000 in
theorem c_key1 {l : Launch} {D : va_G} {ca ss ad : Nat → Nat} {f : Nat → va_E}  (a : Int32) (b : Int32) (c : Int32) (w : Int32) (la : Int32) (lo : Int32) (ma : Int32) (bt : Int32) (bc : Int32) (sp : Int32) (sc : Int32) (fk : Int32) (bk : Int32) (sk : Int32) (n0 : Nat) (n1 : Nat) (gS : Nat → Int32) (gP : Nat → Int32) (se : Nat → Int32) (hc0 : f 0 = .inr (10, [.ref (ad 1), .ref (ad 69), .ref (ad 70), .int la])) (hc1 : f 1 = .inr (6, sgF ad lo ma bt bc sp sc fk bk sk)) (hc2 : f 2 = .inr (1, [.ref (ad 3), .int 12, .int (nI n0)])) (hc3 : f 3 = .inl (ca 0, 36, .inl gS)) (hc4 : f 4 = .inr (1, [.ref (ad 5), .int 8, .int (nI n1)])) (hc5 : f 5 = .inl (ca 0, 24, .inl gP)) (hc6 : f 6 = .inl (ca 0, 4, .inl se)) (hn0 : n0 ≤ 12) (hn1 : n1 ≤ 8) : gMi l D ca ss ad 108 yX11_key cX11_key 7 (some .int) 3 f [.ref (ad 0), .int 1, .int a, .int b, .int c, .int w] (fun r u => r = s_key1 a b c w n1 gP se ∧ u = f) := by
  refine gMi_ofK (by decide +kernel) (Nat.le_of_ble_eq_true rfl) (lv0 := [(0, .ref (ad 0)), (1, .int 1), (2, .int a), (3, .int b), (4, .int c), (5, .int w)]) rfl (fun pT eT sT mT aT below meth cT AT QT C RT => ?_)
  have C : gX pT sT mT aT meth cT AT D ca ss 7 RX11 cX11_key (some .int) := C
  refine gj_aload_n C 0 dX11_key_0 rfl 0 rfl ?_
  refine gj_iload_n C 1 dX11_key_1 rfl 1 rfl ?_
  refine gj_iload_n C 2 dX11_key_2 rfl 2 rfl ?_
  refine gj_callVi C mi_X11_isOne w_416 0 (by decide) hc0 rfl (c_isOne1 a la lo ma bt bc sp sc fk bk sk n0 n1 gS gP se hc0 hc1 hc2 hc3 hc4 hc5 hc6 (by first | assumption | omega) (by first | assumption | omega)) mc_X11_isOne ⟨Nat.le_of_ble_eq_true rfl, Nat.le_of_ble_eq_true rfl⟩ (rest := []) rfl (Nat.le_of_ble_eq_true rfl) dX11_key_3 (fun r u h => ?_)
  obtain ⟨hr_, h⟩ := h; rw [hr_]
  rw [h]
  refine gj_if_eq C 38 dX11_key_6 (by decide) (fun c_1 => ?_) (fun c_1 => ?_)
  · refine gj_bipush C (v := (-2)) (by decide) dX11_key_38 ?_
    exact RT _ _ _ _ ⟨by unfold s_key1; rw [if_pos c_1], rfl⟩ dX11_key_40
  · refine gj_aload_n C 0 dX11_key_9 rfl 0 rfl ?_
    refine gj_iload_n C 1 dX11_key_10 rfl 1 rfl ?_
    refine gj_iload_n C 3 dX11_key_11 rfl 3 rfl ?_
    refine gj_callVi C mi_X11_isOne w_416 0 (by decide) hc0 rfl (c_isOne1 b la lo ma bt bc sp sc fk bk sk n0 n1 gS gP se hc0 hc1 hc2 hc3 hc4 hc5 hc6 (by first | assumption | omega) (by first | assumption | omega)) mc_X11_isOne ⟨Nat.le_of_ble_eq_true rfl, Nat.le_of_ble_eq_true rfl⟩ (rest := []) rfl (Nat.le_of_ble_eq_true rfl) dX11_key_12 (fun r u h => ?_)
    obtain ⟨hr_, h⟩ := h; rw [hr_]
    rw [h]
    refine gj_if_eq C 38 dX11_key_15 (by decide) (fun c_2 => ?_) (fun c_2 => ?_)
    · refine gj_bipush C (v := (-2)) (by decide) dX11_key_38 ?_
      exact RT _ _ _ _ ⟨by unfold s_key1; rw [if_neg c_1, if_pos c_2], rfl⟩ dX11_key_40
    · refine gj_aload_n C 0 dX11_key_18 rfl 0 rfl ?_
      refine gj_iload_n C 1 dX11_key_19 rfl 1 rfl ?_
      refine gj_iload C dX11_key_20 4 rfl ?_
      refine gj_callVi C mi_X11_isOne w_416 0 (by decide) hc0 rfl (c_isOne1 c la lo ma bt bc sp sc fk bk sk n0 n1 gS gP se hc0 hc1 hc2 hc3 hc4 hc5 hc6 (by first | assumption | omega) (by first | assumption | omega)) mc_X11_isOne ⟨Nat.le_of_ble_eq_true rfl, Nat.le_of_ble_eq_true rfl⟩ (rest := []) rfl (Nat.le_of_ble_eq_true rfl) dX11_key_22 (fun r u h => ?_)
      obtain ⟨hr_, h⟩ := h; rw [hr_]
      rw [h]
      refine gj_if_eq C 38 dX11_key_25 (by decide) (fun c_3 => ?_) (fun c_3 => ?_)
      · refine gj_bipush C (v := (-2)) (by decide) dX11_key_38 ?_
        exact RT _ _ _ _ ⟨by unfold s_key1; rw [if_neg c_1, if_neg c_2, if_pos c_3], rfl⟩ dX11_key_40
      · refine gj_iload C dX11_key_28 5 rfl ?_
        refine gj_iconst C (v := 0) (by decide) dX11_key_30 ?_
        refine gj_iconst C (v := 2) (by decide) dX11_key_31 ?_
        refine gj_callSi C w_381 w_380 (c_X11_isWithin w (0 : Int32) (2 : Int32)) mc_X11_isWithin ⟨Nat.le_of_ble_eq_true rfl, Nat.le_of_ble_eq_true rfl⟩ (rest := []) rfl (Nat.le_of_ble_eq_true rfl) dX11_key_32 (fun r u h => ?_)
        obtain ⟨hr_, h⟩ := h; rw [hr_]
        rw [h]
        refine gj_if_ne C 41 dX11_key_35 (by decide) (fun c_4 => ?_) (fun c_4 => ?_)
        · refine gj_iload_n C 2 dX11_key_41 rfl 2 rfl ?_
          refine gj_iload_n C 3 dX11_key_42 rfl 3 rfl ?_
          refine gj_icmp_eq C 58 dX11_key_43 (by decide) (fun c_5 => ?_) (fun c_5 => ?_)
          · refine gj_bipush C (v := (-2)) (by decide) dX11_key_58 ?_
            exact RT _ _ _ _ ⟨by unfold s_key1; rw [if_neg c_1, if_neg c_2, if_neg c_3, if_neg c_4, if_pos c_5], rfl⟩ dX11_key_60
          · refine gj_iload_n C 3 dX11_key_46 rfl 3 rfl ?_
            refine gj_iload C dX11_key_47 4 rfl ?_
            refine gj_icmp_eq C 58 dX11_key_49 (by decide) (fun c_6 => ?_) (fun c_6 => ?_)
            · refine gj_bipush C (v := (-2)) (by decide) dX11_key_58 ?_
              exact RT _ _ _ _ ⟨by unfold s_key1; rw [if_neg c_1, if_neg c_2, if_neg c_3, if_neg c_4, if_neg c_5, if_pos c_6], rfl⟩ dX11_key_60
            · refine gj_iload_n C 2 dX11_key_52 rfl 2 rfl ?_
              refine gj_iload C dX11_key_53 4 rfl ?_
              refine gj_icmp_ne C 61 dX11_key_55 (by decide) (fun c_7 => ?_) (fun c_7 => ?_)
              · refine gj_aload_n C 0 dX11_key_61 rfl 0 rfl ?_
                refine gj_get C 0 (by decide) hc0 inX11 rfl 0 (by decide) w_357 (v := .ref (ad 1)) rfl dX11_key_62 ?_
                refine gj_iload_n C 1 dX11_key_65 rfl 1 rfl ?_
                refine gj_callVr C mi_X6_rowOf w_383 1 (by decide) hc1 rfl (c_rowOf1 lo ma bt bc sp sc fk bk sk hc1) mc_X6_rowOf ⟨Nat.le_of_ble_eq_true rfl, Nat.le_of_ble_eq_true rfl⟩ (rest := []) rfl (Nat.le_of_ble_eq_true rfl) dX11_key_66 (fun r u h => ?_)
                obtain ⟨hr_, h⟩ := h; rw [hr_]
                rw [h]
                refine gj_astore C (lv' := [(6, .ref (ad 4)), (0, .ref (ad 0)), (1, .int 1), (2, .int a), (3, .int b), (4, .int c), (5, .int w)]) dX11_key_69 (by decide) rfl ?_
                refine gj_iload C dX11_key_71 6 rfl ?_
                refine gj_aload C dX11_key_73 0 rfl ?_
                refine gj_iload_n C 2 dX11_key_75 rfl 3 rfl ?_
                refine gj_iload_n C 3 dX11_key_76 rfl 4 rfl ?_
                refine gj_callVi C mi_X1_sideOf w_486 4 (by decide) hc4 rfl (c_X1_sideOf 4 5 a b (8 : Int32) (nI n1) 24 gP hc4 hc5 (by decide) (by decide) (by decide) (szk (by omega) (by omega))) mc_X1_sideOf ⟨Nat.le_of_ble_eq_true rfl, Nat.le_of_ble_eq_true rfl⟩ (rest := [.int w]) rfl (Nat.le_of_ble_eq_true rfl) dX11_key_77 (fun r u h => ?_)
                obtain ⟨hr_, h⟩ := h; rw [hr_]
                rw [h]
                refine gj_aload C dX11_key_80 0 rfl ?_
                refine gj_iload_n C 3 dX11_key_82 rfl 4 rfl ?_
                refine gj_iload C dX11_key_83 5 rfl ?_
                refine gj_callVi C mi_X1_sideOf w_486 4 (by decide) hc4 rfl (c_X1_sideOf 4 5 b c (8 : Int32) (nI n1) 24 gP hc4 hc5 (by decide) (by decide) (by decide) (szk (by omega) (by omega))) mc_X1_sideOf ⟨Nat.le_of_ble_eq_true rfl, Nat.le_of_ble_eq_true rfl⟩ (rest := [.int (s_X1_sideOf a b (nI n1) gP), .int w]) rfl (Nat.le_of_ble_eq_true rfl) dX11_key_85 (fun r u h => ?_)
                obtain ⟨hr_, h⟩ := h; rw [hr_]
                rw [h]
                refine gj_aload C dX11_key_88 0 rfl ?_
                refine gj_iload_n C 2 dX11_key_90 rfl 3 rfl ?_
                refine gj_iload C dX11_key_91 5 rfl ?_
                refine gj_callVi C mi_X1_sideOf w_486 4 (by decide) hc4 rfl (c_X1_sideOf 4 5 a c (8 : Int32) (nI n1) 24 gP hc4 hc5 (by decide) (by decide) (by decide) (szk (by omega) (by omega))) mc_X1_sideOf ⟨Nat.le_of_ble_eq_true rfl, Nat.le_of_ble_eq_true rfl⟩ (rest := [.int (s_X1_sideOf b c (nI n1) gP), .int (s_X1_sideOf a b (nI n1) gP), .int w]) rfl (Nat.le_of_ble_eq_true rfl) dX11_key_93 (fun r u h => ?_)
                obtain ⟨hr_, h⟩ := h; rw [hr_]
                rw [h]
                refine gj_aload_n C 0 dX11_key_96 rfl 1 rfl ?_
                refine gj_get C 0 (by decide) hc0 inX11 rfl 0 (by decide) w_357 (v := .ref (ad 1)) rfl dX11_key_97 ?_
                refine gj_getN C 1 (by decide) hc1 inX6 rfl 2 (by decide) w_257 (v := .ref (ad 6)) rfl dX11_key_100 ?_
                refine gj_iconst C (v := 0) (by decide) dX11_key_103 ?_
                refine gj_iald C 6 (by decide) hc6 (by unfold vp_in; decide) dX11_key_104 ?_
                refine gj_seti (y := se 0) rfl ?_
                refine gj_callSi C w_496 w_495 (c_X11_keyNumber w (s_X1_sideOf a b (nI n1) gP) (s_X1_sideOf b c (nI n1) gP) (s_X1_sideOf a c (nI n1) gP) (se 0)) mc_X11_keyNumber ⟨Nat.le_of_ble_eq_true rfl, Nat.le_of_ble_eq_true rfl⟩ (rest := []) rfl (Nat.le_of_ble_eq_true rfl) dX11_key_105 (fun r u h => ?_)
                obtain ⟨hr_, h⟩ := h; rw [hr_]
                rw [h]
                exact RT _ _ _ _ ⟨by unfold s_key1; rw [if_neg c_1, if_neg c_2, if_neg c_3, if_neg c_4, if_neg c_5, if_neg c_6, if_neg c_7], rfl⟩ dX11_key_108
              · refine gj_bipush C (v := (-2)) (by decide) dX11_key_58 ?_
                exact RT _ _ _ _ ⟨by unfold s_key1; rw [if_neg c_1, if_neg c_2, if_neg c_3, if_neg c_4, if_neg c_5, if_neg c_6, if_pos c_7], rfl⟩ dX11_key_60
        · refine gj_bipush C (v := (-2)) (by decide) dX11_key_38 ?_
          exact RT _ _ _ _ ⟨by unfold s_key1; rw [if_neg c_1, if_neg c_2, if_neg c_3, if_pos c_4], rfl⟩ dX11_key_40
set_option maxHeartbeats 400000 in
set_option maxRecDepth 100000 in
theorem c_atB {l : Launch} {D : va_G} {ca ss ad : Nat → Nat} {f : Nat → va_E} (k : Int32) (i : Int32) (w : Int32) (la : Int32) (hc0 : f 0 = .inr (10, [.ref (ad 1), .ref (ad 69), .ref (ad 70), .int la])) (hk : s_X11_isKind k = 0) : gMi l D ca ss ad 108 yX11_at cX11_at 4 (some .int) 2 f [.ref (ad 0), .int k, .int i, .int w] (fun r u => r = (-2147483648) ∧ u = f) := by
  refine gMi_ofK (by decide +kernel) (Nat.le_of_ble_eq_true rfl) (lv0 := [(0, .ref (ad 0)), (1, .int k), (2, .int i), (3, .int w)]) rfl (fun pT eT sT mT aT below meth cT AT QT C RT => ?_)
  have C : gX pT sT mT aT meth cT AT D ca ss 4 RX11 cX11_at (some .int) := C
  refine gj_aload_n C 0 dX11_at_0 rfl 0 rfl ?_
  refine gj_iload_n C 1 dX11_at_1 rfl 1 rfl ?_
  refine gj_iload_n C 2 dX11_at_2 rfl 2 rfl ?_
  refine gj_callVi C mi_X11_isOne w_416 0 (by decide) hc0 rfl (c_isOneB k i la hc0 hk) mc_X11_isOne ⟨Nat.le_of_ble_eq_true rfl, Nat.le_of_ble_eq_true rfl⟩ (rest := []) rfl (Nat.le_of_ble_eq_true rfl) dX11_at_3 (fun r u h => ?_)
  obtain ⟨hr_, h⟩ := h; rw [hr_]
  rw [h]
  refine gj_if_eq C 18 dX11_at_6 (by decide) (fun c_1 => ?_) (fun c_1 => absurd (by decide) c_1)
  refine gj_ldc C (v := (-2147483648)) w_424 dX11_at_18 ?_
  exact RT _ _ _ _ ⟨rfl, rfl⟩ dX11_at_20
set_option maxHeartbeats 400000 in
set_option maxRecDepth 100000 in
theorem c_sideB {l : Launch} {D : va_G} {ca ss ad : Nat → Nat} {f : Nat → va_E} (k : Int32) (i : Int32) (j : Int32) (la : Int32) (hc0 : f 0 = .inr (10, [.ref (ad 1), .ref (ad 69), .ref (ad 70), .int la])) (hk : s_X11_isKind k = 0) : gMi l D ca ss ad 108 yX11_side cX11_side 4 (some .int) 3 f [.ref (ad 0), .int k, .int i, .int j] (fun r u => r = (-2) ∧ u = f) := by
  refine gMi_ofK (by decide +kernel) (Nat.le_of_ble_eq_true rfl) (lv0 := [(0, .ref (ad 0)), (1, .int k), (2, .int i), (3, .int j)]) rfl (fun pT eT sT mT aT below meth cT AT QT C RT => ?_)
  have C : gX pT sT mT aT meth cT AT D ca ss 4 RX11 cX11_side (some .int) := C
  refine gj_aload_n C 0 dX11_side_0 rfl 0 rfl ?_
  refine gj_iload_n C 1 dX11_side_1 rfl 1 rfl ?_
  refine gj_iload_n C 2 dX11_side_2 rfl 2 rfl ?_
  refine gj_callVi C mi_X11_isOne w_416 0 (by decide) hc0 rfl (c_isOneB k i la hc0 hk) mc_X11_isOne ⟨Nat.le_of_ble_eq_true rfl, Nat.le_of_ble_eq_true rfl⟩ (rest := []) rfl (Nat.le_of_ble_eq_true rfl) dX11_side_3 (fun r u h => ?_)
  obtain ⟨hr_, h⟩ := h; rw [hr_]
  rw [h]
  refine gj_if_eq C 18 dX11_side_6 (by decide) (fun c_1 => ?_) (fun c_1 => absurd (by decide) c_1)
  refine gj_bipush C (v := (-2)) (by decide) dX11_side_18 ?_
  exact RT _ _ _ _ ⟨rfl, rfl⟩ dX11_side_20
set_option maxHeartbeats 400000 in
set_option maxRecDepth 100000 in
theorem c_keyB {l : Launch} {D : va_G} {ca ss ad : Nat → Nat} {f : Nat → va_E} (k : Int32) (a : Int32) (b : Int32) (c : Int32) (w : Int32) (la : Int32) (hc0 : f 0 = .inr (10, [.ref (ad 1), .ref (ad 69), .ref (ad 70), .int la])) (hk : s_X11_isKind k = 0) : gMi l D ca ss ad 108 yX11_key cX11_key 7 (some .int) 3 f [.ref (ad 0), .int k, .int a, .int b, .int c, .int w] (fun r u => r = (-2) ∧ u = f) := by
  refine gMi_ofK (by decide +kernel) (Nat.le_of_ble_eq_true rfl) (lv0 := [(0, .ref (ad 0)), (1, .int k), (2, .int a), (3, .int b), (4, .int c), (5, .int w)]) rfl (fun pT eT sT mT aT below meth cT AT QT C RT => ?_)
  have C : gX pT sT mT aT meth cT AT D ca ss 7 RX11 cX11_key (some .int) := C
  refine gj_aload_n C 0 dX11_key_0 rfl 0 rfl ?_
  refine gj_iload_n C 1 dX11_key_1 rfl 1 rfl ?_
  refine gj_iload_n C 2 dX11_key_2 rfl 2 rfl ?_
  refine gj_callVi C mi_X11_isOne w_416 0 (by decide) hc0 rfl (c_isOneB k a la hc0 hk) mc_X11_isOne ⟨Nat.le_of_ble_eq_true rfl, Nat.le_of_ble_eq_true rfl⟩ (rest := []) rfl (Nat.le_of_ble_eq_true rfl) dX11_key_3 (fun r u h => ?_)
  obtain ⟨hr_, h⟩ := h; rw [hr_]
  rw [h]
  refine gj_if_eq C 38 dX11_key_6 (by decide) (fun c_1 => ?_) (fun c_1 => absurd (by decide) c_1)
  refine gj_bipush C (v := (-2)) (by decide) dX11_key_38 ?_
  exact RT _ _ _ _ ⟨rfl, rfl⟩ dX11_key_40
set_option maxHeartbeats 400000 in
set_option maxRecDepth 100000 in
theorem c_add0 {l : Launch} {D : va_G} {ca ss ad : Nat → Nat} {f : Nat → va_E} (x y z : Int32) (la : Int32) (n0 n1 : Nat) (gS gP se : Nat → Int32) (hc0 : f 0 = .inr (10, [.ref (ad 1), .ref (ad 69), .ref (ad 70), .int la])) (hI : cSI ca ad n0 n1 gS gP se f) : gMi l D ca ss ad 108 yX11_add cX11_add 6 (some .int) 2 f [.ref (ad 0), .int 0, .int x, .int y, .int z] (fun r u => if s_X11_mayBeDirection x y z = 0 then (r = -2 ∧ u = f) else if s_X1_isFull 12 (nI n0) = 0 then (r = nI (n0 + 1) ∧ cSI ca ad (n0 + 1) n1 (w3 gS n0 x y z) gP se u ∧ ∀ k, k = 0 ∨ 69 ≤ k → u k = f k) else (r = -4 ∧ u = f)) := by
  refine gMi_ofK (by decide +kernel) (Nat.le_of_ble_eq_true rfl) (lv0 := [(0, .ref (ad 0)), (1, .int 0), (2, .int x), (3, .int y), (4, .int z)]) rfl (fun pT eT sT mT aT below meth cT AT QT C RT => ?_)
  have C : gX pT sT mT aT meth cT AT D ca ss 6 RX11 cX11_add (some .int) := C
  have hI0 := hI
  obtain ⟨⟨hn0, hn1, hc2, hc3, hc4, hc5, hc6⟩, ⟨hM, hP, hT, hR, hF, hG⟩, lo, ma, bt, bc, sp, sc, fk, bk, sk, hc1, hfk, hbk, hsk⟩ := hI
  have hI := hI0
  refine gj_iload_n C 1 dX11_add_0 rfl 1 rfl ?_
  refine gj_callSi C w_375 w_374 (c_X11_isKind (0 : Int32)) mc_X11_isKind ⟨Nat.le_of_ble_eq_true rfl, Nat.le_of_ble_eq_true rfl⟩ (rest := []) rfl (Nat.le_of_ble_eq_true rfl) dX11_add_1 (fun r u h => ?_)
  obtain ⟨hr_, h⟩ := h; rw [hr_]
  rw [h]
  refine gj_seti (y := 1) (by decide) ?_
  refine gj_if_eq C 17 dX11_add_4 (by decide) (fun c_1 => absurd c_1 (by decide)) (fun c_1 => ?_)
  refine gj_iload_n C 2 dX11_add_7 rfl 2 rfl ?_
  refine gj_iload_n C 3 dX11_add_8 rfl 3 rfl ?_
  refine gj_iload C dX11_add_9 4 rfl ?_
  refine gj_callSi C w_378 w_377 (c_X11_mayBeDirection x y z) mc_X11_mayBeDirection ⟨Nat.le_of_ble_eq_true rfl, Nat.le_of_ble_eq_true rfl⟩ (rest := []) rfl (Nat.le_of_ble_eq_true rfl) dX11_add_11 (fun r u h => ?_)
  obtain ⟨hr_, h⟩ := h; rw [hr_]
  rw [h]
  refine gj_if_ne C 20 dX11_add_14 (by decide) (fun c_2 => ?_) (fun c_2 => ?_)
  · refine gj_aload_n C 0 dX11_add_20 rfl 0 rfl ?_
    refine gj_get C 0 (by decide) hc0 inX11 rfl 0 (by decide) w_357 (v := .ref (ad 1)) rfl dX11_add_21 ?_
    refine gj_iload_n C 1 dX11_add_24 rfl 1 rfl ?_
    refine gj_callVr C mi_X6_rowOf w_383 1 (by decide) hc1 rfl (c_rowOf0 lo ma bt bc sp sc fk bk sk hc1) mc_X6_rowOf ⟨Nat.le_of_ble_eq_true rfl, Nat.le_of_ble_eq_true rfl⟩ (rest := []) rfl (Nat.le_of_ble_eq_true rfl) dX11_add_25 (fun r u h => ?_)
    obtain ⟨hr_, h⟩ := h; rw [hr_]
    rw [h]
    refine gj_astore C (lv' := [(5, .ref (ad 2)), (0, .ref (ad 0)), (1, .int 0), (2, .int x), (3, .int y), (4, .int z)]) dX11_add_28 (by decide) rfl ?_
    refine gj_aload C dX11_add_30 0 rfl ?_
    refine gj_callVi C mi_X1_isFull w_387 2 (by decide) hc2 rfl (c_X1_isFull 2 3 (12 : Int32) (nI n0) 36 gS hc2 hc3 (by decide) (by decide) (by decide)) mc_X1_isFull ⟨Nat.le_of_ble_eq_true rfl, Nat.le_of_ble_eq_true rfl⟩ (rest := []) rfl (Nat.le_of_ble_eq_true rfl) dX11_add_32 (fun r u h => ?_)
    obtain ⟨hr_, h⟩ := h; rw [hr_]
    rw [h]
    refine gj_if_eq C 41 dX11_add_35 (by decide) (fun c_3 => ?_) (fun c_3 => ?_)
    · refine gj_aload C dX11_add_41 0 rfl ?_
      refine gj_iload_n C 2 dX11_add_43 rfl 3 rfl ?_
      refine gj_iload_n C 3 dX11_add_44 rfl 4 rfl ?_
      refine gj_iload C dX11_add_45 5 rfl ?_
      refine gj_callVv C mi_X1_append w_391 2 (by decide) hc2 rfl (c_X1_append 2 3 x y z (12 : Int32) (nI n0) 36 gS hc2 hc3 (by decide) (by decide) (by decide) c_3 (apk (by have := notfull (r := 12) (by decide) (by omega) c_3; omega) (by decide))) mc_X1_append ⟨Nat.le_of_ble_eq_true rfl, Nat.le_of_ble_eq_true rfl⟩ (rest := []) rfl (Nat.le_of_ble_eq_true rfl) dX11_add_47 (fun u h => ?_)
      subst h
      have hlt := notfull (r := 12) (by decide) (by omega) c_3
      refine gj_setf (g := va_up (va_up f 3 (.inl (ca 0, 36, .inl (w3 gS n0 x y z)))) 2 (.inr (1, [.ref (ad 3), .int 12, .int (nI (n0 + 1))]))) (by rw [app_w3 gS (show n0 ≤ 12 by omega), nI_1]) ?_
      refine gj_aload_n C 0 dX11_add_50 rfl 1 rfl ?_
      refine gj_get C 0 (by decide) (up_nx (by decide) (up_nx (by decide) (hc0))) inX11 rfl 0 (by decide) w_357 (v := .ref (ad 1)) rfl dX11_add_51 ?_
      refine gj_callVv C mi_X6_forget w_396 1 (by decide) (up_nx (by decide) (up_nx (by decide) (hc1))) rfl (c_forget lo ma bt bc sp sc fk bk sk (up_nx (by decide) (up_nx (by decide) (hc1)))) mc_X6_forget ⟨Nat.le_of_ble_eq_true rfl, Nat.le_of_ble_eq_true rfl⟩ (rest := []) rfl (Nat.le_of_ble_eq_true rfl) dX11_add_54 (fun u h => ?_)
      subst h
      refine gj_aload C dX11_add_57 0 rfl ?_
      refine gj_callVi C mi_X1_size w_400 2 (by decide) (up_nx (by decide) (va_up_self _ _ _)) rfl (c_X1_size 2 3 (12 : Int32) (nI (n0 + 1)) 36 (w3 gS n0 x y z) (up_nx (by decide) (va_up_self _ _ _)) (up_nx (by decide) (up_nx (by decide) (va_up_self _ _ _))) (by decide) (by decide) (by decide)) mc_X1_size ⟨Nat.le_of_ble_eq_true rfl, Nat.le_of_ble_eq_true rfl⟩ (rest := []) rfl (Nat.le_of_ble_eq_true rfl) dX11_add_59 (fun r u h => ?_)
      obtain ⟨hr_, hu_⟩ := h; rw [hr_]; subst hu_
      exact RT _ _ _ _ (by rw [if_neg c_2, if_pos c_3]; exact ⟨rfl, cSI_new hI (fun k h1 h2 => up_nx (by omega) (up_nx (by omega) (up_nx (by omega) (rfl)))) (va_up_self _ _ _) ⟨(by omega), hn1, (up_nx (by decide) (va_up_self _ _ _)), (up_nx (by decide) (up_nx (by decide) (va_up_self _ _ _))), (up_nx (by decide) (up_nx (by decide) (up_nx (by decide) (hc4)))), (up_nx (by decide) (up_nx (by decide) (up_nx (by decide) (hc5)))), (up_nx (by decide) (up_nx (by decide) (up_nx (by decide) (hc6))))⟩, fun k hk => up_nx (by omega) (up_nx (by omega) (up_nx (by omega) (rfl)))⟩) dX11_add_62
    · refine gj_bipush C (v := (-4)) (by decide) dX11_add_38 ?_
      exact RT _ _ _ _ (by rw [if_neg c_2, if_neg c_3]; exact ⟨rfl, rfl⟩) dX11_add_40
  · refine gj_bipush C (v := (-2)) (by decide) dX11_add_17 ?_
    exact RT _ _ _ _ (by rw [if_pos c_2]; exact ⟨rfl, rfl⟩) dX11_add_19
set_option maxHeartbeats 400000 in
set_option maxRecDepth 100000 in
theorem c_back0 {l : Launch} {D : va_G} {ca ss ad : Nat → Nat} {f : Nat → va_E}  (la : Int32) (n0 n1 : Nat) (gS gP se : Nat → Int32) (hc0 : f 0 = .inr (10, [.ref (ad 1), .ref (ad 69), .ref (ad 70), .int la])) (hI : cSI ca ad n0 n1 gS gP se f) : gMi l D ca ss ad 108 yX11_back cX11_back 3 (some .int) 1 f [.ref (ad 0), .int 0] (fun r u => if s_X1_size (nI n0) = 0 then (r = -3 ∧ u = f) else (r = nI (n0 - 1) ∧ cSI ca ad (n0 - 1) n1 gS gP se u ∧ ∀ k, k = 0 ∨ 69 ≤ k → u k = f k)) := by
  refine gMi_ofK (by decide +kernel) (Nat.le_of_ble_eq_true rfl) (lv0 := [(0, .ref (ad 0)), (1, .int 0)]) rfl (fun pT eT sT mT aT below meth cT AT QT C RT => ?_)
  have C : gX pT sT mT aT meth cT AT D ca ss 3 RX11 cX11_back (some .int) := C
  have hI0 := hI
  obtain ⟨⟨hn0, hn1, hc2, hc3, hc4, hc5, hc6⟩, ⟨hM, hP, hT, hR, hF, hG⟩, lo, ma, bt, bc, sp, sc, fk, bk, sk, hc1, hfk, hbk, hsk⟩ := hI
  have hI := hI0
  refine gj_iload_n C 1 dX11_back_0 rfl 1 rfl ?_
  refine gj_callSi C w_375 w_374 (c_X11_isKind (0 : Int32)) mc_X11_isKind ⟨Nat.le_of_ble_eq_true rfl, Nat.le_of_ble_eq_true rfl⟩ (rest := []) rfl (Nat.le_of_ble_eq_true rfl) dX11_back_1 (fun r u h => ?_)
  obtain ⟨hr_, h⟩ := h; rw [hr_]
  rw [h]
  refine gj_seti (y := 1) (by decide) ?_
  refine gj_if_ne C 10 dX11_back_4 (by decide) (fun c_1 => ?_) (fun c_1 => absurd c_1 (by decide))
  refine gj_aload_n C 0 dX11_back_10 rfl 0 rfl ?_
  refine gj_get C 0 (by decide) hc0 inX11 rfl 0 (by decide) w_357 (v := .ref (ad 1)) rfl dX11_back_11 ?_
  refine gj_iload_n C 1 dX11_back_14 rfl 1 rfl ?_
  refine gj_callVr C mi_X6_rowOf w_383 1 (by decide) hc1 rfl (c_rowOf0 lo ma bt bc sp sc fk bk sk hc1) mc_X6_rowOf ⟨Nat.le_of_ble_eq_true rfl, Nat.le_of_ble_eq_true rfl⟩ (rest := []) rfl (Nat.le_of_ble_eq_true rfl) dX11_back_15 (fun r u h => ?_)
  obtain ⟨hr_, h⟩ := h; rw [hr_]
  rw [h]
  refine gj_astore_n C (lv' := [(2, .ref (ad 2)), (0, .ref (ad 0)), (1, .int 0)]) 2 dX11_back_18 rfl (by decide) rfl ?_
  refine gj_aload_n C 2 dX11_back_19 rfl 0 rfl ?_
  refine gj_callVi C mi_X1_size w_400 2 (by decide) hc2 rfl (c_X1_size 2 3 (12 : Int32) (nI n0) 36 gS hc2 hc3 (by decide) (by decide) (by decide)) mc_X1_size ⟨Nat.le_of_ble_eq_true rfl, Nat.le_of_ble_eq_true rfl⟩ (rest := []) rfl (Nat.le_of_ble_eq_true rfl) dX11_back_20 (fun r u h => ?_)
  obtain ⟨hr_, h⟩ := h; rw [hr_]
  rw [h]
  refine gj_if_ne C 29 dX11_back_23 (by decide) (fun c_2 => ?_) (fun c_2 => ?_)
  · refine gj_aload_n C 2 dX11_back_29 rfl 0 rfl ?_
    refine gj_callVv C mi_X1_dropLast w_408 2 (by decide) hc2 rfl (c_X1_dropLast 2 3 (12 : Int32) (nI n0) 36 gS hc2 hc3 (by decide) (by decide) (by decide) (sz_pos (by omega) c_2).2) mc_X1_dropLast ⟨Nat.le_of_ble_eq_true rfl, Nat.le_of_ble_eq_true rfl⟩ (rest := []) rfl (Nat.le_of_ble_eq_true rfl) dX11_back_30 (fun u h => ?_)
    subst h
    have hlt := (sz_pos (by omega) c_2).1
    refine gj_setf (g := va_up f 2 (.inr (1, [.ref (ad 3), .int 12, .int (nI (n0 - 1))]))) (by rw [nI_sub1 hlt (by omega)]) ?_
    refine gj_aload_n C 0 dX11_back_33 rfl 1 rfl ?_
    refine gj_get C 0 (by decide) (up_nx (by decide) (hc0)) inX11 rfl 0 (by decide) w_357 (v := .ref (ad 1)) rfl dX11_back_34 ?_
    refine gj_callVv C mi_X6_forget w_396 1 (by decide) (up_nx (by decide) (hc1)) rfl (c_forget lo ma bt bc sp sc fk bk sk (up_nx (by decide) (hc1))) mc_X6_forget ⟨Nat.le_of_ble_eq_true rfl, Nat.le_of_ble_eq_true rfl⟩ (rest := []) rfl (Nat.le_of_ble_eq_true rfl) dX11_back_37 (fun u h => ?_)
    subst h
    refine gj_aload_n C 2 dX11_back_40 rfl 0 rfl ?_
    refine gj_callVi C mi_X1_size w_400 2 (by decide) (up_nx (by decide) (va_up_self _ _ _)) rfl (c_X1_size 2 3 (12 : Int32) (nI (n0 - 1)) 36 gS (up_nx (by decide) (va_up_self _ _ _)) (up_nx (by decide) (up_nx (by decide) (hc3))) (by decide) (by decide) (by decide)) mc_X1_size ⟨Nat.le_of_ble_eq_true rfl, Nat.le_of_ble_eq_true rfl⟩ (rest := []) rfl (Nat.le_of_ble_eq_true rfl) dX11_back_41 (fun r u h => ?_)
    obtain ⟨hr_, hu_⟩ := h; rw [hr_]; subst hu_
    exact RT _ _ _ _ (by rw [if_neg c_2]; exact ⟨rfl, cSI_new hI (fun k h1 h2 => up_nx (by omega) (up_nx (by omega) (rfl))) (va_up_self _ _ _) ⟨(by omega), hn1, (up_nx (by decide) (va_up_self _ _ _)), (up_nx (by decide) (up_nx (by decide) (hc3))), (up_nx (by decide) (up_nx (by decide) (hc4))), (up_nx (by decide) (up_nx (by decide) (hc5))), (up_nx (by decide) (up_nx (by decide) (hc6)))⟩, fun k hk => up_nx (by omega) (up_nx (by omega) (rfl))⟩) dX11_back_44
  · refine gj_bipush C (v := (-3)) (by decide) dX11_back_26 ?_
    exact RT _ _ _ _ (by rw [if_pos c_2]; exact ⟨rfl, rfl⟩) dX11_back_28
set_option maxHeartbeats 400000 in
set_option maxRecDepth 100000 in
theorem c_add1 {l : Launch} {D : va_G} {ca ss ad : Nat → Nat} {f : Nat → va_E} (x y z : Int32) (la : Int32) (n0 n1 : Nat) (gS gP se : Nat → Int32) (hc0 : f 0 = .inr (10, [.ref (ad 1), .ref (ad 69), .ref (ad 70), .int la])) (hI : cSI ca ad n0 n1 gS gP se f) : gMi l D ca ss ad 108 yX11_add cX11_add 6 (some .int) 2 f [.ref (ad 0), .int 1, .int x, .int y, .int z] (fun r u => if s_X11_mayBeDirection x y z = 0 then (r = -2 ∧ u = f) else if s_X1_isFull 8 (nI n1) = 0 then (r = nI (n1 + 1) ∧ cSI ca ad n0 (n1 + 1) gS (w3 gP n1 x y z) se u ∧ ∀ k, k = 0 ∨ 69 ≤ k → u k = f k) else (r = -4 ∧ u = f)) := by
  refine gMi_ofK (by decide +kernel) (Nat.le_of_ble_eq_true rfl) (lv0 := [(0, .ref (ad 0)), (1, .int 1), (2, .int x), (3, .int y), (4, .int z)]) rfl (fun pT eT sT mT aT below meth cT AT QT C RT => ?_)
  have C : gX pT sT mT aT meth cT AT D ca ss 6 RX11 cX11_add (some .int) := C
  have hI0 := hI
  obtain ⟨⟨hn0, hn1, hc2, hc3, hc4, hc5, hc6⟩, ⟨hM, hP, hT, hR, hF, hG⟩, lo, ma, bt, bc, sp, sc, fk, bk, sk, hc1, hfk, hbk, hsk⟩ := hI
  have hI := hI0
  refine gj_iload_n C 1 dX11_add_0 rfl 1 rfl ?_
  refine gj_callSi C w_375 w_374 (c_X11_isKind (1 : Int32)) mc_X11_isKind ⟨Nat.le_of_ble_eq_true rfl, Nat.le_of_ble_eq_true rfl⟩ (rest := []) rfl (Nat.le_of_ble_eq_true rfl) dX11_add_1 (fun r u h => ?_)
  obtain ⟨hr_, h⟩ := h; rw [hr_]
  rw [h]
  refine gj_seti (y := 1) (by decide) ?_
  refine gj_if_eq C 17 dX11_add_4 (by decide) (fun c_1 => absurd c_1 (by decide)) (fun c_1 => ?_)
  refine gj_iload_n C 2 dX11_add_7 rfl 2 rfl ?_
  refine gj_iload_n C 3 dX11_add_8 rfl 3 rfl ?_
  refine gj_iload C dX11_add_9 4 rfl ?_
  refine gj_callSi C w_378 w_377 (c_X11_mayBeDirection x y z) mc_X11_mayBeDirection ⟨Nat.le_of_ble_eq_true rfl, Nat.le_of_ble_eq_true rfl⟩ (rest := []) rfl (Nat.le_of_ble_eq_true rfl) dX11_add_11 (fun r u h => ?_)
  obtain ⟨hr_, h⟩ := h; rw [hr_]
  rw [h]
  refine gj_if_ne C 20 dX11_add_14 (by decide) (fun c_2 => ?_) (fun c_2 => ?_)
  · refine gj_aload_n C 0 dX11_add_20 rfl 0 rfl ?_
    refine gj_get C 0 (by decide) hc0 inX11 rfl 0 (by decide) w_357 (v := .ref (ad 1)) rfl dX11_add_21 ?_
    refine gj_iload_n C 1 dX11_add_24 rfl 1 rfl ?_
    refine gj_callVr C mi_X6_rowOf w_383 1 (by decide) hc1 rfl (c_rowOf1 lo ma bt bc sp sc fk bk sk hc1) mc_X6_rowOf ⟨Nat.le_of_ble_eq_true rfl, Nat.le_of_ble_eq_true rfl⟩ (rest := []) rfl (Nat.le_of_ble_eq_true rfl) dX11_add_25 (fun r u h => ?_)
    obtain ⟨hr_, h⟩ := h; rw [hr_]
    rw [h]
    refine gj_astore C (lv' := [(5, .ref (ad 4)), (0, .ref (ad 0)), (1, .int 1), (2, .int x), (3, .int y), (4, .int z)]) dX11_add_28 (by decide) rfl ?_
    refine gj_aload C dX11_add_30 0 rfl ?_
    refine gj_callVi C mi_X1_isFull w_387 4 (by decide) hc4 rfl (c_X1_isFull 4 5 (8 : Int32) (nI n1) 24 gP hc4 hc5 (by decide) (by decide) (by decide)) mc_X1_isFull ⟨Nat.le_of_ble_eq_true rfl, Nat.le_of_ble_eq_true rfl⟩ (rest := []) rfl (Nat.le_of_ble_eq_true rfl) dX11_add_32 (fun r u h => ?_)
    obtain ⟨hr_, h⟩ := h; rw [hr_]
    rw [h]
    refine gj_if_eq C 41 dX11_add_35 (by decide) (fun c_3 => ?_) (fun c_3 => ?_)
    · refine gj_aload C dX11_add_41 0 rfl ?_
      refine gj_iload_n C 2 dX11_add_43 rfl 3 rfl ?_
      refine gj_iload_n C 3 dX11_add_44 rfl 4 rfl ?_
      refine gj_iload C dX11_add_45 5 rfl ?_
      refine gj_callVv C mi_X1_append w_391 4 (by decide) hc4 rfl (c_X1_append 4 5 x y z (8 : Int32) (nI n1) 24 gP hc4 hc5 (by decide) (by decide) (by decide) c_3 (apk (by have := notfull (r := 8) (by decide) (by omega) c_3; omega) (by decide))) mc_X1_append ⟨Nat.le_of_ble_eq_true rfl, Nat.le_of_ble_eq_true rfl⟩ (rest := []) rfl (Nat.le_of_ble_eq_true rfl) dX11_add_47 (fun u h => ?_)
      subst h
      have hlt := notfull (r := 8) (by decide) (by omega) c_3
      refine gj_setf (g := va_up (va_up f 5 (.inl (ca 0, 24, .inl (w3 gP n1 x y z)))) 4 (.inr (1, [.ref (ad 5), .int 8, .int (nI (n1 + 1))]))) (by rw [app_w3 gP (show n1 ≤ 12 by omega), nI_1]) ?_
      refine gj_aload_n C 0 dX11_add_50 rfl 1 rfl ?_
      refine gj_get C 0 (by decide) (up_nx (by decide) (up_nx (by decide) (hc0))) inX11 rfl 0 (by decide) w_357 (v := .ref (ad 1)) rfl dX11_add_51 ?_
      refine gj_callVv C mi_X6_forget w_396 1 (by decide) (up_nx (by decide) (up_nx (by decide) (hc1))) rfl (c_forget lo ma bt bc sp sc fk bk sk (up_nx (by decide) (up_nx (by decide) (hc1)))) mc_X6_forget ⟨Nat.le_of_ble_eq_true rfl, Nat.le_of_ble_eq_true rfl⟩ (rest := []) rfl (Nat.le_of_ble_eq_true rfl) dX11_add_54 (fun u h => ?_)
      subst h
      refine gj_aload C dX11_add_57 0 rfl ?_
      refine gj_callVi C mi_X1_size w_400 4 (by decide) (up_nx (by decide) (va_up_self _ _ _)) rfl (c_X1_size 4 5 (8 : Int32) (nI (n1 + 1)) 24 (w3 gP n1 x y z) (up_nx (by decide) (va_up_self _ _ _)) (up_nx (by decide) (up_nx (by decide) (va_up_self _ _ _))) (by decide) (by decide) (by decide)) mc_X1_size ⟨Nat.le_of_ble_eq_true rfl, Nat.le_of_ble_eq_true rfl⟩ (rest := []) rfl (Nat.le_of_ble_eq_true rfl) dX11_add_59 (fun r u h => ?_)
      obtain ⟨hr_, hu_⟩ := h; rw [hr_]; subst hu_
      exact RT _ _ _ _ (by rw [if_neg c_2, if_pos c_3]; exact ⟨rfl, cSI_new hI (fun k h1 h2 => up_nx (by omega) (up_nx (by omega) (up_nx (by omega) (rfl)))) (va_up_self _ _ _) ⟨hn0, (by omega), (up_nx (by decide) (up_nx (by decide) (up_nx (by decide) (hc2)))), (up_nx (by decide) (up_nx (by decide) (up_nx (by decide) (hc3)))), (up_nx (by decide) (va_up_self _ _ _)), (up_nx (by decide) (up_nx (by decide) (va_up_self _ _ _))), (up_nx (by decide) (up_nx (by decide) (up_nx (by decide) (hc6))))⟩, fun k hk => up_nx (by omega) (up_nx (by omega) (up_nx (by omega) (rfl)))⟩) dX11_add_62
    · refine gj_bipush C (v := (-4)) (by decide) dX11_add_38 ?_
      exact RT _ _ _ _ (by rw [if_neg c_2, if_neg c_3]; exact ⟨rfl, rfl⟩) dX11_add_40
  · refine gj_bipush C (v := (-2)) (by decide) dX11_add_17 ?_
    exact RT _ _ _ _ (by rw [if_pos c_2]; exact ⟨rfl, rfl⟩) dX11_add_19
set_option maxHeartbeats 400000 in
set_option maxRecDepth 100000 in
theorem c_back1 {l : Launch} {D : va_G} {ca ss ad : Nat → Nat} {f : Nat → va_E}  (la : Int32) (n0 n1 : Nat) (gS gP se : Nat → Int32) (hc0 : f 0 = .inr (10, [.ref (ad 1), .ref (ad 69), .ref (ad 70), .int la])) (hI : cSI ca ad n0 n1 gS gP se f) : gMi l D ca ss ad 108 yX11_back cX11_back 3 (some .int) 1 f [.ref (ad 0), .int 1] (fun r u => if s_X1_size (nI n1) = 0 then (r = -3 ∧ u = f) else (r = nI (n1 - 1) ∧ cSI ca ad n0 (n1 - 1) gS gP se u ∧ ∀ k, k = 0 ∨ 69 ≤ k → u k = f k)) := by
  refine gMi_ofK (by decide +kernel) (Nat.le_of_ble_eq_true rfl) (lv0 := [(0, .ref (ad 0)), (1, .int 1)]) rfl (fun pT eT sT mT aT below meth cT AT QT C RT => ?_)
  have C : gX pT sT mT aT meth cT AT D ca ss 3 RX11 cX11_back (some .int) := C
  have hI0 := hI
  obtain ⟨⟨hn0, hn1, hc2, hc3, hc4, hc5, hc6⟩, ⟨hM, hP, hT, hR, hF, hG⟩, lo, ma, bt, bc, sp, sc, fk, bk, sk, hc1, hfk, hbk, hsk⟩ := hI
  have hI := hI0
  refine gj_iload_n C 1 dX11_back_0 rfl 1 rfl ?_
  refine gj_callSi C w_375 w_374 (c_X11_isKind (1 : Int32)) mc_X11_isKind ⟨Nat.le_of_ble_eq_true rfl, Nat.le_of_ble_eq_true rfl⟩ (rest := []) rfl (Nat.le_of_ble_eq_true rfl) dX11_back_1 (fun r u h => ?_)
  obtain ⟨hr_, h⟩ := h; rw [hr_]
  rw [h]
  refine gj_seti (y := 1) (by decide) ?_
  refine gj_if_ne C 10 dX11_back_4 (by decide) (fun c_1 => ?_) (fun c_1 => absurd c_1 (by decide))
  refine gj_aload_n C 0 dX11_back_10 rfl 0 rfl ?_
  refine gj_get C 0 (by decide) hc0 inX11 rfl 0 (by decide) w_357 (v := .ref (ad 1)) rfl dX11_back_11 ?_
  refine gj_iload_n C 1 dX11_back_14 rfl 1 rfl ?_
  refine gj_callVr C mi_X6_rowOf w_383 1 (by decide) hc1 rfl (c_rowOf1 lo ma bt bc sp sc fk bk sk hc1) mc_X6_rowOf ⟨Nat.le_of_ble_eq_true rfl, Nat.le_of_ble_eq_true rfl⟩ (rest := []) rfl (Nat.le_of_ble_eq_true rfl) dX11_back_15 (fun r u h => ?_)
  obtain ⟨hr_, h⟩ := h; rw [hr_]
  rw [h]
  refine gj_astore_n C (lv' := [(2, .ref (ad 4)), (0, .ref (ad 0)), (1, .int 1)]) 2 dX11_back_18 rfl (by decide) rfl ?_
  refine gj_aload_n C 2 dX11_back_19 rfl 0 rfl ?_
  refine gj_callVi C mi_X1_size w_400 4 (by decide) hc4 rfl (c_X1_size 4 5 (8 : Int32) (nI n1) 24 gP hc4 hc5 (by decide) (by decide) (by decide)) mc_X1_size ⟨Nat.le_of_ble_eq_true rfl, Nat.le_of_ble_eq_true rfl⟩ (rest := []) rfl (Nat.le_of_ble_eq_true rfl) dX11_back_20 (fun r u h => ?_)
  obtain ⟨hr_, h⟩ := h; rw [hr_]
  rw [h]
  refine gj_if_ne C 29 dX11_back_23 (by decide) (fun c_2 => ?_) (fun c_2 => ?_)
  · refine gj_aload_n C 2 dX11_back_29 rfl 0 rfl ?_
    refine gj_callVv C mi_X1_dropLast w_408 4 (by decide) hc4 rfl (c_X1_dropLast 4 5 (8 : Int32) (nI n1) 24 gP hc4 hc5 (by decide) (by decide) (by decide) (sz_pos (by omega) c_2).2) mc_X1_dropLast ⟨Nat.le_of_ble_eq_true rfl, Nat.le_of_ble_eq_true rfl⟩ (rest := []) rfl (Nat.le_of_ble_eq_true rfl) dX11_back_30 (fun u h => ?_)
    subst h
    have hlt := (sz_pos (by omega) c_2).1
    refine gj_setf (g := va_up f 4 (.inr (1, [.ref (ad 5), .int 8, .int (nI (n1 - 1))]))) (by rw [nI_sub1 hlt (by omega)]) ?_
    refine gj_aload_n C 0 dX11_back_33 rfl 1 rfl ?_
    refine gj_get C 0 (by decide) (up_nx (by decide) (hc0)) inX11 rfl 0 (by decide) w_357 (v := .ref (ad 1)) rfl dX11_back_34 ?_
    refine gj_callVv C mi_X6_forget w_396 1 (by decide) (up_nx (by decide) (hc1)) rfl (c_forget lo ma bt bc sp sc fk bk sk (up_nx (by decide) (hc1))) mc_X6_forget ⟨Nat.le_of_ble_eq_true rfl, Nat.le_of_ble_eq_true rfl⟩ (rest := []) rfl (Nat.le_of_ble_eq_true rfl) dX11_back_37 (fun u h => ?_)
    subst h
    refine gj_aload_n C 2 dX11_back_40 rfl 0 rfl ?_
    refine gj_callVi C mi_X1_size w_400 4 (by decide) (up_nx (by decide) (va_up_self _ _ _)) rfl (c_X1_size 4 5 (8 : Int32) (nI (n1 - 1)) 24 gP (up_nx (by decide) (va_up_self _ _ _)) (up_nx (by decide) (up_nx (by decide) (hc5))) (by decide) (by decide) (by decide)) mc_X1_size ⟨Nat.le_of_ble_eq_true rfl, Nat.le_of_ble_eq_true rfl⟩ (rest := []) rfl (Nat.le_of_ble_eq_true rfl) dX11_back_41 (fun r u h => ?_)
    obtain ⟨hr_, hu_⟩ := h; rw [hr_]; subst hu_
    exact RT _ _ _ _ (by rw [if_neg c_2]; exact ⟨rfl, cSI_new hI (fun k h1 h2 => up_nx (by omega) (up_nx (by omega) (rfl))) (va_up_self _ _ _) ⟨hn0, (by omega), (up_nx (by decide) (up_nx (by decide) (hc2))), (up_nx (by decide) (up_nx (by decide) (hc3))), (up_nx (by decide) (va_up_self _ _ _)), (up_nx (by decide) (up_nx (by decide) (hc5))), (up_nx (by decide) (up_nx (by decide) (hc6)))⟩, fun k hk => up_nx (by omega) (up_nx (by omega) (rfl))⟩) dX11_back_44
  · refine gj_bipush C (v := (-3)) (by decide) dX11_back_26 ?_
    exact RT _ _ _ _ (by rw [if_pos c_2]; exact ⟨rfl, rfl⟩) dX11_back_28
set_option maxHeartbeats 400000 in
set_option maxRecDepth 100000 in
theorem c_addB {l : Launch} {D : va_G} {ca ss ad : Nat → Nat} {f : Nat → va_E} (k : Int32) (x : Int32) (y : Int32) (z : Int32) (la : Int32) (hc0 : f 0 = .inr (10, [.ref (ad 1), .ref (ad 69), .ref (ad 70), .int la])) (hk : s_X11_isKind k = 0) : gMi l D ca ss ad 108 yX11_add cX11_add 6 (some .int) 2 f [.ref (ad 0), .int k, .int x, .int y, .int z] (fun r u => r = (-2) ∧ u = f) := by
  refine gMi_ofK (by decide +kernel) (Nat.le_of_ble_eq_true rfl) (lv0 := [(0, .ref (ad 0)), (1, .int k), (2, .int x), (3, .int y), (4, .int z)]) rfl (fun pT eT sT mT aT below meth cT AT QT C RT => ?_)
  have C : gX pT sT mT aT meth cT AT D ca ss 6 RX11 cX11_add (some .int) := C
  refine gj_iload_n C 1 dX11_add_0 rfl 1 rfl ?_
  refine gj_callSi C w_375 w_374 (c_X11_isKind k) mc_X11_isKind ⟨Nat.le_of_ble_eq_true rfl, Nat.le_of_ble_eq_true rfl⟩ (rest := []) rfl (Nat.le_of_ble_eq_true rfl) dX11_add_1 (fun r u h => ?_)
  obtain ⟨hr_, h⟩ := h; rw [hr_]
  rw [h]
  refine gj_if_eq C 17 dX11_add_4 (by decide) (fun c_1 => ?_) (fun c_1 => absurd hk c_1)
  refine gj_bipush C (v := (-2)) (by decide) dX11_add_17 ?_
  exact RT _ _ _ _ ⟨rfl, rfl⟩ dX11_add_19
set_option maxHeartbeats 400000 in
set_option maxRecDepth 100000 in
theorem c_backB {l : Launch} {D : va_G} {ca ss ad : Nat → Nat} {f : Nat → va_E} (k : Int32)  (la : Int32) (hc0 : f 0 = .inr (10, [.ref (ad 1), .ref (ad 69), .ref (ad 70), .int la])) (hk : s_X11_isKind k = 0) : gMi l D ca ss ad 108 yX11_back cX11_back 3 (some .int) 1 f [.ref (ad 0), .int k] (fun r u => r = (-2) ∧ u = f) := by
  refine gMi_ofK (by decide +kernel) (Nat.le_of_ble_eq_true rfl) (lv0 := [(0, .ref (ad 0)), (1, .int k)]) rfl (fun pT eT sT mT aT below meth cT AT QT C RT => ?_)
  have C : gX pT sT mT aT meth cT AT D ca ss 3 RX11 cX11_back (some .int) := C
  refine gj_iload_n C 1 dX11_back_0 rfl 1 rfl ?_
  refine gj_callSi C w_375 w_374 (c_X11_isKind k) mc_X11_isKind ⟨Nat.le_of_ble_eq_true rfl, Nat.le_of_ble_eq_true rfl⟩ (rest := []) rfl (Nat.le_of_ble_eq_true rfl) dX11_back_1 (fun r u h => ?_)
  obtain ⟨hr_, h⟩ := h; rw [hr_]
  rw [h]
  refine gj_if_ne C 10 dX11_back_4 (by decide) (fun c_1 => absurd hk c_1) (fun c_1 => ?_)
  refine gj_bipush C (v := (-2)) (by decide) dX11_back_7 ?_
  exact RT _ _ _ _ ⟨rfl, rfl⟩ dX11_back_9
set_option maxHeartbeats 400000 in
set_option maxRecDepth 100000 in
theorem c_set {l : Launch} {D : va_G} {ca ss ad : Nat → Nat} {f : Nat → va_E} (w v : Int32) (la : Int32) (n0 n1 : Nat) (gS gP se : Nat → Int32) (hc0 : f 0 = .inr (10, [.ref (ad 1), .ref (ad 69), .ref (ad 70), .int la])) (hI : cSI ca ad n0 n1 gS gP se f) : gMi l D ca ss ad 108 yX11_set cX11_set 4 (some .int) 1 f [.ref (ad 0), .int w, .int v] (fun r u => if s_X11_isWithin w (0 : Int32) (3 : Int32) = 0 then (r = -2 ∧ u = f) else if s_X11_isWithin v (gLow.getD w.toNatClampNeg 0) (gHigh.getD w.toNatClampNeg 0) = 0 then (r = -2 ∧ u = f) else (r = se w.toNatClampNeg ∧ cSI ca ad n0 n1 gS gP (upd se w.toNatClampNeg v) u ∧ ∀ k, k = 0 ∨ 69 ≤ k → u k = f k)) := by
  refine gMi_ofK (by decide +kernel) (Nat.le_of_ble_eq_true rfl) (lv0 := [(0, .ref (ad 0)), (1, .int w), (2, .int v)]) rfl (fun pT eT sT mT aT below meth cT AT QT C RT => ?_)
  have C : gX pT sT mT aT meth cT AT D ca ss 4 RX11 cX11_set (some .int) := C
  have hI0 := hI
  obtain ⟨⟨hn0, hn1, hc2, hc3, hc4, hc5, hc6⟩, ⟨hM, hP, hT, hR, hF, hG⟩, lo, ma, bt, bc, sp, sc, fk, bk, sk, hc1, hfk, hbk, hsk⟩ := hI
  have hI := hI0
  refine gj_iload_n C 1 dX11_set_0 rfl 1 rfl ?_
  refine gj_iconst C (v := 0) (by decide) dX11_set_1 ?_
  refine gj_iconst C (v := 3) (by decide) dX11_set_2 ?_
  refine gj_callSi C w_381 w_380 (c_X11_isWithin w (0 : Int32) (3 : Int32)) mc_X11_isWithin ⟨Nat.le_of_ble_eq_true rfl, Nat.le_of_ble_eq_true rfl⟩ (rest := []) rfl (Nat.le_of_ble_eq_true rfl) dX11_set_3 (fun r u h => ?_)
  obtain ⟨hr_, h⟩ := h; rw [hr_]
  rw [h]
  refine gj_if_eq C 26 dX11_set_6 (by decide) (fun c_1 => ?_) (fun c_1 => ?_)
  · refine gj_bipush C (v := (-2)) (by decide) dX11_set_26 ?_
    exact RT _ _ _ _ (by rw [if_pos c_1]; exact ⟨rfl, rfl⟩) dX11_set_28
  · refine gj_iload_n C 2 dX11_set_9 rfl 2 rfl ?_
    refine gj_gets_LOWEST_SETTINGS C w_478 dX11_set_10 ?_
    refine gj_iload_n C 1 dX11_set_13 rfl 1 rfl ?_
    refine gj_ti_LOWEST_SETTINGS C (in4 (w03 c_1)) dX11_set_14 ?_
    refine gj_gets_HIGHEST_SETTINGS C w_480 dX11_set_15 ?_
    refine gj_iload_n C 1 dX11_set_18 rfl 1 rfl ?_
    refine gj_ti_HIGHEST_SETTINGS C (in4 (w03 c_1)) dX11_set_19 ?_
    refine gj_callSi C w_381 w_380 (c_X11_isWithin v (gLow.getD w.toNatClampNeg 0) (gHigh.getD w.toNatClampNeg 0)) mc_X11_isWithin ⟨Nat.le_of_ble_eq_true rfl, Nat.le_of_ble_eq_true rfl⟩ (rest := []) rfl (Nat.le_of_ble_eq_true rfl) dX11_set_20 (fun r u h => ?_)
    obtain ⟨hr_, h⟩ := h; rw [hr_]
    rw [h]
    refine gj_if_ne C 29 dX11_set_23 (by decide) (fun c_2 => ?_) (fun c_2 => ?_)
    · refine gj_aload_n C 0 dX11_set_29 rfl 0 rfl ?_
      refine gj_get C 0 (by decide) hc0 inX11 rfl 0 (by decide) w_357 (v := .ref (ad 1)) rfl dX11_set_30 ?_
      refine gj_getN C 1 (by decide) hc1 inX6 rfl 2 (by decide) w_257 (v := .ref (ad 6)) rfl dX11_set_33 ?_
      refine gj_iload_n C 1 dX11_set_36 rfl 1 rfl ?_
      refine gj_iald C 6 (by decide) hc6 (in4 (w03 c_1)) dX11_set_37 ?_
      refine gj_istore_n C (lv' := [(3, .int (se w.toNatClampNeg)), (0, .ref (ad 0)), (1, .int w), (2, .int v)]) 3 dX11_set_38 rfl (by decide) rfl ?_
      refine gj_aload_n C 0 dX11_set_39 rfl 1 rfl ?_
      refine gj_get C 0 (by decide) hc0 inX11 rfl 0 (by decide) w_357 (v := .ref (ad 1)) rfl dX11_set_40 ?_
      refine gj_getN C 1 (by decide) hc1 inX6 rfl 2 (by decide) w_257 (v := .ref (ad 6)) rfl dX11_set_43 ?_
      refine gj_iload_n C 1 dX11_set_46 rfl 2 rfl ?_
      refine gj_iload_n C 2 dX11_set_47 rfl 3 rfl ?_
      refine gj_iast C 6 (by decide) hc6 (in4 (w03 c_1)) dX11_set_48 ?_
      refine gj_aload_n C 0 dX11_set_49 rfl 1 rfl ?_
      refine gj_get C 0 (by decide) (up_nx (by decide) (hc0)) inX11 rfl 0 (by decide) w_357 (v := .ref (ad 1)) rfl dX11_set_50 ?_
      refine gj_callVv C mi_X6_forget w_396 1 (by decide) (up_nx (by decide) (hc1)) rfl (c_forget lo ma bt bc sp sc fk bk sk (up_nx (by decide) (hc1))) mc_X6_forget ⟨Nat.le_of_ble_eq_true rfl, Nat.le_of_ble_eq_true rfl⟩ (rest := []) rfl (Nat.le_of_ble_eq_true rfl) dX11_set_53 (fun u h => ?_)
      subst h
      refine gj_iload_n C 3 dX11_set_56 rfl 0 rfl ?_
      exact RT _ _ _ _ (by rw [if_neg c_1, if_neg c_2]; exact ⟨rfl, cSI_new hI (fun k h1 h2 => up_nx (by omega) (up_nx (by omega) (rfl))) (va_up_self _ _ _) ⟨hn0, hn1, (up_nx (by decide) (up_nx (by decide) (hc2))), (up_nx (by decide) (up_nx (by decide) (hc3))), (up_nx (by decide) (up_nx (by decide) (hc4))), (up_nx (by decide) (up_nx (by decide) (hc5))), (up_nx (by decide) (va_up_self _ _ _))⟩, fun k hk => up_nx (by omega) (up_nx (by omega) (rfl))⟩) dX11_set_57
    · refine gj_bipush C (v := (-2)) (by decide) dX11_set_26 ?_
      exact RT _ _ _ _ (by rw [if_neg c_1, if_pos c_2]; exact ⟨rfl, rfl⟩) dX11_set_28
