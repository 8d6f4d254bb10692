/-! THE TRAYS OF THE CLASS -/
def q2 (ad : Nat → Nat) (b : Nat) : Nat → Option Nat := fun k => some (ad (b + 2 * k))
theorem q2_n (ad : Nat → Nat) (b : Nat) {s : Nat} (h : s < 2 ^ 31) : q2 ad b (nI s).toNatClampNeg = some (ad (b + 2 * s)) := by rw [nI_clamp h]; rfl
def cTr (ca ad : Nat → Nat) (tS tP tZ : Nat → Int32) (tG : Nat → Nat → Int32) (u : Nat → va_E) : Prop := u 69 = .inl (ca 4, 4, .inr (.inr (.inr (.inr (q2 ad 71))))) ∧ ∀ t, t < 4 → (tS t = 0 ∨ tS t = 1) ∧ (tP t = 0 ∨ tP t = 1) ∧ (0 ≤ (tZ t).toInt ∧ (tZ t).toInt ≤ 8) ∧ u (71 + 2 * t) = .inr (9, [.ref (ad (72 + 2 * t)), .int (tS t), .int (tP t), .int (tZ t)]) ∧ u (72 + 2 * t) = .inl (ca 0, 32, .inl (tG t))
theorem cTr_c {ca ad : Nat → Nat} {tS tP tZ : Nat → Int32} {tG : Nat → Nat → Int32} {f u : Nat → va_E} (hT : cTr ca ad tS tP tZ tG f) (h : ∀ k, 69 ≤ k → k < 79 → u k = f k) : cTr ca ad tS tP tZ tG u := by
  obtain ⟨h1, h2⟩ := hT
  refine ⟨(h 69 (by decide) (by decide)).trans h1, fun t ht => ?_⟩
  obtain ⟨a, b, c, d, e⟩ := h2 t ht
  exact ⟨a, b, c, (h _ (by omega) (by omega)).trans d, (h _ (by omega) (by omega)).trans e⟩
theorem cTr_new {ca ad : Nat → Nat} {tS tP tZ : Nat → Int32} {tG : Nat → Nat → Int32} {f u : Nat → va_E} {a b z : Int32} {g : Nat → Int32} {t0 : Nat} (ht : t0 < 4) (hT : cTr ca ad tS tP tZ tG f) (hu : ∀ k, k ≠ 71 + 2 * t0 → k ≠ 72 + 2 * t0 → u k = f k) (h1 : u (71 + 2 * t0) = .inr (9, [.ref (ad (72 + 2 * t0)), .int a, .int b, .int z])) (h2 : u (72 + 2 * t0) = .inl (ca 0, 32, .inl g)) (ha : a = 0 ∨ a = 1) (hb : b = 0 ∨ b = 1) (hz : 0 ≤ z.toInt ∧ z.toInt ≤ 8) : cTr ca ad (upd tS t0 a) (upd tP t0 b) (upd tZ t0 z) (updT tG t0 g) u := by
  obtain ⟨q1, q2⟩ := hT
  refine ⟨(hu 69 (by omega) (by omega)).trans q1, fun t h => ?_⟩
  by_cases e : t = t0
  · subst e
    rw [pk_us, pk_us, pk_us, updT_s]
    exact ⟨ha, hb, hz, h1, h2⟩
  · obtain ⟨x1, x2, x3, x4, x5⟩ := q2 t h
    rw [pk_un e, pk_un e, pk_un e, updT_n _ _ e]
    exact ⟨x1, x2, x3, (hu _ (by omega) (by omega)).trans x4, (hu _ (by omega) (by omega)).trans x5⟩
theorem sz8 {z : Int32} (h : 0 ≤ z.toInt ∧ z.toInt ≤ 8) (hne : ¬ z = 8) : z < 8 ∧ (0 ≤ z.toInt ∧ z.toInt ≤ 7) := by
  rw [i32_eq] at hne
  rw [i32_lt]
  have e : (8 : Int32).toInt = 8 := rfl
  omega
theorem sz_up {z : Int32} (h : 0 ≤ z.toInt ∧ z.toInt ≤ 7) : 0 ≤ (z + 1).toInt ∧ (z + 1).toInt ≤ 8 := by
  have e : (1 : Int32).toInt = 1 := rfl
  rw [i32_add (by omega) (by omega)]; omega
theorem sz_dn {z : Int32} (h : 0 ≤ z.toInt ∧ z.toInt ≤ 8) (h0 : ¬ z = 0) : 0 ≤ (z - 1).toInt ∧ (z - 1).toInt ≤ 8 := by
  have e : (1 : Int32).toInt = 1 := rfl
  have e0 : (0 : Int32).toInt = 0 := rfl
  rw [i32_eq] at h0
  rw [i32_sub (by omega) (by omega)]; omega
theorem updT_same (T : Nat → Nat → Int32) (s : Nat) : updT T s (T s) = T := updT_id T s
/-- a thing more in a row of things -/
def putRow (g : Nat → Int32) (sz k x y z : Int32) : Nat → Int32 := upd (upd (upd (upd g (4 * sz).toNatClampNeg k) ((4 * sz) + 1).toNatClampNeg x) ((4 * sz) + 2).toNatClampNeg y) ((4 * sz) + 3).toNatClampNeg z
theorem isTray_n {k : Int32} (h : ¬ s_X11_isTray k = 0) : ∃ t, t < 4 ∧ k = nI t := by
  unfold s_X11_isTray at h
  have := in_yes.mp h
  have e0 : (0 : Int32).toInt = 0 := rfl
  have e3 : (3 : Int32).toInt = 3 := rfl
  exact vp_in_of (vin (by omega) (by omega)) (by omega)
theorem isTray_y {t : Nat} (h : t < 4) : ¬ s_X11_isTray (nI t) = 0 := by
  unfold s_X11_isTray
  refine in_yes.mpr ?_
  rw [nI_toInt (by omega)]
  have e0 : (0 : Int32).toInt = 0 := rfl
  have e3 : (3 : Int32).toInt = 3 := rfl
  omega
theorem isSheet_n {k : Int32} (h : ¬ s_X11_isSheet k = 0) : ∃ t, t < 4 ∧ k = nI t := by
  unfold s_X11_isSheet at h
  have := in_yes.mp h
  have e0 : (0 : Int32).toInt = 0 := rfl
  have e3 : (3 : Int32).toInt = 3 := rfl
  exact vp_in_of (vin (by omega) (by omega)) (by omega)
theorem isSheet_y {t : Nat} (h : t < 4) : ¬ s_X11_isSheet (nI t) = 0 := by
  unfold s_X11_isSheet
  refine in_yes.mpr ?_
  rw [nI_toInt (by omega)]
  have e0 : (0 : Int32).toInt = 0 := rfl
  have e3 : (3 : Int32).toInt = 3 := rfl
  omega

set_option maxHeartbeats 400000 in
set_option maxRecDepth 100000 in
theorem c_X11_find {l : Launch} {D : va_G} {ca ss ad : Nat → Nat} {f : Nat → va_E}  (x : Int32) (la : Int32) (hc0 : f 0 = .inr (10, [.ref (ad 1), .ref (ad 69), .ref (ad 70), .int la]))  : gMi l D ca ss ad 108 yX11_find cX11_find 2 (some .int) 0 f [.ref (ad 0), .int x] (fun r u => r = (-10) - x ∧ u = va_up f 0 (.inr (10, [.ref (ad 1), .ref (ad 69), .ref (ad 70), .int x]))) := by
  refine gMi_ofK (by decide +kernel) (Nat.le_of_ble_eq_true rfl) (lv0 := [(0, .ref (ad 0)), (1, .int x)]) rfl (fun pT eT sT mT aT below meth cT AT QT C RT => ?_)
  have C : gX pT sT mT aT meth cT AT D ca ss 2 RX11 cX11_find (some .int) := C
  refine gj_aload_n C 0 dX11_find_0 rfl 0 rfl ?_
  refine gj_iload_n C 1 dX11_find_1 rfl 1 rfl ?_
  refine gj_putS C 0 (by decide) hc0 inX11 rfl 3 (by decide) tyX11 tyX11_ok nmX11 w_360 rfl (v := .int x) (fs' := [.ref (ad 1), .ref (ad 69), .ref (ad 70), .int x]) rfl rfl (Nat.le_of_ble_eq_true rfl) rfl dX11_find_2 ?_
  refine gj_bipush C (v := (-10)) (by decide) dX11_find_5 ?_
  refine gj_iload_n C 1 dX11_find_7 rfl 1 rfl ?_
  refine gj_isub C dX11_find_8 ?_
  exact RT _ _ _ _ ⟨rfl, rfl⟩ dX11_find_9
set_option maxHeartbeats 400000 in
set_option maxRecDepth 100000 in
theorem c_take {l : Launch} {D : va_G} {ca ss ad : Nat → Nat} {f : Nat → va_E} (tN : Nat) (htN : tN < 4) (la : Int32) (tS tP tZ : Nat → Int32) (tG : Nat → Nat → Int32) (hc0 : f 0 = .inr (10, [.ref (ad 1), .ref (ad 69), .ref (ad 70), .int la])) (hT : cTr ca ad tS tP tZ tG f) : gMi l D ca ss ad 108 yX11_take cX11_take 2 (some .int) 2 f [.ref (ad 0), .int (nI tN)] (fun r u => if tZ tN = 0 then (r = -3 ∧ u = f) else (r = tZ tN - 1 ∧ cTr ca ad tS tP (upd tZ tN (tZ tN - 1)) tG u ∧ ∀ k, ¬ (71 ≤ k ∧ k < 79) → u k = f k)) := by
  refine gMi_ofK (by decide +kernel) (Nat.le_of_ble_eq_true rfl) (lv0 := [(0, .ref (ad 0)), (1, .int (nI tN))]) rfl (fun pT eT sT mT aT below meth cT AT QT C RT => ?_)
  have C : gX pT sT mT aT meth cT AT D ca ss 2 RX11 cX11_take (some .int) := C
  obtain ⟨hts, htp, htz, hto, htg⟩ := hT.2 tN (by omega)
  refine gj_iload_n C 1 dX11_take_0 rfl 1 rfl ?_
  refine gj_callSi C w_707 w_706 (c_X11_isTray (nI tN)) mc_X11_isTray ⟨Nat.le_of_ble_eq_true rfl, Nat.le_of_ble_eq_true rfl⟩ (rest := []) rfl (Nat.le_of_ble_eq_true rfl) dX11_take_1 (fun r u h => ?_)
  obtain ⟨hr_, h⟩ := h; rw [hr_]
  rw [h]
  refine gj_if_ne C 10 dX11_take_4 (by decide) (fun c_1 => ?_) (fun c_1 => absurd c_1 (isTray_y htN))
  refine gj_aload_n C 0 dX11_take_10 rfl 0 rfl ?_
  refine gj_get C 0 (by decide) hc0 inX11 rfl 1 (by decide) w_358 (v := .ref (ad 69)) rfl dX11_take_11 ?_
  refine gj_iload_n C 1 dX11_take_14 rfl 1 rfl ?_
  refine gj_aldq C 4 69 (by decide) hT.1 rfl (vp_in_nI (by omega) (by omega)) (a := ad (71 + 2 * tN)) (q2_n ad 71 (by omega)) dX11_take_15 ?_
  refine gj_getN C (71 + 2 * tN) (by omega) hto inX10 rfl 3 (by decide) w_331 (v := .int (tZ tN)) rfl dX11_take_16 ?_
  refine gj_if_ne C 25 dX11_take_19 (by decide) (fun c_2 => ?_) (fun c_2 => ?_)
  · refine gj_aload_n C 0 dX11_take_25 rfl 0 rfl ?_
    refine gj_get C 0 (by decide) hc0 inX11 rfl 1 (by decide) w_358 (v := .ref (ad 69)) rfl dX11_take_26 ?_
    refine gj_iload_n C 1 dX11_take_29 rfl 1 rfl ?_
    refine gj_aldq C 4 69 (by decide) hT.1 rfl (vp_in_nI (by omega) (by omega)) (a := ad (71 + 2 * tN)) (q2_n ad 71 (by omega)) dX11_take_30 ?_
    refine gj_dup C rfl dX11_take_31 ?_
    refine gj_getN C (71 + 2 * tN) (by omega) hto inX10 rfl 3 (by decide) w_331 (v := .int (tZ tN)) rfl dX11_take_32 ?_
    refine gj_iconst C (v := 1) (by decide) dX11_take_35 ?_
    refine gj_isub C dX11_take_36 ?_
    refine gj_putNS C (71 + 2 * tN) (by omega) hto inX10 rfl 3 (by decide) tyX10 tyX10_ok nmX10 w_331 rfl (v := .int ((tZ tN) - 1)) (fs' := [.ref (ad (72 + 2 * tN)), .int (tS tN), .int (tP tN), .int ((tZ tN) - 1)]) rfl rfl (Nat.le_of_ble_eq_true rfl) rfl dX11_take_37 ?_
    refine gj_aload_n C 0 dX11_take_40 rfl 0 rfl ?_
    refine gj_get C 0 (by decide) (up_nx (by omega) (hc0)) inX11 rfl 1 (by decide) w_358 (v := .ref (ad 69)) rfl dX11_take_41 ?_
    refine gj_iload_n C 1 dX11_take_44 rfl 1 rfl ?_
    refine gj_aldq C 4 69 (by decide) (up_nx (by omega) (hT.1)) rfl (vp_in_nI (by omega) (by omega)) (a := ad (71 + 2 * tN)) (q2_n ad 71 (by omega)) dX11_take_45 ?_
    refine gj_getN C (71 + 2 * tN) (by omega) (va_up_self _ _ _) inX10 rfl 3 (by decide) w_331 (v := .int ((tZ tN) - 1)) rfl dX11_take_46 ?_
    exact RT _ _ _ _ (by rw [if_neg c_2]; exact ⟨rfl, (by have q := cTr_new htN hT (fun k h1 h2 => up_nx (by omega) (rfl)) (va_up_self _ _ _) (up_nx (by omega) (htg)) hts htp (sz_dn htz c_2); rwa [upd_same, upd_same, updT_same] at q), fun k hk => up_nx (by omega) (rfl)⟩) dX11_take_49
  · refine gj_bipush C (v := (-3)) (by decide) dX11_take_22 ?_
    exact RT _ _ _ _ (by rw [if_pos c_2]; exact ⟨rfl, rfl⟩) dX11_take_24
set_option maxHeartbeats 400000 in
set_option maxRecDepth 100000 in
theorem c_becomeS {l : Launch} {D : va_G} {ca ss ad : Nat → Nat} {f : Nat → va_E} (i j : Nat) (hS hP sz : Int32) (g : Nat → Int32) (hci : f i = .inr (9, [.ref (ad j), .int hS, .int hP, .int sz])) (hcj : f j = .inl (ca 0, 32, .inl g)) (hi : i < 108) (hj : j < 108) (hij : i ≠ j) (hz1 : hS = 0 ∨ hS = 1) (hz2 : hP = 0 ∨ hP = 1) : gMv l D ca ss ad 108 yX10_become cX10_become 2 none 1 f [.ref (ad i), .ref (ad i)] (fun u => u = f) := by
  refine gMv_ofK (by decide +kernel) (Nat.le_of_ble_eq_true rfl) (lv0 := [(0, .ref (ad i)), (1, .ref (ad i))]) rfl (fun pT eT sT mT aT below meth cT AT QT C RT => ?_)
  have C : gX pT sT mT aT meth cT AT D ca ss 2 RX10 cX10_become none := C
  refine gj_aload_n C 1 dX10_become_0 rfl 1 rfl ?_
  refine gj_get C i hi hci inX10 rfl 0 (by decide) w_327 (v := .ref (ad j)) rfl dX10_become_1 ?_
  refine gj_iconst C (v := 0) (by decide) dX10_become_4 ?_
  refine gj_aload_n C 0 dX10_become_5 rfl 0 rfl ?_
  refine gj_get C i hi hci inX10 rfl 0 (by decide) w_327 (v := .ref (ad j)) rfl dX10_become_6 ?_
  refine gj_iconst C (v := 0) (by decide) dX10_become_9 ?_
  refine gj_aload_n C 0 dX10_become_10 rfl 0 rfl ?_
  refine gj_get C i hi hci inX10 rfl 0 (by decide) w_327 (v := .ref (ad j)) rfl dX10_become_11 ?_
  refine gj_alen C 0 j hj hcj rfl (v := 32) rfl dX10_become_14 ?_
  refine gj_copyi C j j hj hj hcj hcj (by decide) (by decide) (by decide) (by decide) (by decide) w_725 w_727 w_726 w_69 ⟨Nat.le_of_ble_eq_true rfl, Nat.le_of_ble_eq_true rfl⟩ (Nat.le_of_ble_eq_true rfl) dX10_become_15 ?_
  refine gj_extI (g' := g) j hj (va_up_self _ _ _) (cpy_all g g 32) ?_
  refine gj_setf (bx_uu _ _ _ _) ?_
  refine gj_aload_n C 0 dX10_become_18 rfl 0 rfl ?_
  refine gj_aload_n C 1 dX10_become_19 rfl 1 rfl ?_
  refine gj_get C i hi (up_nx hij (hci)) inX10 rfl 1 (by decide) w_328 (v := .int hS) rfl dX10_become_20 ?_
  refine gj_putS C i hi (up_nx hij (hci)) inX10 rfl 1 (by decide) tyX10 tyX10_ok nmX10 w_328 rfl (v := .int hS) (fs' := [.ref (ad j), .int hS, .int hP, .int sz]) (by rcases hz1 with q | q <;> rw [q] <;> rfl) (by rcases hz1 with q | q <;> rw [q] <;> rfl) (Nat.le_of_ble_eq_true rfl) rfl dX10_become_23 ?_
  refine gj_aload_n C 0 dX10_become_26 rfl 0 rfl ?_
  refine gj_aload_n C 1 dX10_become_27 rfl 1 rfl ?_
  refine gj_get C i hi (va_up_self _ _ _) inX10 rfl 2 (by decide) w_329 (v := .int hP) rfl dX10_become_28 ?_
  refine gj_putS C i hi (va_up_self _ _ _) inX10 rfl 2 (by decide) tyX10 tyX10_ok nmX10 w_329 rfl (v := .int hP) (fs' := [.ref (ad j), .int hS, .int hP, .int sz]) (by rcases hz2 with q | q <;> rw [q] <;> rfl) (by rcases hz2 with q | q <;> rw [q] <;> rfl) (Nat.le_of_ble_eq_true rfl) rfl dX10_become_31 ?_
  refine gj_setf (bx_uu _ _ _ _) ?_
  refine gj_aload_n C 0 dX10_become_34 rfl 0 rfl ?_
  refine gj_aload_n C 1 dX10_become_35 rfl 1 rfl ?_
  refine gj_get C i hi (va_up_self _ _ _) inX10 rfl 3 (by decide) w_330 (v := .int sz) rfl dX10_become_36 ?_
  refine gj_putS C i hi (va_up_self _ _ _) inX10 rfl 3 (by decide) tyX10 tyX10_ok nmX10 w_330 rfl (v := .int sz) (fs' := [.ref (ad j), .int hS, .int hP, .int sz]) rfl rfl (Nat.le_of_ble_eq_true rfl) rfl dX10_become_39 ?_
  refine gj_setf (bx_uu _ _ _ _) ?_
  exact RT _ _ _ ((up_id (up_nx hij hci)).trans (up_id hcj)) dX10_become_42
set_option maxHeartbeats 400000 in
set_option maxRecDepth 100000 in
theorem c_fork {l : Launch} {D : va_G} {ca ss ad : Nat → Nat} {f : Nat → va_E} (aN bN : Nat) (haN : aN < 4) (hbN : bN < 4) (hab : ¬ aN = bN) (la : Int32) (tS tP tZ : Nat → Int32) (tG : Nat → Nat → Int32) (hc0 : f 0 = .inr (10, [.ref (ad 1), .ref (ad 69), .ref (ad 70), .int la])) (hT : cTr ca ad tS tP tZ tG f) : gMi l D ca ss ad 108 yX11_fork cX11_fork 3 (some .int) 2 f [.ref (ad 0), .int (nI aN), .int (nI bN)] (fun r u => r = tZ aN ∧ cTr ca ad (upd tS bN (tS aN)) (upd tP bN (tP aN)) (upd tZ bN (tZ aN)) (updT tG bN (tG aN)) u ∧ ∀ k, ¬ (71 ≤ k ∧ k < 79) → u k = f k) := by
  refine gMi_ofK (by decide +kernel) (Nat.le_of_ble_eq_true rfl) (lv0 := [(0, .ref (ad 0)), (1, .int (nI aN)), (2, .int (nI bN))]) rfl (fun pT eT sT mT aT below meth cT AT QT C RT => ?_)
  have C : gX pT sT mT aT meth cT AT D ca ss 3 RX11 cX11_fork (some .int) := C
  obtain ⟨hts, htp, htz, hto, htg⟩ := hT.2 aN (by omega)
  obtain ⟨hts1, htp1, htz1, hto1, htg1⟩ := hT.2 bN (by omega)
  refine gj_iload_n C 1 dX11_fork_0 rfl 1 rfl ?_
  refine gj_callSi C w_707 w_706 (c_X11_isTray (nI aN)) mc_X11_isTray ⟨Nat.le_of_ble_eq_true rfl, Nat.le_of_ble_eq_true rfl⟩ (rest := []) rfl (Nat.le_of_ble_eq_true rfl) dX11_fork_1 (fun r u h => ?_)
  obtain ⟨hr_, h⟩ := h; rw [hr_]
  rw [h]
  refine gj_if_eq C 14 dX11_fork_4 (by decide) (fun c_1 => absurd c_1 (isTray_y haN)) (fun c_1 => ?_)
  refine gj_iload_n C 2 dX11_fork_7 rfl 2 rfl ?_
  refine gj_callSi C w_707 w_706 (c_X11_isTray (nI bN)) mc_X11_isTray ⟨Nat.le_of_ble_eq_true rfl, Nat.le_of_ble_eq_true rfl⟩ (rest := []) rfl (Nat.le_of_ble_eq_true rfl) dX11_fork_8 (fun r u h => ?_)
  obtain ⟨hr_, h⟩ := h; rw [hr_]
  rw [h]
  refine gj_if_ne C 17 dX11_fork_11 (by decide) (fun c_2 => ?_) (fun c_2 => absurd c_2 (isTray_y hbN))
  refine gj_aload_n C 0 dX11_fork_17 rfl 0 rfl ?_
  refine gj_get C 0 (by decide) hc0 inX11 rfl 1 (by decide) w_358 (v := .ref (ad 69)) rfl dX11_fork_18 ?_
  refine gj_iload_n C 2 dX11_fork_21 rfl 2 rfl ?_
  refine gj_aldq C 4 69 (by decide) hT.1 rfl (vp_in_nI (by omega) (by omega)) (a := ad (71 + 2 * bN)) (q2_n ad 71 (by omega)) dX11_fork_22 ?_
  refine gj_aload_n C 0 dX11_fork_23 rfl 0 rfl ?_
  refine gj_get C 0 (by decide) hc0 inX11 rfl 1 (by decide) w_358 (v := .ref (ad 69)) rfl dX11_fork_24 ?_
  refine gj_iload_n C 1 dX11_fork_27 rfl 1 rfl ?_
  refine gj_aldq C 4 69 (by decide) hT.1 rfl (vp_in_nI (by omega) (by omega)) (a := ad (71 + 2 * aN)) (q2_n ad 71 (by omega)) dX11_fork_28 ?_
  refine gj_callVv C mi_X10_become w_721 (71 + 2 * bN) (by omega) hto1 rfl (c_X10_become (71 + 2 * bN) (72 + 2 * bN) (71 + 2 * aN) (72 + 2 * aN) (tS bN) (tP bN) (tZ bN) (tS aN) (tP aN) (tZ aN) (tG bN) (tG aN) hto1 htg1 hto htg (by omega) (by omega) (by omega) (by omega) (by omega) (by omega) (by omega) (by omega) (by omega) (by omega) hts htp) mc_X10_become ⟨Nat.le_of_ble_eq_true rfl, Nat.le_of_ble_eq_true rfl⟩ (rest := []) rfl (Nat.le_of_ble_eq_true rfl) dX11_fork_29 (fun u h => ?_)
  subst h
  refine gj_aload_n C 0 dX11_fork_32 rfl 0 rfl ?_
  refine gj_get C 0 (by decide) (up_nx (by omega) (up_nx (by omega) (hc0))) inX11 rfl 1 (by decide) w_358 (v := .ref (ad 69)) rfl dX11_fork_33 ?_
  refine gj_iload_n C 2 dX11_fork_36 rfl 2 rfl ?_
  refine gj_aldq C 4 69 (by decide) (up_nx (by omega) (up_nx (by omega) (hT.1))) rfl (vp_in_nI (by omega) (by omega)) (a := ad (71 + 2 * bN)) (q2_n ad 71 (by omega)) dX11_fork_37 ?_
  refine gj_getN C (71 + 2 * bN) (by omega) (va_up_self _ _ _) inX10 rfl 3 (by decide) w_331 (v := .int (tZ aN)) rfl dX11_fork_38 ?_
  exact RT _ _ _ _ ⟨rfl, cTr_new hbN hT (fun k h1 h2 => up_nx (by omega) (up_nx (by omega) (rfl))) (va_up_self _ _ _) (up_nx (by omega) (va_up_self _ _ _)) hts htp htz, fun k hk => up_nx (by omega) (up_nx (by omega) (rfl))⟩ dX11_fork_41
set_option maxHeartbeats 400000 in
set_option maxRecDepth 100000 in
theorem c_forkS {l : Launch} {D : va_G} {ca ss ad : Nat → Nat} {f : Nat → va_E} (tN : Nat) (htN : tN < 4) (la : Int32) (tS tP tZ : Nat → Int32) (tG : Nat → Nat → Int32) (hc0 : f 0 = .inr (10, [.ref (ad 1), .ref (ad 69), .ref (ad 70), .int la])) (hT : cTr ca ad tS tP tZ tG f) : gMi l D ca ss ad 108 yX11_fork cX11_fork 3 (some .int) 2 f [.ref (ad 0), .int (nI tN), .int (nI tN)] (fun r u => r = tZ tN ∧ u = f) := by
  refine gMi_ofK (by decide +kernel) (Nat.le_of_ble_eq_true rfl) (lv0 := [(0, .ref (ad 0)), (1, .int (nI tN)), (2, .int (nI tN))]) rfl (fun pT eT sT mT aT below meth cT AT QT C RT => ?_)
  have C : gX pT sT mT aT meth cT AT D ca ss 3 RX11 cX11_fork (some .int) := C
  obtain ⟨hts, htp, htz, hto, htg⟩ := hT.2 tN (by omega)
  refine gj_iload_n C 1 dX11_fork_0 rfl 1 rfl ?_
  refine gj_callSi C w_707 w_706 (c_X11_isTray (nI tN)) mc_X11_isTray ⟨Nat.le_of_ble_eq_true rfl, Nat.le_of_ble_eq_true rfl⟩ (rest := []) rfl (Nat.le_of_ble_eq_true rfl) dX11_fork_1 (fun r u h => ?_)
  obtain ⟨hr_, h⟩ := h; rw [hr_]
  rw [h]
  refine gj_if_eq C 14 dX11_fork_4 (by decide) (fun c_1 => absurd c_1 (isTray_y htN)) (fun c_1 => ?_)
  refine gj_iload_n C 2 dX11_fork_7 rfl 2 rfl ?_
  refine gj_callSi C w_707 w_706 (c_X11_isTray (nI tN)) mc_X11_isTray ⟨Nat.le_of_ble_eq_true rfl, Nat.le_of_ble_eq_true rfl⟩ (rest := []) rfl (Nat.le_of_ble_eq_true rfl) dX11_fork_8 (fun r u h => ?_)
  obtain ⟨hr_, h⟩ := h; rw [hr_]
  rw [h]
  refine gj_if_ne C 17 dX11_fork_11 (by decide) (fun c_2 => ?_) (fun c_2 => absurd c_2 (isTray_y htN))
  refine gj_aload_n C 0 dX11_fork_17 rfl 0 rfl ?_
  refine gj_get C 0 (by decide) hc0 inX11 rfl 1 (by decide) w_358 (v := .ref (ad 69)) rfl dX11_fork_18 ?_
  refine gj_iload_n C 2 dX11_fork_21 rfl 2 rfl ?_
  refine gj_aldq C 4 69 (by decide) hT.1 rfl (vp_in_nI (by omega) (by omega)) (a := ad (71 + 2 * tN)) (q2_n ad 71 (by omega)) dX11_fork_22 ?_
  refine gj_aload_n C 0 dX11_fork_23 rfl 0 rfl ?_
  refine gj_get C 0 (by decide) hc0 inX11 rfl 1 (by decide) w_358 (v := .ref (ad 69)) rfl dX11_fork_24 ?_
  refine gj_iload_n C 1 dX11_fork_27 rfl 1 rfl ?_
  refine gj_aldq C 4 69 (by decide) hT.1 rfl (vp_in_nI (by omega) (by omega)) (a := ad (71 + 2 * tN)) (q2_n ad 71 (by omega)) dX11_fork_28 ?_
  refine gj_callVv C mi_X10_become w_721 (71 + 2 * tN) (by omega) hto rfl (c_becomeS (71 + 2 * tN) (72 + 2 * tN) (tS tN) (tP tN) (tZ tN) (tG tN) hto htg (by omega) (by omega) (by omega) hts htp) mc_X10_become ⟨Nat.le_of_ble_eq_true rfl, Nat.le_of_ble_eq_true rfl⟩ (rest := []) rfl (Nat.le_of_ble_eq_true rfl) dX11_fork_29 (fun u h => ?_)
  rw [h]
  refine gj_aload_n C 0 dX11_fork_32 rfl 0 rfl ?_
  refine gj_get C 0 (by decide) hc0 inX11 rfl 1 (by decide) w_358 (v := .ref (ad 69)) rfl dX11_fork_33 ?_
  refine gj_iload_n C 2 dX11_fork_36 rfl 2 rfl ?_
  refine gj_aldq C 4 69 (by decide) hT.1 rfl (vp_in_nI (by omega) (by omega)) (a := ad (71 + 2 * tN)) (q2_n ad 71 (by omega)) dX11_fork_37 ?_
  refine gj_getN C (71 + 2 * tN) (by omega) hto inX10 rfl 3 (by decide) w_331 (v := .int (tZ tN)) rfl dX11_fork_38 ?_
  exact RT _ _ _ _ ⟨rfl, rfl⟩ dX11_fork_41
def s_thing (i w sz : Int32) (g : Nat → Int32) : Int32 := if s_X10_has i sz = 0 then -2147483648 else if s_X11_isWithin w (0 : Int32) (3 : Int32) = 0 then -2147483648 else s_X10_column i w sz g
set_option maxHeartbeats 400000 in
set_option maxRecDepth 100000 in
theorem c_thing {l : Launch} {D : va_G} {ca ss ad : Nat → Nat} {f : Nat → va_E} (tN : Nat) (i w : Int32) (htN : tN < 4) (la : Int32) (tS tP tZ : Nat → Int32) (tG : Nat → Nat → Int32) (hc0 : f 0 = .inr (10, [.ref (ad 1), .ref (ad 69), .ref (ad 70), .int la])) (hT : cTr ca ad tS tP tZ tG f) : gMi l D ca ss ad 108 yX11_thing cX11_thing 4 (some .int) 2 f [.ref (ad 0), .int (nI tN), .int i, .int w] (fun r u => r = s_thing i w (tZ tN) (tG tN) ∧ u = f) := by
  refine gMi_ofK (by decide +kernel) (Nat.le_of_ble_eq_true rfl) (lv0 := [(0, .ref (ad 0)), (1, .int (nI tN)), (2, .int i), (3, .int w)]) rfl (fun pT eT sT mT aT below meth cT AT QT C RT => ?_)
  have C : gX pT sT mT aT meth cT AT D ca ss 4 RX11 cX11_thing (some .int) := C
  obtain ⟨hts, htp, htz, hto, htg⟩ := hT.2 tN (by omega)
  refine gj_iload_n C 1 dX11_thing_0 rfl 1 rfl ?_
  refine gj_callSi C w_707 w_706 (c_X11_isTray (nI tN)) mc_X11_isTray ⟨Nat.le_of_ble_eq_true rfl, Nat.le_of_ble_eq_true rfl⟩ (rest := []) rfl (Nat.le_of_ble_eq_true rfl) dX11_thing_1 (fun r u h => ?_)
  obtain ⟨hr_, h⟩ := h; rw [hr_]
  rw [h]
  refine gj_if_eq C 29 dX11_thing_4 (by decide) (fun c_1 => absurd c_1 (isTray_y htN)) (fun c_1 => ?_)
  refine gj_aload_n C 0 dX11_thing_7 rfl 0 rfl ?_
  refine gj_get C 0 (by decide) hc0 inX11 rfl 1 (by decide) w_358 (v := .ref (ad 69)) rfl dX11_thing_8 ?_
  refine gj_iload_n C 1 dX11_thing_11 rfl 1 rfl ?_
  refine gj_aldq C 4 69 (by decide) hT.1 rfl (vp_in_nI (by omega) (by omega)) (a := ad (71 + 2 * tN)) (q2_n ad 71 (by omega)) dX11_thing_12 ?_
  refine gj_iload_n C 2 dX11_thing_13 rfl 2 rfl ?_
  refine gj_callVi C mi_X10_has w_736 (71 + 2 * tN) (by omega) hto rfl (c_X10_has (71 + 2 * tN) (72 + 2 * tN) i (tS tN) (tP tN) (tZ tN) (tG tN) hto htg (by omega) (by omega) (by omega)) mc_X10_has ⟨Nat.le_of_ble_eq_true rfl, Nat.le_of_ble_eq_true rfl⟩ (rest := []) rfl (Nat.le_of_ble_eq_true rfl) dX11_thing_14 (fun r u h => ?_)
  obtain ⟨hr_, h⟩ := h; rw [hr_]
  rw [h]
  refine gj_if_eq C 29 dX11_thing_17 (by decide) (fun c_2 => ?_) (fun c_2 => ?_)
  · refine gj_ldc C (v := (-2147483648)) w_424 dX11_thing_29 ?_
    exact RT _ _ _ _ ⟨(by unfold s_thing; rw [if_pos c_2]), rfl⟩ dX11_thing_31
  · refine gj_iload_n C 3 dX11_thing_20 rfl 3 rfl ?_
    refine gj_iconst C (v := 0) (by decide) dX11_thing_21 ?_
    refine gj_iconst C (v := 3) (by decide) dX11_thing_22 ?_
    refine gj_callSi C w_381 w_380 (c_X11_isWithin w (0 : Int32) (3 : Int32)) mc_X11_isWithin ⟨Nat.le_of_ble_eq_true rfl, Nat.le_of_ble_eq_true rfl⟩ (rest := []) rfl (Nat.le_of_ble_eq_true rfl) dX11_thing_23 (fun r u h => ?_)
    obtain ⟨hr_, h⟩ := h; rw [hr_]
    rw [h]
    refine gj_if_ne C 32 dX11_thing_26 (by decide) (fun c_3 => ?_) (fun c_3 => ?_)
    · refine gj_aload_n C 0 dX11_thing_32 rfl 0 rfl ?_
      refine gj_get C 0 (by decide) hc0 inX11 rfl 1 (by decide) w_358 (v := .ref (ad 69)) rfl dX11_thing_33 ?_
      refine gj_iload_n C 1 dX11_thing_36 rfl 1 rfl ?_
      refine gj_aldq C 4 69 (by decide) hT.1 rfl (vp_in_nI (by omega) (by omega)) (a := ad (71 + 2 * tN)) (q2_n ad 71 (by omega)) dX11_thing_37 ?_
      refine gj_iload_n C 2 dX11_thing_38 rfl 2 rfl ?_
      refine gj_iload_n C 3 dX11_thing_39 rfl 3 rfl ?_
      refine gj_callVi C mi_X10_column w_740 (71 + 2 * tN) (by omega) hto rfl (c_X10_column (71 + 2 * tN) (72 + 2 * tN) i w (tS tN) (tP tN) (tZ tN) (tG tN) hto htg (by omega) (by omega) (by omega) htz) mc_X10_column ⟨Nat.le_of_ble_eq_true rfl, Nat.le_of_ble_eq_true rfl⟩ (rest := []) rfl (Nat.le_of_ble_eq_true rfl) dX11_thing_40 (fun r u h => ?_)
      obtain ⟨hr_, h⟩ := h; rw [hr_]
      rw [h]
      exact RT _ _ _ _ ⟨(by unfold s_thing; rw [if_neg c_2, if_neg c_3]), rfl⟩ dX11_thing_43
    · refine gj_ldc C (v := (-2147483648)) w_424 dX11_thing_29 ?_
      exact RT _ _ _ _ ⟨(by unfold s_thing; rw [if_neg c_2, if_pos c_3]), rfl⟩ dX11_thing_31
set_option maxHeartbeats 400000 in
set_option maxRecDepth 100000 in
theorem c_put0 {l : Launch} {D : va_G} {ca ss ad : Nat → Nat} {f : Nat → va_E} (tN : Nat) (i : Int32) (htN : tN < 4) (la : Int32) (n0 n1 : Nat) (gS gP se : Nat → Int32) (tS tP tZ : Nat → Int32) (tG : Nat → Nat → Int32) (hc0 : f 0 = .inr (10, [.ref (ad 1), .ref (ad 69), .ref (ad 70), .int la])) (hI : cSI ca ad n0 n1 gS gP se f) (hT : cTr ca ad tS tP tZ tG f) : gMi l D ca ss ad 108 yX11_put cX11_put 6 (some .int) 2 f [.ref (ad 0), .int (nI tN), .int 0, .int i] (fun r u => if s_isOne0 i n0 = 0 then (r = -2 ∧ u = f) else if tZ tN = 8 then (r = -4 ∧ u = f) else if s_X10_holds (0 : Int32) (tS tN) (tP tN) = 0 then (r = -14 ∧ u = va_up f 0 (.inr (10, [.ref (ad 1), .ref (ad 69), .ref (ad 70), .int 4]))) else (r = tZ tN + 1 ∧ cTr ca ad tS tP (upd tZ tN (tZ tN + 1)) (updT tG tN (putRow (tG tN) (tZ tN) 0 (s_X1_part i (0 : Int32) (nI n0) gS) (s_X1_part i (1 : Int32) (nI n0) gS) (s_X1_part i (2 : Int32) (nI n0) gS))) u ∧ ∀ k, ¬ (71 ≤ k ∧ k < 79) → u k = f k)) := by
  refine gMi_ofK (by decide +kernel) (Nat.le_of_ble_eq_true rfl) (lv0 := [(0, .ref (ad 0)), (1, .int (nI tN)), (2, .int 0), (3, .int i)]) rfl (fun pT eT sT mT aT below meth cT AT QT C RT => ?_)
  have C : gX pT sT mT aT meth cT AT D ca ss 6 RX11 cX11_put (some .int) := C
  have hI0 := hI
  obtain ⟨⟨hn0, hn1, hc2, hc3, hc4, hc5, hc6⟩, ⟨hM, hP, hStp, hR, hF, hG⟩, lo, ma, bt, bc, sp, sc, fk, bk, sk, hc1, hfk, hbk, hsk⟩ := hI
  have hI := hI0
  obtain ⟨hts, htp, htz, hto, htg⟩ := hT.2 tN (by omega)
  refine gj_iload_n C 1 dX11_put_0 rfl 1 rfl ?_
  refine gj_callSi C w_707 w_706 (c_X11_isTray (nI tN)) mc_X11_isTray ⟨Nat.le_of_ble_eq_true rfl, Nat.le_of_ble_eq_true rfl⟩ (rest := []) rfl (Nat.le_of_ble_eq_true rfl) dX11_put_1 (fun r u h => ?_)
  obtain ⟨hr_, h⟩ := h; rw [hr_]
  rw [h]
  refine gj_if_eq C 16 dX11_put_4 (by decide) (fun c_1 => absurd c_1 (isTray_y htN)) (fun c_1 => ?_)
  refine gj_aload_n C 0 dX11_put_7 rfl 0 rfl ?_
  refine gj_iload_n C 2 dX11_put_8 rfl 2 rfl ?_
  refine gj_iload_n C 3 dX11_put_9 rfl 3 rfl ?_
  refine gj_callVi C mi_X11_isOne w_416 0 (by decide) hc0 rfl (c_isOne0 i la lo ma bt bc sp sc fk bk sk n0 n1 gS gP se hc0 hc1 hc2 hc3 hc4 hc5 hc6 (by first | assumption | omega) (by first | assumption | omega)) mc_X11_isOne ⟨Nat.le_of_ble_eq_true rfl, Nat.le_of_ble_eq_true rfl⟩ (rest := []) rfl (Nat.le_of_ble_eq_true rfl) dX11_put_10 (fun r u h => ?_)
  obtain ⟨hr_, h⟩ := h; rw [hr_]
  rw [h]
  refine gj_if_ne C 19 dX11_put_13 (by decide) (fun c_2 => ?_) (fun c_2 => ?_)
  · refine gj_aload_n C 0 dX11_put_19 rfl 0 rfl ?_
    refine gj_get C 0 (by decide) hc0 inX11 rfl 1 (by decide) w_358 (v := .ref (ad 69)) rfl dX11_put_20 ?_
    refine gj_iload_n C 1 dX11_put_23 rfl 1 rfl ?_
    refine gj_aldq C 4 69 (by decide) hT.1 rfl (vp_in_nI (by omega) (by omega)) (a := ad (71 + 2 * tN)) (q2_n ad 71 (by omega)) dX11_put_24 ?_
    refine gj_astore C (lv' := [(4, .ref (ad (71 + 2 * tN))), (0, .ref (ad 0)), (1, .int (nI tN)), (2, .int 0), (3, .int i)]) dX11_put_25 (by decide) rfl ?_
    refine gj_aload C dX11_put_27 0 rfl ?_
    refine gj_getN C (71 + 2 * tN) (by omega) hto inX10 rfl 3 (by decide) w_331 (v := .int (tZ tN)) rfl dX11_put_29 ?_
    refine gj_bipush C (v := 8) (by decide) dX11_put_32 ?_
    refine gj_icmp_ne C 40 dX11_put_34 (by decide) (fun c_3 => ?_) (fun c_3 => ?_)
    · refine gj_aload C dX11_put_40 0 rfl ?_
      refine gj_iload_n C 2 dX11_put_42 rfl 3 rfl ?_
      refine gj_callVi C mi_X10_holds w_709 (71 + 2 * tN) (by omega) hto rfl (c_X10_holds (71 + 2 * tN) (72 + 2 * tN) (0 : Int32) (tS tN) (tP tN) (tZ tN) (tG tN) hto htg (by omega) (by omega) (by omega) hts htp) mc_X10_holds ⟨Nat.le_of_ble_eq_true rfl, Nat.le_of_ble_eq_true rfl⟩ (rest := []) rfl (Nat.le_of_ble_eq_true rfl) dX11_put_43 (fun r u h => ?_)
      obtain ⟨hr_, h⟩ := h; rw [hr_]
      rw [h]
      refine gj_if_ne C 55 dX11_put_46 (by decide) (fun c_4 => ?_) (fun c_4 => ?_)
      · refine gj_aload_n C 0 dX11_put_55 rfl 1 rfl ?_
        refine gj_get C 0 (by decide) hc0 inX11 rfl 0 (by decide) w_357 (v := .ref (ad 1)) rfl dX11_put_56 ?_
        refine gj_iload_n C 2 dX11_put_59 rfl 3 rfl ?_
        refine gj_callVr C mi_X6_rowOf w_383 1 (by decide) hc1 rfl (c_rowOf0 lo ma bt bc sp sc fk bk sk hc1) mc_X6_rowOf ⟨Nat.le_of_ble_eq_true rfl, Nat.le_of_ble_eq_true rfl⟩ (rest := []) rfl (Nat.le_of_ble_eq_true rfl) dX11_put_60 (fun r u h => ?_)
        obtain ⟨hr_, h⟩ := h; rw [hr_]
        rw [h]
        refine gj_astore C (lv' := [(5, .ref (ad 2)), (4, .ref (ad (71 + 2 * tN))), (0, .ref (ad 0)), (1, .int (nI tN)), (2, .int 0), (3, .int i)]) dX11_put_63 (by decide) rfl ?_
        refine gj_aload C dX11_put_65 1 rfl ?_
        refine gj_iload_n C 2 dX11_put_67 rfl 4 rfl ?_
        refine gj_aload C dX11_put_68 0 rfl ?_
        refine gj_iload_n C 3 dX11_put_70 rfl 5 rfl ?_
        refine gj_iconst C (v := 0) (by decide) dX11_put_71 ?_
        refine gj_callVi C mi_X1_part w_425 2 (by decide) hc2 rfl (c_X1_part 2 3 i (0 : Int32) (12 : Int32) (nI n0) 36 gS hc2 hc3 (by decide) (by decide) (by decide) (szk (by omega) (by omega))) mc_X1_part ⟨Nat.le_of_ble_eq_true rfl, Nat.le_of_ble_eq_true rfl⟩ (rest := [.int 0, .ref (ad (71 + 2 * tN))]) rfl (Nat.le_of_ble_eq_true rfl) dX11_put_72 (fun r u h => ?_)
        obtain ⟨hr_, h⟩ := h; rw [hr_]
        rw [h]
        refine gj_aload C dX11_put_75 0 rfl ?_
        refine gj_iload_n C 3 dX11_put_77 rfl 5 rfl ?_
        refine gj_iconst C (v := 1) (by decide) dX11_put_78 ?_
        refine gj_callVi C mi_X1_part w_425 2 (by decide) hc2 rfl (c_X1_part 2 3 i (1 : Int32) (12 : Int32) (nI n0) 36 gS hc2 hc3 (by decide) (by decide) (by decide) (szk (by omega) (by omega))) mc_X1_part ⟨Nat.le_of_ble_eq_true rfl, Nat.le_of_ble_eq_true rfl⟩ (rest := [.int (s_X1_part i (0 : Int32) (nI n0) gS), .int 0, .ref (ad (71 + 2 * tN))]) rfl (Nat.le_of_ble_eq_true rfl) dX11_put_79 (fun r u h => ?_)
        obtain ⟨hr_, h⟩ := h; rw [hr_]
        rw [h]
        refine gj_aload C dX11_put_82 0 rfl ?_
        refine gj_iload_n C 3 dX11_put_84 rfl 5 rfl ?_
        refine gj_iconst C (v := 2) (by decide) dX11_put_85 ?_
        refine gj_callVi C mi_X1_part w_425 2 (by decide) hc2 rfl (c_X1_part 2 3 i (2 : Int32) (12 : Int32) (nI n0) 36 gS hc2 hc3 (by decide) (by decide) (by decide) (szk (by omega) (by omega))) mc_X1_part ⟨Nat.le_of_ble_eq_true rfl, Nat.le_of_ble_eq_true rfl⟩ (rest := [.int (s_X1_part i (1 : Int32) (nI n0) gS), .int (s_X1_part i (0 : Int32) (nI n0) gS), .int 0, .ref (ad (71 + 2 * tN))]) rfl (Nat.le_of_ble_eq_true rfl) dX11_put_86 (fun r u h => ?_)
        obtain ⟨hr_, h⟩ := h; rw [hr_]
        rw [h]
        refine gj_callVv C mi_X10_append w_713 (71 + 2 * tN) (by omega) hto rfl (c_X10_append (71 + 2 * tN) (72 + 2 * tN) (0 : Int32) (s_X1_part i (0 : Int32) (nI n0) gS) (s_X1_part i (1 : Int32) (nI n0) gS) (s_X1_part i (2 : Int32) (nI n0) gS) (tS tN) (tP tN) (tZ tN) (tG tN) hto htg (by omega) (by omega) (by omega) (sz8 htz c_3).1 (sz8 htz c_3).2) mc_X10_append ⟨Nat.le_of_ble_eq_true rfl, Nat.le_of_ble_eq_true rfl⟩ (rest := []) rfl (Nat.le_of_ble_eq_true rfl) dX11_put_89 (fun u h => ?_)
        subst h
        refine gj_aload C dX11_put_92 1 rfl ?_
        refine gj_getN C (71 + 2 * tN) (by omega) (va_up_self _ _ _) inX10 rfl 3 (by decide) w_331 (v := .int ((tZ tN) + 1)) rfl dX11_put_94 ?_
        exact RT _ _ _ _ (by rw [if_neg c_2, if_neg c_3, if_neg c_4]; exact ⟨rfl, (by have q := cTr_new (u := va_up (va_up f (72 + 2 * tN) (.inl (ca 0, 32, .inl (upd (upd (upd (upd (tG tN) (4 * (tZ tN)).toNatClampNeg (0 : Int32)) ((4 * (tZ tN)) + 1).toNatClampNeg (s_X1_part i (0 : Int32) (nI n0) gS)) ((4 * (tZ tN)) + 2).toNatClampNeg (s_X1_part i (1 : Int32) (nI n0) gS)) ((4 * (tZ tN)) + 3).toNatClampNeg (s_X1_part i (2 : Int32) (nI n0) gS))))) (71 + 2 * tN) (.inr (9, [.ref (ad (72 + 2 * tN)), .int (tS tN), .int (tP tN), .int ((tZ tN) + 1)]))) htN hT (fun k h1 h2 => up_nx (by omega) (up_nx (by omega) (rfl))) (va_up_self _ _ _) (up_nx (by omega) (va_up_self _ _ _)) hts htp (sz_up (sz8 htz c_3).2); rwa [upd_same, upd_same] at q), fun k hk => up_nx (by omega) (up_nx (by omega) (rfl))⟩) dX11_put_97
      · refine gj_aload_n C 0 dX11_put_49 rfl 1 rfl ?_
        refine gj_iconst C (v := 4) (by decide) dX11_put_50 ?_
        refine gj_callVi C mi_X11_find w_442 0 (by decide) hc0 rfl (c_X11_find (4 : Int32) la hc0) mc_X11_find ⟨Nat.le_of_ble_eq_true rfl, Nat.le_of_ble_eq_true rfl⟩ (rest := []) rfl (Nat.le_of_ble_eq_true rfl) dX11_put_51 (fun r u h => ?_)
        obtain ⟨hr_, hu_⟩ := h; rw [hr_]; subst hu_
        refine gj_seti (y := (-14)) (by decide) ?_
        exact RT _ _ _ _ (by rw [if_neg c_2, if_neg c_3, if_pos c_4]; exact ⟨rfl, rfl⟩) dX11_put_54
    · refine gj_bipush C (v := (-4)) (by decide) dX11_put_37 ?_
      exact RT _ _ _ _ (by rw [if_neg c_2, if_pos c_3]; exact ⟨rfl, rfl⟩) dX11_put_39
  · refine gj_bipush C (v := (-2)) (by decide) dX11_put_16 ?_
    exact RT _ _ _ _ (by rw [if_pos c_2]; exact ⟨rfl, rfl⟩) dX11_put_18
set_option maxHeartbeats 400000 in
set_option maxRecDepth 100000 in
theorem c_put1 {l : Launch} {D : va_G} {ca ss ad : Nat → Nat} {f : Nat → va_E} (tN : Nat) (i : Int32) (htN : tN < 4) (la : Int32) (n0 n1 : Nat) (gS gP se : Nat → Int32) (tS tP tZ : Nat → Int32) (tG : Nat → Nat → Int32) (hc0 : f 0 = .inr (10, [.ref (ad 1), .ref (ad 69), .ref (ad 70), .int la])) (hI : cSI ca ad n0 n1 gS gP se f) (hT : cTr ca ad tS tP tZ tG f) : gMi l D ca ss ad 108 yX11_put cX11_put 6 (some .int) 2 f [.ref (ad 0), .int (nI tN), .int 1, .int i] (fun r u => if s_isOne1 i n1 = 0 then (r = -2 ∧ u = f) else if tZ tN = 8 then (r = -4 ∧ u = f) else if s_X10_holds (1 : Int32) (tS tN) (tP tN) = 0 then (r = -14 ∧ u = va_up f 0 (.inr (10, [.ref (ad 1), .ref (ad 69), .ref (ad 70), .int 4]))) else (r = tZ tN + 1 ∧ cTr ca ad tS tP (upd tZ tN (tZ tN + 1)) (updT tG tN (putRow (tG tN) (tZ tN) 1 (s_X1_part i (0 : Int32) (nI n1) gP) (s_X1_part i (1 : Int32) (nI n1) gP) (s_X1_part i (2 : Int32) (nI n1) gP))) u ∧ ∀ k, ¬ (71 ≤ k ∧ k < 79) → u k = f k)) := by
  refine gMi_ofK (by decide +kernel) (Nat.le_of_ble_eq_true rfl) (lv0 := [(0, .ref (ad 0)), (1, .int (nI tN)), (2, .int 1), (3, .int i)]) rfl (fun pT eT sT mT aT below meth cT AT QT C RT => ?_)
  have C : gX pT sT mT aT meth cT AT D ca ss 6 RX11 cX11_put (some .int) := C
  have hI0 := hI
  obtain ⟨⟨hn0, hn1, hc2, hc3, hc4, hc5, hc6⟩, ⟨hM, hP, hStp, hR, hF, hG⟩, lo, ma, bt, bc, sp, sc, fk, bk, sk, hc1, hfk, hbk, hsk⟩ := hI
  have hI := hI0
  obtain ⟨hts, htp, htz, hto, htg⟩ := hT.2 tN (by omega)
  refine gj_iload_n C 1 dX11_put_0 rfl 1 rfl ?_
  refine gj_callSi C w_707 w_706 (c_X11_isTray (nI tN)) mc_X11_isTray ⟨Nat.le_of_ble_eq_true rfl, Nat.le_of_ble_eq_true rfl⟩ (rest := []) rfl (Nat.le_of_ble_eq_true rfl) dX11_put_1 (fun r u h => ?_)
  obtain ⟨hr_, h⟩ := h; rw [hr_]
  rw [h]
  refine gj_if_eq C 16 dX11_put_4 (by decide) (fun c_1 => absurd c_1 (isTray_y htN)) (fun c_1 => ?_)
  refine gj_aload_n C 0 dX11_put_7 rfl 0 rfl ?_
  refine gj_iload_n C 2 dX11_put_8 rfl 2 rfl ?_
  refine gj_iload_n C 3 dX11_put_9 rfl 3 rfl ?_
  refine gj_callVi C mi_X11_isOne w_416 0 (by decide) hc0 rfl (c_isOne1 i la lo ma bt bc sp sc fk bk sk n0 n1 gS gP se hc0 hc1 hc2 hc3 hc4 hc5 hc6 (by first | assumption | omega) (by first | assumption | omega)) mc_X11_isOne ⟨Nat.le_of_ble_eq_true rfl, Nat.le_of_ble_eq_true rfl⟩ (rest := []) rfl (Nat.le_of_ble_eq_true rfl) dX11_put_10 (fun r u h => ?_)
  obtain ⟨hr_, h⟩ := h; rw [hr_]
  rw [h]
  refine gj_if_ne C 19 dX11_put_13 (by decide) (fun c_2 => ?_) (fun c_2 => ?_)
  · refine gj_aload_n C 0 dX11_put_19 rfl 0 rfl ?_
    refine gj_get C 0 (by decide) hc0 inX11 rfl 1 (by decide) w_358 (v := .ref (ad 69)) rfl dX11_put_20 ?_
    refine gj_iload_n C 1 dX11_put_23 rfl 1 rfl ?_
    refine gj_aldq C 4 69 (by decide) hT.1 rfl (vp_in_nI (by omega) (by omega)) (a := ad (71 + 2 * tN)) (q2_n ad 71 (by omega)) dX11_put_24 ?_
    refine gj_astore C (lv' := [(4, .ref (ad (71 + 2 * tN))), (0, .ref (ad 0)), (1, .int (nI tN)), (2, .int 1), (3, .int i)]) dX11_put_25 (by decide) rfl ?_
    refine gj_aload C dX11_put_27 0 rfl ?_
    refine gj_getN C (71 + 2 * tN) (by omega) hto inX10 rfl 3 (by decide) w_331 (v := .int (tZ tN)) rfl dX11_put_29 ?_
    refine gj_bipush C (v := 8) (by decide) dX11_put_32 ?_
    refine gj_icmp_ne C 40 dX11_put_34 (by decide) (fun c_3 => ?_) (fun c_3 => ?_)
    · refine gj_aload C dX11_put_40 0 rfl ?_
      refine gj_iload_n C 2 dX11_put_42 rfl 3 rfl ?_
      refine gj_callVi C mi_X10_holds w_709 (71 + 2 * tN) (by omega) hto rfl (c_X10_holds (71 + 2 * tN) (72 + 2 * tN) (1 : Int32) (tS tN) (tP tN) (tZ tN) (tG tN) hto htg (by omega) (by omega) (by omega) hts htp) mc_X10_holds ⟨Nat.le_of_ble_eq_true rfl, Nat.le_of_ble_eq_true rfl⟩ (rest := []) rfl (Nat.le_of_ble_eq_true rfl) dX11_put_43 (fun r u h => ?_)
      obtain ⟨hr_, h⟩ := h; rw [hr_]
      rw [h]
      refine gj_if_ne C 55 dX11_put_46 (by decide) (fun c_4 => ?_) (fun c_4 => ?_)
      · refine gj_aload_n C 0 dX11_put_55 rfl 1 rfl ?_
        refine gj_get C 0 (by decide) hc0 inX11 rfl 0 (by decide) w_357 (v := .ref (ad 1)) rfl dX11_put_56 ?_
        refine gj_iload_n C 2 dX11_put_59 rfl 3 rfl ?_
        refine gj_callVr C mi_X6_rowOf w_383 1 (by decide) hc1 rfl (c_rowOf1 lo ma bt bc sp sc fk bk sk hc1) mc_X6_rowOf ⟨Nat.le_of_ble_eq_true rfl, Nat.le_of_ble_eq_true rfl⟩ (rest := []) rfl (Nat.le_of_ble_eq_true rfl) dX11_put_60 (fun r u h => ?_)
        obtain ⟨hr_, h⟩ := h; rw [hr_]
        rw [h]
        refine gj_astore C (lv' := [(5, .ref (ad 4)), (4, .ref (ad (71 + 2 * tN))), (0, .ref (ad 0)), (1, .int (nI tN)), (2, .int 1), (3, .int i)]) dX11_put_63 (by decide) rfl ?_
        refine gj_aload C dX11_put_65 1 rfl ?_
        refine gj_iload_n C 2 dX11_put_67 rfl 4 rfl ?_
        refine gj_aload C dX11_put_68 0 rfl ?_
        refine gj_iload_n C 3 dX11_put_70 rfl 5 rfl ?_
        refine gj_iconst C (v := 0) (by decide) dX11_put_71 ?_
        refine gj_callVi C mi_X1_part w_425 4 (by decide) hc4 rfl (c_X1_part 4 5 i (0 : Int32) (8 : Int32) (nI n1) 24 gP hc4 hc5 (by decide) (by decide) (by decide) (szk (by omega) (by omega))) mc_X1_part ⟨Nat.le_of_ble_eq_true rfl, Nat.le_of_ble_eq_true rfl⟩ (rest := [.int 1, .ref (ad (71 + 2 * tN))]) rfl (Nat.le_of_ble_eq_true rfl) dX11_put_72 (fun r u h => ?_)
        obtain ⟨hr_, h⟩ := h; rw [hr_]
        rw [h]
        refine gj_aload C dX11_put_75 0 rfl ?_
        refine gj_iload_n C 3 dX11_put_77 rfl 5 rfl ?_
        refine gj_iconst C (v := 1) (by decide) dX11_put_78 ?_
        refine gj_callVi C mi_X1_part w_425 4 (by decide) hc4 rfl (c_X1_part 4 5 i (1 : Int32) (8 : Int32) (nI n1) 24 gP hc4 hc5 (by decide) (by decide) (by decide) (szk (by omega) (by omega))) mc_X1_part ⟨Nat.le_of_ble_eq_true rfl, Nat.le_of_ble_eq_true rfl⟩ (rest := [.int (s_X1_part i (0 : Int32) (nI n1) gP), .int 1, .ref (ad (71 + 2 * tN))]) rfl (Nat.le_of_ble_eq_true rfl) dX11_put_79 (fun r u h => ?_)
        obtain ⟨hr_, h⟩ := h; rw [hr_]
        rw [h]
        refine gj_aload C dX11_put_82 0 rfl ?_
        refine gj_iload_n C 3 dX11_put_84 rfl 5 rfl ?_
        refine gj_iconst C (v := 2) (by decide) dX11_put_85 ?_
        refine gj_callVi C mi_X1_part w_425 4 (by decide) hc4 rfl (c_X1_part 4 5 i (2 : Int32) (8 : Int32) (nI n1) 24 gP hc4 hc5 (by decide) (by decide) (by decide) (szk (by omega) (by omega))) mc_X1_part ⟨Nat.le_of_ble_eq_true rfl, Nat.le_of_ble_eq_true rfl⟩ (rest := [.int (s_X1_part i (1 : Int32) (nI n1) gP), .int (s_X1_part i (0 : Int32) (nI n1) gP), .int 1, .ref (ad (71 + 2 * tN))]) rfl (Nat.le_of_ble_eq_true rfl) dX11_put_86 (fun r u h => ?_)
        obtain ⟨hr_, h⟩ := h; rw [hr_]
        rw [h]
        refine gj_callVv C mi_X10_append w_713 (71 + 2 * tN) (by omega) hto rfl (c_X10_append (71 + 2 * tN) (72 + 2 * tN) (1 : Int32) (s_X1_part i (0 : Int32) (nI n1) gP) (s_X1_part i (1 : Int32) (nI n1) gP) (s_X1_part i (2 : Int32) (nI n1) gP) (tS tN) (tP tN) (tZ tN) (tG tN) hto htg (by omega) (by omega) (by omega) (sz8 htz c_3).1 (sz8 htz c_3).2) mc_X10_append ⟨Nat.le_of_ble_eq_true rfl, Nat.le_of_ble_eq_true rfl⟩ (rest := []) rfl (Nat.le_of_ble_eq_true rfl) dX11_put_89 (fun u h => ?_)
        subst h
        refine gj_aload C dX11_put_92 1 rfl ?_
        refine gj_getN C (71 + 2 * tN) (by omega) (va_up_self _ _ _) inX10 rfl 3 (by decide) w_331 (v := .int ((tZ tN) + 1)) rfl dX11_put_94 ?_
        exact RT _ _ _ _ (by rw [if_neg c_2, if_neg c_3, if_neg c_4]; exact ⟨rfl, (by have q := cTr_new (u := va_up (va_up f (72 + 2 * tN) (.inl (ca 0, 32, .inl (upd (upd (upd (upd (tG tN) (4 * (tZ tN)).toNatClampNeg (1 : Int32)) ((4 * (tZ tN)) + 1).toNatClampNeg (s_X1_part i (0 : Int32) (nI n1) gP)) ((4 * (tZ tN)) + 2).toNatClampNeg (s_X1_part i (1 : Int32) (nI n1) gP)) ((4 * (tZ tN)) + 3).toNatClampNeg (s_X1_part i (2 : Int32) (nI n1) gP))))) (71 + 2 * tN) (.inr (9, [.ref (ad (72 + 2 * tN)), .int (tS tN), .int (tP tN), .int ((tZ tN) + 1)]))) htN hT (fun k h1 h2 => up_nx (by omega) (up_nx (by omega) (rfl))) (va_up_self _ _ _) (up_nx (by omega) (va_up_self _ _ _)) hts htp (sz_up (sz8 htz c_3).2); rwa [upd_same, upd_same] at q), fun k hk => up_nx (by omega) (up_nx (by omega) (rfl))⟩) dX11_put_97
      · refine gj_aload_n C 0 dX11_put_49 rfl 1 rfl ?_
        refine gj_iconst C (v := 4) (by decide) dX11_put_50 ?_
        refine gj_callVi C mi_X11_find w_442 0 (by decide) hc0 rfl (c_X11_find (4 : Int32) la hc0) mc_X11_find ⟨Nat.le_of_ble_eq_true rfl, Nat.le_of_ble_eq_true rfl⟩ (rest := []) rfl (Nat.le_of_ble_eq_true rfl) dX11_put_51 (fun r u h => ?_)
        obtain ⟨hr_, hu_⟩ := h; rw [hr_]; subst hu_
        refine gj_seti (y := (-14)) (by decide) ?_
        exact RT _ _ _ _ (by rw [if_neg c_2, if_neg c_3, if_pos c_4]; exact ⟨rfl, rfl⟩) dX11_put_54
    · refine gj_bipush C (v := (-4)) (by decide) dX11_put_37 ?_
      exact RT _ _ _ _ (by rw [if_neg c_2, if_pos c_3]; exact ⟨rfl, rfl⟩) dX11_put_39
  · refine gj_bipush C (v := (-2)) (by decide) dX11_put_16 ?_
    exact RT _ _ _ _ (by rw [if_pos c_2]; exact ⟨rfl, rfl⟩) dX11_put_18
set_option maxHeartbeats 400000 in
set_option maxRecDepth 100000 in
theorem c_takeB {l : Launch} {D : va_G} {ca ss ad : Nat → Nat} {f : Nat → va_E} (k : Int32) (hk : s_X11_isTray k = 0) : gMi l D ca ss ad 108 yX11_take cX11_take 2 (some .int) 2 f [.ref (ad 0), .int k] (fun r u => r = -2 ∧ u = f) := by
  refine gMi_ofK (by decide +kernel) (Nat.le_of_ble_eq_true rfl) (lv0 := [(0, .ref (ad 0)), (1, .int k)]) rfl (fun pT eT sT mT aT below meth cT AT QT C RT => ?_)
  have C : gX pT sT mT aT meth cT AT D ca ss 2 RX11 cX11_take (some .int) := C
  refine gj_iload_n C 1 dX11_take_0 rfl 1 rfl ?_
  refine gj_callSi C w_707 w_706 (c_X11_isTray k) mc_X11_isTray ⟨Nat.le_of_ble_eq_true rfl, Nat.le_of_ble_eq_true rfl⟩ (rest := []) rfl (Nat.le_of_ble_eq_true rfl) dX11_take_1 (fun r u h => ?_)
  obtain ⟨hr_, h⟩ := h; rw [hr_]
  rw [h]
  refine gj_if_ne C 10 dX11_take_4 (by decide) (fun c_1 => absurd hk c_1) (fun c_1 => ?_)
  refine gj_bipush C (v := (-2)) (by decide) dX11_take_7 ?_
  exact RT _ _ _ _ ⟨rfl, rfl⟩ dX11_take_9
set_option maxHeartbeats 400000 in
set_option maxRecDepth 100000 in
theorem c_thingB {l : Launch} {D : va_G} {ca ss ad : Nat → Nat} {f : Nat → va_E} (k i w : Int32) (hk : s_X11_isTray k = 0) : gMi l D ca ss ad 108 yX11_thing cX11_thing 4 (some .int) 2 f [.ref (ad 0), .int k, .int i, .int w] (fun r u => r = -2147483648 ∧ u = f) := by
  refine gMi_ofK (by decide +kernel) (Nat.le_of_ble_eq_true rfl) (lv0 := [(0, .ref (ad 0)), (1, .int k), (2, .int i), (3, .int w)]) rfl (fun pT eT sT mT aT below meth cT AT QT C RT => ?_)
  have C : gX pT sT mT aT meth cT AT D ca ss 4 RX11 cX11_thing (some .int) := C
  refine gj_iload_n C 1 dX11_thing_0 rfl 1 rfl ?_
  refine gj_callSi C w_707 w_706 (c_X11_isTray k) mc_X11_isTray ⟨Nat.le_of_ble_eq_true rfl, Nat.le_of_ble_eq_true rfl⟩ (rest := []) rfl (Nat.le_of_ble_eq_true rfl) dX11_thing_1 (fun r u h => ?_)
  obtain ⟨hr_, h⟩ := h; rw [hr_]
  rw [h]
  refine gj_if_eq C 29 dX11_thing_4 (by decide) (fun c_1 => ?_) (fun c_1 => absurd hk c_1)
  refine gj_ldc C (v := (-2147483648)) w_424 dX11_thing_29 ?_
  exact RT _ _ _ _ ⟨rfl, rfl⟩ dX11_thing_31
set_option maxHeartbeats 400000 in
set_option maxRecDepth 100000 in
theorem c_putB {l : Launch} {D : va_G} {ca ss ad : Nat → Nat} {f : Nat → va_E} (k q i : Int32) (hk : s_X11_isTray k = 0) : gMi l D ca ss ad 108 yX11_put cX11_put 6 (some .int) 2 f [.ref (ad 0), .int k, .int q, .int i] (fun r u => r = -2 ∧ u = f) := by
  refine gMi_ofK (by decide +kernel) (Nat.le_of_ble_eq_true rfl) (lv0 := [(0, .ref (ad 0)), (1, .int k), (2, .int q), (3, .int i)]) rfl (fun pT eT sT mT aT below meth cT AT QT C RT => ?_)
  have C : gX pT sT mT aT meth cT AT D ca ss 6 RX11 cX11_put (some .int) := C
  refine gj_iload_n C 1 dX11_put_0 rfl 1 rfl ?_
  refine gj_callSi C w_707 w_706 (c_X11_isTray k) mc_X11_isTray ⟨Nat.le_of_ble_eq_true rfl, Nat.le_of_ble_eq_true rfl⟩ (rest := []) rfl (Nat.le_of_ble_eq_true rfl) dX11_put_1 (fun r u h => ?_)
  obtain ⟨hr_, h⟩ := h; rw [hr_]
  rw [h]
  refine gj_if_eq C 16 dX11_put_4 (by decide) (fun c_1 => ?_) (fun c_1 => absurd hk c_1)
  refine gj_bipush C (v := (-2)) (by decide) dX11_put_16 ?_
  exact RT _ _ _ _ ⟨rfl, rfl⟩ dX11_put_18
set_option maxHeartbeats 400000 in
set_option maxRecDepth 100000 in
theorem c_forkB1 {l : Launch} {D : va_G} {ca ss ad : Nat → Nat} {f : Nat → va_E} (k b : Int32) (hk : s_X11_isTray k = 0) : gMi l D ca ss ad 108 yX11_fork cX11_fork 3 (some .int) 2 f [.ref (ad 0), .int k, .int b] (fun r u => r = -2 ∧ u = f) := by
  refine gMi_ofK (by decide +kernel) (Nat.le_of_ble_eq_true rfl) (lv0 := [(0, .ref (ad 0)), (1, .int k), (2, .int b)]) rfl (fun pT eT sT mT aT below meth cT AT QT C RT => ?_)
  have C : gX pT sT mT aT meth cT AT D ca ss 3 RX11 cX11_fork (some .int) := C
  refine gj_iload_n C 1 dX11_fork_0 rfl 1 rfl ?_
  refine gj_callSi C w_707 w_706 (c_X11_isTray k) mc_X11_isTray ⟨Nat.le_of_ble_eq_true rfl, Nat.le_of_ble_eq_true rfl⟩ (rest := []) rfl (Nat.le_of_ble_eq_true rfl) dX11_fork_1 (fun r u h => ?_)
  obtain ⟨hr_, h⟩ := h; rw [hr_]
  rw [h]
  refine gj_if_eq C 14 dX11_fork_4 (by decide) (fun c_1 => ?_) (fun c_1 => absurd hk c_1)
  refine gj_bipush C (v := (-2)) (by decide) dX11_fork_14 ?_
  exact RT _ _ _ _ ⟨rfl, rfl⟩ dX11_fork_16
set_option maxHeartbeats 400000 in
set_option maxRecDepth 100000 in
theorem c_forkB2 {l : Launch} {D : va_G} {ca ss ad : Nat → Nat} {f : Nat → va_E} (a k : Int32) (ha : ¬ s_X11_isTray a = 0) (hk : s_X11_isTray k = 0) : gMi l D ca ss ad 108 yX11_fork cX11_fork 3 (some .int) 2 f [.ref (ad 0), .int a, .int k] (fun r u => r = -2 ∧ u = f) := by
  refine gMi_ofK (by decide +kernel) (Nat.le_of_ble_eq_true rfl) (lv0 := [(0, .ref (ad 0)), (1, .int a), (2, .int k)]) rfl (fun pT eT sT mT aT below meth cT AT QT C RT => ?_)
  have C : gX pT sT mT aT meth cT AT D ca ss 3 RX11 cX11_fork (some .int) := C
  refine gj_iload_n C 1 dX11_fork_0 rfl 1 rfl ?_
  refine gj_callSi C w_707 w_706 (c_X11_isTray a) mc_X11_isTray ⟨Nat.le_of_ble_eq_true rfl, Nat.le_of_ble_eq_true rfl⟩ (rest := []) rfl (Nat.le_of_ble_eq_true rfl) dX11_fork_1 (fun r u h => ?_)
  obtain ⟨hr_, h⟩ := h; rw [hr_]
  rw [h]
  refine gj_if_eq C 14 dX11_fork_4 (by decide) (fun c_1 => absurd c_1 ha) (fun c_1 => ?_)
  refine gj_iload_n C 2 dX11_fork_7 rfl 2 rfl ?_
  refine gj_callSi C w_707 w_706 (c_X11_isTray k) mc_X11_isTray ⟨Nat.le_of_ble_eq_true rfl, Nat.le_of_ble_eq_true rfl⟩ (rest := []) rfl (Nat.le_of_ble_eq_true rfl) dX11_fork_8 (fun r u h => ?_)
  obtain ⟨hr_, h⟩ := h; rw [hr_]
  rw [h]
  refine gj_if_ne C 17 dX11_fork_11 (by decide) (fun c_2 => absurd hk c_2) (fun c_2 => ?_)
  refine gj_bipush C (v := (-2)) (by decide) dX11_fork_14 ?_
  exact RT _ _ _ _ ⟨rfl, rfl⟩ dX11_fork_16
set_option maxHeartbeats 400000 in
set_option maxRecDepth 100000 in
theorem c_putK {l : Launch} {D : va_G} {ca ss ad : Nat → Nat} {f : Nat → va_E} (tN : Nat) (k i : Int32) (htN : tN < 4) (la : Int32) (hc0 : f 0 = .inr (10, [.ref (ad 1), .ref (ad 69), .ref (ad 70), .int la])) (hk : s_X11_isKind k = 0) : gMi l D ca ss ad 108 yX11_put cX11_put 6 (some .int) 2 f [.ref (ad 0), .int (nI tN), .int k, .int i] (fun r u => r = -2 ∧ u = f) := by
  refine gMi_ofK (by decide +kernel) (Nat.le_of_ble_eq_true rfl) (lv0 := [(0, .ref (ad 0)), (1, .int (nI tN)), (2, .int k), (3, .int i)]) rfl (fun pT eT sT mT aT below meth cT AT QT C RT => ?_)
  have C : gX pT sT mT aT meth cT AT D ca ss 6 RX11 cX11_put (some .int) := C
  refine gj_iload_n C 1 dX11_put_0 rfl 1 rfl ?_
  refine gj_callSi C w_707 w_706 (c_X11_isTray (nI tN)) mc_X11_isTray ⟨Nat.le_of_ble_eq_true rfl, Nat.le_of_ble_eq_true rfl⟩ (rest := []) rfl (Nat.le_of_ble_eq_true rfl) dX11_put_1 (fun r u h => ?_)
  obtain ⟨hr_, h⟩ := h; rw [hr_]
  rw [h]
  refine gj_if_eq C 16 dX11_put_4 (by decide) (fun c_1 => absurd c_1 (isTray_y htN)) (fun c_1 => ?_)
  refine gj_aload_n C 0 dX11_put_7 rfl 0 rfl ?_
  refine gj_iload_n C 2 dX11_put_8 rfl 2 rfl ?_
  refine gj_iload_n C 3 dX11_put_9 rfl 3 rfl ?_
  refine gj_callVi C mi_X11_isOne w_416 0 (by decide) hc0 rfl (c_isOneB k i la hc0 hk) mc_X11_isOne ⟨Nat.le_of_ble_eq_true rfl, Nat.le_of_ble_eq_true rfl⟩ (rest := []) rfl (Nat.le_of_ble_eq_true rfl) dX11_put_10 (fun r u h => ?_)
  obtain ⟨hr_, h⟩ := h; rw [hr_]
  rw [h]
  refine gj_if_ne C 19 dX11_put_13 (by decide) (fun c_2 => absurd (by decide) c_2) (fun c_2 => ?_)
  refine gj_bipush C (v := (-2)) (by decide) dX11_put_16 ?_
  exact RT _ _ _ _ ⟨rfl, rfl⟩ dX11_put_18
