/-! THE SHEETS OF THE CLASS -/
def cSh (ca ad : Nat → Nat) (fm ln : Nat → Int32) (sG : Nat → Nat → Int32) (u : Nat → va_E) : Prop := u 70 = .inl (ca 3, 4, .inr (.inr (.inr (.inr (q2 ad 79))))) ∧ ∀ t, t < 4 → (0 ≤ (ln t).toInt ∧ (ln t).toInt ≤ 60) ∧ u (79 + 2 * t) = .inr (5, [.ref (ad (80 + 2 * t)), .int (fm t), .int (ln t)]) ∧ u (80 + 2 * t) = .inl (ca 0, 60, .inl (sG t))
theorem cSh_c {ca ad : Nat → Nat} {fm ln : Nat → Int32} {sG : Nat → Nat → Int32} {f u : Nat → va_E} (hT : cSh ca ad fm ln sG f) (h : ∀ k, k = 70 ∨ (79 ≤ k ∧ k < 87) → u k = f k) : cSh ca ad fm ln sG u := by
  obtain ⟨h1, h2⟩ := hT
  refine ⟨(h 70 (by decide)).trans h1, fun t ht => ?_⟩
  obtain ⟨c, d, e⟩ := h2 t ht
  exact ⟨c, (h _ (by omega)).trans d, (h _ (by omega)).trans e⟩
theorem cSh_new {ca ad : Nat → Nat} {fm ln : Nat → Int32} {sG : Nat → Nat → Int32} {f u : Nat → va_E} {a z : Int32} {g : Nat → Int32} {t0 : Nat} (ht : t0 < 4) (hT : cSh ca ad fm ln sG f) (hu : ∀ k, k ≠ 79 + 2 * t0 → k ≠ 80 + 2 * t0 → u k = f k) (h1 : u (79 + 2 * t0) = .inr (5, [.ref (ad (80 + 2 * t0)), .int a, .int z])) (h2 : u (80 + 2 * t0) = .inl (ca 0, 60, .inl g)) (hz : 0 ≤ z.toInt ∧ z.toInt ≤ 60) : cSh ca ad (upd fm t0 a) (upd ln t0 z) (updT sG t0 g) u := by
  obtain ⟨q1, q2⟩ := hT
  refine ⟨(hu 70 (by omega) (by omega)).trans q1, fun t h => ?_⟩
  by_cases e : t = t0
  · subst e
    rw [pk_us, pk_us, updT_s]
    exact ⟨hz, h1, h2⟩
  · obtain ⟨x3, x4, x5⟩ := q2 t h
    rw [pk_un e, pk_un e, updT_n _ _ e]
    exact ⟨x3, (hu _ (by omega) (by omega)).trans x4, (hu _ (by omega) (by omega)).trans x5⟩
theorem cut60 {n : Int32} (h0 : 0 ≤ n) (h1 : n ≤ 60) : (if 0 < (if n < 60 then n else 60) then (if n < 60 then n else 60) else 0) = n := by
  rw [i32_le] at h0 h1
  have e0 : (0 : Int32).toInt = 0 := rfl
  have e6 : (60 : Int32).toInt = 60 := rfl
  by_cases a : n < 60
  · rw [if_pos a]
    by_cases b : 0 < n
    · rw [if_pos b]
    · rw [if_neg b]
      rw [i32_lt] at b
      rw [i32_eq]; omega
  · rw [if_neg a, if_pos (by decide)]
    rw [i32_lt] at a
    rw [i32_eq]; omega
theorem b060 {n : Int32} (h0 : 0 ≤ n) (h1 : n ≤ 60) : 0 ≤ n.toInt ∧ n.toInt ≤ 60 := by
  rw [i32_le] at h0 h1
  have e0 : (0 : Int32).toInt = 0 := rfl
  have e6 : (60 : Int32).toInt = 60 := rfl
  omega
theorem fault0 {q x fm ln : Int32} (h : s_X5_faultOf q x fm ln = 0) : ¬ x < 0 ∧ ¬ ln ≤ x := by
  unfold s_X5_faultOf at h
  by_cases a : s_X5_isLost fm = 0
  · rw [if_pos a] at h
    by_cases b : fm = q
    · rw [if_pos b] at h
      by_cases c : x < 0
      · rw [if_pos c] at h; exact absurd h (by decide)
      · rw [if_neg c] at h
        by_cases d : x < ln
        · exact ⟨c, fun q => by rw [i32_le] at q; rw [i32_lt] at d; omega⟩
        · rw [if_neg d] at h; exact absurd h (by decide)
    · rw [if_neg b] at h; exact absurd h (by decide)
  · rw [if_neg a] at h; exact absurd h (by decide)

def s_share (i j sz : Int32) (g : Nat → Int32) : Int32 := if s_X10_has i sz = 0 then -2147483648 else if s_X10_has j sz = 0 then -2147483648 else cFlo (s_X10_product i j sz g) (s_X10_product i i sz g)
def trOkC (sz : Int32) (g : Nat → Int32) : Prop := ∀ i j, ¬ s_X10_has i sz = 0 → ¬ s_X10_has j sz = 0 → -30000 ≤ (s_X10_product i j sz g).toInt ∧ ¬ s_X10_product i i sz g < 0 ∧ qA (s_X10_product i j sz g) ≤ 30000 ∧ 1 ≤ qA (s_X10_product i i sz g) ∧ qA (s_X10_product i i sz g) ≤ 30000
set_option maxHeartbeats 400000 in
set_option maxRecDepth 100000 in
theorem c_share {l : Launch} {D : va_G} {ca ss ad : Nat → Nat} {f : Nat → va_E} (tN : Nat) (i j : Int32) (htN : tN < 4) (la : Int32) (tS tP tZ : Nat → Int32) (tG : Nat → Nat → Int32) (hc0 : f 0 = .inr (10, [.ref (ad 1), .ref (ad 69), .ref (ad 70), .int la])) (hT : cTr ca ad tS tP tZ tG f) (hq : trOkC (tZ tN) (tG tN)) : gMi l D ca ss ad 108 yX11_share cX11_share 4 (some .int) 3 f [.ref (ad 0), .int (nI tN), .int i, .int j] (fun r u => r = s_share i j (tZ tN) (tG tN) ∧ u = f) := by
  refine gMi_ofK (by decide +kernel) (Nat.le_of_ble_eq_true rfl) (lv0 := [(0, .ref (ad 0)), (1, .int (nI tN)), (2, .int i), (3, .int j)]) rfl (fun pT eT sT mT aT below meth cT AT QT C RT => ?_)
  have C : gX pT sT mT aT meth cT AT D ca ss 4 RX11 cX11_share (some .int) := C
  obtain ⟨hts, htp, htz, hto, htg⟩ := hT.2 tN (by omega)
  refine gj_iload_n C 1 dX11_share_0 rfl 1 rfl ?_
  refine gj_callSi C w_707 w_706 (c_X11_isTray (nI tN)) mc_X11_isTray ⟨Nat.le_of_ble_eq_true rfl, Nat.le_of_ble_eq_true rfl⟩ (rest := []) rfl (Nat.le_of_ble_eq_true rfl) dX11_share_1 (fun r u h => ?_)
  obtain ⟨hr_, h⟩ := h; rw [hr_]
  rw [h]
  refine gj_if_eq C 33 dX11_share_4 (by decide) (fun c_1 => absurd c_1 (isTray_y htN)) (fun c_1 => ?_)
  refine gj_aload_n C 0 dX11_share_7 rfl 0 rfl ?_
  refine gj_get C 0 (by decide) hc0 inX11 rfl 1 (by decide) w_358 (v := .ref (ad 69)) rfl dX11_share_8 ?_
  refine gj_iload_n C 1 dX11_share_11 rfl 1 rfl ?_
  refine gj_aldq C 4 69 (by decide) hT.1 rfl (vp_in_nI (by omega) (by omega)) (a := ad (71 + 2 * tN)) (q2_n ad 71 (by omega)) dX11_share_12 ?_
  refine gj_iload_n C 2 dX11_share_13 rfl 2 rfl ?_
  refine gj_callVi C mi_X10_has w_736 (71 + 2 * tN) (by omega) hto rfl (c_X10_has (71 + 2 * tN) (72 + 2 * tN) i (tS tN) (tP tN) (tZ tN) (tG tN) hto htg (by omega) (by omega) (by omega)) mc_X10_has ⟨Nat.le_of_ble_eq_true rfl, Nat.le_of_ble_eq_true rfl⟩ (rest := []) rfl (Nat.le_of_ble_eq_true rfl) dX11_share_14 (fun r u h => ?_)
  obtain ⟨hr_, h⟩ := h; rw [hr_]
  rw [h]
  refine gj_if_eq C 33 dX11_share_17 (by decide) (fun c_2 => ?_) (fun c_2 => ?_)
  · refine gj_ldc C (v := (-2147483648)) w_424 dX11_share_33 ?_
    exact RT _ _ _ _ ⟨(by unfold s_share; rw [if_pos c_2]), rfl⟩ dX11_share_35
  · refine gj_aload_n C 0 dX11_share_20 rfl 0 rfl ?_
    refine gj_get C 0 (by decide) hc0 inX11 rfl 1 (by decide) w_358 (v := .ref (ad 69)) rfl dX11_share_21 ?_
    refine gj_iload_n C 1 dX11_share_24 rfl 1 rfl ?_
    refine gj_aldq C 4 69 (by decide) hT.1 rfl (vp_in_nI (by omega) (by omega)) (a := ad (71 + 2 * tN)) (q2_n ad 71 (by omega)) dX11_share_25 ?_
    refine gj_iload_n C 3 dX11_share_26 rfl 3 rfl ?_
    refine gj_callVi C mi_X10_has w_736 (71 + 2 * tN) (by omega) hto rfl (c_X10_has (71 + 2 * tN) (72 + 2 * tN) j (tS tN) (tP tN) (tZ tN) (tG tN) hto htg (by omega) (by omega) (by omega)) mc_X10_has ⟨Nat.le_of_ble_eq_true rfl, Nat.le_of_ble_eq_true rfl⟩ (rest := []) rfl (Nat.le_of_ble_eq_true rfl) dX11_share_27 (fun r u h => ?_)
    obtain ⟨hr_, h⟩ := h; rw [hr_]
    rw [h]
    refine gj_if_ne C 36 dX11_share_30 (by decide) (fun c_3 => ?_) (fun c_3 => ?_)
    · refine gj_aload_n C 0 dX11_share_36 rfl 0 rfl ?_
      refine gj_get C 0 (by decide) hc0 inX11 rfl 1 (by decide) w_358 (v := .ref (ad 69)) rfl dX11_share_37 ?_
      refine gj_iload_n C 1 dX11_share_40 rfl 1 rfl ?_
      refine gj_aldq C 4 69 (by decide) hT.1 rfl (vp_in_nI (by omega) (by omega)) (a := ad (71 + 2 * tN)) (q2_n ad 71 (by omega)) dX11_share_41 ?_
      refine gj_iload_n C 2 dX11_share_42 rfl 2 rfl ?_
      refine gj_iload_n C 3 dX11_share_43 rfl 3 rfl ?_
      refine gj_callVi C mi_X10_product w_750 (71 + 2 * tN) (by omega) hto rfl (c_X10_product (71 + 2 * tN) (72 + 2 * tN) i j (tS tN) (tP tN) (tZ tN) (tG tN) hto htg (by omega) (by omega) (by omega) htz) mc_X10_product ⟨Nat.le_of_ble_eq_true rfl, Nat.le_of_ble_eq_true rfl⟩ (rest := []) rfl (Nat.le_of_ble_eq_true rfl) dX11_share_44 (fun r u h => ?_)
      obtain ⟨hr_, h⟩ := h; rw [hr_]
      rw [h]
      refine gj_aload_n C 0 dX11_share_47 rfl 0 rfl ?_
      refine gj_get C 0 (by decide) hc0 inX11 rfl 1 (by decide) w_358 (v := .ref (ad 69)) rfl dX11_share_48 ?_
      refine gj_iload_n C 1 dX11_share_51 rfl 1 rfl ?_
      refine gj_aldq C 4 69 (by decide) hT.1 rfl (vp_in_nI (by omega) (by omega)) (a := ad (71 + 2 * tN)) (q2_n ad 71 (by omega)) dX11_share_52 ?_
      refine gj_iload_n C 2 dX11_share_53 rfl 2 rfl ?_
      refine gj_iload_n C 2 dX11_share_54 rfl 2 rfl ?_
      refine gj_callVi C mi_X10_product w_750 (71 + 2 * tN) (by omega) hto rfl (c_X10_product (71 + 2 * tN) (72 + 2 * tN) i i (tS tN) (tP tN) (tZ tN) (tG tN) hto htg (by omega) (by omega) (by omega) htz) mc_X10_product ⟨Nat.le_of_ble_eq_true rfl, Nat.le_of_ble_eq_true rfl⟩ (rest := [.int (s_X10_product i j (tZ tN) (tG tN))]) rfl (Nat.le_of_ble_eq_true rfl) dX11_share_55 (fun r u h => ?_)
      obtain ⟨hr_, h⟩ := h; rw [hr_]
      rw [h]
      refine gj_callSi C w_756 w_755 (c_X11_floatBits (s_X10_product i j (tZ tN) (tG tN)) (s_X10_product i i (tZ tN) (tG tN)) (hq i j c_2 c_3).1 (hq i j c_2 c_3).2.1 (hq i j c_2 c_3).2.2.1 (hq i j c_2 c_3).2.2.2.1 (hq i j c_2 c_3).2.2.2.2) mc_X11_floatBits ⟨Nat.le_of_ble_eq_true rfl, Nat.le_of_ble_eq_true rfl⟩ (rest := []) rfl (Nat.le_of_ble_eq_true rfl) dX11_share_58 (fun r u h => ?_)
      obtain ⟨hr_, h⟩ := h; rw [hr_]
      rw [h]
      exact RT _ _ _ _ ⟨(by unfold s_share; rw [if_neg c_2, if_neg c_3]), rfl⟩ dX11_share_61
    · refine gj_ldc C (v := (-2147483648)) w_424 dX11_share_33 ?_
      exact RT _ _ _ _ ⟨(by unfold s_share; rw [if_neg c_2, if_pos c_3]), rfl⟩ dX11_share_35
set_option maxHeartbeats 400000 in
set_option maxRecDepth 100000 in
theorem c_shareB {l : Launch} {D : va_G} {ca ss ad : Nat → Nat} {f : Nat → va_E} (k i j : Int32) (hk : s_X11_isTray k = 0) : gMi l D ca ss ad 108 yX11_share cX11_share 4 (some .int) 3 f [.ref (ad 0), .int k, .int i, .int j] (fun r u => r = -2147483648 ∧ u = f) := by
  refine gMi_ofK (by decide +kernel) (Nat.le_of_ble_eq_true rfl) (lv0 := [(0, .ref (ad 0)), (1, .int k), (2, .int i), (3, .int j)]) rfl (fun pT eT sT mT aT below meth cT AT QT C RT => ?_)
  have C : gX pT sT mT aT meth cT AT D ca ss 4 RX11 cX11_share (some .int) := C
  refine gj_iload_n C 1 dX11_share_0 rfl 1 rfl ?_
  refine gj_callSi C w_707 w_706 (c_X11_isTray k) mc_X11_isTray ⟨Nat.le_of_ble_eq_true rfl, Nat.le_of_ble_eq_true rfl⟩ (rest := []) rfl (Nat.le_of_ble_eq_true rfl) dX11_share_1 (fun r u h => ?_)
  obtain ⟨hr_, h⟩ := h; rw [hr_]
  rw [h]
  refine gj_if_eq C 33 dX11_share_4 (by decide) (fun c_1 => ?_) (fun c_1 => absurd hk c_1)
  refine gj_ldc C (v := (-2147483648)) w_424 dX11_share_33 ?_
  exact RT _ _ _ _ ⟨rfl, rfl⟩ dX11_share_35
set_option maxHeartbeats 400000 in
set_option maxRecDepth 100000 in
theorem c_takeRun {l : Launch} {D : va_G} {ca ss ad : Nat → Nat} {f : Nat → va_E} (i j d e : Nat) (x y n fm0 ln0 fm1 ln1 : Int32) (g0 g1 : Nat → Int32) (hci : f i = .inr (5, [.ref (ad j), .int fm0, .int ln0])) (hcj : f j = .inl (ca 0, 60, .inl g0)) (hcd : f d = .inr (5, [.ref (ad e), .int fm1, .int ln1])) (hce : f e = .inl (ca 0, 60, .inl g1)) (hi : i < 108) (hj : j < 108) (hd : d < 108) (he : e < 108) (hij : i ≠ j) (hid : i ≠ d) (hie : i ≠ e) (hjd : j ≠ d) (hje : j ≠ e) (hde : d ≠ e) (hl0 : 0 ≤ ln0.toInt ∧ ln0.toInt ≤ 60) (hl1 : 0 ≤ ln1.toInt ∧ ln1.toInt ≤ 60) (hr1 : ¬ s_X5_hasRun x n ln1 = 0) (hr0 : ¬ s_X5_hasRun y n ln0 = 0) : gMv l D ca ss ad 108 yX5_takeRun cX5_takeRun 5 none 1 f [.ref (ad i), .ref (ad d), .int x, .int y, .int n] (fun u => u = va_up f j (.inl (ca 0, 60, .inl (va_cpy g1 g0 x.toNatClampNeg y.toNatClampNeg n.toNatClampNeg)))) := by
  refine gMv_ofK (by decide +kernel) (Nat.le_of_ble_eq_true rfl) (lv0 := [(0, .ref (ad i)), (1, .ref (ad d)), (2, .int x), (3, .int y), (4, .int n)]) rfl (fun pT eT sT mT aT below meth cT AT QT C RT => ?_)
  have C : gX pT sT mT aT meth cT AT D ca ss 5 RX5 cX5_takeRun none := C
  refine gj_aload_n C 1 dX5_takeRun_0 rfl 1 rfl ?_
  refine gj_iload_n C 2 dX5_takeRun_1 rfl 2 rfl ?_
  refine gj_iload C dX5_takeRun_2 4 rfl ?_
  refine gj_callVi C mi_X5_hasRun w_808 d hd hcd rfl (c_X5_hasRun d e x n fm1 ln1 g1 hcd hce (by assumption) (by assumption) (by assumption)) mc_X5_hasRun ⟨Nat.le_of_ble_eq_true rfl, Nat.le_of_ble_eq_true rfl⟩ (rest := []) rfl (Nat.le_of_ble_eq_true rfl) dX5_takeRun_4 (fun r u h => ?_)
  obtain ⟨hr_, h⟩ := h; rw [hr_]
  rw [h]
  refine gj_if_eq C 35 dX5_takeRun_7 (by decide) (fun c_1 => absurd c_1 hr1) (fun c_1 => ?_)
  refine gj_aload_n C 0 dX5_takeRun_10 rfl 0 rfl ?_
  refine gj_iload_n C 3 dX5_takeRun_11 rfl 3 rfl ?_
  refine gj_iload C dX5_takeRun_12 4 rfl ?_
  refine gj_callVi C mi_X5_hasRun w_808 i hi hci rfl (c_X5_hasRun i j y n fm0 ln0 g0 hci hcj (by assumption) (by assumption) (by assumption)) mc_X5_hasRun ⟨Nat.le_of_ble_eq_true rfl, Nat.le_of_ble_eq_true rfl⟩ (rest := []) rfl (Nat.le_of_ble_eq_true rfl) dX5_takeRun_14 (fun r u h => ?_)
  obtain ⟨hr_, h⟩ := h; rw [hr_]
  rw [h]
  refine gj_if_eq C 35 dX5_takeRun_17 (by decide) (fun c_2 => absurd c_2 hr0) (fun c_2 => ?_)
  refine gj_aload_n C 1 dX5_takeRun_20 rfl 1 rfl ?_
  refine gj_get C d hd hcd inX5 rfl 0 (by decide) w_346 (v := .ref (ad e)) rfl dX5_takeRun_21 ?_
  refine gj_iload_n C 2 dX5_takeRun_24 rfl 2 rfl ?_
  refine gj_aload_n C 0 dX5_takeRun_25 rfl 0 rfl ?_
  refine gj_get C i hi hci inX5 rfl 0 (by decide) w_346 (v := .ref (ad j)) rfl dX5_takeRun_26 ?_
  refine gj_iload_n C 3 dX5_takeRun_29 rfl 3 rfl ?_
  refine gj_iload C dX5_takeRun_30 4 rfl ?_
  refine gj_copyi C e j he hj hce hcj (hrun hl1 hr1).1 (hrun hl0 hr0).1 (hrun hl1 hr1).2.1 (hrun hl1 hr1).2.2 (hrun hl0 hr0).2.2 w_809 w_727 w_726 w_69 ⟨Nat.le_of_ble_eq_true rfl, Nat.le_of_ble_eq_true rfl⟩ (Nat.le_of_ble_eq_true rfl) dX5_takeRun_32 ?_
  exact RT _ _ _ rfl dX5_takeRun_35
set_option maxHeartbeats 400000 in
set_option maxRecDepth 100000 in
theorem c_takeRunS {l : Launch} {D : va_G} {ca ss ad : Nat → Nat} {f : Nat → va_E} (i j : Nat) (x y n fm0 ln0 : Int32) (g0 : Nat → Int32) (hci : f i = .inr (5, [.ref (ad j), .int fm0, .int ln0])) (hcj : f j = .inl (ca 0, 60, .inl g0)) (hi : i < 108) (hj : j < 108) (hij : i ≠ j) (hl0 : 0 ≤ ln0.toInt ∧ ln0.toInt ≤ 60) (hr1 : ¬ s_X5_hasRun x n ln0 = 0) (hr0 : ¬ s_X5_hasRun y n ln0 = 0) : gMv l D ca ss ad 108 yX5_takeRun cX5_takeRun 5 none 1 f [.ref (ad i), .ref (ad i), .int x, .int y, .int n] (fun u => u = va_up f j (.inl (ca 0, 60, .inl (va_cpy g0 g0 x.toNatClampNeg y.toNatClampNeg n.toNatClampNeg)))) := by
  refine gMv_ofK (by decide +kernel) (Nat.le_of_ble_eq_true rfl) (lv0 := [(0, .ref (ad i)), (1, .ref (ad i)), (2, .int x), (3, .int y), (4, .int n)]) rfl (fun pT eT sT mT aT below meth cT AT QT C RT => ?_)
  have C : gX pT sT mT aT meth cT AT D ca ss 5 RX5 cX5_takeRun none := C
  refine gj_aload_n C 1 dX5_takeRun_0 rfl 1 rfl ?_
  refine gj_iload_n C 2 dX5_takeRun_1 rfl 2 rfl ?_
  refine gj_iload C dX5_takeRun_2 4 rfl ?_
  refine gj_callVi C mi_X5_hasRun w_808 i hi hci rfl (c_X5_hasRun i j x n fm0 ln0 g0 hci hcj (by assumption) (by assumption) (by assumption)) mc_X5_hasRun ⟨Nat.le_of_ble_eq_true rfl, Nat.le_of_ble_eq_true rfl⟩ (rest := []) rfl (Nat.le_of_ble_eq_true rfl) dX5_takeRun_4 (fun r u h => ?_)
  obtain ⟨hr_, h⟩ := h; rw [hr_]
  rw [h]
  refine gj_if_eq C 35 dX5_takeRun_7 (by decide) (fun c_1 => absurd c_1 hr1) (fun c_1 => ?_)
  refine gj_aload_n C 0 dX5_takeRun_10 rfl 0 rfl ?_
  refine gj_iload_n C 3 dX5_takeRun_11 rfl 3 rfl ?_
  refine gj_iload C dX5_takeRun_12 4 rfl ?_
  refine gj_callVi C mi_X5_hasRun w_808 i hi hci rfl (c_X5_hasRun i j y n fm0 ln0 g0 hci hcj (by assumption) (by assumption) (by assumption)) mc_X5_hasRun ⟨Nat.le_of_ble_eq_true rfl, Nat.le_of_ble_eq_true rfl⟩ (rest := []) rfl (Nat.le_of_ble_eq_true rfl) dX5_takeRun_14 (fun r u h => ?_)
  obtain ⟨hr_, h⟩ := h; rw [hr_]
  rw [h]
  refine gj_if_eq C 35 dX5_takeRun_17 (by decide) (fun c_2 => absurd c_2 hr0) (fun c_2 => ?_)
  refine gj_aload_n C 1 dX5_takeRun_20 rfl 1 rfl ?_
  refine gj_get C i hi hci inX5 rfl 0 (by decide) w_346 (v := .ref (ad j)) rfl dX5_takeRun_21 ?_
  refine gj_iload_n C 2 dX5_takeRun_24 rfl 2 rfl ?_
  refine gj_aload_n C 0 dX5_takeRun_25 rfl 0 rfl ?_
  refine gj_get C i hi hci inX5 rfl 0 (by decide) w_346 (v := .ref (ad j)) rfl dX5_takeRun_26 ?_
  refine gj_iload_n C 3 dX5_takeRun_29 rfl 3 rfl ?_
  refine gj_iload C dX5_takeRun_30 4 rfl ?_
  refine gj_copyi C j j hj hj hcj hcj (hrun hl0 hr1).1 (hrun hl0 hr0).1 (hrun hl0 hr1).2.1 (hrun hl0 hr1).2.2 (hrun hl0 hr0).2.2 w_809 w_727 w_726 w_69 ⟨Nat.le_of_ble_eq_true rfl, Nat.le_of_ble_eq_true rfl⟩ (Nat.le_of_ble_eq_true rfl) dX5_takeRun_32 ?_
  exact RT _ _ _ rfl dX5_takeRun_35
set_option maxHeartbeats 400000 in
set_option maxRecDepth 100000 in
theorem c_sheet {l : Launch} {D : va_G} {ca ss ad : Nat → Nat} {f : Nat → va_E} (sN : Nat) (q n : Int32) (hsN : sN < 4) (la : Int32) (fm ln : Nat → Int32) (sG : Nat → Nat → Int32) (hc0 : f 0 = .inr (10, [.ref (ad 1), .ref (ad 69), .ref (ad 70), .int la])) (hS : cSh ca ad fm ln sG f) : gMi l D ca ss ad 108 yX11_sheet cX11_sheet 4 (some .int) 2 f [.ref (ad 0), .int (nI sN), .int q, .int n] (fun r u => if s_X11_isForm q = 0 then (r = -2 ∧ u = f) else if n ≤ 60 then (if 0 ≤ n then (r = n ∧ cSh ca ad (upd fm sN q) (upd ln sN n) (updT sG sN (kI 0)) u ∧ ∀ k, ¬ (79 ≤ k ∧ k < 87) → u k = f k) else (r = -15 ∧ u = va_up f 0 (.inr (10, [.ref (ad 1), .ref (ad 69), .ref (ad 70), .int 5])))) else (r = -2 ∧ u = f)) := by
  refine gMi_ofK (by decide +kernel) (Nat.le_of_ble_eq_true rfl) (lv0 := [(0, .ref (ad 0)), (1, .int (nI sN)), (2, .int q), (3, .int n)]) rfl (fun pT eT sT mT aT below meth cT AT QT C RT => ?_)
  have C : gX pT sT mT aT meth cT AT D ca ss 4 RX11 cX11_sheet (some .int) := C
  obtain ⟨hsz, hso, hsg⟩ := hS.2 sN (by omega)
  refine gj_iload_n C 1 dX11_sheet_0 rfl 1 rfl ?_
  refine gj_callSi C w_436 w_435 (c_X11_isSheet (nI sN)) mc_X11_isSheet ⟨Nat.le_of_ble_eq_true rfl, Nat.le_of_ble_eq_true rfl⟩ (rest := []) rfl (Nat.le_of_ble_eq_true rfl) dX11_sheet_1 (fun r u h => ?_)
  obtain ⟨hr_, h⟩ := h; rw [hr_]
  rw [h]
  refine gj_if_eq C 20 dX11_sheet_4 (by decide) (fun c_1 => absurd c_1 (isSheet_y hsN)) (fun c_1 => ?_)
  refine gj_iload_n C 2 dX11_sheet_7 rfl 2 rfl ?_
  refine gj_callSi C w_766 w_765 (c_X11_isForm q) mc_X11_isForm ⟨Nat.le_of_ble_eq_true rfl, Nat.le_of_ble_eq_true rfl⟩ (rest := []) rfl (Nat.le_of_ble_eq_true rfl) dX11_sheet_8 (fun r u h => ?_)
  obtain ⟨hr_, h⟩ := h; rw [hr_]
  rw [h]
  refine gj_if_eq C 20 dX11_sheet_11 (by decide) (fun c_2 => ?_) (fun c_2 => ?_)
  · refine gj_bipush C (v := (-2)) (by decide) dX11_sheet_20 ?_
    exact RT _ _ _ _ (by rw [if_pos c_2]; exact ⟨rfl, rfl⟩) dX11_sheet_22
  · refine gj_iload_n C 3 dX11_sheet_14 rfl 3 rfl ?_
    refine gj_bipush C (v := 60) (by decide) dX11_sheet_15 ?_
    refine gj_icmp_le C 23 dX11_sheet_17 (by decide) (fun c_3 => ?_) (fun c_3 => ?_)
    · refine gj_iload_n C 3 dX11_sheet_23 rfl 3 rfl ?_
      refine gj_if_ge C 33 dX11_sheet_24 (by decide) (fun c_4 => ?_) (fun c_4 => ?_)
      · refine gj_aload_n C 0 dX11_sheet_33 rfl 0 rfl ?_
        refine gj_get C 0 (by decide) hc0 inX11 rfl 2 (by decide) w_359 (v := .ref (ad 70)) rfl dX11_sheet_34 ?_
        refine gj_iload_n C 1 dX11_sheet_37 rfl 1 rfl ?_
        refine gj_aldq C 3 70 (by decide) hS.1 rfl (vp_in_nI (by omega) (by omega)) (a := ad (79 + 2 * sN)) (q2_n ad 79 (by omega)) dX11_sheet_38 ?_
        refine gj_iload_n C 2 dX11_sheet_39 rfl 2 rfl ?_
        refine gj_iload_n C 3 dX11_sheet_40 rfl 3 rfl ?_
        refine gj_callVv C mi_X5_renew w_768 (79 + 2 * sN) (by omega) hso rfl (c_X5_renew (79 + 2 * sN) (80 + 2 * sN) q n (fm sN) (ln sN) (sG sN) hso hsg (by omega) (by omega) (by omega)) mc_X5_renew ⟨Nat.le_of_ble_eq_true rfl, Nat.le_of_ble_eq_true rfl⟩ (rest := []) rfl (Nat.le_of_ble_eq_true rfl) dX11_sheet_41 (fun u h => ?_)
        subst h
        refine gj_setf (g := va_up (va_up f (80 + 2 * sN) (.inl (ca 0, 60, .inl (kI (0 : Int32))))) (79 + 2 * sN) (.inr (5, [.ref (ad (80 + 2 * sN)), .int q, .int n]))) (by rw [cut60 c_4 c_3]) ?_
        refine gj_iload_n C 3 dX11_sheet_44 rfl 3 rfl ?_
        exact RT _ _ _ _ (by rw [if_neg c_2, if_pos c_3, if_pos c_4]; exact ⟨rfl, cSh_new (u := va_up (va_up f (80 + 2 * sN) (.inl (ca 0, 60, .inl (kI (0 : Int32))))) (79 + 2 * sN) (.inr (5, [.ref (ad (80 + 2 * sN)), .int q, .int n]))) hsN hS (fun k h1 h2 => up_nx (by omega) (up_nx (by omega) (rfl))) (va_up_self _ _ _) (up_nx (by omega) (va_up_self _ _ _)) (b060 c_4 c_3), fun k hk => up_nx (by omega) (up_nx (by omega) (rfl))⟩) dX11_sheet_45
      · refine gj_aload_n C 0 dX11_sheet_27 rfl 0 rfl ?_
        refine gj_iconst C (v := 5) (by decide) dX11_sheet_28 ?_
        refine gj_callVi C mi_X11_find w_442 0 (by decide) hc0 rfl (c_X11_find (5 : Int32) la hc0) mc_X11_find ⟨Nat.le_of_ble_eq_true rfl, Nat.le_of_ble_eq_true rfl⟩ (rest := []) rfl (Nat.le_of_ble_eq_true rfl) dX11_sheet_29 (fun r u h => ?_)
        obtain ⟨hr_, hu_⟩ := h; rw [hr_]; subst hu_
        refine gj_seti (y := (-15)) (by decide) ?_
        exact RT _ _ _ _ (by rw [if_neg c_2, if_pos c_3, if_neg c_4]; exact ⟨rfl, rfl⟩) dX11_sheet_32
    · refine gj_bipush C (v := (-2)) (by decide) dX11_sheet_20 ?_
      exact RT _ _ _ _ (by rw [if_neg c_2, if_neg c_3]; exact ⟨rfl, rfl⟩) dX11_sheet_22
set_option maxHeartbeats 400000 in
set_option maxRecDepth 100000 in
theorem c_lose {l : Launch} {D : va_G} {ca ss ad : Nat → Nat} {f : Nat → va_E} (sN : Nat) (hsN : sN < 4) (la : Int32) (fm ln : Nat → Int32) (sG : Nat → Nat → Int32) (hc0 : f 0 = .inr (10, [.ref (ad 1), .ref (ad 69), .ref (ad 70), .int la])) (hS : cSh ca ad fm ln sG f) : gMi l D ca ss ad 108 yX11_lose cX11_lose 3 (some .int) 2 f [.ref (ad 0), .int (nI sN)] (fun r u => if s_X5_isLost (fm sN) = 0 then (r = ln sN ∧ cSh ca ad (upd fm sN (-1)) (upd ln sN 0) (updT sG sN (kI 0)) u ∧ ∀ k, ¬ (79 ≤ k ∧ k < 87) → u k = f k) else (r = -11 ∧ u = va_up f 0 (.inr (10, [.ref (ad 1), .ref (ad 69), .ref (ad 70), .int 1])))) := by
  refine gMi_ofK (by decide +kernel) (Nat.le_of_ble_eq_true rfl) (lv0 := [(0, .ref (ad 0)), (1, .int (nI sN))]) rfl (fun pT eT sT mT aT below meth cT AT QT C RT => ?_)
  have C : gX pT sT mT aT meth cT AT D ca ss 3 RX11 cX11_lose (some .int) := C
  obtain ⟨hsz, hso, hsg⟩ := hS.2 sN (by omega)
  refine gj_iload_n C 1 dX11_lose_0 rfl 1 rfl ?_
  refine gj_callSi C w_436 w_435 (c_X11_isSheet (nI sN)) mc_X11_isSheet ⟨Nat.le_of_ble_eq_true rfl, Nat.le_of_ble_eq_true rfl⟩ (rest := []) rfl (Nat.le_of_ble_eq_true rfl) dX11_lose_1 (fun r u h => ?_)
  obtain ⟨hr_, h⟩ := h; rw [hr_]
  rw [h]
  refine gj_if_ne C 10 dX11_lose_4 (by decide) (fun c_1 => ?_) (fun c_1 => absurd c_1 (isSheet_y hsN))
  refine gj_aload_n C 0 dX11_lose_10 rfl 0 rfl ?_
  refine gj_get C 0 (by decide) hc0 inX11 rfl 2 (by decide) w_359 (v := .ref (ad 70)) rfl dX11_lose_11 ?_
  refine gj_iload_n C 1 dX11_lose_14 rfl 1 rfl ?_
  refine gj_aldq C 3 70 (by decide) hS.1 rfl (vp_in_nI (by omega) (by omega)) (a := ad (79 + 2 * sN)) (q2_n ad 79 (by omega)) dX11_lose_15 ?_
  refine gj_callVi C mi_X5_isLost w_438 (79 + 2 * sN) (by omega) hso rfl (c_X5_isLost (79 + 2 * sN) (80 + 2 * sN) (fm sN) (ln sN) (sG sN) hso hsg (by omega) (by omega) (by omega)) mc_X5_isLost ⟨Nat.le_of_ble_eq_true rfl, Nat.le_of_ble_eq_true rfl⟩ (rest := []) rfl (Nat.le_of_ble_eq_true rfl) dX11_lose_16 (fun r u h => ?_)
  obtain ⟨hr_, h⟩ := h; rw [hr_]
  rw [h]
  refine gj_if_eq C 28 dX11_lose_19 (by decide) (fun c_2 => ?_) (fun c_2 => ?_)
  · refine gj_aload_n C 0 dX11_lose_28 rfl 0 rfl ?_
    refine gj_get C 0 (by decide) hc0 inX11 rfl 2 (by decide) w_359 (v := .ref (ad 70)) rfl dX11_lose_29 ?_
    refine gj_iload_n C 1 dX11_lose_32 rfl 1 rfl ?_
    refine gj_aldq C 3 70 (by decide) hS.1 rfl (vp_in_nI (by omega) (by omega)) (a := ad (79 + 2 * sN)) (q2_n ad 79 (by omega)) dX11_lose_33 ?_
    refine gj_callVi C mi_X5_length w_446 (79 + 2 * sN) (by omega) hso rfl (c_X5_length (79 + 2 * sN) (80 + 2 * sN) (fm sN) (ln sN) (sG sN) hso hsg (by omega) (by omega) (by omega)) mc_X5_length ⟨Nat.le_of_ble_eq_true rfl, Nat.le_of_ble_eq_true rfl⟩ (rest := []) rfl (Nat.le_of_ble_eq_true rfl) dX11_lose_34 (fun r u h => ?_)
    obtain ⟨hr_, h⟩ := h; rw [hr_]
    rw [h]
    refine gj_istore_n C (lv' := [(2, .int (s_X5_length (ln sN))), (0, .ref (ad 0)), (1, .int (nI sN))]) 2 dX11_lose_37 rfl (by decide) rfl ?_
    refine gj_aload_n C 0 dX11_lose_38 rfl 1 rfl ?_
    refine gj_get C 0 (by decide) hc0 inX11 rfl 2 (by decide) w_359 (v := .ref (ad 70)) rfl dX11_lose_39 ?_
    refine gj_iload_n C 1 dX11_lose_42 rfl 2 rfl ?_
    refine gj_aldq C 3 70 (by decide) hS.1 rfl (vp_in_nI (by omega) (by omega)) (a := ad (79 + 2 * sN)) (q2_n ad 79 (by omega)) dX11_lose_43 ?_
    refine gj_iconst C (v := (-1)) (by decide) dX11_lose_44 ?_
    refine gj_iconst C (v := 0) (by decide) dX11_lose_45 ?_
    refine gj_callVv C mi_X5_renew w_768 (79 + 2 * sN) (by omega) hso rfl (c_X5_renew (79 + 2 * sN) (80 + 2 * sN) (-1 : Int32) (0 : Int32) (fm sN) (ln sN) (sG sN) hso hsg (by omega) (by omega) (by omega)) mc_X5_renew ⟨Nat.le_of_ble_eq_true rfl, Nat.le_of_ble_eq_true rfl⟩ (rest := []) rfl (Nat.le_of_ble_eq_true rfl) dX11_lose_46 (fun u h => ?_)
    subst h
    refine gj_iload_n C 2 dX11_lose_49 rfl 0 rfl ?_
    exact RT _ _ _ _ (by rw [if_pos c_2]; exact ⟨rfl, cSh_new (u := va_up (va_up f (80 + 2 * sN) (.inl (ca 0, 60, .inl (kI (0 : Int32))))) (79 + 2 * sN) (.inr (5, [.ref (ad (80 + 2 * sN)), .int (-1 : Int32), .int (if 0 < (if (0 : Int32) < 60 then (0 : Int32) else 60) then (if (0 : Int32) < 60 then (0 : Int32) else 60) else 0)]))) hsN hS (fun k h1 h2 => up_nx (by omega) (up_nx (by omega) (rfl))) (va_up_self _ _ _) (up_nx (by omega) (va_up_self _ _ _)) (by decide), fun k hk => up_nx (by omega) (up_nx (by omega) (rfl))⟩) dX11_lose_50
  · refine gj_aload_n C 0 dX11_lose_22 rfl 0 rfl ?_
    refine gj_iconst C (v := 1) (by decide) dX11_lose_23 ?_
    refine gj_callVi C mi_X11_find w_442 0 (by decide) hc0 rfl (c_X11_find (1 : Int32) la hc0) mc_X11_find ⟨Nat.le_of_ble_eq_true rfl, Nat.le_of_ble_eq_true rfl⟩ (rest := []) rfl (Nat.le_of_ble_eq_true rfl) dX11_lose_24 (fun r u h => ?_)
    obtain ⟨hr_, hu_⟩ := h; rw [hr_]; subst hu_
    refine gj_seti (y := (-11)) (by decide) ?_
    exact RT _ _ _ _ (by rw [if_neg c_2]; exact ⟨rfl, rfl⟩) dX11_lose_27
set_option maxHeartbeats 400000 in
set_option maxRecDepth 100000 in
theorem c_lay {l : Launch} {D : va_G} {ca ss ad : Nat → Nat} {f : Nat → va_E} (sN : Nat) (q i v : Int32) (hsN : sN < 4) (la : Int32) (fm ln : Nat → Int32) (sG : Nat → Nat → Int32) (hc0 : f 0 = .inr (10, [.ref (ad 1), .ref (ad 69), .ref (ad 70), .int la])) (hS : cSh ca ad fm ln sG f) : gMi l D ca ss ad 108 yX11_lay cX11_lay 6 (some .int) 2 f [.ref (ad 0), .int (nI sN), .int q, .int i, .int v] (fun r u => if s_X11_isForm q = 0 then (r = -2 ∧ u = f) else if (s_X5_faultOf q i (fm sN) (ln sN)) = 0 then (r = 1 ∧ cSh ca ad fm ln (updT sG sN (t_X5_store_j i v (fm sN) (sG sN))) u ∧ ∀ k, ¬ (79 ≤ k ∧ k < 87) → u k = f k) else (r = -10 - (s_X5_faultOf q i (fm sN) (ln sN)) ∧ u = va_up f 0 (.inr (10, [.ref (ad 1), .ref (ad 69), .ref (ad 70), .int (s_X5_faultOf q i (fm sN) (ln sN))])))) := by
  refine gMi_ofK (by decide +kernel) (Nat.le_of_ble_eq_true rfl) (lv0 := [(0, .ref (ad 0)), (1, .int (nI sN)), (2, .int q), (3, .int i), (4, .int v)]) rfl (fun pT eT sT mT aT below meth cT AT QT C RT => ?_)
  have C : gX pT sT mT aT meth cT AT D ca ss 6 RX11 cX11_lay (some .int) := C
  obtain ⟨hsz, hso, hsg⟩ := hS.2 sN (by omega)
  refine gj_iload_n C 1 dX11_lay_0 rfl 1 rfl ?_
  refine gj_callSi C w_436 w_435 (c_X11_isSheet (nI sN)) mc_X11_isSheet ⟨Nat.le_of_ble_eq_true rfl, Nat.le_of_ble_eq_true rfl⟩ (rest := []) rfl (Nat.le_of_ble_eq_true rfl) dX11_lay_1 (fun r u h => ?_)
  obtain ⟨hr_, h⟩ := h; rw [hr_]
  rw [h]
  refine gj_if_eq C 14 dX11_lay_4 (by decide) (fun c_1 => absurd c_1 (isSheet_y hsN)) (fun c_1 => ?_)
  refine gj_iload_n C 2 dX11_lay_7 rfl 2 rfl ?_
  refine gj_callSi C w_766 w_765 (c_X11_isForm q) mc_X11_isForm ⟨Nat.le_of_ble_eq_true rfl, Nat.le_of_ble_eq_true rfl⟩ (rest := []) rfl (Nat.le_of_ble_eq_true rfl) dX11_lay_8 (fun r u h => ?_)
  obtain ⟨hr_, h⟩ := h; rw [hr_]
  rw [h]
  refine gj_if_ne C 17 dX11_lay_11 (by decide) (fun c_2 => ?_) (fun c_2 => ?_)
  · refine gj_aload_n C 0 dX11_lay_17 rfl 0 rfl ?_
    refine gj_get C 0 (by decide) hc0 inX11 rfl 2 (by decide) w_359 (v := .ref (ad 70)) rfl dX11_lay_18 ?_
    refine gj_iload_n C 1 dX11_lay_21 rfl 1 rfl ?_
    refine gj_aldq C 3 70 (by decide) hS.1 rfl (vp_in_nI (by omega) (by omega)) (a := ad (79 + 2 * sN)) (q2_n ad 79 (by omega)) dX11_lay_22 ?_
    refine gj_iload_n C 2 dX11_lay_23 rfl 2 rfl ?_
    refine gj_iload_n C 3 dX11_lay_24 rfl 3 rfl ?_
    refine gj_callVi C mi_X5_faultOf w_783 (79 + 2 * sN) (by omega) hso rfl (c_X5_faultOf (79 + 2 * sN) (80 + 2 * sN) q i (fm sN) (ln sN) (sG sN) hso hsg (by omega) (by omega) (by omega)) mc_X5_faultOf ⟨Nat.le_of_ble_eq_true rfl, Nat.le_of_ble_eq_true rfl⟩ (rest := []) rfl (Nat.le_of_ble_eq_true rfl) dX11_lay_25 (fun r u h => ?_)
    obtain ⟨hr_, h⟩ := h; rw [hr_]
    rw [h]
    refine gj_istore C (lv' := [(5, .int (s_X5_faultOf q i (fm sN) (ln sN))), (0, .ref (ad 0)), (1, .int (nI sN)), (2, .int q), (3, .int i), (4, .int v)]) dX11_lay_28 (by decide) rfl ?_
    refine gj_iload C dX11_lay_30 0 rfl ?_
    refine gj_if_eq C 42 dX11_lay_32 (by decide) (fun c_3 => ?_) (fun c_3 => ?_)
    · refine gj_aload_n C 0 dX11_lay_42 rfl 1 rfl ?_
      refine gj_get C 0 (by decide) hc0 inX11 rfl 2 (by decide) w_359 (v := .ref (ad 70)) rfl dX11_lay_43 ?_
      refine gj_iload_n C 1 dX11_lay_46 rfl 2 rfl ?_
      refine gj_aldq C 3 70 (by decide) hS.1 rfl (vp_in_nI (by omega) (by omega)) (a := ad (79 + 2 * sN)) (q2_n ad 79 (by omega)) dX11_lay_47 ?_
      refine gj_iload_n C 3 dX11_lay_48 rfl 4 rfl ?_
      refine gj_iload C dX11_lay_49 5 rfl ?_
      refine gj_callVv C mi_X5_store w_788 (79 + 2 * sN) (by omega) hso rfl (c_X5_store (79 + 2 * sN) (80 + 2 * sN) i v (fm sN) (ln sN) (sG sN) hso hsg (by omega) (by omega) (by omega) hsz.2 (fault0 c_3).1 (fault0 c_3).2) mc_X5_store ⟨Nat.le_of_ble_eq_true rfl, Nat.le_of_ble_eq_true rfl⟩ (rest := []) rfl (Nat.le_of_ble_eq_true rfl) dX11_lay_51 (fun u h => ?_)
      subst h
      refine gj_iconst C (v := 1) (by decide) dX11_lay_54 ?_
      exact RT _ _ _ _ (by rw [if_neg c_2, if_pos c_3]; exact ⟨rfl, (by have q := cSh_new (u := va_up f (80 + 2 * sN) (.inl (ca 0, 60, .inl (t_X5_store_j i v (fm sN) (sG sN))))) hsN hS (fun k h1 h2 => up_nx (by omega) (rfl)) (up_nx (by omega) (hso)) (va_up_self _ _ _) hsz; rwa [upd_same, upd_same] at q), fun k hk => up_nx (by omega) (rfl)⟩) dX11_lay_55
    · refine gj_aload_n C 0 dX11_lay_35 rfl 1 rfl ?_
      refine gj_iload C dX11_lay_36 0 rfl ?_
      refine gj_callVi C mi_X11_find w_442 0 (by decide) hc0 rfl (c_X11_find (s_X5_faultOf q i (fm sN) (ln sN)) la hc0) mc_X11_find ⟨Nat.le_of_ble_eq_true rfl, Nat.le_of_ble_eq_true rfl⟩ (rest := []) rfl (Nat.le_of_ble_eq_true rfl) dX11_lay_38 (fun r u h => ?_)
      obtain ⟨hr_, hu_⟩ := h; rw [hr_]; subst hu_
      exact RT _ _ _ _ (by rw [if_neg c_2, if_neg c_3]; exact ⟨rfl, rfl⟩) dX11_lay_41
  · refine gj_bipush C (v := (-2)) (by decide) dX11_lay_14 ?_
    exact RT _ _ _ _ (by rw [if_pos c_2]; exact ⟨rfl, rfl⟩) dX11_lay_16
set_option maxHeartbeats 400000 in
set_option maxRecDepth 100000 in
theorem c_get {l : Launch} {D : va_G} {ca ss ad : Nat → Nat} {f : Nat → va_E} (sN : Nat) (q i : Int32) (hsN : sN < 4) (la : Int32) (fm ln : Nat → Int32) (sG : Nat → Nat → Int32) (hc0 : f 0 = .inr (10, [.ref (ad 1), .ref (ad 69), .ref (ad 70), .int la])) (hS : cSh ca ad fm ln sG f) : gMi l D ca ss ad 108 yX11_get cX11_get 5 (some .int) 2 f [.ref (ad 0), .int (nI sN), .int q, .int i] (fun r u => if s_X11_isForm q = 0 then (r = -2147483648 ∧ u = f) else if (s_X5_faultOf q i (fm sN) (ln sN)) = 0 then (r = s_X5_item i (ln sN) (sG sN) ∧ u = f) else (r = -2147483648 ∧ u = va_up f 0 (.inr (10, [.ref (ad 1), .ref (ad 69), .ref (ad 70), .int (s_X5_faultOf q i (fm sN) (ln sN))])))) := by
  refine gMi_ofK (by decide +kernel) (Nat.le_of_ble_eq_true rfl) (lv0 := [(0, .ref (ad 0)), (1, .int (nI sN)), (2, .int q), (3, .int i)]) rfl (fun pT eT sT mT aT below meth cT AT QT C RT => ?_)
  have C : gX pT sT mT aT meth cT AT D ca ss 5 RX11 cX11_get (some .int) := C
  obtain ⟨hsz, hso, hsg⟩ := hS.2 sN (by omega)
  refine gj_iload_n C 1 dX11_get_0 rfl 1 rfl ?_
  refine gj_callSi C w_436 w_435 (c_X11_isSheet (nI sN)) mc_X11_isSheet ⟨Nat.le_of_ble_eq_true rfl, Nat.le_of_ble_eq_true rfl⟩ (rest := []) rfl (Nat.le_of_ble_eq_true rfl) dX11_get_1 (fun r u h => ?_)
  obtain ⟨hr_, h⟩ := h; rw [hr_]
  rw [h]
  refine gj_if_eq C 14 dX11_get_4 (by decide) (fun c_1 => absurd c_1 (isSheet_y hsN)) (fun c_1 => ?_)
  refine gj_iload_n C 2 dX11_get_7 rfl 2 rfl ?_
  refine gj_callSi C w_766 w_765 (c_X11_isForm q) mc_X11_isForm ⟨Nat.le_of_ble_eq_true rfl, Nat.le_of_ble_eq_true rfl⟩ (rest := []) rfl (Nat.le_of_ble_eq_true rfl) dX11_get_8 (fun r u h => ?_)
  obtain ⟨hr_, h⟩ := h; rw [hr_]
  rw [h]
  refine gj_if_ne C 17 dX11_get_11 (by decide) (fun c_2 => ?_) (fun c_2 => ?_)
  · refine gj_aload_n C 0 dX11_get_17 rfl 0 rfl ?_
    refine gj_get C 0 (by decide) hc0 inX11 rfl 2 (by decide) w_359 (v := .ref (ad 70)) rfl dX11_get_18 ?_
    refine gj_iload_n C 1 dX11_get_21 rfl 1 rfl ?_
    refine gj_aldq C 3 70 (by decide) hS.1 rfl (vp_in_nI (by omega) (by omega)) (a := ad (79 + 2 * sN)) (q2_n ad 79 (by omega)) dX11_get_22 ?_
    refine gj_iload_n C 2 dX11_get_23 rfl 2 rfl ?_
    refine gj_iload_n C 3 dX11_get_24 rfl 3 rfl ?_
    refine gj_callVi C mi_X5_faultOf w_783 (79 + 2 * sN) (by omega) hso rfl (c_X5_faultOf (79 + 2 * sN) (80 + 2 * sN) q i (fm sN) (ln sN) (sG sN) hso hsg (by omega) (by omega) (by omega)) mc_X5_faultOf ⟨Nat.le_of_ble_eq_true rfl, Nat.le_of_ble_eq_true rfl⟩ (rest := []) rfl (Nat.le_of_ble_eq_true rfl) dX11_get_25 (fun r u h => ?_)
    obtain ⟨hr_, h⟩ := h; rw [hr_]
    rw [h]
    refine gj_istore C (lv' := [(4, .int (s_X5_faultOf q i (fm sN) (ln sN))), (0, .ref (ad 0)), (1, .int (nI sN)), (2, .int q), (3, .int i)]) dX11_get_28 (by decide) rfl ?_
    refine gj_iload C dX11_get_30 0 rfl ?_
    refine gj_if_eq C 45 dX11_get_32 (by decide) (fun c_3 => ?_) (fun c_3 => ?_)
    · refine gj_aload_n C 0 dX11_get_45 rfl 1 rfl ?_
      refine gj_get C 0 (by decide) hc0 inX11 rfl 2 (by decide) w_359 (v := .ref (ad 70)) rfl dX11_get_46 ?_
      refine gj_iload_n C 1 dX11_get_49 rfl 2 rfl ?_
      refine gj_aldq C 3 70 (by decide) hS.1 rfl (vp_in_nI (by omega) (by omega)) (a := ad (79 + 2 * sN)) (q2_n ad 79 (by omega)) dX11_get_50 ?_
      refine gj_iload_n C 3 dX11_get_51 rfl 4 rfl ?_
      refine gj_callVi C mi_X5_item w_450 (79 + 2 * sN) (by omega) hso rfl (c_X5_item (79 + 2 * sN) (80 + 2 * sN) i (fm sN) (ln sN) (sG sN) hso hsg (by omega) (by omega) (by omega) hsz.2) mc_X5_item ⟨Nat.le_of_ble_eq_true rfl, Nat.le_of_ble_eq_true rfl⟩ (rest := []) rfl (Nat.le_of_ble_eq_true rfl) dX11_get_52 (fun r u h => ?_)
      obtain ⟨hr_, h⟩ := h; rw [hr_]
      rw [h]
      exact RT _ _ _ _ (by rw [if_neg c_2, if_pos c_3]; exact ⟨rfl, rfl⟩) dX11_get_55
    · refine gj_aload_n C 0 dX11_get_35 rfl 1 rfl ?_
      refine gj_iload C dX11_get_36 0 rfl ?_
      refine gj_callVi C mi_X11_find w_442 0 (by decide) hc0 rfl (c_X11_find (s_X5_faultOf q i (fm sN) (ln sN)) la hc0) mc_X11_find ⟨Nat.le_of_ble_eq_true rfl, Nat.le_of_ble_eq_true rfl⟩ (rest := []) rfl (Nat.le_of_ble_eq_true rfl) dX11_get_38 (fun r u h => ?_)
      obtain ⟨hr_, hu_⟩ := h; rw [hr_]; subst hu_
      refine gj_pop C rfl dX11_get_41 ?_
      refine gj_ldc C (v := (-2147483648)) w_424 dX11_get_42 ?_
      exact RT _ _ _ _ (by rw [if_neg c_2, if_neg c_3]; exact ⟨rfl, rfl⟩) dX11_get_44
  · refine gj_ldc C (v := (-2147483648)) w_424 dX11_get_14 ?_
    exact RT _ _ _ _ (by rw [if_pos c_2]; exact ⟨rfl, rfl⟩) dX11_get_16
set_option maxHeartbeats 400000 in
set_option maxRecDepth 100000 in
theorem c_copy {l : Launch} {D : va_G} {ca ss ad : Nat → Nat} {f : Nat → va_E} (sN tN : Nat) (x y n : Int32) (hsN : sN < 4) (htN : tN < 4) (hst : ¬ sN = tN) (la : Int32) (fm ln : Nat → Int32) (sG : Nat → Nat → Int32) (hc0 : f 0 = .inr (10, [.ref (ad 1), .ref (ad 69), .ref (ad 70), .int la])) (hS : cSh ca ad fm ln sG f) : gMi l D ca ss ad 108 yX11_copy cX11_copy 8 (some .int) 2 f [.ref (ad 0), .int (nI sN), .int x, .int (nI tN), .int y, .int n] (fun r u => if s_X5_isLost (fm sN) = 0 then (if s_X5_isLost (fm tN) = 0 then (if fm sN = fm tN then (if s_X5_hasRun x n (ln sN) = 0 then (r = -12 ∧ u = va_up f 0 (.inr (10, [.ref (ad 1), .ref (ad 69), .ref (ad 70), .int 2]))) else if s_X5_hasRun y n (ln tN) = 0 then (r = -12 ∧ u = va_up f 0 (.inr (10, [.ref (ad 1), .ref (ad 69), .ref (ad 70), .int 2]))) else (r = 1 ∧ cSh ca ad fm ln (updT sG tN (va_cpy (sG sN) (sG tN) x.toNatClampNeg y.toNatClampNeg n.toNatClampNeg)) u ∧ ∀ k, ¬ (79 ≤ k ∧ k < 87) → u k = f k)) else (r = -14 ∧ u = va_up f 0 (.inr (10, [.ref (ad 1), .ref (ad 69), .ref (ad 70), .int 4])))) else (r = -11 ∧ u = va_up f 0 (.inr (10, [.ref (ad 1), .ref (ad 69), .ref (ad 70), .int 1])))) else (r = -11 ∧ u = va_up f 0 (.inr (10, [.ref (ad 1), .ref (ad 69), .ref (ad 70), .int 1])))) := by
  refine gMi_ofK (by decide +kernel) (Nat.le_of_ble_eq_true rfl) (lv0 := [(0, .ref (ad 0)), (1, .int (nI sN)), (2, .int x), (3, .int (nI tN)), (4, .int y), (5, .int n)]) rfl (fun pT eT sT mT aT below meth cT AT QT C RT => ?_)
  have C : gX pT sT mT aT meth cT AT D ca ss 8 RX11 cX11_copy (some .int) := C
  obtain ⟨hsz, hso, hsg⟩ := hS.2 sN (by omega)
  obtain ⟨hsz1, hso1, hsg1⟩ := hS.2 tN (by omega)
  refine gj_iload_n C 1 dX11_copy_0 rfl 1 rfl ?_
  refine gj_callSi C w_436 w_435 (c_X11_isSheet (nI sN)) mc_X11_isSheet ⟨Nat.le_of_ble_eq_true rfl, Nat.le_of_ble_eq_true rfl⟩ (rest := []) rfl (Nat.le_of_ble_eq_true rfl) dX11_copy_1 (fun r u h => ?_)
  obtain ⟨hr_, h⟩ := h; rw [hr_]
  rw [h]
  refine gj_if_eq C 14 dX11_copy_4 (by decide) (fun c_1 => absurd c_1 (isSheet_y hsN)) (fun c_1 => ?_)
  refine gj_iload_n C 3 dX11_copy_7 rfl 3 rfl ?_
  refine gj_callSi C w_436 w_435 (c_X11_isSheet (nI tN)) mc_X11_isSheet ⟨Nat.le_of_ble_eq_true rfl, Nat.le_of_ble_eq_true rfl⟩ (rest := []) rfl (Nat.le_of_ble_eq_true rfl) dX11_copy_8 (fun r u h => ?_)
  obtain ⟨hr_, h⟩ := h; rw [hr_]
  rw [h]
  refine gj_if_ne C 17 dX11_copy_11 (by decide) (fun c_2 => ?_) (fun c_2 => absurd c_2 (isSheet_y htN))
  refine gj_aload_n C 0 dX11_copy_17 rfl 0 rfl ?_
  refine gj_get C 0 (by decide) hc0 inX11 rfl 2 (by decide) w_359 (v := .ref (ad 70)) rfl dX11_copy_18 ?_
  refine gj_iload_n C 1 dX11_copy_21 rfl 1 rfl ?_
  refine gj_aldq C 3 70 (by decide) hS.1 rfl (vp_in_nI (by omega) (by omega)) (a := ad (79 + 2 * sN)) (q2_n ad 79 (by omega)) dX11_copy_22 ?_
  refine gj_astore C (lv' := [(6, .ref (ad (79 + 2 * sN))), (0, .ref (ad 0)), (1, .int (nI sN)), (2, .int x), (3, .int (nI tN)), (4, .int y), (5, .int n)]) dX11_copy_23 (by decide) rfl ?_
  refine gj_aload_n C 0 dX11_copy_25 rfl 1 rfl ?_
  refine gj_get C 0 (by decide) hc0 inX11 rfl 2 (by decide) w_359 (v := .ref (ad 70)) rfl dX11_copy_26 ?_
  refine gj_iload_n C 3 dX11_copy_29 rfl 4 rfl ?_
  refine gj_aldq C 3 70 (by decide) hS.1 rfl (vp_in_nI (by omega) (by omega)) (a := ad (79 + 2 * tN)) (q2_n ad 79 (by omega)) dX11_copy_30 ?_
  refine gj_astore C (lv' := [(7, .ref (ad (79 + 2 * tN))), (6, .ref (ad (79 + 2 * sN))), (0, .ref (ad 0)), (1, .int (nI sN)), (2, .int x), (3, .int (nI tN)), (4, .int y), (5, .int n)]) dX11_copy_31 (by decide) rfl ?_
  refine gj_aload C dX11_copy_33 1 rfl ?_
  refine gj_callVi C mi_X5_isLost w_438 (79 + 2 * sN) (by omega) hso rfl (c_X5_isLost (79 + 2 * sN) (80 + 2 * sN) (fm sN) (ln sN) (sG sN) hso hsg (by omega) (by omega) (by omega)) mc_X5_isLost ⟨Nat.le_of_ble_eq_true rfl, Nat.le_of_ble_eq_true rfl⟩ (rest := []) rfl (Nat.le_of_ble_eq_true rfl) dX11_copy_35 (fun r u h => ?_)
  obtain ⟨hr_, h⟩ := h; rw [hr_]
  rw [h]
  refine gj_if_ne C 49 dX11_copy_38 (by decide) (fun c_3 => ?_) (fun c_3 => ?_)
  · refine gj_aload_n C 0 dX11_copy_49 rfl 2 rfl ?_
    refine gj_iconst C (v := 1) (by decide) dX11_copy_50 ?_
    refine gj_callVi C mi_X11_find w_442 0 (by decide) hc0 rfl (c_X11_find (1 : Int32) la hc0) mc_X11_find ⟨Nat.le_of_ble_eq_true rfl, Nat.le_of_ble_eq_true rfl⟩ (rest := []) rfl (Nat.le_of_ble_eq_true rfl) dX11_copy_51 (fun r u h => ?_)
    obtain ⟨hr_, hu_⟩ := h; rw [hr_]; subst hu_
    refine gj_seti (y := (-11)) (by decide) ?_
    exact RT _ _ _ _ (by rw [if_neg c_3]; exact ⟨rfl, rfl⟩) dX11_copy_54
  · refine gj_aload C dX11_copy_41 0 rfl ?_
    refine gj_callVi C mi_X5_isLost w_438 (79 + 2 * tN) (by omega) hso1 rfl (c_X5_isLost (79 + 2 * tN) (80 + 2 * tN) (fm tN) (ln tN) (sG tN) hso1 hsg1 (by omega) (by omega) (by omega)) mc_X5_isLost ⟨Nat.le_of_ble_eq_true rfl, Nat.le_of_ble_eq_true rfl⟩ (rest := []) rfl (Nat.le_of_ble_eq_true rfl) dX11_copy_43 (fun r u h => ?_)
    obtain ⟨hr_, h⟩ := h; rw [hr_]
    rw [h]
    refine gj_if_eq C 55 dX11_copy_46 (by decide) (fun c_4 => ?_) (fun c_4 => ?_)
    · refine gj_aload C dX11_copy_55 1 rfl ?_
      refine gj_getN C (79 + 2 * sN) (by omega) hso inX5 rfl 1 (by decide) w_348 (v := .int (fm sN)) rfl dX11_copy_57 ?_
      refine gj_aload C dX11_copy_60 0 rfl ?_
      refine gj_getN C (79 + 2 * tN) (by omega) hso1 inX5 rfl 1 (by decide) w_348 (v := .int (fm tN)) rfl dX11_copy_62 ?_
      refine gj_icmp_eq C 74 dX11_copy_65 (by decide) (fun c_5 => ?_) (fun c_5 => ?_)
      · refine gj_aload C dX11_copy_74 1 rfl ?_
        refine gj_iload_n C 2 dX11_copy_76 rfl 4 rfl ?_
        refine gj_iload C dX11_copy_77 7 rfl ?_
        refine gj_callVi C mi_X5_hasRun w_800 (79 + 2 * sN) (by omega) hso rfl (c_X5_hasRun (79 + 2 * sN) (80 + 2 * sN) x n (fm sN) (ln sN) (sG sN) hso hsg (by omega) (by omega) (by omega)) mc_X5_hasRun ⟨Nat.le_of_ble_eq_true rfl, Nat.le_of_ble_eq_true rfl⟩ (rest := []) rfl (Nat.le_of_ble_eq_true rfl) dX11_copy_79 (fun r u h => ?_)
        obtain ⟨hr_, h⟩ := h; rw [hr_]
        rw [h]
        refine gj_if_eq C 97 dX11_copy_82 (by decide) (fun c_6 => ?_) (fun c_6 => ?_)
        · refine gj_aload_n C 0 dX11_copy_97 rfl 2 rfl ?_
          refine gj_iconst C (v := 2) (by decide) dX11_copy_98 ?_
          refine gj_callVi C mi_X11_find w_442 0 (by decide) hc0 rfl (c_X11_find (2 : Int32) la hc0) mc_X11_find ⟨Nat.le_of_ble_eq_true rfl, Nat.le_of_ble_eq_true rfl⟩ (rest := []) rfl (Nat.le_of_ble_eq_true rfl) dX11_copy_99 (fun r u h => ?_)
          obtain ⟨hr_, hu_⟩ := h; rw [hr_]; subst hu_
          refine gj_seti (y := (-12)) (by decide) ?_
          exact RT _ _ _ _ (by rw [if_pos c_3, if_pos c_4, if_pos c_5, if_pos c_6]; exact ⟨rfl, rfl⟩) dX11_copy_102
        · refine gj_aload C dX11_copy_85 0 rfl ?_
          refine gj_iload C dX11_copy_87 6 rfl ?_
          refine gj_iload C dX11_copy_89 7 rfl ?_
          refine gj_callVi C mi_X5_hasRun w_800 (79 + 2 * tN) (by omega) hso1 rfl (c_X5_hasRun (79 + 2 * tN) (80 + 2 * tN) y n (fm tN) (ln tN) (sG tN) hso1 hsg1 (by omega) (by omega) (by omega)) mc_X5_hasRun ⟨Nat.le_of_ble_eq_true rfl, Nat.le_of_ble_eq_true rfl⟩ (rest := []) rfl (Nat.le_of_ble_eq_true rfl) dX11_copy_91 (fun r u h => ?_)
          obtain ⟨hr_, h⟩ := h; rw [hr_]
          rw [h]
          refine gj_if_ne C 103 dX11_copy_94 (by decide) (fun c_7 => ?_) (fun c_7 => ?_)
          · refine gj_aload C dX11_copy_103 0 rfl ?_
            refine gj_aload C dX11_copy_105 1 rfl ?_
            refine gj_iload_n C 2 dX11_copy_107 rfl 4 rfl ?_
            refine gj_iload C dX11_copy_108 6 rfl ?_
            refine gj_iload C dX11_copy_110 7 rfl ?_
            refine gj_callVv C mi_X5_takeRun w_804 (79 + 2 * tN) (by omega) hso1 rfl (c_takeRun (79 + 2 * tN) (80 + 2 * tN) (79 + 2 * sN) (80 + 2 * sN) x y n (fm tN) (ln tN) (fm sN) (ln sN) (sG tN) (sG sN) hso1 hsg1 hso hsg (by omega) (by omega) (by omega) (by omega) (by omega) (by omega) (by omega) (by omega) (by omega) (by omega) hsz1 hsz c_6 c_7) mc_X5_takeRun ⟨Nat.le_of_ble_eq_true rfl, Nat.le_of_ble_eq_true rfl⟩ (rest := []) rfl (Nat.le_of_ble_eq_true rfl) dX11_copy_112 (fun u h => ?_)
            subst h
            refine gj_iconst C (v := 1) (by decide) dX11_copy_115 ?_
            exact RT _ _ _ _ (by rw [if_pos c_3, if_pos c_4, if_pos c_5, if_neg c_6, if_neg c_7]; exact ⟨rfl, (by have q := cSh_new (u := va_up f (80 + 2 * tN) (.inl (ca 0, 60, .inl (va_cpy (sG sN) (sG tN) x.toNatClampNeg y.toNatClampNeg n.toNatClampNeg)))) htN hS (fun k h1 h2 => up_nx (by omega) (rfl)) (up_nx (by omega) (hso1)) (va_up_self _ _ _) hsz1; rwa [upd_same, upd_same] at q), fun k hk => up_nx (by omega) (rfl)⟩) dX11_copy_116
          · refine gj_aload_n C 0 dX11_copy_97 rfl 2 rfl ?_
            refine gj_iconst C (v := 2) (by decide) dX11_copy_98 ?_
            refine gj_callVi C mi_X11_find w_442 0 (by decide) hc0 rfl (c_X11_find (2 : Int32) la hc0) mc_X11_find ⟨Nat.le_of_ble_eq_true rfl, Nat.le_of_ble_eq_true rfl⟩ (rest := []) rfl (Nat.le_of_ble_eq_true rfl) dX11_copy_99 (fun r u h => ?_)
            obtain ⟨hr_, hu_⟩ := h; rw [hr_]; subst hu_
            refine gj_seti (y := (-12)) (by decide) ?_
            exact RT _ _ _ _ (by rw [if_pos c_3, if_pos c_4, if_pos c_5, if_neg c_6, if_pos c_7]; exact ⟨rfl, rfl⟩) dX11_copy_102
      · refine gj_aload_n C 0 dX11_copy_68 rfl 2 rfl ?_
        refine gj_iconst C (v := 4) (by decide) dX11_copy_69 ?_
        refine gj_callVi C mi_X11_find w_442 0 (by decide) hc0 rfl (c_X11_find (4 : Int32) la hc0) mc_X11_find ⟨Nat.le_of_ble_eq_true rfl, Nat.le_of_ble_eq_true rfl⟩ (rest := []) rfl (Nat.le_of_ble_eq_true rfl) dX11_copy_70 (fun r u h => ?_)
        obtain ⟨hr_, hu_⟩ := h; rw [hr_]; subst hu_
        refine gj_seti (y := (-14)) (by decide) ?_
        exact RT _ _ _ _ (by rw [if_pos c_3, if_pos c_4, if_neg c_5]; exact ⟨rfl, rfl⟩) dX11_copy_73
    · refine gj_aload_n C 0 dX11_copy_49 rfl 2 rfl ?_
      refine gj_iconst C (v := 1) (by decide) dX11_copy_50 ?_
      refine gj_callVi C mi_X11_find w_442 0 (by decide) hc0 rfl (c_X11_find (1 : Int32) la hc0) mc_X11_find ⟨Nat.le_of_ble_eq_true rfl, Nat.le_of_ble_eq_true rfl⟩ (rest := []) rfl (Nat.le_of_ble_eq_true rfl) dX11_copy_51 (fun r u h => ?_)
      obtain ⟨hr_, hu_⟩ := h; rw [hr_]; subst hu_
      refine gj_seti (y := (-11)) (by decide) ?_
      exact RT _ _ _ _ (by rw [if_pos c_3, if_neg c_4]; exact ⟨rfl, rfl⟩) dX11_copy_54
set_option maxHeartbeats 400000 in
set_option maxRecDepth 100000 in
theorem c_copyS {l : Launch} {D : va_G} {ca ss ad : Nat → Nat} {f : Nat → va_E} (sN : Nat) (x y n : Int32) (hsN : sN < 4) (la : Int32) (fm ln : Nat → Int32) (sG : Nat → Nat → Int32) (hc0 : f 0 = .inr (10, [.ref (ad 1), .ref (ad 69), .ref (ad 70), .int la])) (hS : cSh ca ad fm ln sG f) : gMi l D ca ss ad 108 yX11_copy cX11_copy 8 (some .int) 2 f [.ref (ad 0), .int (nI sN), .int x, .int (nI sN), .int y, .int n] (fun r u => if s_X5_isLost (fm sN) = 0 then (if s_X5_isLost (fm sN) = 0 then (if fm sN = fm sN then (if s_X5_hasRun x n (ln sN) = 0 then (r = -12 ∧ u = va_up f 0 (.inr (10, [.ref (ad 1), .ref (ad 69), .ref (ad 70), .int 2]))) else if s_X5_hasRun y n (ln sN) = 0 then (r = -12 ∧ u = va_up f 0 (.inr (10, [.ref (ad 1), .ref (ad 69), .ref (ad 70), .int 2]))) else (r = 1 ∧ cSh ca ad fm ln (updT sG sN (va_cpy (sG sN) (sG sN) x.toNatClampNeg y.toNatClampNeg n.toNatClampNeg)) u ∧ ∀ k, ¬ (79 ≤ k ∧ k < 87) → u k = f k)) else (r = -14 ∧ u = va_up f 0 (.inr (10, [.ref (ad 1), .ref (ad 69), .ref (ad 70), .int 4])))) else (r = -11 ∧ u = va_up f 0 (.inr (10, [.ref (ad 1), .ref (ad 69), .ref (ad 70), .int 1])))) else (r = -11 ∧ u = va_up f 0 (.inr (10, [.ref (ad 1), .ref (ad 69), .ref (ad 70), .int 1])))) := by
  refine gMi_ofK (by decide +kernel) (Nat.le_of_ble_eq_true rfl) (lv0 := [(0, .ref (ad 0)), (1, .int (nI sN)), (2, .int x), (3, .int (nI sN)), (4, .int y), (5, .int n)]) rfl (fun pT eT sT mT aT below meth cT AT QT C RT => ?_)
  have C : gX pT sT mT aT meth cT AT D ca ss 8 RX11 cX11_copy (some .int) := C
  obtain ⟨hsz, hso, hsg⟩ := hS.2 sN (by omega)
  refine gj_iload_n C 1 dX11_copy_0 rfl 1 rfl ?_
  refine gj_callSi C w_436 w_435 (c_X11_isSheet (nI sN)) mc_X11_isSheet ⟨Nat.le_of_ble_eq_true rfl, Nat.le_of_ble_eq_true rfl⟩ (rest := []) rfl (Nat.le_of_ble_eq_true rfl) dX11_copy_1 (fun r u h => ?_)
  obtain ⟨hr_, h⟩ := h; rw [hr_]
  rw [h]
  refine gj_if_eq C 14 dX11_copy_4 (by decide) (fun c_1 => absurd c_1 (isSheet_y hsN)) (fun c_1 => ?_)
  refine gj_iload_n C 3 dX11_copy_7 rfl 3 rfl ?_
  refine gj_callSi C w_436 w_435 (c_X11_isSheet (nI sN)) mc_X11_isSheet ⟨Nat.le_of_ble_eq_true rfl, Nat.le_of_ble_eq_true rfl⟩ (rest := []) rfl (Nat.le_of_ble_eq_true rfl) dX11_copy_8 (fun r u h => ?_)
  obtain ⟨hr_, h⟩ := h; rw [hr_]
  rw [h]
  refine gj_if_ne C 17 dX11_copy_11 (by decide) (fun c_2 => ?_) (fun c_2 => absurd c_2 (isSheet_y hsN))
  refine gj_aload_n C 0 dX11_copy_17 rfl 0 rfl ?_
  refine gj_get C 0 (by decide) hc0 inX11 rfl 2 (by decide) w_359 (v := .ref (ad 70)) rfl dX11_copy_18 ?_
  refine gj_iload_n C 1 dX11_copy_21 rfl 1 rfl ?_
  refine gj_aldq C 3 70 (by decide) hS.1 rfl (vp_in_nI (by omega) (by omega)) (a := ad (79 + 2 * sN)) (q2_n ad 79 (by omega)) dX11_copy_22 ?_
  refine gj_astore C (lv' := [(6, .ref (ad (79 + 2 * sN))), (0, .ref (ad 0)), (1, .int (nI sN)), (2, .int x), (3, .int (nI sN)), (4, .int y), (5, .int n)]) dX11_copy_23 (by decide) rfl ?_
  refine gj_aload_n C 0 dX11_copy_25 rfl 1 rfl ?_
  refine gj_get C 0 (by decide) hc0 inX11 rfl 2 (by decide) w_359 (v := .ref (ad 70)) rfl dX11_copy_26 ?_
  refine gj_iload_n C 3 dX11_copy_29 rfl 4 rfl ?_
  refine gj_aldq C 3 70 (by decide) hS.1 rfl (vp_in_nI (by omega) (by omega)) (a := ad (79 + 2 * sN)) (q2_n ad 79 (by omega)) dX11_copy_30 ?_
  refine gj_astore C (lv' := [(7, .ref (ad (79 + 2 * sN))), (6, .ref (ad (79 + 2 * sN))), (0, .ref (ad 0)), (1, .int (nI sN)), (2, .int x), (3, .int (nI sN)), (4, .int y), (5, .int n)]) dX11_copy_31 (by decide) rfl ?_
  refine gj_aload C dX11_copy_33 1 rfl ?_
  refine gj_callVi C mi_X5_isLost w_438 (79 + 2 * sN) (by omega) hso rfl (c_X5_isLost (79 + 2 * sN) (80 + 2 * sN) (fm sN) (ln sN) (sG sN) hso hsg (by omega) (by omega) (by omega)) mc_X5_isLost ⟨Nat.le_of_ble_eq_true rfl, Nat.le_of_ble_eq_true rfl⟩ (rest := []) rfl (Nat.le_of_ble_eq_true rfl) dX11_copy_35 (fun r u h => ?_)
  obtain ⟨hr_, h⟩ := h; rw [hr_]
  rw [h]
  refine gj_if_ne C 49 dX11_copy_38 (by decide) (fun c_3 => ?_) (fun c_3 => ?_)
  · refine gj_aload_n C 0 dX11_copy_49 rfl 2 rfl ?_
    refine gj_iconst C (v := 1) (by decide) dX11_copy_50 ?_
    refine gj_callVi C mi_X11_find w_442 0 (by decide) hc0 rfl (c_X11_find (1 : Int32) la hc0) mc_X11_find ⟨Nat.le_of_ble_eq_true rfl, Nat.le_of_ble_eq_true rfl⟩ (rest := []) rfl (Nat.le_of_ble_eq_true rfl) dX11_copy_51 (fun r u h => ?_)
    obtain ⟨hr_, hu_⟩ := h; rw [hr_]; subst hu_
    refine gj_seti (y := (-11)) (by decide) ?_
    exact RT _ _ _ _ (by rw [if_neg c_3]; exact ⟨rfl, rfl⟩) dX11_copy_54
  · refine gj_aload C dX11_copy_41 0 rfl ?_
    refine gj_callVi C mi_X5_isLost w_438 (79 + 2 * sN) (by omega) hso rfl (c_X5_isLost (79 + 2 * sN) (80 + 2 * sN) (fm sN) (ln sN) (sG sN) hso hsg (by omega) (by omega) (by omega)) mc_X5_isLost ⟨Nat.le_of_ble_eq_true rfl, Nat.le_of_ble_eq_true rfl⟩ (rest := []) rfl (Nat.le_of_ble_eq_true rfl) dX11_copy_43 (fun r u h => ?_)
    obtain ⟨hr_, h⟩ := h; rw [hr_]
    rw [h]
    refine gj_if_eq C 55 dX11_copy_46 (by decide) (fun c_4 => ?_) (fun c_4 => ?_)
    · refine gj_aload C dX11_copy_55 1 rfl ?_
      refine gj_getN C (79 + 2 * sN) (by omega) hso inX5 rfl 1 (by decide) w_348 (v := .int (fm sN)) rfl dX11_copy_57 ?_
      refine gj_aload C dX11_copy_60 0 rfl ?_
      refine gj_getN C (79 + 2 * sN) (by omega) hso inX5 rfl 1 (by decide) w_348 (v := .int (fm sN)) rfl dX11_copy_62 ?_
      refine gj_icmp_eq C 74 dX11_copy_65 (by decide) (fun c_5 => ?_) (fun c_5 => ?_)
      · refine gj_aload C dX11_copy_74 1 rfl ?_
        refine gj_iload_n C 2 dX11_copy_76 rfl 4 rfl ?_
        refine gj_iload C dX11_copy_77 7 rfl ?_
        refine gj_callVi C mi_X5_hasRun w_800 (79 + 2 * sN) (by omega) hso rfl (c_X5_hasRun (79 + 2 * sN) (80 + 2 * sN) x n (fm sN) (ln sN) (sG sN) hso hsg (by omega) (by omega) (by omega)) mc_X5_hasRun ⟨Nat.le_of_ble_eq_true rfl, Nat.le_of_ble_eq_true rfl⟩ (rest := []) rfl (Nat.le_of_ble_eq_true rfl) dX11_copy_79 (fun r u h => ?_)
        obtain ⟨hr_, h⟩ := h; rw [hr_]
        rw [h]
        refine gj_if_eq C 97 dX11_copy_82 (by decide) (fun c_6 => ?_) (fun c_6 => ?_)
        · refine gj_aload_n C 0 dX11_copy_97 rfl 2 rfl ?_
          refine gj_iconst C (v := 2) (by decide) dX11_copy_98 ?_
          refine gj_callVi C mi_X11_find w_442 0 (by decide) hc0 rfl (c_X11_find (2 : Int32) la hc0) mc_X11_find ⟨Nat.le_of_ble_eq_true rfl, Nat.le_of_ble_eq_true rfl⟩ (rest := []) rfl (Nat.le_of_ble_eq_true rfl) dX11_copy_99 (fun r u h => ?_)
          obtain ⟨hr_, hu_⟩ := h; rw [hr_]; subst hu_
          refine gj_seti (y := (-12)) (by decide) ?_
          exact RT _ _ _ _ (by rw [if_pos c_3, if_pos c_4, if_pos c_5, if_pos c_6]; exact ⟨rfl, rfl⟩) dX11_copy_102
        · refine gj_aload C dX11_copy_85 0 rfl ?_
          refine gj_iload C dX11_copy_87 6 rfl ?_
          refine gj_iload C dX11_copy_89 7 rfl ?_
          refine gj_callVi C mi_X5_hasRun w_800 (79 + 2 * sN) (by omega) hso rfl (c_X5_hasRun (79 + 2 * sN) (80 + 2 * sN) y n (fm sN) (ln sN) (sG sN) hso hsg (by omega) (by omega) (by omega)) mc_X5_hasRun ⟨Nat.le_of_ble_eq_true rfl, Nat.le_of_ble_eq_true rfl⟩ (rest := []) rfl (Nat.le_of_ble_eq_true rfl) dX11_copy_91 (fun r u h => ?_)
          obtain ⟨hr_, h⟩ := h; rw [hr_]
          rw [h]
          refine gj_if_ne C 103 dX11_copy_94 (by decide) (fun c_7 => ?_) (fun c_7 => ?_)
          · refine gj_aload C dX11_copy_103 0 rfl ?_
            refine gj_aload C dX11_copy_105 1 rfl ?_
            refine gj_iload_n C 2 dX11_copy_107 rfl 4 rfl ?_
            refine gj_iload C dX11_copy_108 6 rfl ?_
            refine gj_iload C dX11_copy_110 7 rfl ?_
            refine gj_callVv C mi_X5_takeRun w_804 (79 + 2 * sN) (by omega) hso rfl (c_takeRunS (79 + 2 * sN) (80 + 2 * sN) x y n (fm sN) (ln sN) (sG sN) hso hsg (by omega) (by omega) (by omega) hsz c_6 c_7) mc_X5_takeRun ⟨Nat.le_of_ble_eq_true rfl, Nat.le_of_ble_eq_true rfl⟩ (rest := []) rfl (Nat.le_of_ble_eq_true rfl) dX11_copy_112 (fun u h => ?_)
            subst h
            refine gj_iconst C (v := 1) (by decide) dX11_copy_115 ?_
            exact RT _ _ _ _ (by rw [if_pos c_3, if_pos c_4, if_pos c_5, if_neg c_6, if_neg c_7]; exact ⟨rfl, (by have q := cSh_new (u := va_up f (80 + 2 * sN) (.inl (ca 0, 60, .inl (va_cpy (sG sN) (sG sN) x.toNatClampNeg y.toNatClampNeg n.toNatClampNeg)))) hsN hS (fun k h1 h2 => up_nx (by omega) (rfl)) (up_nx (by omega) (hso)) (va_up_self _ _ _) hsz; rwa [upd_same, upd_same] at q), fun k hk => up_nx (by omega) (rfl)⟩) dX11_copy_116
          · refine gj_aload_n C 0 dX11_copy_97 rfl 2 rfl ?_
            refine gj_iconst C (v := 2) (by decide) dX11_copy_98 ?_
            refine gj_callVi C mi_X11_find w_442 0 (by decide) hc0 rfl (c_X11_find (2 : Int32) la hc0) mc_X11_find ⟨Nat.le_of_ble_eq_true rfl, Nat.le_of_ble_eq_true rfl⟩ (rest := []) rfl (Nat.le_of_ble_eq_true rfl) dX11_copy_99 (fun r u h => ?_)
            obtain ⟨hr_, hu_⟩ := h; rw [hr_]; subst hu_
            refine gj_seti (y := (-12)) (by decide) ?_
            exact RT _ _ _ _ (by rw [if_pos c_3, if_pos c_4, if_pos c_5, if_neg c_6, if_pos c_7]; exact ⟨rfl, rfl⟩) dX11_copy_102
      · refine gj_aload_n C 0 dX11_copy_68 rfl 2 rfl ?_
        refine gj_iconst C (v := 4) (by decide) dX11_copy_69 ?_
        refine gj_callVi C mi_X11_find w_442 0 (by decide) hc0 rfl (c_X11_find (4 : Int32) la hc0) mc_X11_find ⟨Nat.le_of_ble_eq_true rfl, Nat.le_of_ble_eq_true rfl⟩ (rest := []) rfl (Nat.le_of_ble_eq_true rfl) dX11_copy_70 (fun r u h => ?_)
        obtain ⟨hr_, hu_⟩ := h; rw [hr_]; subst hu_
        refine gj_seti (y := (-14)) (by decide) ?_
        exact RT _ _ _ _ (by rw [if_pos c_3, if_pos c_4, if_neg c_5]; exact ⟨rfl, rfl⟩) dX11_copy_73
    · refine gj_aload_n C 0 dX11_copy_49 rfl 2 rfl ?_
      refine gj_iconst C (v := 1) (by decide) dX11_copy_50 ?_
      refine gj_callVi C mi_X11_find w_442 0 (by decide) hc0 rfl (c_X11_find (1 : Int32) la hc0) mc_X11_find ⟨Nat.le_of_ble_eq_true rfl, Nat.le_of_ble_eq_true rfl⟩ (rest := []) rfl (Nat.le_of_ble_eq_true rfl) dX11_copy_51 (fun r u h => ?_)
      obtain ⟨hr_, hu_⟩ := h; rw [hr_]; subst hu_
      refine gj_seti (y := (-11)) (by decide) ?_
      exact RT _ _ _ _ (by rw [if_pos c_3, if_neg c_4]; exact ⟨rfl, rfl⟩) dX11_copy_54
set_option maxHeartbeats 400000 in
set_option maxRecDepth 100000 in
theorem c_sheetB {l : Launch} {D : va_G} {ca ss ad : Nat → Nat} {f : Nat → va_E} (k q n : Int32) (hk : s_X11_isSheet k = 0) : gMi l D ca ss ad 108 yX11_sheet cX11_sheet 4 (some .int) 2 f [.ref (ad 0), .int k, .int q, .int n] (fun r u => r = -2 ∧ u = f) := by
  refine gMi_ofK (by decide +kernel) (Nat.le_of_ble_eq_true rfl) (lv0 := [(0, .ref (ad 0)), (1, .int k), (2, .int q), (3, .int n)]) rfl (fun pT eT sT mT aT below meth cT AT QT C RT => ?_)
  have C : gX pT sT mT aT meth cT AT D ca ss 4 RX11 cX11_sheet (some .int) := C
  refine gj_iload_n C 1 dX11_sheet_0 rfl 1 rfl ?_
  refine gj_callSi C w_436 w_435 (c_X11_isSheet k) mc_X11_isSheet ⟨Nat.le_of_ble_eq_true rfl, Nat.le_of_ble_eq_true rfl⟩ (rest := []) rfl (Nat.le_of_ble_eq_true rfl) dX11_sheet_1 (fun r u h => ?_)
  obtain ⟨hr_, h⟩ := h; rw [hr_]
  rw [h]
  refine gj_if_eq C 20 dX11_sheet_4 (by decide) (fun c_1 => ?_) (fun c_1 => absurd hk c_1)
  refine gj_bipush C (v := (-2)) (by decide) dX11_sheet_20 ?_
  exact RT _ _ _ _ ⟨rfl, rfl⟩ dX11_sheet_22
set_option maxHeartbeats 400000 in
set_option maxRecDepth 100000 in
theorem c_loseB {l : Launch} {D : va_G} {ca ss ad : Nat → Nat} {f : Nat → va_E} (k : Int32) (hk : s_X11_isSheet k = 0) : gMi l D ca ss ad 108 yX11_lose cX11_lose 3 (some .int) 2 f [.ref (ad 0), .int k] (fun r u => r = -2 ∧ u = f) := by
  refine gMi_ofK (by decide +kernel) (Nat.le_of_ble_eq_true rfl) (lv0 := [(0, .ref (ad 0)), (1, .int k)]) rfl (fun pT eT sT mT aT below meth cT AT QT C RT => ?_)
  have C : gX pT sT mT aT meth cT AT D ca ss 3 RX11 cX11_lose (some .int) := C
  refine gj_iload_n C 1 dX11_lose_0 rfl 1 rfl ?_
  refine gj_callSi C w_436 w_435 (c_X11_isSheet k) mc_X11_isSheet ⟨Nat.le_of_ble_eq_true rfl, Nat.le_of_ble_eq_true rfl⟩ (rest := []) rfl (Nat.le_of_ble_eq_true rfl) dX11_lose_1 (fun r u h => ?_)
  obtain ⟨hr_, h⟩ := h; rw [hr_]
  rw [h]
  refine gj_if_ne C 10 dX11_lose_4 (by decide) (fun c_1 => absurd hk c_1) (fun c_1 => ?_)
  refine gj_bipush C (v := (-2)) (by decide) dX11_lose_7 ?_
  exact RT _ _ _ _ ⟨rfl, rfl⟩ dX11_lose_9
set_option maxHeartbeats 400000 in
set_option maxRecDepth 100000 in
theorem c_layB {l : Launch} {D : va_G} {ca ss ad : Nat → Nat} {f : Nat → va_E} (k q i v : Int32) (hk : s_X11_isSheet k = 0) : gMi l D ca ss ad 108 yX11_lay cX11_lay 6 (some .int) 2 f [.ref (ad 0), .int k, .int q, .int i, .int v] (fun r u => r = -2 ∧ u = f) := by
  refine gMi_ofK (by decide +kernel) (Nat.le_of_ble_eq_true rfl) (lv0 := [(0, .ref (ad 0)), (1, .int k), (2, .int q), (3, .int i), (4, .int v)]) rfl (fun pT eT sT mT aT below meth cT AT QT C RT => ?_)
  have C : gX pT sT mT aT meth cT AT D ca ss 6 RX11 cX11_lay (some .int) := C
  refine gj_iload_n C 1 dX11_lay_0 rfl 1 rfl ?_
  refine gj_callSi C w_436 w_435 (c_X11_isSheet k) mc_X11_isSheet ⟨Nat.le_of_ble_eq_true rfl, Nat.le_of_ble_eq_true rfl⟩ (rest := []) rfl (Nat.le_of_ble_eq_true rfl) dX11_lay_1 (fun r u h => ?_)
  obtain ⟨hr_, h⟩ := h; rw [hr_]
  rw [h]
  refine gj_if_eq C 14 dX11_lay_4 (by decide) (fun c_1 => ?_) (fun c_1 => absurd hk c_1)
  refine gj_bipush C (v := (-2)) (by decide) dX11_lay_14 ?_
  exact RT _ _ _ _ ⟨rfl, rfl⟩ dX11_lay_16
set_option maxHeartbeats 400000 in
set_option maxRecDepth 100000 in
theorem c_getB {l : Launch} {D : va_G} {ca ss ad : Nat → Nat} {f : Nat → va_E} (k q i : Int32) (hk : s_X11_isSheet k = 0) : gMi l D ca ss ad 108 yX11_get cX11_get 5 (some .int) 2 f [.ref (ad 0), .int k, .int q, .int i] (fun r u => r = -2147483648 ∧ u = f) := by
  refine gMi_ofK (by decide +kernel) (Nat.le_of_ble_eq_true rfl) (lv0 := [(0, .ref (ad 0)), (1, .int k), (2, .int q), (3, .int i)]) rfl (fun pT eT sT mT aT below meth cT AT QT C RT => ?_)
  have C : gX pT sT mT aT meth cT AT D ca ss 5 RX11 cX11_get (some .int) := C
  refine gj_iload_n C 1 dX11_get_0 rfl 1 rfl ?_
  refine gj_callSi C w_436 w_435 (c_X11_isSheet k) mc_X11_isSheet ⟨Nat.le_of_ble_eq_true rfl, Nat.le_of_ble_eq_true rfl⟩ (rest := []) rfl (Nat.le_of_ble_eq_true rfl) dX11_get_1 (fun r u h => ?_)
  obtain ⟨hr_, h⟩ := h; rw [hr_]
  rw [h]
  refine gj_if_eq C 14 dX11_get_4 (by decide) (fun c_1 => ?_) (fun c_1 => absurd hk c_1)
  refine gj_ldc C (v := (-2147483648)) w_424 dX11_get_14 ?_
  exact RT _ _ _ _ ⟨rfl, rfl⟩ dX11_get_16
set_option maxHeartbeats 400000 in
set_option maxRecDepth 100000 in
theorem c_copyB1 {l : Launch} {D : va_G} {ca ss ad : Nat → Nat} {f : Nat → va_E} (k x t y n : Int32) (hk : s_X11_isSheet k = 0) : gMi l D ca ss ad 108 yX11_copy cX11_copy 8 (some .int) 2 f [.ref (ad 0), .int k, .int x, .int t, .int y, .int n] (fun r u => r = -2 ∧ u = f) := by
  refine gMi_ofK (by decide +kernel) (Nat.le_of_ble_eq_true rfl) (lv0 := [(0, .ref (ad 0)), (1, .int k), (2, .int x), (3, .int t), (4, .int y), (5, .int n)]) rfl (fun pT eT sT mT aT below meth cT AT QT C RT => ?_)
  have C : gX pT sT mT aT meth cT AT D ca ss 8 RX11 cX11_copy (some .int) := C
  refine gj_iload_n C 1 dX11_copy_0 rfl 1 rfl ?_
  refine gj_callSi C w_436 w_435 (c_X11_isSheet k) mc_X11_isSheet ⟨Nat.le_of_ble_eq_true rfl, Nat.le_of_ble_eq_true rfl⟩ (rest := []) rfl (Nat.le_of_ble_eq_true rfl) dX11_copy_1 (fun r u h => ?_)
  obtain ⟨hr_, h⟩ := h; rw [hr_]
  rw [h]
  refine gj_if_eq C 14 dX11_copy_4 (by decide) (fun c_1 => ?_) (fun c_1 => absurd hk c_1)
  refine gj_bipush C (v := (-2)) (by decide) dX11_copy_14 ?_
  exact RT _ _ _ _ ⟨rfl, rfl⟩ dX11_copy_16
set_option maxHeartbeats 400000 in
set_option maxRecDepth 100000 in
theorem c_copyB2 {l : Launch} {D : va_G} {ca ss ad : Nat → Nat} {f : Nat → va_E} (s x k y n : Int32) (hs : ¬ s_X11_isSheet s = 0) (hk : s_X11_isSheet k = 0) : gMi l D ca ss ad 108 yX11_copy cX11_copy 8 (some .int) 2 f [.ref (ad 0), .int s, .int x, .int k, .int y, .int n] (fun r u => r = -2 ∧ u = f) := by
  refine gMi_ofK (by decide +kernel) (Nat.le_of_ble_eq_true rfl) (lv0 := [(0, .ref (ad 0)), (1, .int s), (2, .int x), (3, .int k), (4, .int y), (5, .int n)]) rfl (fun pT eT sT mT aT below meth cT AT QT C RT => ?_)
  have C : gX pT sT mT aT meth cT AT D ca ss 8 RX11 cX11_copy (some .int) := C
  refine gj_iload_n C 1 dX11_copy_0 rfl 1 rfl ?_
  refine gj_callSi C w_436 w_435 (c_X11_isSheet s) mc_X11_isSheet ⟨Nat.le_of_ble_eq_true rfl, Nat.le_of_ble_eq_true rfl⟩ (rest := []) rfl (Nat.le_of_ble_eq_true rfl) dX11_copy_1 (fun r u h => ?_)
  obtain ⟨hr_, h⟩ := h; rw [hr_]
  rw [h]
  refine gj_if_eq C 14 dX11_copy_4 (by decide) (fun c_1 => absurd c_1 hs) (fun c_1 => ?_)
  refine gj_iload_n C 3 dX11_copy_7 rfl 3 rfl ?_
  refine gj_callSi C w_436 w_435 (c_X11_isSheet k) mc_X11_isSheet ⟨Nat.le_of_ble_eq_true rfl, Nat.le_of_ble_eq_true rfl⟩ (rest := []) rfl (Nat.le_of_ble_eq_true rfl) dX11_copy_8 (fun r u h => ?_)
  obtain ⟨hr_, h⟩ := h; rw [hr_]
  rw [h]
  refine gj_if_ne C 17 dX11_copy_11 (by decide) (fun c_2 => absurd hk c_2) (fun c_2 => ?_)
  refine gj_bipush C (v := (-2)) (by decide) dX11_copy_14 ?_
  exact RT _ _ _ _ ⟨rfl, rfl⟩ dX11_copy_16
