/-- which spots are wrong, of the first p, as bits -/
def mW (so su : Nat → Int32) : Nat → Int32
  | 0 => 0
  | p + 1 => mW so su p ||| (if so p = -1 then (0 : Int32) else if so p = su p then (0 : Int32) else (1 : Int32) <<< (nI p &&& 31))
theorem th1_in {p : Int32} {mn : Nat → Int32} (hm : mnOk mn) (h : ¬ s_X12_isThere (1 : Int32) p mn = 0) : ∃ j, j < 8 ∧ p = nI j := by
  unfold s_X12_isThere at h
  obtain ⟨-, h1, h2, h3⟩ := q_there hm h
  have h4 := h3 rfl
  obtain ⟨j, hj, e⟩ := vp_in_of (vin h1 (show p.toInt < (8 : Nat) by omega)) (by omega)
  exact ⟨j, hj, e⟩
theorem th0_in {p : Int32} {mn : Nat → Int32} (hm : mnOk mn) (h : ¬ s_X12_isThere (0 : Int32) p mn = 0) : ∃ j, j < 12 ∧ p = nI j := by
  unfold s_X12_isThere at h
  obtain ⟨-, h1, h2, h3⟩ := q_there hm h
  obtain ⟨j, hj, e⟩ := vp_in_of (vin h1 (show p.toInt < (12 : Nat) by omega)) (by omega)
  exact ⟨j, hj, e⟩
theorem th1_v {p : Int32} {mn : Nat → Int32} (hm : mnOk mn) (h : ¬ s_X12_isThere (1 : Int32) p mn = 0) : vp_in p 8 := by
  obtain ⟨j, hj, rfl⟩ := th1_in hm h
  exact vp_in_nI hj (by omega)
theorem th_v96 {p i : Int32} {mn : Nat → Int32} (hm : mnOk mn) (h : ¬ s_X12_isThere (1 : Int32) p mn = 0) (h' : ¬ s_X12_isThere (0 : Int32) i mn = 0) : vp_in (12 * p + i) 96 := by
  obtain ⟨j, hj, rfl⟩ := th1_in hm h
  obtain ⟨k, hk, rfl⟩ := th0_in hm h'
  exact in12 hj hk
theorem mn_ok {mn : Nat → Int32} {n0 n1 : Nat} (h0 : mn 0 = nI n0) (h1 : mn 1 = nI n1) (hn : n0 ≤ 12) (hn1 : n1 ≤ 8) : mnOk mn := by
  unfold mnOk
  rw [h0, h1, nI_toInt (by omega), nI_toInt (by omega)]
  omega
theorem th0_n {p : Int32} {mn : Nat → Int32} {n0 : Nat} (h0 : mn 0 = nI n0) (hn : n0 ≤ 12) (h : ¬ s_X12_isThere (0 : Int32) p mn = 0) : ∃ j, j < n0 ∧ p = nI j := by
  unfold s_X12_isThere at h
  have hk : ¬ s_X12_isTwo (0 : Int32) = 0 := by decide +kernel
  rw [if_neg hk] at h
  by_cases h2 : s_X12_in p.toInt64 (0 : Int64) (mn (0 : Int32).toNatClampNeg - 1).toInt64 = 0
  · rw [if_pos h2] at h; exact absurd rfl h
  · have h3 := min_yes.mp h2
    have e0 : (0 : Int64).toInt = 0 := rfl
    have e1 : (1 : Int32).toInt = 1 := rfl
    have em : mn (0 : Int32).toNatClampNeg = nI n0 := h0
    have en := nI_toInt (n := n0) (by omega)
    rw [em, i32_w, i32_w, i32_sub (by omega) (by omega)] at h3
    obtain ⟨j, hj, e⟩ := vp_in_of (n := n0) (vin (x := p) (by omega) (by omega)) (by omega)
    exact ⟨j, hj, e⟩

def s_X12_looksBy (w : Int32) (lo : Int32) (ma : Int32) (mn : Nat → Int32) : Int32 := if w = 0 then (s_X12_threes (mn 0)) else (if w = 1 then (s_X12_threes (mn 1)) else (if w = 2 then (lo) else (ma)))
set_option maxHeartbeats 400000 in
set_option maxRecDepth 100000 in
theorem c_X12_looksBy {l : Launch} {D : va_G} {ca ss ad : Nat → Nat} {f : Nat → va_E}  (w : Int32) (la : Int32) (dr : Int32) (go : Int32) (lo : Int32) (ma : Int32) (pa : Int32) (tu : Int32) (su : Int32) (mn : Nat → Int32) (hc0 : f 87 = .inr (11, mF ad la dr go lo ma pa tu su)) (hc1 : f 93 = .inl (ca 0, 2, .inl mn))  : gMi l D ca ss ad 108 yX12_looksBy cX12_looksBy 2 (some .int) 1 f [.ref (ad 87), .int w] (fun r u => r = s_X12_looksBy w lo ma mn ∧ u = f) := by
  refine gMi_ofK (by decide +kernel) (Nat.le_of_ble_eq_true rfl) (lv0 := [(0, .ref (ad 87)), (1, .int w)]) rfl (fun pT eT sT mT aT below meth cT AT QT C RT => ?_)
  have C : gX pT sT mT aT meth cT AT D ca ss 2 RX12 cX12_looksBy (some .int) := C
  refine gj_iload_n C 1 dX12_looksBy_0 rfl 1 rfl ?_
  refine gj_if_ne C 16 dX12_looksBy_1 (by decide) (fun c_1 => ?_) (fun c_1 => ?_)
  · refine gj_iload_n C 1 dX12_looksBy_16 rfl 1 rfl ?_
    refine gj_iconst C (v := 1) (by decide) dX12_looksBy_17 ?_
    refine gj_icmp_ne C 33 dX12_looksBy_18 (by decide) (fun c_2 => ?_) (fun c_2 => ?_)
    · refine gj_iload_n C 1 dX12_looksBy_33 rfl 1 rfl ?_
      refine gj_iconst C (v := 2) (by decide) dX12_looksBy_34 ?_
      refine gj_icmp_ne C 45 dX12_looksBy_35 (by decide) (fun c_3 => ?_) (fun c_3 => ?_)
      · refine gj_aload_n C 0 dX12_looksBy_45 rfl 0 rfl ?_
        refine gj_get C 87 (by decide) hc0 inX12 rfl 11 (by decide) w_860 (v := .int ma) rfl dX12_looksBy_46 ?_
        exact RT _ _ _ _ ⟨by unfold s_X12_looksBy; rw [if_neg c_1, if_neg c_2, if_neg c_3], rfl⟩ dX12_looksBy_49
      · refine gj_aload_n C 0 dX12_looksBy_38 rfl 0 rfl ?_
        refine gj_get C 87 (by decide) hc0 inX12 rfl 10 (by decide) w_859 (v := .int lo) rfl dX12_looksBy_39 ?_
        refine gj_goto C 49 dX12_looksBy_42 (by decide) ?_
        exact RT _ _ _ _ ⟨by unfold s_X12_looksBy; rw [if_neg c_1, if_neg c_2, if_pos c_3], rfl⟩ dX12_looksBy_49
    · refine gj_aload_n C 0 dX12_looksBy_21 rfl 0 rfl ?_
      refine gj_get C 87 (by decide) hc0 inX12 rfl 6 (by decide) w_855 (v := .ref (ad 93)) rfl dX12_looksBy_22 ?_
      refine gj_iconst C (v := 1) (by decide) dX12_looksBy_25 ?_
      refine gj_iald C 93 (by decide) hc1 (by unfold vp_in; decide) dX12_looksBy_26 ?_
      refine gj_seti (y := mn 1) rfl ?_
      refine gj_callSi C w_1138 w_1137 (c_X12_threes (mn 1)) mc_X12_threes ⟨Nat.le_of_ble_eq_true rfl, Nat.le_of_ble_eq_true rfl⟩ (rest := []) rfl (Nat.le_of_ble_eq_true rfl) dX12_looksBy_27 (fun r u h => ?_)
      obtain ⟨hr_, h⟩ := h; rw [hr_]
      rw [h]
      refine gj_goto C 49 dX12_looksBy_30 (by decide) ?_
      exact RT _ _ _ _ ⟨by unfold s_X12_looksBy; rw [if_neg c_1, if_pos c_2], rfl⟩ dX12_looksBy_49
  · refine gj_aload_n C 0 dX12_looksBy_4 rfl 0 rfl ?_
    refine gj_get C 87 (by decide) hc0 inX12 rfl 6 (by decide) w_855 (v := .ref (ad 93)) rfl dX12_looksBy_5 ?_
    refine gj_iconst C (v := 0) (by decide) dX12_looksBy_8 ?_
    refine gj_iald C 93 (by decide) hc1 (by unfold vp_in; decide) dX12_looksBy_9 ?_
    refine gj_seti (y := mn 0) rfl ?_
    refine gj_callSi C w_1138 w_1137 (c_X12_threes (mn 0)) mc_X12_threes ⟨Nat.le_of_ble_eq_true rfl, Nat.le_of_ble_eq_true rfl⟩ (rest := []) rfl (Nat.le_of_ble_eq_true rfl) dX12_looksBy_10 (fun r u h => ?_)
    obtain ⟨hr_, h⟩ := h; rw [hr_]
    rw [h]
    refine gj_goto C 49 dX12_looksBy_13 (by decide) ?_
    exact RT _ _ _ _ ⟨by unfold s_X12_looksBy; rw [if_pos c_1], rfl⟩ dX12_looksBy_49
def s_X12_takenBy (p : Int32) (w : Int32) (so : Nat → Int32) (ro : Nat → Int32) : Int32 := if w = 0 then (so p.toNatClampNeg) else (ro p.toNatClampNeg)
set_option maxHeartbeats 400000 in
set_option maxRecDepth 100000 in
theorem c_X12_takenBy {l : Launch} {D : va_G} {ca ss ad : Nat → Nat} {f : Nat → va_E}  (p : Int32) (w : Int32) (la : Int32) (dr : Int32) (go : Int32) (lo : Int32) (ma : Int32) (pa : Int32) (tu : Int32) (su : Int32) (so : Nat → Int32) (ro : Nat → Int32) (hc0 : f 87 = .inr (11, mF ad la dr go lo ma pa tu su)) (hc1 : f 96 = .inl (ca 0, 8, .inl so)) (hc2 : f 97 = .inl (ca 0, 8, .inl ro)) (hp : vp_in p 8) : gMi l D ca ss ad 108 yX12_takenBy cX12_takenBy 3 (some .int) 0 f [.ref (ad 87), .int p, .int w] (fun r u => r = s_X12_takenBy p w so ro ∧ u = f) := by
  refine gMi_ofK (by decide +kernel) (Nat.le_of_ble_eq_true rfl) (lv0 := [(0, .ref (ad 87)), (1, .int p), (2, .int w)]) rfl (fun pT eT sT mT aT below meth cT AT QT C RT => ?_)
  have C : gX pT sT mT aT meth cT AT D ca ss 3 RX12 cX12_takenBy (some .int) := C
  refine gj_iload_n C 2 dX12_takenBy_0 rfl 2 rfl ?_
  refine gj_if_ne C 13 dX12_takenBy_1 (by decide) (fun c_1 => ?_) (fun c_1 => ?_)
  · refine gj_aload_n C 0 dX12_takenBy_13 rfl 0 rfl ?_
    refine gj_get C 87 (by decide) hc0 inX12 rfl 14 (by decide) w_863 (v := .ref (ad 97)) rfl dX12_takenBy_14 ?_
    refine gj_iload_n C 1 dX12_takenBy_17 rfl 1 rfl ?_
    refine gj_iald C 97 (by decide) hc2 hp dX12_takenBy_18 ?_
    exact RT _ _ _ _ ⟨by unfold s_X12_takenBy; rw [if_neg c_1], rfl⟩ dX12_takenBy_19
  · refine gj_aload_n C 0 dX12_takenBy_4 rfl 0 rfl ?_
    refine gj_get C 87 (by decide) hc0 inX12 rfl 13 (by decide) w_862 (v := .ref (ad 96)) rfl dX12_takenBy_5 ?_
    refine gj_iload_n C 1 dX12_takenBy_8 rfl 1 rfl ?_
    refine gj_iald C 96 (by decide) hc1 hp dX12_takenBy_9 ?_
    refine gj_goto C 19 dX12_takenBy_10 (by decide) ?_
    exact RT _ _ _ _ ⟨by unfold s_X12_takenBy; rw [if_pos c_1], rfl⟩ dX12_takenBy_19
def s_X12_confirmedBy (p : Int32) (w : Int32) (su_ : Nat → Int32) (fa : Nat → Int32) : Int32 := if w = 0 then (su_ p.toNatClampNeg) else (fa p.toNatClampNeg)
set_option maxHeartbeats 400000 in
set_option maxRecDepth 100000 in
theorem c_X12_confirmedBy {l : Launch} {D : va_G} {ca ss ad : Nat → Nat} {f : Nat → va_E}  (p : Int32) (w : Int32) (la : Int32) (dr : Int32) (go : Int32) (lo : Int32) (ma : Int32) (pa : Int32) (tu : Int32) (su : Int32) (su_ : Nat → Int32) (fa : Nat → Int32) (hc0 : f 87 = .inr (11, mF ad la dr go lo ma pa tu su)) (hc1 : f 103 = .inl (ca 0, 8, .inl su_)) (hc2 : f 104 = .inl (ca 0, 8, .inl fa)) (hp : vp_in p 8) : gMi l D ca ss ad 108 yX12_confirmedBy cX12_confirmedBy 3 (some .int) 0 f [.ref (ad 87), .int p, .int w] (fun r u => r = s_X12_confirmedBy p w su_ fa ∧ u = f) := by
  refine gMi_ofK (by decide +kernel) (Nat.le_of_ble_eq_true rfl) (lv0 := [(0, .ref (ad 87)), (1, .int p), (2, .int w)]) rfl (fun pT eT sT mT aT below meth cT AT QT C RT => ?_)
  have C : gX pT sT mT aT meth cT AT D ca ss 3 RX12 cX12_confirmedBy (some .int) := C
  refine gj_iload_n C 2 dX12_confirmedBy_0 rfl 2 rfl ?_
  refine gj_if_ne C 13 dX12_confirmedBy_1 (by decide) (fun c_1 => ?_) (fun c_1 => ?_)
  · refine gj_aload_n C 0 dX12_confirmedBy_13 rfl 0 rfl ?_
    refine gj_get C 87 (by decide) hc0 inX12 rfl 23 (by decide) w_872 (v := .ref (ad 104)) rfl dX12_confirmedBy_14 ?_
    refine gj_iload_n C 1 dX12_confirmedBy_17 rfl 1 rfl ?_
    refine gj_iald C 104 (by decide) hc2 hp dX12_confirmedBy_18 ?_
    exact RT _ _ _ _ ⟨by unfold s_X12_confirmedBy; rw [if_neg c_1], rfl⟩ dX12_confirmedBy_19
  · refine gj_aload_n C 0 dX12_confirmedBy_4 rfl 0 rfl ?_
    refine gj_get C 87 (by decide) hc0 inX12 rfl 22 (by decide) w_871 (v := .ref (ad 103)) rfl dX12_confirmedBy_5 ?_
    refine gj_iload_n C 1 dX12_confirmedBy_8 rfl 1 rfl ?_
    refine gj_iald C 103 (by decide) hc1 hp dX12_confirmedBy_9 ?_
    refine gj_goto C 19 dX12_confirmedBy_10 (by decide) ?_
    exact RT _ _ _ _ ⟨by unfold s_X12_confirmedBy; rw [if_pos c_1], rfl⟩ dX12_confirmedBy_19
def s_X12_placeBy (i : Int32) (w : Int32) (tu : Int32) (pl : Nat → Int32) : Int32 := if tu = 0 then ((-2147483648)) else (pl ((3 * i) + w).toNatClampNeg)
set_option maxHeartbeats 400000 in
set_option maxRecDepth 100000 in
theorem c_X12_placeBy {l : Launch} {D : va_G} {ca ss ad : Nat → Nat} {f : Nat → va_E}  (i : Int32) (w : Int32) (la : Int32) (dr : Int32) (go : Int32) (lo : Int32) (ma : Int32) (pa : Int32) (tu : Int32) (su : Int32) (pl : Nat → Int32) (hc0 : f 87 = .inr (11, mF ad la dr go lo ma pa tu su)) (hc1 : f 102 = .inl (ca 0, 36, .inl pl)) (hp : ¬ tu = 0 → vp_in (3 * i + w) 36) : gMi l D ca ss ad 108 yX12_placeBy cX12_placeBy 3 (some .int) 0 f [.ref (ad 87), .int i, .int w] (fun r u => r = s_X12_placeBy i w tu pl ∧ u = f) := by
  refine gMi_ofK (by decide +kernel) (Nat.le_of_ble_eq_true rfl) (lv0 := [(0, .ref (ad 87)), (1, .int i), (2, .int w)]) rfl (fun pT eT sT mT aT below meth cT AT QT C RT => ?_)
  have C : gX pT sT mT aT meth cT AT D ca ss 3 RX12 cX12_placeBy (some .int) := C
  refine gj_aload_n C 0 dX12_placeBy_0 rfl 0 rfl ?_
  refine gj_get C 87 (by decide) hc0 inX12 rfl 17 (by decide) w_866 (v := .int tu) rfl dX12_placeBy_1 ?_
  refine gj_if_eq C 20 dX12_placeBy_4 (by decide) (fun c_1 => ?_) (fun c_1 => ?_)
  · refine gj_ldc C (v := (-2147483648)) w_970 dX12_placeBy_20 ?_
    exact RT _ _ _ _ ⟨by unfold s_X12_placeBy; rw [if_pos c_1], rfl⟩ dX12_placeBy_22
  · refine gj_aload_n C 0 dX12_placeBy_7 rfl 0 rfl ?_
    refine gj_get C 87 (by decide) hc0 inX12 rfl 21 (by decide) w_870 (v := .ref (ad 102)) rfl dX12_placeBy_8 ?_
    refine gj_iconst C (v := 3) (by decide) dX12_placeBy_11 ?_
    refine gj_iload_n C 1 dX12_placeBy_12 rfl 1 rfl ?_
    refine gj_imul C dX12_placeBy_13 ?_
    refine gj_iload_n C 2 dX12_placeBy_14 rfl 2 rfl ?_
    refine gj_iadd C dX12_placeBy_15 ?_
    refine gj_iald C 102 (by decide) hc1 (hp c_1) dX12_placeBy_16 ?_
    refine gj_goto C 22 dX12_placeBy_17 (by decide) ?_
    exact RT _ _ _ _ ⟨by unfold s_X12_placeBy; rw [if_neg c_1], rfl⟩ dX12_placeBy_22
set_option maxHeartbeats 400000 in
set_option maxRecDepth 100000 in
theorem c_X12_wrongNow {l : Launch} {D : va_G} {ca ss ad : Nat → Nat} {f : Nat → va_E}   (la : Int32) (dr : Int32) (go : Int32) (lo : Int32) (ma : Int32) (pa : Int32) (tu : Int32) (su : Int32) (so : Nat → Int32) (su_ : Nat → Int32) (hc0 : f 87 = .inr (11, mF ad la dr go lo ma pa tu su)) (hc1 : f 96 = .inl (ca 0, 8, .inl so)) (hc2 : f 103 = .inl (ca 0, 8, .inl su_))  : gMi l D ca ss ad 108 yX12_wrongNow cX12_wrongNow 3 (some .int) 0 f [.ref (ad 87)] (fun r u => r = mW so su_ 8 ∧ u = f) := by
  refine gMi_ofK (by decide +kernel) (Nat.le_of_ble_eq_true rfl) (lv0 := [(0, .ref (ad 87))]) rfl (fun pT eT sT mT aT below meth cT AT QT C RT => ?_)
  have C : gX pT sT mT aT meth cT AT D ca ss 3 RX12 cX12_wrongNow (some .int) := C
  refine gj_iconst C (v := 0) (by decide) dX12_wrongNow_0 ?_
  refine gj_seti (y := mW so su_ 0) rfl ?_
  refine gj_istore_n C (lv' := [(1, .int (mW so su_ 0)), (0, .ref (ad 87))]) 1 dX12_wrongNow_1 rfl (by decide) rfl ?_
  refine gj_iconst C (v := 0) (by decide) dX12_wrongNow_2 ?_
  refine gj_seti (y := nI 0) rfl ?_
  refine gj_istore_n C (lv' := [(2, .int (nI 0)), (1, .int (mW so su_ 0)), (0, .ref (ad 87))]) 2 dX12_wrongNow_3 rfl (by decide) rfl ?_
  have loop_1 : ∀ (m0 t0 : Nat), t0 + m0 = 8 → gJ pT l eT (Rm 0) sT mT aT below meth cT AT QT D ad 108 3 (f) [(2, .int (nI t0)), (1, .int (mW so su_ t0)), (0, .ref (ad 87))] 4 [] := by
    intro m0
    induction m0 with
    | zero =>
      intro t0 hk_t0  
      obtain rfl : t0 = 8 := (by omega)
      refine gj_iload_n C 2 dX12_wrongNow_4 rfl 0 rfl ?_
      refine gj_bipush C (v := 8) (by decide) dX12_wrongNow_5 ?_
      refine gj_icmp_ge C 51 dX12_wrongNow_7 (by decide) (fun c_3 => ?_) (fun c_3 => absurd (Int32.le_refl _) c_3)
      refine gj_iload_n C 1 dX12_wrongNow_51 rfl 1 rfl ?_
      exact RT _ _ _ _ ⟨rfl, rfl⟩ dX12_wrongNow_52
    | succ m0 ih_2 =>
      intro t0 hk_t0  
      refine gj_iload_n C 2 dX12_wrongNow_4 rfl 0 rfl ?_
      refine gj_bipush C (v := 8) (by decide) dX12_wrongNow_5 ?_
      refine gj_icmp_ge C 51 dX12_wrongNow_7 (by decide) (fun c_4 => absurd c_4 (show ¬ (8 : Int32) ≤ nI t0 from nI_ge (b := 8) (by omega) (by omega))) (fun c_4 => ?_)
      refine gj_iload_n C 1 dX12_wrongNow_10 rfl 1 rfl ?_
      refine gj_aload_n C 0 dX12_wrongNow_11 rfl 2 rfl ?_
      refine gj_get C 87 (by decide) hc0 inX12 rfl 13 (by decide) w_862 (v := .ref (ad 96)) rfl dX12_wrongNow_12 ?_
      refine gj_iload_n C 2 dX12_wrongNow_15 rfl 0 rfl ?_
      refine gj_iald C 96 (by decide) hc1 (vp_in_nI (by omega) (by omega)) dX12_wrongNow_16 ?_
      refine gj_seti (congrArg _ (nI_clamp (by omega))) ?_
      refine gj_iconst C (v := (-1)) (by decide) dX12_wrongNow_17 ?_
      refine gj_icmp_eq C 42 dX12_wrongNow_18 (by decide) (fun c_5 => ?_) (fun c_5 => ?_)
      · refine gj_iconst C (v := 0) (by decide) dX12_wrongNow_42 ?_
        refine gj_ior C dX12_wrongNow_43 ?_
        refine gj_seti (y := mW so su_ (t0 + 1)) (show mW so su_ (t0 + 1) = (mW so su_ t0) ||| 0 from congrArg (fun z => mW so su_ t0 ||| z) ((if_pos c_5).trans (rfl))).symm ?_
        refine gj_istore_n C (lv' := [(1, .int (mW so su_ (t0 + 1))), (2, .int (nI t0)), (0, .ref (ad 87))]) 1 dX12_wrongNow_44 rfl (by decide) rfl ?_
        refine gj_iinc C (v := nI (t0 + 1)) (lv' := [(2, .int (nI (t0 + 1))), (1, .int (mW so su_ (t0 + 1))), (0, .ref (ad 87))]) dX12_wrongNow_45 1 rfl (nI_1 _) (by decide) rfl ?_
        refine gj_goto C 4 dX12_wrongNow_48 (by decide) ?_
        refine gj_lv [0, 1, 2] rfl ?_
        exact ih_2 (t0 + 1) (by omega)
      · refine gj_aload_n C 0 dX12_wrongNow_21 rfl 2 rfl ?_
        refine gj_get C 87 (by decide) hc0 inX12 rfl 13 (by decide) w_862 (v := .ref (ad 96)) rfl dX12_wrongNow_22 ?_
        refine gj_iload_n C 2 dX12_wrongNow_25 rfl 0 rfl ?_
        refine gj_iald C 96 (by decide) hc1 (vp_in_nI (by omega) (by omega)) dX12_wrongNow_26 ?_
        refine gj_seti (congrArg _ (nI_clamp (by omega))) ?_
        refine gj_aload_n C 0 dX12_wrongNow_27 rfl 2 rfl ?_
        refine gj_get C 87 (by decide) hc0 inX12 rfl 22 (by decide) w_871 (v := .ref (ad 103)) rfl dX12_wrongNow_28 ?_
        refine gj_iload_n C 2 dX12_wrongNow_31 rfl 0 rfl ?_
        refine gj_iald C 103 (by decide) hc2 (vp_in_nI (by omega) (by omega)) dX12_wrongNow_32 ?_
        refine gj_seti (congrArg _ (nI_clamp (by omega))) ?_
        refine gj_icmp_eq C 42 dX12_wrongNow_33 (by decide) (fun c_6 => ?_) (fun c_6 => ?_)
        · refine gj_iconst C (v := 0) (by decide) dX12_wrongNow_42 ?_
          refine gj_ior C dX12_wrongNow_43 ?_
          refine gj_seti (y := mW so su_ (t0 + 1)) (show mW so su_ (t0 + 1) = (mW so su_ t0) ||| 0 from congrArg (fun z => mW so su_ t0 ||| z) ((if_neg c_5).trans ((if_pos c_6).trans (rfl)))).symm ?_
          refine gj_istore_n C (lv' := [(1, .int (mW so su_ (t0 + 1))), (2, .int (nI t0)), (0, .ref (ad 87))]) 1 dX12_wrongNow_44 rfl (by decide) rfl ?_
          refine gj_iinc C (v := nI (t0 + 1)) (lv' := [(2, .int (nI (t0 + 1))), (1, .int (mW so su_ (t0 + 1))), (0, .ref (ad 87))]) dX12_wrongNow_45 1 rfl (nI_1 _) (by decide) rfl ?_
          refine gj_goto C 4 dX12_wrongNow_48 (by decide) ?_
          refine gj_lv [0, 1, 2] rfl ?_
          exact ih_2 (t0 + 1) (by omega)
        · refine gj_iconst C (v := 1) (by decide) dX12_wrongNow_36 ?_
          refine gj_iload_n C 2 dX12_wrongNow_37 rfl 0 rfl ?_
          refine gj_ishl C dX12_wrongNow_38 ?_
          refine gj_goto C 43 dX12_wrongNow_39 (by decide) ?_
          refine gj_ior C dX12_wrongNow_43 ?_
          refine gj_seti (y := mW so su_ (t0 + 1)) (show mW so su_ (t0 + 1) = (mW so su_ t0) ||| (1 <<< ((nI t0) &&& 31)) from congrArg (fun z => mW so su_ t0 ||| z) ((if_neg c_5).trans ((if_neg c_6).trans (rfl)))).symm ?_
          refine gj_istore_n C (lv' := [(1, .int (mW so su_ (t0 + 1))), (2, .int (nI t0)), (0, .ref (ad 87))]) 1 dX12_wrongNow_44 rfl (by decide) rfl ?_
          refine gj_iinc C (v := nI (t0 + 1)) (lv' := [(2, .int (nI (t0 + 1))), (1, .int (mW so su_ (t0 + 1))), (0, .ref (ad 87))]) dX12_wrongNow_45 1 rfl (nI_1 _) (by decide) rfl ?_
          refine gj_goto C 4 dX12_wrongNow_48 (by decide) ?_
          refine gj_lv [0, 1, 2] rfl ?_
          exact ih_2 (t0 + 1) (by omega)
  refine gj_lv [0, 1, 2] rfl ?_
  exact loop_1 (8 - 0) 0 (by omega)
def s_X12_looks (w : Int32) (go : Int32) (di : Nat → Int32) (mn : Nat → Int32) (se : Nat → Int32) (n0 : Nat) (n1 : Nat) : Int32 := if (s_X12_in w.toInt64 (0 : Int64) (3 : Int64)) = 0 then ((-2)) else (s_X12_looksBy w ((mVotes di se n0 n1 go).2.2) ((mVotes di se n0 n1 go).2.1) mn)
set_option maxHeartbeats 400000 in
set_option maxRecDepth 100000 in
theorem c_X12_looks {l : Launch} {D : va_G} {ca ss ad : Nat → Nat} {f : Nat → va_E}  (w : Int32) (la : Int32) (dr : Int32) (go : Int32) (lo : Int32) (ma : Int32) (pa : Int32) (tu : Int32) (su : Int32) (di : Nat → Int32) (mn : Nat → Int32) (se : Nat → Int32) (vo : Nat → Int32) (so : Nat → Int32) (ro : Nat → Int32) (us : Nat → Int32) (sta : Nat → Int64) (spa : Nat → Int64) (sf : Nat → Int64) (pl : Nat → Int32) (su_ : Nat → Int32) (fa : Nat → Int32) (n0 : Nat) (n1 : Nat) (hc0 : f 87 = .inr (11, mF ad la dr go lo ma pa tu su)) (hc1 : f 92 = .inl (ca 0, 60, .inl di)) (hc2 : f 93 = .inl (ca 0, 2, .inl mn)) (hc3 : f 94 = .inl (ca 0, 4, .inl se)) (hc4 : f 95 = .inl (ca 0, 96, .inl vo)) (hc5 : f 96 = .inl (ca 0, 8, .inl so)) (hc6 : f 97 = .inl (ca 0, 8, .inl ro)) (hc7 : f 98 = .inl (ca 2, 12, .inl us)) (hc8 : f 99 = .inl (ca 1, 9, .inr (.inl sta))) (hc9 : f 100 = .inl (ca 1, 9, .inr (.inl spa))) (hc10 : f 101 = .inl (ca 1, 3, .inr (.inl sf))) (hc11 : f 102 = .inl (ca 0, 36, .inl pl)) (hc12 : f 103 = .inl (ca 0, 8, .inl su_)) (hc13 : f 104 = .inl (ca 0, 8, .inl fa)) (h0 : mn 0 = nI n0) (h1 : mn 1 = nI n1) (hn : n0 ≤ 12) (hn1 : n1 ≤ 8) (hz : ¬ se 0 = 0) (hd : dOk di) : gMi l D ca ss ad 108 yX12_looks cX12_looks 2 (some .int) 8 f [.ref (ad 87), .int w] (fun r u => ∃ (spaX staX sfX : Nat → Int64) (plX : Nat → Int32), (rU di se n0 n1 go = 1 → ∀ j, j < 3 * n0 → plX j = rP di se n0 n1 go j) ∧ r = s_X12_looks w go di mn se n0 n1 ∧ u = va_up (va_up (va_up (va_up (va_up (va_up (va_up (va_up (va_up (va_up (va_up f 87 (.inr (11, mF ad la dr go ((mVotes di se n0 n1 go).2.2) ((mVotes di se n0 n1 go).2.1) ((rT di se n0 n1 go).2.2.2) (rU di se n0 n1 go) ((rC di se n0 n1 go).2.2.2)))) 95 (.inl (ca 0, 96, .inl ((mVotes di se n0 n1 go).1)))) 96 (.inl (ca 0, 8, .inl ((rT di se n0 n1 go).1)))) 97 (.inl (ca 0, 8, .inl ((rT di se n0 n1 go).2.1)))) 98 (.inl (ca 2, 12, .inl ((rC di se n0 n1 go).1)))) 100 (.inl (ca 1, 9, .inr (.inl spaX)))) 99 (.inl (ca 1, 9, .inr (.inl staX)))) 101 (.inl (ca 1, 3, .inr (.inl sfX)))) 102 (.inl (ca 0, 36, .inl plX))) 103 (.inl (ca 0, 8, .inl ((rC di se n0 n1 go).2.1)))) 104 (.inl (ca 0, 8, .inl ((rC di se n0 n1 go).2.2.1)))) := by
  refine gMi_ofK (by decide +kernel) (Nat.le_of_ble_eq_true rfl) (lv0 := [(0, .ref (ad 87)), (1, .int w)]) rfl (fun pT eT sT mT aT below meth cT AT QT C RT => ?_)
  have C : gX pT sT mT aT meth cT AT D ca ss 2 RX12 cX12_looks (some .int) := C
  refine gj_aload_n C 0 dX12_looks_0 rfl 0 rfl ?_
  refine gj_callVv C mi_X12_find w_1069 87 (by decide) hc0 rfl (c_X12_find la dr go lo ma pa tu su di mn se vo so ro us sta spa sf pl su_ fa n0 n1 hc0 hc1 hc2 hc3 hc4 hc5 hc6 hc7 hc8 hc9 hc10 hc11 hc12 hc13 h0 h1 hn hn1 hz hd) mc_X12_find ⟨Nat.le_of_ble_eq_true rfl, Nat.le_of_ble_eq_true rfl⟩ (rest := []) rfl (Nat.le_of_ble_eq_true rfl) dX12_looks_1 (fun u h => ?_)
  obtain ⟨spaX_1, staX_1, sfX_1, plX_1, hPLX_1, rfl⟩ := h
  refine gj_iload_n C 1 dX12_looks_4 rfl 1 rfl ?_
  refine gj_i2l C dX12_looks_5 ?_
  refine gj_lconst C (v := 0) rfl dX12_looks_6 ?_
  refine gj_ldc2 C (v := 3) w_942 dX12_looks_7 ?_
  refine gj_callSi C w_944 w_943 (c_X12_in w.toInt64 (0 : Int64) (3 : Int64)) mc_X12_in ⟨Nat.le_of_ble_eq_true rfl, Nat.le_of_ble_eq_true rfl⟩ (rest := []) rfl (Nat.le_of_ble_eq_true rfl) dX12_looks_10 (fun r u h => ?_)
  obtain ⟨hr_, hu_⟩ := h; rw [hr_]; subst hu_
  refine gj_if_eq C 24 dX12_looks_13 (by decide) (fun c_2 => ?_) (fun c_2 => ?_)
  · refine gj_bipush C (v := (-2)) (by decide) dX12_looks_24 ?_
    exact RT _ _ _ _ ⟨_, _, _, _, hPLX_1, by unfold s_X12_looks; rw [if_pos c_2], rfl⟩ dX12_looks_26
  · refine gj_aload_n C 0 dX12_looks_16 rfl 0 rfl ?_
    refine gj_iload_n C 1 dX12_looks_17 rfl 1 rfl ?_
    refine gj_callVi C mi_X12_looksBy w_1133 87 (by decide) (up_nx (by decide) (up_nx (by decide) (up_nx (by decide) (up_nx (by decide) (up_nx (by decide) (up_nx (by decide) (up_nx (by decide) (up_nx (by decide) (up_nx (by decide) (up_nx (by decide) (va_up_self _ _ _))))))))))) rfl (c_X12_looksBy w la dr go ((mVotes di se n0 n1 go).2.2) ((mVotes di se n0 n1 go).2.1) ((rT di se n0 n1 go).2.2.2) (rU di se n0 n1 go) ((rC di se n0 n1 go).2.2.2) mn (up_nx (by decide) (up_nx (by decide) (up_nx (by decide) (up_nx (by decide) (up_nx (by decide) (up_nx (by decide) (up_nx (by decide) (up_nx (by decide) (up_nx (by decide) (up_nx (by decide) (va_up_self _ _ _))))))))))) (up_nx (by decide) (up_nx (by decide) (up_nx (by decide) (up_nx (by decide) (up_nx (by decide) (up_nx (by decide) (up_nx (by decide) (up_nx (by decide) (up_nx (by decide) (up_nx (by decide) (up_nx (by decide) (hc2))))))))))))) mc_X12_looksBy ⟨Nat.le_of_ble_eq_true rfl, Nat.le_of_ble_eq_true rfl⟩ (rest := []) rfl (Nat.le_of_ble_eq_true rfl) dX12_looks_18 (fun r u h => ?_)
    obtain ⟨hr_, hu_⟩ := h; rw [hr_]; subst hu_
    refine gj_goto C 26 dX12_looks_21 (by decide) ?_
    exact RT _ _ _ _ ⟨_, _, _, _, hPLX_1, by unfold s_X12_looks; rw [if_neg c_2], rfl⟩ dX12_looks_26
def s_X12_votes (p : Int32) (i : Int32) (go : Int32) (di : Nat → Int32) (mn : Nat → Int32) (se : Nat → Int32) (n0 : Nat) (n1 : Nat) : Int32 := if (s_X12_isThere (1 : Int32) p mn) = 0 then ((-2)) else (if (s_X12_isThere (0 : Int32) i mn) = 0 then ((-2)) else (((mVotes di se n0 n1 go).1) ((12 * p) + i).toNatClampNeg))
set_option maxHeartbeats 400000 in
set_option maxRecDepth 100000 in
theorem c_X12_votes {l : Launch} {D : va_G} {ca ss ad : Nat → Nat} {f : Nat → va_E}  (p : Int32) (i : Int32) (la : Int32) (dr : Int32) (go : Int32) (lo : Int32) (ma : Int32) (pa : Int32) (tu : Int32) (su : Int32) (di : Nat → Int32) (mn : Nat → Int32) (se : Nat → Int32) (vo : Nat → Int32) (so : Nat → Int32) (ro : Nat → Int32) (us : Nat → Int32) (sta : Nat → Int64) (spa : Nat → Int64) (sf : Nat → Int64) (pl : Nat → Int32) (su_ : Nat → Int32) (fa : Nat → Int32) (n0 : Nat) (n1 : Nat) (hc0 : f 87 = .inr (11, mF ad la dr go lo ma pa tu su)) (hc1 : f 92 = .inl (ca 0, 60, .inl di)) (hc2 : f 93 = .inl (ca 0, 2, .inl mn)) (hc3 : f 94 = .inl (ca 0, 4, .inl se)) (hc4 : f 95 = .inl (ca 0, 96, .inl vo)) (hc5 : f 96 = .inl (ca 0, 8, .inl so)) (hc6 : f 97 = .inl (ca 0, 8, .inl ro)) (hc7 : f 98 = .inl (ca 2, 12, .inl us)) (hc8 : f 99 = .inl (ca 1, 9, .inr (.inl sta))) (hc9 : f 100 = .inl (ca 1, 9, .inr (.inl spa))) (hc10 : f 101 = .inl (ca 1, 3, .inr (.inl sf))) (hc11 : f 102 = .inl (ca 0, 36, .inl pl)) (hc12 : f 103 = .inl (ca 0, 8, .inl su_)) (hc13 : f 104 = .inl (ca 0, 8, .inl fa)) (h0 : mn 0 = nI n0) (h1 : mn 1 = nI n1) (hn : n0 ≤ 12) (hn1 : n1 ≤ 8) (hz : ¬ se 0 = 0) (hd : dOk di) : gMi l D ca ss ad 108 yX12_votes cX12_votes 3 (some .int) 8 f [.ref (ad 87), .int p, .int i] (fun r u => ∃ (spaX staX sfX : Nat → Int64) (plX : Nat → Int32), (rU di se n0 n1 go = 1 → ∀ j, j < 3 * n0 → plX j = rP di se n0 n1 go j) ∧ r = s_X12_votes p i go di mn se n0 n1 ∧ u = va_up (va_up (va_up (va_up (va_up (va_up (va_up (va_up (va_up (va_up (va_up f 87 (.inr (11, mF ad la dr go ((mVotes di se n0 n1 go).2.2) ((mVotes di se n0 n1 go).2.1) ((rT di se n0 n1 go).2.2.2) (rU di se n0 n1 go) ((rC di se n0 n1 go).2.2.2)))) 95 (.inl (ca 0, 96, .inl ((mVotes di se n0 n1 go).1)))) 96 (.inl (ca 0, 8, .inl ((rT di se n0 n1 go).1)))) 97 (.inl (ca 0, 8, .inl ((rT di se n0 n1 go).2.1)))) 98 (.inl (ca 2, 12, .inl ((rC di se n0 n1 go).1)))) 100 (.inl (ca 1, 9, .inr (.inl spaX)))) 99 (.inl (ca 1, 9, .inr (.inl staX)))) 101 (.inl (ca 1, 3, .inr (.inl sfX)))) 102 (.inl (ca 0, 36, .inl plX))) 103 (.inl (ca 0, 8, .inl ((rC di se n0 n1 go).2.1)))) 104 (.inl (ca 0, 8, .inl ((rC di se n0 n1 go).2.2.1)))) := by
  refine gMi_ofK (by decide +kernel) (Nat.le_of_ble_eq_true rfl) (lv0 := [(0, .ref (ad 87)), (1, .int p), (2, .int i)]) rfl (fun pT eT sT mT aT below meth cT AT QT C RT => ?_)
  have C : gX pT sT mT aT meth cT AT D ca ss 3 RX12 cX12_votes (some .int) := C
  refine gj_aload_n C 0 dX12_votes_0 rfl 0 rfl ?_
  refine gj_callVv C mi_X12_find w_1069 87 (by decide) hc0 rfl (c_X12_find la dr go lo ma pa tu su di mn se vo so ro us sta spa sf pl su_ fa n0 n1 hc0 hc1 hc2 hc3 hc4 hc5 hc6 hc7 hc8 hc9 hc10 hc11 hc12 hc13 h0 h1 hn hn1 hz hd) mc_X12_find ⟨Nat.le_of_ble_eq_true rfl, Nat.le_of_ble_eq_true rfl⟩ (rest := []) rfl (Nat.le_of_ble_eq_true rfl) dX12_votes_1 (fun u h => ?_)
  obtain ⟨spaX_1, staX_1, sfX_1, plX_1, hPLX_1, rfl⟩ := h
  refine gj_aload_n C 0 dX12_votes_4 rfl 0 rfl ?_
  refine gj_iconst C (v := 1) (by decide) dX12_votes_5 ?_
  refine gj_iload_n C 1 dX12_votes_6 rfl 1 rfl ?_
  refine gj_callVi C mi_X12_isThere w_1002 87 (by decide) (up_nx (by decide) (up_nx (by decide) (up_nx (by decide) (up_nx (by decide) (up_nx (by decide) (up_nx (by decide) (up_nx (by decide) (up_nx (by decide) (up_nx (by decide) (up_nx (by decide) (va_up_self _ _ _))))))))))) rfl (c_X12_isThere (1 : Int32) p la dr go ((mVotes di se n0 n1 go).2.2) ((mVotes di se n0 n1 go).2.1) ((rT di se n0 n1 go).2.2.2) (rU di se n0 n1 go) ((rC di se n0 n1 go).2.2.2) mn (up_nx (by decide) (up_nx (by decide) (up_nx (by decide) (up_nx (by decide) (up_nx (by decide) (up_nx (by decide) (up_nx (by decide) (up_nx (by decide) (up_nx (by decide) (up_nx (by decide) (va_up_self _ _ _))))))))))) (up_nx (by decide) (up_nx (by decide) (up_nx (by decide) (up_nx (by decide) (up_nx (by decide) (up_nx (by decide) (up_nx (by decide) (up_nx (by decide) (up_nx (by decide) (up_nx (by decide) (up_nx (by decide) (hc2))))))))))))) mc_X12_isThere ⟨Nat.le_of_ble_eq_true rfl, Nat.le_of_ble_eq_true rfl⟩ (rest := []) rfl (Nat.le_of_ble_eq_true rfl) dX12_votes_7 (fun r u h => ?_)
  obtain ⟨hr_, hu_⟩ := h; rw [hr_]; subst hu_
  refine gj_if_eq C 36 dX12_votes_10 (by decide) (fun c_2 => ?_) (fun c_2 => ?_)
  · refine gj_bipush C (v := (-2)) (by decide) dX12_votes_36 ?_
    exact RT _ _ _ _ ⟨_, _, _, _, hPLX_1, by unfold s_X12_votes; rw [if_pos c_2], rfl⟩ dX12_votes_38
  · refine gj_aload_n C 0 dX12_votes_13 rfl 0 rfl ?_
    refine gj_iconst C (v := 0) (by decide) dX12_votes_14 ?_
    refine gj_iload_n C 2 dX12_votes_15 rfl 2 rfl ?_
    refine gj_callVi C mi_X12_isThere w_1002 87 (by decide) (up_nx (by decide) (up_nx (by decide) (up_nx (by decide) (up_nx (by decide) (up_nx (by decide) (up_nx (by decide) (up_nx (by decide) (up_nx (by decide) (up_nx (by decide) (up_nx (by decide) (va_up_self _ _ _))))))))))) rfl (c_X12_isThere (0 : Int32) i la dr go ((mVotes di se n0 n1 go).2.2) ((mVotes di se n0 n1 go).2.1) ((rT di se n0 n1 go).2.2.2) (rU di se n0 n1 go) ((rC di se n0 n1 go).2.2.2) mn (up_nx (by decide) (up_nx (by decide) (up_nx (by decide) (up_nx (by decide) (up_nx (by decide) (up_nx (by decide) (up_nx (by decide) (up_nx (by decide) (up_nx (by decide) (up_nx (by decide) (va_up_self _ _ _))))))))))) (up_nx (by decide) (up_nx (by decide) (up_nx (by decide) (up_nx (by decide) (up_nx (by decide) (up_nx (by decide) (up_nx (by decide) (up_nx (by decide) (up_nx (by decide) (up_nx (by decide) (up_nx (by decide) (hc2))))))))))))) mc_X12_isThere ⟨Nat.le_of_ble_eq_true rfl, Nat.le_of_ble_eq_true rfl⟩ (rest := []) rfl (Nat.le_of_ble_eq_true rfl) dX12_votes_16 (fun r u h => ?_)
    obtain ⟨hr_, hu_⟩ := h; rw [hr_]; subst hu_
    refine gj_if_eq C 36 dX12_votes_19 (by decide) (fun c_3 => ?_) (fun c_3 => ?_)
    · refine gj_bipush C (v := (-2)) (by decide) dX12_votes_36 ?_
      exact RT _ _ _ _ ⟨_, _, _, _, hPLX_1, by unfold s_X12_votes; rw [if_neg c_2, if_pos c_3], rfl⟩ dX12_votes_38
    · refine gj_aload_n C 0 dX12_votes_22 rfl 0 rfl ?_
      refine gj_get C 87 (by decide) (up_nx (by decide) (up_nx (by decide) (up_nx (by decide) (up_nx (by decide) (up_nx (by decide) (up_nx (by decide) (up_nx (by decide) (up_nx (by decide) (up_nx (by decide) (up_nx (by decide) (va_up_self _ _ _))))))))))) inX12 rfl 12 (by decide) w_861 (v := .ref (ad 95)) rfl dX12_votes_23 ?_
      refine gj_bipush C (v := 12) (by decide) dX12_votes_26 ?_
      refine gj_iload_n C 1 dX12_votes_28 rfl 1 rfl ?_
      refine gj_imul C dX12_votes_29 ?_
      refine gj_iload_n C 2 dX12_votes_30 rfl 2 rfl ?_
      refine gj_iadd C dX12_votes_31 ?_
      refine gj_iald C 95 (by decide) (up_nx (by decide) (up_nx (by decide) (up_nx (by decide) (up_nx (by decide) (up_nx (by decide) (up_nx (by decide) (up_nx (by decide) (up_nx (by decide) (up_nx (by decide) (va_up_self _ _ _)))))))))) (th_v96 (mn_ok h0 h1 hn hn1) c_2 c_3) dX12_votes_32 ?_
      refine gj_goto C 38 dX12_votes_33 (by decide) ?_
      exact RT _ _ _ _ ⟨_, _, _, _, hPLX_1, by unfold s_X12_votes; rw [if_neg c_2, if_neg c_3], rfl⟩ dX12_votes_38
def s_X12_taken (p : Int32) (w : Int32) (go : Int32) (di : Nat → Int32) (mn : Nat → Int32) (se : Nat → Int32) (n0 : Nat) (n1 : Nat) : Int32 := if (s_X12_isThere (1 : Int32) p mn) = 0 then ((-2)) else (if (s_X12_isTwo w) = 0 then ((-2)) else (s_X12_takenBy p w ((rT di se n0 n1 go).1) ((rT di se n0 n1 go).2.1)))
set_option maxHeartbeats 400000 in
set_option maxRecDepth 100000 in
theorem c_X12_taken {l : Launch} {D : va_G} {ca ss ad : Nat → Nat} {f : Nat → va_E}  (p : Int32) (w : Int32) (la : Int32) (dr : Int32) (go : Int32) (lo : Int32) (ma : Int32) (pa : Int32) (tu : Int32) (su : Int32) (di : Nat → Int32) (mn : Nat → Int32) (se : Nat → Int32) (vo : Nat → Int32) (so : Nat → Int32) (ro : Nat → Int32) (us : Nat → Int32) (sta : Nat → Int64) (spa : Nat → Int64) (sf : Nat → Int64) (pl : Nat → Int32) (su_ : Nat → Int32) (fa : Nat → Int32) (n0 : Nat) (n1 : Nat) (hc0 : f 87 = .inr (11, mF ad la dr go lo ma pa tu su)) (hc1 : f 92 = .inl (ca 0, 60, .inl di)) (hc2 : f 93 = .inl (ca 0, 2, .inl mn)) (hc3 : f 94 = .inl (ca 0, 4, .inl se)) (hc4 : f 95 = .inl (ca 0, 96, .inl vo)) (hc5 : f 96 = .inl (ca 0, 8, .inl so)) (hc6 : f 97 = .inl (ca 0, 8, .inl ro)) (hc7 : f 98 = .inl (ca 2, 12, .inl us)) (hc8 : f 99 = .inl (ca 1, 9, .inr (.inl sta))) (hc9 : f 100 = .inl (ca 1, 9, .inr (.inl spa))) (hc10 : f 101 = .inl (ca 1, 3, .inr (.inl sf))) (hc11 : f 102 = .inl (ca 0, 36, .inl pl)) (hc12 : f 103 = .inl (ca 0, 8, .inl su_)) (hc13 : f 104 = .inl (ca 0, 8, .inl fa)) (h0 : mn 0 = nI n0) (h1 : mn 1 = nI n1) (hn : n0 ≤ 12) (hn1 : n1 ≤ 8) (hz : ¬ se 0 = 0) (hd : dOk di) : gMi l D ca ss ad 108 yX12_taken cX12_taken 3 (some .int) 8 f [.ref (ad 87), .int p, .int w] (fun r u => ∃ (spaX staX sfX : Nat → Int64) (plX : Nat → Int32), (rU di se n0 n1 go = 1 → ∀ j, j < 3 * n0 → plX j = rP di se n0 n1 go j) ∧ r = s_X12_taken p w go di mn se n0 n1 ∧ u = va_up (va_up (va_up (va_up (va_up (va_up (va_up (va_up (va_up (va_up (va_up f 87 (.inr (11, mF ad la dr go ((mVotes di se n0 n1 go).2.2) ((mVotes di se n0 n1 go).2.1) ((rT di se n0 n1 go).2.2.2) (rU di se n0 n1 go) ((rC di se n0 n1 go).2.2.2)))) 95 (.inl (ca 0, 96, .inl ((mVotes di se n0 n1 go).1)))) 96 (.inl (ca 0, 8, .inl ((rT di se n0 n1 go).1)))) 97 (.inl (ca 0, 8, .inl ((rT di se n0 n1 go).2.1)))) 98 (.inl (ca 2, 12, .inl ((rC di se n0 n1 go).1)))) 100 (.inl (ca 1, 9, .inr (.inl spaX)))) 99 (.inl (ca 1, 9, .inr (.inl staX)))) 101 (.inl (ca 1, 3, .inr (.inl sfX)))) 102 (.inl (ca 0, 36, .inl plX))) 103 (.inl (ca 0, 8, .inl ((rC di se n0 n1 go).2.1)))) 104 (.inl (ca 0, 8, .inl ((rC di se n0 n1 go).2.2.1)))) := by
  refine gMi_ofK (by decide +kernel) (Nat.le_of_ble_eq_true rfl) (lv0 := [(0, .ref (ad 87)), (1, .int p), (2, .int w)]) rfl (fun pT eT sT mT aT below meth cT AT QT C RT => ?_)
  have C : gX pT sT mT aT meth cT AT D ca ss 3 RX12 cX12_taken (some .int) := C
  refine gj_aload_n C 0 dX12_taken_0 rfl 0 rfl ?_
  refine gj_callVv C mi_X12_find w_1069 87 (by decide) hc0 rfl (c_X12_find la dr go lo ma pa tu su di mn se vo so ro us sta spa sf pl su_ fa n0 n1 hc0 hc1 hc2 hc3 hc4 hc5 hc6 hc7 hc8 hc9 hc10 hc11 hc12 hc13 h0 h1 hn hn1 hz hd) mc_X12_find ⟨Nat.le_of_ble_eq_true rfl, Nat.le_of_ble_eq_true rfl⟩ (rest := []) rfl (Nat.le_of_ble_eq_true rfl) dX12_taken_1 (fun u h => ?_)
  obtain ⟨spaX_1, staX_1, sfX_1, plX_1, hPLX_1, rfl⟩ := h
  refine gj_aload_n C 0 dX12_taken_4 rfl 0 rfl ?_
  refine gj_iconst C (v := 1) (by decide) dX12_taken_5 ?_
  refine gj_iload_n C 1 dX12_taken_6 rfl 1 rfl ?_
  refine gj_callVi C mi_X12_isThere w_1002 87 (by decide) (up_nx (by decide) (up_nx (by decide) (up_nx (by decide) (up_nx (by decide) (up_nx (by decide) (up_nx (by decide) (up_nx (by decide) (up_nx (by decide) (up_nx (by decide) (up_nx (by decide) (va_up_self _ _ _))))))))))) rfl (c_X12_isThere (1 : Int32) p la dr go ((mVotes di se n0 n1 go).2.2) ((mVotes di se n0 n1 go).2.1) ((rT di se n0 n1 go).2.2.2) (rU di se n0 n1 go) ((rC di se n0 n1 go).2.2.2) mn (up_nx (by decide) (up_nx (by decide) (up_nx (by decide) (up_nx (by decide) (up_nx (by decide) (up_nx (by decide) (up_nx (by decide) (up_nx (by decide) (up_nx (by decide) (up_nx (by decide) (va_up_self _ _ _))))))))))) (up_nx (by decide) (up_nx (by decide) (up_nx (by decide) (up_nx (by decide) (up_nx (by decide) (up_nx (by decide) (up_nx (by decide) (up_nx (by decide) (up_nx (by decide) (up_nx (by decide) (up_nx (by decide) (hc2))))))))))))) mc_X12_isThere ⟨Nat.le_of_ble_eq_true rfl, Nat.le_of_ble_eq_true rfl⟩ (rest := []) rfl (Nat.le_of_ble_eq_true rfl) dX12_taken_7 (fun r u h => ?_)
  obtain ⟨hr_, hu_⟩ := h; rw [hr_]; subst hu_
  refine gj_if_eq C 29 dX12_taken_10 (by decide) (fun c_2 => ?_) (fun c_2 => ?_)
  · refine gj_bipush C (v := (-2)) (by decide) dX12_taken_29 ?_
    exact RT _ _ _ _ ⟨_, _, _, _, hPLX_1, by unfold s_X12_taken; rw [if_pos c_2], rfl⟩ dX12_taken_31
  · refine gj_iload_n C 2 dX12_taken_13 rfl 2 rfl ?_
    refine gj_callSi C w_980 w_979 (c_X12_isTwo w) mc_X12_isTwo ⟨Nat.le_of_ble_eq_true rfl, Nat.le_of_ble_eq_true rfl⟩ (rest := []) rfl (Nat.le_of_ble_eq_true rfl) dX12_taken_14 (fun r u h => ?_)
    obtain ⟨hr_, hu_⟩ := h; rw [hr_]; subst hu_
    refine gj_if_eq C 29 dX12_taken_17 (by decide) (fun c_3 => ?_) (fun c_3 => ?_)
    · refine gj_bipush C (v := (-2)) (by decide) dX12_taken_29 ?_
      exact RT _ _ _ _ ⟨_, _, _, _, hPLX_1, by unfold s_X12_taken; rw [if_neg c_2, if_pos c_3], rfl⟩ dX12_taken_31
    · refine gj_aload_n C 0 dX12_taken_20 rfl 0 rfl ?_
      refine gj_iload_n C 1 dX12_taken_21 rfl 1 rfl ?_
      refine gj_iload_n C 2 dX12_taken_22 rfl 2 rfl ?_
      refine gj_callVi C mi_X12_takenBy w_1148 87 (by decide) (up_nx (by decide) (up_nx (by decide) (up_nx (by decide) (up_nx (by decide) (up_nx (by decide) (up_nx (by decide) (up_nx (by decide) (up_nx (by decide) (up_nx (by decide) (up_nx (by decide) (va_up_self _ _ _))))))))))) rfl (c_X12_takenBy p w la dr go ((mVotes di se n0 n1 go).2.2) ((mVotes di se n0 n1 go).2.1) ((rT di se n0 n1 go).2.2.2) (rU di se n0 n1 go) ((rC di se n0 n1 go).2.2.2) ((rT di se n0 n1 go).1) ((rT di se n0 n1 go).2.1) (up_nx (by decide) (up_nx (by decide) (up_nx (by decide) (up_nx (by decide) (up_nx (by decide) (up_nx (by decide) (up_nx (by decide) (up_nx (by decide) (up_nx (by decide) (up_nx (by decide) (va_up_self _ _ _))))))))))) (up_nx (by decide) (up_nx (by decide) (up_nx (by decide) (up_nx (by decide) (up_nx (by decide) (up_nx (by decide) (up_nx (by decide) (up_nx (by decide) (va_up_self _ _ _))))))))) (up_nx (by decide) (up_nx (by decide) (up_nx (by decide) (up_nx (by decide) (up_nx (by decide) (up_nx (by decide) (up_nx (by decide) (va_up_self _ _ _)))))))) (th1_v (mn_ok h0 h1 hn hn1) c_2)) mc_X12_takenBy ⟨Nat.le_of_ble_eq_true rfl, Nat.le_of_ble_eq_true rfl⟩ (rest := []) rfl (Nat.le_of_ble_eq_true rfl) dX12_taken_23 (fun r u h => ?_)
      obtain ⟨hr_, hu_⟩ := h; rw [hr_]; subst hu_
      refine gj_goto C 31 dX12_taken_26 (by decide) ?_
      exact RT _ _ _ _ ⟨_, _, _, _, hPLX_1, by unfold s_X12_taken; rw [if_neg c_2, if_neg c_3], rfl⟩ dX12_taken_31
def s_X12_confirmed (p : Int32) (w : Int32) (go : Int32) (di : Nat → Int32) (mn : Nat → Int32) (se : Nat → Int32) (n0 : Nat) (n1 : Nat) : Int32 := if (s_X12_isThere (1 : Int32) p mn) = 0 then ((-2)) else (if (s_X12_isTwo w) = 0 then ((-2)) else (s_X12_confirmedBy p w ((rC di se n0 n1 go).2.1) ((rC di se n0 n1 go).2.2.1)))
set_option maxHeartbeats 400000 in
set_option maxRecDepth 100000 in
theorem c_X12_confirmed {l : Launch} {D : va_G} {ca ss ad : Nat → Nat} {f : Nat → va_E}  (p : Int32) (w : Int32) (la : Int32) (dr : Int32) (go : Int32) (lo : Int32) (ma : Int32) (pa : Int32) (tu : Int32) (su : Int32) (di : Nat → Int32) (mn : Nat → Int32) (se : Nat → Int32) (vo : Nat → Int32) (so : Nat → Int32) (ro : Nat → Int32) (us : Nat → Int32) (sta : Nat → Int64) (spa : Nat → Int64) (sf : Nat → Int64) (pl : Nat → Int32) (su_ : Nat → Int32) (fa : Nat → Int32) (n0 : Nat) (n1 : Nat) (hc0 : f 87 = .inr (11, mF ad la dr go lo ma pa tu su)) (hc1 : f 92 = .inl (ca 0, 60, .inl di)) (hc2 : f 93 = .inl (ca 0, 2, .inl mn)) (hc3 : f 94 = .inl (ca 0, 4, .inl se)) (hc4 : f 95 = .inl (ca 0, 96, .inl vo)) (hc5 : f 96 = .inl (ca 0, 8, .inl so)) (hc6 : f 97 = .inl (ca 0, 8, .inl ro)) (hc7 : f 98 = .inl (ca 2, 12, .inl us)) (hc8 : f 99 = .inl (ca 1, 9, .inr (.inl sta))) (hc9 : f 100 = .inl (ca 1, 9, .inr (.inl spa))) (hc10 : f 101 = .inl (ca 1, 3, .inr (.inl sf))) (hc11 : f 102 = .inl (ca 0, 36, .inl pl)) (hc12 : f 103 = .inl (ca 0, 8, .inl su_)) (hc13 : f 104 = .inl (ca 0, 8, .inl fa)) (h0 : mn 0 = nI n0) (h1 : mn 1 = nI n1) (hn : n0 ≤ 12) (hn1 : n1 ≤ 8) (hz : ¬ se 0 = 0) (hd : dOk di) : gMi l D ca ss ad 108 yX12_confirmed cX12_confirmed 3 (some .int) 8 f [.ref (ad 87), .int p, .int w] (fun r u => ∃ (spaX staX sfX : Nat → Int64) (plX : Nat → Int32), (rU di se n0 n1 go = 1 → ∀ j, j < 3 * n0 → plX j = rP di se n0 n1 go j) ∧ r = s_X12_confirmed p w go di mn se n0 n1 ∧ u = va_up (va_up (va_up (va_up (va_up (va_up (va_up (va_up (va_up (va_up (va_up f 87 (.inr (11, mF ad la dr go ((mVotes di se n0 n1 go).2.2) ((mVotes di se n0 n1 go).2.1) ((rT di se n0 n1 go).2.2.2) (rU di se n0 n1 go) ((rC di se n0 n1 go).2.2.2)))) 95 (.inl (ca 0, 96, .inl ((mVotes di se n0 n1 go).1)))) 96 (.inl (ca 0, 8, .inl ((rT di se n0 n1 go).1)))) 97 (.inl (ca 0, 8, .inl ((rT di se n0 n1 go).2.1)))) 98 (.inl (ca 2, 12, .inl ((rC di se n0 n1 go).1)))) 100 (.inl (ca 1, 9, .inr (.inl spaX)))) 99 (.inl (ca 1, 9, .inr (.inl staX)))) 101 (.inl (ca 1, 3, .inr (.inl sfX)))) 102 (.inl (ca 0, 36, .inl plX))) 103 (.inl (ca 0, 8, .inl ((rC di se n0 n1 go).2.1)))) 104 (.inl (ca 0, 8, .inl ((rC di se n0 n1 go).2.2.1)))) := by
  refine gMi_ofK (by decide +kernel) (Nat.le_of_ble_eq_true rfl) (lv0 := [(0, .ref (ad 87)), (1, .int p), (2, .int w)]) rfl (fun pT eT sT mT aT below meth cT AT QT C RT => ?_)
  have C : gX pT sT mT aT meth cT AT D ca ss 3 RX12 cX12_confirmed (some .int) := C
  refine gj_aload_n C 0 dX12_confirmed_0 rfl 0 rfl ?_
  refine gj_callVv C mi_X12_find w_1069 87 (by decide) hc0 rfl (c_X12_find la dr go lo ma pa tu su di mn se vo so ro us sta spa sf pl su_ fa n0 n1 hc0 hc1 hc2 hc3 hc4 hc5 hc6 hc7 hc8 hc9 hc10 hc11 hc12 hc13 h0 h1 hn hn1 hz hd) mc_X12_find ⟨Nat.le_of_ble_eq_true rfl, Nat.le_of_ble_eq_true rfl⟩ (rest := []) rfl (Nat.le_of_ble_eq_true rfl) dX12_confirmed_1 (fun u h => ?_)
  obtain ⟨spaX_1, staX_1, sfX_1, plX_1, hPLX_1, rfl⟩ := h
  refine gj_aload_n C 0 dX12_confirmed_4 rfl 0 rfl ?_
  refine gj_iconst C (v := 1) (by decide) dX12_confirmed_5 ?_
  refine gj_iload_n C 1 dX12_confirmed_6 rfl 1 rfl ?_
  refine gj_callVi C mi_X12_isThere w_1002 87 (by decide) (up_nx (by decide) (up_nx (by decide) (up_nx (by decide) (up_nx (by decide) (up_nx (by decide) (up_nx (by decide) (up_nx (by decide) (up_nx (by decide) (up_nx (by decide) (up_nx (by decide) (va_up_self _ _ _))))))))))) rfl (c_X12_isThere (1 : Int32) p la dr go ((mVotes di se n0 n1 go).2.2) ((mVotes di se n0 n1 go).2.1) ((rT di se n0 n1 go).2.2.2) (rU di se n0 n1 go) ((rC di se n0 n1 go).2.2.2) mn (up_nx (by decide) (up_nx (by decide) (up_nx (by decide) (up_nx (by decide) (up_nx (by decide) (up_nx (by decide) (up_nx (by decide) (up_nx (by decide) (up_nx (by decide) (up_nx (by decide) (va_up_self _ _ _))))))))))) (up_nx (by decide) (up_nx (by decide) (up_nx (by decide) (up_nx (by decide) (up_nx (by decide) (up_nx (by decide) (up_nx (by decide) (up_nx (by decide) (up_nx (by decide) (up_nx (by decide) (up_nx (by decide) (hc2))))))))))))) mc_X12_isThere ⟨Nat.le_of_ble_eq_true rfl, Nat.le_of_ble_eq_true rfl⟩ (rest := []) rfl (Nat.le_of_ble_eq_true rfl) dX12_confirmed_7 (fun r u h => ?_)
  obtain ⟨hr_, hu_⟩ := h; rw [hr_]; subst hu_
  refine gj_if_eq C 29 dX12_confirmed_10 (by decide) (fun c_2 => ?_) (fun c_2 => ?_)
  · refine gj_bipush C (v := (-2)) (by decide) dX12_confirmed_29 ?_
    exact RT _ _ _ _ ⟨_, _, _, _, hPLX_1, by unfold s_X12_confirmed; rw [if_pos c_2], rfl⟩ dX12_confirmed_31
  · refine gj_iload_n C 2 dX12_confirmed_13 rfl 2 rfl ?_
    refine gj_callSi C w_980 w_979 (c_X12_isTwo w) mc_X12_isTwo ⟨Nat.le_of_ble_eq_true rfl, Nat.le_of_ble_eq_true rfl⟩ (rest := []) rfl (Nat.le_of_ble_eq_true rfl) dX12_confirmed_14 (fun r u h => ?_)
    obtain ⟨hr_, hu_⟩ := h; rw [hr_]; subst hu_
    refine gj_if_eq C 29 dX12_confirmed_17 (by decide) (fun c_3 => ?_) (fun c_3 => ?_)
    · refine gj_bipush C (v := (-2)) (by decide) dX12_confirmed_29 ?_
      exact RT _ _ _ _ ⟨_, _, _, _, hPLX_1, by unfold s_X12_confirmed; rw [if_neg c_2, if_pos c_3], rfl⟩ dX12_confirmed_31
    · refine gj_aload_n C 0 dX12_confirmed_20 rfl 0 rfl ?_
      refine gj_iload_n C 1 dX12_confirmed_21 rfl 1 rfl ?_
      refine gj_iload_n C 2 dX12_confirmed_22 rfl 2 rfl ?_
      refine gj_callVi C mi_X12_confirmedBy w_1168 87 (by decide) (up_nx (by decide) (up_nx (by decide) (up_nx (by decide) (up_nx (by decide) (up_nx (by decide) (up_nx (by decide) (up_nx (by decide) (up_nx (by decide) (up_nx (by decide) (up_nx (by decide) (va_up_self _ _ _))))))))))) rfl (c_X12_confirmedBy p w la dr go ((mVotes di se n0 n1 go).2.2) ((mVotes di se n0 n1 go).2.1) ((rT di se n0 n1 go).2.2.2) (rU di se n0 n1 go) ((rC di se n0 n1 go).2.2.2) ((rC di se n0 n1 go).2.1) ((rC di se n0 n1 go).2.2.1) (up_nx (by decide) (up_nx (by decide) (up_nx (by decide) (up_nx (by decide) (up_nx (by decide) (up_nx (by decide) (up_nx (by decide) (up_nx (by decide) (up_nx (by decide) (up_nx (by decide) (va_up_self _ _ _))))))))))) (up_nx (by decide) (va_up_self _ _ _)) (va_up_self _ _ _) (th1_v (mn_ok h0 h1 hn hn1) c_2)) mc_X12_confirmedBy ⟨Nat.le_of_ble_eq_true rfl, Nat.le_of_ble_eq_true rfl⟩ (rest := []) rfl (Nat.le_of_ble_eq_true rfl) dX12_confirmed_23 (fun r u h => ?_)
      obtain ⟨hr_, hu_⟩ := h; rw [hr_]; subst hu_
      refine gj_goto C 31 dX12_confirmed_26 (by decide) ?_
      exact RT _ _ _ _ ⟨_, _, _, _, hPLX_1, by unfold s_X12_confirmed; rw [if_neg c_2, if_neg c_3], rfl⟩ dX12_confirmed_31
def s_X12_turn (go : Int32) (di : Nat → Int32) (se : Nat → Int32) (n0 : Nat) (n1 : Nat) : Int32 := if (rU di se n0 n1 go) = 0 then (0) else (1)
set_option maxHeartbeats 400000 in
set_option maxRecDepth 100000 in
theorem c_X12_turn {l : Launch} {D : va_G} {ca ss ad : Nat → Nat} {f : Nat → va_E}   (la : Int32) (dr : Int32) (go : Int32) (lo : Int32) (ma : Int32) (pa : Int32) (tu : Int32) (su : Int32) (di : Nat → Int32) (mn : Nat → Int32) (se : Nat → Int32) (vo : Nat → Int32) (so : Nat → Int32) (ro : Nat → Int32) (us : Nat → Int32) (sta : Nat → Int64) (spa : Nat → Int64) (sf : Nat → Int64) (pl : Nat → Int32) (su_ : Nat → Int32) (fa : Nat → Int32) (n0 : Nat) (n1 : Nat) (hc0 : f 87 = .inr (11, mF ad la dr go lo ma pa tu su)) (hc1 : f 92 = .inl (ca 0, 60, .inl di)) (hc2 : f 93 = .inl (ca 0, 2, .inl mn)) (hc3 : f 94 = .inl (ca 0, 4, .inl se)) (hc4 : f 95 = .inl (ca 0, 96, .inl vo)) (hc5 : f 96 = .inl (ca 0, 8, .inl so)) (hc6 : f 97 = .inl (ca 0, 8, .inl ro)) (hc7 : f 98 = .inl (ca 2, 12, .inl us)) (hc8 : f 99 = .inl (ca 1, 9, .inr (.inl sta))) (hc9 : f 100 = .inl (ca 1, 9, .inr (.inl spa))) (hc10 : f 101 = .inl (ca 1, 3, .inr (.inl sf))) (hc11 : f 102 = .inl (ca 0, 36, .inl pl)) (hc12 : f 103 = .inl (ca 0, 8, .inl su_)) (hc13 : f 104 = .inl (ca 0, 8, .inl fa)) (h0 : mn 0 = nI n0) (h1 : mn 1 = nI n1) (hn : n0 ≤ 12) (hn1 : n1 ≤ 8) (hz : ¬ se 0 = 0) (hd : dOk di) : gMi l D ca ss ad 108 yX12_turn cX12_turn 1 (some .int) 8 f [.ref (ad 87)] (fun r u => ∃ (spaX staX sfX : Nat → Int64) (plX : Nat → Int32), (rU di se n0 n1 go = 1 → ∀ j, j < 3 * n0 → plX j = rP di se n0 n1 go j) ∧ r = s_X12_turn go di se n0 n1 ∧ u = va_up (va_up (va_up (va_up (va_up (va_up (va_up (va_up (va_up (va_up (va_up f 87 (.inr (11, mF ad la dr go ((mVotes di se n0 n1 go).2.2) ((mVotes di se n0 n1 go).2.1) ((rT di se n0 n1 go).2.2.2) (rU di se n0 n1 go) ((rC di se n0 n1 go).2.2.2)))) 95 (.inl (ca 0, 96, .inl ((mVotes di se n0 n1 go).1)))) 96 (.inl (ca 0, 8, .inl ((rT di se n0 n1 go).1)))) 97 (.inl (ca 0, 8, .inl ((rT di se n0 n1 go).2.1)))) 98 (.inl (ca 2, 12, .inl ((rC di se n0 n1 go).1)))) 100 (.inl (ca 1, 9, .inr (.inl spaX)))) 99 (.inl (ca 1, 9, .inr (.inl staX)))) 101 (.inl (ca 1, 3, .inr (.inl sfX)))) 102 (.inl (ca 0, 36, .inl plX))) 103 (.inl (ca 0, 8, .inl ((rC di se n0 n1 go).2.1)))) 104 (.inl (ca 0, 8, .inl ((rC di se n0 n1 go).2.2.1)))) := by
  refine gMi_ofK (by decide +kernel) (Nat.le_of_ble_eq_true rfl) (lv0 := [(0, .ref (ad 87))]) rfl (fun pT eT sT mT aT below meth cT AT QT C RT => ?_)
  have C : gX pT sT mT aT meth cT AT D ca ss 1 RX12 cX12_turn (some .int) := C
  refine gj_aload_n C 0 dX12_turn_0 rfl 0 rfl ?_
  refine gj_callVv C mi_X12_find w_1069 87 (by decide) hc0 rfl (c_X12_find la dr go lo ma pa tu su di mn se vo so ro us sta spa sf pl su_ fa n0 n1 hc0 hc1 hc2 hc3 hc4 hc5 hc6 hc7 hc8 hc9 hc10 hc11 hc12 hc13 h0 h1 hn hn1 hz hd) mc_X12_find ⟨Nat.le_of_ble_eq_true rfl, Nat.le_of_ble_eq_true rfl⟩ (rest := []) rfl (Nat.le_of_ble_eq_true rfl) dX12_turn_1 (fun u h => ?_)
  obtain ⟨spaX_1, staX_1, sfX_1, plX_1, hPLX_1, rfl⟩ := h
  refine gj_aload_n C 0 dX12_turn_4 rfl 0 rfl ?_
  refine gj_get C 87 (by decide) (up_nx (by decide) (up_nx (by decide) (up_nx (by decide) (up_nx (by decide) (up_nx (by decide) (up_nx (by decide) (up_nx (by decide) (up_nx (by decide) (up_nx (by decide) (up_nx (by decide) (va_up_self _ _ _))))))))))) inX12 rfl 17 (by decide) w_866 (v := .int (rU di se n0 n1 go)) rfl dX12_turn_5 ?_
  refine gj_if_eq C 15 dX12_turn_8 (by decide) (fun c_2 => ?_) (fun c_2 => ?_)
  · refine gj_iconst C (v := 0) (by decide) dX12_turn_15 ?_
    exact RT _ _ _ _ ⟨_, _, _, _, hPLX_1, by unfold s_X12_turn; rw [if_pos c_2], rfl⟩ dX12_turn_16
  · refine gj_iconst C (v := 1) (by decide) dX12_turn_11 ?_
    refine gj_goto C 16 dX12_turn_12 (by decide) ?_
    exact RT _ _ _ _ ⟨_, _, _, _, hPLX_1, by unfold s_X12_turn; rw [if_neg c_2], rfl⟩ dX12_turn_16
def s_X12_wrong (go : Int32) (di : Nat → Int32) (se : Nat → Int32) (n0 : Nat) (n1 : Nat) : Int32 := mW ((rT di se n0 n1 go).1) ((rC di se n0 n1 go).2.1) 8
set_option maxHeartbeats 400000 in
set_option maxRecDepth 100000 in
theorem c_X12_wrong {l : Launch} {D : va_G} {ca ss ad : Nat → Nat} {f : Nat → va_E}   (la : Int32) (dr : Int32) (go : Int32) (lo : Int32) (ma : Int32) (pa : Int32) (tu : Int32) (su : Int32) (di : Nat → Int32) (mn : Nat → Int32) (se : Nat → Int32) (vo : Nat → Int32) (so : Nat → Int32) (ro : Nat → Int32) (us : Nat → Int32) (sta : Nat → Int64) (spa : Nat → Int64) (sf : Nat → Int64) (pl : Nat → Int32) (su_ : Nat → Int32) (fa : Nat → Int32) (n0 : Nat) (n1 : Nat) (hc0 : f 87 = .inr (11, mF ad la dr go lo ma pa tu su)) (hc1 : f 92 = .inl (ca 0, 60, .inl di)) (hc2 : f 93 = .inl (ca 0, 2, .inl mn)) (hc3 : f 94 = .inl (ca 0, 4, .inl se)) (hc4 : f 95 = .inl (ca 0, 96, .inl vo)) (hc5 : f 96 = .inl (ca 0, 8, .inl so)) (hc6 : f 97 = .inl (ca 0, 8, .inl ro)) (hc7 : f 98 = .inl (ca 2, 12, .inl us)) (hc8 : f 99 = .inl (ca 1, 9, .inr (.inl sta))) (hc9 : f 100 = .inl (ca 1, 9, .inr (.inl spa))) (hc10 : f 101 = .inl (ca 1, 3, .inr (.inl sf))) (hc11 : f 102 = .inl (ca 0, 36, .inl pl)) (hc12 : f 103 = .inl (ca 0, 8, .inl su_)) (hc13 : f 104 = .inl (ca 0, 8, .inl fa)) (h0 : mn 0 = nI n0) (h1 : mn 1 = nI n1) (hn : n0 ≤ 12) (hn1 : n1 ≤ 8) (hz : ¬ se 0 = 0) (hd : dOk di) : gMi l D ca ss ad 108 yX12_wrong cX12_wrong 1 (some .int) 8 f [.ref (ad 87)] (fun r u => ∃ (spaX staX sfX : Nat → Int64) (plX : Nat → Int32), (rU di se n0 n1 go = 1 → ∀ j, j < 3 * n0 → plX j = rP di se n0 n1 go j) ∧ r = s_X12_wrong go di se n0 n1 ∧ u = va_up (va_up (va_up (va_up (va_up (va_up (va_up (va_up (va_up (va_up (va_up f 87 (.inr (11, mF ad la dr go ((mVotes di se n0 n1 go).2.2) ((mVotes di se n0 n1 go).2.1) ((rT di se n0 n1 go).2.2.2) (rU di se n0 n1 go) ((rC di se n0 n1 go).2.2.2)))) 95 (.inl (ca 0, 96, .inl ((mVotes di se n0 n1 go).1)))) 96 (.inl (ca 0, 8, .inl ((rT di se n0 n1 go).1)))) 97 (.inl (ca 0, 8, .inl ((rT di se n0 n1 go).2.1)))) 98 (.inl (ca 2, 12, .inl ((rC di se n0 n1 go).1)))) 100 (.inl (ca 1, 9, .inr (.inl spaX)))) 99 (.inl (ca 1, 9, .inr (.inl staX)))) 101 (.inl (ca 1, 3, .inr (.inl sfX)))) 102 (.inl (ca 0, 36, .inl plX))) 103 (.inl (ca 0, 8, .inl ((rC di se n0 n1 go).2.1)))) 104 (.inl (ca 0, 8, .inl ((rC di se n0 n1 go).2.2.1)))) := by
  refine gMi_ofK (by decide +kernel) (Nat.le_of_ble_eq_true rfl) (lv0 := [(0, .ref (ad 87))]) rfl (fun pT eT sT mT aT below meth cT AT QT C RT => ?_)
  have C : gX pT sT mT aT meth cT AT D ca ss 1 RX12 cX12_wrong (some .int) := C
  refine gj_aload_n C 0 dX12_wrong_0 rfl 0 rfl ?_
  refine gj_callVv C mi_X12_find w_1069 87 (by decide) hc0 rfl (c_X12_find la dr go lo ma pa tu su di mn se vo so ro us sta spa sf pl su_ fa n0 n1 hc0 hc1 hc2 hc3 hc4 hc5 hc6 hc7 hc8 hc9 hc10 hc11 hc12 hc13 h0 h1 hn hn1 hz hd) mc_X12_find ⟨Nat.le_of_ble_eq_true rfl, Nat.le_of_ble_eq_true rfl⟩ (rest := []) rfl (Nat.le_of_ble_eq_true rfl) dX12_wrong_1 (fun u h => ?_)
  obtain ⟨spaX_1, staX_1, sfX_1, plX_1, hPLX_1, rfl⟩ := h
  refine gj_aload_n C 0 dX12_wrong_4 rfl 0 rfl ?_
  refine gj_callVi C mi_X12_wrongNow w_1176 87 (by decide) (up_nx (by decide) (up_nx (by decide) (up_nx (by decide) (up_nx (by decide) (up_nx (by decide) (up_nx (by decide) (up_nx (by decide) (up_nx (by decide) (up_nx (by decide) (up_nx (by decide) (va_up_self _ _ _))))))))))) rfl (c_X12_wrongNow la dr go ((mVotes di se n0 n1 go).2.2) ((mVotes di se n0 n1 go).2.1) ((rT di se n0 n1 go).2.2.2) (rU di se n0 n1 go) ((rC di se n0 n1 go).2.2.2) ((rT di se n0 n1 go).1) ((rC di se n0 n1 go).2.1) (up_nx (by decide) (up_nx (by decide) (up_nx (by decide) (up_nx (by decide) (up_nx (by decide) (up_nx (by decide) (up_nx (by decide) (up_nx (by decide) (up_nx (by decide) (up_nx (by decide) (va_up_self _ _ _))))))))))) (up_nx (by decide) (up_nx (by decide) (up_nx (by decide) (up_nx (by decide) (up_nx (by decide) (up_nx (by decide) (up_nx (by decide) (up_nx (by decide) (va_up_self _ _ _))))))))) (up_nx (by decide) (va_up_self _ _ _))) mc_X12_wrongNow ⟨Nat.le_of_ble_eq_true rfl, Nat.le_of_ble_eq_true rfl⟩ (rest := []) rfl (Nat.le_of_ble_eq_true rfl) dX12_wrong_5 (fun r u h => ?_)
  obtain ⟨hr_, hu_⟩ := h; rw [hr_]; subst hu_
  exact RT _ _ _ _ ⟨_, _, _, _, hPLX_1, rfl, rfl⟩ dX12_wrong_8
theorem pl_in {i w : Int32} {mn : Nat → Int32} {n0 : Nat} (h0 : mn 0 = nI n0) (hn : n0 ≤ 12) (h : ¬ s_X12_isThere (0 : Int32) i mn = 0) (hw : ¬ s_X12_in w.toInt64 (0 : Int64) (2 : Int64) = 0) : ∃ a b, a < n0 ∧ b < 3 ∧ i = nI a ∧ w = nI b := by
  obtain ⟨a, ha, rfl⟩ := th0_n h0 hn h
  have h1 := q_inL hw
  have e0 : (0 : Int64).toInt = 0 := rfl
  have e2 : (2 : Int64).toInt = 2 := rfl
  obtain ⟨b, hb, rfl⟩ := vp_in_of (n := 3) (vin (x := w) (by omega) (by omega)) (by omega)
  exact ⟨a, b, ha, hb, rfl, rfl⟩
theorem pl_v {i w : Int32} {mn : Nat → Int32} {n0 : Nat} (h0 : mn 0 = nI n0) (hn : n0 ≤ 12) (h : ¬ s_X12_isThere (0 : Int32) i mn = 0) (hw : ¬ s_X12_in w.toInt64 (0 : Int64) (2 : Int64) = 0) : vp_in (3 * i + w) 36 := by
  obtain ⟨a, b, ha, hb, rfl, rfl⟩ := pl_in h0 hn h hw
  exact ix3_in (by omega) hb
theorem pl_k {i w : Int32} {mn di se plX : Nat → Int32} {n0 n1 : Nat} {go : Int32} (hPL : rU di se n0 n1 go = 1 → ∀ j, j < 3 * n0 → plX j = rP di se n0 n1 go j) (h0 : mn 0 = nI n0) (hn : n0 ≤ 12) (h : ¬ s_X12_isThere (0 : Int32) i mn = 0) (hw : ¬ s_X12_in w.toInt64 (0 : Int64) (2 : Int64) = 0) : s_X12_placeBy i w (rU di se n0 n1 go) plX = s_X12_placeBy i w (rU di se n0 n1 go) (rP di se n0 n1 go) := by
  obtain ⟨a, b, ha, hb, rfl, rfl⟩ := pl_in h0 hn h hw
  unfold s_X12_placeBy
  by_cases q : rU di se n0 n1 go = 0
  · rw [if_pos q, if_pos q]
  · rw [if_neg q, if_neg q, ix3_cl (by omega) hb]
    rcases rU_01 di se n0 n1 go with z | z
    · exact absurd z q
    · exact hPL z _ (by omega)
def s_X12_place (i : Int32) (w : Int32) (go : Int32) (di : Nat → Int32) (mn : Nat → Int32) (se : Nat → Int32) (n0 : Nat) (n1 : Nat) : Int32 := if (s_X12_isThere (0 : Int32) i mn) = 0 then ((-2147483648)) else (if (s_X12_in w.toInt64 (0 : Int64) (2 : Int64)) = 0 then ((-2147483648)) else (s_X12_placeBy i w (rU di se n0 n1 go) (rP di se n0 n1 go)))
set_option maxHeartbeats 400000 in
set_option maxRecDepth 100000 in
theorem c_X12_place {l : Launch} {D : va_G} {ca ss ad : Nat → Nat} {f : Nat → va_E}  (i : Int32) (w : Int32) (la : Int32) (dr : Int32) (go : Int32) (lo : Int32) (ma : Int32) (pa : Int32) (tu : Int32) (su : Int32) (di : Nat → Int32) (mn : Nat → Int32) (se : Nat → Int32) (vo : Nat → Int32) (so : Nat → Int32) (ro : Nat → Int32) (us : Nat → Int32) (sta : Nat → Int64) (spa : Nat → Int64) (sf : Nat → Int64) (pl : Nat → Int32) (su_ : Nat → Int32) (fa : Nat → Int32) (n0 : Nat) (n1 : Nat) (hc0 : f 87 = .inr (11, mF ad la dr go lo ma pa tu su)) (hc1 : f 92 = .inl (ca 0, 60, .inl di)) (hc2 : f 93 = .inl (ca 0, 2, .inl mn)) (hc3 : f 94 = .inl (ca 0, 4, .inl se)) (hc4 : f 95 = .inl (ca 0, 96, .inl vo)) (hc5 : f 96 = .inl (ca 0, 8, .inl so)) (hc6 : f 97 = .inl (ca 0, 8, .inl ro)) (hc7 : f 98 = .inl (ca 2, 12, .inl us)) (hc8 : f 99 = .inl (ca 1, 9, .inr (.inl sta))) (hc9 : f 100 = .inl (ca 1, 9, .inr (.inl spa))) (hc10 : f 101 = .inl (ca 1, 3, .inr (.inl sf))) (hc11 : f 102 = .inl (ca 0, 36, .inl pl)) (hc12 : f 103 = .inl (ca 0, 8, .inl su_)) (hc13 : f 104 = .inl (ca 0, 8, .inl fa)) (h0 : mn 0 = nI n0) (h1 : mn 1 = nI n1) (hn : n0 ≤ 12) (hn1 : n1 ≤ 8) (hz : ¬ se 0 = 0) (hd : dOk di) : gMi l D ca ss ad 108 yX12_place cX12_place 3 (some .int) 8 f [.ref (ad 87), .int i, .int w] (fun r u => ∃ (spaX staX sfX : Nat → Int64) (plX : Nat → Int32), (rU di se n0 n1 go = 1 → ∀ j, j < 3 * n0 → plX j = rP di se n0 n1 go j) ∧ r = s_X12_place i w go di mn se n0 n1 ∧ u = va_up (va_up (va_up (va_up (va_up (va_up (va_up (va_up (va_up (va_up (va_up f 87 (.inr (11, mF ad la dr go ((mVotes di se n0 n1 go).2.2) ((mVotes di se n0 n1 go).2.1) ((rT di se n0 n1 go).2.2.2) (rU di se n0 n1 go) ((rC di se n0 n1 go).2.2.2)))) 95 (.inl (ca 0, 96, .inl ((mVotes di se n0 n1 go).1)))) 96 (.inl (ca 0, 8, .inl ((rT di se n0 n1 go).1)))) 97 (.inl (ca 0, 8, .inl ((rT di se n0 n1 go).2.1)))) 98 (.inl (ca 2, 12, .inl ((rC di se n0 n1 go).1)))) 100 (.inl (ca 1, 9, .inr (.inl spaX)))) 99 (.inl (ca 1, 9, .inr (.inl staX)))) 101 (.inl (ca 1, 3, .inr (.inl sfX)))) 102 (.inl (ca 0, 36, .inl plX))) 103 (.inl (ca 0, 8, .inl ((rC di se n0 n1 go).2.1)))) 104 (.inl (ca 0, 8, .inl ((rC di se n0 n1 go).2.2.1)))) := by
  refine gMi_ofK (by decide +kernel) (Nat.le_of_ble_eq_true rfl) (lv0 := [(0, .ref (ad 87)), (1, .int i), (2, .int w)]) rfl (fun pT eT sT mT aT below meth cT AT QT C RT => ?_)
  have C : gX pT sT mT aT meth cT AT D ca ss 3 RX12 cX12_place (some .int) := C
  refine gj_aload_n C 0 dX12_place_0 rfl 0 rfl ?_
  refine gj_callVv C mi_X12_find w_1069 87 (by decide) hc0 rfl (c_X12_find la dr go lo ma pa tu su di mn se vo so ro us sta spa sf pl su_ fa n0 n1 hc0 hc1 hc2 hc3 hc4 hc5 hc6 hc7 hc8 hc9 hc10 hc11 hc12 hc13 h0 h1 hn hn1 hz hd) mc_X12_find ⟨Nat.le_of_ble_eq_true rfl, Nat.le_of_ble_eq_true rfl⟩ (rest := []) rfl (Nat.le_of_ble_eq_true rfl) dX12_place_1 (fun u h => ?_)
  obtain ⟨spaX_1, staX_1, sfX_1, plX_1, hPLX_1, rfl⟩ := h
  refine gj_aload_n C 0 dX12_place_4 rfl 0 rfl ?_
  refine gj_iconst C (v := 0) (by decide) dX12_place_5 ?_
  refine gj_iload_n C 1 dX12_place_6 rfl 1 rfl ?_
  refine gj_callVi C mi_X12_isThere w_1002 87 (by decide) (up_nx (by decide) (up_nx (by decide) (up_nx (by decide) (up_nx (by decide) (up_nx (by decide) (up_nx (by decide) (up_nx (by decide) (up_nx (by decide) (up_nx (by decide) (up_nx (by decide) (va_up_self _ _ _))))))))))) rfl (c_X12_isThere (0 : Int32) i la dr go ((mVotes di se n0 n1 go).2.2) ((mVotes di se n0 n1 go).2.1) ((rT di se n0 n1 go).2.2.2) (rU di se n0 n1 go) ((rC di se n0 n1 go).2.2.2) mn (up_nx (by decide) (up_nx (by decide) (up_nx (by decide) (up_nx (by decide) (up_nx (by decide) (up_nx (by decide) (up_nx (by decide) (up_nx (by decide) (up_nx (by decide) (up_nx (by decide) (va_up_self _ _ _))))))))))) (up_nx (by decide) (up_nx (by decide) (up_nx (by decide) (up_nx (by decide) (up_nx (by decide) (up_nx (by decide) (up_nx (by decide) (up_nx (by decide) (up_nx (by decide) (up_nx (by decide) (up_nx (by decide) (hc2))))))))))))) mc_X12_isThere ⟨Nat.le_of_ble_eq_true rfl, Nat.le_of_ble_eq_true rfl⟩ (rest := []) rfl (Nat.le_of_ble_eq_true rfl) dX12_place_7 (fun r u h => ?_)
  obtain ⟨hr_, hu_⟩ := h; rw [hr_]; subst hu_
  refine gj_if_eq C 34 dX12_place_10 (by decide) (fun c_2 => ?_) (fun c_2 => ?_)
  · refine gj_ldc C (v := (-2147483648)) w_970 dX12_place_34 ?_
    exact RT _ _ _ _ ⟨_, _, _, _, hPLX_1, by unfold s_X12_place; rw [if_pos c_2], rfl⟩ dX12_place_36
  · refine gj_iload_n C 2 dX12_place_13 rfl 2 rfl ?_
    refine gj_i2l C dX12_place_14 ?_
    refine gj_lconst C (v := 0) rfl dX12_place_15 ?_
    refine gj_ldc2 C (v := 2) w_946 dX12_place_16 ?_
    refine gj_callSi C w_944 w_943 (c_X12_in w.toInt64 (0 : Int64) (2 : Int64)) mc_X12_in ⟨Nat.le_of_ble_eq_true rfl, Nat.le_of_ble_eq_true rfl⟩ (rest := []) rfl (Nat.le_of_ble_eq_true rfl) dX12_place_19 (fun r u h => ?_)
    obtain ⟨hr_, hu_⟩ := h; rw [hr_]; subst hu_
    refine gj_if_eq C 34 dX12_place_22 (by decide) (fun c_3 => ?_) (fun c_3 => ?_)
    · refine gj_ldc C (v := (-2147483648)) w_970 dX12_place_34 ?_
      exact RT _ _ _ _ ⟨_, _, _, _, hPLX_1, by unfold s_X12_place; rw [if_neg c_2, if_pos c_3], rfl⟩ dX12_place_36
    · refine gj_aload_n C 0 dX12_place_25 rfl 0 rfl ?_
      refine gj_iload_n C 1 dX12_place_26 rfl 1 rfl ?_
      refine gj_iload_n C 2 dX12_place_27 rfl 2 rfl ?_
      refine gj_callVi C mi_X12_placeBy w_1160 87 (by decide) (up_nx (by decide) (up_nx (by decide) (up_nx (by decide) (up_nx (by decide) (up_nx (by decide) (up_nx (by decide) (up_nx (by decide) (up_nx (by decide) (up_nx (by decide) (up_nx (by decide) (va_up_self _ _ _))))))))))) rfl (c_X12_placeBy i w la dr go ((mVotes di se n0 n1 go).2.2) ((mVotes di se n0 n1 go).2.1) ((rT di se n0 n1 go).2.2.2) (rU di se n0 n1 go) ((rC di se n0 n1 go).2.2.2) plX_1 (up_nx (by decide) (up_nx (by decide) (up_nx (by decide) (up_nx (by decide) (up_nx (by decide) (up_nx (by decide) (up_nx (by decide) (up_nx (by decide) (up_nx (by decide) (up_nx (by decide) (va_up_self _ _ _))))))))))) (up_nx (by decide) (up_nx (by decide) (va_up_self _ _ _))) (fun _ => pl_v h0 hn c_2 c_3)) mc_X12_placeBy ⟨Nat.le_of_ble_eq_true rfl, Nat.le_of_ble_eq_true rfl⟩ (rest := []) rfl (Nat.le_of_ble_eq_true rfl) dX12_place_28 (fun r u h => ?_)
      obtain ⟨hr_, hu_⟩ := h; rw [hr_]; subst hu_
      refine gj_seti (y := s_X12_placeBy i w (rU di se n0 n1 go) (rP di se n0 n1 go)) (pl_k hPLX_1 h0 hn c_2 c_3) ?_
      refine gj_goto C 36 dX12_place_31 (by decide) ?_
      exact RT _ _ _ _ ⟨_, _, _, _, hPLX_1, by unfold s_X12_place; rw [if_neg c_2, if_neg c_3], rfl⟩ dX12_place_36
